theorem dX8_pass_35 : decode cX8_pass 35 = .ok (.iconst 0, 1) := by decide +kernel
theorem dX8_pass_36 : decode cX8_pass 36 = .ok (.istore_n 2, 1) := by decide +kernel
theorem dX8_pass_37 : decode cX8_pass 37 = .ok (.iload_n 2, 1) := by decide +kernel
theorem dX8_pass_38 : decode cX8_pass 38 = .ok (.iload_n 1, 1) := by decide +kernel
theorem dX8_pass_39 : decode cX8_pass 39 = .ok (.if_icmp .ge 14, 3) := by decide +kernel
theorem dX8_pass_42 : decode cX8_pass 42 = .ok (.aload_n 0, 1) := by decide +kernel
theorem dX8_pass_43 : decode cX8_pass 43 = .ok (.iconst 0, 1) := by decide +kernel
theorem dX8_pass_44 : decode cX8_pass 44 = .ok (.invokevirtual 233, 3) := by decide +kernel
theorem dX8_pass_47 : decode cX8_pass 47 = .ok (.iinc 2 1, 3) := by decide +kernel
theorem dX8_pass_50 : decode cX8_pass 50 = .ok (.goto (-13), 3) := by decide +kernel
theorem dX8_pass_53 : decode cX8_pass 53 = .ok (.aload_n 0, 1) := by decide +kernel
theorem dX8_pass_54 : decode cX8_pass 54 = .ok (.getfield 46, 3) := by decide +kernel
theorem dX8_pass_57 : decode cX8_pass 57 = .ok (.iconst 3, 1) := by decide +kernel
theorem dX8_pass_58 : decode cX8_pass 58 = .ok (.iaload, 1) := by decide +kernel
theorem dX8_pass_59 : decode cX8_pass 59 = .ok (.ireturn, 1) := by decide +kernel
set_option maxRecDepth 20000 in
theorem ggX8_lowest_X8_place : GoodIn wsX8_lowest wsX8_place := goodIn_r _ [9, 4, 10, 11, 12, 8, 13, 14, 15, 16, 17, 18, 19, 20, 21, 25, 26, 27, 28, 29, 30, 31, 32, 33, 34, 35, 36, 37, 38, 39, 40, 41, 42, 43, 44, 45, 46, 47, 48, 49, 50, 51, 52, 53, 54, 55, 56, 57, 58, 59, 60] (by decide +kernel) (by decide +kernel)
set_option maxRecDepth 20000 in
theorem gX8_lowest_X8_place : GoodIn wsX8_lowest (wsV RX8 199 RX8 yX8_place wsX8_place) := goodIn_app (goodIn_of _ (by decide +kernel)) ggX8_lowest_X8_place
set_option maxRecDepth 20000 in
theorem ggX8_lowest_X8_has : GoodIn wsX8_lowest wsX8_has := goodIn_r _ [24] (by decide +kernel) (by decide +kernel)
set_option maxRecDepth 20000 in
theorem gX8_lowest_X8_has : GoodIn wsX8_lowest (va_wsS RX8 228 yX8_has wsX8_has) := goodIn_app (goodIn_of _ (by decide +kernel)) ggX8_lowest_X8_has
theorem dX8_lowest_0 : decode cX8_lowest 0 = .ok (.iload_n 2, 1) := by decide +kernel
theorem dX8_lowest_1 : decode cX8_lowest 1 = .ok (.ifCond .ne 10, 3) := by decide +kernel
theorem dX8_lowest_4 : decode cX8_lowest 4 = .ok (.aload_n 0, 1) := by decide +kernel
theorem dX8_lowest_5 : decode cX8_lowest 5 = .ok (.getfield 98, 3) := by decide +kernel
theorem dX8_lowest_8 : decode cX8_lowest 8 = .ok (.goto 11, 3) := by decide +kernel
theorem dX8_lowest_11 : decode cX8_lowest 11 = .ok (.aload_n 0, 1) := by decide +kernel
theorem dX8_lowest_12 : decode cX8_lowest 12 = .ok (.getfield 7, 3) := by decide +kernel
theorem dX8_lowest_15 : decode cX8_lowest 15 = .ok (.iload_n 2, 1) := by decide +kernel
theorem dX8_lowest_16 : decode cX8_lowest 16 = .ok (.iconst 1, 1) := by decide +kernel
theorem dX8_lowest_17 : decode cX8_lowest 17 = .ok (.isub, 1) := by decide +kernel
theorem dX8_lowest_18 : decode cX8_lowest 18 = .ok (.iaload, 1) := by decide +kernel
theorem dX8_lowest_19 : decode cX8_lowest 19 = .ok (.istore 4, 2) := by decide +kernel
theorem dX8_lowest_21 : decode cX8_lowest 21 = .ok (.iconst 0, 1) := by decide +kernel
theorem dX8_lowest_22 : decode cX8_lowest 22 = .ok (.istore 5, 2) := by decide +kernel
theorem dX8_lowest_24 : decode cX8_lowest 24 = .ok (.iload 5, 2) := by decide +kernel
theorem dX8_lowest_26 : decode cX8_lowest 26 = .ok (.iload 4, 2) := by decide +kernel
theorem dX8_lowest_28 : decode cX8_lowest 28 = .ok (.if_icmp .ge 68, 3) := by decide +kernel
theorem dX8_lowest_31 : decode cX8_lowest 31 = .ok (.iload_n 2, 1) := by decide +kernel
theorem dX8_lowest_32 : decode cX8_lowest 32 = .ok (.ifCond .ne 13, 3) := by decide +kernel
theorem dX8_lowest_35 : decode cX8_lowest 35 = .ok (.aload_n 0, 1) := by decide +kernel
theorem dX8_lowest_36 : decode cX8_lowest 36 = .ok (.iload_n 1, 1) := by decide +kernel
theorem dX8_lowest_37 : decode cX8_lowest 37 = .ok (.iload 5, 2) := by decide +kernel
theorem dX8_lowest_39 : decode cX8_lowest 39 = .ok (.invokevirtual 199, 3) := by decide +kernel
theorem dX8_lowest_42 : decode cX8_lowest 42 = .ok (.goto 18, 3) := by decide +kernel
theorem dX8_lowest_45 : decode cX8_lowest 45 = .ok (.aload_n 0, 1) := by decide +kernel
theorem dX8_lowest_46 : decode cX8_lowest 46 = .ok (.getfield 13, 3) := by decide +kernel
theorem dX8_lowest_49 : decode cX8_lowest 49 = .ok (.bipush 6, 2) := by decide +kernel
theorem dX8_lowest_51 : decode cX8_lowest 51 = .ok (.iload_n 2, 1) := by decide +kernel
theorem dX8_lowest_52 : decode cX8_lowest 52 = .ok (.imul, 1) := by decide +kernel
theorem dX8_lowest_53 : decode cX8_lowest 53 = .ok (.bipush 6, 2) := by decide +kernel
theorem dX8_lowest_55 : decode cX8_lowest 55 = .ok (.isub, 1) := by decide +kernel
theorem dX8_lowest_56 : decode cX8_lowest 56 = .ok (.iload 5, 2) := by decide +kernel
theorem dX8_lowest_58 : decode cX8_lowest 58 = .ok (.iadd, 1) := by decide +kernel
theorem dX8_lowest_59 : decode cX8_lowest 59 = .ok (.iaload, 1) := by decide +kernel
theorem dX8_lowest_60 : decode cX8_lowest 60 = .ok (.istore 6, 2) := by decide +kernel
theorem dX8_lowest_62 : decode cX8_lowest 62 = .ok (.iload 6, 2) := by decide +kernel
theorem dX8_lowest_64 : decode cX8_lowest 64 = .ok (.iload_n 3, 1) := by decide +kernel
theorem dX8_lowest_65 : decode cX8_lowest 65 = .ok (.if_icmp .ne 25, 3) := by decide +kernel
theorem dX8_lowest_68 : decode cX8_lowest 68 = .ok (.aload_n 0, 1) := by decide +kernel
theorem dX8_lowest_69 : decode cX8_lowest 69 = .ok (.getfield 46, 3) := by decide +kernel
theorem dX8_lowest_72 : decode cX8_lowest 72 = .ok (.iload_n 1, 1) := by decide +kernel
theorem dX8_lowest_73 : decode cX8_lowest 73 = .ok (.bipush 23, 2) := by decide +kernel
theorem dX8_lowest_75 : decode cX8_lowest 75 = .ok (.iadd, 1) := by decide +kernel
theorem dX8_lowest_76 : decode cX8_lowest 76 = .ok (.iload_n 2, 1) := by decide +kernel
theorem dX8_lowest_77 : decode cX8_lowest 77 = .ok (.iadd, 1) := by decide +kernel
theorem dX8_lowest_78 : decode cX8_lowest 78 = .ok (.iaload, 1) := by decide +kernel
theorem dX8_lowest_79 : decode cX8_lowest 79 = .ok (.iload 5, 2) := by decide +kernel
theorem dX8_lowest_81 : decode cX8_lowest 81 = .ok (.invokestatic 228, 3) := by decide +kernel
theorem dX8_lowest_84 : decode cX8_lowest 84 = .ok (.ifCond .ne 6, 3) := by decide +kernel
theorem dX8_lowest_87 : decode cX8_lowest 87 = .ok (.iload 5, 2) := by decide +kernel
theorem dX8_lowest_89 : decode cX8_lowest 89 = .ok (.ireturn, 1) := by decide +kernel
theorem dX8_lowest_90 : decode cX8_lowest 90 = .ok (.iinc 5 1, 3) := by decide +kernel
theorem dX8_lowest_93 : decode cX8_lowest 93 = .ok (.goto (-69), 3) := by decide +kernel
theorem dX8_lowest_96 : decode cX8_lowest 96 = .ok (.bipush (-4), 2) := by decide +kernel
theorem dX8_lowest_98 : decode cX8_lowest 98 = .ok (.ireturn, 1) := by decide +kernel
set_option maxRecDepth 20000 in
theorem ggX8_weds_X8_lowest : GoodIn wsX8_weds wsX8_lowest := goodIn_r _ [6, 7, 8, 9, 1, 10, 11, 12, 5, 13, 14, 15, 16, 17, 18, 19, 20, 21, 22, 23, 24, 25, 26, 27, 28, 29, 30, 31, 32, 33, 34, 35, 36, 37, 38, 39, 40, 41, 42, 43, 44, 45, 46, 47, 48, 49, 50, 51, 52, 53, 54, 55, 56, 57, 58, 59, 60, 61, 62, 63, 64] (by decide +kernel) (by decide +kernel)
set_option maxRecDepth 20000 in
theorem gX8_weds_X8_lowest : GoodIn wsX8_weds (wsV RX8 236 RX8 yX8_lowest wsX8_lowest) := goodIn_app (goodIn_of _ (by decide +kernel)) ggX8_weds_X8_lowest
theorem dX8_weds_0 : decode cX8_weds 0 = .ok (.aload_n 0, 1) := by decide +kernel
theorem dX8_weds_1 : decode cX8_weds 1 = .ok (.iload_n 1, 1) := by decide +kernel
theorem dX8_weds_2 : decode cX8_weds 2 = .ok (.iconst 0, 1) := by decide +kernel
theorem dX8_weds_3 : decode cX8_weds 3 = .ok (.iload_n 2, 1) := by decide +kernel
theorem dX8_weds_4 : decode cX8_weds 4 = .ok (.invokevirtual 236, 3) := by decide +kernel
theorem dX8_weds_7 : decode cX8_weds 7 = .ok (.istore_n 3, 1) := by decide +kernel
theorem dX8_weds_8 : decode cX8_weds 8 = .ok (.aload_n 0, 1) := by decide +kernel
theorem dX8_weds_9 : decode cX8_weds 9 = .ok (.iload_n 1, 1) := by decide +kernel
theorem dX8_weds_10 : decode cX8_weds 10 = .ok (.iconst 1, 1) := by decide +kernel
theorem dX8_weds_11 : decode cX8_weds 11 = .ok (.iload_n 2, 1) := by decide +kernel
theorem dX8_weds_12 : decode cX8_weds 12 = .ok (.invokevirtual 236, 3) := by decide +kernel
theorem dX8_weds_15 : decode cX8_weds 15 = .ok (.istore 4, 2) := by decide +kernel
theorem dX8_weds_17 : decode cX8_weds 17 = .ok (.aload_n 0, 1) := by decide +kernel
theorem dX8_weds_18 : decode cX8_weds 18 = .ok (.iload_n 1, 1) := by decide +kernel
theorem dX8_weds_19 : decode cX8_weds 19 = .ok (.iconst 2, 1) := by decide +kernel
theorem dX8_weds_20 : decode cX8_weds 20 = .ok (.iload_n 2, 1) := by decide +kernel
theorem dX8_weds_21 : decode cX8_weds 21 = .ok (.invokevirtual 236, 3) := by decide +kernel
theorem dX8_weds_24 : decode cX8_weds 24 = .ok (.istore 5, 2) := by decide +kernel
theorem dX8_weds_26 : decode cX8_weds 26 = .ok (.iload 4, 2) := by decide +kernel
theorem dX8_weds_28 : decode cX8_weds 28 = .ok (.ifCond .lt 11, 3) := by decide +kernel
theorem dX8_weds_31 : decode cX8_weds 31 = .ok (.iload_n 3, 1) := by decide +kernel
theorem dX8_weds_32 : decode cX8_weds 32 = .ok (.ifCond .lt 7, 3) := by decide +kernel
theorem dX8_weds_35 : decode cX8_weds 35 = .ok (.iconst 1, 1) := by decide +kernel
theorem dX8_weds_36 : decode cX8_weds 36 = .ok (.goto 4, 3) := by decide +kernel
theorem dX8_weds_39 : decode cX8_weds 39 = .ok (.iconst 0, 1) := by decide +kernel
theorem dX8_weds_40 : decode cX8_weds 40 = .ok (.istore 6, 2) := by decide +kernel
theorem dX8_weds_42 : decode cX8_weds 42 = .ok (.iload 6, 2) := by decide +kernel
theorem dX8_weds_44 : decode cX8_weds 44 = .ok (.ifCond .ne 16, 3) := by decide +kernel
theorem dX8_weds_47 : decode cX8_weds 47 = .ok (.iload_n 3, 1) := by decide +kernel
theorem dX8_weds_48 : decode cX8_weds 48 = .ok (.ifCond .lt 12, 3) := by decide +kernel
theorem dX8_weds_51 : decode cX8_weds 51 = .ok (.iload 5, 2) := by decide +kernel
theorem dX8_weds_53 : decode cX8_weds 53 = .ok (.ifCond .lt 7, 3) := by decide +kernel
theorem dX8_weds_56 : decode cX8_weds 56 = .ok (.iconst 1, 1) := by decide +kernel
theorem dX8_weds_57 : decode cX8_weds 57 = .ok (.goto 4, 3) := by decide +kernel
theorem dX8_weds_60 : decode cX8_weds 60 = .ok (.iconst 0, 1) := by decide +kernel
theorem dX8_weds_61 : decode cX8_weds 61 = .ok (.istore 7, 2) := by decide +kernel
theorem dX8_weds_63 : decode cX8_weds 63 = .ok (.iload 6, 2) := by decide +kernel
theorem dX8_weds_65 : decode cX8_weds 65 = .ok (.ifCond .ne 22, 3) := by decide +kernel
theorem dX8_weds_68 : decode cX8_weds 68 = .ok (.iload 7, 2) := by decide +kernel
theorem dX8_weds_70 : decode cX8_weds 70 = .ok (.ifCond .ne 17, 3) := by decide +kernel
theorem dX8_weds_73 : decode cX8_weds 73 = .ok (.iload 4, 2) := by decide +kernel
theorem dX8_weds_75 : decode cX8_weds 75 = .ok (.ifCond .lt 12, 3) := by decide +kernel
theorem dX8_weds_78 : decode cX8_weds 78 = .ok (.iload 5, 2) := by decide +kernel
theorem dX8_weds_80 : decode cX8_weds 80 = .ok (.ifCond .lt 7, 3) := by decide +kernel
theorem dX8_weds_83 : decode cX8_weds 83 = .ok (.iconst 1, 1) := by decide +kernel
theorem dX8_weds_84 : decode cX8_weds 84 = .ok (.goto 4, 3) := by decide +kernel
theorem dX8_weds_87 : decode cX8_weds 87 = .ok (.iconst 0, 1) := by decide +kernel
theorem dX8_weds_88 : decode cX8_weds 88 = .ok (.istore 8, 2) := by decide +kernel
theorem dX8_weds_90 : decode cX8_weds 90 = .ok (.aload_n 0, 1) := by decide +kernel
theorem dX8_weds_91 : decode cX8_weds 91 = .ok (.getfield 46, 3) := by decide +kernel
theorem dX8_weds_94 : decode cX8_weds 94 = .ok (.iload_n 1, 1) := by decide +kernel
theorem dX8_weds_95 : decode cX8_weds 95 = .ok (.bipush 23, 2) := by decide +kernel
theorem dX8_weds_97 : decode cX8_weds 97 = .ok (.iadd, 1) := by decide +kernel
theorem dX8_weds_98 : decode cX8_weds 98 = .ok (.dup2, 1) := by decide +kernel
theorem dX8_weds_99 : decode cX8_weds 99 = .ok (.iaload, 1) := by decide +kernel
theorem dX8_weds_100 : decode cX8_weds 100 = .ok (.iload 6, 2) := by decide +kernel
theorem dX8_weds_102 : decode cX8_weds 102 = .ok (.ifCond .ne 8, 3) := by decide +kernel
theorem dX8_weds_105 : decode cX8_weds 105 = .ok (.iload 7, 2) := by decide +kernel
theorem dX8_weds_107 : decode cX8_weds 107 = .ok (.ifCond .eq 9, 3) := by decide +kernel
theorem dX8_weds_110 : decode cX8_weds 110 = .ok (.iconst 1, 1) := by decide +kernel
theorem dX8_weds_111 : decode cX8_weds 111 = .ok (.iload_n 3, 1) := by decide +kernel
theorem dX8_weds_112 : decode cX8_weds 112 = .ok (.ishl, 1) := by decide +kernel
theorem dX8_weds_113 : decode cX8_weds 113 = .ok (.goto 4, 3) := by decide +kernel
theorem dX8_weds_116 : decode cX8_weds 116 = .ok (.iconst 0, 1) := by decide +kernel
theorem dX8_weds_117 : decode cX8_weds 117 = .ok (.ior, 1) := by decide +kernel
theorem dX8_weds_118 : decode cX8_weds 118 = .ok (.iastore, 1) := by decide +kernel
theorem dX8_weds_119 : decode cX8_weds 119 = .ok (.aload_n 0, 1) := by decide +kernel
theorem dX8_weds_120 : decode cX8_weds 120 = .ok (.getfield 46, 3) := by decide +kernel
theorem dX8_weds_123 : decode cX8_weds 123 = .ok (.iload_n 1, 1) := by decide +kernel
theorem dX8_weds_124 : decode cX8_weds 124 = .ok (.bipush 23, 2) := by decide +kernel
theorem dX8_weds_126 : decode cX8_weds 126 = .ok (.iadd, 1) := by decide +kernel
theorem dX8_weds_127 : decode cX8_weds 127 = .ok (.iconst 1, 1) := by decide +kernel
theorem dX8_weds_128 : decode cX8_weds 128 = .ok (.iadd, 1) := by decide +kernel
theorem dX8_weds_129 : decode cX8_weds 129 = .ok (.dup2, 1) := by decide +kernel
theorem dX8_weds_130 : decode cX8_weds 130 = .ok (.iaload, 1) := by decide +kernel
theorem dX8_weds_131 : decode cX8_weds 131 = .ok (.iload 6, 2) := by decide +kernel
theorem dX8_weds_133 : decode cX8_weds 133 = .ok (.ifCond .ne 8, 3) := by decide +kernel
theorem dX8_weds_136 : decode cX8_weds 136 = .ok (.iload 8, 2) := by decide +kernel
theorem dX8_weds_138 : decode cX8_weds 138 = .ok (.ifCond .eq 10, 3) := by decide +kernel
theorem dX8_weds_141 : decode cX8_weds 141 = .ok (.iconst 1, 1) := by decide +kernel
theorem dX8_weds_142 : decode cX8_weds 142 = .ok (.iload 4, 2) := by decide +kernel
theorem dX8_weds_144 : decode cX8_weds 144 = .ok (.ishl, 1) := by decide +kernel
theorem dX8_weds_145 : decode cX8_weds 145 = .ok (.goto 4, 3) := by decide +kernel
theorem dX8_weds_148 : decode cX8_weds 148 = .ok (.iconst 0, 1) := by decide +kernel
theorem dX8_weds_149 : decode cX8_weds 149 = .ok (.ior, 1) := by decide +kernel
theorem dX8_weds_150 : decode cX8_weds 150 = .ok (.iastore, 1) := by decide +kernel
theorem dX8_weds_151 : decode cX8_weds 151 = .ok (.aload_n 0, 1) := by decide +kernel
theorem dX8_weds_152 : decode cX8_weds 152 = .ok (.getfield 46, 3) := by decide +kernel
theorem dX8_weds_155 : decode cX8_weds 155 = .ok (.iload_n 1, 1) := by decide +kernel
theorem dX8_weds_156 : decode cX8_weds 156 = .ok (.bipush 23, 2) := by decide +kernel
theorem dX8_weds_158 : decode cX8_weds 158 = .ok (.iadd, 1) := by decide +kernel
theorem dX8_weds_159 : decode cX8_weds 159 = .ok (.iconst 2, 1) := by decide +kernel
theorem dX8_weds_160 : decode cX8_weds 160 = .ok (.iadd, 1) := by decide +kernel
theorem dX8_weds_161 : decode cX8_weds 161 = .ok (.dup2, 1) := by decide +kernel
theorem dX8_weds_162 : decode cX8_weds 162 = .ok (.iaload, 1) := by decide +kernel
theorem dX8_weds_163 : decode cX8_weds 163 = .ok (.iload 7, 2) := by decide +kernel
theorem dX8_weds_165 : decode cX8_weds 165 = .ok (.ifCond .ne 8, 3) := by decide +kernel
theorem dX8_weds_168 : decode cX8_weds 168 = .ok (.iload 8, 2) := by decide +kernel
theorem dX8_weds_170 : decode cX8_weds 170 = .ok (.ifCond .eq 10, 3) := by decide +kernel
theorem dX8_weds_173 : decode cX8_weds 173 = .ok (.iconst 1, 1) := by decide +kernel
theorem dX8_weds_174 : decode cX8_weds 174 = .ok (.iload 5, 2) := by decide +kernel
theorem dX8_weds_176 : decode cX8_weds 176 = .ok (.ishl, 1) := by decide +kernel
theorem dX8_weds_177 : decode cX8_weds 177 = .ok (.goto 4, 3) := by decide +kernel
theorem dX8_weds_180 : decode cX8_weds 180 = .ok (.iconst 0, 1) := by decide +kernel
theorem dX8_weds_181 : decode cX8_weds 181 = .ok (.ior, 1) := by decide +kernel
theorem dX8_weds_182 : decode cX8_weds 182 = .ok (.iastore, 1) := by decide +kernel
theorem dX8_weds_183 : decode cX8_weds 183 = .ok (.iload 6, 2) := by decide +kernel
theorem dX8_weds_185 : decode cX8_weds 185 = .ok (.ifCond .ne 13, 3) := by decide +kernel
theorem dX8_weds_188 : decode cX8_weds 188 = .ok (.iload 7, 2) := by decide +kernel
theorem dX8_weds_190 : decode cX8_weds 190 = .ok (.ifCond .ne 8, 3) := by decide +kernel
theorem dX8_weds_193 : decode cX8_weds 193 = .ok (.iload 8, 2) := by decide +kernel
theorem dX8_weds_195 : decode cX8_weds 195 = .ok (.ifCond .eq 7, 3) := by decide +kernel
theorem dX8_weds_198 : decode cX8_weds 198 = .ok (.iconst 1, 1) := by decide +kernel
theorem dX8_weds_199 : decode cX8_weds 199 = .ok (.goto 4, 3) := by decide +kernel
theorem dX8_weds_202 : decode cX8_weds 202 = .ok (.iconst 0, 1) := by decide +kernel
theorem dX8_weds_203 : decode cX8_weds 203 = .ok (.ireturn, 1) := by decide +kernel
set_option maxRecDepth 20000 in
theorem ggX8_wed_X8_bits : GoodIn wsX8_wed wsX8_bits := goodIn_r _ [5] (by decide +kernel) (by decide +kernel)
set_option maxRecDepth 20000 in
theorem gX8_wed_X8_bits : GoodIn wsX8_wed (va_wsS RX8 239 yX8_bits wsX8_bits) := goodIn_app (goodIn_of _ (by decide +kernel)) ggX8_wed_X8_bits
theorem dX8_wed_0 : decode cX8_wed 0 = .ok (.aload_n 0, 1) := by decide +kernel
theorem dX8_wed_1 : decode cX8_wed 1 = .ok (.getfield 46, 3) := by decide +kernel
theorem dX8_wed_4 : decode cX8_wed 4 = .ok (.iload_n 1, 1) := by decide +kernel
theorem dX8_wed_5 : decode cX8_wed 5 = .ok (.bipush 23, 2) := by decide +kernel
theorem dX8_wed_7 : decode cX8_wed 7 = .ok (.iadd, 1) := by decide +kernel
theorem dX8_wed_8 : decode cX8_wed 8 = .ok (.iaload, 1) := by decide +kernel
theorem dX8_wed_9 : decode cX8_wed 9 = .ok (.invokestatic 239, 3) := by decide +kernel
theorem dX8_wed_12 : decode cX8_wed 12 = .ok (.aload_n 0, 1) := by decide +kernel
theorem dX8_wed_13 : decode cX8_wed 13 = .ok (.getfield 46, 3) := by decide +kernel
theorem dX8_wed_16 : decode cX8_wed 16 = .ok (.iload_n 1, 1) := by decide +kernel
theorem dX8_wed_17 : decode cX8_wed 17 = .ok (.bipush 23, 2) := by decide +kernel
theorem dX8_wed_19 : decode cX8_wed 19 = .ok (.iadd, 1) := by decide +kernel
theorem dX8_wed_20 : decode cX8_wed 20 = .ok (.iconst 1, 1) := by decide +kernel
theorem dX8_wed_21 : decode cX8_wed 21 = .ok (.iadd, 1) := by decide +kernel
theorem dX8_wed_22 : decode cX8_wed 22 = .ok (.iaload, 1) := by decide +kernel
theorem dX8_wed_23 : decode cX8_wed 23 = .ok (.invokestatic 239, 3) := by decide +kernel
theorem dX8_wed_26 : decode cX8_wed 26 = .ok (.iadd, 1) := by decide +kernel
theorem dX8_wed_27 : decode cX8_wed 27 = .ok (.aload_n 0, 1) := by decide +kernel
theorem dX8_wed_28 : decode cX8_wed 28 = .ok (.getfield 46, 3) := by decide +kernel
theorem dX8_wed_31 : decode cX8_wed 31 = .ok (.iload_n 1, 1) := by decide +kernel
theorem dX8_wed_32 : decode cX8_wed 32 = .ok (.bipush 23, 2) := by decide +kernel
theorem dX8_wed_34 : decode cX8_wed 34 = .ok (.iadd, 1) := by decide +kernel
theorem dX8_wed_35 : decode cX8_wed 35 = .ok (.iconst 2, 1) := by decide +kernel
theorem dX8_wed_36 : decode cX8_wed 36 = .ok (.iadd, 1) := by decide +kernel
theorem dX8_wed_37 : decode cX8_wed 37 = .ok (.iaload, 1) := by decide +kernel
theorem dX8_wed_38 : decode cX8_wed 38 = .ok (.invokestatic 239, 3) := by decide +kernel
theorem dX8_wed_41 : decode cX8_wed 41 = .ok (.iadd, 1) := by decide +kernel
theorem dX8_wed_42 : decode cX8_wed 42 = .ok (.ireturn, 1) := by decide +kernel
set_option maxRecDepth 20000 in
theorem ggX8_line_X8_in : GoodIn wsX8_line wsX8_in := goodIn_r _ [6] (by decide +kernel) (by decide +kernel)
set_option maxRecDepth 20000 in
theorem gX8_line_X8_in : GoodIn wsX8_line (va_wsS RX8 110 yX8_in wsX8_in) := goodIn_app (goodIn_of _ (by decide +kernel)) ggX8_line_X8_in
set_option maxRecDepth 20000 in
theorem ggX8_line_X8_copies : GoodIn wsX8_line wsX8_copies := goodIn_r _ [10, 11, 54, 55, 56, 57, 58, 59, 60, 61, 62, 63, 64, 65, 66, 67, 68, 69, 70, 71, 72, 73, 74, 75, 76, 77, 78, 79, 80, 81, 82, 83, 84, 85, 86, 87, 88, 89] (by decide +kernel) (by decide +kernel)
set_option maxRecDepth 20000 in
theorem gX8_line_X8_copies : GoodIn wsX8_line (wsV RX8 107 RX8 yX8_copies wsX8_copies) := goodIn_app (goodIn_of _ (by decide +kernel)) ggX8_line_X8_copies
set_option maxRecDepth 20000 in
theorem ggX8_line_X8_weds : GoodIn wsX8_line wsX8_weds := goodIn_r _ [15, 11, 16, 17, 18, 5, 19, 20, 21, 22, 23, 24, 25, 26, 27, 28, 29, 30, 31, 32, 33, 34, 35, 36, 37, 38, 39, 40, 41, 54, 55, 56, 57, 58, 59, 60, 61, 62, 63, 64, 65, 66, 67, 68, 69, 70, 71, 72, 73, 74, 75, 76, 77, 78, 79, 80, 81, 82, 83, 84, 85, 86, 87, 88, 89] (by decide +kernel) (by decide +kernel)
set_option maxRecDepth 20000 in
theorem gX8_line_X8_weds : GoodIn wsX8_line (wsV RX8 244 RX8 yX8_weds wsX8_weds) := goodIn_app (goodIn_of _ (by decide +kernel)) ggX8_line_X8_weds
set_option maxRecDepth 20000 in
theorem ggX8_line_X8_known : GoodIn wsX8_line wsX8_known := goodIn_r _ [45, 46, 11, 7, 8, 9, 5, 10, 54, 55, 56, 57, 58, 59, 60, 61, 62, 63, 64, 65, 66, 67, 68, 69, 70, 71, 72, 73, 74, 75, 76, 77, 78, 79, 80, 81, 82, 83, 84, 85, 86, 87, 88, 89] (by decide +kernel) (by decide +kernel)
set_option maxRecDepth 20000 in
theorem gX8_line_X8_known : GoodIn wsX8_line (wsV RX8 220 RX8 yX8_known wsX8_known) := goodIn_app (goodIn_of _ (by decide +kernel)) ggX8_line_X8_known
set_option maxRecDepth 20000 in
theorem ggX8_line_X8_wed : GoodIn wsX8_line wsX8_wed := goodIn_r _ [50, 11, 51, 52, 5, 53, 54, 55, 56, 57, 58, 59, 60, 61, 62, 63, 64, 65, 66, 67, 68, 69, 70, 71, 72, 73, 74, 75, 76, 77, 78, 79, 80, 81, 82, 83, 84, 85, 86, 87, 88, 89] (by decide +kernel) (by decide +kernel)
set_option maxRecDepth 20000 in
theorem gX8_line_X8_wed : GoodIn wsX8_line (wsV RX8 247 RX8 yX8_wed wsX8_wed) := goodIn_app (goodIn_of _ (by decide +kernel)) ggX8_line_X8_wed
theorem dX8_line_0 : decode cX8_line 0 = .ok (.iload_n 1, 1) := by decide +kernel
theorem dX8_line_1 : decode cX8_line 1 = .ok (.i2l, 1) := by decide +kernel
theorem dX8_line_2 : decode cX8_line 2 = .ok (.ldc2_w 242, 3) := by decide +kernel
theorem dX8_line_5 : decode cX8_line 5 = .ok (.ldc2_w 202, 3) := by decide +kernel
theorem dX8_line_8 : decode cX8_line 8 = .ok (.invokestatic 110, 3) := by decide +kernel
theorem dX8_line_11 : decode cX8_line 11 = .ok (.ifCond .ne 5, 3) := by decide +kernel
theorem dX8_line_14 : decode cX8_line 14 = .ok (.iconst (-1), 1) := by decide +kernel
theorem dX8_line_15 : decode cX8_line 15 = .ok (.ireturn, 1) := by decide +kernel
theorem dX8_line_16 : decode cX8_line 16 = .ok (.aload_n 0, 1) := by decide +kernel
theorem dX8_line_17 : decode cX8_line 17 = .ok (.iconst 0, 1) := by decide +kernel
theorem dX8_line_18 : decode cX8_line 18 = .ok (.sipush 286, 3) := by decide +kernel
theorem dX8_line_21 : decode cX8_line 21 = .ok (.invokevirtual 107, 3) := by decide +kernel
theorem dX8_line_24 : decode cX8_line 24 = .ok (.aload_n 0, 1) := by decide +kernel
theorem dX8_line_25 : decode cX8_line 25 = .ok (.sipush 286, 3) := by decide +kernel
theorem dX8_line_28 : decode cX8_line 28 = .ok (.iload_n 1, 1) := by decide +kernel
theorem dX8_line_29 : decode cX8_line 29 = .ok (.invokevirtual 244, 3) := by decide +kernel
theorem dX8_line_32 : decode cX8_line 32 = .ok (.ifCond .ne 6, 3) := by decide +kernel
theorem dX8_line_35 : decode cX8_line 35 = .ok (.bipush (-2), 2) := by decide +kernel
theorem dX8_line_37 : decode cX8_line 37 = .ok (.ireturn, 1) := by decide +kernel
theorem dX8_line_38 : decode cX8_line 38 = .ok (.aload_n 0, 1) := by decide +kernel
theorem dX8_line_39 : decode cX8_line 39 = .ok (.invokevirtual 220, 3) := by decide +kernel
theorem dX8_line_42 : decode cX8_line 42 = .ok (.aload_n 0, 1) := by decide +kernel
theorem dX8_line_43 : decode cX8_line 43 = .ok (.sipush 286, 3) := by decide +kernel
theorem dX8_line_46 : decode cX8_line 46 = .ok (.iconst 0, 1) := by decide +kernel
theorem dX8_line_47 : decode cX8_line 47 = .ok (.invokevirtual 107, 3) := by decide +kernel
theorem dX8_line_50 : decode cX8_line 50 = .ok (.aload_n 0, 1) := by decide +kernel
theorem dX8_line_51 : decode cX8_line 51 = .ok (.iconst 0, 1) := by decide +kernel
theorem dX8_line_52 : decode cX8_line 52 = .ok (.invokevirtual 247, 3) := by decide +kernel
theorem dX8_line_55 : decode cX8_line 55 = .ok (.ireturn, 1) := by decide +kernel
set_option maxRecDepth 20000 in
theorem ggX8_undo_X8_copies : GoodIn wsX8_undo wsX8_copies := goodIn_r _ [6, 7, 8, 9, 10, 11, 12, 13, 14, 15, 16, 17, 18, 19, 20, 21, 22, 23, 24, 25, 26, 27, 28, 29, 30, 31, 32, 33, 34, 35, 36, 37, 38, 39, 40, 41, 42, 43] (by decide +kernel) (by decide +kernel)
set_option maxRecDepth 20000 in
theorem gX8_undo_X8_copies : GoodIn wsX8_undo (wsV RX8 107 RX8 yX8_copies wsX8_copies) := goodIn_app (goodIn_of _ (by decide +kernel)) ggX8_undo_X8_copies
theorem dX8_undo_0 : decode cX8_undo 0 = .ok (.aload_n 0, 1) := by decide +kernel
theorem dX8_undo_1 : decode cX8_undo 1 = .ok (.getfield 160, 3) := by decide +kernel
theorem dX8_undo_4 : decode cX8_undo 4 = .ok (.ifCond .ne 6, 3) := by decide +kernel
theorem dX8_undo_7 : decode cX8_undo 7 = .ok (.bipush (-2), 2) := by decide +kernel
theorem dX8_undo_9 : decode cX8_undo 9 = .ok (.ireturn, 1) := by decide +kernel
theorem dX8_undo_10 : decode cX8_undo 10 = .ok (.aload_n 0, 1) := by decide +kernel
theorem dX8_undo_11 : decode cX8_undo 11 = .ok (.aload_n 0, 1) := by decide +kernel
theorem dX8_undo_12 : decode cX8_undo 12 = .ok (.getfield 160, 3) := by decide +kernel
theorem dX8_undo_15 : decode cX8_undo 15 = .ok (.bipush 26, 2) := by decide +kernel
theorem dX8_undo_17 : decode cX8_undo 17 = .ok (.imul, 1) := by decide +kernel
theorem dX8_undo_18 : decode cX8_undo 18 = .ok (.iconst 0, 1) := by decide +kernel
theorem dX8_undo_19 : decode cX8_undo 19 = .ok (.invokevirtual 107, 3) := by decide +kernel
theorem dX8_undo_22 : decode cX8_undo 22 = .ok (.aload_n 0, 1) := by decide +kernel
theorem dX8_undo_23 : decode cX8_undo 23 = .ok (.dup, 1) := by decide +kernel
theorem dX8_undo_24 : decode cX8_undo 24 = .ok (.getfield 160, 3) := by decide +kernel
theorem dX8_undo_27 : decode cX8_undo 27 = .ok (.iconst 1, 1) := by decide +kernel
theorem dX8_undo_28 : decode cX8_undo 28 = .ok (.isub, 1) := by decide +kernel
theorem dX8_undo_29 : decode cX8_undo 29 = .ok (.putfield 160, 3) := by decide +kernel
theorem dX8_undo_32 : decode cX8_undo 32 = .ok (.aload_n 0, 1) := by decide +kernel
theorem dX8_undo_33 : decode cX8_undo 33 = .ok (.getfield 160, 3) := by decide +kernel
theorem dX8_undo_36 : decode cX8_undo 36 = .ok (.ireturn, 1) := by decide +kernel
set_option maxRecDepth 20000 in
theorem ggX8_ask_X8_isStrip : GoodIn wsX8_ask wsX8_isStrip := goodIn_r _ [9, 10, 11, 12, 8, 13, 19, 20, 21, 22, 23, 24, 25, 26, 27, 28, 29, 30, 31, 32, 33, 34, 35, 36, 37, 38, 39, 40, 41, 42, 43, 44, 45, 46, 47, 48, 49, 50, 51, 52, 53, 54] (by decide +kernel) (by decide +kernel)
set_option maxRecDepth 20000 in
theorem gX8_ask_X8_isStrip : GoodIn wsX8_ask (wsV RX8 193 RX8 yX8_isStrip wsX8_isStrip) := goodIn_app (goodIn_of _ (by decide +kernel)) ggX8_ask_X8_isStrip
set_option maxRecDepth 20000 in
theorem ggX8_ask_X8_isOne : GoodIn wsX8_ask wsX8_isOne := goodIn_r _ [17, 18, 11, 12, 8, 13, 19, 20, 21, 22, 23, 24, 25, 26, 27, 28, 29, 30, 31, 32, 33, 34, 35, 36, 37, 38, 39, 40, 41, 42, 43, 44, 45, 46, 47, 48, 49, 50, 51, 52, 53, 54] (by decide +kernel) (by decide +kernel)
set_option maxRecDepth 20000 in
theorem gX8_ask_X8_isOne : GoodIn wsX8_ask (wsV RX8 188 RX8 yX8_isOne wsX8_isOne) := goodIn_app (goodIn_of _ (by decide +kernel)) ggX8_ask_X8_isOne
theorem dX8_ask_0 : decode cX8_ask 0 = .ok (.aload_n 0, 1) := by decide +kernel
theorem dX8_ask_1 : decode cX8_ask 1 = .ok (.iload_n 1, 1) := by decide +kernel
theorem dX8_ask_2 : decode cX8_ask 2 = .ok (.invokevirtual 193, 3) := by decide +kernel
theorem dX8_ask_5 : decode cX8_ask 5 = .ok (.ifCond .eq 12, 3) := by decide +kernel
theorem dX8_ask_8 : decode cX8_ask 8 = .ok (.aload_n 0, 1) := by decide +kernel
theorem dX8_ask_9 : decode cX8_ask 9 = .ok (.iload_n 2, 1) := by decide +kernel
theorem dX8_ask_10 : decode cX8_ask 10 = .ok (.iload_n 3, 1) := by decide +kernel
theorem dX8_ask_11 : decode cX8_ask 11 = .ok (.invokevirtual 188, 3) := by decide +kernel
theorem dX8_ask_14 : decode cX8_ask 14 = .ok (.ifCond .ne 5, 3) := by decide +kernel
theorem dX8_ask_17 : decode cX8_ask 17 = .ok (.iconst (-1), 1) := by decide +kernel
theorem dX8_ask_18 : decode cX8_ask 18 = .ok (.ireturn, 1) := by decide +kernel
theorem dX8_ask_19 : decode cX8_ask 19 = .ok (.aload_n 0, 1) := by decide +kernel
theorem dX8_ask_20 : decode cX8_ask 20 = .ok (.getfield 166, 3) := by decide +kernel
theorem dX8_ask_23 : decode cX8_ask 23 = .ok (.bipush 6, 2) := by decide +kernel
theorem dX8_ask_25 : decode cX8_ask 25 = .ok (.if_icmp .ne 6, 3) := by decide +kernel
theorem dX8_ask_28 : decode cX8_ask 28 = .ok (.bipush (-3), 2) := by decide +kernel
theorem dX8_ask_30 : decode cX8_ask 30 = .ok (.ireturn, 1) := by decide +kernel
theorem dX8_ask_31 : decode cX8_ask 31 = .ok (.aload_n 0, 1) := by decide +kernel
theorem dX8_ask_32 : decode cX8_ask 32 = .ok (.getfield 53, 3) := by decide +kernel
theorem dX8_ask_35 : decode cX8_ask 35 = .ok (.aload_n 0, 1) := by decide +kernel
theorem dX8_ask_36 : decode cX8_ask 36 = .ok (.getfield 166, 3) := by decide +kernel
theorem dX8_ask_39 : decode cX8_ask 39 = .ok (.iload_n 1, 1) := by decide +kernel
theorem dX8_ask_40 : decode cX8_ask 40 = .ok (.iastore, 1) := by decide +kernel
theorem dX8_ask_41 : decode cX8_ask 41 = .ok (.aload_n 0, 1) := by decide +kernel
theorem dX8_ask_42 : decode cX8_ask 42 = .ok (.getfield 56, 3) := by decide +kernel
theorem dX8_ask_45 : decode cX8_ask 45 = .ok (.aload_n 0, 1) := by decide +kernel
theorem dX8_ask_46 : decode cX8_ask 46 = .ok (.getfield 166, 3) := by decide +kernel
theorem dX8_ask_49 : decode cX8_ask 49 = .ok (.iload_n 2, 1) := by decide +kernel
theorem dX8_ask_50 : decode cX8_ask 50 = .ok (.iastore, 1) := by decide +kernel
theorem dX8_ask_51 : decode cX8_ask 51 = .ok (.aload_n 0, 1) := by decide +kernel
theorem dX8_ask_52 : decode cX8_ask 52 = .ok (.getfield 59, 3) := by decide +kernel
theorem dX8_ask_55 : decode cX8_ask 55 = .ok (.aload_n 0, 1) := by decide +kernel
theorem dX8_ask_56 : decode cX8_ask 56 = .ok (.getfield 166, 3) := by decide +kernel
theorem dX8_ask_59 : decode cX8_ask 59 = .ok (.iload_n 3, 1) := by decide +kernel
theorem dX8_ask_60 : decode cX8_ask 60 = .ok (.iastore, 1) := by decide +kernel
theorem dX8_ask_61 : decode cX8_ask 61 = .ok (.aload_n 0, 1) := by decide +kernel
theorem dX8_ask_62 : decode cX8_ask 62 = .ok (.dup, 1) := by decide +kernel
theorem dX8_ask_63 : decode cX8_ask 63 = .ok (.getfield 166, 3) := by decide +kernel
theorem dX8_ask_66 : decode cX8_ask 66 = .ok (.iconst 1, 1) := by decide +kernel
theorem dX8_ask_67 : decode cX8_ask 67 = .ok (.iadd, 1) := by decide +kernel
theorem dX8_ask_68 : decode cX8_ask 68 = .ok (.putfield 166, 3) := by decide +kernel
theorem dX8_ask_71 : decode cX8_ask 71 = .ok (.aload_n 0, 1) := by decide +kernel
theorem dX8_ask_72 : decode cX8_ask 72 = .ok (.getfield 166, 3) := by decide +kernel
theorem dX8_ask_75 : decode cX8_ask 75 = .ok (.ireturn, 1) := by decide +kernel
theorem dX8_forget_0 : decode cX8_forget 0 = .ok (.aload_n 0, 1) := by decide +kernel
theorem dX8_forget_1 : decode cX8_forget 1 = .ok (.getfield 166, 3) := by decide +kernel
theorem dX8_forget_4 : decode cX8_forget 4 = .ok (.istore_n 1, 1) := by decide +kernel
theorem dX8_forget_5 : decode cX8_forget 5 = .ok (.aload_n 0, 1) := by decide +kernel
theorem dX8_forget_6 : decode cX8_forget 6 = .ok (.iconst 0, 1) := by decide +kernel
theorem dX8_forget_7 : decode cX8_forget 7 = .ok (.putfield 166, 3) := by decide +kernel
theorem dX8_forget_10 : decode cX8_forget 10 = .ok (.iload_n 1, 1) := by decide +kernel
theorem dX8_forget_11 : decode cX8_forget 11 = .ok (.ireturn, 1) := by decide +kernel
set_option maxRecDepth 20000 in
theorem ggX8_isSo_X8_dampOf : GoodIn wsX8_isSo wsX8_dampOf := goodIn_r _ [10, 11, 12, 27, 28, 29, 30, 31, 32, 33, 34, 35, 36, 37, 38, 39, 40, 41, 42, 43, 44, 45, 46, 47, 48, 49, 50, 51, 52, 53, 54, 55, 56, 57, 58, 59, 60, 61, 62] (by decide +kernel) (by decide +kernel)
set_option maxRecDepth 20000 in
theorem gX8_isSo_X8_dampOf : GoodIn wsX8_isSo (wsV RX8 181 RX8 yX8_dampOf wsX8_dampOf) := goodIn_app (goodIn_of _ (by decide +kernel)) ggX8_isSo_X8_dampOf
set_option maxRecDepth 20000 in
theorem ggX8_isSo_X8_meets : GoodIn wsX8_isSo wsX8_meets := goodIn_r _ [16, 17, 18, 19, 20, 21, 9, 22, 23, 24, 25, 26, 27, 28, 29, 30, 31, 32, 33, 34, 35, 36, 37, 38, 39, 40, 41, 42, 43, 44, 45, 46, 47, 48, 49, 50, 51, 52, 53, 54, 55, 56, 57, 58, 59, 60, 61, 62] (by decide +kernel) (by decide +kernel)
set_option maxRecDepth 20000 in
theorem gX8_isSo_X8_meets : GoodIn wsX8_isSo (wsV RX8 177 RX8 yX8_meets wsX8_meets) := goodIn_app (goodIn_of _ (by decide +kernel)) ggX8_isSo_X8_meets
theorem dX8_isSo_0 : decode cX8_isSo 0 = .ok (.iconst 1, 1) := by decide +kernel
theorem dX8_isSo_1 : decode cX8_isSo 1 = .ok (.istore_n 3, 1) := by decide +kernel
theorem dX8_isSo_2 : decode cX8_isSo 2 = .ok (.iconst 0, 1) := by decide +kernel
theorem dX8_isSo_3 : decode cX8_isSo 3 = .ok (.istore 4, 2) := by decide +kernel
theorem dX8_isSo_5 : decode cX8_isSo 5 = .ok (.iload 4, 2) := by decide +kernel
theorem dX8_isSo_7 : decode cX8_isSo 7 = .ok (.aload_n 0, 1) := by decide +kernel
theorem dX8_isSo_8 : decode cX8_isSo 8 = .ok (.getfield 166, 3) := by decide +kernel
theorem dX8_isSo_11 : decode cX8_isSo 11 = .ok (.if_icmp .ge 59, 3) := by decide +kernel
theorem dX8_isSo_14 : decode cX8_isSo 14 = .ok (.iload_n 3, 1) := by decide +kernel
theorem dX8_isSo_15 : decode cX8_isSo 15 = .ok (.ifCond .eq 47, 3) := by decide +kernel
theorem dX8_isSo_18 : decode cX8_isSo 18 = .ok (.aload_n 0, 1) := by decide +kernel
theorem dX8_isSo_19 : decode cX8_isSo 19 = .ok (.aload_n 0, 1) := by decide +kernel
theorem dX8_isSo_20 : decode cX8_isSo 20 = .ok (.getfield 53, 3) := by decide +kernel
theorem dX8_isSo_23 : decode cX8_isSo 23 = .ok (.iload 4, 2) := by decide +kernel
theorem dX8_isSo_25 : decode cX8_isSo 25 = .ok (.iaload, 1) := by decide +kernel
theorem dX8_isSo_26 : decode cX8_isSo 26 = .ok (.aload_n 0, 1) := by decide +kernel
theorem dX8_isSo_27 : decode cX8_isSo 27 = .ok (.getfield 56, 3) := by decide +kernel
theorem dX8_isSo_30 : decode cX8_isSo 30 = .ok (.iload 4, 2) := by decide +kernel
theorem dX8_isSo_32 : decode cX8_isSo 32 = .ok (.iaload, 1) := by decide +kernel
theorem dX8_isSo_33 : decode cX8_isSo 33 = .ok (.aload_n 0, 1) := by decide +kernel
theorem dX8_isSo_34 : decode cX8_isSo 34 = .ok (.getfield 59, 3) := by decide +kernel
theorem dX8_isSo_37 : decode cX8_isSo 37 = .ok (.iload 4, 2) := by decide +kernel
theorem dX8_isSo_39 : decode cX8_isSo 39 = .ok (.iaload, 1) := by decide +kernel
theorem dX8_isSo_40 : decode cX8_isSo 40 = .ok (.iload_n 1, 1) := by decide +kernel
theorem dX8_isSo_41 : decode cX8_isSo 41 = .ok (.iload_n 2, 1) := by decide +kernel
theorem dX8_isSo_42 : decode cX8_isSo 42 = .ok (.aload_n 0, 1) := by decide +kernel
theorem dX8_isSo_43 : decode cX8_isSo 43 = .ok (.aload_n 0, 1) := by decide +kernel
theorem dX8_isSo_44 : decode cX8_isSo 44 = .ok (.getfield 46, 3) := by decide +kernel
theorem dX8_isSo_47 : decode cX8_isSo 47 = .ok (.iconst 3, 1) := by decide +kernel
theorem dX8_isSo_48 : decode cX8_isSo 48 = .ok (.iaload, 1) := by decide +kernel
theorem dX8_isSo_49 : decode cX8_isSo 49 = .ok (.invokevirtual 181, 3) := by decide +kernel
theorem dX8_isSo_52 : decode cX8_isSo 52 = .ok (.invokevirtual 177, 3) := by decide +kernel
theorem dX8_isSo_55 : decode cX8_isSo 55 = .ok (.ifCond .eq 7, 3) := by decide +kernel
theorem dX8_isSo_58 : decode cX8_isSo 58 = .ok (.iconst 1, 1) := by decide +kernel
theorem dX8_isSo_59 : decode cX8_isSo 59 = .ok (.goto 4, 3) := by decide +kernel
theorem dX8_isSo_62 : decode cX8_isSo 62 = .ok (.iconst 0, 1) := by decide +kernel
theorem dX8_isSo_63 : decode cX8_isSo 63 = .ok (.istore_n 3, 1) := by decide +kernel
theorem dX8_isSo_64 : decode cX8_isSo 64 = .ok (.iinc 4 1, 3) := by decide +kernel
theorem dX8_isSo_67 : decode cX8_isSo 67 = .ok (.goto (-62), 3) := by decide +kernel
theorem dX8_isSo_70 : decode cX8_isSo 70 = .ok (.iload_n 3, 1) := by decide +kernel
theorem dX8_isSo_71 : decode cX8_isSo 71 = .ok (.ireturn, 1) := by decide +kernel
theorem dX8_state_0 : decode cX8_state 0 = .ok (.bipush 81, 2) := by decide +kernel
theorem dX8_state_2 : decode cX8_state 2 = .ok (.iload_n 0, 1) := by decide +kernel
theorem dX8_state_3 : decode cX8_state 3 = .ok (.bipush 40, 2) := by decide +kernel
theorem dX8_state_5 : decode cX8_state 5 = .ok (.iadd, 1) := by decide +kernel
theorem dX8_state_6 : decode cX8_state 6 = .ok (.imul, 1) := by decide +kernel
theorem dX8_state_7 : decode cX8_state 7 = .ok (.iload_n 1, 1) := by decide +kernel
theorem dX8_state_8 : decode cX8_state 8 = .ok (.iadd, 1) := by decide +kernel
theorem dX8_state_9 : decode cX8_state 9 = .ok (.bipush 40, 2) := by decide +kernel
theorem dX8_state_11 : decode cX8_state 11 = .ok (.iadd, 1) := by decide +kernel
theorem dX8_state_12 : decode cX8_state 12 = .ok (.ireturn, 1) := by decide +kernel
set_option maxRecDepth 20000 in
theorem ggX8_behindPush_X8_pushed : GoodIn wsX8_behindPush wsX8_pushed := goodIn_r _ [5, 6, 7, 4, 8, 9, 10, 11] (by decide +kernel) (by decide +kernel)
set_option maxRecDepth 20000 in
theorem gX8_behindPush_X8_pushed : GoodIn wsX8_behindPush (va_wsS RX8 213 yX8_pushed wsX8_pushed) := goodIn_app (goodIn_of _ (by decide +kernel)) ggX8_behindPush_X8_pushed
set_option maxRecDepth 20000 in
theorem ggX8_behindPush_X8_state : GoodIn wsX8_behindPush wsX8_state := goodIn_r _ [14] (by decide +kernel) (by decide +kernel)
set_option maxRecDepth 20000 in
theorem gX8_behindPush_X8_state : GoodIn wsX8_behindPush (va_wsS RX8 250 yX8_state wsX8_state) := goodIn_app (goodIn_of _ (by decide +kernel)) ggX8_behindPush_X8_state
theorem dX8_behindPush_0 : decode cX8_behindPush 0 = .ok (.iload_n 1, 1) := by decide +kernel
theorem dX8_behindPush_1 : decode cX8_behindPush 1 = .ok (.bipush 81, 2) := by decide +kernel
theorem dX8_behindPush_3 : decode cX8_behindPush 3 = .ok (.idiv, 1) := by decide +kernel
theorem dX8_behindPush_4 : decode cX8_behindPush 4 = .ok (.bipush 40, 2) := by decide +kernel
theorem dX8_behindPush_6 : decode cX8_behindPush 6 = .ok (.isub, 1) := by decide +kernel
theorem dX8_behindPush_7 : decode cX8_behindPush 7 = .ok (.istore_n 3, 1) := by decide +kernel
theorem dX8_behindPush_8 : decode cX8_behindPush 8 = .ok (.iload_n 3, 1) := by decide +kernel
theorem dX8_behindPush_9 : decode cX8_behindPush 9 = .ok (.aload_n 0, 1) := by decide +kernel
theorem dX8_behindPush_10 : decode cX8_behindPush 10 = .ok (.getfield 22, 3) := by decide +kernel
theorem dX8_behindPush_13 : decode cX8_behindPush 13 = .ok (.iload_n 2, 1) := by decide +kernel
theorem dX8_behindPush_14 : decode cX8_behindPush 14 = .ok (.iconst 2, 1) := by decide +kernel
theorem dX8_behindPush_15 : decode cX8_behindPush 15 = .ok (.idiv, 1) := by decide +kernel
theorem dX8_behindPush_16 : decode cX8_behindPush 16 = .ok (.iaload, 1) := by decide +kernel
theorem dX8_behindPush_17 : decode cX8_behindPush 17 = .ok (.iload_n 2, 1) := by decide +kernel
theorem dX8_behindPush_18 : decode cX8_behindPush 18 = .ok (.iconst 2, 1) := by decide +kernel
theorem dX8_behindPush_19 : decode cX8_behindPush 19 = .ok (.irem, 1) := by decide +kernel
theorem dX8_behindPush_20 : decode cX8_behindPush 20 = .ok (.invokestatic 213, 3) := by decide +kernel
theorem dX8_behindPush_23 : decode cX8_behindPush 23 = .ok (.iload_n 3, 1) := by decide +kernel
theorem dX8_behindPush_24 : decode cX8_behindPush 24 = .ok (.invokestatic 250, 3) := by decide +kernel
theorem dX8_behindPush_27 : decode cX8_behindPush 27 = .ok (.ireturn, 1) := by decide +kernel
set_option maxRecDepth 20000 in
theorem ggX8_isGoal_X8_isSo : GoodIn wsX8_isGoal wsX8_isSo := goodIn_r _ [5, 6, 7, 8, 9, 10, 11, 12, 13, 4, 14, 15, 16, 17, 18, 19, 20, 21, 22, 23, 24, 25, 26, 27, 28, 29, 30, 31, 32, 33, 34, 35, 36, 37, 38, 39, 40, 41, 42, 43, 44, 45, 46, 47, 48, 49, 50, 51, 52, 53, 54, 55, 56, 57, 58, 59, 60, 61, 62, 63, 64, 65, 66] (by decide +kernel) (by decide +kernel)
set_option maxRecDepth 20000 in
theorem gX8_isGoal_X8_isSo : GoodIn wsX8_isGoal (wsV RX8 253 RX8 yX8_isSo wsX8_isSo) := goodIn_app (goodIn_of _ (by decide +kernel)) ggX8_isGoal_X8_isSo
theorem dX8_isGoal_0 : decode cX8_isGoal 0 = .ok (.aload_n 0, 1) := by decide +kernel
theorem dX8_isGoal_1 : decode cX8_isGoal 1 = .ok (.iload_n 1, 1) := by decide +kernel
theorem dX8_isGoal_2 : decode cX8_isGoal 2 = .ok (.bipush 81, 2) := by decide +kernel
theorem dX8_isGoal_4 : decode cX8_isGoal 4 = .ok (.idiv, 1) := by decide +kernel
theorem dX8_isGoal_5 : decode cX8_isGoal 5 = .ok (.bipush 40, 2) := by decide +kernel
theorem dX8_isGoal_7 : decode cX8_isGoal 7 = .ok (.isub, 1) := by decide +kernel
theorem dX8_isGoal_8 : decode cX8_isGoal 8 = .ok (.iload_n 1, 1) := by decide +kernel
theorem dX8_isGoal_9 : decode cX8_isGoal 9 = .ok (.bipush 81, 2) := by decide +kernel
theorem dX8_isGoal_11 : decode cX8_isGoal 11 = .ok (.irem, 1) := by decide +kernel
theorem dX8_isGoal_12 : decode cX8_isGoal 12 = .ok (.bipush 40, 2) := by decide +kernel
theorem dX8_isGoal_14 : decode cX8_isGoal 14 = .ok (.isub, 1) := by decide +kernel
theorem dX8_isGoal_15 : decode cX8_isGoal 15 = .ok (.invokevirtual 253, 3) := by decide +kernel
theorem dX8_isGoal_18 : decode cX8_isGoal 18 = .ok (.ireturn, 1) := by decide +kernel
set_option maxRecDepth 20000 in
theorem ggX8_meeting_X8_state : GoodIn wsX8_meeting wsX8_state := goodIn_r _ [11] (by decide +kernel) (by decide +kernel)
set_option maxRecDepth 20000 in
theorem gX8_meeting_X8_state : GoodIn wsX8_meeting (va_wsS RX8 250 yX8_state wsX8_state) := goodIn_app (goodIn_of _ (by decide +kernel)) ggX8_meeting_X8_state
set_option maxRecDepth 20000 in
theorem ggX8_meeting_X8_isGoal : GoodIn wsX8_meeting wsX8_isGoal := goodIn_r _ [15, 16, 17, 18, 10, 19, 20, 21, 22, 23, 3, 24, 25, 26, 27, 28, 29, 30, 31, 32, 33, 34, 35, 36, 37, 38, 39, 40, 41, 42, 43, 58, 59, 60, 61, 62, 63, 64, 65, 66, 67, 68, 69, 70, 71, 72, 73, 74, 75, 76, 77, 78, 79, 80, 81, 82, 83, 84, 85, 86, 87, 88, 89, 90, 91, 92, 93] (by decide +kernel) (by decide +kernel)
set_option maxRecDepth 20000 in
theorem gX8_meeting_X8_isGoal : GoodIn wsX8_meeting (wsV RX8 259 RX8 yX8_isGoal wsX8_isGoal) := goodIn_app (goodIn_of _ (by decide +kernel)) ggX8_meeting_X8_isGoal
set_option maxRecDepth 20000 in
theorem ggX8_meeting_X8_behindPush : GoodIn wsX8_meeting wsX8_behindPush := goodIn_r _ [47, 48, 49, 50, 10, 51, 52, 53, 54, 55, 56, 57, 8, 9, 11, 58, 59, 60, 61, 62, 63, 64, 65, 66, 67, 68, 69, 70, 71, 72, 73, 74, 75, 76, 77, 78, 79, 80, 81, 82, 83, 84, 85, 86, 87, 88, 89, 90, 91, 92, 93] (by decide +kernel) (by decide +kernel)
set_option maxRecDepth 20000 in
theorem gX8_meeting_X8_behindPush : GoodIn wsX8_meeting (wsV RX8 262 RX8 yX8_behindPush wsX8_behindPush) := goodIn_app (goodIn_of _ (by decide +kernel)) ggX8_meeting_X8_behindPush
theorem dX8_meeting_0 : decode cX8_meeting 0 = .ok (.iload_n 1, 1) := by decide +kernel
theorem dX8_meeting_1 : decode cX8_meeting 1 = .ok (.iconst (-1), 1) := by decide +kernel
theorem dX8_meeting_2 : decode cX8_meeting 2 = .ok (.if_icmp .ge 5, 3) := by decide +kernel
theorem dX8_meeting_5 : decode cX8_meeting 5 = .ok (.iconst (-1), 1) := by decide +kernel
theorem dX8_meeting_6 : decode cX8_meeting 6 = .ok (.ireturn, 1) := by decide +kernel
theorem dX8_meeting_7 : decode cX8_meeting 7 = .ok (.iconst 0, 1) := by decide +kernel
theorem dX8_meeting_8 : decode cX8_meeting 8 = .ok (.istore_n 2, 1) := by decide +kernel
theorem dX8_meeting_9 : decode cX8_meeting 9 = .ok (.iload_n 2, 1) := by decide +kernel
theorem dX8_meeting_10 : decode cX8_meeting 10 = .ok (.sipush 6561, 3) := by decide +kernel
theorem dX8_meeting_13 : decode cX8_meeting 13 = .ok (.if_icmp .ge 17, 3) := by decide +kernel
theorem dX8_meeting_16 : decode cX8_meeting 16 = .ok (.aload_n 0, 1) := by decide +kernel
theorem dX8_meeting_17 : decode cX8_meeting 17 = .ok (.getfield 62, 3) := by decide +kernel
theorem dX8_meeting_20 : decode cX8_meeting 20 = .ok (.iload_n 2, 1) := by decide +kernel
theorem dX8_meeting_21 : decode cX8_meeting 21 = .ok (.bipush (-4), 2) := by decide +kernel
theorem dX8_meeting_23 : decode cX8_meeting 23 = .ok (.iastore, 1) := by decide +kernel
theorem dX8_meeting_24 : decode cX8_meeting 24 = .ok (.iinc 2 1, 3) := by decide +kernel
theorem dX8_meeting_27 : decode cX8_meeting 27 = .ok (.goto (-18), 3) := by decide +kernel
theorem dX8_meeting_30 : decode cX8_meeting 30 = .ok (.aload_n 0, 1) := by decide +kernel
theorem dX8_meeting_31 : decode cX8_meeting 31 = .ok (.getfield 65, 3) := by decide +kernel
theorem dX8_meeting_34 : decode cX8_meeting 34 = .ok (.iconst 0, 1) := by decide +kernel
theorem dX8_meeting_35 : decode cX8_meeting 35 = .ok (.aload_n 0, 1) := by decide +kernel
theorem dX8_meeting_36 : decode cX8_meeting 36 = .ok (.getfield 46, 3) := by decide +kernel
theorem dX8_meeting_39 : decode cX8_meeting 39 = .ok (.iconst 0, 1) := by decide +kernel
theorem dX8_meeting_40 : decode cX8_meeting 40 = .ok (.iaload, 1) := by decide +kernel
theorem dX8_meeting_41 : decode cX8_meeting 41 = .ok (.aload_n 0, 1) := by decide +kernel
theorem dX8_meeting_42 : decode cX8_meeting 42 = .ok (.getfield 46, 3) := by decide +kernel
theorem dX8_meeting_45 : decode cX8_meeting 45 = .ok (.iconst 1, 1) := by decide +kernel
theorem dX8_meeting_46 : decode cX8_meeting 46 = .ok (.iaload, 1) := by decide +kernel
theorem dX8_meeting_47 : decode cX8_meeting 47 = .ok (.invokestatic 250, 3) := by decide +kernel
theorem dX8_meeting_50 : decode cX8_meeting 50 = .ok (.iastore, 1) := by decide +kernel
theorem dX8_meeting_51 : decode cX8_meeting 51 = .ok (.aload_n 0, 1) := by decide +kernel
theorem dX8_meeting_52 : decode cX8_meeting 52 = .ok (.getfield 62, 3) := by decide +kernel
theorem dX8_meeting_55 : decode cX8_meeting 55 = .ok (.aload_n 0, 1) := by decide +kernel
theorem dX8_meeting_56 : decode cX8_meeting 56 = .ok (.getfield 65, 3) := by decide +kernel
theorem dX8_meeting_59 : decode cX8_meeting 59 = .ok (.iconst 0, 1) := by decide +kernel
theorem dX8_meeting_60 : decode cX8_meeting 60 = .ok (.iaload, 1) := by decide +kernel
theorem dX8_meeting_61 : decode cX8_meeting 61 = .ok (.iconst 0, 1) := by decide +kernel
theorem dX8_meeting_62 : decode cX8_meeting 62 = .ok (.iastore, 1) := by decide +kernel
theorem dX8_meeting_63 : decode cX8_meeting 63 = .ok (.aload_n 0, 1) := by decide +kernel
theorem dX8_meeting_64 : decode cX8_meeting 64 = .ok (.iconst 1, 1) := by decide +kernel
theorem dX8_meeting_65 : decode cX8_meeting 65 = .ok (.putfield 256, 3) := by decide +kernel
theorem dX8_meeting_68 : decode cX8_meeting 68 = .ok (.bipush (-4), 2) := by decide +kernel
theorem dX8_meeting_70 : decode cX8_meeting 70 = .ok (.istore_n 2, 1) := by decide +kernel
theorem dX8_meeting_71 : decode cX8_meeting 71 = .ok (.iconst 0, 1) := by decide +kernel
theorem dX8_meeting_72 : decode cX8_meeting 72 = .ok (.istore_n 3, 1) := by decide +kernel
theorem dX8_meeting_73 : decode cX8_meeting 73 = .ok (.iload_n 3, 1) := by decide +kernel
theorem dX8_meeting_74 : decode cX8_meeting 74 = .ok (.aload_n 0, 1) := by decide +kernel
theorem dX8_meeting_75 : decode cX8_meeting 75 = .ok (.getfield 256, 3) := by decide +kernel
theorem dX8_meeting_78 : decode cX8_meeting 78 = .ok (.if_icmp .ge 145, 3) := by decide +kernel
theorem dX8_meeting_81 : decode cX8_meeting 81 = .ok (.iload_n 2, 1) := by decide +kernel
theorem dX8_meeting_82 : decode cX8_meeting 82 = .ok (.ifCond .ge 141, 3) := by decide +kernel
theorem dX8_meeting_85 : decode cX8_meeting 85 = .ok (.aload_n 0, 1) := by decide +kernel
theorem dX8_meeting_86 : decode cX8_meeting 86 = .ok (.getfield 65, 3) := by decide +kernel
theorem dX8_meeting_89 : decode cX8_meeting 89 = .ok (.iload_n 3, 1) := by decide +kernel
theorem dX8_meeting_90 : decode cX8_meeting 90 = .ok (.iaload, 1) := by decide +kernel
theorem dX8_meeting_91 : decode cX8_meeting 91 = .ok (.istore 4, 2) := by decide +kernel
theorem dX8_meeting_93 : decode cX8_meeting 93 = .ok (.aload_n 0, 1) := by decide +kernel
theorem dX8_meeting_94 : decode cX8_meeting 94 = .ok (.iload 4, 2) := by decide +kernel
theorem dX8_meeting_96 : decode cX8_meeting 96 = .ok (.invokevirtual 259, 3) := by decide +kernel
theorem dX8_meeting_99 : decode cX8_meeting 99 = .ok (.ifCond .eq 8, 3) := by decide +kernel
theorem dX8_meeting_102 : decode cX8_meeting 102 = .ok (.iload 4, 2) := by decide +kernel
theorem dX8_meeting_104 : decode cX8_meeting 104 = .ok (.goto 5, 3) := by decide +kernel
theorem dX8_meeting_107 : decode cX8_meeting 107 = .ok (.bipush (-4), 2) := by decide +kernel
theorem dX8_meeting_109 : decode cX8_meeting 109 = .ok (.istore_n 2, 1) := by decide +kernel
theorem dX8_meeting_110 : decode cX8_meeting 110 = .ok (.iconst 0, 1) := by decide +kernel
theorem dX8_meeting_111 : decode cX8_meeting 111 = .ok (.istore 5, 2) := by decide +kernel
theorem dX8_meeting_113 : decode cX8_meeting 113 = .ok (.iload 5, 2) := by decide +kernel
theorem dX8_meeting_115 : decode cX8_meeting 115 = .ok (.iconst 2, 1) := by decide +kernel
theorem dX8_meeting_116 : decode cX8_meeting 116 = .ok (.aload_n 0, 1) := by decide +kernel
theorem dX8_meeting_117 : decode cX8_meeting 117 = .ok (.getfield 101, 3) := by decide +kernel
theorem dX8_meeting_120 : decode cX8_meeting 120 = .ok (.imul, 1) := by decide +kernel
theorem dX8_meeting_121 : decode cX8_meeting 121 = .ok (.if_icmp .ge 96, 3) := by decide +kernel
theorem dX8_meeting_124 : decode cX8_meeting 124 = .ok (.aload_n 0, 1) := by decide +kernel
theorem dX8_meeting_125 : decode cX8_meeting 125 = .ok (.getfield 62, 3) := by decide +kernel
theorem dX8_meeting_128 : decode cX8_meeting 128 = .ok (.iload 4, 2) := by decide +kernel
theorem dX8_meeting_130 : decode cX8_meeting 130 = .ok (.iaload, 1) := by decide +kernel
theorem dX8_meeting_131 : decode cX8_meeting 131 = .ok (.bipush 9, 2) := by decide +kernel
theorem dX8_meeting_133 : decode cX8_meeting 133 = .ok (.if_icmp .ge 84, 3) := by decide +kernel
theorem dX8_meeting_136 : decode cX8_meeting 136 = .ok (.aload_n 0, 1) := by decide +kernel
theorem dX8_meeting_137 : decode cX8_meeting 137 = .ok (.iload 4, 2) := by decide +kernel
theorem dX8_meeting_139 : decode cX8_meeting 139 = .ok (.iload 5, 2) := by decide +kernel
theorem dX8_meeting_141 : decode cX8_meeting 141 = .ok (.invokevirtual 262, 3) := by decide +kernel
theorem dX8_meeting_144 : decode cX8_meeting 144 = .ok (.istore 6, 2) := by decide +kernel
theorem dX8_meeting_146 : decode cX8_meeting 146 = .ok (.aload_n 0, 1) := by decide +kernel
theorem dX8_meeting_147 : decode cX8_meeting 147 = .ok (.getfield 62, 3) := by decide +kernel
theorem dX8_meeting_150 : decode cX8_meeting 150 = .ok (.iload 6, 2) := by decide +kernel
theorem dX8_meeting_152 : decode cX8_meeting 152 = .ok (.iaload, 1) := by decide +kernel
theorem dX8_meeting_153 : decode cX8_meeting 153 = .ok (.ifCond .ge 58, 3) := by decide +kernel
theorem dX8_meeting_156 : decode cX8_meeting 156 = .ok (.aload_n 0, 1) := by decide +kernel
theorem dX8_meeting_157 : decode cX8_meeting 157 = .ok (.getfield 62, 3) := by decide +kernel
theorem dX8_meeting_160 : decode cX8_meeting 160 = .ok (.iload 6, 2) := by decide +kernel
theorem dX8_meeting_162 : decode cX8_meeting 162 = .ok (.aload_n 0, 1) := by decide +kernel
theorem dX8_meeting_163 : decode cX8_meeting 163 = .ok (.getfield 62, 3) := by decide +kernel
theorem dX8_meeting_166 : decode cX8_meeting 166 = .ok (.iload 4, 2) := by decide +kernel
theorem dX8_meeting_168 : decode cX8_meeting 168 = .ok (.iaload, 1) := by decide +kernel
theorem dX8_meeting_169 : decode cX8_meeting 169 = .ok (.iconst 1, 1) := by decide +kernel
theorem dX8_meeting_170 : decode cX8_meeting 170 = .ok (.iadd, 1) := by decide +kernel
theorem dX8_meeting_171 : decode cX8_meeting 171 = .ok (.iastore, 1) := by decide +kernel
theorem dX8_meeting_172 : decode cX8_meeting 172 = .ok (.aload_n 0, 1) := by decide +kernel
theorem dX8_meeting_173 : decode cX8_meeting 173 = .ok (.getfield 68, 3) := by decide +kernel
theorem dX8_meeting_176 : decode cX8_meeting 176 = .ok (.iload 6, 2) := by decide +kernel
theorem dX8_meeting_178 : decode cX8_meeting 178 = .ok (.iload 5, 2) := by decide +kernel
theorem dX8_meeting_180 : decode cX8_meeting 180 = .ok (.iastore, 1) := by decide +kernel
theorem dX8_meeting_181 : decode cX8_meeting 181 = .ok (.aload_n 0, 1) := by decide +kernel
theorem dX8_meeting_182 : decode cX8_meeting 182 = .ok (.getfield 71, 3) := by decide +kernel
theorem dX8_meeting_185 : decode cX8_meeting 185 = .ok (.iload 6, 2) := by decide +kernel
theorem dX8_meeting_187 : decode cX8_meeting 187 = .ok (.iload 4, 2) := by decide +kernel
theorem dX8_meeting_189 : decode cX8_meeting 189 = .ok (.iastore, 1) := by decide +kernel
theorem dX8_meeting_190 : decode cX8_meeting 190 = .ok (.aload_n 0, 1) := by decide +kernel
theorem dX8_meeting_191 : decode cX8_meeting 191 = .ok (.getfield 65, 3) := by decide +kernel
theorem dX8_meeting_194 : decode cX8_meeting 194 = .ok (.aload_n 0, 1) := by decide +kernel
theorem dX8_meeting_195 : decode cX8_meeting 195 = .ok (.getfield 256, 3) := by decide +kernel
theorem dX8_meeting_198 : decode cX8_meeting 198 = .ok (.iload 6, 2) := by decide +kernel
theorem dX8_meeting_200 : decode cX8_meeting 200 = .ok (.iastore, 1) := by decide +kernel
theorem dX8_meeting_201 : decode cX8_meeting 201 = .ok (.aload_n 0, 1) := by decide +kernel
theorem dX8_meeting_202 : decode cX8_meeting 202 = .ok (.dup, 1) := by decide +kernel
theorem dX8_meeting_203 : decode cX8_meeting 203 = .ok (.getfield 256, 3) := by decide +kernel
theorem dX8_meeting_206 : decode cX8_meeting 206 = .ok (.iconst 1, 1) := by decide +kernel
theorem dX8_meeting_207 : decode cX8_meeting 207 = .ok (.iadd, 1) := by decide +kernel
theorem dX8_meeting_208 : decode cX8_meeting 208 = .ok (.putfield 256, 3) := by decide +kernel
theorem dX8_meeting_211 : decode cX8_meeting 211 = .ok (.iinc 5 1, 3) := by decide +kernel
theorem dX8_meeting_214 : decode cX8_meeting 214 = .ok (.goto (-101), 3) := by decide +kernel
theorem dX8_meeting_217 : decode cX8_meeting 217 = .ok (.iinc 3 1, 3) := by decide +kernel
theorem dX8_meeting_220 : decode cX8_meeting 220 = .ok (.goto (-147), 3) := by decide +kernel
theorem dX8_meeting_223 : decode cX8_meeting 223 = .ok (.iload_n 2, 1) := by decide +kernel
theorem dX8_meeting_224 : decode cX8_meeting 224 = .ok (.ifCond .lt 7, 3) := by decide +kernel
theorem dX8_meeting_227 : decode cX8_meeting 227 = .ok (.iload_n 1, 1) := by decide +kernel
theorem dX8_meeting_228 : decode cX8_meeting 228 = .ok (.ifCond .ge 19, 3) := by decide +kernel
theorem dX8_meeting_231 : decode cX8_meeting 231 = .ok (.iload_n 2, 1) := by decide +kernel
theorem dX8_meeting_232 : decode cX8_meeting 232 = .ok (.ifCond .ge 8, 3) := by decide +kernel
theorem dX8_meeting_235 : decode cX8_meeting 235 = .ok (.bipush (-4), 2) := by decide +kernel
theorem dX8_meeting_237 : decode cX8_meeting 237 = .ok (.goto 9, 3) := by decide +kernel
theorem dX8_meeting_240 : decode cX8_meeting 240 = .ok (.aload_n 0, 1) := by decide +kernel
theorem dX8_meeting_241 : decode cX8_meeting 241 = .ok (.getfield 62, 3) := by decide +kernel
theorem dX8_meeting_244 : decode cX8_meeting 244 = .ok (.iload_n 2, 1) := by decide +kernel
theorem dX8_meeting_245 : decode cX8_meeting 245 = .ok (.iaload, 1) := by decide +kernel
theorem dX8_meeting_246 : decode cX8_meeting 246 = .ok (.ireturn, 1) := by decide +kernel
theorem dX8_meeting_247 : decode cX8_meeting 247 = .ok (.iload_n 1, 1) := by decide +kernel
theorem dX8_meeting_248 : decode cX8_meeting 248 = .ok (.aload_n 0, 1) := by decide +kernel
theorem dX8_meeting_249 : decode cX8_meeting 249 = .ok (.getfield 62, 3) := by decide +kernel
theorem dX8_meeting_252 : decode cX8_meeting 252 = .ok (.iload_n 2, 1) := by decide +kernel
theorem dX8_meeting_253 : decode cX8_meeting 253 = .ok (.iaload, 1) := by decide +kernel
theorem dX8_meeting_254 : decode cX8_meeting 254 = .ok (.if_icmp .lt 6, 3) := by decide +kernel
theorem dX8_meeting_257 : decode cX8_meeting 257 = .ok (.bipush (-4), 2) := by decide +kernel
theorem dX8_meeting_259 : decode cX8_meeting 259 = .ok (.ireturn, 1) := by decide +kernel
theorem dX8_meeting_260 : decode cX8_meeting 260 = .ok (.iload_n 2, 1) := by decide +kernel
theorem dX8_meeting_261 : decode cX8_meeting 261 = .ok (.istore_n 3, 1) := by decide +kernel
theorem dX8_meeting_262 : decode cX8_meeting 262 = .ok (.aload_n 0, 1) := by decide +kernel
theorem dX8_meeting_263 : decode cX8_meeting 263 = .ok (.getfield 62, 3) := by decide +kernel
theorem dX8_meeting_266 : decode cX8_meeting 266 = .ok (.iload_n 2, 1) := by decide +kernel
theorem dX8_meeting_267 : decode cX8_meeting 267 = .ok (.iaload, 1) := by decide +kernel
theorem dX8_meeting_268 : decode cX8_meeting 268 = .ok (.istore 4, 2) := by decide +kernel
theorem dX8_meeting_270 : decode cX8_meeting 270 = .ok (.iload 4, 2) := by decide +kernel
theorem dX8_meeting_272 : decode cX8_meeting 272 = .ok (.iload_n 1, 1) := by decide +kernel
theorem dX8_meeting_273 : decode cX8_meeting 273 = .ok (.iconst 1, 1) := by decide +kernel
theorem dX8_meeting_274 : decode cX8_meeting 274 = .ok (.iadd, 1) := by decide +kernel
theorem dX8_meeting_275 : decode cX8_meeting 275 = .ok (.if_icmp .le 16, 3) := by decide +kernel
theorem dX8_meeting_278 : decode cX8_meeting 278 = .ok (.aload_n 0, 1) := by decide +kernel
theorem dX8_meeting_279 : decode cX8_meeting 279 = .ok (.getfield 71, 3) := by decide +kernel
theorem dX8_meeting_282 : decode cX8_meeting 282 = .ok (.iload_n 3, 1) := by decide +kernel
theorem dX8_meeting_283 : decode cX8_meeting 283 = .ok (.iaload, 1) := by decide +kernel
theorem dX8_meeting_284 : decode cX8_meeting 284 = .ok (.istore_n 3, 1) := by decide +kernel
theorem dX8_meeting_285 : decode cX8_meeting 285 = .ok (.iinc 4 (-1), 3) := by decide +kernel
theorem dX8_meeting_288 : decode cX8_meeting 288 = .ok (.goto (-18), 3) := by decide +kernel
theorem dX8_meeting_291 : decode cX8_meeting 291 = .ok (.bipush 10, 2) := by decide +kernel
theorem dX8_meeting_293 : decode cX8_meeting 293 = .ok (.aload_n 0, 1) := by decide +kernel
theorem dX8_meeting_294 : decode cX8_meeting 294 = .ok (.getfield 68, 3) := by decide +kernel
theorem dX8_meeting_297 : decode cX8_meeting 297 = .ok (.iload_n 3, 1) := by decide +kernel
theorem dX8_meeting_298 : decode cX8_meeting 298 = .ok (.iaload, 1) := by decide +kernel
theorem dX8_meeting_299 : decode cX8_meeting 299 = .ok (.iconst 2, 1) := by decide +kernel
theorem dX8_meeting_300 : decode cX8_meeting 300 = .ok (.idiv, 1) := by decide +kernel
theorem dX8_meeting_301 : decode cX8_meeting 301 = .ok (.imul, 1) := by decide +kernel
theorem dX8_meeting_302 : decode cX8_meeting 302 = .ok (.aload_n 0, 1) := by decide +kernel
theorem dX8_meeting_303 : decode cX8_meeting 303 = .ok (.getfield 68, 3) := by decide +kernel
theorem dX8_meeting_306 : decode cX8_meeting 306 = .ok (.iload_n 3, 1) := by decide +kernel
theorem dX8_meeting_307 : decode cX8_meeting 307 = .ok (.iaload, 1) := by decide +kernel
theorem dX8_meeting_308 : decode cX8_meeting 308 = .ok (.iconst 2, 1) := by decide +kernel
theorem dX8_meeting_309 : decode cX8_meeting 309 = .ok (.irem, 1) := by decide +kernel
theorem dX8_meeting_310 : decode cX8_meeting 310 = .ok (.iadd, 1) := by decide +kernel
theorem dX8_meeting_311 : decode cX8_meeting 311 = .ok (.ireturn, 1) := by decide +kernel
set_option maxRecDepth 20000 in
theorem ggX8_shifts_X8_in : GoodIn wsX8_shifts wsX8_in := goodIn_r _ [4] (by decide +kernel) (by decide +kernel)
set_option maxRecDepth 20000 in
theorem gX8_shifts_X8_in : GoodIn wsX8_shifts (va_wsS RX8 110 yX8_in wsX8_in) := goodIn_app (goodIn_of _ (by decide +kernel)) ggX8_shifts_X8_in
set_option maxRecDepth 20000 in
theorem ggX8_shifts_X8_isSo : GoodIn wsX8_shifts wsX8_isSo := goodIn_r _ [8, 9, 10, 11, 12, 13, 14, 15, 16, 3, 17, 18, 19, 20, 21, 22, 23, 24, 25, 26, 27, 28, 29, 30, 31, 32, 33, 34, 35, 36, 37, 38, 39, 40, 41, 42, 43, 44, 45, 46, 47, 48, 49, 50, 51, 52, 53, 54, 55, 56, 57, 58, 59, 60, 61, 62, 63, 64, 65, 66, 67, 68, 69] (by decide +kernel) (by decide +kernel)
set_option maxRecDepth 20000 in
theorem gX8_shifts_X8_isSo : GoodIn wsX8_shifts (wsV RX8 253 RX8 yX8_isSo wsX8_isSo) := goodIn_app (goodIn_of _ (by decide +kernel)) ggX8_shifts_X8_isSo
theorem dX8_shifts_0 : decode cX8_shifts 0 = .ok (.iload_n 1, 1) := by decide +kernel
theorem dX8_shifts_1 : decode cX8_shifts 1 = .ok (.i2l, 1) := by decide +kernel
theorem dX8_shifts_2 : decode cX8_shifts 2 = .ok (.lconst 0, 1) := by decide +kernel
theorem dX8_shifts_3 : decode cX8_shifts 3 = .ok (.lconst 1, 1) := by decide +kernel
theorem dX8_shifts_4 : decode cX8_shifts 4 = .ok (.invokestatic 110, 3) := by decide +kernel
theorem dX8_shifts_7 : decode cX8_shifts 7 = .ok (.ifCond .ne 5, 3) := by decide +kernel
theorem dX8_shifts_10 : decode cX8_shifts 10 = .ok (.iconst (-1), 1) := by decide +kernel
theorem dX8_shifts_11 : decode cX8_shifts 11 = .ok (.ireturn, 1) := by decide +kernel
theorem dX8_shifts_12 : decode cX8_shifts 12 = .ok (.iconst 0, 1) := by decide +kernel
theorem dX8_shifts_13 : decode cX8_shifts 13 = .ok (.istore_n 2, 1) := by decide +kernel
theorem dX8_shifts_14 : decode cX8_shifts 14 = .ok (.bipush (-4), 2) := by decide +kernel
theorem dX8_shifts_16 : decode cX8_shifts 16 = .ok (.istore_n 3, 1) := by decide +kernel
theorem dX8_shifts_17 : decode cX8_shifts 17 = .ok (.bipush 40, 2) := by decide +kernel
theorem dX8_shifts_19 : decode cX8_shifts 19 = .ok (.istore 4, 2) := by decide +kernel
theorem dX8_shifts_21 : decode cX8_shifts 21 = .ok (.iload 4, 2) := by decide +kernel
theorem dX8_shifts_23 : decode cX8_shifts 23 = .ok (.bipush (-40), 2) := by decide +kernel
theorem dX8_shifts_25 : decode cX8_shifts 25 = .ok (.if_icmp .lt 49, 3) := by decide +kernel
theorem dX8_shifts_28 : decode cX8_shifts 28 = .ok (.iload_n 2, 1) := by decide +kernel
theorem dX8_shifts_29 : decode cX8_shifts 29 = .ok (.aload_n 0, 1) := by decide +kernel
theorem dX8_shifts_30 : decode cX8_shifts 30 = .ok (.iload 4, 2) := by decide +kernel
theorem dX8_shifts_32 : decode cX8_shifts 32 = .ok (.iload 4, 2) := by decide +kernel
theorem dX8_shifts_34 : decode cX8_shifts 34 = .ok (.invokevirtual 253, 3) := by decide +kernel
theorem dX8_shifts_37 : decode cX8_shifts 37 = .ok (.ifCond .eq 7, 3) := by decide +kernel
theorem dX8_shifts_40 : decode cX8_shifts 40 = .ok (.iconst 1, 1) := by decide +kernel
theorem dX8_shifts_41 : decode cX8_shifts 41 = .ok (.goto 4, 3) := by decide +kernel
theorem dX8_shifts_44 : decode cX8_shifts 44 = .ok (.iconst 0, 1) := by decide +kernel
theorem dX8_shifts_45 : decode cX8_shifts 45 = .ok (.iadd, 1) := by decide +kernel
theorem dX8_shifts_46 : decode cX8_shifts 46 = .ok (.istore_n 2, 1) := by decide +kernel
theorem dX8_shifts_47 : decode cX8_shifts 47 = .ok (.aload_n 0, 1) := by decide +kernel
theorem dX8_shifts_48 : decode cX8_shifts 48 = .ok (.iload 4, 2) := by decide +kernel
theorem dX8_shifts_50 : decode cX8_shifts 50 = .ok (.iload 4, 2) := by decide +kernel
theorem dX8_shifts_52 : decode cX8_shifts 52 = .ok (.invokevirtual 253, 3) := by decide +kernel
theorem dX8_shifts_55 : decode cX8_shifts 55 = .ok (.ifCond .eq 11, 3) := by decide +kernel
theorem dX8_shifts_58 : decode cX8_shifts 58 = .ok (.iload 4, 2) := by decide +kernel
theorem dX8_shifts_60 : decode cX8_shifts 60 = .ok (.bipush 40, 2) := by decide +kernel
theorem dX8_shifts_62 : decode cX8_shifts 62 = .ok (.iadd, 1) := by decide +kernel
theorem dX8_shifts_63 : decode cX8_shifts 63 = .ok (.goto 4, 3) := by decide +kernel
theorem dX8_shifts_66 : decode cX8_shifts 66 = .ok (.iload_n 3, 1) := by decide +kernel
theorem dX8_shifts_67 : decode cX8_shifts 67 = .ok (.istore_n 3, 1) := by decide +kernel
theorem dX8_shifts_68 : decode cX8_shifts 68 = .ok (.iinc 4 (-1), 3) := by decide +kernel
theorem dX8_shifts_71 : decode cX8_shifts 71 = .ok (.goto (-50), 3) := by decide +kernel
theorem dX8_shifts_74 : decode cX8_shifts 74 = .ok (.iload_n 1, 1) := by decide +kernel
theorem dX8_shifts_75 : decode cX8_shifts 75 = .ok (.ifCond .ne 7, 3) := by decide +kernel
theorem dX8_shifts_78 : decode cX8_shifts 78 = .ok (.iload_n 2, 1) := by decide +kernel
theorem dX8_shifts_79 : decode cX8_shifts 79 = .ok (.goto 4, 3) := by decide +kernel
theorem dX8_shifts_82 : decode cX8_shifts 82 = .ok (.iload_n 3, 1) := by decide +kernel
theorem dX8_shifts_83 : decode cX8_shifts 83 = .ok (.ireturn, 1) := by decide +kernel
set_option maxRecDepth 20000 in
theorem ggX8_pairs_X8_dampOf : GoodIn wsX8_pairs wsX8_dampOf := goodIn_r _ [7, 8, 9, 32, 33, 34, 35, 36, 37, 38, 39, 40, 41, 42, 43, 44, 45, 46, 47, 48, 49, 50, 51, 52, 53, 54, 55, 56, 57, 58, 59, 60, 61, 62, 63, 64, 65, 66, 67] (by decide +kernel) (by decide +kernel)
set_option maxRecDepth 20000 in
theorem gX8_pairs_X8_dampOf : GoodIn wsX8_pairs (wsV RX8 181 RX8 yX8_dampOf wsX8_dampOf) := goodIn_app (goodIn_of _ (by decide +kernel)) ggX8_pairs_X8_dampOf
set_option maxRecDepth 20000 in
theorem ggX8_pairs_X8_againstBy : GoodIn wsX8_pairs wsX8_againstBy := goodIn_r _ [13, 14, 15, 16, 17, 6, 18, 19, 20, 21, 22, 23, 24, 25, 26, 27, 28, 32, 33, 34, 35, 36, 37, 38, 39, 40, 41, 42, 43, 44, 45, 46, 47, 48, 49, 50, 51, 52, 53, 54, 55, 56, 57, 58, 59, 60, 61, 62, 63, 64, 65, 66, 67] (by decide +kernel) (by decide +kernel)
set_option maxRecDepth 20000 in
theorem gX8_pairs_X8_againstBy : GoodIn wsX8_pairs (wsV RX8 185 RX8 yX8_againstBy wsX8_againstBy) := goodIn_app (goodIn_of _ (by decide +kernel)) ggX8_pairs_X8_againstBy
set_option maxRecDepth 20000 in
theorem ggX8_pairs_X8_bits : GoodIn wsX8_pairs wsX8_bits := goodIn_r _ [31] (by decide +kernel) (by decide +kernel)
set_option maxRecDepth 20000 in
theorem gX8_pairs_X8_bits : GoodIn wsX8_pairs (va_wsS RX8 239 yX8_bits wsX8_bits) := goodIn_app (goodIn_of _ (by decide +kernel)) ggX8_pairs_X8_bits
theorem dX8_pairs_0 : decode cX8_pairs 0 = .ok (.iconst 0, 1) := by decide +kernel
theorem dX8_pairs_1 : decode cX8_pairs 1 = .ok (.istore_n 3, 1) := by decide +kernel
theorem dX8_pairs_2 : decode cX8_pairs 2 = .ok (.iconst 0, 1) := by decide +kernel
theorem dX8_pairs_3 : decode cX8_pairs 3 = .ok (.istore 4, 2) := by decide +kernel
theorem dX8_pairs_5 : decode cX8_pairs 5 = .ok (.iload 4, 2) := by decide +kernel
theorem dX8_pairs_7 : decode cX8_pairs 7 = .ok (.aload_n 0, 1) := by decide +kernel
theorem dX8_pairs_8 : decode cX8_pairs 8 = .ok (.getfield 98, 3) := by decide +kernel
theorem dX8_pairs_11 : decode cX8_pairs 11 = .ok (.if_icmp .ge 33, 3) := by decide +kernel
theorem dX8_pairs_14 : decode cX8_pairs 14 = .ok (.iload_n 3, 1) := by decide +kernel
theorem dX8_pairs_15 : decode cX8_pairs 15 = .ok (.aload_n 0, 1) := by decide +kernel
theorem dX8_pairs_16 : decode cX8_pairs 16 = .ok (.iload 4, 2) := by decide +kernel
theorem dX8_pairs_18 : decode cX8_pairs 18 = .ok (.iload_n 1, 1) := by decide +kernel
theorem dX8_pairs_19 : decode cX8_pairs 19 = .ok (.iload_n 2, 1) := by decide +kernel
theorem dX8_pairs_20 : decode cX8_pairs 20 = .ok (.aload_n 0, 1) := by decide +kernel
theorem dX8_pairs_21 : decode cX8_pairs 21 = .ok (.aload_n 0, 1) := by decide +kernel
theorem dX8_pairs_22 : decode cX8_pairs 22 = .ok (.getfield 46, 3) := by decide +kernel
theorem dX8_pairs_25 : decode cX8_pairs 25 = .ok (.iconst 3, 1) := by decide +kernel
theorem dX8_pairs_26 : decode cX8_pairs 26 = .ok (.iaload, 1) := by decide +kernel
theorem dX8_pairs_27 : decode cX8_pairs 27 = .ok (.invokevirtual 181, 3) := by decide +kernel
theorem dX8_pairs_30 : decode cX8_pairs 30 = .ok (.invokevirtual 185, 3) := by decide +kernel
theorem dX8_pairs_33 : decode cX8_pairs 33 = .ok (.invokestatic 239, 3) := by decide +kernel
theorem dX8_pairs_36 : decode cX8_pairs 36 = .ok (.iadd, 1) := by decide +kernel
theorem dX8_pairs_37 : decode cX8_pairs 37 = .ok (.istore_n 3, 1) := by decide +kernel
theorem dX8_pairs_38 : decode cX8_pairs 38 = .ok (.iinc 4 1, 3) := by decide +kernel
theorem dX8_pairs_41 : decode cX8_pairs 41 = .ok (.goto (-36), 3) := by decide +kernel
theorem dX8_pairs_44 : decode cX8_pairs 44 = .ok (.iload_n 3, 1) := by decide +kernel
theorem dX8_pairs_45 : decode cX8_pairs 45 = .ok (.ireturn, 1) := by decide +kernel
set_option maxRecDepth 20000 in
theorem ggX8_most_X8_in : GoodIn wsX8_most wsX8_in := goodIn_r _ [4] (by decide +kernel) (by decide +kernel)
set_option maxRecDepth 20000 in
theorem gX8_most_X8_in : GoodIn wsX8_most (va_wsS RX8 110 yX8_in wsX8_in) := goodIn_app (goodIn_of _ (by decide +kernel)) ggX8_most_X8_in
set_option maxRecDepth 20000 in
theorem ggX8_most_X8_pairs : GoodIn wsX8_most wsX8_pairs := goodIn_r _ [8, 9, 10, 11, 12, 13, 3, 14, 15, 16, 17, 18, 19, 20, 21, 22, 23, 24, 25, 26, 27, 28, 29, 30, 31, 32, 33, 34, 35, 36, 37, 38, 39, 40, 41, 42, 43, 44, 45, 46, 47, 48, 49, 50, 51, 52, 53, 54, 55, 56, 57, 58, 59, 60, 61, 62, 63, 64, 65, 66, 67, 68, 69, 70, 71, 72, 73, 74] (by decide +kernel) (by decide +kernel)
set_option maxRecDepth 20000 in
theorem gX8_most_X8_pairs : GoodIn wsX8_most (wsV RX8 265 RX8 yX8_pairs wsX8_pairs) := goodIn_app (goodIn_of _ (by decide +kernel)) ggX8_most_X8_pairs
theorem dX8_most_0 : decode cX8_most 0 = .ok (.iload_n 1, 1) := by decide +kernel
theorem dX8_most_1 : decode cX8_most 1 = .ok (.i2l, 1) := by decide +kernel
theorem dX8_most_2 : decode cX8_most 2 = .ok (.lconst 0, 1) := by decide +kernel
theorem dX8_most_3 : decode cX8_most 3 = .ok (.lconst 1, 1) := by decide +kernel
theorem dX8_most_4 : decode cX8_most 4 = .ok (.invokestatic 110, 3) := by decide +kernel
theorem dX8_most_7 : decode cX8_most 7 = .ok (.ifCond .ne 5, 3) := by decide +kernel
theorem dX8_most_10 : decode cX8_most 10 = .ok (.iconst (-1), 1) := by decide +kernel
theorem dX8_most_11 : decode cX8_most 11 = .ok (.ireturn, 1) := by decide +kernel
theorem dX8_most_12 : decode cX8_most 12 = .ok (.bipush (-40), 2) := by decide +kernel
theorem dX8_most_14 : decode cX8_most 14 = .ok (.istore_n 2, 1) := by decide +kernel
theorem dX8_most_15 : decode cX8_most 15 = .ok (.bipush (-39), 2) := by decide +kernel
theorem dX8_most_17 : decode cX8_most 17 = .ok (.istore_n 3, 1) := by decide +kernel
theorem dX8_most_18 : decode cX8_most 18 = .ok (.iload_n 3, 1) := by decide +kernel
theorem dX8_most_19 : decode cX8_most 19 = .ok (.bipush 40, 2) := by decide +kernel
theorem dX8_most_21 : decode cX8_most 21 = .ok (.if_icmp .gt 30, 3) := by decide +kernel
theorem dX8_most_24 : decode cX8_most 24 = .ok (.aload_n 0, 1) := by decide +kernel
theorem dX8_most_25 : decode cX8_most 25 = .ok (.iload_n 3, 1) := by decide +kernel
theorem dX8_most_26 : decode cX8_most 26 = .ok (.iload_n 3, 1) := by decide +kernel
theorem dX8_most_27 : decode cX8_most 27 = .ok (.invokevirtual 265, 3) := by decide +kernel
theorem dX8_most_30 : decode cX8_most 30 = .ok (.aload_n 0, 1) := by decide +kernel
theorem dX8_most_31 : decode cX8_most 31 = .ok (.iload_n 2, 1) := by decide +kernel
theorem dX8_most_32 : decode cX8_most 32 = .ok (.iload_n 2, 1) := by decide +kernel
theorem dX8_most_33 : decode cX8_most 33 = .ok (.invokevirtual 265, 3) := by decide +kernel
theorem dX8_most_36 : decode cX8_most 36 = .ok (.if_icmp .le 7, 3) := by decide +kernel
theorem dX8_most_39 : decode cX8_most 39 = .ok (.iload_n 3, 1) := by decide +kernel
theorem dX8_most_40 : decode cX8_most 40 = .ok (.goto 4, 3) := by decide +kernel
theorem dX8_most_43 : decode cX8_most 43 = .ok (.iload_n 2, 1) := by decide +kernel
theorem dX8_most_44 : decode cX8_most 44 = .ok (.istore_n 2, 1) := by decide +kernel
theorem dX8_most_45 : decode cX8_most 45 = .ok (.iinc 3 1, 3) := by decide +kernel
theorem dX8_most_48 : decode cX8_most 48 = .ok (.goto (-30), 3) := by decide +kernel
theorem dX8_most_51 : decode cX8_most 51 = .ok (.iload_n 1, 1) := by decide +kernel
theorem dX8_most_52 : decode cX8_most 52 = .ok (.ifCond .ne 12, 3) := by decide +kernel
theorem dX8_most_55 : decode cX8_most 55 = .ok (.aload_n 0, 1) := by decide +kernel
theorem dX8_most_56 : decode cX8_most 56 = .ok (.iload_n 2, 1) := by decide +kernel
theorem dX8_most_57 : decode cX8_most 57 = .ok (.iload_n 2, 1) := by decide +kernel
theorem dX8_most_58 : decode cX8_most 58 = .ok (.invokevirtual 265, 3) := by decide +kernel
theorem dX8_most_61 : decode cX8_most 61 = .ok (.goto 7, 3) := by decide +kernel
theorem dX8_most_64 : decode cX8_most 64 = .ok (.iload_n 2, 1) := by decide +kernel
theorem dX8_most_65 : decode cX8_most 65 = .ok (.bipush 40, 2) := by decide +kernel
theorem dX8_most_67 : decode cX8_most 67 = .ok (.iadd, 1) := by decide +kernel
theorem dX8_most_68 : decode cX8_most 68 = .ok (.ireturn, 1) := by decide +kernel
set_option maxRecDepth 20000 in
theorem ggX8_meetsAll_X8_dampOf : GoodIn wsX8_meetsAll wsX8_dampOf := goodIn_r _ [8, 9, 10, 11, 12, 13, 14, 15, 16, 17, 18, 19, 20, 21, 22, 23, 24, 25, 26, 27, 28, 29, 30, 31, 32, 33, 34, 35, 36, 37, 38, 39, 40, 41, 42, 43, 44, 45, 46] (by decide +kernel) (by decide +kernel)
set_option maxRecDepth 20000 in
theorem gX8_meetsAll_X8_dampOf : GoodIn wsX8_meetsAll (wsV RX8 181 RX8 yX8_dampOf wsX8_dampOf) := goodIn_app (goodIn_of _ (by decide +kernel)) ggX8_meetsAll_X8_dampOf
theorem dX8_meetsAll_0 : decode cX8_meetsAll 0 = .ok (.iconst 0, 1) := by decide +kernel
theorem dX8_meetsAll_1 : decode cX8_meetsAll 1 = .ok (.istore_n 2, 1) := by decide +kernel
theorem dX8_meetsAll_2 : decode cX8_meetsAll 2 = .ok (.bipush (-40), 2) := by decide +kernel
theorem dX8_meetsAll_4 : decode cX8_meetsAll 4 = .ok (.istore_n 3, 1) := by decide +kernel
theorem dX8_meetsAll_5 : decode cX8_meetsAll 5 = .ok (.iload_n 3, 1) := by decide +kernel
theorem dX8_meetsAll_6 : decode cX8_meetsAll 6 = .ok (.bipush 40, 2) := by decide +kernel
theorem dX8_meetsAll_8 : decode cX8_meetsAll 8 = .ok (.if_icmp .gt 80, 3) := by decide +kernel
theorem dX8_meetsAll_11 : decode cX8_meetsAll 11 = .ok (.iconst 0, 1) := by decide +kernel
theorem dX8_meetsAll_12 : decode cX8_meetsAll 12 = .ok (.istore 4, 2) := by decide +kernel
theorem dX8_meetsAll_14 : decode cX8_meetsAll 14 = .ok (.iload 4, 2) := by decide +kernel
theorem dX8_meetsAll_16 : decode cX8_meetsAll 16 = .ok (.bipush 12, 2) := by decide +kernel
theorem dX8_meetsAll_18 : decode cX8_meetsAll 18 = .ok (.if_icmp .ge 64, 3) := by decide +kernel
theorem dX8_meetsAll_21 : decode cX8_meetsAll 21 = .ok (.iload_n 2, 1) := by decide +kernel
theorem dX8_meetsAll_22 : decode cX8_meetsAll 22 = .ok (.iload 4, 2) := by decide +kernel
theorem dX8_meetsAll_24 : decode cX8_meetsAll 24 = .ok (.bipush 6, 2) := by decide +kernel
theorem dX8_meetsAll_26 : decode cX8_meetsAll 26 = .ok (.irem, 1) := by decide +kernel
theorem dX8_meetsAll_27 : decode cX8_meetsAll 27 = .ok (.aload_n 0, 1) := by decide +kernel
theorem dX8_meetsAll_28 : decode cX8_meetsAll 28 = .ok (.getfield 7, 3) := by decide +kernel
theorem dX8_meetsAll_31 : decode cX8_meetsAll 31 = .ok (.iload 4, 2) := by decide +kernel
theorem dX8_meetsAll_33 : decode cX8_meetsAll 33 = .ok (.bipush 6, 2) := by decide +kernel
theorem dX8_meetsAll_35 : decode cX8_meetsAll 35 = .ok (.idiv, 1) := by decide +kernel
theorem dX8_meetsAll_36 : decode cX8_meetsAll 36 = .ok (.iaload, 1) := by decide +kernel
theorem dX8_meetsAll_37 : decode cX8_meetsAll 37 = .ok (.if_icmp .ge 36, 3) := by decide +kernel
theorem dX8_meetsAll_40 : decode cX8_meetsAll 40 = .ok (.iload_n 1, 1) := by decide +kernel
theorem dX8_meetsAll_41 : decode cX8_meetsAll 41 = .ok (.iload_n 1, 1) := by decide +kernel
theorem dX8_meetsAll_42 : decode cX8_meetsAll 42 = .ok (.aload_n 0, 1) := by decide +kernel
theorem dX8_meetsAll_43 : decode cX8_meetsAll 43 = .ok (.aload_n 0, 1) := by decide +kernel
theorem dX8_meetsAll_44 : decode cX8_meetsAll 44 = .ok (.getfield 46, 3) := by decide +kernel
theorem dX8_meetsAll_47 : decode cX8_meetsAll 47 = .ok (.iconst 3, 1) := by decide +kernel
theorem dX8_meetsAll_48 : decode cX8_meetsAll 48 = .ok (.iaload, 1) := by decide +kernel
theorem dX8_meetsAll_49 : decode cX8_meetsAll 49 = .ok (.invokevirtual 181, 3) := by decide +kernel
theorem dX8_meetsAll_52 : decode cX8_meetsAll 52 = .ok (.imul, 1) := by decide +kernel
theorem dX8_meetsAll_53 : decode cX8_meetsAll 53 = .ok (.bipush 10, 2) := by decide +kernel
theorem dX8_meetsAll_55 : decode cX8_meetsAll 55 = .ok (.idiv, 1) := by decide +kernel
theorem dX8_meetsAll_56 : decode cX8_meetsAll 56 = .ok (.iadd, 1) := by decide +kernel
theorem dX8_meetsAll_57 : decode cX8_meetsAll 57 = .ok (.iload_n 3, 1) := by decide +kernel
theorem dX8_meetsAll_58 : decode cX8_meetsAll 58 = .ok (.iadd, 1) := by decide +kernel
theorem dX8_meetsAll_59 : decode cX8_meetsAll 59 = .ok (.aload_n 0, 1) := by decide +kernel
theorem dX8_meetsAll_60 : decode cX8_meetsAll 60 = .ok (.getfield 13, 3) := by decide +kernel
theorem dX8_meetsAll_63 : decode cX8_meetsAll 63 = .ok (.iload 4, 2) := by decide +kernel
theorem dX8_meetsAll_65 : decode cX8_meetsAll 65 = .ok (.iaload, 1) := by decide +kernel
theorem dX8_meetsAll_66 : decode cX8_meetsAll 66 = .ok (.if_icmp .ne 7, 3) := by decide +kernel
theorem dX8_meetsAll_69 : decode cX8_meetsAll 69 = .ok (.iconst 1, 1) := by decide +kernel
theorem dX8_meetsAll_70 : decode cX8_meetsAll 70 = .ok (.goto 4, 3) := by decide +kernel
theorem dX8_meetsAll_73 : decode cX8_meetsAll 73 = .ok (.iconst 0, 1) := by decide +kernel
theorem dX8_meetsAll_74 : decode cX8_meetsAll 74 = .ok (.iadd, 1) := by decide +kernel
theorem dX8_meetsAll_75 : decode cX8_meetsAll 75 = .ok (.istore_n 2, 1) := by decide +kernel
theorem dX8_meetsAll_76 : decode cX8_meetsAll 76 = .ok (.iinc 4 1, 3) := by decide +kernel
theorem dX8_meetsAll_79 : decode cX8_meetsAll 79 = .ok (.goto (-65), 3) := by decide +kernel
theorem dX8_meetsAll_82 : decode cX8_meetsAll 82 = .ok (.iinc 3 1, 3) := by decide +kernel
theorem dX8_meetsAll_85 : decode cX8_meetsAll 85 = .ok (.goto (-80), 3) := by decide +kernel
theorem dX8_meetsAll_88 : decode cX8_meetsAll 88 = .ok (.iload_n 2, 1) := by decide +kernel
theorem dX8_meetsAll_89 : decode cX8_meetsAll 89 = .ok (.ireturn, 1) := by decide +kernel
set_option maxRecDepth 20000 in
theorem ggX8_hut_X8_in : GoodIn wsX8_hut wsX8_in := goodIn_r _ [4] (by decide +kernel) (by decide +kernel)
set_option maxRecDepth 20000 in
theorem gX8_hut_X8_in : GoodIn wsX8_hut (va_wsS RX8 110 yX8_in wsX8_in) := goodIn_app (goodIn_of _ (by decide +kernel)) ggX8_hut_X8_in
set_option maxRecDepth 20000 in
theorem ggX8_hut_X8_meetsAll : GoodIn wsX8_hut wsX8_meetsAll := goodIn_r _ [8, 9, 10, 11, 12, 13, 14, 3, 15, 16, 17, 18, 19, 20, 21, 22, 23, 24, 25, 26, 27, 28, 29, 30, 31, 32, 33, 34, 35, 36, 37, 38, 39, 40, 41, 42, 43, 44, 45, 46, 47, 48, 49, 50, 51, 52, 53] (by decide +kernel) (by decide +kernel)
set_option maxRecDepth 20000 in
theorem gX8_hut_X8_meetsAll : GoodIn wsX8_hut (wsV RX8 268 RX8 yX8_meetsAll wsX8_meetsAll) := goodIn_app (goodIn_of _ (by decide +kernel)) ggX8_hut_X8_meetsAll
theorem dX8_hut_0 : decode cX8_hut 0 = .ok (.iload_n 1, 1) := by decide +kernel
theorem dX8_hut_1 : decode cX8_hut 1 = .ok (.i2l, 1) := by decide +kernel
theorem dX8_hut_2 : decode cX8_hut 2 = .ok (.lconst 0, 1) := by decide +kernel
theorem dX8_hut_3 : decode cX8_hut 3 = .ok (.lconst 1, 1) := by decide +kernel
theorem dX8_hut_4 : decode cX8_hut 4 = .ok (.invokestatic 110, 3) := by decide +kernel
theorem dX8_hut_7 : decode cX8_hut 7 = .ok (.ifCond .ne 5, 3) := by decide +kernel
theorem dX8_hut_10 : decode cX8_hut 10 = .ok (.iconst (-1), 1) := by decide +kernel
theorem dX8_hut_11 : decode cX8_hut 11 = .ok (.ireturn, 1) := by decide +kernel
theorem dX8_hut_12 : decode cX8_hut 12 = .ok (.iconst 0, 1) := by decide +kernel
theorem dX8_hut_13 : decode cX8_hut 13 = .ok (.istore_n 2, 1) := by decide +kernel
theorem dX8_hut_14 : decode cX8_hut 14 = .ok (.iconst 1, 1) := by decide +kernel
theorem dX8_hut_15 : decode cX8_hut 15 = .ok (.istore_n 3, 1) := by decide +kernel
theorem dX8_hut_16 : decode cX8_hut 16 = .ok (.iload_n 3, 1) := by decide +kernel
theorem dX8_hut_17 : decode cX8_hut 17 = .ok (.bipush 60, 2) := by decide +kernel
theorem dX8_hut_19 : decode cX8_hut 19 = .ok (.if_icmp .gt 28, 3) := by decide +kernel
theorem dX8_hut_22 : decode cX8_hut 22 = .ok (.aload_n 0, 1) := by decide +kernel
theorem dX8_hut_23 : decode cX8_hut 23 = .ok (.iload_n 3, 1) := by decide +kernel
theorem dX8_hut_24 : decode cX8_hut 24 = .ok (.invokevirtual 268, 3) := by decide +kernel
theorem dX8_hut_27 : decode cX8_hut 27 = .ok (.aload_n 0, 1) := by decide +kernel
theorem dX8_hut_28 : decode cX8_hut 28 = .ok (.iload_n 2, 1) := by decide +kernel
theorem dX8_hut_29 : decode cX8_hut 29 = .ok (.invokevirtual 268, 3) := by decide +kernel
theorem dX8_hut_32 : decode cX8_hut 32 = .ok (.if_icmp .le 7, 3) := by decide +kernel
theorem dX8_hut_35 : decode cX8_hut 35 = .ok (.iload_n 3, 1) := by decide +kernel
theorem dX8_hut_36 : decode cX8_hut 36 = .ok (.goto 4, 3) := by decide +kernel
theorem dX8_hut_39 : decode cX8_hut 39 = .ok (.iload_n 2, 1) := by decide +kernel
theorem dX8_hut_40 : decode cX8_hut 40 = .ok (.istore_n 2, 1) := by decide +kernel
theorem dX8_hut_41 : decode cX8_hut 41 = .ok (.iinc 3 1, 3) := by decide +kernel
theorem dX8_hut_44 : decode cX8_hut 44 = .ok (.goto (-28), 3) := by decide +kernel
theorem dX8_hut_47 : decode cX8_hut 47 = .ok (.iload_n 1, 1) := by decide +kernel
theorem dX8_hut_48 : decode cX8_hut 48 = .ok (.ifCond .ne 11, 3) := by decide +kernel
theorem dX8_hut_51 : decode cX8_hut 51 = .ok (.aload_n 0, 1) := by decide +kernel
theorem dX8_hut_52 : decode cX8_hut 52 = .ok (.iload_n 2, 1) := by decide +kernel
theorem dX8_hut_53 : decode cX8_hut 53 = .ok (.invokevirtual 268, 3) := by decide +kernel
theorem dX8_hut_56 : decode cX8_hut 56 = .ok (.goto 4, 3) := by decide +kernel
theorem dX8_hut_59 : decode cX8_hut 59 = .ok (.iload_n 2, 1) := by decide +kernel
theorem dX8_hut_60 : decode cX8_hut 60 = .ok (.ireturn, 1) := by decide +kernel
set_option maxRecDepth 20000 in
theorem ggX8_behind_X8_in : GoodIn wsX8_behind wsX8_in := goodIn_r _ [6] (by decide +kernel) (by decide +kernel)
set_option maxRecDepth 20000 in
theorem gX8_behind_X8_in : GoodIn wsX8_behind (va_wsS RX8 110 yX8_in wsX8_in) := goodIn_app (goodIn_of _ (by decide +kernel)) ggX8_behind_X8_in
set_option maxRecDepth 20000 in
theorem ggX8_behind_X8_isStrip : GoodIn wsX8_behind wsX8_isStrip := goodIn_r _ [10, 11, 3, 4, 5, 6, 55, 56, 57, 58, 59, 60, 61, 62, 63, 64, 65, 66, 67, 68, 69, 70, 71, 72, 73, 74, 75, 76, 77, 78, 79, 80, 81, 82, 83, 84, 85, 86, 87, 88, 89, 90] (by decide +kernel) (by decide +kernel)
set_option maxRecDepth 20000 in
theorem gX8_behind_X8_isStrip : GoodIn wsX8_behind (wsV RX8 193 RX8 yX8_isStrip wsX8_isStrip) := goodIn_app (goodIn_of _ (by decide +kernel)) ggX8_behind_X8_isStrip
set_option maxRecDepth 20000 in
theorem ggX8_behind_X8_copies : GoodIn wsX8_behind wsX8_copies := goodIn_r _ [15, 2, 55, 56, 57, 58, 59, 60, 61, 62, 63, 64, 65, 66, 67, 68, 69, 70, 71, 72, 73, 74, 75, 76, 77, 78, 79, 80, 81, 82, 83, 84, 85, 86, 87, 88, 89, 90] (by decide +kernel) (by decide +kernel)
set_option maxRecDepth 20000 in
theorem gX8_behind_X8_copies : GoodIn wsX8_behind (wsV RX8 107 RX8 yX8_copies wsX8_copies) := goodIn_app (goodIn_of _ (by decide +kernel)) ggX8_behind_X8_copies
set_option maxRecDepth 20000 in
theorem ggX8_behind_X8_trades : GoodIn wsX8_behind wsX8_trades := goodIn_r _ [19, 11, 2, 20, 21, 22, 5, 23, 24, 25, 26, 27, 28, 29, 30, 31, 32, 33, 34, 35, 36, 37, 38, 39, 40, 41, 42, 43, 44, 45, 46, 47, 48, 49, 50, 51, 52, 53, 54, 55, 56, 57, 58, 59, 60, 61, 62, 63, 64, 65, 66, 67, 68, 69, 70, 71, 72, 73, 74, 75, 76, 77, 78, 79, 80, 81, 82, 83, 84, 85, 86, 87, 88, 89, 90] (by decide +kernel) (by decide +kernel)
set_option maxRecDepth 20000 in
theorem gX8_behind_X8_trades : GoodIn wsX8_behind (wsV RX8 233 RX8 yX8_trades wsX8_trades) := goodIn_app (goodIn_of _ (by decide +kernel)) ggX8_behind_X8_trades
theorem dX8_behind_0 : decode cX8_behind 0 = .ok (.iload_n 1, 1) := by decide +kernel
theorem dX8_behind_1 : decode cX8_behind 1 = .ok (.i2l, 1) := by decide +kernel
theorem dX8_behind_2 : decode cX8_behind 2 = .ok (.lconst 0, 1) := by decide +kernel
theorem dX8_behind_3 : decode cX8_behind 3 = .ok (.ldc2_w 271, 3) := by decide +kernel
theorem dX8_behind_6 : decode cX8_behind 6 = .ok (.invokestatic 110, 3) := by decide +kernel
theorem dX8_behind_9 : decode cX8_behind 9 = .ok (.ifCond .eq 11, 3) := by decide +kernel
theorem dX8_behind_12 : decode cX8_behind 12 = .ok (.aload_n 0, 1) := by decide +kernel
theorem dX8_behind_13 : decode cX8_behind 13 = .ok (.iload_n 2, 1) := by decide +kernel
theorem dX8_behind_14 : decode cX8_behind 14 = .ok (.invokevirtual 193, 3) := by decide +kernel
theorem dX8_behind_17 : decode cX8_behind 17 = .ok (.ifCond .ne 5, 3) := by decide +kernel
theorem dX8_behind_20 : decode cX8_behind 20 = .ok (.iconst (-1), 1) := by decide +kernel
theorem dX8_behind_21 : decode cX8_behind 21 = .ok (.ireturn, 1) := by decide +kernel
theorem dX8_behind_22 : decode cX8_behind 22 = .ok (.aload_n 0, 1) := by decide +kernel
theorem dX8_behind_23 : decode cX8_behind 23 = .ok (.iconst 0, 1) := by decide +kernel
theorem dX8_behind_24 : decode cX8_behind 24 = .ok (.sipush 286, 3) := by decide +kernel
theorem dX8_behind_27 : decode cX8_behind 27 = .ok (.invokevirtual 107, 3) := by decide +kernel
theorem dX8_behind_30 : decode cX8_behind 30 = .ok (.iconst 0, 1) := by decide +kernel
theorem dX8_behind_31 : decode cX8_behind 31 = .ok (.istore_n 3, 1) := by decide +kernel
theorem dX8_behind_32 : decode cX8_behind 32 = .ok (.iload_n 3, 1) := by decide +kernel
theorem dX8_behind_33 : decode cX8_behind 33 = .ok (.iload_n 1, 1) := by decide +kernel
theorem dX8_behind_34 : decode cX8_behind 34 = .ok (.if_icmp .ge 16, 3) := by decide +kernel
theorem dX8_behind_37 : decode cX8_behind 37 = .ok (.aload_n 0, 1) := by decide +kernel
theorem dX8_behind_38 : decode cX8_behind 38 = .ok (.sipush 286, 3) := by decide +kernel
theorem dX8_behind_41 : decode cX8_behind 41 = .ok (.invokevirtual 233, 3) := by decide +kernel
theorem dX8_behind_44 : decode cX8_behind 44 = .ok (.iinc 3 1, 3) := by decide +kernel
theorem dX8_behind_47 : decode cX8_behind 47 = .ok (.goto (-15), 3) := by decide +kernel
theorem dX8_behind_50 : decode cX8_behind 50 = .ok (.aload_n 0, 1) := by decide +kernel
theorem dX8_behind_51 : decode cX8_behind 51 = .ok (.getfield 46, 3) := by decide +kernel
theorem dX8_behind_54 : decode cX8_behind 54 = .ok (.sipush 290, 3) := by decide +kernel
theorem dX8_behind_57 : decode cX8_behind 57 = .ok (.iload_n 2, 1) := by decide +kernel
theorem dX8_behind_58 : decode cX8_behind 58 = .ok (.iadd, 1) := by decide +kernel
theorem dX8_behind_59 : decode cX8_behind 59 = .ok (.iaload, 1) := by decide +kernel
theorem dX8_behind_60 : decode cX8_behind 60 = .ok (.ireturn, 1) := by decide +kernel
theorem dX8_goods_0 : decode cX8_goods 0 = .ok (.iconst 0, 1) := by decide +kernel
theorem dX8_goods_1 : decode cX8_goods 1 = .ok (.istore_n 2, 1) := by decide +kernel
theorem dX8_goods_2 : decode cX8_goods 2 = .ok (.iconst 0, 1) := by decide +kernel
theorem dX8_goods_3 : decode cX8_goods 3 = .ok (.istore_n 3, 1) := by decide +kernel
theorem dX8_goods_4 : decode cX8_goods 4 = .ok (.iload_n 3, 1) := by decide +kernel
theorem dX8_goods_5 : decode cX8_goods 5 = .ok (.aload_n 0, 1) := by decide +kernel
theorem dX8_goods_6 : decode cX8_goods 6 = .ok (.getfield 98, 3) := by decide +kernel
theorem dX8_goods_9 : decode cX8_goods 9 = .ok (.if_icmp .ge 22, 3) := by decide +kernel
theorem dX8_goods_12 : decode cX8_goods 12 = .ok (.iload_n 2, 1) := by decide +kernel
theorem dX8_goods_13 : decode cX8_goods 13 = .ok (.aload_n 0, 1) := by decide +kernel
theorem dX8_goods_14 : decode cX8_goods 14 = .ok (.getfield 46, 3) := by decide +kernel
theorem dX8_goods_17 : decode cX8_goods 17 = .ok (.iload_n 1, 1) := by decide +kernel
theorem dX8_goods_18 : decode cX8_goods 18 = .ok (.iconst 4, 1) := by decide +kernel
theorem dX8_goods_19 : decode cX8_goods 19 = .ok (.iadd, 1) := by decide +kernel
theorem dX8_goods_20 : decode cX8_goods 20 = .ok (.iload_n 3, 1) := by decide +kernel
theorem dX8_goods_21 : decode cX8_goods 21 = .ok (.iadd, 1) := by decide +kernel
theorem dX8_goods_22 : decode cX8_goods 22 = .ok (.iaload, 1) := by decide +kernel
theorem dX8_goods_23 : decode cX8_goods 23 = .ok (.iadd, 1) := by decide +kernel
theorem dX8_goods_24 : decode cX8_goods 24 = .ok (.istore_n 2, 1) := by decide +kernel
theorem dX8_goods_25 : decode cX8_goods 25 = .ok (.iinc 3 1, 3) := by decide +kernel
theorem dX8_goods_28 : decode cX8_goods 28 = .ok (.goto (-24), 3) := by decide +kernel
theorem dX8_goods_31 : decode cX8_goods 31 = .ok (.iload_n 2, 1) := by decide +kernel
theorem dX8_goods_32 : decode cX8_goods 32 = .ok (.ireturn, 1) := by decide +kernel
set_option maxRecDepth 20000 in
theorem ggX8_goodsBy_X8_copies : GoodIn wsX8_goodsBy wsX8_copies := goodIn_r _ [5, 6, 62, 63, 64, 65, 66, 67, 68, 69, 70, 71, 72, 73, 74, 75, 76, 77, 78, 79, 80, 81, 82, 83, 84, 85, 86, 87, 88, 89, 90, 91, 92, 93, 94, 95, 96, 97] (by decide +kernel) (by decide +kernel)
set_option maxRecDepth 20000 in
theorem gX8_goodsBy_X8_copies : GoodIn wsX8_goodsBy (wsV RX8 107 RX8 yX8_copies wsX8_copies) := goodIn_app (goodIn_of _ (by decide +kernel)) ggX8_goodsBy_X8_copies
set_option maxRecDepth 20000 in
theorem ggX8_goodsBy_X8_gives : GoodIn wsX8_goodsBy wsX8_gives := goodIn_r _ [10, 11, 6, 12, 13, 4, 14, 15, 16, 17, 18, 19, 20, 62, 63, 64, 65, 66, 67, 68, 69, 70, 71, 72, 73, 74, 75, 76, 77, 78, 79, 80, 81, 82, 83, 84, 85, 86, 87, 88, 89, 90, 91, 92, 93, 94, 95, 96, 97] (by decide +kernel) (by decide +kernel)
set_option maxRecDepth 20000 in
theorem gX8_goodsBy_X8_gives : GoodIn wsX8_goodsBy (wsV RX8 223 RX8 yX8_gives wsX8_gives) := goodIn_app (goodIn_of _ (by decide +kernel)) ggX8_goodsBy_X8_gives
set_option maxRecDepth 20000 in
theorem ggX8_goodsBy_X8_trades : GoodIn wsX8_goodsBy wsX8_trades := goodIn_r _ [24, 25, 6, 26, 27, 28, 4, 29, 30, 31, 32, 33, 34, 35, 36, 37, 38, 39, 40, 41, 42, 43, 44, 45, 46, 47, 48, 49, 50, 51, 52, 53, 54, 55, 56, 57, 18, 19, 20, 62, 63, 64, 65, 66, 67, 68, 69, 70, 71, 72, 73, 74, 75, 76, 77, 78, 79, 80, 81, 82, 83, 84, 85, 86, 87, 88, 89, 90, 91, 92, 93, 94, 95, 96, 97] (by decide +kernel) (by decide +kernel)
set_option maxRecDepth 20000 in
theorem gX8_goodsBy_X8_trades : GoodIn wsX8_goodsBy (wsV RX8 233 RX8 yX8_trades wsX8_trades) := goodIn_app (goodIn_of _ (by decide +kernel)) ggX8_goodsBy_X8_trades
set_option maxRecDepth 20000 in
theorem ggX8_goodsBy_X8_goods : GoodIn wsX8_goodsBy wsX8_goods := goodIn_r _ [61, 25, 6, 62, 63, 64, 65, 66, 67, 68, 69, 70, 71, 72, 73, 74, 75, 76, 77, 78, 79, 80, 81, 82, 83, 84, 85, 86, 87, 88, 89, 90, 91, 92, 93, 94, 95, 96, 97] (by decide +kernel) (by decide +kernel)
set_option maxRecDepth 20000 in
theorem gX8_goodsBy_X8_goods : GoodIn wsX8_goodsBy (wsV RX8 273 RX8 yX8_goods wsX8_goods) := goodIn_app (goodIn_of _ (by decide +kernel)) ggX8_goodsBy_X8_goods
theorem dX8_goodsBy_0 : decode cX8_goodsBy 0 = .ok (.aload_n 0, 1) := by decide +kernel
theorem dX8_goodsBy_1 : decode cX8_goodsBy 1 = .ok (.iconst 0, 1) := by decide +kernel
theorem dX8_goodsBy_2 : decode cX8_goodsBy 2 = .ok (.sipush 286, 3) := by decide +kernel
theorem dX8_goodsBy_5 : decode cX8_goodsBy 5 = .ok (.invokevirtual 107, 3) := by decide +kernel
theorem dX8_goodsBy_8 : decode cX8_goodsBy 8 = .ok (.iload_n 1, 1) := by decide +kernel
theorem dX8_goodsBy_9 : decode cX8_goodsBy 9 = .ok (.ifCond .lt 16, 3) := by decide +kernel
theorem dX8_goodsBy_12 : decode cX8_goodsBy 12 = .ok (.aload_n 0, 1) := by decide +kernel
theorem dX8_goodsBy_13 : decode cX8_goodsBy 13 = .ok (.sipush 286, 3) := by decide +kernel
theorem dX8_goodsBy_16 : decode cX8_goodsBy 16 = .ok (.iload_n 1, 1) := by decide +kernel
theorem dX8_goodsBy_17 : decode cX8_goodsBy 17 = .ok (.iconst 2, 1) := by decide +kernel
theorem dX8_goodsBy_18 : decode cX8_goodsBy 18 = .ok (.idiv, 1) := by decide +kernel
theorem dX8_goodsBy_19 : decode cX8_goodsBy 19 = .ok (.iload_n 1, 1) := by decide +kernel
theorem dX8_goodsBy_20 : decode cX8_goodsBy 20 = .ok (.iconst 2, 1) := by decide +kernel
theorem dX8_goodsBy_21 : decode cX8_goodsBy 21 = .ok (.irem, 1) := by decide +kernel
theorem dX8_goodsBy_22 : decode cX8_goodsBy 22 = .ok (.invokevirtual 223, 3) := by decide +kernel
theorem dX8_goodsBy_25 : decode cX8_goodsBy 25 = .ok (.iconst 0, 1) := by decide +kernel
theorem dX8_goodsBy_26 : decode cX8_goodsBy 26 = .ok (.istore_n 3, 1) := by decide +kernel
theorem dX8_goodsBy_27 : decode cX8_goodsBy 27 = .ok (.iload_n 3, 1) := by decide +kernel
theorem dX8_goodsBy_28 : decode cX8_goodsBy 28 = .ok (.iload_n 2, 1) := by decide +kernel
theorem dX8_goodsBy_29 : decode cX8_goodsBy 29 = .ok (.if_icmp .ge 16, 3) := by decide +kernel
theorem dX8_goodsBy_32 : decode cX8_goodsBy 32 = .ok (.aload_n 0, 1) := by decide +kernel
theorem dX8_goodsBy_33 : decode cX8_goodsBy 33 = .ok (.sipush 286, 3) := by decide +kernel
theorem dX8_goodsBy_36 : decode cX8_goodsBy 36 = .ok (.invokevirtual 233, 3) := by decide +kernel
theorem dX8_goodsBy_39 : decode cX8_goodsBy 39 = .ok (.iinc 3 1, 3) := by decide +kernel
theorem dX8_goodsBy_42 : decode cX8_goodsBy 42 = .ok (.goto (-15), 3) := by decide +kernel
theorem dX8_goodsBy_45 : decode cX8_goodsBy 45 = .ok (.aload_n 0, 1) := by decide +kernel
theorem dX8_goodsBy_46 : decode cX8_goodsBy 46 = .ok (.sipush 286, 3) := by decide +kernel
theorem dX8_goodsBy_49 : decode cX8_goodsBy 49 = .ok (.invokevirtual 273, 3) := by decide +kernel
theorem dX8_goodsBy_52 : decode cX8_goodsBy 52 = .ok (.ireturn, 1) := by decide +kernel
set_option maxRecDepth 20000 in
theorem ggX8_worth_X8_in : GoodIn wsX8_worth wsX8_in := goodIn_r _ [6] (by decide +kernel) (by decide +kernel)
set_option maxRecDepth 20000 in
theorem gX8_worth_X8_in : GoodIn wsX8_worth (va_wsS RX8 110 yX8_in wsX8_in) := goodIn_app (goodIn_of _ (by decide +kernel)) ggX8_worth_X8_in
set_option maxRecDepth 20000 in
theorem ggX8_worth_X8_goodsBy : GoodIn wsX8_worth wsX8_goodsBy := goodIn_r _ [10, 11, 12, 13, 5, 14, 15, 16, 17, 18, 19, 20, 21, 22, 23, 24, 25, 26, 27, 28, 29, 30, 31, 32, 33, 34, 35, 36, 37, 38, 39, 40, 41, 42, 43, 44, 45, 46, 47, 48, 49, 50, 51, 52, 53, 54, 55, 56, 57, 58, 59, 60, 61, 62, 63, 64, 65, 66, 67, 68, 69, 70, 71, 72, 73, 74, 75, 76, 77, 78, 79, 80, 81, 82, 83, 84, 85, 86, 87, 88, 89, 90, 91, 92, 93, 94, 95, 96, 97, 98, 99, 100, 101, 102, 103, 104, 105, 106] (by decide +kernel) (by decide +kernel)
set_option maxRecDepth 20000 in
theorem gX8_worth_X8_goodsBy : GoodIn wsX8_worth (wsV RX8 276 RX8 yX8_goodsBy wsX8_goodsBy) := goodIn_app (goodIn_of _ (by decide +kernel)) ggX8_worth_X8_goodsBy
theorem dX8_worth_0 : decode cX8_worth 0 = .ok (.iload_n 1, 1) := by decide +kernel
theorem dX8_worth_1 : decode cX8_worth 1 = .ok (.i2l, 1) := by decide +kernel
theorem dX8_worth_2 : decode cX8_worth 2 = .ok (.lconst 1, 1) := by decide +kernel
theorem dX8_worth_3 : decode cX8_worth 3 = .ok (.ldc2_w 231, 3) := by decide +kernel
theorem dX8_worth_6 : decode cX8_worth 6 = .ok (.invokestatic 110, 3) := by decide +kernel
theorem dX8_worth_9 : decode cX8_worth 9 = .ok (.ifCond .eq 13, 3) := by decide +kernel
theorem dX8_worth_12 : decode cX8_worth 12 = .ok (.iload_n 2, 1) := by decide +kernel
theorem dX8_worth_13 : decode cX8_worth 13 = .ok (.i2l, 1) := by decide +kernel
theorem dX8_worth_14 : decode cX8_worth 14 = .ok (.lconst 0, 1) := by decide +kernel
theorem dX8_worth_15 : decode cX8_worth 15 = .ok (.lconst 1, 1) := by decide +kernel
theorem dX8_worth_16 : decode cX8_worth 16 = .ok (.invokestatic 110, 3) := by decide +kernel
theorem dX8_worth_19 : decode cX8_worth 19 = .ok (.ifCond .ne 5, 3) := by decide +kernel
theorem dX8_worth_22 : decode cX8_worth 22 = .ok (.iconst (-1), 1) := by decide +kernel
theorem dX8_worth_23 : decode cX8_worth 23 = .ok (.ireturn, 1) := by decide +kernel
theorem dX8_worth_24 : decode cX8_worth 24 = .ok (.iconst (-1), 1) := by decide +kernel
theorem dX8_worth_25 : decode cX8_worth 25 = .ok (.istore_n 3, 1) := by decide +kernel
theorem dX8_worth_26 : decode cX8_worth 26 = .ok (.iconst 0, 1) := by decide +kernel
theorem dX8_worth_27 : decode cX8_worth 27 = .ok (.istore 4, 2) := by decide +kernel
theorem dX8_worth_29 : decode cX8_worth 29 = .ok (.iload 4, 2) := by decide +kernel
theorem dX8_worth_31 : decode cX8_worth 31 = .ok (.iconst 2, 1) := by decide +kernel
theorem dX8_worth_32 : decode cX8_worth 32 = .ok (.aload_n 0, 1) := by decide +kernel
theorem dX8_worth_33 : decode cX8_worth 33 = .ok (.getfield 101, 3) := by decide +kernel
theorem dX8_worth_36 : decode cX8_worth 36 = .ok (.imul, 1) := by decide +kernel
theorem dX8_worth_37 : decode cX8_worth 37 = .ok (.if_icmp .ge 32, 3) := by decide +kernel
theorem dX8_worth_40 : decode cX8_worth 40 = .ok (.aload_n 0, 1) := by decide +kernel
theorem dX8_worth_41 : decode cX8_worth 41 = .ok (.iload 4, 2) := by decide +kernel
theorem dX8_worth_43 : decode cX8_worth 43 = .ok (.iload_n 1, 1) := by decide +kernel
theorem dX8_worth_44 : decode cX8_worth 44 = .ok (.invokevirtual 276, 3) := by decide +kernel
theorem dX8_worth_47 : decode cX8_worth 47 = .ok (.aload_n 0, 1) := by decide +kernel
theorem dX8_worth_48 : decode cX8_worth 48 = .ok (.iload_n 3, 1) := by decide +kernel
theorem dX8_worth_49 : decode cX8_worth 49 = .ok (.iload_n 1, 1) := by decide +kernel
theorem dX8_worth_50 : decode cX8_worth 50 = .ok (.invokevirtual 276, 3) := by decide +kernel
theorem dX8_worth_53 : decode cX8_worth 53 = .ok (.if_icmp .le 8, 3) := by decide +kernel
theorem dX8_worth_56 : decode cX8_worth 56 = .ok (.iload 4, 2) := by decide +kernel
theorem dX8_worth_58 : decode cX8_worth 58 = .ok (.goto 4, 3) := by decide +kernel
theorem dX8_worth_61 : decode cX8_worth 61 = .ok (.iload_n 3, 1) := by decide +kernel
theorem dX8_worth_62 : decode cX8_worth 62 = .ok (.istore_n 3, 1) := by decide +kernel
theorem dX8_worth_63 : decode cX8_worth 63 = .ok (.iinc 4 1, 3) := by decide +kernel
theorem dX8_worth_66 : decode cX8_worth 66 = .ok (.goto (-37), 3) := by decide +kernel
theorem dX8_worth_69 : decode cX8_worth 69 = .ok (.iload_n 2, 1) := by decide +kernel
theorem dX8_worth_70 : decode cX8_worth 70 = .ok (.iconst 1, 1) := by decide +kernel
theorem dX8_worth_71 : decode cX8_worth 71 = .ok (.if_icmp .ne 12, 3) := by decide +kernel
theorem dX8_worth_74 : decode cX8_worth 74 = .ok (.aload_n 0, 1) := by decide +kernel
theorem dX8_worth_75 : decode cX8_worth 75 = .ok (.iload_n 3, 1) := by decide +kernel
theorem dX8_worth_76 : decode cX8_worth 76 = .ok (.iload_n 1, 1) := by decide +kernel
theorem dX8_worth_77 : decode cX8_worth 77 = .ok (.invokevirtual 276, 3) := by decide +kernel
theorem dX8_worth_80 : decode cX8_worth 80 = .ok (.goto 22, 3) := by decide +kernel
theorem dX8_worth_83 : decode cX8_worth 83 = .ok (.iload_n 3, 1) := by decide +kernel
theorem dX8_worth_84 : decode cX8_worth 84 = .ok (.ifCond .ge 8, 3) := by decide +kernel
theorem dX8_worth_87 : decode cX8_worth 87 = .ok (.bipush 99, 2) := by decide +kernel
theorem dX8_worth_89 : decode cX8_worth 89 = .ok (.goto 13, 3) := by decide +kernel
theorem dX8_worth_92 : decode cX8_worth 92 = .ok (.bipush 10, 2) := by decide +kernel
theorem dX8_worth_94 : decode cX8_worth 94 = .ok (.iload_n 3, 1) := by decide +kernel
theorem dX8_worth_95 : decode cX8_worth 95 = .ok (.iconst 2, 1) := by decide +kernel
theorem dX8_worth_96 : decode cX8_worth 96 = .ok (.idiv, 1) := by decide +kernel
theorem dX8_worth_97 : decode cX8_worth 97 = .ok (.imul, 1) := by decide +kernel
theorem dX8_worth_98 : decode cX8_worth 98 = .ok (.iload_n 3, 1) := by decide +kernel
theorem dX8_worth_99 : decode cX8_worth 99 = .ok (.iconst 2, 1) := by decide +kernel
theorem dX8_worth_100 : decode cX8_worth 100 = .ok (.irem, 1) := by decide +kernel
theorem dX8_worth_101 : decode cX8_worth 101 = .ok (.iadd, 1) := by decide +kernel
theorem dX8_worth_102 : decode cX8_worth 102 = .ok (.ireturn, 1) := by decide +kernel
theorem dX8_isAsked_0 : decode cX8_isAsked 0 = .ok (.iconst 0, 1) := by decide +kernel
theorem dX8_isAsked_1 : decode cX8_isAsked 1 = .ok (.istore 4, 2) := by decide +kernel
theorem dX8_isAsked_3 : decode cX8_isAsked 3 = .ok (.iconst 0, 1) := by decide +kernel
theorem dX8_isAsked_4 : decode cX8_isAsked 4 = .ok (.istore 5, 2) := by decide +kernel
theorem dX8_isAsked_6 : decode cX8_isAsked 6 = .ok (.iload 5, 2) := by decide +kernel
theorem dX8_isAsked_8 : decode cX8_isAsked 8 = .ok (.aload_n 0, 1) := by decide +kernel
theorem dX8_isAsked_9 : decode cX8_isAsked 9 = .ok (.getfield 166, 3) := by decide +kernel
theorem dX8_isAsked_12 : decode cX8_isAsked 12 = .ok (.if_icmp .ge 54, 3) := by decide +kernel
theorem dX8_isAsked_15 : decode cX8_isAsked 15 = .ok (.iload 4, 2) := by decide +kernel
theorem dX8_isAsked_17 : decode cX8_isAsked 17 = .ok (.ifCond .ne 36, 3) := by decide +kernel
theorem dX8_isAsked_20 : decode cX8_isAsked 20 = .ok (.aload_n 0, 1) := by decide +kernel
theorem dX8_isAsked_21 : decode cX8_isAsked 21 = .ok (.getfield 53, 3) := by decide +kernel
theorem dX8_isAsked_24 : decode cX8_isAsked 24 = .ok (.iload 5, 2) := by decide +kernel
theorem dX8_isAsked_26 : decode cX8_isAsked 26 = .ok (.iaload, 1) := by decide +kernel
theorem dX8_isAsked_27 : decode cX8_isAsked 27 = .ok (.iload_n 1, 1) := by decide +kernel
theorem dX8_isAsked_28 : decode cX8_isAsked 28 = .ok (.if_icmp .ne 29, 3) := by decide +kernel
theorem dX8_isAsked_31 : decode cX8_isAsked 31 = .ok (.aload_n 0, 1) := by decide +kernel
theorem dX8_isAsked_32 : decode cX8_isAsked 32 = .ok (.getfield 56, 3) := by decide +kernel
theorem dX8_isAsked_35 : decode cX8_isAsked 35 = .ok (.iload 5, 2) := by decide +kernel
theorem dX8_isAsked_37 : decode cX8_isAsked 37 = .ok (.iaload, 1) := by decide +kernel
theorem dX8_isAsked_38 : decode cX8_isAsked 38 = .ok (.iload_n 2, 1) := by decide +kernel
theorem dX8_isAsked_39 : decode cX8_isAsked 39 = .ok (.if_icmp .ne 18, 3) := by decide +kernel
theorem dX8_isAsked_42 : decode cX8_isAsked 42 = .ok (.aload_n 0, 1) := by decide +kernel
theorem dX8_isAsked_43 : decode cX8_isAsked 43 = .ok (.getfield 59, 3) := by decide +kernel
theorem dX8_isAsked_46 : decode cX8_isAsked 46 = .ok (.iload 5, 2) := by decide +kernel
theorem dX8_isAsked_48 : decode cX8_isAsked 48 = .ok (.iaload, 1) := by decide +kernel
theorem dX8_isAsked_49 : decode cX8_isAsked 49 = .ok (.iload_n 3, 1) := by decide +kernel
theorem dX8_isAsked_50 : decode cX8_isAsked 50 = .ok (.if_icmp .ne 7, 3) := by decide +kernel
theorem dX8_isAsked_53 : decode cX8_isAsked 53 = .ok (.iconst 1, 1) := by decide +kernel
theorem dX8_isAsked_54 : decode cX8_isAsked 54 = .ok (.goto 4, 3) := by decide +kernel
theorem dX8_isAsked_57 : decode cX8_isAsked 57 = .ok (.iconst 0, 1) := by decide +kernel
theorem dX8_isAsked_58 : decode cX8_isAsked 58 = .ok (.istore 4, 2) := by decide +kernel
theorem dX8_isAsked_60 : decode cX8_isAsked 60 = .ok (.iinc 5 1, 3) := by decide +kernel
theorem dX8_isAsked_63 : decode cX8_isAsked 63 = .ok (.goto (-57), 3) := by decide +kernel
theorem dX8_isAsked_66 : decode cX8_isAsked 66 = .ok (.iload 4, 2) := by decide +kernel
theorem dX8_isAsked_68 : decode cX8_isAsked 68 = .ok (.ireturn, 1) := by decide +kernel
set_option maxRecDepth 20000 in
theorem ggX8_tells_X8_in : GoodIn wsX8_tells wsX8_in := goodIn_r _ [7] (by decide +kernel) (by decide +kernel)
set_option maxRecDepth 20000 in
theorem gX8_tells_X8_in : GoodIn wsX8_tells (va_wsS RX8 110 yX8_in wsX8_in) := goodIn_app (goodIn_of _ (by decide +kernel)) ggX8_tells_X8_in
set_option maxRecDepth 20000 in
theorem ggX8_tells_X8_shifts : GoodIn wsX8_tells wsX8_shifts := goodIn_r _ [11, 4, 5, 6, 7, 12, 13, 14, 15, 16, 17, 18, 19, 3, 20, 21, 22, 23, 24, 25, 26, 27, 28, 29, 30, 31, 32, 33, 34, 35, 36, 37, 38, 39, 50, 51, 52, 53, 54, 55, 56, 57, 58, 59, 60, 61, 62, 63, 64, 65, 66, 67, 68, 69, 70, 71, 72, 73, 74, 75, 76, 77, 78, 79, 80, 81, 82, 83, 84, 85] (by decide +kernel) (by decide +kernel)
set_option maxRecDepth 20000 in
theorem gX8_tells_X8_shifts : GoodIn wsX8_tells (wsV RX8 279 RX8 yX8_shifts wsX8_shifts) := goodIn_app (goodIn_of _ (by decide +kernel)) ggX8_tells_X8_shifts
set_option maxRecDepth 20000 in
theorem ggX8_tells_X8_isAsked : GoodIn wsX8_tells wsX8_isAsked := goodIn_r _ [43, 16, 17, 18, 19, 50, 51, 52, 53, 54, 55, 56, 57, 58, 59, 60, 61, 62, 63, 64, 65, 66, 67, 68, 69, 70, 71, 72, 73, 74, 75, 76, 77, 78, 79, 80, 81, 82, 83, 84, 85] (by decide +kernel) (by decide +kernel)
set_option maxRecDepth 20000 in
theorem gX8_tells_X8_isAsked : GoodIn wsX8_tells (wsV RX8 282 RX8 yX8_isAsked wsX8_isAsked) := goodIn_app (goodIn_of _ (by decide +kernel)) ggX8_tells_X8_isAsked
set_option maxRecDepth 20000 in
theorem ggX8_tells_X8_isSo : GoodIn wsX8_tells wsX8_isSo := goodIn_r _ [15, 16, 17, 18, 19, 3, 20, 21, 22, 6, 23, 24, 25, 26, 27, 28, 29, 30, 31, 32, 33, 34, 35, 36, 37, 38, 39, 50, 51, 52, 53, 54, 55, 56, 57, 58, 59, 60, 61, 62, 63, 64, 65, 66, 67, 68, 69, 70, 71, 72, 73, 74, 75, 76, 77, 78, 79, 80, 81, 82, 83, 84, 85] (by decide +kernel) (by decide +kernel)
set_option maxRecDepth 20000 in
theorem gX8_tells_X8_isSo : GoodIn wsX8_tells (wsV RX8 253 RX8 yX8_isSo wsX8_isSo) := goodIn_app (goodIn_of _ (by decide +kernel)) ggX8_tells_X8_isSo
set_option maxRecDepth 20000 in
theorem ggX8_tells_X8_dampOf : GoodIn wsX8_tells wsX8_dampOf := goodIn_r _ [23, 24, 25, 50, 51, 52, 53, 54, 55, 56, 57, 58, 59, 60, 61, 62, 63, 64, 65, 66, 67, 68, 69, 70, 71, 72, 73, 74, 75, 76, 77, 78, 79, 80, 81, 82, 83, 84, 85] (by decide +kernel) (by decide +kernel)
set_option maxRecDepth 20000 in
theorem gX8_tells_X8_dampOf : GoodIn wsX8_tells (wsV RX8 181 RX8 yX8_dampOf wsX8_dampOf) := goodIn_app (goodIn_of _ (by decide +kernel)) ggX8_tells_X8_dampOf
set_option maxRecDepth 20000 in
theorem ggX8_tells_X8_meets : GoodIn wsX8_tells wsX8_meets := goodIn_r _ [29, 30, 31, 32, 33, 34, 6, 35, 36, 37, 38, 39, 50, 51, 52, 53, 54, 55, 56, 57, 58, 59, 60, 61, 62, 63, 64, 65, 66, 67, 68, 69, 70, 71, 72, 73, 74, 75, 76, 77, 78, 79, 80, 81, 82, 83, 84, 85] (by decide +kernel) (by decide +kernel)
set_option maxRecDepth 20000 in
theorem gX8_tells_X8_meets : GoodIn wsX8_tells (wsV RX8 177 RX8 yX8_meets wsX8_meets) := goodIn_app (goodIn_of _ (by decide +kernel)) ggX8_tells_X8_meets
set_option maxRecDepth 20000 in
theorem ggX8_tells_X8_larger : GoodIn wsX8_tells wsX8_larger := goodIn_r _ [46] (by decide +kernel) (by decide +kernel)
set_option maxRecDepth 20000 in
theorem gX8_tells_X8_larger : GoodIn wsX8_tells (va_wsS RX8 210 yX8_larger wsX8_larger) := goodIn_app (goodIn_of _ (by decide +kernel)) ggX8_tells_X8_larger
set_option maxRecDepth 20000 in
theorem ggX8_tells_X8_smaller : GoodIn wsX8_tells wsX8_smaller := goodIn_r _ [49] (by decide +kernel) (by decide +kernel)
set_option maxRecDepth 20000 in
theorem gX8_tells_X8_smaller : GoodIn wsX8_tells (va_wsS RX8 207 yX8_smaller wsX8_smaller) := goodIn_app (goodIn_of _ (by decide +kernel)) ggX8_tells_X8_smaller
theorem dX8_tells_0 : decode cX8_tells 0 = .ok (.iload_n 1, 1) := by decide +kernel
theorem dX8_tells_1 : decode cX8_tells 1 = .ok (.i2l, 1) := by decide +kernel
theorem dX8_tells_2 : decode cX8_tells 2 = .ok (.lconst 0, 1) := by decide +kernel
theorem dX8_tells_3 : decode cX8_tells 3 = .ok (.lconst 1, 1) := by decide +kernel
theorem dX8_tells_4 : decode cX8_tells 4 = .ok (.invokestatic 110, 3) := by decide +kernel
theorem dX8_tells_7 : decode cX8_tells 7 = .ok (.ifCond .ne 5, 3) := by decide +kernel
theorem dX8_tells_10 : decode cX8_tells 10 = .ok (.iconst (-1), 1) := by decide +kernel
theorem dX8_tells_11 : decode cX8_tells 11 = .ok (.ireturn, 1) := by decide +kernel
theorem dX8_tells_12 : decode cX8_tells 12 = .ok (.bipush (-4), 2) := by decide +kernel
theorem dX8_tells_14 : decode cX8_tells 14 = .ok (.istore_n 2, 1) := by decide +kernel
theorem dX8_tells_15 : decode cX8_tells 15 = .ok (.bipush 99, 2) := by decide +kernel
theorem dX8_tells_17 : decode cX8_tells 17 = .ok (.istore_n 3, 1) := by decide +kernel
theorem dX8_tells_18 : decode cX8_tells 18 = .ok (.aload_n 0, 1) := by decide +kernel
theorem dX8_tells_19 : decode cX8_tells 19 = .ok (.iconst 0, 1) := by decide +kernel
theorem dX8_tells_20 : decode cX8_tells 20 = .ok (.invokevirtual 279, 3) := by decide +kernel
theorem dX8_tells_23 : decode cX8_tells 23 = .ok (.istore 4, 2) := by decide +kernel
theorem dX8_tells_25 : decode cX8_tells 25 = .ok (.iconst 0, 1) := by decide +kernel
theorem dX8_tells_26 : decode cX8_tells 26 = .ok (.istore 5, 2) := by decide +kernel
theorem dX8_tells_28 : decode cX8_tells 28 = .ok (.iload 5, 2) := by decide +kernel
theorem dX8_tells_30 : decode cX8_tells 30 = .ok (.bipush 12, 2) := by decide +kernel
theorem dX8_tells_32 : decode cX8_tells 32 = .ok (.aload_n 0, 1) := by decide +kernel
theorem dX8_tells_33 : decode cX8_tells 33 = .ok (.getfield 98, 3) := by decide +kernel
theorem dX8_tells_36 : decode cX8_tells 36 = .ok (.imul, 1) := by decide +kernel
theorem dX8_tells_37 : decode cX8_tells 37 = .ok (.if_icmp .ge 175, 3) := by decide +kernel
theorem dX8_tells_40 : decode cX8_tells 40 = .ok (.iload 4, 2) := by decide +kernel
theorem dX8_tells_42 : decode cX8_tells 42 = .ok (.ifCond .le 170, 3) := by decide +kernel
theorem dX8_tells_45 : decode cX8_tells 45 = .ok (.iload 5, 2) := by decide +kernel
theorem dX8_tells_47 : decode cX8_tells 47 = .ok (.bipush 12, 2) := by decide +kernel
theorem dX8_tells_49 : decode cX8_tells 49 = .ok (.idiv, 1) := by decide +kernel
theorem dX8_tells_50 : decode cX8_tells 50 = .ok (.istore 6, 2) := by decide +kernel
theorem dX8_tells_52 : decode cX8_tells 52 = .ok (.iload 5, 2) := by decide +kernel
theorem dX8_tells_54 : decode cX8_tells 54 = .ok (.bipush 12, 2) := by decide +kernel
theorem dX8_tells_56 : decode cX8_tells 56 = .ok (.irem, 1) := by decide +kernel
theorem dX8_tells_57 : decode cX8_tells 57 = .ok (.bipush 6, 2) := by decide +kernel
theorem dX8_tells_59 : decode cX8_tells 59 = .ok (.idiv, 1) := by decide +kernel
theorem dX8_tells_60 : decode cX8_tells 60 = .ok (.istore 7, 2) := by decide +kernel
theorem dX8_tells_62 : decode cX8_tells 62 = .ok (.iload 5, 2) := by decide +kernel
theorem dX8_tells_64 : decode cX8_tells 64 = .ok (.bipush 6, 2) := by decide +kernel
theorem dX8_tells_66 : decode cX8_tells 66 = .ok (.irem, 1) := by decide +kernel
theorem dX8_tells_67 : decode cX8_tells 67 = .ok (.istore 8, 2) := by decide +kernel
theorem dX8_tells_69 : decode cX8_tells 69 = .ok (.iload 8, 2) := by decide +kernel
theorem dX8_tells_71 : decode cX8_tells 71 = .ok (.aload_n 0, 1) := by decide +kernel
theorem dX8_tells_72 : decode cX8_tells 72 = .ok (.getfield 7, 3) := by decide +kernel
theorem dX8_tells_75 : decode cX8_tells 75 = .ok (.iload 7, 2) := by decide +kernel
theorem dX8_tells_77 : decode cX8_tells 77 = .ok (.iaload, 1) := by decide +kernel
theorem dX8_tells_78 : decode cX8_tells 78 = .ok (.if_icmp .ge 128, 3) := by decide +kernel
theorem dX8_tells_81 : decode cX8_tells 81 = .ok (.aload_n 0, 1) := by decide +kernel
theorem dX8_tells_82 : decode cX8_tells 82 = .ok (.iload 6, 2) := by decide +kernel
theorem dX8_tells_84 : decode cX8_tells 84 = .ok (.iload 7, 2) := by decide +kernel
theorem dX8_tells_86 : decode cX8_tells 86 = .ok (.iload 8, 2) := by decide +kernel
theorem dX8_tells_88 : decode cX8_tells 88 = .ok (.invokevirtual 282, 3) := by decide +kernel
theorem dX8_tells_91 : decode cX8_tells 91 = .ok (.ifCond .ne 115, 3) := by decide +kernel
theorem dX8_tells_94 : decode cX8_tells 94 = .ok (.iconst 0, 1) := by decide +kernel
theorem dX8_tells_95 : decode cX8_tells 95 = .ok (.istore 9, 2) := by decide +kernel
theorem dX8_tells_97 : decode cX8_tells 97 = .ok (.bipush (-40), 2) := by decide +kernel
theorem dX8_tells_99 : decode cX8_tells 99 = .ok (.istore 10, 2) := by decide +kernel
theorem dX8_tells_101 : decode cX8_tells 101 = .ok (.iload 10, 2) := by decide +kernel
theorem dX8_tells_103 : decode cX8_tells 103 = .ok (.bipush 40, 2) := by decide +kernel
theorem dX8_tells_105 : decode cX8_tells 105 = .ok (.if_icmp .gt 57, 3) := by decide +kernel
theorem dX8_tells_108 : decode cX8_tells 108 = .ok (.iload 9, 2) := by decide +kernel
theorem dX8_tells_110 : decode cX8_tells 110 = .ok (.aload_n 0, 1) := by decide +kernel
theorem dX8_tells_111 : decode cX8_tells 111 = .ok (.iload 10, 2) := by decide +kernel
theorem dX8_tells_113 : decode cX8_tells 113 = .ok (.iload 10, 2) := by decide +kernel
theorem dX8_tells_115 : decode cX8_tells 115 = .ok (.invokevirtual 253, 3) := by decide +kernel
theorem dX8_tells_118 : decode cX8_tells 118 = .ok (.ifCond .eq 34, 3) := by decide +kernel
theorem dX8_tells_121 : decode cX8_tells 121 = .ok (.aload_n 0, 1) := by decide +kernel
theorem dX8_tells_122 : decode cX8_tells 122 = .ok (.iload 6, 2) := by decide +kernel
theorem dX8_tells_124 : decode cX8_tells 124 = .ok (.iload 7, 2) := by decide +kernel
theorem dX8_tells_126 : decode cX8_tells 126 = .ok (.iload 8, 2) := by decide +kernel
theorem dX8_tells_128 : decode cX8_tells 128 = .ok (.iload 10, 2) := by decide +kernel
theorem dX8_tells_130 : decode cX8_tells 130 = .ok (.iload 10, 2) := by decide +kernel
theorem dX8_tells_132 : decode cX8_tells 132 = .ok (.aload_n 0, 1) := by decide +kernel
theorem dX8_tells_133 : decode cX8_tells 133 = .ok (.aload_n 0, 1) := by decide +kernel
theorem dX8_tells_134 : decode cX8_tells 134 = .ok (.getfield 46, 3) := by decide +kernel
theorem dX8_tells_137 : decode cX8_tells 137 = .ok (.iconst 3, 1) := by decide +kernel
theorem dX8_tells_138 : decode cX8_tells 138 = .ok (.iaload, 1) := by decide +kernel
theorem dX8_tells_139 : decode cX8_tells 139 = .ok (.invokevirtual 181, 3) := by decide +kernel
theorem dX8_tells_142 : decode cX8_tells 142 = .ok (.invokevirtual 177, 3) := by decide +kernel
theorem dX8_tells_145 : decode cX8_tells 145 = .ok (.ifCond .eq 7, 3) := by decide +kernel
theorem dX8_tells_148 : decode cX8_tells 148 = .ok (.iconst 1, 1) := by decide +kernel
theorem dX8_tells_149 : decode cX8_tells 149 = .ok (.goto 4, 3) := by decide +kernel
theorem dX8_tells_152 : decode cX8_tells 152 = .ok (.iconst 0, 1) := by decide +kernel
theorem dX8_tells_153 : decode cX8_tells 153 = .ok (.iadd, 1) := by decide +kernel
theorem dX8_tells_154 : decode cX8_tells 154 = .ok (.istore 9, 2) := by decide +kernel
theorem dX8_tells_156 : decode cX8_tells 156 = .ok (.iinc 10 1, 3) := by decide +kernel
theorem dX8_tells_159 : decode cX8_tells 159 = .ok (.goto (-58), 3) := by decide +kernel
theorem dX8_tells_162 : decode cX8_tells 162 = .ok (.iload 9, 2) := by decide +kernel
theorem dX8_tells_164 : decode cX8_tells 164 = .ok (.iload 4, 2) := by decide +kernel
theorem dX8_tells_166 : decode cX8_tells 166 = .ok (.iload 9, 2) := by decide +kernel
theorem dX8_tells_168 : decode cX8_tells 168 = .ok (.isub, 1) := by decide +kernel
theorem dX8_tells_169 : decode cX8_tells 169 = .ok (.invokestatic 210, 3) := by decide +kernel
theorem dX8_tells_172 : decode cX8_tells 172 = .ok (.istore 10, 2) := by decide +kernel
theorem dX8_tells_174 : decode cX8_tells 174 = .ok (.iload 10, 2) := by decide +kernel
theorem dX8_tells_176 : decode cX8_tells 176 = .ok (.iload_n 3, 1) := by decide +kernel
theorem dX8_tells_177 : decode cX8_tells 177 = .ok (.if_icmp .ge 20, 3) := by decide +kernel
theorem dX8_tells_180 : decode cX8_tells 180 = .ok (.bipush 100, 2) := by decide +kernel
theorem dX8_tells_182 : decode cX8_tells 182 = .ok (.iload 6, 2) := by decide +kernel
theorem dX8_tells_184 : decode cX8_tells 184 = .ok (.imul, 1) := by decide +kernel
theorem dX8_tells_185 : decode cX8_tells 185 = .ok (.bipush 10, 2) := by decide +kernel
theorem dX8_tells_187 : decode cX8_tells 187 = .ok (.iload 7, 2) := by decide +kernel
theorem dX8_tells_189 : decode cX8_tells 189 = .ok (.imul, 1) := by decide +kernel
theorem dX8_tells_190 : decode cX8_tells 190 = .ok (.iadd, 1) := by decide +kernel
theorem dX8_tells_191 : decode cX8_tells 191 = .ok (.iload 8, 2) := by decide +kernel
theorem dX8_tells_193 : decode cX8_tells 193 = .ok (.iadd, 1) := by decide +kernel
theorem dX8_tells_194 : decode cX8_tells 194 = .ok (.goto 4, 3) := by decide +kernel
theorem dX8_tells_197 : decode cX8_tells 197 = .ok (.iload_n 2, 1) := by decide +kernel
theorem dX8_tells_198 : decode cX8_tells 198 = .ok (.istore_n 2, 1) := by decide +kernel
theorem dX8_tells_199 : decode cX8_tells 199 = .ok (.iload 10, 2) := by decide +kernel
theorem dX8_tells_201 : decode cX8_tells 201 = .ok (.iload_n 3, 1) := by decide +kernel
theorem dX8_tells_202 : decode cX8_tells 202 = .ok (.invokestatic 207, 3) := by decide +kernel
theorem dX8_tells_205 : decode cX8_tells 205 = .ok (.istore_n 3, 1) := by decide +kernel
theorem dX8_tells_206 : decode cX8_tells 206 = .ok (.iinc 5 1, 3) := by decide +kernel
theorem dX8_tells_209 : decode cX8_tells 209 = .ok (.goto (-181), 3) := by decide +kernel
theorem dX8_tells_212 : decode cX8_tells 212 = .ok (.iload_n 2, 1) := by decide +kernel
theorem dX8_tells_213 : decode cX8_tells 213 = .ok (.ifCond .lt 7, 3) := by decide +kernel
theorem dX8_tells_216 : decode cX8_tells 216 = .ok (.iload_n 1, 1) := by decide +kernel
theorem dX8_tells_217 : decode cX8_tells 217 = .ok (.ifCond .ne 7, 3) := by decide +kernel
theorem dX8_tells_220 : decode cX8_tells 220 = .ok (.iload_n 2, 1) := by decide +kernel
theorem dX8_tells_221 : decode cX8_tells 221 = .ok (.goto 4, 3) := by decide +kernel
theorem dX8_tells_224 : decode cX8_tells 224 = .ok (.iload_n 3, 1) := by decide +kernel
theorem dX8_tells_225 : decode cX8_tells 225 = .ok (.ireturn, 1) := by decide +kernel
set_option maxRecDepth 20000 in
theorem ggX8_slips_X8_isPush : GoodIn wsX8_slips wsX8_isPush := goodIn_r _ [8, 9, 10, 11, 7, 12, 62, 63, 64, 65, 66, 67, 68, 69, 70, 71, 72, 73, 74, 75, 76, 77, 78, 79, 80, 81, 82, 83, 84, 85, 86, 87, 88, 89, 90, 91, 92, 93, 94, 95, 96, 97] (by decide +kernel) (by decide +kernel)
set_option maxRecDepth 20000 in
theorem gX8_slips_X8_isPush : GoodIn wsX8_slips (wsV RX8 217 RX8 yX8_isPush wsX8_isPush) := goodIn_app (goodIn_of _ (by decide +kernel)) ggX8_slips_X8_isPush
set_option maxRecDepth 20000 in
theorem ggX8_slips_X8_in : GoodIn wsX8_slips wsX8_in := goodIn_r _ [12] (by decide +kernel) (by decide +kernel)
set_option maxRecDepth 20000 in
theorem gX8_slips_X8_in : GoodIn wsX8_slips (va_wsS RX8 110 yX8_in wsX8_in) := goodIn_app (goodIn_of _ (by decide +kernel)) ggX8_slips_X8_in
set_option maxRecDepth 20000 in
theorem ggX8_slips_X8_copies : GoodIn wsX8_slips wsX8_copies := goodIn_r _ [16, 3, 62, 63, 64, 65, 66, 67, 68, 69, 70, 71, 72, 73, 74, 75, 76, 77, 78, 79, 80, 81, 82, 83, 84, 85, 86, 87, 88, 89, 90, 91, 92, 93, 94, 95, 96, 97] (by decide +kernel) (by decide +kernel)
set_option maxRecDepth 20000 in
theorem gX8_slips_X8_copies : GoodIn wsX8_slips (wsV RX8 107 RX8 yX8_copies wsX8_copies) := goodIn_app (goodIn_of _ (by decide +kernel)) ggX8_slips_X8_copies
set_option maxRecDepth 20000 in
theorem ggX8_slips_X8_has : GoodIn wsX8_slips wsX8_has := goodIn_r _ [19] (by decide +kernel) (by decide +kernel)
set_option maxRecDepth 20000 in
theorem gX8_slips_X8_has : GoodIn wsX8_slips (va_wsS RX8 228 yX8_has wsX8_has) := goodIn_app (goodIn_of _ (by decide +kernel)) ggX8_slips_X8_has
set_option maxRecDepth 20000 in
theorem ggX8_slips_X8_gives : GoodIn wsX8_slips wsX8_gives := goodIn_r _ [23, 24, 3, 25, 26, 7, 27, 28, 29, 30, 31, 32, 33, 62, 63, 64, 65, 66, 67, 68, 69, 70, 71, 72, 73, 74, 75, 76, 77, 78, 79, 80, 81, 82, 83, 84, 85, 86, 87, 88, 89, 90, 91, 92, 93, 94, 95, 96, 97] (by decide +kernel) (by decide +kernel)
set_option maxRecDepth 20000 in
theorem gX8_slips_X8_gives : GoodIn wsX8_slips (wsV RX8 223 RX8 yX8_gives wsX8_gives) := goodIn_app (goodIn_of _ (by decide +kernel)) ggX8_slips_X8_gives
set_option maxRecDepth 20000 in
theorem ggX8_slips_X8_isSo : GoodIn wsX8_slips wsX8_isSo := goodIn_r _ [37, 38, 39, 40, 41, 3, 42, 43, 44, 7, 45, 46, 47, 48, 49, 50, 51, 52, 53, 54, 55, 56, 57, 58, 59, 60, 61, 62, 63, 64, 65, 66, 67, 68, 69, 70, 71, 72, 73, 74, 75, 76, 77, 78, 79, 80, 81, 82, 83, 84, 85, 86, 87, 88, 89, 90, 91, 92, 93, 94, 95, 96, 97] (by decide +kernel) (by decide +kernel)
set_option maxRecDepth 20000 in
theorem gX8_slips_X8_isSo : GoodIn wsX8_slips (wsV RX8 253 RX8 yX8_isSo wsX8_isSo) := goodIn_app (goodIn_of _ (by decide +kernel)) ggX8_slips_X8_isSo
theorem dX8_slips_0 : decode cX8_slips 0 = .ok (.aload_n 0, 1) := by decide +kernel
theorem dX8_slips_1 : decode cX8_slips 1 = .ok (.iload_n 1, 1) := by decide +kernel
theorem dX8_slips_2 : decode cX8_slips 2 = .ok (.iload_n 2, 1) := by decide +kernel
theorem dX8_slips_3 : decode cX8_slips 3 = .ok (.invokevirtual 217, 3) := by decide +kernel
theorem dX8_slips_6 : decode cX8_slips 6 = .ok (.ifCond .eq 39, 3) := by decide +kernel
theorem dX8_slips_9 : decode cX8_slips 9 = .ok (.iload_n 3, 1) := by decide +kernel
theorem dX8_slips_10 : decode cX8_slips 10 = .ok (.i2l, 1) := by decide +kernel
theorem dX8_slips_11 : decode cX8_slips 11 = .ok (.lconst 0, 1) := by decide +kernel
theorem dX8_slips_12 : decode cX8_slips 12 = .ok (.ldc2_w 286, 3) := by decide +kernel
theorem dX8_slips_15 : decode cX8_slips 15 = .ok (.invokestatic 110, 3) := by decide +kernel
theorem dX8_slips_18 : decode cX8_slips 18 = .ok (.ifCond .eq 27, 3) := by decide +kernel
theorem dX8_slips_21 : decode cX8_slips 21 = .ok (.iload 4, 2) := by decide +kernel
theorem dX8_slips_23 : decode cX8_slips 23 = .ok (.i2l, 1) := by decide +kernel
theorem dX8_slips_24 : decode cX8_slips 24 = .ok (.lconst 0, 1) := by decide +kernel
theorem dX8_slips_25 : decode cX8_slips 25 = .ok (.ldc2_w 288, 3) := by decide +kernel
theorem dX8_slips_28 : decode cX8_slips 28 = .ok (.invokestatic 110, 3) := by decide +kernel
theorem dX8_slips_31 : decode cX8_slips 31 = .ok (.ifCond .eq 14, 3) := by decide +kernel
theorem dX8_slips_34 : decode cX8_slips 34 = .ok (.iload 5, 2) := by decide +kernel
theorem dX8_slips_36 : decode cX8_slips 36 = .ok (.i2l, 1) := by decide +kernel
theorem dX8_slips_37 : decode cX8_slips 37 = .ok (.lconst 0, 1) := by decide +kernel
theorem dX8_slips_38 : decode cX8_slips 38 = .ok (.lconst 1, 1) := by decide +kernel
theorem dX8_slips_39 : decode cX8_slips 39 = .ok (.invokestatic 110, 3) := by decide +kernel
theorem dX8_slips_42 : decode cX8_slips 42 = .ok (.ifCond .ne 5, 3) := by decide +kernel
theorem dX8_slips_45 : decode cX8_slips 45 = .ok (.iconst (-1), 1) := by decide +kernel
theorem dX8_slips_46 : decode cX8_slips 46 = .ok (.ireturn, 1) := by decide +kernel
theorem dX8_slips_47 : decode cX8_slips 47 = .ok (.iconst 0, 1) := by decide +kernel
theorem dX8_slips_48 : decode cX8_slips 48 = .ok (.istore 6, 2) := by decide +kernel
theorem dX8_slips_50 : decode cX8_slips 50 = .ok (.iconst 0, 1) := by decide +kernel
theorem dX8_slips_51 : decode cX8_slips 51 = .ok (.istore 7, 2) := by decide +kernel
theorem dX8_slips_53 : decode cX8_slips 53 = .ok (.iconst 0, 1) := by decide +kernel
theorem dX8_slips_54 : decode cX8_slips 54 = .ok (.istore 8, 2) := by decide +kernel
theorem dX8_slips_56 : decode cX8_slips 56 = .ok (.iload 8, 2) := by decide +kernel
theorem dX8_slips_58 : decode cX8_slips 58 = .ok (.iconst 1, 1) := by decide +kernel
theorem dX8_slips_59 : decode cX8_slips 59 = .ok (.iload_n 3, 1) := by decide +kernel
theorem dX8_slips_60 : decode cX8_slips 60 = .ok (.ishl, 1) := by decide +kernel
theorem dX8_slips_61 : decode cX8_slips 61 = .ok (.if_icmp .ge 120, 3) := by decide +kernel
theorem dX8_slips_64 : decode cX8_slips 64 = .ok (.aload_n 0, 1) := by decide +kernel
theorem dX8_slips_65 : decode cX8_slips 65 = .ok (.iconst 0, 1) := by decide +kernel
theorem dX8_slips_66 : decode cX8_slips 66 = .ok (.sipush 286, 3) := by decide +kernel
theorem dX8_slips_69 : decode cX8_slips 69 = .ok (.invokevirtual 107, 3) := by decide +kernel
theorem dX8_slips_72 : decode cX8_slips 72 = .ok (.iconst 1, 1) := by decide +kernel
theorem dX8_slips_73 : decode cX8_slips 73 = .ok (.istore 9, 2) := by decide +kernel
theorem dX8_slips_75 : decode cX8_slips 75 = .ok (.iconst 0, 1) := by decide +kernel
theorem dX8_slips_76 : decode cX8_slips 76 = .ok (.istore 10, 2) := by decide +kernel
theorem dX8_slips_78 : decode cX8_slips 78 = .ok (.iload 10, 2) := by decide +kernel
theorem dX8_slips_80 : decode cX8_slips 80 = .ok (.iload_n 3, 1) := by decide +kernel
theorem dX8_slips_81 : decode cX8_slips 81 = .ok (.if_icmp .ge 53, 3) := by decide +kernel
theorem dX8_slips_84 : decode cX8_slips 84 = .ok (.iload 9, 2) := by decide +kernel
theorem dX8_slips_86 : decode cX8_slips 86 = .ok (.iload 8, 2) := by decide +kernel
theorem dX8_slips_88 : decode cX8_slips 88 = .ok (.iload 10, 2) := by decide +kernel
theorem dX8_slips_90 : decode cX8_slips 90 = .ok (.invokestatic 228, 3) := by decide +kernel
theorem dX8_slips_93 : decode cX8_slips 93 = .ok (.ifCond .eq 8, 3) := by decide +kernel
theorem dX8_slips_96 : decode cX8_slips 96 = .ok (.iload 4, 2) := by decide +kernel
theorem dX8_slips_98 : decode cX8_slips 98 = .ok (.goto 8, 3) := by decide +kernel
theorem dX8_slips_101 : decode cX8_slips 101 = .ok (.bipush 10, 2) := by decide +kernel
theorem dX8_slips_103 : decode cX8_slips 103 = .ok (.iload 4, 2) := by decide +kernel
theorem dX8_slips_105 : decode cX8_slips 105 = .ok (.isub, 1) := by decide +kernel
theorem dX8_slips_106 : decode cX8_slips 106 = .ok (.imul, 1) := by decide +kernel
theorem dX8_slips_107 : decode cX8_slips 107 = .ok (.istore 9, 2) := by decide +kernel
theorem dX8_slips_109 : decode cX8_slips 109 = .ok (.iload 8, 2) := by decide +kernel
theorem dX8_slips_111 : decode cX8_slips 111 = .ok (.iload 10, 2) := by decide +kernel
theorem dX8_slips_113 : decode cX8_slips 113 = .ok (.invokestatic 228, 3) := by decide +kernel
theorem dX8_slips_116 : decode cX8_slips 116 = .ok (.ifCond .ne 12, 3) := by decide +kernel
theorem dX8_slips_119 : decode cX8_slips 119 = .ok (.aload_n 0, 1) := by decide +kernel
theorem dX8_slips_120 : decode cX8_slips 120 = .ok (.sipush 286, 3) := by decide +kernel
theorem dX8_slips_123 : decode cX8_slips 123 = .ok (.iload_n 1, 1) := by decide +kernel
theorem dX8_slips_124 : decode cX8_slips 124 = .ok (.iload_n 2, 1) := by decide +kernel
theorem dX8_slips_125 : decode cX8_slips 125 = .ok (.invokevirtual 223, 3) := by decide +kernel
theorem dX8_slips_128 : decode cX8_slips 128 = .ok (.iinc 10 1, 3) := by decide +kernel
theorem dX8_slips_131 : decode cX8_slips 131 = .ok (.goto (-53), 3) := by decide +kernel
theorem dX8_slips_134 : decode cX8_slips 134 = .ok (.iload 7, 2) := by decide +kernel
theorem dX8_slips_136 : decode cX8_slips 136 = .ok (.iload 9, 2) := by decide +kernel
theorem dX8_slips_138 : decode cX8_slips 138 = .ok (.iadd, 1) := by decide +kernel
theorem dX8_slips_139 : decode cX8_slips 139 = .ok (.istore 7, 2) := by decide +kernel
theorem dX8_slips_141 : decode cX8_slips 141 = .ok (.iload 6, 2) := by decide +kernel
theorem dX8_slips_143 : decode cX8_slips 143 = .ok (.aload_n 0, 1) := by decide +kernel
theorem dX8_slips_144 : decode cX8_slips 144 = .ok (.aload_n 0, 1) := by decide +kernel
theorem dX8_slips_145 : decode cX8_slips 145 = .ok (.getfield 46, 3) := by decide +kernel
theorem dX8_slips_148 : decode cX8_slips 148 = .ok (.sipush 286, 3) := by decide +kernel
theorem dX8_slips_151 : decode cX8_slips 151 = .ok (.iaload, 1) := by decide +kernel
theorem dX8_slips_152 : decode cX8_slips 152 = .ok (.aload_n 0, 1) := by decide +kernel
theorem dX8_slips_153 : decode cX8_slips 153 = .ok (.getfield 46, 3) := by decide +kernel
theorem dX8_slips_156 : decode cX8_slips 156 = .ok (.sipush 287, 3) := by decide +kernel
theorem dX8_slips_159 : decode cX8_slips 159 = .ok (.iaload, 1) := by decide +kernel
theorem dX8_slips_160 : decode cX8_slips 160 = .ok (.invokevirtual 253, 3) := by decide +kernel
theorem dX8_slips_163 : decode cX8_slips 163 = .ok (.ifCond .eq 8, 3) := by decide +kernel
theorem dX8_slips_166 : decode cX8_slips 166 = .ok (.iload 9, 2) := by decide +kernel
theorem dX8_slips_168 : decode cX8_slips 168 = .ok (.goto 4, 3) := by decide +kernel
theorem dX8_slips_171 : decode cX8_slips 171 = .ok (.iconst 0, 1) := by decide +kernel
theorem dX8_slips_172 : decode cX8_slips 172 = .ok (.iadd, 1) := by decide +kernel
theorem dX8_slips_173 : decode cX8_slips 173 = .ok (.istore 6, 2) := by decide +kernel
theorem dX8_slips_175 : decode cX8_slips 175 = .ok (.iinc 8 1, 3) := by decide +kernel
theorem dX8_slips_178 : decode cX8_slips 178 = .ok (.goto (-122), 3) := by decide +kernel
theorem dX8_slips_181 : decode cX8_slips 181 = .ok (.iload 6, 2) := by decide +kernel
theorem dX8_slips_183 : decode cX8_slips 183 = .ok (.istore 8, 2) := by decide +kernel
theorem dX8_slips_185 : decode cX8_slips 185 = .ok (.iload 7, 2) := by decide +kernel
theorem dX8_slips_187 : decode cX8_slips 187 = .ok (.istore 9, 2) := by decide +kernel
theorem dX8_slips_189 : decode cX8_slips 189 = .ok (.iload 9, 2) := by decide +kernel
theorem dX8_slips_191 : decode cX8_slips 191 = .ok (.ifCond .eq 21, 3) := by decide +kernel
theorem dX8_slips_194 : decode cX8_slips 194 = .ok (.iload 8, 2) := by decide +kernel
theorem dX8_slips_196 : decode cX8_slips 196 = .ok (.iload 9, 2) := by decide +kernel
theorem dX8_slips_198 : decode cX8_slips 198 = .ok (.irem, 1) := by decide +kernel
theorem dX8_slips_199 : decode cX8_slips 199 = .ok (.istore 10, 2) := by decide +kernel
theorem dX8_slips_201 : decode cX8_slips 201 = .ok (.iload 9, 2) := by decide +kernel
theorem dX8_slips_203 : decode cX8_slips 203 = .ok (.istore 8, 2) := by decide +kernel
theorem dX8_slips_205 : decode cX8_slips 205 = .ok (.iload 10, 2) := by decide +kernel
theorem dX8_slips_207 : decode cX8_slips 207 = .ok (.istore 9, 2) := by decide +kernel
theorem dX8_slips_209 : decode cX8_slips 209 = .ok (.goto (-20), 3) := by decide +kernel
theorem dX8_slips_212 : decode cX8_slips 212 = .ok (.iload 5, 2) := by decide +kernel
theorem dX8_slips_214 : decode cX8_slips 214 = .ok (.ifCond .ne 11, 3) := by decide +kernel
theorem dX8_slips_217 : decode cX8_slips 217 = .ok (.iload 6, 2) := by decide +kernel
theorem dX8_slips_219 : decode cX8_slips 219 = .ok (.iload 8, 2) := by decide +kernel
theorem dX8_slips_221 : decode cX8_slips 221 = .ok (.idiv, 1) := by decide +kernel
theorem dX8_slips_222 : decode cX8_slips 222 = .ok (.goto 8, 3) := by decide +kernel
theorem dX8_slips_225 : decode cX8_slips 225 = .ok (.iload 7, 2) := by decide +kernel
theorem dX8_slips_227 : decode cX8_slips 227 = .ok (.iload 8, 2) := by decide +kernel
theorem dX8_slips_229 : decode cX8_slips 229 = .ok (.idiv, 1) := by decide +kernel
theorem dX8_slips_230 : decode cX8_slips 230 = .ok (.ireturn, 1) := by decide +kernel
set_option maxRecDepth 20000 in
theorem ggX8_does_X8_gives : GoodIn wsX8_does wsX8_gives := goodIn_r _ [8, 9, 2, 10, 11, 7, 12, 13, 14, 15, 16, 17, 18, 68, 69, 70, 71, 72, 73, 74, 75, 76, 77, 78, 79, 80, 81, 82, 83, 84, 85, 86, 87, 88, 89, 90, 91, 92, 93, 94, 95, 96, 97, 98, 99, 100, 101, 102, 103] (by decide +kernel) (by decide +kernel)
set_option maxRecDepth 20000 in
theorem gX8_does_X8_gives : GoodIn wsX8_does (wsV RX8 223 RX8 yX8_gives wsX8_gives) := goodIn_app (goodIn_of _ (by decide +kernel)) ggX8_does_X8_gives
set_option maxRecDepth 20000 in
theorem ggX8_does_X8_weds : GoodIn wsX8_does wsX8_weds := goodIn_r _ [22, 2, 23, 24, 25, 7, 26, 27, 28, 29, 30, 31, 32, 33, 34, 35, 36, 37, 38, 39, 40, 41, 42, 43, 44, 45, 46, 47, 48, 68, 69, 70, 71, 72, 73, 74, 75, 76, 77, 78, 79, 80, 81, 82, 83, 84, 85, 86, 87, 88, 89, 90, 91, 92, 93, 94, 95, 96, 97, 98, 99, 100, 101, 102, 103] (by decide +kernel) (by decide +kernel)
set_option maxRecDepth 20000 in
theorem gX8_does_X8_weds : GoodIn wsX8_does (wsV RX8 244 RX8 yX8_weds wsX8_weds) := goodIn_app (goodIn_of _ (by decide +kernel)) ggX8_does_X8_weds
set_option maxRecDepth 20000 in
theorem ggX8_does_X8_trades : GoodIn wsX8_does wsX8_trades := goodIn_r _ [52, 27, 2, 53, 54, 55, 7, 56, 34, 35, 36, 37, 38, 39, 57, 58, 59, 60, 28, 61, 62, 63, 64, 45, 29, 40, 41, 42, 43, 44, 65, 66, 67, 46, 47, 48, 16, 17, 18, 68, 69, 70, 71, 72, 73, 74, 75, 76, 77, 78, 79, 80, 81, 82, 83, 84, 85, 86, 87, 88, 89, 90, 91, 92, 93, 94, 95, 96, 97, 98, 99, 100, 101, 102, 103] (by decide +kernel) (by decide +kernel)
set_option maxRecDepth 20000 in
theorem gX8_does_X8_trades : GoodIn wsX8_does (wsV RX8 233 RX8 yX8_trades wsX8_trades) := goodIn_app (goodIn_of _ (by decide +kernel)) ggX8_does_X8_trades
theorem dX8_does_0 : decode cX8_does 0 = .ok (.iload_n 2, 1) := by decide +kernel
theorem dX8_does_1 : decode cX8_does 1 = .ok (.bipush 8, 2) := by decide +kernel
theorem dX8_does_3 : decode cX8_does 3 = .ok (.irem, 1) := by decide +kernel
theorem dX8_does_4 : decode cX8_does 4 = .ok (.istore_n 3, 1) := by decide +kernel
theorem dX8_does_5 : decode cX8_does 5 = .ok (.iload_n 3, 1) := by decide +kernel
theorem dX8_does_6 : decode cX8_does 6 = .ok (.iconst 4, 1) := by decide +kernel
theorem dX8_does_7 : decode cX8_does 7 = .ok (.if_icmp .ge 26, 3) := by decide +kernel
theorem dX8_does_10 : decode cX8_does 10 = .ok (.aload_n 0, 1) := by decide +kernel
theorem dX8_does_11 : decode cX8_does 11 = .ok (.iload_n 1, 1) := by decide +kernel
theorem dX8_does_12 : decode cX8_does 12 = .ok (.iload_n 2, 1) := by decide +kernel
theorem dX8_does_13 : decode cX8_does 13 = .ok (.bipush 8, 2) := by decide +kernel
theorem dX8_does_15 : decode cX8_does 15 = .ok (.idiv, 1) := by decide +kernel
theorem dX8_does_16 : decode cX8_does 16 = .ok (.aload_n 0, 1) := by decide +kernel
theorem dX8_does_17 : decode cX8_does 17 = .ok (.getfield 101, 3) := by decide +kernel
theorem dX8_does_20 : decode cX8_does 20 = .ok (.irem, 1) := by decide +kernel
theorem dX8_does_21 : decode cX8_does 21 = .ok (.iload_n 2, 1) := by decide +kernel
theorem dX8_does_22 : decode cX8_does 22 = .ok (.bipush 64, 2) := by decide +kernel
theorem dX8_does_24 : decode cX8_does 24 = .ok (.idiv, 1) := by decide +kernel
theorem dX8_does_25 : decode cX8_does 25 = .ok (.iconst 2, 1) := by decide +kernel
theorem dX8_does_26 : decode cX8_does 26 = .ok (.irem, 1) := by decide +kernel
theorem dX8_does_27 : decode cX8_does 27 = .ok (.invokevirtual 223, 3) := by decide +kernel
theorem dX8_does_30 : decode cX8_does 30 = .ok (.goto 69, 3) := by decide +kernel
theorem dX8_does_33 : decode cX8_does 33 = .ok (.iload_n 3, 1) := by decide +kernel
theorem dX8_does_34 : decode cX8_does 34 = .ok (.iconst 4, 1) := by decide +kernel
theorem dX8_does_35 : decode cX8_does 35 = .ok (.if_icmp .ne 21, 3) := by decide +kernel
theorem dX8_does_38 : decode cX8_does 38 = .ok (.aload_n 0, 1) := by decide +kernel
theorem dX8_does_39 : decode cX8_does 39 = .ok (.getfield 46, 3) := by decide +kernel
theorem dX8_does_42 : decode cX8_does 42 = .ok (.iload_n 1, 1) := by decide +kernel
theorem dX8_does_43 : decode cX8_does 43 = .ok (.iconst 2, 1) := by decide +kernel
theorem dX8_does_44 : decode cX8_does 44 = .ok (.iadd, 1) := by decide +kernel
theorem dX8_does_45 : decode cX8_does 45 = .ok (.iload_n 2, 1) := by decide +kernel
theorem dX8_does_46 : decode cX8_does 46 = .ok (.bipush 8, 2) := by decide +kernel
theorem dX8_does_48 : decode cX8_does 48 = .ok (.idiv, 1) := by decide +kernel
theorem dX8_does_49 : decode cX8_does 49 = .ok (.bipush 10, 2) := by decide +kernel
theorem dX8_does_51 : decode cX8_does 51 = .ok (.irem, 1) := by decide +kernel
theorem dX8_does_52 : decode cX8_does 52 = .ok (.iastore, 1) := by decide +kernel
theorem dX8_does_53 : decode cX8_does 53 = .ok (.goto 46, 3) := by decide +kernel
theorem dX8_does_56 : decode cX8_does 56 = .ok (.iload_n 3, 1) := by decide +kernel
theorem dX8_does_57 : decode cX8_does 57 = .ok (.iconst 5, 1) := by decide +kernel
theorem dX8_does_58 : decode cX8_does 58 = .ok (.if_icmp .ne 22, 3) := by decide +kernel
theorem dX8_does_61 : decode cX8_does 61 = .ok (.aload_n 0, 1) := by decide +kernel
theorem dX8_does_62 : decode cX8_does 62 = .ok (.aload_n 0, 1) := by decide +kernel
theorem dX8_does_63 : decode cX8_does 63 = .ok (.iload_n 1, 1) := by decide +kernel
theorem dX8_does_64 : decode cX8_does 64 = .ok (.iload_n 2, 1) := by decide +kernel
theorem dX8_does_65 : decode cX8_does 65 = .ok (.bipush 8, 2) := by decide +kernel
theorem dX8_does_67 : decode cX8_does 67 = .ok (.idiv, 1) := by decide +kernel
theorem dX8_does_68 : decode cX8_does 68 = .ok (.bipush 61, 2) := by decide +kernel
theorem dX8_does_70 : decode cX8_does 70 = .ok (.irem, 1) := by decide +kernel
theorem dX8_does_71 : decode cX8_does 71 = .ok (.invokevirtual 244, 3) := by decide +kernel
theorem dX8_does_74 : decode cX8_does 74 = .ok (.putfield 290, 3) := by decide +kernel
theorem dX8_does_77 : decode cX8_does 77 = .ok (.goto 22, 3) := by decide +kernel
theorem dX8_does_80 : decode cX8_does 80 = .ok (.aload_n 0, 1) := by decide +kernel
theorem dX8_does_81 : decode cX8_does 81 = .ok (.getfield 46, 3) := by decide +kernel
theorem dX8_does_84 : decode cX8_does 84 = .ok (.iload_n 1, 1) := by decide +kernel
theorem dX8_does_85 : decode cX8_does 85 = .ok (.iconst 3, 1) := by decide +kernel
theorem dX8_does_86 : decode cX8_does 86 = .ok (.iadd, 1) := by decide +kernel
theorem dX8_does_87 : decode cX8_does 87 = .ok (.iaload, 1) := by decide +kernel
theorem dX8_does_88 : decode cX8_does 88 = .ok (.sipush 999, 3) := by decide +kernel
theorem dX8_does_91 : decode cX8_does 91 = .ok (.if_icmp .ge 8, 3) := by decide +kernel
theorem dX8_does_94 : decode cX8_does 94 = .ok (.aload_n 0, 1) := by decide +kernel
theorem dX8_does_95 : decode cX8_does 95 = .ok (.iload_n 1, 1) := by decide +kernel
theorem dX8_does_96 : decode cX8_does 96 = .ok (.invokevirtual 233, 3) := by decide +kernel
theorem dX8_does_99 : decode cX8_does 99 = .ok (.return_, 1) := by decide +kernel
set_option maxRecDepth 20000 in
theorem ggX8_century_X8_in : GoodIn wsX8_century wsX8_in := goodIn_r _ [9] (by decide +kernel) (by decide +kernel)
set_option maxRecDepth 20000 in
theorem gX8_century_X8_in : GoodIn wsX8_century (va_wsS RX8 110 yX8_in wsX8_in) := goodIn_app (goodIn_of _ (by decide +kernel)) ggX8_century_X8_in
set_option maxRecDepth 20000 in
theorem ggX8_century_X8_copies : GoodIn wsX8_century wsX8_copies := goodIn_r _ [13, 14, 95, 96, 97, 98, 99, 100, 101, 102, 103, 104, 105, 106, 107, 108, 109, 110, 111, 112, 113, 114, 115, 116, 117, 118, 119, 120, 121, 122, 123, 124, 125, 126, 127, 128, 129, 130] (by decide +kernel) (by decide +kernel)
set_option maxRecDepth 20000 in
theorem gX8_century_X8_copies : GoodIn wsX8_century (wsV RX8 107 RX8 yX8_copies wsX8_copies) := goodIn_app (goodIn_of _ (by decide +kernel)) ggX8_century_X8_copies
set_option maxRecDepth 20000 in
theorem ggX8_century_X8_does : GoodIn wsX8_century wsX8_does := goodIn_r _ [18, 19, 14, 20, 21, 22, 23, 8, 24, 25, 26, 27, 28, 29, 30, 31, 32, 33, 34, 35, 36, 37, 38, 39, 40, 41, 42, 43, 44, 45, 46, 47, 48, 49, 50, 51, 52, 53, 54, 55, 56, 57, 58, 59, 60, 61, 62, 63, 64, 65, 66, 67, 68, 69, 70, 71, 72, 73, 74, 75, 76, 77, 78, 79, 80, 81, 82, 83, 95, 96, 97, 98, 99, 100, 101, 102, 103, 104, 105, 106, 107, 108, 109, 110, 111, 112, 113, 114, 115, 116, 117, 118, 119, 120, 121, 122, 123, 124, 125, 126, 127, 128, 129, 130] (by decide +kernel) (by decide +kernel)
set_option maxRecDepth 20000 in
theorem gX8_century_X8_does : GoodIn wsX8_century (wsV RX8 303 RX8 yX8_does wsX8_does) := goodIn_app (goodIn_of _ (by decide +kernel)) ggX8_century_X8_does
set_option maxRecDepth 20000 in
theorem ggX8_century_X8_goods : GoodIn wsX8_century wsX8_goods := goodIn_r _ [87, 43, 14, 95, 96, 97, 98, 99, 100, 101, 102, 103, 104, 105, 106, 107, 108, 109, 110, 111, 112, 113, 114, 115, 116, 117, 118, 119, 120, 121, 122, 123, 124, 125, 126, 127, 128, 129, 130] (by decide +kernel) (by decide +kernel)
set_option maxRecDepth 20000 in
theorem gX8_century_X8_goods : GoodIn wsX8_century (wsV RX8 273 RX8 yX8_goods wsX8_goods) := goodIn_app (goodIn_of _ (by decide +kernel)) ggX8_century_X8_goods
set_option maxRecDepth 20000 in
theorem ggX8_century_X8_wed : GoodIn wsX8_century wsX8_wed := goodIn_r _ [91, 14, 92, 93, 8, 94, 95, 96, 97, 98, 99, 100, 101, 102, 103, 104, 105, 106, 107, 108, 109, 110, 111, 112, 113, 114, 115, 116, 117, 118, 119, 120, 121, 122, 123, 124, 125, 126, 127, 128, 129, 130] (by decide +kernel) (by decide +kernel)
set_option maxRecDepth 20000 in
theorem gX8_century_X8_wed : GoodIn wsX8_century (wsV RX8 247 RX8 yX8_wed wsX8_wed) := goodIn_app (goodIn_of _ (by decide +kernel)) ggX8_century_X8_wed
theorem dX8_century_0 : decode cX8_century 0 = .ok (.iload_n 1, 1) := by decide +kernel
theorem dX8_century_1 : decode cX8_century 1 = .ok (.i2l, 1) := by decide +kernel
theorem dX8_century_2 : decode cX8_century 2 = .ok (.lconst 0, 1) := by decide +kernel
theorem dX8_century_3 : decode cX8_century 3 = .ok (.ldc2_w 293, 3) := by decide +kernel
theorem dX8_century_6 : decode cX8_century 6 = .ok (.invokestatic 110, 3) := by decide +kernel
theorem dX8_century_9 : decode cX8_century 9 = .ok (.ifCond .eq 25, 3) := by decide +kernel
theorem dX8_century_12 : decode cX8_century 12 = .ok (.iload_n 2, 1) := by decide +kernel
theorem dX8_century_13 : decode cX8_century 13 = .ok (.i2l, 1) := by decide +kernel
theorem dX8_century_14 : decode cX8_century 14 = .ok (.lconst 1, 1) := by decide +kernel
theorem dX8_century_15 : decode cX8_century 15 = .ok (.ldc2_w 295, 3) := by decide +kernel
theorem dX8_century_18 : decode cX8_century 18 = .ok (.invokestatic 110, 3) := by decide +kernel
theorem dX8_century_21 : decode cX8_century 21 = .ok (.ifCond .eq 13, 3) := by decide +kernel
theorem dX8_century_24 : decode cX8_century 24 = .ok (.iload_n 3, 1) := by decide +kernel
theorem dX8_century_25 : decode cX8_century 25 = .ok (.i2l, 1) := by decide +kernel
theorem dX8_century_26 : decode cX8_century 26 = .ok (.lconst 0, 1) := by decide +kernel
theorem dX8_century_27 : decode cX8_century 27 = .ok (.lconst 1, 1) := by decide +kernel
theorem dX8_century_28 : decode cX8_century 28 = .ok (.invokestatic 110, 3) := by decide +kernel
theorem dX8_century_31 : decode cX8_century 31 = .ok (.ifCond .ne 5, 3) := by decide +kernel
theorem dX8_century_34 : decode cX8_century 34 = .ok (.iconst (-1), 1) := by decide +kernel
theorem dX8_century_35 : decode cX8_century 35 = .ok (.ireturn, 1) := by decide +kernel
theorem dX8_century_36 : decode cX8_century 36 = .ok (.aload_n 0, 1) := by decide +kernel
theorem dX8_century_37 : decode cX8_century 37 = .ok (.iconst 0, 1) := by decide +kernel
theorem dX8_century_38 : decode cX8_century 38 = .ok (.sipush 286, 3) := by decide +kernel
theorem dX8_century_41 : decode cX8_century 41 = .ok (.invokevirtual 107, 3) := by decide +kernel
theorem dX8_century_44 : decode cX8_century 44 = .ok (.iconst 0, 1) := by decide +kernel
theorem dX8_century_45 : decode cX8_century 45 = .ok (.istore 4, 2) := by decide +kernel
theorem dX8_century_47 : decode cX8_century 47 = .ok (.iload 4, 2) := by decide +kernel
theorem dX8_century_49 : decode cX8_century 49 = .ok (.iload_n 2, 1) := by decide +kernel
theorem dX8_century_50 : decode cX8_century 50 = .ok (.if_icmp .ge 44, 3) := by decide +kernel
theorem dX8_century_53 : decode cX8_century 53 = .ok (.ldc2_w 297, 3) := by decide +kernel
theorem dX8_century_56 : decode cX8_century 56 = .ok (.iload_n 1, 1) := by decide +kernel
theorem dX8_century_57 : decode cX8_century 57 = .ok (.i2l, 1) := by decide +kernel
theorem dX8_century_58 : decode cX8_century 58 = .ok (.lmul, 1) := by decide +kernel
theorem dX8_century_59 : decode cX8_century 59 = .ok (.ldc2_w 299, 3) := by decide +kernel
theorem dX8_century_62 : decode cX8_century 62 = .ok (.iload 4, 2) := by decide +kernel
theorem dX8_century_64 : decode cX8_century 64 = .ok (.i2l, 1) := by decide +kernel
theorem dX8_century_65 : decode cX8_century 65 = .ok (.lmul, 1) := by decide +kernel
theorem dX8_century_66 : decode cX8_century 66 = .ok (.ladd, 1) := by decide +kernel
theorem dX8_century_67 : decode cX8_century 67 = .ok (.lconst 1, 1) := by decide +kernel
theorem dX8_century_68 : decode cX8_century 68 = .ok (.ladd, 1) := by decide +kernel
theorem dX8_century_69 : decode cX8_century 69 = .ok (.lstore 5, 2) := by decide +kernel
theorem dX8_century_71 : decode cX8_century 71 = .ok (.aload_n 0, 1) := by decide +kernel
theorem dX8_century_72 : decode cX8_century 72 = .ok (.sipush 286, 3) := by decide +kernel
theorem dX8_century_75 : decode cX8_century 75 = .ok (.lload 5, 2) := by decide +kernel
theorem dX8_century_77 : decode cX8_century 77 = .ok (.lload 5, 2) := by decide +kernel
theorem dX8_century_79 : decode cX8_century 79 = .ok (.lmul, 1) := by decide +kernel
theorem dX8_century_80 : decode cX8_century 80 = .ok (.ldc2_w 301, 3) := by decide +kernel
theorem dX8_century_83 : decode cX8_century 83 = .ok (.lrem, 1) := by decide +kernel
theorem dX8_century_84 : decode cX8_century 84 = .ok (.l2i, 1) := by decide +kernel
theorem dX8_century_85 : decode cX8_century 85 = .ok (.invokevirtual 303, 3) := by decide +kernel
theorem dX8_century_88 : decode cX8_century 88 = .ok (.iinc 4 1, 3) := by decide +kernel
theorem dX8_century_91 : decode cX8_century 91 = .ok (.goto (-44), 3) := by decide +kernel
theorem dX8_century_94 : decode cX8_century 94 = .ok (.iload_n 3, 1) := by decide +kernel
theorem dX8_century_95 : decode cX8_century 95 = .ok (.ifCond .ne 13, 3) := by decide +kernel
theorem dX8_century_98 : decode cX8_century 98 = .ok (.aload_n 0, 1) := by decide +kernel
theorem dX8_century_99 : decode cX8_century 99 = .ok (.sipush 286, 3) := by decide +kernel
theorem dX8_century_102 : decode cX8_century 102 = .ok (.invokevirtual 273, 3) := by decide +kernel
theorem dX8_century_105 : decode cX8_century 105 = .ok (.goto 10, 3) := by decide +kernel
theorem dX8_century_108 : decode cX8_century 108 = .ok (.aload_n 0, 1) := by decide +kernel
theorem dX8_century_109 : decode cX8_century 109 = .ok (.sipush 286, 3) := by decide +kernel
theorem dX8_century_112 : decode cX8_century 112 = .ok (.invokevirtual 247, 3) := by decide +kernel
theorem dX8_century_115 : decode cX8_century 115 = .ok (.ireturn, 1) := by decide +kernel
set_option maxRecDepth 20000 in
theorem ggX8_keep_X8_copies : GoodIn wsX8_keep wsX8_copies := goodIn_r _ [6, 7, 8, 9, 10, 11, 12, 13, 14, 15, 16, 17, 18, 19, 20, 21, 22, 23, 24, 25, 26, 27, 28, 29, 30, 31, 32, 33, 34, 35, 36, 37, 38, 39, 40, 41, 42, 43] (by decide +kernel) (by decide +kernel)
set_option maxRecDepth 20000 in
theorem gX8_keep_X8_copies : GoodIn wsX8_keep (wsV RX8 107 RX8 yX8_copies wsX8_copies) := goodIn_app (goodIn_of _ (by decide +kernel)) ggX8_keep_X8_copies
theorem dX8_keep_0 : decode cX8_keep 0 = .ok (.aload_n 0, 1) := by decide +kernel
theorem dX8_keep_1 : decode cX8_keep 1 = .ok (.getfield 163, 3) := by decide +kernel
theorem dX8_keep_4 : decode cX8_keep 4 = .ok (.iconst 2, 1) := by decide +kernel
theorem dX8_keep_5 : decode cX8_keep 5 = .ok (.if_icmp .ne 6, 3) := by decide +kernel
theorem dX8_keep_8 : decode cX8_keep 8 = .ok (.bipush (-3), 2) := by decide +kernel
theorem dX8_keep_10 : decode cX8_keep 10 = .ok (.ireturn, 1) := by decide +kernel
theorem dX8_keep_11 : decode cX8_keep 11 = .ok (.aload_n 0, 1) := by decide +kernel
theorem dX8_keep_12 : decode cX8_keep 12 = .ok (.iconst 0, 1) := by decide +kernel
theorem dX8_keep_13 : decode cX8_keep 13 = .ok (.bipush 9, 2) := by decide +kernel
theorem dX8_keep_15 : decode cX8_keep 15 = .ok (.aload_n 0, 1) := by decide +kernel
theorem dX8_keep_16 : decode cX8_keep 16 = .ok (.getfield 163, 3) := by decide +kernel
theorem dX8_keep_19 : decode cX8_keep 19 = .ok (.iadd, 1) := by decide +kernel
theorem dX8_keep_20 : decode cX8_keep 20 = .ok (.bipush 26, 2) := by decide +kernel
theorem dX8_keep_22 : decode cX8_keep 22 = .ok (.imul, 1) := by decide +kernel
theorem dX8_keep_23 : decode cX8_keep 23 = .ok (.invokevirtual 107, 3) := by decide +kernel
theorem dX8_keep_26 : decode cX8_keep 26 = .ok (.aload_n 0, 1) := by decide +kernel
theorem dX8_keep_27 : decode cX8_keep 27 = .ok (.dup, 1) := by decide +kernel
theorem dX8_keep_28 : decode cX8_keep 28 = .ok (.getfield 163, 3) := by decide +kernel
theorem dX8_keep_31 : decode cX8_keep 31 = .ok (.iconst 1, 1) := by decide +kernel
theorem dX8_keep_32 : decode cX8_keep 32 = .ok (.iadd, 1) := by decide +kernel
theorem dX8_keep_33 : decode cX8_keep 33 = .ok (.putfield 163, 3) := by decide +kernel
theorem dX8_keep_36 : decode cX8_keep 36 = .ok (.aload_n 0, 1) := by decide +kernel
theorem dX8_keep_37 : decode cX8_keep 37 = .ok (.getfield 163, 3) := by decide +kernel
theorem dX8_keep_40 : decode cX8_keep 40 = .ok (.ireturn, 1) := by decide +kernel
set_option maxRecDepth 20000 in
theorem ggX8_back_X8_copies : GoodIn wsX8_back wsX8_copies := goodIn_r _ [7, 8, 9, 10, 11, 12, 13, 14, 15, 16, 17, 18, 19, 20, 21, 22, 23, 24, 25, 26, 27, 28, 29, 30, 31, 32, 33, 34, 35, 36, 37, 38, 39, 40, 41, 42, 43, 44] (by decide +kernel) (by decide +kernel)
set_option maxRecDepth 20000 in
theorem gX8_back_X8_copies : GoodIn wsX8_back (wsV RX8 107 RX8 yX8_copies wsX8_copies) := goodIn_app (goodIn_of _ (by decide +kernel)) ggX8_back_X8_copies
theorem dX8_back_0 : decode cX8_back 0 = .ok (.aload_n 0, 1) := by decide +kernel
theorem dX8_back_1 : decode cX8_back 1 = .ok (.getfield 163, 3) := by decide +kernel
theorem dX8_back_4 : decode cX8_back 4 = .ok (.ifCond .ne 6, 3) := by decide +kernel
theorem dX8_back_7 : decode cX8_back 7 = .ok (.bipush (-2), 2) := by decide +kernel
theorem dX8_back_9 : decode cX8_back 9 = .ok (.ireturn, 1) := by decide +kernel
theorem dX8_back_10 : decode cX8_back 10 = .ok (.aload_n 0, 1) := by decide +kernel
theorem dX8_back_11 : decode cX8_back 11 = .ok (.dup, 1) := by decide +kernel
theorem dX8_back_12 : decode cX8_back 12 = .ok (.getfield 163, 3) := by decide +kernel
theorem dX8_back_15 : decode cX8_back 15 = .ok (.iconst 1, 1) := by decide +kernel
theorem dX8_back_16 : decode cX8_back 16 = .ok (.isub, 1) := by decide +kernel
theorem dX8_back_17 : decode cX8_back 17 = .ok (.putfield 163, 3) := by decide +kernel
theorem dX8_back_20 : decode cX8_back 20 = .ok (.aload_n 0, 1) := by decide +kernel
theorem dX8_back_21 : decode cX8_back 21 = .ok (.bipush 9, 2) := by decide +kernel
theorem dX8_back_23 : decode cX8_back 23 = .ok (.aload_n 0, 1) := by decide +kernel
theorem dX8_back_24 : decode cX8_back 24 = .ok (.getfield 163, 3) := by decide +kernel
theorem dX8_back_27 : decode cX8_back 27 = .ok (.iadd, 1) := by decide +kernel
theorem dX8_back_28 : decode cX8_back 28 = .ok (.bipush 26, 2) := by decide +kernel
theorem dX8_back_30 : decode cX8_back 30 = .ok (.imul, 1) := by decide +kernel
theorem dX8_back_31 : decode cX8_back 31 = .ok (.iconst 0, 1) := by decide +kernel
theorem dX8_back_32 : decode cX8_back 32 = .ok (.invokevirtual 107, 3) := by decide +kernel
theorem dX8_back_35 : decode cX8_back 35 = .ok (.aload_n 0, 1) := by decide +kernel
theorem dX8_back_36 : decode cX8_back 36 = .ok (.iconst 0, 1) := by decide +kernel
theorem dX8_back_37 : decode cX8_back 37 = .ok (.putfield 160, 3) := by decide +kernel
theorem dX8_back_40 : decode cX8_back 40 = .ok (.aload_n 0, 1) := by decide +kernel
theorem dX8_back_41 : decode cX8_back 41 = .ok (.getfield 163, 3) := by decide +kernel
theorem dX8_back_44 : decode cX8_back 44 = .ok (.ireturn, 1) := by decide +kernel
set_option maxRecDepth 20000 in
theorem ggX8_count_X8_wed : GoodIn wsX8_count wsX8_wed := goodIn_r _ [13, 4, 14, 15, 12, 16, 45, 46, 47, 48, 49, 50, 51, 52, 53, 54, 55, 56, 57, 58, 59, 60, 61, 62, 63, 64, 65, 66, 67, 68, 69, 70, 71, 72, 73, 74, 75, 76, 77, 78, 79, 80] (by decide +kernel) (by decide +kernel)
set_option maxRecDepth 20000 in
theorem gX8_count_X8_wed : GoodIn wsX8_count (wsV RX8 247 RX8 yX8_wed wsX8_wed) := goodIn_app (goodIn_of _ (by decide +kernel)) ggX8_count_X8_wed
set_option maxRecDepth 20000 in
theorem ggX8_count_X8_pairs : GoodIn wsX8_count wsX8_pairs := goodIn_r _ [20, 2, 4, 21, 22, 23, 12, 24, 25, 26, 27, 28, 29, 30, 1, 31, 32, 33, 34, 35, 36, 37, 38, 39, 40, 41, 42, 43, 44, 14, 15, 16, 45, 46, 47, 48, 49, 50, 51, 52, 53, 54, 55, 56, 57, 58, 59, 60, 61, 62, 63, 64, 65, 66, 67, 68, 69, 70, 71, 72, 73, 74, 75, 76, 77, 78, 79, 80] (by decide +kernel) (by decide +kernel)
set_option maxRecDepth 20000 in
theorem gX8_count_X8_pairs : GoodIn wsX8_count (wsV RX8 265 RX8 yX8_pairs wsX8_pairs) := goodIn_app (goodIn_of _ (by decide +kernel)) ggX8_count_X8_pairs
theorem dX8_count_0 : decode cX8_count 0 = .ok (.iload_n 1, 1) := by decide +kernel
theorem dX8_count_1 : decode cX8_count 1 = .ok (.ifCond .eq 8, 3) := by decide +kernel
theorem dX8_count_4 : decode cX8_count 4 = .ok (.iload_n 1, 1) := by decide +kernel
theorem dX8_count_5 : decode cX8_count 5 = .ok (.iconst 1, 1) := by decide +kernel
theorem dX8_count_6 : decode cX8_count 6 = .ok (.if_icmp .ne 12, 3) := by decide +kernel
theorem dX8_count_9 : decode cX8_count 9 = .ok (.aload_n 0, 1) := by decide +kernel
theorem dX8_count_10 : decode cX8_count 10 = .ok (.getfield 7, 3) := by decide +kernel
theorem dX8_count_13 : decode cX8_count 13 = .ok (.iload_n 1, 1) := by decide +kernel
theorem dX8_count_14 : decode cX8_count 14 = .ok (.iaload, 1) := by decide +kernel
theorem dX8_count_15 : decode cX8_count 15 = .ok (.goto 183, 3) := by decide +kernel
theorem dX8_count_18 : decode cX8_count 18 = .ok (.iload_n 1, 1) := by decide +kernel
theorem dX8_count_19 : decode cX8_count 19 = .ok (.iconst 2, 1) := by decide +kernel
theorem dX8_count_20 : decode cX8_count 20 = .ok (.if_icmp .ne 10, 3) := by decide +kernel
theorem dX8_count_23 : decode cX8_count 23 = .ok (.aload_n 0, 1) := by decide +kernel
theorem dX8_count_24 : decode cX8_count 24 = .ok (.getfield 98, 3) := by decide +kernel
theorem dX8_count_27 : decode cX8_count 27 = .ok (.goto 171, 3) := by decide +kernel
theorem dX8_count_30 : decode cX8_count 30 = .ok (.iload_n 1, 1) := by decide +kernel
theorem dX8_count_31 : decode cX8_count 31 = .ok (.iconst 3, 1) := by decide +kernel
theorem dX8_count_32 : decode cX8_count 32 = .ok (.if_icmp .ne 10, 3) := by decide +kernel
theorem dX8_count_35 : decode cX8_count 35 = .ok (.aload_n 0, 1) := by decide +kernel
theorem dX8_count_36 : decode cX8_count 36 = .ok (.getfield 101, 3) := by decide +kernel
theorem dX8_count_39 : decode cX8_count 39 = .ok (.goto 159, 3) := by decide +kernel
theorem dX8_count_42 : decode cX8_count 42 = .ok (.iload_n 1, 1) := by decide +kernel
theorem dX8_count_43 : decode cX8_count 43 = .ok (.iconst 4, 1) := by decide +kernel
theorem dX8_count_44 : decode cX8_count 44 = .ok (.if_icmp .ne 12, 3) := by decide +kernel
theorem dX8_count_47 : decode cX8_count 47 = .ok (.aload_n 0, 1) := by decide +kernel
theorem dX8_count_48 : decode cX8_count 48 = .ok (.getfield 46, 3) := by decide +kernel
theorem dX8_count_51 : decode cX8_count 51 = .ok (.iconst 3, 1) := by decide +kernel
theorem dX8_count_52 : decode cX8_count 52 = .ok (.iaload, 1) := by decide +kernel
theorem dX8_count_53 : decode cX8_count 53 = .ok (.goto 145, 3) := by decide +kernel
theorem dX8_count_56 : decode cX8_count 56 = .ok (.iload_n 1, 1) := by decide +kernel
theorem dX8_count_57 : decode cX8_count 57 = .ok (.iconst 5, 1) := by decide +kernel
theorem dX8_count_58 : decode cX8_count 58 = .ok (.if_icmp .ne 15, 3) := by decide +kernel
theorem dX8_count_61 : decode cX8_count 61 = .ok (.aload_n 0, 1) := by decide +kernel
theorem dX8_count_62 : decode cX8_count 62 = .ok (.getfield 46, 3) := by decide +kernel
theorem dX8_count_65 : decode cX8_count 65 = .ok (.iconst 0, 1) := by decide +kernel
theorem dX8_count_66 : decode cX8_count 66 = .ok (.iaload, 1) := by decide +kernel
theorem dX8_count_67 : decode cX8_count 67 = .ok (.bipush 40, 2) := by decide +kernel
theorem dX8_count_69 : decode cX8_count 69 = .ok (.iadd, 1) := by decide +kernel
theorem dX8_count_70 : decode cX8_count 70 = .ok (.goto 128, 3) := by decide +kernel
theorem dX8_count_73 : decode cX8_count 73 = .ok (.iload_n 1, 1) := by decide +kernel
theorem dX8_count_74 : decode cX8_count 74 = .ok (.bipush 6, 2) := by decide +kernel
theorem dX8_count_76 : decode cX8_count 76 = .ok (.if_icmp .ne 15, 3) := by decide +kernel
theorem dX8_count_79 : decode cX8_count 79 = .ok (.aload_n 0, 1) := by decide +kernel
theorem dX8_count_80 : decode cX8_count 80 = .ok (.getfield 46, 3) := by decide +kernel
theorem dX8_count_83 : decode cX8_count 83 = .ok (.iconst 1, 1) := by decide +kernel
theorem dX8_count_84 : decode cX8_count 84 = .ok (.iaload, 1) := by decide +kernel
theorem dX8_count_85 : decode cX8_count 85 = .ok (.bipush 40, 2) := by decide +kernel
theorem dX8_count_87 : decode cX8_count 87 = .ok (.iadd, 1) := by decide +kernel
theorem dX8_count_88 : decode cX8_count 88 = .ok (.goto 110, 3) := by decide +kernel
theorem dX8_count_91 : decode cX8_count 91 = .ok (.iload_n 1, 1) := by decide +kernel
theorem dX8_count_92 : decode cX8_count 92 = .ok (.bipush 7, 2) := by decide +kernel
theorem dX8_count_94 : decode cX8_count 94 = .ok (.if_icmp .ne 12, 3) := by decide +kernel
theorem dX8_count_97 : decode cX8_count 97 = .ok (.aload_n 0, 1) := by decide +kernel
theorem dX8_count_98 : decode cX8_count 98 = .ok (.getfield 46, 3) := by decide +kernel
theorem dX8_count_101 : decode cX8_count 101 = .ok (.iconst 2, 1) := by decide +kernel
theorem dX8_count_102 : decode cX8_count 102 = .ok (.iaload, 1) := by decide +kernel
theorem dX8_count_103 : decode cX8_count 103 = .ok (.goto 95, 3) := by decide +kernel
theorem dX8_count_106 : decode cX8_count 106 = .ok (.iload_n 1, 1) := by decide +kernel
theorem dX8_count_107 : decode cX8_count 107 = .ok (.bipush 8, 2) := by decide +kernel
theorem dX8_count_109 : decode cX8_count 109 = .ok (.if_icmp .ne 11, 3) := by decide +kernel
theorem dX8_count_112 : decode cX8_count 112 = .ok (.aload_n 0, 1) := by decide +kernel
theorem dX8_count_113 : decode cX8_count 113 = .ok (.iconst 0, 1) := by decide +kernel
theorem dX8_count_114 : decode cX8_count 114 = .ok (.invokevirtual 247, 3) := by decide +kernel
theorem dX8_count_117 : decode cX8_count 117 = .ok (.goto 81, 3) := by decide +kernel
theorem dX8_count_120 : decode cX8_count 120 = .ok (.iload_n 1, 1) := by decide +kernel
theorem dX8_count_121 : decode cX8_count 121 = .ok (.bipush 9, 2) := by decide +kernel
theorem dX8_count_123 : decode cX8_count 123 = .ok (.if_icmp .ne 22, 3) := by decide +kernel
theorem dX8_count_126 : decode cX8_count 126 = .ok (.aload_n 0, 1) := by decide +kernel
theorem dX8_count_127 : decode cX8_count 127 = .ok (.aload_n 0, 1) := by decide +kernel
theorem dX8_count_128 : decode cX8_count 128 = .ok (.getfield 46, 3) := by decide +kernel
theorem dX8_count_131 : decode cX8_count 131 = .ok (.iconst 0, 1) := by decide +kernel
theorem dX8_count_132 : decode cX8_count 132 = .ok (.iaload, 1) := by decide +kernel
theorem dX8_count_133 : decode cX8_count 133 = .ok (.aload_n 0, 1) := by decide +kernel
theorem dX8_count_134 : decode cX8_count 134 = .ok (.getfield 46, 3) := by decide +kernel
theorem dX8_count_137 : decode cX8_count 137 = .ok (.iconst 1, 1) := by decide +kernel
theorem dX8_count_138 : decode cX8_count 138 = .ok (.iaload, 1) := by decide +kernel
theorem dX8_count_139 : decode cX8_count 139 = .ok (.invokevirtual 265, 3) := by decide +kernel
theorem dX8_count_142 : decode cX8_count 142 = .ok (.goto 56, 3) := by decide +kernel
theorem dX8_count_145 : decode cX8_count 145 = .ok (.iload_n 1, 1) := by decide +kernel
theorem dX8_count_146 : decode cX8_count 146 = .ok (.bipush 10, 2) := by decide +kernel
theorem dX8_count_148 : decode cX8_count 148 = .ok (.if_icmp .ne 10, 3) := by decide +kernel
theorem dX8_count_151 : decode cX8_count 151 = .ok (.aload_n 0, 1) := by decide +kernel
theorem dX8_count_152 : decode cX8_count 152 = .ok (.getfield 166, 3) := by decide +kernel
theorem dX8_count_155 : decode cX8_count 155 = .ok (.goto 43, 3) := by decide +kernel
theorem dX8_count_158 : decode cX8_count 158 = .ok (.iload_n 1, 1) := by decide +kernel
theorem dX8_count_159 : decode cX8_count 159 = .ok (.bipush 11, 2) := by decide +kernel
theorem dX8_count_161 : decode cX8_count 161 = .ok (.if_icmp .ne 10, 3) := by decide +kernel
theorem dX8_count_164 : decode cX8_count 164 = .ok (.aload_n 0, 1) := by decide +kernel
theorem dX8_count_165 : decode cX8_count 165 = .ok (.getfield 160, 3) := by decide +kernel
theorem dX8_count_168 : decode cX8_count 168 = .ok (.goto 30, 3) := by decide +kernel
theorem dX8_count_171 : decode cX8_count 171 = .ok (.iload_n 1, 1) := by decide +kernel
theorem dX8_count_172 : decode cX8_count 172 = .ok (.bipush 12, 2) := by decide +kernel
theorem dX8_count_174 : decode cX8_count 174 = .ok (.if_icmp .ne 10, 3) := by decide +kernel
theorem dX8_count_177 : decode cX8_count 177 = .ok (.aload_n 0, 1) := by decide +kernel
theorem dX8_count_178 : decode cX8_count 178 = .ok (.getfield 163, 3) := by decide +kernel
theorem dX8_count_181 : decode cX8_count 181 = .ok (.goto 17, 3) := by decide +kernel
theorem dX8_count_184 : decode cX8_count 184 = .ok (.iload_n 1, 1) := by decide +kernel
theorem dX8_count_185 : decode cX8_count 185 = .ok (.bipush 13, 2) := by decide +kernel
theorem dX8_count_187 : decode cX8_count 187 = .ok (.if_icmp .ne 10, 3) := by decide +kernel
theorem dX8_count_190 : decode cX8_count 190 = .ok (.aload_n 0, 1) := by decide +kernel
theorem dX8_count_191 : decode cX8_count 191 = .ok (.getfield 118, 3) := by decide +kernel
theorem dX8_count_194 : decode cX8_count 194 = .ok (.goto 4, 3) := by decide +kernel
theorem dX8_count_197 : decode cX8_count 197 = .ok (.iconst (-1), 1) := by decide +kernel
theorem dX8_count_198 : decode cX8_count 198 = .ok (.ireturn, 1) := by decide +kernel
