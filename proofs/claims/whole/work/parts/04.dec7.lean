set_option maxRecDepth 20000 in
theorem ggX7_init_X2_init : GoodIn wsX7_init wsX2_init := goodIn_r _ [40, 41, 2, 3, 35, 42, 219, 220] (by decide +kernel) (by decide +kernel)
set_option maxRecDepth 20000 in
theorem gX7_init_X2_init : GoodIn wsX7_init (wsX2_init) := ggX7_init_X2_init
set_option maxRecDepth 20000 in
theorem ggX7_init_X6_init : GoodIn wsX7_init wsX6_init := goodIn_r _ [45, 46, 2, 3, 35, 47, 48, 49, 50, 51, 52, 53, 54, 232, 233, 234, 235, 236, 237, 238, 239, 240, 241, 242] (by decide +kernel) (by decide +kernel)
set_option maxRecDepth 20000 in
theorem gX7_init_X6_init : GoodIn wsX7_init (wsX6_init) := ggX7_init_X6_init
set_option maxRecDepth 20000 in
theorem ggX7_init_X5_init : GoodIn wsX7_init wsX5_init := goodIn_r _ [57, 58, 2, 3, 35, 59, 60, 243, 244, 245, 246, 247, 248, 249] (by decide +kernel) (by decide +kernel)
set_option maxRecDepth 20000 in
theorem gX7_init_X5_init : GoodIn wsX7_init (wsX5_init) := ggX7_init_X5_init
set_option maxRecDepth 20000 in
theorem ggX7_init_X3_init : GoodIn wsX7_init wsX3_init := goodIn_r _ [63, 64, 2, 3, 65, 66, 14, 15, 67, 56, 57, 58, 35, 59, 60, 250, 251, 243, 244, 245, 246, 247, 248, 249] (by decide +kernel) (by decide +kernel)
set_option maxRecDepth 20000 in
theorem gX7_init_X3_init : GoodIn wsX7_init (wsX3_init) := ggX7_init_X3_init
set_option maxRecDepth 20000 in
theorem ggX7_init_X0_init : GoodIn wsX7_init wsX0_init := goodIn_r _ [70, 71, 2, 3, 35, 72, 73, 252, 253, 254] (by decide +kernel) (by decide +kernel)
set_option maxRecDepth 20000 in
theorem gX7_init_X0_init : GoodIn wsX7_init (wsX0_init) := ggX7_init_X0_init
set_option maxRecDepth 20000 in
theorem ggX7_init_X4_init : GoodIn wsX7_init wsX4_init := goodIn_r _ [76, 77, 2, 3, 35, 78, 79, 80, 81, 82, 83, 84, 255, 256, 257, 258, 259, 260, 261, 262] (by decide +kernel) (by decide +kernel)
set_option maxRecDepth 20000 in
theorem gX7_init_X4_init : GoodIn wsX7_init (wsX4_init) := ggX7_init_X4_init
set_option maxRecDepth 20000 in
theorem ggX7_init_X1_init : GoodIn wsX7_init wsX1_init := goodIn_r _ [87, 88, 2, 3, 82, 89, 35, 90, 263, 264, 265, 266] (by decide +kernel) (by decide +kernel)
set_option maxRecDepth 20000 in
theorem gX7_init_X1_init : GoodIn wsX7_init (wsX1_init) := ggX7_init_X1_init
set_option maxRecDepth 20000 in
theorem ggX7_init_J0_length_8abf5 : GoodIn wsX7_init wsJ0_length_8abf5 := goodIn_r _ [95, 96, 97, 98, 99, 94, 100, 101, 102] (by decide +kernel) (by decide +kernel)
set_option maxRecDepth 20000 in
theorem gX7_init_J0_length_8abf5 : GoodIn wsX7_init (wsV RX7 75 RJ0 yJ0_length_8abf5 wsJ0_length_8abf5) := goodIn_app (goodIn_of _ (by decide +kernel)) ggX7_init_J0_length_8abf5
set_option maxRecDepth 20000 in
theorem ggX7_init_J0_charAt_5068e : GoodIn wsX7_init wsJ0_charAt_5068e := goodIn_r _ [106, 96, 107, 108, 109, 94, 110, 101, 102, 111, 112, 113, 114, 115, 116, 117, 118, 119, 120, 121, 122, 123, 124, 125, 126, 127, 128, 129, 130, 131, 132, 133, 134, 135, 136, 137, 138, 139] (by decide +kernel) (by decide +kernel)
set_option maxRecDepth 20000 in
theorem gX7_init_J0_charAt_5068e : GoodIn wsX7_init (wsV RX7 81 RJ0 yJ0_charAt_5068e wsJ0_charAt_5068e) := goodIn_app (goodIn_of _ (by decide +kernel)) ggX7_init_J0_charAt_5068e
set_option maxRecDepth 20000 in
theorem ggX7_init_X2_append : GoodIn wsX7_init wsX2_append := goodIn_r _ [143, 144, 42, 145, 146, 147, 219, 220] (by decide +kernel) (by decide +kernel)
set_option maxRecDepth 20000 in
theorem gX7_init_X2_append : GoodIn wsX7_init (wsV RX7 85 RX2 yX2_append wsX2_append) := goodIn_app (goodIn_of _ (by decide +kernel)) ggX7_init_X2_append
set_option maxRecDepth 20000 in
theorem ggX7_init_X6_read : GoodIn wsX7_init wsX6_read := goodIn_r _ [151, 152, 153, 154, 155, 10, 156, 47, 48, 157, 158, 159, 145, 146, 147, 160, 161, 162, 163, 54, 164, 165, 166, 6, 167, 144, 42, 168, 169, 170, 171, 172, 173, 174, 175, 176, 177, 178, 179, 180, 181, 182, 183, 184, 185, 186, 187, 188, 189, 190, 191, 192, 193, 194, 195, 196, 49, 50, 51, 197, 198, 199, 200, 52, 201, 202, 203, 204, 205, 206, 53, 219, 220, 232, 233, 234, 235, 236, 237, 238, 239, 240, 241, 242] (by decide +kernel) (by decide +kernel)
set_option maxRecDepth 20000 in
theorem gX7_init_X6_read : GoodIn wsX7_init (wsV RX7 89 RX6 yX6_read wsX6_read) := goodIn_app (goodIn_of _ (by decide +kernel)) ggX7_init_X6_read
set_option maxRecDepth 20000 in
theorem ggX7_init_X5_begin : GoodIn wsX7_init wsX5_begin := goodIn_r _ [210, 211, 212, 213, 214, 215, 216, 59, 60, 217, 146, 218, 145, 147, 243, 244, 245, 246, 247, 248, 249, 232, 233, 234, 235, 236, 237, 238, 239, 240, 241, 242] (by decide +kernel) (by decide +kernel)
set_option maxRecDepth 20000 in
theorem gX7_init_X5_begin : GoodIn wsX7_init (wsV RX7 97 RX5 yX5_begin wsX5_begin) := goodIn_app (goodIn_of _ (by decide +kernel)) ggX7_init_X5_begin
theorem dX7_init_0 : decode cX7_init 0 = .ok (.aload_n 0, 1) := by decide +kernel
theorem dX7_init_1 : decode cX7_init 1 = .ok (.invokespecial 3, 3) := by decide +kernel
theorem dX7_init_4 : decode cX7_init 4 = .ok (.aload_n 0, 1) := by decide +kernel
theorem dX7_init_5 : decode cX7_init 5 = .ok (.new 9, 3) := by decide +kernel
theorem dX7_init_8 : decode cX7_init 8 = .ok (.dup, 1) := by decide +kernel
theorem dX7_init_9 : decode cX7_init 9 = .ok (.invokespecial 11, 3) := by decide +kernel
theorem dX7_init_12 : decode cX7_init 12 = .ok (.putfield 12, 3) := by decide +kernel
theorem dX7_init_15 : decode cX7_init 15 = .ok (.aload_n 0, 1) := by decide +kernel
theorem dX7_init_16 : decode cX7_init 16 = .ok (.new 16, 3) := by decide +kernel
theorem dX7_init_19 : decode cX7_init 19 = .ok (.dup, 1) := by decide +kernel
theorem dX7_init_20 : decode cX7_init 20 = .ok (.invokespecial 18, 3) := by decide +kernel
theorem dX7_init_23 : decode cX7_init 23 = .ok (.putfield 19, 3) := by decide +kernel
theorem dX7_init_26 : decode cX7_init 26 = .ok (.aload_n 0, 1) := by decide +kernel
theorem dX7_init_27 : decode cX7_init 27 = .ok (.new 16, 3) := by decide +kernel
theorem dX7_init_30 : decode cX7_init 30 = .ok (.dup, 1) := by decide +kernel
theorem dX7_init_31 : decode cX7_init 31 = .ok (.invokespecial 18, 3) := by decide +kernel
theorem dX7_init_34 : decode cX7_init 34 = .ok (.putfield 23, 3) := by decide +kernel
theorem dX7_init_37 : decode cX7_init 37 = .ok (.aload_n 0, 1) := by decide +kernel
theorem dX7_init_38 : decode cX7_init 38 = .ok (.new 26, 3) := by decide +kernel
theorem dX7_init_41 : decode cX7_init 41 = .ok (.dup, 1) := by decide +kernel
theorem dX7_init_42 : decode cX7_init 42 = .ok (.invokespecial 28, 3) := by decide +kernel
theorem dX7_init_45 : decode cX7_init 45 = .ok (.putfield 29, 3) := by decide +kernel
theorem dX7_init_48 : decode cX7_init 48 = .ok (.aload_n 0, 1) := by decide +kernel
theorem dX7_init_49 : decode cX7_init 49 = .ok (.new 26, 3) := by decide +kernel
theorem dX7_init_52 : decode cX7_init 52 = .ok (.dup, 1) := by decide +kernel
theorem dX7_init_53 : decode cX7_init 53 = .ok (.invokespecial 28, 3) := by decide +kernel
theorem dX7_init_56 : decode cX7_init 56 = .ok (.putfield 33, 3) := by decide +kernel
theorem dX7_init_59 : decode cX7_init 59 = .ok (.aload_n 0, 1) := by decide +kernel
theorem dX7_init_60 : decode cX7_init 60 = .ok (.new 36, 3) := by decide +kernel
theorem dX7_init_63 : decode cX7_init 63 = .ok (.dup, 1) := by decide +kernel
theorem dX7_init_64 : decode cX7_init 64 = .ok (.bipush 8, 2) := by decide +kernel
theorem dX7_init_66 : decode cX7_init 66 = .ok (.invokespecial 38, 3) := by decide +kernel
theorem dX7_init_69 : decode cX7_init 69 = .ok (.putfield 41, 3) := by decide +kernel
theorem dX7_init_72 : decode cX7_init 72 = .ok (.aload_n 0, 1) := by decide +kernel
theorem dX7_init_73 : decode cX7_init 73 = .ok (.new 36, 3) := by decide +kernel
theorem dX7_init_76 : decode cX7_init 76 = .ok (.dup, 1) := by decide +kernel
theorem dX7_init_77 : decode cX7_init 77 = .ok (.iconst 2, 1) := by decide +kernel
theorem dX7_init_78 : decode cX7_init 78 = .ok (.invokespecial 38, 3) := by decide +kernel
theorem dX7_init_81 : decode cX7_init 81 = .ok (.putfield 45, 3) := by decide +kernel
theorem dX7_init_84 : decode cX7_init 84 = .ok (.aload_n 0, 1) := by decide +kernel
theorem dX7_init_85 : decode cX7_init 85 = .ok (.new 48, 3) := by decide +kernel
theorem dX7_init_88 : decode cX7_init 88 = .ok (.dup, 1) := by decide +kernel
theorem dX7_init_89 : decode cX7_init 89 = .ok (.invokespecial 50, 3) := by decide +kernel
theorem dX7_init_92 : decode cX7_init 92 = .ok (.putfield 51, 3) := by decide +kernel
theorem dX7_init_95 : decode cX7_init 95 = .ok (.aload_n 0, 1) := by decide +kernel
theorem dX7_init_96 : decode cX7_init 96 = .ok (.new 55, 3) := by decide +kernel
theorem dX7_init_99 : decode cX7_init 99 = .ok (.dup, 1) := by decide +kernel
theorem dX7_init_100 : decode cX7_init 100 = .ok (.invokespecial 57, 3) := by decide +kernel
theorem dX7_init_103 : decode cX7_init 103 = .ok (.putfield 58, 3) := by decide +kernel
theorem dX7_init_106 : decode cX7_init 106 = .ok (.aload_n 0, 1) := by decide +kernel
theorem dX7_init_107 : decode cX7_init 107 = .ok (.new 62, 3) := by decide +kernel
theorem dX7_init_110 : decode cX7_init 110 = .ok (.dup, 1) := by decide +kernel
theorem dX7_init_111 : decode cX7_init 111 = .ok (.invokespecial 64, 3) := by decide +kernel
theorem dX7_init_114 : decode cX7_init 114 = .ok (.putfield 65, 3) := by decide +kernel
theorem dX7_init_117 : decode cX7_init 117 = .ok (.aload_n 0, 1) := by decide +kernel
theorem dX7_init_118 : decode cX7_init 118 = .ok (.bipush 9, 2) := by decide +kernel
theorem dX7_init_120 : decode cX7_init 120 = .ok (.newarray .int, 2) := by decide +kernel
theorem dX7_init_122 : decode cX7_init 122 = .ok (.putfield 69, 3) := by decide +kernel
theorem dX7_init_125 : decode cX7_init 125 = .ok (.iconst 0, 1) := by decide +kernel
theorem dX7_init_126 : decode cX7_init 126 = .ok (.istore_n 1, 1) := by decide +kernel
theorem dX7_init_127 : decode cX7_init 127 = .ok (.iload_n 1, 1) := by decide +kernel
theorem dX7_init_128 : decode cX7_init 128 = .ok (.ldc 73, 2) := by decide +kernel
theorem dX7_init_130 : decode cX7_init 130 = .ok (.invokevirtual 75, 3) := by decide +kernel
theorem dX7_init_133 : decode cX7_init 133 = .ok (.if_icmp .ge 23, 3) := by decide +kernel
theorem dX7_init_136 : decode cX7_init 136 = .ok (.aload_n 0, 1) := by decide +kernel
theorem dX7_init_137 : decode cX7_init 137 = .ok (.getfield 12, 3) := by decide +kernel
theorem dX7_init_140 : decode cX7_init 140 = .ok (.ldc 73, 2) := by decide +kernel
theorem dX7_init_142 : decode cX7_init 142 = .ok (.iload_n 1, 1) := by decide +kernel
theorem dX7_init_143 : decode cX7_init 143 = .ok (.invokevirtual 81, 3) := by decide +kernel
theorem dX7_init_146 : decode cX7_init 146 = .ok (.invokevirtual 85, 3) := by decide +kernel
theorem dX7_init_149 : decode cX7_init 149 = .ok (.pop, 1) := by decide +kernel
theorem dX7_init_150 : decode cX7_init 150 = .ok (.iinc 1 1, 3) := by decide +kernel
theorem dX7_init_153 : decode cX7_init 153 = .ok (.goto (-26), 3) := by decide +kernel
theorem dX7_init_156 : decode cX7_init 156 = .ok (.aload_n 0, 1) := by decide +kernel
theorem dX7_init_157 : decode cX7_init 157 = .ok (.getfield 19, 3) := by decide +kernel
theorem dX7_init_160 : decode cX7_init 160 = .ok (.aload_n 0, 1) := by decide +kernel
theorem dX7_init_161 : decode cX7_init 161 = .ok (.getfield 12, 3) := by decide +kernel
theorem dX7_init_164 : decode cX7_init 164 = .ok (.invokevirtual 89, 3) := by decide +kernel
theorem dX7_init_167 : decode cX7_init 167 = .ok (.pop, 1) := by decide +kernel
theorem dX7_init_168 : decode cX7_init 168 = .ok (.aload_n 0, 1) := by decide +kernel
theorem dX7_init_169 : decode cX7_init 169 = .ok (.getfield 12, 3) := by decide +kernel
theorem dX7_init_172 : decode cX7_init 172 = .ok (.iconst 0, 1) := by decide +kernel
theorem dX7_init_173 : decode cX7_init 173 = .ok (.putfield 93, 3) := by decide +kernel
theorem dX7_init_176 : decode cX7_init 176 = .ok (.aload_n 0, 1) := by decide +kernel
theorem dX7_init_177 : decode cX7_init 177 = .ok (.getfield 29, 3) := by decide +kernel
theorem dX7_init_180 : decode cX7_init 180 = .ok (.aload_n 0, 1) := by decide +kernel
theorem dX7_init_181 : decode cX7_init 181 = .ok (.getfield 19, 3) := by decide +kernel
theorem dX7_init_184 : decode cX7_init 184 = .ok (.invokevirtual 97, 3) := by decide +kernel
theorem dX7_init_187 : decode cX7_init 187 = .ok (.return_, 1) := by decide +kernel
set_option maxRecDepth 20000 in
theorem ggX7_write_X7_within : GoodIn wsX7_write wsX7_within := goodIn_r _ [6] (by decide +kernel) (by decide +kernel)
set_option maxRecDepth 20000 in
theorem gX7_write_X7_within : GoodIn wsX7_write (va_wsS RX7 101 yX7_within wsX7_within) := goodIn_app (goodIn_of _ (by decide +kernel)) ggX7_write_X7_within
set_option maxRecDepth 20000 in
theorem ggX7_write_X2_append : GoodIn wsX7_write wsX2_append := goodIn_r _ [11, 12, 13, 14, 5, 15, 27, 28] (by decide +kernel) (by decide +kernel)
set_option maxRecDepth 20000 in
theorem gX7_write_X2_append : GoodIn wsX7_write (wsV RX7 85 RX2 yX2_append wsX2_append) := goodIn_app (goodIn_of _ (by decide +kernel)) ggX7_write_X2_append
theorem dX7_write_0 : decode cX7_write 0 = .ok (.iload_n 1, 1) := by decide +kernel
theorem dX7_write_1 : decode cX7_write 1 = .ok (.bipush 32, 2) := by decide +kernel
theorem dX7_write_3 : decode cX7_write 3 = .ok (.bipush 126, 2) := by decide +kernel
theorem dX7_write_5 : decode cX7_write 5 = .ok (.invokestatic 101, 3) := by decide +kernel
theorem dX7_write_8 : decode cX7_write 8 = .ok (.ifCond .ne 5, 3) := by decide +kernel
theorem dX7_write_11 : decode cX7_write 11 = .ok (.iconst (-1), 1) := by decide +kernel
theorem dX7_write_12 : decode cX7_write 12 = .ok (.ireturn, 1) := by decide +kernel
theorem dX7_write_13 : decode cX7_write 13 = .ok (.aload_n 0, 1) := by decide +kernel
theorem dX7_write_14 : decode cX7_write 14 = .ok (.getfield 12, 3) := by decide +kernel
theorem dX7_write_17 : decode cX7_write 17 = .ok (.iload_n 1, 1) := by decide +kernel
theorem dX7_write_18 : decode cX7_write 18 = .ok (.invokevirtual 85, 3) := by decide +kernel
theorem dX7_write_21 : decode cX7_write 21 = .ok (.ifCond .eq 13, 3) := by decide +kernel
theorem dX7_write_24 : decode cX7_write 24 = .ok (.aload_n 0, 1) := by decide +kernel
theorem dX7_write_25 : decode cX7_write 25 = .ok (.getfield 12, 3) := by decide +kernel
theorem dX7_write_28 : decode cX7_write 28 = .ok (.getfield 93, 3) := by decide +kernel
theorem dX7_write_31 : decode cX7_write 31 = .ok (.goto 5, 3) := by decide +kernel
theorem dX7_write_34 : decode cX7_write 34 = .ok (.bipush (-3), 2) := by decide +kernel
theorem dX7_write_36 : decode cX7_write 36 = .ok (.ireturn, 1) := by decide +kernel
theorem dX7_wipe_0 : decode cX7_wipe 0 = .ok (.aload_n 0, 1) := by decide +kernel
theorem dX7_wipe_1 : decode cX7_wipe 1 = .ok (.getfield 12, 3) := by decide +kernel
theorem dX7_wipe_4 : decode cX7_wipe 4 = .ok (.getfield 93, 3) := by decide +kernel
theorem dX7_wipe_7 : decode cX7_wipe 7 = .ok (.istore_n 1, 1) := by decide +kernel
theorem dX7_wipe_8 : decode cX7_wipe 8 = .ok (.aload_n 0, 1) := by decide +kernel
theorem dX7_wipe_9 : decode cX7_wipe 9 = .ok (.getfield 12, 3) := by decide +kernel
theorem dX7_wipe_12 : decode cX7_wipe 12 = .ok (.iconst 0, 1) := by decide +kernel
theorem dX7_wipe_13 : decode cX7_wipe 13 = .ok (.putfield 93, 3) := by decide +kernel
theorem dX7_wipe_16 : decode cX7_wipe 16 = .ok (.iload_n 1, 1) := by decide +kernel
theorem dX7_wipe_17 : decode cX7_wipe 17 = .ok (.ireturn, 1) := by decide +kernel
set_option maxRecDepth 20000 in
theorem ggX7_fault_X6_read : GoodIn wsX7_fault wsX6_read := goodIn_r _ [7, 8, 9, 10, 11, 6, 12, 13, 14, 15, 16, 17, 18, 19, 20, 21, 22, 23, 24, 25, 26, 27, 28, 29, 30, 31, 32, 33, 34, 35, 36, 37, 38, 39, 40, 41, 42, 43, 44, 45, 46, 47, 48, 49, 50, 51, 52, 53, 54, 55, 56, 57, 58, 59, 60, 61, 62, 63, 64, 65, 66, 67, 68, 69, 70, 71, 72, 73, 74, 75, 76, 88, 89, 90, 91, 92, 93, 94, 95, 96, 97, 98, 99, 100] (by decide +kernel) (by decide +kernel)
set_option maxRecDepth 20000 in
theorem gX7_fault_X6_read : GoodIn wsX7_fault (wsV RX7 89 RX6 yX6_read wsX6_read) := goodIn_app (goodIn_of _ (by decide +kernel)) ggX7_fault_X6_read
theorem dX7_fault_0 : decode cX7_fault 0 = .ok (.aload_n 0, 1) := by decide +kernel
theorem dX7_fault_1 : decode cX7_fault 1 = .ok (.getfield 23, 3) := by decide +kernel
theorem dX7_fault_4 : decode cX7_fault 4 = .ok (.aload_n 0, 1) := by decide +kernel
theorem dX7_fault_5 : decode cX7_fault 5 = .ok (.getfield 12, 3) := by decide +kernel
theorem dX7_fault_8 : decode cX7_fault 8 = .ok (.invokevirtual 89, 3) := by decide +kernel
theorem dX7_fault_11 : decode cX7_fault 11 = .ok (.ireturn, 1) := by decide +kernel
set_option maxRecDepth 20000 in
theorem ggX7_lay_X6_read : GoodIn wsX7_lay wsX6_read := goodIn_r _ [16, 17, 18, 19, 20, 15, 21, 22, 23, 24, 25, 26, 27, 28, 29, 30, 31, 32, 33, 34, 35, 36, 37, 38, 39, 40, 41, 42, 43, 44, 45, 46, 47, 48, 49, 50, 51, 52, 53, 54, 55, 56, 57, 58, 59, 60, 61, 62, 63, 64, 65, 66, 67, 68, 69, 70, 71, 72, 73, 74, 75, 76, 77, 78, 79, 80, 81, 82, 83, 84, 85, 128, 129, 112, 113, 114, 115, 116, 117, 118, 119, 120, 121, 122] (by decide +kernel) (by decide +kernel)
set_option maxRecDepth 20000 in
theorem gX7_lay_X6_read : GoodIn wsX7_lay (wsV RX7 89 RX6 yX6_read wsX6_read) := goodIn_app (goodIn_of _ (by decide +kernel)) ggX7_lay_X6_read
set_option maxRecDepth 20000 in
theorem ggX7_lay_X5_begin : GoodIn wsX7_lay wsX5_begin := goodIn_r _ [90, 91, 92, 93, 94, 95, 96, 97, 98, 99, 28, 100, 27, 29, 130, 131, 132, 133, 134, 135, 136, 112, 113, 114, 115, 116, 117, 118, 119, 120, 121, 122] (by decide +kernel) (by decide +kernel)
set_option maxRecDepth 20000 in
theorem gX7_lay_X5_begin : GoodIn wsX7_lay (wsV RX7 97 RX5 yX5_begin wsX5_begin) := goodIn_app (goodIn_of _ (by decide +kernel)) ggX7_lay_X5_begin
theorem dX7_lay_0 : decode cX7_lay 0 = .ok (.aload_n 0, 1) := by decide +kernel
theorem dX7_lay_1 : decode cX7_lay 1 = .ok (.getfield 23, 3) := by decide +kernel
theorem dX7_lay_4 : decode cX7_lay 4 = .ok (.aload_n 0, 1) := by decide +kernel
theorem dX7_lay_5 : decode cX7_lay 5 = .ok (.getfield 12, 3) := by decide +kernel
theorem dX7_lay_8 : decode cX7_lay 8 = .ok (.invokevirtual 89, 3) := by decide +kernel
theorem dX7_lay_11 : decode cX7_lay 11 = .ok (.bipush (-4), 2) := by decide +kernel
theorem dX7_lay_13 : decode cX7_lay 13 = .ok (.if_icmp .ne 23, 3) := by decide +kernel
theorem dX7_lay_16 : decode cX7_lay 16 = .ok (.aload_n 0, 1) := by decide +kernel
theorem dX7_lay_17 : decode cX7_lay 17 = .ok (.getfield 23, 3) := by decide +kernel
theorem dX7_lay_20 : decode cX7_lay 20 = .ok (.getfield 105, 3) := by decide +kernel
theorem dX7_lay_23 : decode cX7_lay 23 = .ok (.ifCond .eq 13, 3) := by decide +kernel
theorem dX7_lay_26 : decode cX7_lay 26 = .ok (.aload_n 0, 1) := by decide +kernel
theorem dX7_lay_27 : decode cX7_lay 27 = .ok (.getfield 23, 3) := by decide +kernel
theorem dX7_lay_30 : decode cX7_lay 30 = .ok (.getfield 108, 3) := by decide +kernel
theorem dX7_lay_33 : decode cX7_lay 33 = .ok (.ifCond .ne 6, 3) := by decide +kernel
theorem dX7_lay_36 : decode cX7_lay 36 = .ok (.bipush (-2), 2) := by decide +kernel
theorem dX7_lay_38 : decode cX7_lay 38 = .ok (.ireturn, 1) := by decide +kernel
theorem dX7_lay_39 : decode cX7_lay 39 = .ok (.aload_n 0, 1) := by decide +kernel
theorem dX7_lay_40 : decode cX7_lay 40 = .ok (.getfield 23, 3) := by decide +kernel
theorem dX7_lay_43 : decode cX7_lay 43 = .ok (.astore_n 1, 1) := by decide +kernel
theorem dX7_lay_44 : decode cX7_lay 44 = .ok (.aload_n 0, 1) := by decide +kernel
theorem dX7_lay_45 : decode cX7_lay 45 = .ok (.aload_n 0, 1) := by decide +kernel
theorem dX7_lay_46 : decode cX7_lay 46 = .ok (.getfield 19, 3) := by decide +kernel
theorem dX7_lay_49 : decode cX7_lay 49 = .ok (.putfield 23, 3) := by decide +kernel
theorem dX7_lay_52 : decode cX7_lay 52 = .ok (.aload_n 0, 1) := by decide +kernel
theorem dX7_lay_53 : decode cX7_lay 53 = .ok (.aload_n 1, 1) := by decide +kernel
theorem dX7_lay_54 : decode cX7_lay 54 = .ok (.putfield 19, 3) := by decide +kernel
theorem dX7_lay_57 : decode cX7_lay 57 = .ok (.aload_n 0, 1) := by decide +kernel
theorem dX7_lay_58 : decode cX7_lay 58 = .ok (.getfield 29, 3) := by decide +kernel
theorem dX7_lay_61 : decode cX7_lay 61 = .ok (.aload_n 0, 1) := by decide +kernel
theorem dX7_lay_62 : decode cX7_lay 62 = .ok (.getfield 19, 3) := by decide +kernel
theorem dX7_lay_65 : decode cX7_lay 65 = .ok (.invokevirtual 97, 3) := by decide +kernel
theorem dX7_lay_68 : decode cX7_lay 68 = .ok (.aload_n 0, 1) := by decide +kernel
theorem dX7_lay_69 : decode cX7_lay 69 = .ok (.getfield 41, 3) := by decide +kernel
theorem dX7_lay_72 : decode cX7_lay 72 = .ok (.iconst 0, 1) := by decide +kernel
theorem dX7_lay_73 : decode cX7_lay 73 = .ok (.putfield 111, 3) := by decide +kernel
theorem dX7_lay_76 : decode cX7_lay 76 = .ok (.aload_n 0, 1) := by decide +kernel
theorem dX7_lay_77 : decode cX7_lay 77 = .ok (.getfield 45, 3) := by decide +kernel
theorem dX7_lay_80 : decode cX7_lay 80 = .ok (.iconst 0, 1) := by decide +kernel
theorem dX7_lay_81 : decode cX7_lay 81 = .ok (.putfield 111, 3) := by decide +kernel
theorem dX7_lay_84 : decode cX7_lay 84 = .ok (.aload_n 0, 1) := by decide +kernel
theorem dX7_lay_85 : decode cX7_lay 85 = .ok (.getfield 51, 3) := by decide +kernel
theorem dX7_lay_88 : decode cX7_lay 88 = .ok (.iconst 0, 1) := by decide +kernel
theorem dX7_lay_89 : decode cX7_lay 89 = .ok (.putfield 112, 3) := by decide +kernel
theorem dX7_lay_92 : decode cX7_lay 92 = .ok (.aload_n 0, 1) := by decide +kernel
theorem dX7_lay_93 : decode cX7_lay 93 = .ok (.getfield 19, 3) := by decide +kernel
theorem dX7_lay_96 : decode cX7_lay 96 = .ok (.getfield 105, 3) := by decide +kernel
theorem dX7_lay_99 : decode cX7_lay 99 = .ok (.ireturn, 1) := by decide +kernel
set_option maxRecDepth 20000 in
theorem ggX7_land_X6_isOfLand : GoodIn wsX7_land wsX6_isOfLand := goodIn_r _ [10, 11, 12, 13, 14, 15, 16, 35, 36, 37, 38, 39, 40, 41, 42, 43, 44, 45] (by decide +kernel) (by decide +kernel)
set_option maxRecDepth 20000 in
theorem gX7_land_X6_isOfLand : GoodIn wsX7_land (wsV RX7 113 RX6 yX6_isOfLand wsX6_isOfLand) := goodIn_app (goodIn_of _ (by decide +kernel)) ggX7_land_X6_isOfLand
set_option maxRecDepth 20000 in
theorem ggX7_land_X7_oneOf : GoodIn wsX7_land wsX7_oneOf := goodIn_r _ [19] (by decide +kernel) (by decide +kernel)
set_option maxRecDepth 20000 in
theorem gX7_land_X7_oneOf : GoodIn wsX7_land (va_wsS RX7 117 yX7_oneOf wsX7_oneOf) := goodIn_app (goodIn_of _ (by decide +kernel)) ggX7_land_X7_oneOf
set_option maxRecDepth 20000 in
theorem ggX7_land_X7_cell : GoodIn wsX7_land wsX7_cell := goodIn_r _ [16] (by decide +kernel) (by decide +kernel)
set_option maxRecDepth 20000 in
theorem gX7_land_X7_cell : GoodIn wsX7_land (va_wsS RX7 124 yX7_cell wsX7_cell) := goodIn_app (goodIn_of _ (by decide +kernel)) ggX7_land_X7_cell
set_option maxRecDepth 20000 in
theorem ggX7_land_X7_bitOf : GoodIn wsX7_land wsX7_bitOf := goodIn_r _ [23] (by decide +kernel) (by decide +kernel)
set_option maxRecDepth 20000 in
theorem gX7_land_X7_bitOf : GoodIn wsX7_land (va_wsS RX7 134 yX7_bitOf wsX7_bitOf) := goodIn_app (goodIn_of _ (by decide +kernel)) ggX7_land_X7_bitOf
theorem dX7_land_0 : decode cX7_land 0 = .ok (.aload_n 0, 1) := by decide +kernel
theorem dX7_land_1 : decode cX7_land 1 = .ok (.getfield 19, 3) := by decide +kernel
theorem dX7_land_4 : decode cX7_land 4 = .ok (.iload_n 1, 1) := by decide +kernel
theorem dX7_land_5 : decode cX7_land 5 = .ok (.iload_n 2, 1) := by decide +kernel
theorem dX7_land_6 : decode cX7_land 6 = .ok (.invokevirtual 113, 3) := by decide +kernel
theorem dX7_land_9 : decode cX7_land 9 = .ok (.ifCond .ne 5, 3) := by decide +kernel
theorem dX7_land_12 : decode cX7_land 12 = .ok (.iconst (-1), 1) := by decide +kernel
theorem dX7_land_13 : decode cX7_land 13 = .ok (.ireturn, 1) := by decide +kernel
theorem dX7_land_14 : decode cX7_land 14 = .ok (.iload_n 1, 1) := by decide +kernel
theorem dX7_land_15 : decode cX7_land 15 = .ok (.iload_n 2, 1) := by decide +kernel
theorem dX7_land_16 : decode cX7_land 16 = .ok (.invokestatic 117, 3) := by decide +kernel
theorem dX7_land_19 : decode cX7_land 19 = .ok (.istore 4, 2) := by decide +kernel
theorem dX7_land_21 : decode cX7_land 21 = .ok (.iload_n 3, 1) := by decide +kernel
theorem dX7_land_22 : decode cX7_land 22 = .ok (.tableswitch 65 0 2 #[26, 39, 52], 26) := by decide +kernel
theorem dX7_land_48 : decode cX7_land 48 = .ok (.aload_n 0, 1) := by decide +kernel
theorem dX7_land_49 : decode cX7_land 49 = .ok (.getfield 19, 3) := by decide +kernel
theorem dX7_land_52 : decode cX7_land 52 = .ok (.getfield 121, 3) := by decide +kernel
theorem dX7_land_55 : decode cX7_land 55 = .ok (.iload 4, 2) := by decide +kernel
theorem dX7_land_57 : decode cX7_land 57 = .ok (.invokestatic 124, 3) := by decide +kernel
theorem dX7_land_60 : decode cX7_land 60 = .ok (.ireturn, 1) := by decide +kernel
theorem dX7_land_61 : decode cX7_land 61 = .ok (.aload_n 0, 1) := by decide +kernel
theorem dX7_land_62 : decode cX7_land 62 = .ok (.getfield 29, 3) := by decide +kernel
theorem dX7_land_65 : decode cX7_land 65 = .ok (.getfield 128, 3) := by decide +kernel
theorem dX7_land_68 : decode cX7_land 68 = .ok (.iload 4, 2) := by decide +kernel
theorem dX7_land_70 : decode cX7_land 70 = .ok (.invokestatic 124, 3) := by decide +kernel
theorem dX7_land_73 : decode cX7_land 73 = .ok (.ireturn, 1) := by decide +kernel
theorem dX7_land_74 : decode cX7_land 74 = .ok (.aload_n 0, 1) := by decide +kernel
theorem dX7_land_75 : decode cX7_land 75 = .ok (.getfield 29, 3) := by decide +kernel
theorem dX7_land_78 : decode cX7_land 78 = .ok (.getfield 131, 3) := by decide +kernel
theorem dX7_land_81 : decode cX7_land 81 = .ok (.iload 4, 2) := by decide +kernel
theorem dX7_land_83 : decode cX7_land 83 = .ok (.invokestatic 134, 3) := by decide +kernel
theorem dX7_land_86 : decode cX7_land 86 = .ok (.ireturn, 1) := by decide +kernel
theorem dX7_land_87 : decode cX7_land 87 = .ok (.iconst (-1), 1) := by decide +kernel
theorem dX7_land_88 : decode cX7_land 88 = .ok (.ireturn, 1) := by decide +kernel
set_option maxRecDepth 20000 in
theorem ggX7_strip_X7_within : GoodIn wsX7_strip wsX7_within := goodIn_r _ [11] (by decide +kernel) (by decide +kernel)
set_option maxRecDepth 20000 in
theorem gX7_strip_X7_within : GoodIn wsX7_strip (va_wsS RX7 101 yX7_within wsX7_within) := goodIn_app (goodIn_of _ (by decide +kernel)) ggX7_strip_X7_within
set_option maxRecDepth 20000 in
theorem ggX7_strip_X7_cell : GoodIn wsX7_strip wsX7_cell := goodIn_r _ [14] (by decide +kernel) (by decide +kernel)
set_option maxRecDepth 20000 in
theorem gX7_strip_X7_cell : GoodIn wsX7_strip (va_wsS RX7 124 yX7_cell wsX7_cell) := goodIn_app (goodIn_of _ (by decide +kernel)) ggX7_strip_X7_cell
set_option maxRecDepth 20000 in
theorem ggX7_strip_X5_placeOf : GoodIn wsX7_strip wsX5_placeOf := goodIn_r _ [19, 20, 21, 22, 23, 24, 13, 10, 14, 25, 26, 27, 28, 29, 30, 31, 32, 33, 34, 35, 50, 51, 52, 53, 54, 55, 56, 57, 58, 59, 60, 61, 62, 63, 64, 65, 66, 67] (by decide +kernel) (by decide +kernel)
set_option maxRecDepth 20000 in
theorem gX7_strip_X5_placeOf : GoodIn wsX7_strip (wsV RX7 146 RX5 yX5_placeOf wsX5_placeOf) := goodIn_app (goodIn_of _ (by decide +kernel)) ggX7_strip_X5_placeOf
set_option maxRecDepth 20000 in
theorem ggX7_strip_X7_bitOf : GoodIn wsX7_strip wsX7_bitOf := goodIn_r _ [38] (by decide +kernel) (by decide +kernel)
set_option maxRecDepth 20000 in
theorem gX7_strip_X7_bitOf : GoodIn wsX7_strip (va_wsS RX7 134 yX7_bitOf wsX7_bitOf) := goodIn_app (goodIn_of _ (by decide +kernel)) ggX7_strip_X7_bitOf
theorem dX7_strip_0 : decode cX7_strip 0 = .ok (.iload_n 1, 1) := by decide +kernel
theorem dX7_strip_1 : decode cX7_strip 1 = .ok (.iconst 0, 1) := by decide +kernel
theorem dX7_strip_2 : decode cX7_strip 2 = .ok (.aload_n 0, 1) := by decide +kernel
theorem dX7_strip_3 : decode cX7_strip 3 = .ok (.getfield 19, 3) := by decide +kernel
theorem dX7_strip_6 : decode cX7_strip 6 = .ok (.getfield 105, 3) := by decide +kernel
theorem dX7_strip_9 : decode cX7_strip 9 = .ok (.iconst 1, 1) := by decide +kernel
theorem dX7_strip_10 : decode cX7_strip 10 = .ok (.isub, 1) := by decide +kernel
theorem dX7_strip_11 : decode cX7_strip 11 = .ok (.invokestatic 101, 3) := by decide +kernel
theorem dX7_strip_14 : decode cX7_strip 14 = .ok (.ifCond .ne 5, 3) := by decide +kernel
theorem dX7_strip_17 : decode cX7_strip 17 = .ok (.iconst (-1), 1) := by decide +kernel
theorem dX7_strip_18 : decode cX7_strip 18 = .ok (.ireturn, 1) := by decide +kernel
theorem dX7_strip_19 : decode cX7_strip 19 = .ok (.iload_n 2, 1) := by decide +kernel
theorem dX7_strip_20 : decode cX7_strip 20 = .ok (.tableswitch 103 0 4 #[36, 48, 60, 72, 88], 36) := by decide +kernel
theorem dX7_strip_56 : decode cX7_strip 56 = .ok (.aload_n 0, 1) := by decide +kernel
theorem dX7_strip_57 : decode cX7_strip 57 = .ok (.getfield 19, 3) := by decide +kernel
theorem dX7_strip_60 : decode cX7_strip 60 = .ok (.getfield 137, 3) := by decide +kernel
theorem dX7_strip_63 : decode cX7_strip 63 = .ok (.iload_n 1, 1) := by decide +kernel
theorem dX7_strip_64 : decode cX7_strip 64 = .ok (.invokestatic 124, 3) := by decide +kernel
theorem dX7_strip_67 : decode cX7_strip 67 = .ok (.ireturn, 1) := by decide +kernel
theorem dX7_strip_68 : decode cX7_strip 68 = .ok (.aload_n 0, 1) := by decide +kernel
theorem dX7_strip_69 : decode cX7_strip 69 = .ok (.getfield 19, 3) := by decide +kernel
theorem dX7_strip_72 : decode cX7_strip 72 = .ok (.getfield 140, 3) := by decide +kernel
theorem dX7_strip_75 : decode cX7_strip 75 = .ok (.iload_n 1, 1) := by decide +kernel
theorem dX7_strip_76 : decode cX7_strip 76 = .ok (.invokestatic 124, 3) := by decide +kernel
theorem dX7_strip_79 : decode cX7_strip 79 = .ok (.ireturn, 1) := by decide +kernel
theorem dX7_strip_80 : decode cX7_strip 80 = .ok (.aload_n 0, 1) := by decide +kernel
theorem dX7_strip_81 : decode cX7_strip 81 = .ok (.getfield 29, 3) := by decide +kernel
theorem dX7_strip_84 : decode cX7_strip 84 = .ok (.getfield 143, 3) := by decide +kernel
theorem dX7_strip_87 : decode cX7_strip 87 = .ok (.iload_n 1, 1) := by decide +kernel
theorem dX7_strip_88 : decode cX7_strip 88 = .ok (.invokestatic 124, 3) := by decide +kernel
theorem dX7_strip_91 : decode cX7_strip 91 = .ok (.ireturn, 1) := by decide +kernel
theorem dX7_strip_92 : decode cX7_strip 92 = .ok (.aload_n 0, 1) := by decide +kernel
theorem dX7_strip_93 : decode cX7_strip 93 = .ok (.getfield 29, 3) := by decide +kernel
theorem dX7_strip_96 : decode cX7_strip 96 = .ok (.aload_n 0, 1) := by decide +kernel
theorem dX7_strip_97 : decode cX7_strip 97 = .ok (.getfield 19, 3) := by decide +kernel
theorem dX7_strip_100 : decode cX7_strip 100 = .ok (.iload_n 1, 1) := by decide +kernel
theorem dX7_strip_101 : decode cX7_strip 101 = .ok (.invokevirtual 146, 3) := by decide +kernel
theorem dX7_strip_104 : decode cX7_strip 104 = .ok (.bipush 100, 2) := by decide +kernel
theorem dX7_strip_106 : decode cX7_strip 106 = .ok (.iadd, 1) := by decide +kernel
theorem dX7_strip_107 : decode cX7_strip 107 = .ok (.ireturn, 1) := by decide +kernel
theorem dX7_strip_108 : decode cX7_strip 108 = .ok (.aload_n 0, 1) := by decide +kernel
theorem dX7_strip_109 : decode cX7_strip 109 = .ok (.getfield 29, 3) := by decide +kernel
theorem dX7_strip_112 : decode cX7_strip 112 = .ok (.getfield 131, 3) := by decide +kernel
theorem dX7_strip_115 : decode cX7_strip 115 = .ok (.bipush 12, 2) := by decide +kernel
theorem dX7_strip_117 : decode cX7_strip 117 = .ok (.iload_n 1, 1) := by decide +kernel
theorem dX7_strip_118 : decode cX7_strip 118 = .ok (.iadd, 1) := by decide +kernel
theorem dX7_strip_119 : decode cX7_strip 119 = .ok (.invokestatic 134, 3) := by decide +kernel
theorem dX7_strip_122 : decode cX7_strip 122 = .ok (.ireturn, 1) := by decide +kernel
theorem dX7_strip_123 : decode cX7_strip 123 = .ok (.iconst (-1), 1) := by decide +kernel
theorem dX7_strip_124 : decode cX7_strip 124 = .ok (.ireturn, 1) := by decide +kernel
set_option maxRecDepth 20000 in
theorem ggX7_inches_X7_within : GoodIn wsX7_inches wsX7_within := goodIn_r _ [7] (by decide +kernel) (by decide +kernel)
set_option maxRecDepth 20000 in
theorem gX7_inches_X7_within : GoodIn wsX7_inches (va_wsS RX7 101 yX7_within wsX7_within) := goodIn_app (goodIn_of _ (by decide +kernel)) ggX7_inches_X7_within
set_option maxRecDepth 20000 in
theorem ggX7_inches_X7_cell : GoodIn wsX7_inches wsX7_cell := goodIn_r _ [10] (by decide +kernel) (by decide +kernel)
set_option maxRecDepth 20000 in
theorem gX7_inches_X7_cell : GoodIn wsX7_inches (va_wsS RX7 124 yX7_cell wsX7_cell) := goodIn_app (goodIn_of _ (by decide +kernel)) ggX7_inches_X7_cell
theorem dX7_inches_0 : decode cX7_inches 0 = .ok (.iload_n 1, 1) := by decide +kernel
theorem dX7_inches_1 : decode cX7_inches 1 = .ok (.iconst 0, 1) := by decide +kernel
theorem dX7_inches_2 : decode cX7_inches 2 = .ok (.aload_n 0, 1) := by decide +kernel
theorem dX7_inches_3 : decode cX7_inches 3 = .ok (.getfield 19, 3) := by decide +kernel
theorem dX7_inches_6 : decode cX7_inches 6 = .ok (.getfield 108, 3) := by decide +kernel
theorem dX7_inches_9 : decode cX7_inches 9 = .ok (.iconst 1, 1) := by decide +kernel
theorem dX7_inches_10 : decode cX7_inches 10 = .ok (.isub, 1) := by decide +kernel
theorem dX7_inches_11 : decode cX7_inches 11 = .ok (.invokestatic 101, 3) := by decide +kernel
theorem dX7_inches_14 : decode cX7_inches 14 = .ok (.ifCond .eq 17, 3) := by decide +kernel
theorem dX7_inches_17 : decode cX7_inches 17 = .ok (.aload_n 0, 1) := by decide +kernel
theorem dX7_inches_18 : decode cX7_inches 18 = .ok (.getfield 19, 3) := by decide +kernel
theorem dX7_inches_21 : decode cX7_inches 21 = .ok (.getfield 150, 3) := by decide +kernel
theorem dX7_inches_24 : decode cX7_inches 24 = .ok (.iload_n 1, 1) := by decide +kernel
theorem dX7_inches_25 : decode cX7_inches 25 = .ok (.invokestatic 124, 3) := by decide +kernel
theorem dX7_inches_28 : decode cX7_inches 28 = .ok (.goto 4, 3) := by decide +kernel
theorem dX7_inches_31 : decode cX7_inches 31 = .ok (.iconst (-1), 1) := by decide +kernel
theorem dX7_inches_32 : decode cX7_inches 32 = .ok (.ireturn, 1) := by decide +kernel
set_option maxRecDepth 20000 in
theorem ggX7_damp_X7_within : GoodIn wsX7_damp wsX7_within := goodIn_r _ [7] (by decide +kernel) (by decide +kernel)
set_option maxRecDepth 20000 in
theorem gX7_damp_X7_within : GoodIn wsX7_damp (va_wsS RX7 101 yX7_within wsX7_within) := goodIn_app (goodIn_of _ (by decide +kernel)) ggX7_damp_X7_within
set_option maxRecDepth 20000 in
theorem ggX7_damp_X6_dampOf : GoodIn wsX7_damp wsX6_dampOf := goodIn_r _ [12, 13, 14, 33, 34, 35, 36, 37, 38, 39, 40, 41, 42, 43] (by decide +kernel) (by decide +kernel)
set_option maxRecDepth 20000 in
theorem gX7_damp_X6_dampOf : GoodIn wsX7_damp (wsV RX7 156 RX6 yX6_dampOf wsX6_dampOf) := goodIn_app (goodIn_of _ (by decide +kernel)) ggX7_damp_X6_dampOf
theorem dX7_damp_0 : decode cX7_damp 0 = .ok (.iload_n 1, 1) := by decide +kernel
theorem dX7_damp_1 : decode cX7_damp 1 = .ok (.iconst 0, 1) := by decide +kernel
theorem dX7_damp_2 : decode cX7_damp 2 = .ok (.bipush 99, 2) := by decide +kernel
theorem dX7_damp_4 : decode cX7_damp 4 = .ok (.invokestatic 101, 3) := by decide +kernel
theorem dX7_damp_7 : decode cX7_damp 7 = .ok (.ifCond .eq 22, 3) := by decide +kernel
theorem dX7_damp_10 : decode cX7_damp 10 = .ok (.aload_n 0, 1) := by decide +kernel
theorem dX7_damp_11 : decode cX7_damp 11 = .ok (.getfield 19, 3) := by decide +kernel
theorem dX7_damp_14 : decode cX7_damp 14 = .ok (.aload_n 0, 1) := by decide +kernel
theorem dX7_damp_15 : decode cX7_damp 15 = .ok (.getfield 29, 3) := by decide +kernel
theorem dX7_damp_18 : decode cX7_damp 18 = .ok (.getfield 153, 3) := by decide +kernel
theorem dX7_damp_21 : decode cX7_damp 21 = .ok (.iload_n 1, 1) := by decide +kernel
theorem dX7_damp_22 : decode cX7_damp 22 = .ok (.iadd, 1) := by decide +kernel
theorem dX7_damp_23 : decode cX7_damp 23 = .ok (.invokevirtual 156, 3) := by decide +kernel
theorem dX7_damp_26 : decode cX7_damp 26 = .ok (.goto 4, 3) := by decide +kernel
theorem dX7_damp_29 : decode cX7_damp 29 = .ok (.iconst (-1), 1) := by decide +kernel
theorem dX7_damp_30 : decode cX7_damp 30 = .ok (.ireturn, 1) := by decide +kernel
set_option maxRecDepth 20000 in
theorem ggX7_against_X7_within : GoodIn wsX7_against wsX7_within := goodIn_r _ [7] (by decide +kernel) (by decide +kernel)
set_option maxRecDepth 20000 in
theorem gX7_against_X7_within : GoodIn wsX7_against (va_wsS RX7 101 yX7_within wsX7_within) := goodIn_app (goodIn_of _ (by decide +kernel)) ggX7_against_X7_within
set_option maxRecDepth 20000 in
theorem ggX7_against_X5_againstBits : GoodIn wsX7_against wsX5_againstBits := goodIn_r _ [12, 13, 14, 15, 6, 16, 17, 18, 19, 11, 20, 21, 22, 23, 24, 25, 26, 27, 28, 29, 30, 31, 32, 33, 34, 35, 36, 37, 49, 50, 51, 52, 53, 54, 55, 56, 57, 58, 59, 60, 61, 62, 63, 64, 65, 66] (by decide +kernel) (by decide +kernel)
set_option maxRecDepth 20000 in
theorem gX7_against_X5_againstBits : GoodIn wsX7_against (wsV RX7 160 RX5 yX5_againstBits wsX5_againstBits) := goodIn_app (goodIn_of _ (by decide +kernel)) ggX7_against_X5_againstBits
theorem dX7_against_0 : decode cX7_against 0 = .ok (.iload_n 1, 1) := by decide +kernel
theorem dX7_against_1 : decode cX7_against 1 = .ok (.iconst 0, 1) := by decide +kernel
theorem dX7_against_2 : decode cX7_against 2 = .ok (.aload_n 0, 1) := by decide +kernel
theorem dX7_against_3 : decode cX7_against 3 = .ok (.getfield 19, 3) := by decide +kernel
theorem dX7_against_6 : decode cX7_against 6 = .ok (.getfield 105, 3) := by decide +kernel
theorem dX7_against_9 : decode cX7_against 9 = .ok (.iconst 1, 1) := by decide +kernel
theorem dX7_against_10 : decode cX7_against 10 = .ok (.isub, 1) := by decide +kernel
theorem dX7_against_11 : decode cX7_against 11 = .ok (.invokestatic 101, 3) := by decide +kernel
theorem dX7_against_14 : decode cX7_against 14 = .ok (.ifCond .eq 18, 3) := by decide +kernel
theorem dX7_against_17 : decode cX7_against 17 = .ok (.aload_n 0, 1) := by decide +kernel
theorem dX7_against_18 : decode cX7_against 18 = .ok (.getfield 29, 3) := by decide +kernel
theorem dX7_against_21 : decode cX7_against 21 = .ok (.aload_n 0, 1) := by decide +kernel
theorem dX7_against_22 : decode cX7_against 22 = .ok (.getfield 19, 3) := by decide +kernel
theorem dX7_against_25 : decode cX7_against 25 = .ok (.iload_n 1, 1) := by decide +kernel
theorem dX7_against_26 : decode cX7_against 26 = .ok (.invokevirtual 160, 3) := by decide +kernel
theorem dX7_against_29 : decode cX7_against 29 = .ok (.goto 4, 3) := by decide +kernel
theorem dX7_against_32 : decode cX7_against 32 = .ok (.iconst (-1), 1) := by decide +kernel
theorem dX7_against_33 : decode cX7_against 33 = .ok (.ireturn, 1) := by decide +kernel
set_option maxRecDepth 20000 in
theorem ggX7_push_X7_isPush : GoodIn wsX7_push wsX7_isPush := goodIn_r _ [9, 3, 10, 11, 12, 8, 13, 64, 65, 66, 67, 68, 69, 70, 71, 72, 73, 74, 82, 83, 84, 85, 86, 87, 88, 89, 90, 91, 92] (by decide +kernel) (by decide +kernel)
set_option maxRecDepth 20000 in
theorem gX7_push_X7_isPush : GoodIn wsX7_push (wsV RX7 163 RX7 yX7_isPush wsX7_isPush) := goodIn_app (goodIn_of _ (by decide +kernel)) ggX7_push_X7_isPush
set_option maxRecDepth 20000 in
theorem ggX7_push_X3_put : GoodIn wsX7_push wsX3_put := goodIn_r _ [18, 19, 20, 21, 22, 17, 23, 24, 25, 26, 27, 28, 29, 30, 31, 32, 33, 34, 35, 36, 37, 38, 39, 40, 41, 42, 43, 44, 45, 8, 46, 93, 94, 75, 76, 77, 78, 79, 80, 81] (by decide +kernel) (by decide +kernel)
set_option maxRecDepth 20000 in
theorem gX7_push_X3_put : GoodIn wsX7_push (wsV RX7 166 RX3 yX3_put wsX3_put) := goodIn_app (goodIn_of _ (by decide +kernel)) ggX7_push_X3_put
set_option maxRecDepth 20000 in
theorem ggX7_push_X5_shove : GoodIn wsX7_push wsX5_shove := goodIn_r _ [50, 38, 39, 51, 40, 52, 53, 54, 55, 56, 8, 57, 58, 59, 60, 61, 62, 63, 75, 76, 77, 78, 79, 80, 81, 82, 83, 84, 85, 86, 87, 88, 89, 90, 91, 92] (by decide +kernel) (by decide +kernel)
set_option maxRecDepth 20000 in
theorem gX7_push_X5_shove : GoodIn wsX7_push (wsV RX7 170 RX5 yX5_shove wsX5_shove) := goodIn_app (goodIn_of _ (by decide +kernel)) ggX7_push_X5_shove
theorem dX7_push_0 : decode cX7_push 0 = .ok (.aload_n 0, 1) := by decide +kernel
theorem dX7_push_1 : decode cX7_push 1 = .ok (.iload_n 1, 1) := by decide +kernel
theorem dX7_push_2 : decode cX7_push 2 = .ok (.iload_n 2, 1) := by decide +kernel
theorem dX7_push_3 : decode cX7_push 3 = .ok (.invokevirtual 163, 3) := by decide +kernel
theorem dX7_push_6 : decode cX7_push 6 = .ok (.ifCond .ne 5, 3) := by decide +kernel
theorem dX7_push_9 : decode cX7_push 9 = .ok (.iconst (-1), 1) := by decide +kernel
theorem dX7_push_10 : decode cX7_push 10 = .ok (.ireturn, 1) := by decide +kernel
theorem dX7_push_11 : decode cX7_push 11 = .ok (.aload_n 0, 1) := by decide +kernel
theorem dX7_push_12 : decode cX7_push 12 = .ok (.getfield 41, 3) := by decide +kernel
theorem dX7_push_15 : decode cX7_push 15 = .ok (.aload_n 0, 1) := by decide +kernel
theorem dX7_push_16 : decode cX7_push 16 = .ok (.getfield 29, 3) := by decide +kernel
theorem dX7_push_19 : decode cX7_push 19 = .ok (.invokevirtual 166, 3) := by decide +kernel
theorem dX7_push_22 : decode cX7_push 22 = .ok (.aload_n 0, 1) := by decide +kernel
theorem dX7_push_23 : decode cX7_push 23 = .ok (.getfield 29, 3) := by decide +kernel
theorem dX7_push_26 : decode cX7_push 26 = .ok (.aload_n 0, 1) := by decide +kernel
theorem dX7_push_27 : decode cX7_push 27 = .ok (.getfield 19, 3) := by decide +kernel
theorem dX7_push_30 : decode cX7_push 30 = .ok (.iload_n 1, 1) := by decide +kernel
theorem dX7_push_31 : decode cX7_push 31 = .ok (.iload_n 2, 1) := by decide +kernel
theorem dX7_push_32 : decode cX7_push 32 = .ok (.invokevirtual 170, 3) := by decide +kernel
theorem dX7_push_35 : decode cX7_push 35 = .ok (.aload_n 0, 1) := by decide +kernel
theorem dX7_push_36 : decode cX7_push 36 = .ok (.getfield 29, 3) := by decide +kernel
theorem dX7_push_39 : decode cX7_push 39 = .ok (.getfield 174, 3) := by decide +kernel
theorem dX7_push_42 : decode cX7_push 42 = .ok (.bipush 40, 2) := by decide +kernel
theorem dX7_push_44 : decode cX7_push 44 = .ok (.iadd, 1) := by decide +kernel
theorem dX7_push_45 : decode cX7_push 45 = .ok (.ireturn, 1) := by decide +kernel
set_option maxRecDepth 20000 in
theorem ggX7_chalk_X7_within : GoodIn wsX7_chalk wsX7_within := goodIn_r _ [7] (by decide +kernel) (by decide +kernel)
set_option maxRecDepth 20000 in
theorem gX7_chalk_X7_within : GoodIn wsX7_chalk (va_wsS RX7 101 yX7_within wsX7_within) := goodIn_app (goodIn_of _ (by decide +kernel)) ggX7_chalk_X7_within
set_option maxRecDepth 20000 in
theorem ggX7_chalk_X3_put : GoodIn wsX7_chalk wsX3_put := goodIn_r _ [12, 13, 14, 15, 16, 11, 17, 18, 19, 20, 21, 22, 23, 24, 25, 26, 27, 28, 29, 30, 31, 32, 33, 34, 35, 36, 37, 38, 39, 6, 40, 59, 60, 52, 53, 54, 55, 56, 57, 58] (by decide +kernel) (by decide +kernel)
set_option maxRecDepth 20000 in
theorem gX7_chalk_X3_put : GoodIn wsX7_chalk (wsV RX7 166 RX3 yX3_put wsX3_put) := goodIn_app (goodIn_of _ (by decide +kernel)) ggX7_chalk_X3_put
theorem dX7_chalk_0 : decode cX7_chalk 0 = .ok (.iload_n 1, 1) := by decide +kernel
theorem dX7_chalk_1 : decode cX7_chalk 1 = .ok (.iconst 0, 1) := by decide +kernel
theorem dX7_chalk_2 : decode cX7_chalk 2 = .ok (.bipush 9, 2) := by decide +kernel
theorem dX7_chalk_4 : decode cX7_chalk 4 = .ok (.invokestatic 101, 3) := by decide +kernel
theorem dX7_chalk_7 : decode cX7_chalk 7 = .ok (.ifCond .ne 5, 3) := by decide +kernel
theorem dX7_chalk_10 : decode cX7_chalk 10 = .ok (.iconst (-1), 1) := by decide +kernel
theorem dX7_chalk_11 : decode cX7_chalk 11 = .ok (.ireturn, 1) := by decide +kernel
theorem dX7_chalk_12 : decode cX7_chalk 12 = .ok (.aload_n 0, 1) := by decide +kernel
theorem dX7_chalk_13 : decode cX7_chalk 13 = .ok (.getfield 41, 3) := by decide +kernel
theorem dX7_chalk_16 : decode cX7_chalk 16 = .ok (.aload_n 0, 1) := by decide +kernel
theorem dX7_chalk_17 : decode cX7_chalk 17 = .ok (.getfield 29, 3) := by decide +kernel
theorem dX7_chalk_20 : decode cX7_chalk 20 = .ok (.invokevirtual 166, 3) := by decide +kernel
theorem dX7_chalk_23 : decode cX7_chalk 23 = .ok (.aload_n 0, 1) := by decide +kernel
theorem dX7_chalk_24 : decode cX7_chalk 24 = .ok (.getfield 29, 3) := by decide +kernel
theorem dX7_chalk_27 : decode cX7_chalk 27 = .ok (.getfield 177, 3) := by decide +kernel
theorem dX7_chalk_30 : decode cX7_chalk 30 = .ok (.istore_n 2, 1) := by decide +kernel
theorem dX7_chalk_31 : decode cX7_chalk 31 = .ok (.aload_n 0, 1) := by decide +kernel
theorem dX7_chalk_32 : decode cX7_chalk 32 = .ok (.getfield 29, 3) := by decide +kernel
theorem dX7_chalk_35 : decode cX7_chalk 35 = .ok (.iload_n 1, 1) := by decide +kernel
theorem dX7_chalk_36 : decode cX7_chalk 36 = .ok (.putfield 177, 3) := by decide +kernel
theorem dX7_chalk_39 : decode cX7_chalk 39 = .ok (.iload_n 2, 1) := by decide +kernel
theorem dX7_chalk_40 : decode cX7_chalk 40 = .ok (.ireturn, 1) := by decide +kernel
set_option maxRecDepth 20000 in
theorem ggX7_pass_X7_within : GoodIn wsX7_pass wsX7_within := goodIn_r _ [8] (by decide +kernel) (by decide +kernel)
set_option maxRecDepth 20000 in
theorem gX7_pass_X7_within : GoodIn wsX7_pass (va_wsS RX7 101 yX7_within wsX7_within) := goodIn_app (goodIn_of _ (by decide +kernel)) ggX7_pass_X7_within
set_option maxRecDepth 20000 in
theorem ggX7_pass_X3_put : GoodIn wsX7_pass wsX3_put := goodIn_r _ [13, 14, 15, 16, 17, 12, 18, 19, 20, 21, 22, 23, 24, 25, 26, 27, 28, 29, 30, 31, 32, 33, 34, 35, 36, 37, 38, 39, 40, 7, 41, 103, 104, 96, 97, 98, 99, 100, 101, 102] (by decide +kernel) (by decide +kernel)
set_option maxRecDepth 20000 in
theorem gX7_pass_X3_put : GoodIn wsX7_pass (wsV RX7 166 RX3 yX3_put wsX3_put) := goodIn_app (goodIn_of _ (by decide +kernel)) ggX7_pass_X3_put
set_option maxRecDepth 20000 in
theorem ggX7_pass_X5_trade : GoodIn wsX7_pass wsX5_trade := goodIn_r _ [45, 46, 36, 47, 48, 49, 31, 50, 51, 52, 53, 7, 54, 55, 56, 57, 58, 34, 33, 59, 60, 61, 62, 63, 64, 65, 66, 67, 68, 69, 70, 71, 72, 73, 74, 75, 76, 38, 39, 77, 78, 79, 80, 81, 82, 83, 84, 105, 106, 107, 108, 109, 110, 111, 112, 113, 114, 115, 96, 97, 98, 99, 100, 101, 102] (by decide +kernel) (by decide +kernel)
set_option maxRecDepth 20000 in
theorem gX7_pass_X5_trade : GoodIn wsX7_pass (wsV RX7 180 RX5 yX5_trade wsX5_trade) := goodIn_app (goodIn_of _ (by decide +kernel)) ggX7_pass_X5_trade
theorem dX7_pass_0 : decode cX7_pass 0 = .ok (.iload_n 1, 1) := by decide +kernel
theorem dX7_pass_1 : decode cX7_pass 1 = .ok (.iconst 1, 1) := by decide +kernel
theorem dX7_pass_2 : decode cX7_pass 2 = .ok (.bipush 20, 2) := by decide +kernel
theorem dX7_pass_4 : decode cX7_pass 4 = .ok (.invokestatic 101, 3) := by decide +kernel
theorem dX7_pass_7 : decode cX7_pass 7 = .ok (.ifCond .ne 5, 3) := by decide +kernel
theorem dX7_pass_10 : decode cX7_pass 10 = .ok (.iconst (-1), 1) := by decide +kernel
theorem dX7_pass_11 : decode cX7_pass 11 = .ok (.ireturn, 1) := by decide +kernel
theorem dX7_pass_12 : decode cX7_pass 12 = .ok (.aload_n 0, 1) := by decide +kernel
theorem dX7_pass_13 : decode cX7_pass 13 = .ok (.getfield 29, 3) := by decide +kernel
theorem dX7_pass_16 : decode cX7_pass 16 = .ok (.getfield 153, 3) := by decide +kernel
theorem dX7_pass_19 : decode cX7_pass 19 = .ok (.iload_n 1, 1) := by decide +kernel
theorem dX7_pass_20 : decode cX7_pass 20 = .ok (.iadd, 1) := by decide +kernel
theorem dX7_pass_21 : decode cX7_pass 21 = .ok (.sipush 999, 3) := by decide +kernel
theorem dX7_pass_24 : decode cX7_pass 24 = .ok (.if_icmp .le 6, 3) := by decide +kernel
theorem dX7_pass_27 : decode cX7_pass 27 = .ok (.bipush (-2), 2) := by decide +kernel
theorem dX7_pass_29 : decode cX7_pass 29 = .ok (.ireturn, 1) := by decide +kernel
theorem dX7_pass_30 : decode cX7_pass 30 = .ok (.aload_n 0, 1) := by decide +kernel
theorem dX7_pass_31 : decode cX7_pass 31 = .ok (.getfield 41, 3) := by decide +kernel
theorem dX7_pass_34 : decode cX7_pass 34 = .ok (.aload_n 0, 1) := by decide +kernel
theorem dX7_pass_35 : decode cX7_pass 35 = .ok (.getfield 29, 3) := by decide +kernel
theorem dX7_pass_38 : decode cX7_pass 38 = .ok (.invokevirtual 166, 3) := by decide +kernel
theorem dX7_pass_41 : decode cX7_pass 41 = .ok (.aload_n 0, 1) := by decide +kernel
theorem dX7_pass_42 : decode cX7_pass 42 = .ok (.getfield 29, 3) := by decide +kernel
theorem dX7_pass_45 : decode cX7_pass 45 = .ok (.aload_n 0, 1) := by decide +kernel
theorem dX7_pass_46 : decode cX7_pass 46 = .ok (.getfield 19, 3) := by decide +kernel
theorem dX7_pass_49 : decode cX7_pass 49 = .ok (.iload_n 1, 1) := by decide +kernel
theorem dX7_pass_50 : decode cX7_pass 50 = .ok (.invokevirtual 180, 3) := by decide +kernel
theorem dX7_pass_53 : decode cX7_pass 53 = .ok (.aload_n 0, 1) := by decide +kernel
theorem dX7_pass_54 : decode cX7_pass 54 = .ok (.getfield 29, 3) := by decide +kernel
theorem dX7_pass_57 : decode cX7_pass 57 = .ok (.getfield 153, 3) := by decide +kernel
theorem dX7_pass_60 : decode cX7_pass 60 = .ok (.ireturn, 1) := by decide +kernel
set_option maxRecDepth 20000 in
theorem ggX7_line_X7_within : GoodIn wsX7_line wsX7_within := goodIn_r _ [8] (by decide +kernel) (by decide +kernel)
set_option maxRecDepth 20000 in
theorem gX7_line_X7_within : GoodIn wsX7_line (va_wsS RX7 101 yX7_within wsX7_within) := goodIn_app (goodIn_of _ (by decide +kernel)) ggX7_line_X7_within
set_option maxRecDepth 20000 in
theorem ggX7_line_X5_coupleAt : GoodIn wsX7_line wsX5_coupleAt := goodIn_r _ [13, 14, 15, 16, 12, 17, 18, 19, 20, 21, 7, 22, 23, 24, 25, 26, 27, 28, 29, 30, 31, 32, 33, 34, 35, 36, 37, 38, 39, 40, 41, 42, 43, 44, 45, 46, 47, 48, 49, 50, 51, 105, 106, 107, 108, 109, 110, 111, 112, 113, 114, 115, 98, 99, 100, 101, 102, 103, 104] (by decide +kernel) (by decide +kernel)
set_option maxRecDepth 20000 in
theorem gX7_line_X5_coupleAt : GoodIn wsX7_line (wsV RX7 184 RX5 yX5_coupleAt wsX5_coupleAt) := goodIn_app (goodIn_of _ (by decide +kernel)) ggX7_line_X5_coupleAt
set_option maxRecDepth 20000 in
theorem ggX7_line_X3_put : GoodIn wsX7_line wsX3_put := goodIn_r _ [56, 57, 58, 59, 60, 55, 61, 62, 63, 64, 65, 66, 67, 68, 69, 70, 71, 72, 73, 12, 74, 38, 37, 75, 40, 20, 76, 77, 78, 7, 79, 116, 117, 98, 99, 100, 101, 102, 103, 104] (by decide +kernel) (by decide +kernel)
set_option maxRecDepth 20000 in
theorem gX7_line_X3_put : GoodIn wsX7_line (wsV RX7 166 RX3 yX3_put wsX3_put) := goodIn_app (goodIn_of _ (by decide +kernel)) ggX7_line_X3_put
set_option maxRecDepth 20000 in
theorem ggX7_line_J6_bitCount_0f7a4 : GoodIn wsX7_line wsJ6_bitCount_0f7a4 := goodIn_r _ [83, 84, 85, 86] (by decide +kernel) (by decide +kernel)
set_option maxRecDepth 20000 in
theorem gX7_line_J6_bitCount_0f7a4 : GoodIn wsX7_line (va_wsS RX7 187 yJ6_bitCount_0f7a4 wsJ6_bitCount_0f7a4) := goodIn_app (goodIn_of _ (by decide +kernel)) ggX7_line_J6_bitCount_0f7a4
theorem dX7_line_0 : decode cX7_line 0 = .ok (.iload_n 1, 1) := by decide +kernel
theorem dX7_line_1 : decode cX7_line 1 = .ok (.bipush (-99), 2) := by decide +kernel
theorem dX7_line_3 : decode cX7_line 3 = .ok (.bipush 99, 2) := by decide +kernel
theorem dX7_line_5 : decode cX7_line 5 = .ok (.invokestatic 101, 3) := by decide +kernel
theorem dX7_line_8 : decode cX7_line 8 = .ok (.ifCond .ne 5, 3) := by decide +kernel
theorem dX7_line_11 : decode cX7_line 11 = .ok (.iconst (-1), 1) := by decide +kernel
theorem dX7_line_12 : decode cX7_line 12 = .ok (.ireturn, 1) := by decide +kernel
theorem dX7_line_13 : decode cX7_line 13 = .ok (.aload_n 0, 1) := by decide +kernel
theorem dX7_line_14 : decode cX7_line 14 = .ok (.getfield 29, 3) := by decide +kernel
theorem dX7_line_17 : decode cX7_line 17 = .ok (.aload_n 0, 1) := by decide +kernel
theorem dX7_line_18 : decode cX7_line 18 = .ok (.getfield 19, 3) := by decide +kernel
theorem dX7_line_21 : decode cX7_line 21 = .ok (.iload_n 1, 1) := by decide +kernel
theorem dX7_line_22 : decode cX7_line 22 = .ok (.invokevirtual 184, 3) := by decide +kernel
theorem dX7_line_25 : decode cX7_line 25 = .ok (.istore_n 2, 1) := by decide +kernel
theorem dX7_line_26 : decode cX7_line 26 = .ok (.iload_n 2, 1) := by decide +kernel
theorem dX7_line_27 : decode cX7_line 27 = .ok (.ifCond .ne 6, 3) := by decide +kernel
theorem dX7_line_30 : decode cX7_line 30 = .ok (.bipush (-2), 2) := by decide +kernel
theorem dX7_line_32 : decode cX7_line 32 = .ok (.ireturn, 1) := by decide +kernel
theorem dX7_line_33 : decode cX7_line 33 = .ok (.aload_n 0, 1) := by decide +kernel
theorem dX7_line_34 : decode cX7_line 34 = .ok (.getfield 41, 3) := by decide +kernel
theorem dX7_line_37 : decode cX7_line 37 = .ok (.aload_n 0, 1) := by decide +kernel
theorem dX7_line_38 : decode cX7_line 38 = .ok (.getfield 29, 3) := by decide +kernel
theorem dX7_line_41 : decode cX7_line 41 = .ok (.invokevirtual 166, 3) := by decide +kernel
theorem dX7_line_44 : decode cX7_line 44 = .ok (.aload_n 0, 1) := by decide +kernel
theorem dX7_line_45 : decode cX7_line 45 = .ok (.getfield 29, 3) := by decide +kernel
theorem dX7_line_48 : decode cX7_line 48 = .ok (.dup, 1) := by decide +kernel
theorem dX7_line_49 : decode cX7_line 49 = .ok (.getfield 131, 3) := by decide +kernel
theorem dX7_line_52 : decode cX7_line 52 = .ok (.iload_n 2, 1) := by decide +kernel
theorem dX7_line_53 : decode cX7_line 53 = .ok (.ior, 1) := by decide +kernel
theorem dX7_line_54 : decode cX7_line 54 = .ok (.putfield 131, 3) := by decide +kernel
theorem dX7_line_57 : decode cX7_line 57 = .ok (.aload_n 0, 1) := by decide +kernel
theorem dX7_line_58 : decode cX7_line 58 = .ok (.getfield 29, 3) := by decide +kernel
theorem dX7_line_61 : decode cX7_line 61 = .ok (.getfield 131, 3) := by decide +kernel
theorem dX7_line_64 : decode cX7_line 64 = .ok (.invokestatic 187, 3) := by decide +kernel
theorem dX7_line_67 : decode cX7_line 67 = .ok (.ireturn, 1) := by decide +kernel
set_option maxRecDepth 20000 in
theorem ggX7_undo_X3_takeInto : GoodIn wsX7_undo wsX3_takeInto := goodIn_r _ [8, 9, 10, 11, 12, 7, 13, 14, 15, 16, 17, 18, 19, 20, 21, 22, 23, 24, 25, 26, 27, 28, 29, 41, 42, 43, 44, 45, 46, 47, 48, 49] (by decide +kernel) (by decide +kernel)
set_option maxRecDepth 20000 in
theorem gX7_undo_X3_takeInto : GoodIn wsX7_undo (wsV RX7 192 RX3 yX3_takeInto wsX3_takeInto) := goodIn_app (goodIn_of _ (by decide +kernel)) ggX7_undo_X3_takeInto
theorem dX7_undo_0 : decode cX7_undo 0 = .ok (.aload_n 0, 1) := by decide +kernel
theorem dX7_undo_1 : decode cX7_undo 1 = .ok (.getfield 41, 3) := by decide +kernel
theorem dX7_undo_4 : decode cX7_undo 4 = .ok (.aload_n 0, 1) := by decide +kernel
theorem dX7_undo_5 : decode cX7_undo 5 = .ok (.getfield 29, 3) := by decide +kernel
theorem dX7_undo_8 : decode cX7_undo 8 = .ok (.invokevirtual 192, 3) := by decide +kernel
theorem dX7_undo_11 : decode cX7_undo 11 = .ok (.ifCond .eq 13, 3) := by decide +kernel
theorem dX7_undo_14 : decode cX7_undo 14 = .ok (.aload_n 0, 1) := by decide +kernel
theorem dX7_undo_15 : decode cX7_undo 15 = .ok (.getfield 41, 3) := by decide +kernel
theorem dX7_undo_18 : decode cX7_undo 18 = .ok (.getfield 111, 3) := by decide +kernel
theorem dX7_undo_21 : decode cX7_undo 21 = .ok (.goto 5, 3) := by decide +kernel
theorem dX7_undo_24 : decode cX7_undo 24 = .ok (.bipush (-2), 2) := by decide +kernel
theorem dX7_undo_26 : decode cX7_undo 26 = .ok (.ireturn, 1) := by decide +kernel
set_option maxRecDepth 20000 in
theorem ggX7_ask_X7_within : GoodIn wsX7_ask wsX7_within := goodIn_r _ [8] (by decide +kernel) (by decide +kernel)
set_option maxRecDepth 20000 in
theorem gX7_ask_X7_within : GoodIn wsX7_ask (va_wsS RX7 101 yX7_within wsX7_within) := goodIn_app (goodIn_of _ (by decide +kernel)) ggX7_ask_X7_within
set_option maxRecDepth 20000 in
theorem ggX7_ask_X6_isOfLand : GoodIn wsX7_ask wsX6_isOfLand := goodIn_r _ [13, 14, 6, 7, 8, 15, 16, 41, 42, 43, 44, 45, 46, 47, 48, 49, 50, 51] (by decide +kernel) (by decide +kernel)
set_option maxRecDepth 20000 in
theorem gX7_ask_X6_isOfLand : GoodIn wsX7_ask (wsV RX7 113 RX6 yX6_isOfLand wsX6_isOfLand) := goodIn_app (goodIn_of _ (by decide +kernel)) ggX7_ask_X6_isOfLand
set_option maxRecDepth 20000 in
theorem ggX7_ask_X7_oneOf : GoodIn wsX7_ask wsX7_oneOf := goodIn_r _ [19] (by decide +kernel) (by decide +kernel)
set_option maxRecDepth 20000 in
theorem gX7_ask_X7_oneOf : GoodIn wsX7_ask (va_wsS RX7 117 yX7_oneOf wsX7_oneOf) := goodIn_app (goodIn_of _ (by decide +kernel)) ggX7_ask_X7_oneOf
set_option maxRecDepth 20000 in
theorem ggX7_ask_X0_add : GoodIn wsX7_ask wsX0_add := goodIn_r _ [24, 25, 26, 27, 28, 7, 29, 52, 53, 54] (by decide +kernel) (by decide +kernel)
set_option maxRecDepth 20000 in
theorem gX7_ask_X0_add : GoodIn wsX7_ask (wsV RX7 196 RX0 yX0_add wsX0_add) := goodIn_app (goodIn_of _ (by decide +kernel)) ggX7_ask_X0_add
theorem dX7_ask_0 : decode cX7_ask 0 = .ok (.iload_n 1, 1) := by decide +kernel
theorem dX7_ask_1 : decode cX7_ask 1 = .ok (.iconst 0, 1) := by decide +kernel
theorem dX7_ask_2 : decode cX7_ask 2 = .ok (.aload_n 0, 1) := by decide +kernel
theorem dX7_ask_3 : decode cX7_ask 3 = .ok (.getfield 19, 3) := by decide +kernel
theorem dX7_ask_6 : decode cX7_ask 6 = .ok (.getfield 105, 3) := by decide +kernel
theorem dX7_ask_9 : decode cX7_ask 9 = .ok (.iconst 1, 1) := by decide +kernel
theorem dX7_ask_10 : decode cX7_ask 10 = .ok (.isub, 1) := by decide +kernel
theorem dX7_ask_11 : decode cX7_ask 11 = .ok (.invokestatic 101, 3) := by decide +kernel
theorem dX7_ask_14 : decode cX7_ask 14 = .ok (.ifCond .eq 15, 3) := by decide +kernel
theorem dX7_ask_17 : decode cX7_ask 17 = .ok (.aload_n 0, 1) := by decide +kernel
theorem dX7_ask_18 : decode cX7_ask 18 = .ok (.getfield 19, 3) := by decide +kernel
theorem dX7_ask_21 : decode cX7_ask 21 = .ok (.iload_n 2, 1) := by decide +kernel
theorem dX7_ask_22 : decode cX7_ask 22 = .ok (.iload_n 3, 1) := by decide +kernel
theorem dX7_ask_23 : decode cX7_ask 23 = .ok (.invokevirtual 113, 3) := by decide +kernel
theorem dX7_ask_26 : decode cX7_ask 26 = .ok (.ifCond .ne 5, 3) := by decide +kernel
theorem dX7_ask_29 : decode cX7_ask 29 = .ok (.iconst (-1), 1) := by decide +kernel
theorem dX7_ask_30 : decode cX7_ask 30 = .ok (.ireturn, 1) := by decide +kernel
theorem dX7_ask_31 : decode cX7_ask 31 = .ok (.aload_n 0, 1) := by decide +kernel
theorem dX7_ask_32 : decode cX7_ask 32 = .ok (.getfield 51, 3) := by decide +kernel
theorem dX7_ask_35 : decode cX7_ask 35 = .ok (.iload_n 1, 1) := by decide +kernel
theorem dX7_ask_36 : decode cX7_ask 36 = .ok (.iload_n 2, 1) := by decide +kernel
theorem dX7_ask_37 : decode cX7_ask 37 = .ok (.iload_n 3, 1) := by decide +kernel
theorem dX7_ask_38 : decode cX7_ask 38 = .ok (.invokestatic 117, 3) := by decide +kernel
theorem dX7_ask_41 : decode cX7_ask 41 = .ok (.invokevirtual 196, 3) := by decide +kernel
theorem dX7_ask_44 : decode cX7_ask 44 = .ok (.ifCond .eq 13, 3) := by decide +kernel
theorem dX7_ask_47 : decode cX7_ask 47 = .ok (.aload_n 0, 1) := by decide +kernel
theorem dX7_ask_48 : decode cX7_ask 48 = .ok (.getfield 51, 3) := by decide +kernel
theorem dX7_ask_51 : decode cX7_ask 51 = .ok (.getfield 112, 3) := by decide +kernel
theorem dX7_ask_54 : decode cX7_ask 54 = .ok (.goto 5, 3) := by decide +kernel
theorem dX7_ask_57 : decode cX7_ask 57 = .ok (.bipush (-3), 2) := by decide +kernel
theorem dX7_ask_59 : decode cX7_ask 59 = .ok (.ireturn, 1) := by decide +kernel
theorem dX7_forget_0 : decode cX7_forget 0 = .ok (.aload_n 0, 1) := by decide +kernel
theorem dX7_forget_1 : decode cX7_forget 1 = .ok (.getfield 51, 3) := by decide +kernel
theorem dX7_forget_4 : decode cX7_forget 4 = .ok (.getfield 112, 3) := by decide +kernel
theorem dX7_forget_7 : decode cX7_forget 7 = .ok (.istore_n 1, 1) := by decide +kernel
theorem dX7_forget_8 : decode cX7_forget 8 = .ok (.aload_n 0, 1) := by decide +kernel
theorem dX7_forget_9 : decode cX7_forget 9 = .ok (.getfield 51, 3) := by decide +kernel
theorem dX7_forget_12 : decode cX7_forget 12 = .ok (.iconst 0, 1) := by decide +kernel
theorem dX7_forget_13 : decode cX7_forget 13 = .ok (.putfield 112, 3) := by decide +kernel
theorem dX7_forget_16 : decode cX7_forget 16 = .ok (.iload_n 1, 1) := by decide +kernel
theorem dX7_forget_17 : decode cX7_forget 17 = .ok (.ireturn, 1) := by decide +kernel
set_option maxRecDepth 20000 in
theorem ggX7_meeting_X5_copy : GoodIn wsX7_meeting wsX5_copy := goodIn_r _ [12, 13, 14, 15, 16, 17, 18, 19, 20, 21, 22, 118, 119, 120, 121, 122, 123, 124] (by decide +kernel) (by decide +kernel)
set_option maxRecDepth 20000 in
theorem gX7_meeting_X5_copy : GoodIn wsX7_meeting (wsV RX7 199 RX5 yX5_copy wsX5_copy) := goodIn_app (goodIn_of _ (by decide +kernel)) ggX7_meeting_X5_copy
set_option maxRecDepth 20000 in
theorem ggX7_meeting_X4_find : GoodIn wsX7_meeting wsX4_find := goodIn_r _ [27, 28, 29, 30, 31, 32, 33, 34, 35, 36, 37, 38, 39, 40, 41, 42, 21, 43, 44, 45, 46, 11, 47, 48, 14, 13, 49, 16, 50, 51, 52, 53, 54, 55, 56, 57, 58, 59, 60, 61, 62, 63, 64, 65, 26, 66, 67, 68, 69, 70, 71, 72, 73, 74, 75, 76, 77, 78, 79, 80, 81, 82, 83, 84, 85, 86, 87, 88, 89, 90, 91, 92, 93, 94, 95, 96, 97, 110, 111, 112, 113, 114, 115, 116, 117, 118, 119, 120, 121, 122, 123, 124, 125, 126, 127, 128, 129, 130, 131, 132, 133, 134, 135, 136, 137, 138] (by decide +kernel) (by decide +kernel)
set_option maxRecDepth 20000 in
theorem gX7_meeting_X4_find : GoodIn wsX7_meeting (wsV RX7 202 RX4 yX4_find wsX4_find) := goodIn_app (goodIn_of _ (by decide +kernel)) ggX7_meeting_X4_find
set_option maxRecDepth 20000 in
theorem ggX7_meeting_X7_cell : GoodIn wsX7_meeting wsX7_cell := goodIn_r _ [43] (by decide +kernel) (by decide +kernel)
set_option maxRecDepth 20000 in
theorem gX7_meeting_X7_cell : GoodIn wsX7_meeting (va_wsS RX7 124 yX7_cell wsX7_cell) := goodIn_app (goodIn_of _ (by decide +kernel)) ggX7_meeting_X7_cell
theorem dX7_meeting_0 : decode cX7_meeting 0 = .ok (.iload_n 1, 1) := by decide +kernel
theorem dX7_meeting_1 : decode cX7_meeting 1 = .ok (.iconst (-1), 1) := by decide +kernel
theorem dX7_meeting_2 : decode cX7_meeting 2 = .ok (.if_icmp .ge 5, 3) := by decide +kernel
theorem dX7_meeting_5 : decode cX7_meeting 5 = .ok (.iconst (-1), 1) := by decide +kernel
theorem dX7_meeting_6 : decode cX7_meeting 6 = .ok (.ireturn, 1) := by decide +kernel
theorem dX7_meeting_7 : decode cX7_meeting 7 = .ok (.aload_n 0, 1) := by decide +kernel
theorem dX7_meeting_8 : decode cX7_meeting 8 = .ok (.getfield 33, 3) := by decide +kernel
theorem dX7_meeting_11 : decode cX7_meeting 11 = .ok (.aload_n 0, 1) := by decide +kernel
theorem dX7_meeting_12 : decode cX7_meeting 12 = .ok (.getfield 29, 3) := by decide +kernel
theorem dX7_meeting_15 : decode cX7_meeting 15 = .ok (.invokevirtual 199, 3) := by decide +kernel
theorem dX7_meeting_18 : decode cX7_meeting 18 = .ok (.aload_n 0, 1) := by decide +kernel
theorem dX7_meeting_19 : decode cX7_meeting 19 = .ok (.getfield 58, 3) := by decide +kernel
theorem dX7_meeting_22 : decode cX7_meeting 22 = .ok (.aload_n 0, 1) := by decide +kernel
theorem dX7_meeting_23 : decode cX7_meeting 23 = .ok (.getfield 19, 3) := by decide +kernel
theorem dX7_meeting_26 : decode cX7_meeting 26 = .ok (.aload_n 0, 1) := by decide +kernel
theorem dX7_meeting_27 : decode cX7_meeting 27 = .ok (.getfield 33, 3) := by decide +kernel
theorem dX7_meeting_30 : decode cX7_meeting 30 = .ok (.aload_n 0, 1) := by decide +kernel
theorem dX7_meeting_31 : decode cX7_meeting 31 = .ok (.getfield 51, 3) := by decide +kernel
theorem dX7_meeting_34 : decode cX7_meeting 34 = .ok (.invokevirtual 202, 3) := by decide +kernel
theorem dX7_meeting_37 : decode cX7_meeting 37 = .ok (.ifCond .ne 6, 3) := by decide +kernel
theorem dX7_meeting_40 : decode cX7_meeting 40 = .ok (.bipush (-4), 2) := by decide +kernel
theorem dX7_meeting_42 : decode cX7_meeting 42 = .ok (.ireturn, 1) := by decide +kernel
theorem dX7_meeting_43 : decode cX7_meeting 43 = .ok (.iload_n 1, 1) := by decide +kernel
theorem dX7_meeting_44 : decode cX7_meeting 44 = .ok (.iconst (-1), 1) := by decide +kernel
theorem dX7_meeting_45 : decode cX7_meeting 45 = .ok (.if_icmp .ne 11, 3) := by decide +kernel
theorem dX7_meeting_48 : decode cX7_meeting 48 = .ok (.aload_n 0, 1) := by decide +kernel
theorem dX7_meeting_49 : decode cX7_meeting 49 = .ok (.getfield 58, 3) := by decide +kernel
theorem dX7_meeting_52 : decode cX7_meeting 52 = .ok (.getfield 206, 3) := by decide +kernel
theorem dX7_meeting_55 : decode cX7_meeting 55 = .ok (.ireturn, 1) := by decide +kernel
theorem dX7_meeting_56 : decode cX7_meeting 56 = .ok (.iload_n 1, 1) := by decide +kernel
theorem dX7_meeting_57 : decode cX7_meeting 57 = .ok (.aload_n 0, 1) := by decide +kernel
theorem dX7_meeting_58 : decode cX7_meeting 58 = .ok (.getfield 58, 3) := by decide +kernel
theorem dX7_meeting_61 : decode cX7_meeting 61 = .ok (.getfield 206, 3) := by decide +kernel
theorem dX7_meeting_64 : decode cX7_meeting 64 = .ok (.if_icmp .ge 17, 3) := by decide +kernel
theorem dX7_meeting_67 : decode cX7_meeting 67 = .ok (.aload_n 0, 1) := by decide +kernel
theorem dX7_meeting_68 : decode cX7_meeting 68 = .ok (.getfield 58, 3) := by decide +kernel
theorem dX7_meeting_71 : decode cX7_meeting 71 = .ok (.getfield 208, 3) := by decide +kernel
theorem dX7_meeting_74 : decode cX7_meeting 74 = .ok (.iload_n 1, 1) := by decide +kernel
theorem dX7_meeting_75 : decode cX7_meeting 75 = .ok (.invokestatic 124, 3) := by decide +kernel
theorem dX7_meeting_78 : decode cX7_meeting 78 = .ok (.goto 5, 3) := by decide +kernel
theorem dX7_meeting_81 : decode cX7_meeting 81 = .ok (.bipush (-4), 2) := by decide +kernel
theorem dX7_meeting_83 : decode cX7_meeting 83 = .ok (.ireturn, 1) := by decide +kernel
set_option maxRecDepth 20000 in
theorem ggX7_shifts_X7_within : GoodIn wsX7_shifts wsX7_within := goodIn_r _ [11] (by decide +kernel) (by decide +kernel)
set_option maxRecDepth 20000 in
theorem gX7_shifts_X7_within : GoodIn wsX7_shifts (va_wsS RX7 101 yX7_within wsX7_within) := goodIn_app (goodIn_of _ (by decide +kernel)) ggX7_shifts_X7_within
set_option maxRecDepth 20000 in
theorem ggX7_shifts_X1_findSo : GoodIn wsX7_shifts wsX1_findSo := goodIn_r _ [16, 17, 18, 19, 20, 21, 22, 15, 23, 24, 25, 26, 27, 28, 10, 29, 30, 31, 32, 33, 34, 35, 36, 37, 38, 39, 40, 41, 42, 43, 44, 45, 46, 47, 48, 67, 68, 69, 70, 71, 72, 73, 74, 75, 76, 77, 78, 79, 80, 81, 82, 83, 84] (by decide +kernel) (by decide +kernel)
set_option maxRecDepth 20000 in
theorem gX7_shifts_X1_findSo : GoodIn wsX7_shifts (wsV RX7 211 RX1 yX1_findSo wsX1_findSo) := goodIn_app (goodIn_of _ (by decide +kernel)) ggX7_shifts_X1_findSo
theorem dX7_shifts_0 : decode cX7_shifts 0 = .ok (.iload_n 1, 1) := by decide +kernel
theorem dX7_shifts_1 : decode cX7_shifts 1 = .ok (.iconst 0, 1) := by decide +kernel
theorem dX7_shifts_2 : decode cX7_shifts 2 = .ok (.iconst 1, 1) := by decide +kernel
theorem dX7_shifts_3 : decode cX7_shifts 3 = .ok (.invokestatic 101, 3) := by decide +kernel
theorem dX7_shifts_6 : decode cX7_shifts 6 = .ok (.ifCond .ne 5, 3) := by decide +kernel
theorem dX7_shifts_9 : decode cX7_shifts 9 = .ok (.iconst (-1), 1) := by decide +kernel
theorem dX7_shifts_10 : decode cX7_shifts 10 = .ok (.ireturn, 1) := by decide +kernel
theorem dX7_shifts_11 : decode cX7_shifts 11 = .ok (.aload_n 0, 1) := by decide +kernel
theorem dX7_shifts_12 : decode cX7_shifts 12 = .ok (.getfield 65, 3) := by decide +kernel
theorem dX7_shifts_15 : decode cX7_shifts 15 = .ok (.aload_n 0, 1) := by decide +kernel
theorem dX7_shifts_16 : decode cX7_shifts 16 = .ok (.getfield 19, 3) := by decide +kernel
theorem dX7_shifts_19 : decode cX7_shifts 19 = .ok (.aload_n 0, 1) := by decide +kernel
theorem dX7_shifts_20 : decode cX7_shifts 20 = .ok (.getfield 29, 3) := by decide +kernel
theorem dX7_shifts_23 : decode cX7_shifts 23 = .ok (.getfield 153, 3) := by decide +kernel
theorem dX7_shifts_26 : decode cX7_shifts 26 = .ok (.aload_n 0, 1) := by decide +kernel
theorem dX7_shifts_27 : decode cX7_shifts 27 = .ok (.getfield 51, 3) := by decide +kernel
theorem dX7_shifts_30 : decode cX7_shifts 30 = .ok (.invokevirtual 211, 3) := by decide +kernel
theorem dX7_shifts_33 : decode cX7_shifts 33 = .ok (.iload_n 1, 1) := by decide +kernel
theorem dX7_shifts_34 : decode cX7_shifts 34 = .ok (.ifCond .ne 11, 3) := by decide +kernel
theorem dX7_shifts_37 : decode cX7_shifts 37 = .ok (.aload_n 0, 1) := by decide +kernel
theorem dX7_shifts_38 : decode cX7_shifts 38 = .ok (.getfield 65, 3) := by decide +kernel
theorem dX7_shifts_41 : decode cX7_shifts 41 = .ok (.getfield 215, 3) := by decide +kernel
theorem dX7_shifts_44 : decode cX7_shifts 44 = .ok (.ireturn, 1) := by decide +kernel
theorem dX7_shifts_45 : decode cX7_shifts 45 = .ok (.aload_n 0, 1) := by decide +kernel
theorem dX7_shifts_46 : decode cX7_shifts 46 = .ok (.getfield 65, 3) := by decide +kernel
theorem dX7_shifts_49 : decode cX7_shifts 49 = .ok (.getfield 215, 3) := by decide +kernel
theorem dX7_shifts_52 : decode cX7_shifts 52 = .ok (.ifCond .le 13, 3) := by decide +kernel
theorem dX7_shifts_55 : decode cX7_shifts 55 = .ok (.aload_n 0, 1) := by decide +kernel
theorem dX7_shifts_56 : decode cX7_shifts 56 = .ok (.getfield 65, 3) := by decide +kernel
theorem dX7_shifts_59 : decode cX7_shifts 59 = .ok (.getfield 218, 3) := by decide +kernel
theorem dX7_shifts_62 : decode cX7_shifts 62 = .ok (.goto 5, 3) := by decide +kernel
theorem dX7_shifts_65 : decode cX7_shifts 65 = .ok (.bipush (-4), 2) := by decide +kernel
theorem dX7_shifts_67 : decode cX7_shifts 67 = .ok (.ireturn, 1) := by decide +kernel
set_option maxRecDepth 20000 in
theorem ggX7_most_X7_within : GoodIn wsX7_most wsX7_within := goodIn_r _ [9] (by decide +kernel) (by decide +kernel)
set_option maxRecDepth 20000 in
theorem gX7_most_X7_within : GoodIn wsX7_most (va_wsS RX7 101 yX7_within wsX7_within) := goodIn_app (goodIn_of _ (by decide +kernel)) ggX7_most_X7_within
set_option maxRecDepth 20000 in
theorem ggX7_most_X1_findPairs : GoodIn wsX7_most wsX1_findPairs := goodIn_r _ [14, 15, 16, 17, 18, 8, 19, 20, 21, 22, 23, 24, 25, 26, 27, 28, 29, 30, 31, 32, 33, 34, 35, 36, 37, 38, 39, 40, 64, 65, 66, 67, 68, 69, 70, 71, 72, 73, 74, 75, 76, 77, 78] (by decide +kernel) (by decide +kernel)
set_option maxRecDepth 20000 in
theorem gX7_most_X1_findPairs : GoodIn wsX7_most (wsV RX7 221 RX1 yX1_findPairs wsX1_findPairs) := goodIn_app (goodIn_of _ (by decide +kernel)) ggX7_most_X1_findPairs
set_option maxRecDepth 20000 in
theorem ggX7_most_X1_lowestOfMostPairs : GoodIn wsX7_most wsX1_lowestOfMostPairs := goodIn_r _ [44, 15, 20, 8, 21, 64, 65, 66, 67] (by decide +kernel) (by decide +kernel)
set_option maxRecDepth 20000 in
theorem gX7_most_X1_lowestOfMostPairs : GoodIn wsX7_most (wsV RX7 224 RX1 yX1_lowestOfMostPairs wsX1_lowestOfMostPairs) := goodIn_app (goodIn_of _ (by decide +kernel)) ggX7_most_X1_lowestOfMostPairs
set_option maxRecDepth 20000 in
theorem ggX7_most_X7_cell : GoodIn wsX7_most wsX7_cell := goodIn_r _ [21] (by decide +kernel) (by decide +kernel)
set_option maxRecDepth 20000 in
theorem gX7_most_X7_cell : GoodIn wsX7_most (va_wsS RX7 124 yX7_cell wsX7_cell) := goodIn_app (goodIn_of _ (by decide +kernel)) ggX7_most_X7_cell
theorem dX7_most_0 : decode cX7_most 0 = .ok (.iload_n 1, 1) := by decide +kernel
theorem dX7_most_1 : decode cX7_most 1 = .ok (.iconst 0, 1) := by decide +kernel
theorem dX7_most_2 : decode cX7_most 2 = .ok (.iconst 1, 1) := by decide +kernel
theorem dX7_most_3 : decode cX7_most 3 = .ok (.invokestatic 101, 3) := by decide +kernel
theorem dX7_most_6 : decode cX7_most 6 = .ok (.ifCond .ne 5, 3) := by decide +kernel
theorem dX7_most_9 : decode cX7_most 9 = .ok (.iconst (-1), 1) := by decide +kernel
theorem dX7_most_10 : decode cX7_most 10 = .ok (.ireturn, 1) := by decide +kernel
theorem dX7_most_11 : decode cX7_most 11 = .ok (.aload_n 0, 1) := by decide +kernel
theorem dX7_most_12 : decode cX7_most 12 = .ok (.getfield 65, 3) := by decide +kernel
theorem dX7_most_15 : decode cX7_most 15 = .ok (.aload_n 0, 1) := by decide +kernel
theorem dX7_most_16 : decode cX7_most 16 = .ok (.getfield 19, 3) := by decide +kernel
theorem dX7_most_19 : decode cX7_most 19 = .ok (.aload_n 0, 1) := by decide +kernel
theorem dX7_most_20 : decode cX7_most 20 = .ok (.getfield 29, 3) := by decide +kernel
theorem dX7_most_23 : decode cX7_most 23 = .ok (.getfield 153, 3) := by decide +kernel
theorem dX7_most_26 : decode cX7_most 26 = .ok (.invokevirtual 221, 3) := by decide +kernel
theorem dX7_most_29 : decode cX7_most 29 = .ok (.aload_n 0, 1) := by decide +kernel
theorem dX7_most_30 : decode cX7_most 30 = .ok (.getfield 65, 3) := by decide +kernel
theorem dX7_most_33 : decode cX7_most 33 = .ok (.invokevirtual 224, 3) := by decide +kernel
theorem dX7_most_36 : decode cX7_most 36 = .ok (.istore_n 2, 1) := by decide +kernel
theorem dX7_most_37 : decode cX7_most 37 = .ok (.iload_n 1, 1) := by decide +kernel
theorem dX7_most_38 : decode cX7_most 38 = .ok (.ifCond .ne 17, 3) := by decide +kernel
theorem dX7_most_41 : decode cX7_most 41 = .ok (.aload_n 0, 1) := by decide +kernel
theorem dX7_most_42 : decode cX7_most 42 = .ok (.getfield 65, 3) := by decide +kernel
theorem dX7_most_45 : decode cX7_most 45 = .ok (.getfield 227, 3) := by decide +kernel
theorem dX7_most_48 : decode cX7_most 48 = .ok (.iload_n 2, 1) := by decide +kernel
theorem dX7_most_49 : decode cX7_most 49 = .ok (.invokestatic 124, 3) := by decide +kernel
theorem dX7_most_52 : decode cX7_most 52 = .ok (.goto 4, 3) := by decide +kernel
theorem dX7_most_55 : decode cX7_most 55 = .ok (.iload_n 2, 1) := by decide +kernel
theorem dX7_most_56 : decode cX7_most 56 = .ok (.ireturn, 1) := by decide +kernel
set_option maxRecDepth 20000 in
theorem ggX7_hut_X7_within : GoodIn wsX7_hut wsX7_within := goodIn_r _ [7] (by decide +kernel) (by decide +kernel)
set_option maxRecDepth 20000 in
theorem gX7_hut_X7_within : GoodIn wsX7_hut (va_wsS RX7 101 yX7_within wsX7_within) := goodIn_app (goodIn_of _ (by decide +kernel)) ggX7_hut_X7_within
set_option maxRecDepth 20000 in
theorem ggX7_hut_X6_metFrom : GoodIn wsX7_hut wsX6_metFrom := goodIn_r _ [12, 13, 14, 15, 16, 11, 17, 18, 19, 20, 21, 22, 23, 24, 25, 26, 27, 28, 6, 29, 30, 31, 32, 33, 34, 35, 36, 5, 7, 37, 38, 57, 58, 59, 60, 61, 62, 63, 64, 65, 66, 67] (by decide +kernel) (by decide +kernel)
set_option maxRecDepth 20000 in
theorem gX7_hut_X6_metFrom : GoodIn wsX7_hut (wsV RX7 230 RX6 yX6_metFrom wsX6_metFrom) := goodIn_app (goodIn_of _ (by decide +kernel)) ggX7_hut_X6_metFrom
theorem dX7_hut_0 : decode cX7_hut 0 = .ok (.iload_n 1, 1) := by decide +kernel
theorem dX7_hut_1 : decode cX7_hut 1 = .ok (.iconst 0, 1) := by decide +kernel
theorem dX7_hut_2 : decode cX7_hut 2 = .ok (.iconst 1, 1) := by decide +kernel
theorem dX7_hut_3 : decode cX7_hut 3 = .ok (.invokestatic 101, 3) := by decide +kernel
theorem dX7_hut_6 : decode cX7_hut 6 = .ok (.ifCond .ne 5, 3) := by decide +kernel
theorem dX7_hut_9 : decode cX7_hut 9 = .ok (.iconst (-1), 1) := by decide +kernel
theorem dX7_hut_10 : decode cX7_hut 10 = .ok (.ireturn, 1) := by decide +kernel
theorem dX7_hut_11 : decode cX7_hut 11 = .ok (.iconst (-1), 1) := by decide +kernel
theorem dX7_hut_12 : decode cX7_hut 12 = .ok (.istore_n 2, 1) := by decide +kernel
theorem dX7_hut_13 : decode cX7_hut 13 = .ok (.iconst 0, 1) := by decide +kernel
theorem dX7_hut_14 : decode cX7_hut 14 = .ok (.istore_n 3, 1) := by decide +kernel
theorem dX7_hut_15 : decode cX7_hut 15 = .ok (.iconst 0, 1) := by decide +kernel
theorem dX7_hut_16 : decode cX7_hut 16 = .ok (.istore 4, 2) := by decide +kernel
theorem dX7_hut_18 : decode cX7_hut 18 = .ok (.iload 4, 2) := by decide +kernel
theorem dX7_hut_20 : decode cX7_hut 20 = .ok (.bipush 60, 2) := by decide +kernel
theorem dX7_hut_22 : decode cX7_hut 22 = .ok (.if_icmp .gt 39, 3) := by decide +kernel
theorem dX7_hut_25 : decode cX7_hut 25 = .ok (.aload_n 0, 1) := by decide +kernel
theorem dX7_hut_26 : decode cX7_hut 26 = .ok (.getfield 19, 3) := by decide +kernel
theorem dX7_hut_29 : decode cX7_hut 29 = .ok (.iload 4, 2) := by decide +kernel
theorem dX7_hut_31 : decode cX7_hut 31 = .ok (.aload_n 0, 1) := by decide +kernel
theorem dX7_hut_32 : decode cX7_hut 32 = .ok (.getfield 29, 3) := by decide +kernel
theorem dX7_hut_35 : decode cX7_hut 35 = .ok (.getfield 153, 3) := by decide +kernel
theorem dX7_hut_38 : decode cX7_hut 38 = .ok (.invokevirtual 230, 3) := by decide +kernel
theorem dX7_hut_41 : decode cX7_hut 41 = .ok (.istore 5, 2) := by decide +kernel
theorem dX7_hut_43 : decode cX7_hut 43 = .ok (.iload 5, 2) := by decide +kernel
theorem dX7_hut_45 : decode cX7_hut 45 = .ok (.iload_n 2, 1) := by decide +kernel
theorem dX7_hut_46 : decode cX7_hut 46 = .ok (.if_icmp .le 9, 3) := by decide +kernel
theorem dX7_hut_49 : decode cX7_hut 49 = .ok (.iload 5, 2) := by decide +kernel
theorem dX7_hut_51 : decode cX7_hut 51 = .ok (.istore_n 2, 1) := by decide +kernel
theorem dX7_hut_52 : decode cX7_hut 52 = .ok (.iload 4, 2) := by decide +kernel
theorem dX7_hut_54 : decode cX7_hut 54 = .ok (.istore_n 3, 1) := by decide +kernel
theorem dX7_hut_55 : decode cX7_hut 55 = .ok (.iinc 4 1, 3) := by decide +kernel
theorem dX7_hut_58 : decode cX7_hut 58 = .ok (.goto (-40), 3) := by decide +kernel
theorem dX7_hut_61 : decode cX7_hut 61 = .ok (.iload_n 1, 1) := by decide +kernel
theorem dX7_hut_62 : decode cX7_hut 62 = .ok (.ifCond .ne 7, 3) := by decide +kernel
theorem dX7_hut_65 : decode cX7_hut 65 = .ok (.iload_n 2, 1) := by decide +kernel
theorem dX7_hut_66 : decode cX7_hut 66 = .ok (.goto 4, 3) := by decide +kernel
theorem dX7_hut_69 : decode cX7_hut 69 = .ok (.iload_n 3, 1) := by decide +kernel
theorem dX7_hut_70 : decode cX7_hut 70 = .ok (.ireturn, 1) := by decide +kernel
set_option maxRecDepth 20000 in
theorem ggX7_behind_X7_within : GoodIn wsX7_behind wsX7_within := goodIn_r _ [9] (by decide +kernel) (by decide +kernel)
set_option maxRecDepth 20000 in
theorem gX7_behind_X7_within : GoodIn wsX7_behind (va_wsS RX7 101 yX7_within wsX7_within) := goodIn_app (goodIn_of _ (by decide +kernel)) ggX7_behind_X7_within
set_option maxRecDepth 20000 in
theorem ggX7_behind_X5_copy : GoodIn wsX7_behind wsX5_copy := goodIn_r _ [14, 15, 16, 17, 18, 19, 20, 21, 22, 8, 23, 90, 91, 92, 93, 94, 95, 96] (by decide +kernel) (by decide +kernel)
set_option maxRecDepth 20000 in
theorem gX7_behind_X5_copy : GoodIn wsX7_behind (wsV RX7 199 RX5 yX5_copy wsX5_copy) := goodIn_app (goodIn_of _ (by decide +kernel)) ggX7_behind_X5_copy
set_option maxRecDepth 20000 in
theorem ggX7_behind_X5_trade : GoodIn wsX7_behind wsX5_trade := goodIn_r _ [27, 28, 18, 29, 30, 31, 13, 32, 33, 34, 35, 8, 36, 37, 38, 39, 40, 16, 15, 41, 42, 43, 44, 45, 46, 47, 48, 49, 50, 51, 52, 53, 54, 55, 56, 57, 58, 20, 21, 59, 60, 61, 62, 63, 64, 65, 66, 79, 80, 81, 82, 83, 84, 85, 86, 87, 88, 89, 90, 91, 92, 93, 94, 95, 96] (by decide +kernel) (by decide +kernel)
set_option maxRecDepth 20000 in
theorem gX7_behind_X5_trade : GoodIn wsX7_behind (wsV RX7 180 RX5 yX5_trade wsX5_trade) := goodIn_app (goodIn_of _ (by decide +kernel)) ggX7_behind_X5_trade
set_option maxRecDepth 20000 in
theorem ggX7_behind_X7_cell : GoodIn wsX7_behind wsX7_cell := goodIn_r _ [36] (by decide +kernel) (by decide +kernel)
set_option maxRecDepth 20000 in
theorem gX7_behind_X7_cell : GoodIn wsX7_behind (va_wsS RX7 124 yX7_cell wsX7_cell) := goodIn_app (goodIn_of _ (by decide +kernel)) ggX7_behind_X7_cell
theorem dX7_behind_0 : decode cX7_behind 0 = .ok (.iload_n 1, 1) := by decide +kernel
theorem dX7_behind_1 : decode cX7_behind 1 = .ok (.iconst 0, 1) := by decide +kernel
theorem dX7_behind_2 : decode cX7_behind 2 = .ok (.bipush 40, 2) := by decide +kernel
theorem dX7_behind_4 : decode cX7_behind 4 = .ok (.invokestatic 101, 3) := by decide +kernel
theorem dX7_behind_7 : decode cX7_behind 7 = .ok (.ifCond .eq 20, 3) := by decide +kernel
theorem dX7_behind_10 : decode cX7_behind 10 = .ok (.iload_n 2, 1) := by decide +kernel
theorem dX7_behind_11 : decode cX7_behind 11 = .ok (.iconst 0, 1) := by decide +kernel
theorem dX7_behind_12 : decode cX7_behind 12 = .ok (.aload_n 0, 1) := by decide +kernel
theorem dX7_behind_13 : decode cX7_behind 13 = .ok (.getfield 19, 3) := by decide +kernel
theorem dX7_behind_16 : decode cX7_behind 16 = .ok (.getfield 105, 3) := by decide +kernel
theorem dX7_behind_19 : decode cX7_behind 19 = .ok (.iconst 1, 1) := by decide +kernel
theorem dX7_behind_20 : decode cX7_behind 20 = .ok (.isub, 1) := by decide +kernel
theorem dX7_behind_21 : decode cX7_behind 21 = .ok (.invokestatic 101, 3) := by decide +kernel
theorem dX7_behind_24 : decode cX7_behind 24 = .ok (.ifCond .ne 5, 3) := by decide +kernel
theorem dX7_behind_27 : decode cX7_behind 27 = .ok (.iconst (-1), 1) := by decide +kernel
theorem dX7_behind_28 : decode cX7_behind 28 = .ok (.ireturn, 1) := by decide +kernel
theorem dX7_behind_29 : decode cX7_behind 29 = .ok (.aload_n 0, 1) := by decide +kernel
theorem dX7_behind_30 : decode cX7_behind 30 = .ok (.getfield 33, 3) := by decide +kernel
theorem dX7_behind_33 : decode cX7_behind 33 = .ok (.aload_n 0, 1) := by decide +kernel
theorem dX7_behind_34 : decode cX7_behind 34 = .ok (.getfield 29, 3) := by decide +kernel
theorem dX7_behind_37 : decode cX7_behind 37 = .ok (.invokevirtual 199, 3) := by decide +kernel
theorem dX7_behind_40 : decode cX7_behind 40 = .ok (.aload_n 0, 1) := by decide +kernel
theorem dX7_behind_41 : decode cX7_behind 41 = .ok (.getfield 33, 3) := by decide +kernel
theorem dX7_behind_44 : decode cX7_behind 44 = .ok (.aload_n 0, 1) := by decide +kernel
theorem dX7_behind_45 : decode cX7_behind 45 = .ok (.getfield 19, 3) := by decide +kernel
theorem dX7_behind_48 : decode cX7_behind 48 = .ok (.iload_n 1, 1) := by decide +kernel
theorem dX7_behind_49 : decode cX7_behind 49 = .ok (.invokevirtual 180, 3) := by decide +kernel
theorem dX7_behind_52 : decode cX7_behind 52 = .ok (.aload_n 0, 1) := by decide +kernel
theorem dX7_behind_53 : decode cX7_behind 53 = .ok (.getfield 33, 3) := by decide +kernel
theorem dX7_behind_56 : decode cX7_behind 56 = .ok (.getfield 143, 3) := by decide +kernel
theorem dX7_behind_59 : decode cX7_behind 59 = .ok (.iload_n 2, 1) := by decide +kernel
theorem dX7_behind_60 : decode cX7_behind 60 = .ok (.invokestatic 124, 3) := by decide +kernel
theorem dX7_behind_63 : decode cX7_behind 63 = .ok (.ireturn, 1) := by decide +kernel
set_option maxRecDepth 20000 in
theorem ggX7_worth_X7_within : GoodIn wsX7_worth wsX7_within := goodIn_r _ [8] (by decide +kernel) (by decide +kernel)
set_option maxRecDepth 20000 in
theorem gX7_worth_X7_within : GoodIn wsX7_worth (va_wsS RX7 101 yX7_within wsX7_within) := goodIn_app (goodIn_of _ (by decide +kernel)) ggX7_worth_X7_within
set_option maxRecDepth 20000 in
theorem ggX7_worth_X5_copy : GoodIn wsX7_worth wsX5_copy := goodIn_r _ [13, 14, 15, 16, 17, 18, 19, 20, 21, 7, 22, 104, 105, 106, 107, 108, 109, 110] (by decide +kernel) (by decide +kernel)
set_option maxRecDepth 20000 in
theorem gX7_worth_X5_copy : GoodIn wsX7_worth (wsV RX7 199 RX5 yX5_copy wsX5_copy) := goodIn_app (goodIn_of _ (by decide +kernel)) ggX7_worth_X5_copy
set_option maxRecDepth 20000 in
theorem ggX7_worth_X5_trade : GoodIn wsX7_worth wsX5_trade := goodIn_r _ [26, 27, 17, 28, 29, 30, 12, 31, 32, 33, 34, 7, 35, 36, 37, 38, 39, 15, 14, 40, 41, 42, 43, 44, 45, 46, 47, 48, 49, 50, 51, 52, 53, 54, 55, 56, 57, 19, 20, 58, 59, 60, 61, 62, 63, 64, 65, 93, 94, 95, 96, 97, 98, 99, 100, 101, 102, 103, 104, 105, 106, 107, 108, 109, 110] (by decide +kernel) (by decide +kernel)
set_option maxRecDepth 20000 in
theorem gX7_worth_X5_trade : GoodIn wsX7_worth (wsV RX7 180 RX5 yX5_trade wsX5_trade) := goodIn_app (goodIn_of _ (by decide +kernel)) ggX7_worth_X5_trade
set_option maxRecDepth 20000 in
theorem ggX7_worth_X5_allGoods : GoodIn wsX7_worth wsX5_allGoods := goodIn_r _ [69, 27, 19, 34, 7, 35, 93, 94, 95, 96, 97, 98, 99, 100, 101, 102, 103, 104, 105, 106, 107, 108, 109, 110] (by decide +kernel) (by decide +kernel)
set_option maxRecDepth 20000 in
theorem gX7_worth_X5_allGoods : GoodIn wsX7_worth (wsV RX7 233 RX5 yX5_allGoods wsX5_allGoods) := goodIn_app (goodIn_of _ (by decide +kernel)) ggX7_worth_X5_allGoods
set_option maxRecDepth 20000 in
theorem ggX7_worth_X5_shove : GoodIn wsX7_worth wsX5_shove := goodIn_r _ [73, 14, 15, 74, 16, 75, 76, 60, 77, 34, 7, 35, 78, 79, 80, 59, 61, 81, 104, 105, 106, 107, 108, 109, 110, 93, 94, 95, 96, 97, 98, 99, 100, 101, 102, 103] (by decide +kernel) (by decide +kernel)
set_option maxRecDepth 20000 in
theorem gX7_worth_X5_shove : GoodIn wsX7_worth (wsV RX7 170 RX5 yX5_shove wsX5_shove) := goodIn_app (goodIn_of _ (by decide +kernel)) ggX7_worth_X5_shove
theorem dX7_worth_0 : decode cX7_worth 0 = .ok (.iload_n 1, 1) := by decide +kernel
theorem dX7_worth_1 : decode cX7_worth 1 = .ok (.iconst 1, 1) := by decide +kernel
theorem dX7_worth_2 : decode cX7_worth 2 = .ok (.bipush 20, 2) := by decide +kernel
theorem dX7_worth_4 : decode cX7_worth 4 = .ok (.invokestatic 101, 3) := by decide +kernel
theorem dX7_worth_7 : decode cX7_worth 7 = .ok (.ifCond .eq 12, 3) := by decide +kernel
theorem dX7_worth_10 : decode cX7_worth 10 = .ok (.iload_n 2, 1) := by decide +kernel
theorem dX7_worth_11 : decode cX7_worth 11 = .ok (.iconst 0, 1) := by decide +kernel
theorem dX7_worth_12 : decode cX7_worth 12 = .ok (.iconst 1, 1) := by decide +kernel
theorem dX7_worth_13 : decode cX7_worth 13 = .ok (.invokestatic 101, 3) := by decide +kernel
theorem dX7_worth_16 : decode cX7_worth 16 = .ok (.ifCond .ne 5, 3) := by decide +kernel
theorem dX7_worth_19 : decode cX7_worth 19 = .ok (.iconst (-1), 1) := by decide +kernel
theorem dX7_worth_20 : decode cX7_worth 20 = .ok (.ireturn, 1) := by decide +kernel
theorem dX7_worth_21 : decode cX7_worth 21 = .ok (.aload_n 0, 1) := by decide +kernel
theorem dX7_worth_22 : decode cX7_worth 22 = .ok (.getfield 33, 3) := by decide +kernel
theorem dX7_worth_25 : decode cX7_worth 25 = .ok (.aload_n 0, 1) := by decide +kernel
theorem dX7_worth_26 : decode cX7_worth 26 = .ok (.getfield 29, 3) := by decide +kernel
theorem dX7_worth_29 : decode cX7_worth 29 = .ok (.invokevirtual 199, 3) := by decide +kernel
theorem dX7_worth_32 : decode cX7_worth 32 = .ok (.aload_n 0, 1) := by decide +kernel
theorem dX7_worth_33 : decode cX7_worth 33 = .ok (.getfield 33, 3) := by decide +kernel
theorem dX7_worth_36 : decode cX7_worth 36 = .ok (.aload_n 0, 1) := by decide +kernel
theorem dX7_worth_37 : decode cX7_worth 37 = .ok (.getfield 19, 3) := by decide +kernel
theorem dX7_worth_40 : decode cX7_worth 40 = .ok (.iload_n 1, 1) := by decide +kernel
theorem dX7_worth_41 : decode cX7_worth 41 = .ok (.invokevirtual 180, 3) := by decide +kernel
theorem dX7_worth_44 : decode cX7_worth 44 = .ok (.bipush 99, 2) := by decide +kernel
theorem dX7_worth_46 : decode cX7_worth 46 = .ok (.istore_n 3, 1) := by decide +kernel
theorem dX7_worth_47 : decode cX7_worth 47 = .ok (.aload_n 0, 1) := by decide +kernel
theorem dX7_worth_48 : decode cX7_worth 48 = .ok (.getfield 33, 3) := by decide +kernel
theorem dX7_worth_51 : decode cX7_worth 51 = .ok (.aload_n 0, 1) := by decide +kernel
theorem dX7_worth_52 : decode cX7_worth 52 = .ok (.getfield 19, 3) := by decide +kernel
theorem dX7_worth_55 : decode cX7_worth 55 = .ok (.invokevirtual 233, 3) := by decide +kernel
theorem dX7_worth_58 : decode cX7_worth 58 = .ok (.istore 4, 2) := by decide +kernel
theorem dX7_worth_60 : decode cX7_worth 60 = .ok (.iconst 0, 1) := by decide +kernel
theorem dX7_worth_61 : decode cX7_worth 61 = .ok (.istore 5, 2) := by decide +kernel
theorem dX7_worth_63 : decode cX7_worth 63 = .ok (.iload 5, 2) := by decide +kernel
theorem dX7_worth_65 : decode cX7_worth 65 = .ok (.aload_n 0, 1) := by decide +kernel
theorem dX7_worth_66 : decode cX7_worth 66 = .ok (.getfield 19, 3) := by decide +kernel
theorem dX7_worth_69 : decode cX7_worth 69 = .ok (.getfield 108, 3) := by decide +kernel
theorem dX7_worth_72 : decode cX7_worth 72 = .ok (.if_icmp .ge 95, 3) := by decide +kernel
theorem dX7_worth_75 : decode cX7_worth 75 = .ok (.iconst 0, 1) := by decide +kernel
theorem dX7_worth_76 : decode cX7_worth 76 = .ok (.istore 6, 2) := by decide +kernel
theorem dX7_worth_78 : decode cX7_worth 78 = .ok (.iload 6, 2) := by decide +kernel
theorem dX7_worth_80 : decode cX7_worth 80 = .ok (.iconst 1, 1) := by decide +kernel
theorem dX7_worth_81 : decode cX7_worth 81 = .ok (.if_icmp .gt 80, 3) := by decide +kernel
theorem dX7_worth_84 : decode cX7_worth 84 = .ok (.aload_n 0, 1) := by decide +kernel
theorem dX7_worth_85 : decode cX7_worth 85 = .ok (.getfield 33, 3) := by decide +kernel
theorem dX7_worth_88 : decode cX7_worth 88 = .ok (.aload_n 0, 1) := by decide +kernel
theorem dX7_worth_89 : decode cX7_worth 89 = .ok (.getfield 29, 3) := by decide +kernel
theorem dX7_worth_92 : decode cX7_worth 92 = .ok (.invokevirtual 199, 3) := by decide +kernel
theorem dX7_worth_95 : decode cX7_worth 95 = .ok (.aload_n 0, 1) := by decide +kernel
theorem dX7_worth_96 : decode cX7_worth 96 = .ok (.getfield 33, 3) := by decide +kernel
theorem dX7_worth_99 : decode cX7_worth 99 = .ok (.aload_n 0, 1) := by decide +kernel
theorem dX7_worth_100 : decode cX7_worth 100 = .ok (.getfield 19, 3) := by decide +kernel
theorem dX7_worth_103 : decode cX7_worth 103 = .ok (.iload 5, 2) := by decide +kernel
theorem dX7_worth_105 : decode cX7_worth 105 = .ok (.iload 6, 2) := by decide +kernel
theorem dX7_worth_107 : decode cX7_worth 107 = .ok (.invokevirtual 170, 3) := by decide +kernel
theorem dX7_worth_110 : decode cX7_worth 110 = .ok (.aload_n 0, 1) := by decide +kernel
theorem dX7_worth_111 : decode cX7_worth 111 = .ok (.getfield 33, 3) := by decide +kernel
theorem dX7_worth_114 : decode cX7_worth 114 = .ok (.aload_n 0, 1) := by decide +kernel
theorem dX7_worth_115 : decode cX7_worth 115 = .ok (.getfield 19, 3) := by decide +kernel
theorem dX7_worth_118 : decode cX7_worth 118 = .ok (.iload_n 1, 1) := by decide +kernel
theorem dX7_worth_119 : decode cX7_worth 119 = .ok (.invokevirtual 180, 3) := by decide +kernel
theorem dX7_worth_122 : decode cX7_worth 122 = .ok (.aload_n 0, 1) := by decide +kernel
theorem dX7_worth_123 : decode cX7_worth 123 = .ok (.getfield 33, 3) := by decide +kernel
theorem dX7_worth_126 : decode cX7_worth 126 = .ok (.aload_n 0, 1) := by decide +kernel
theorem dX7_worth_127 : decode cX7_worth 127 = .ok (.getfield 19, 3) := by decide +kernel
theorem dX7_worth_130 : decode cX7_worth 130 = .ok (.invokevirtual 233, 3) := by decide +kernel
theorem dX7_worth_133 : decode cX7_worth 133 = .ok (.istore 7, 2) := by decide +kernel
theorem dX7_worth_135 : decode cX7_worth 135 = .ok (.iload 7, 2) := by decide +kernel
theorem dX7_worth_137 : decode cX7_worth 137 = .ok (.iload 4, 2) := by decide +kernel
theorem dX7_worth_139 : decode cX7_worth 139 = .ok (.if_icmp .le 16, 3) := by decide +kernel
theorem dX7_worth_142 : decode cX7_worth 142 = .ok (.iload 7, 2) := by decide +kernel
theorem dX7_worth_144 : decode cX7_worth 144 = .ok (.istore 4, 2) := by decide +kernel
theorem dX7_worth_146 : decode cX7_worth 146 = .ok (.bipush 10, 2) := by decide +kernel
theorem dX7_worth_148 : decode cX7_worth 148 = .ok (.iload 5, 2) := by decide +kernel
theorem dX7_worth_150 : decode cX7_worth 150 = .ok (.imul, 1) := by decide +kernel
theorem dX7_worth_151 : decode cX7_worth 151 = .ok (.iload 6, 2) := by decide +kernel
theorem dX7_worth_153 : decode cX7_worth 153 = .ok (.iadd, 1) := by decide +kernel
theorem dX7_worth_154 : decode cX7_worth 154 = .ok (.istore_n 3, 1) := by decide +kernel
theorem dX7_worth_155 : decode cX7_worth 155 = .ok (.iinc 6 1, 3) := by decide +kernel
theorem dX7_worth_158 : decode cX7_worth 158 = .ok (.goto (-80), 3) := by decide +kernel
theorem dX7_worth_161 : decode cX7_worth 161 = .ok (.iinc 5 1, 3) := by decide +kernel
theorem dX7_worth_164 : decode cX7_worth 164 = .ok (.goto (-101), 3) := by decide +kernel
theorem dX7_worth_167 : decode cX7_worth 167 = .ok (.iload_n 2, 1) := by decide +kernel
theorem dX7_worth_168 : decode cX7_worth 168 = .ok (.ifCond .ne 7, 3) := by decide +kernel
theorem dX7_worth_171 : decode cX7_worth 171 = .ok (.iload_n 3, 1) := by decide +kernel
theorem dX7_worth_172 : decode cX7_worth 172 = .ok (.goto 5, 3) := by decide +kernel
theorem dX7_worth_175 : decode cX7_worth 175 = .ok (.iload 4, 2) := by decide +kernel
theorem dX7_worth_177 : decode cX7_worth 177 = .ok (.ireturn, 1) := by decide +kernel
set_option maxRecDepth 20000 in
theorem ggX7_tells_X7_within : GoodIn wsX7_tells wsX7_within := goodIn_r _ [11] (by decide +kernel) (by decide +kernel)
set_option maxRecDepth 20000 in
theorem gX7_tells_X7_within : GoodIn wsX7_tells (va_wsS RX7 101 yX7_within wsX7_within) := goodIn_app (goodIn_of _ (by decide +kernel)) ggX7_tells_X7_within
set_option maxRecDepth 20000 in
theorem ggX7_tells_X1_findSo : GoodIn wsX7_tells wsX1_findSo := goodIn_r _ [16, 17, 18, 19, 20, 21, 22, 15, 23, 24, 25, 26, 27, 28, 10, 29, 30, 31, 32, 33, 34, 35, 36, 37, 38, 39, 40, 41, 42, 43, 44, 45, 46, 47, 48, 109, 110, 111, 112, 113, 114, 115, 98, 99, 100, 101, 102, 103, 104, 105, 106, 107, 108] (by decide +kernel) (by decide +kernel)
set_option maxRecDepth 20000 in
theorem gX7_tells_X1_findSo : GoodIn wsX7_tells (wsV RX7 211 RX1 yX1_findSo wsX1_findSo) := goodIn_app (goodIn_of _ (by decide +kernel)) ggX7_tells_X1_findSo
set_option maxRecDepth 20000 in
theorem ggX7_tells_X6_isTold : GoodIn wsX7_tells wsX6_isTold := goodIn_r _ [52, 53, 10, 54, 55, 56, 57, 58, 59, 33, 60, 61, 9, 11, 28, 29, 98, 99, 100, 101, 102, 103, 104, 105, 106, 107, 108] (by decide +kernel) (by decide +kernel)
set_option maxRecDepth 20000 in
theorem gX7_tells_X6_isTold : GoodIn wsX7_tells (wsV RX7 237 RX6 yX6_isTold wsX6_isTold) := goodIn_app (goodIn_of _ (by decide +kernel)) ggX7_tells_X6_isTold
set_option maxRecDepth 20000 in
theorem ggX7_tells_X0_holds : GoodIn wsX7_tells wsX0_holds := goodIn_r _ [66, 67, 68, 69, 28, 10, 29, 113, 114, 115] (by decide +kernel) (by decide +kernel)
set_option maxRecDepth 20000 in
theorem gX7_tells_X0_holds : GoodIn wsX7_tells (wsV RX7 240 RX0 yX0_holds wsX0_holds) := goodIn_app (goodIn_of _ (by decide +kernel)) ggX7_tells_X0_holds
set_option maxRecDepth 20000 in
theorem ggX7_tells_X1_greaterPart : GoodIn wsX7_tells wsX1_greaterPart := goodIn_r _ [73, 26, 18, 17, 74, 75, 76, 77, 28, 10, 29, 30, 31, 32, 33, 34, 35, 36, 37, 38, 39, 40, 41, 42, 43, 44, 45, 46, 47, 48, 98, 99, 100, 101, 102, 103, 104, 105, 106, 107, 108, 109, 110, 111, 112] (by decide +kernel) (by decide +kernel)
set_option maxRecDepth 20000 in
theorem gX7_tells_X1_greaterPart : GoodIn wsX7_tells (wsV RX7 243 RX1 yX1_greaterPart wsX1_greaterPart) := goodIn_app (goodIn_of _ (by decide +kernel)) ggX7_tells_X1_greaterPart
set_option maxRecDepth 20000 in
theorem ggX7_tells_X7_landOf : GoodIn wsX7_tells wsX7_landOf := goodIn_r _ [54] (by decide +kernel) (by decide +kernel)
set_option maxRecDepth 20000 in
theorem gX7_tells_X7_landOf : GoodIn wsX7_tells (va_wsS RX7 247 yX7_landOf wsX7_landOf) := goodIn_app (goodIn_of _ (by decide +kernel)) ggX7_tells_X7_landOf
set_option maxRecDepth 20000 in
theorem ggX7_tells_X7_kOf : GoodIn wsX7_tells wsX7_kOf := goodIn_r _ [56] (by decide +kernel) (by decide +kernel)
set_option maxRecDepth 20000 in
theorem gX7_tells_X7_kOf : GoodIn wsX7_tells (va_wsS RX7 250 yX7_kOf wsX7_kOf) := goodIn_app (goodIn_of _ (by decide +kernel)) ggX7_tells_X7_kOf
theorem dX7_tells_0 : decode cX7_tells 0 = .ok (.iload_n 1, 1) := by decide +kernel
theorem dX7_tells_1 : decode cX7_tells 1 = .ok (.iconst 0, 1) := by decide +kernel
theorem dX7_tells_2 : decode cX7_tells 2 = .ok (.iconst 1, 1) := by decide +kernel
theorem dX7_tells_3 : decode cX7_tells 3 = .ok (.invokestatic 101, 3) := by decide +kernel
theorem dX7_tells_6 : decode cX7_tells 6 = .ok (.ifCond .ne 5, 3) := by decide +kernel
theorem dX7_tells_9 : decode cX7_tells 9 = .ok (.iconst (-1), 1) := by decide +kernel
theorem dX7_tells_10 : decode cX7_tells 10 = .ok (.ireturn, 1) := by decide +kernel
theorem dX7_tells_11 : decode cX7_tells 11 = .ok (.aload_n 0, 1) := by decide +kernel
theorem dX7_tells_12 : decode cX7_tells 12 = .ok (.getfield 65, 3) := by decide +kernel
theorem dX7_tells_15 : decode cX7_tells 15 = .ok (.aload_n 0, 1) := by decide +kernel
theorem dX7_tells_16 : decode cX7_tells 16 = .ok (.getfield 19, 3) := by decide +kernel
theorem dX7_tells_19 : decode cX7_tells 19 = .ok (.aload_n 0, 1) := by decide +kernel
theorem dX7_tells_20 : decode cX7_tells 20 = .ok (.getfield 29, 3) := by decide +kernel
theorem dX7_tells_23 : decode cX7_tells 23 = .ok (.getfield 153, 3) := by decide +kernel
theorem dX7_tells_26 : decode cX7_tells 26 = .ok (.aload_n 0, 1) := by decide +kernel
theorem dX7_tells_27 : decode cX7_tells 27 = .ok (.getfield 51, 3) := by decide +kernel
theorem dX7_tells_30 : decode cX7_tells 30 = .ok (.invokevirtual 211, 3) := by decide +kernel
theorem dX7_tells_33 : decode cX7_tells 33 = .ok (.bipush (-4), 2) := by decide +kernel
theorem dX7_tells_35 : decode cX7_tells 35 = .ok (.istore_n 2, 1) := by decide +kernel
theorem dX7_tells_36 : decode cX7_tells 36 = .ok (.bipush 82, 2) := by decide +kernel
theorem dX7_tells_38 : decode cX7_tells 38 = .ok (.istore_n 3, 1) := by decide +kernel
theorem dX7_tells_39 : decode cX7_tells 39 = .ok (.iconst 0, 1) := by decide +kernel
theorem dX7_tells_40 : decode cX7_tells 40 = .ok (.istore 4, 2) := by decide +kernel
theorem dX7_tells_42 : decode cX7_tells 42 = .ok (.iload 4, 2) := by decide +kernel
theorem dX7_tells_44 : decode cX7_tells 44 = .ok (.aload_n 0, 1) := by decide +kernel
theorem dX7_tells_45 : decode cX7_tells 45 = .ok (.getfield 19, 3) := by decide +kernel
theorem dX7_tells_48 : decode cX7_tells 48 = .ok (.getfield 105, 3) := by decide +kernel
theorem dX7_tells_51 : decode cX7_tells 51 = .ok (.if_icmp .ge 115, 3) := by decide +kernel
theorem dX7_tells_54 : decode cX7_tells 54 = .ok (.aload_n 0, 1) := by decide +kernel
theorem dX7_tells_55 : decode cX7_tells 55 = .ok (.getfield 65, 3) := by decide +kernel
theorem dX7_tells_58 : decode cX7_tells 58 = .ok (.getfield 215, 3) := by decide +kernel
theorem dX7_tells_61 : decode cX7_tells 61 = .ok (.ifCond .le 105, 3) := by decide +kernel
theorem dX7_tells_64 : decode cX7_tells 64 = .ok (.iconst 0, 1) := by decide +kernel
theorem dX7_tells_65 : decode cX7_tells 65 = .ok (.istore 5, 2) := by decide +kernel
theorem dX7_tells_67 : decode cX7_tells 67 = .ok (.iload 5, 2) := by decide +kernel
theorem dX7_tells_69 : decode cX7_tells 69 = .ok (.bipush 12, 2) := by decide +kernel
theorem dX7_tells_71 : decode cX7_tells 71 = .ok (.if_icmp .ge 89, 3) := by decide +kernel
theorem dX7_tells_74 : decode cX7_tells 74 = .ok (.aload_n 0, 1) := by decide +kernel
theorem dX7_tells_75 : decode cX7_tells 75 = .ok (.getfield 19, 3) := by decide +kernel
theorem dX7_tells_78 : decode cX7_tells 78 = .ok (.iload 5, 2) := by decide +kernel
theorem dX7_tells_80 : decode cX7_tells 80 = .ok (.invokevirtual 237, 3) := by decide +kernel
theorem dX7_tells_83 : decode cX7_tells 83 = .ok (.ifCond .eq 71, 3) := by decide +kernel
theorem dX7_tells_86 : decode cX7_tells 86 = .ok (.aload_n 0, 1) := by decide +kernel
theorem dX7_tells_87 : decode cX7_tells 87 = .ok (.getfield 51, 3) := by decide +kernel
theorem dX7_tells_90 : decode cX7_tells 90 = .ok (.iload 4, 2) := by decide +kernel
theorem dX7_tells_92 : decode cX7_tells 92 = .ok (.iload 5, 2) := by decide +kernel
theorem dX7_tells_94 : decode cX7_tells 94 = .ok (.invokevirtual 240, 3) := by decide +kernel
theorem dX7_tells_97 : decode cX7_tells 97 = .ok (.ifCond .ne 57, 3) := by decide +kernel
theorem dX7_tells_100 : decode cX7_tells 100 = .ok (.aload_n 0, 1) := by decide +kernel
theorem dX7_tells_101 : decode cX7_tells 101 = .ok (.getfield 65, 3) := by decide +kernel
theorem dX7_tells_104 : decode cX7_tells 104 = .ok (.aload_n 0, 1) := by decide +kernel
theorem dX7_tells_105 : decode cX7_tells 105 = .ok (.getfield 19, 3) := by decide +kernel
theorem dX7_tells_108 : decode cX7_tells 108 = .ok (.aload_n 0, 1) := by decide +kernel
theorem dX7_tells_109 : decode cX7_tells 109 = .ok (.getfield 29, 3) := by decide +kernel
theorem dX7_tells_112 : decode cX7_tells 112 = .ok (.getfield 153, 3) := by decide +kernel
theorem dX7_tells_115 : decode cX7_tells 115 = .ok (.iload 4, 2) := by decide +kernel
theorem dX7_tells_117 : decode cX7_tells 117 = .ok (.iload 5, 2) := by decide +kernel
theorem dX7_tells_119 : decode cX7_tells 119 = .ok (.invokevirtual 243, 3) := by decide +kernel
theorem dX7_tells_122 : decode cX7_tells 122 = .ok (.istore 6, 2) := by decide +kernel
theorem dX7_tells_124 : decode cX7_tells 124 = .ok (.iload 6, 2) := by decide +kernel
theorem dX7_tells_126 : decode cX7_tells 126 = .ok (.iload_n 3, 1) := by decide +kernel
theorem dX7_tells_127 : decode cX7_tells 127 = .ok (.if_icmp .ge 27, 3) := by decide +kernel
theorem dX7_tells_130 : decode cX7_tells 130 = .ok (.iload 6, 2) := by decide +kernel
theorem dX7_tells_132 : decode cX7_tells 132 = .ok (.istore_n 3, 1) := by decide +kernel
theorem dX7_tells_133 : decode cX7_tells 133 = .ok (.bipush 100, 2) := by decide +kernel
theorem dX7_tells_135 : decode cX7_tells 135 = .ok (.iload 4, 2) := by decide +kernel
theorem dX7_tells_137 : decode cX7_tells 137 = .ok (.imul, 1) := by decide +kernel
theorem dX7_tells_138 : decode cX7_tells 138 = .ok (.bipush 10, 2) := by decide +kernel
theorem dX7_tells_140 : decode cX7_tells 140 = .ok (.iload 5, 2) := by decide +kernel
theorem dX7_tells_142 : decode cX7_tells 142 = .ok (.invokestatic 247, 3) := by decide +kernel
theorem dX7_tells_145 : decode cX7_tells 145 = .ok (.imul, 1) := by decide +kernel
theorem dX7_tells_146 : decode cX7_tells 146 = .ok (.iadd, 1) := by decide +kernel
theorem dX7_tells_147 : decode cX7_tells 147 = .ok (.iload 5, 2) := by decide +kernel
theorem dX7_tells_149 : decode cX7_tells 149 = .ok (.invokestatic 250, 3) := by decide +kernel
theorem dX7_tells_152 : decode cX7_tells 152 = .ok (.iadd, 1) := by decide +kernel
theorem dX7_tells_153 : decode cX7_tells 153 = .ok (.istore_n 2, 1) := by decide +kernel
theorem dX7_tells_154 : decode cX7_tells 154 = .ok (.iinc 5 1, 3) := by decide +kernel
theorem dX7_tells_157 : decode cX7_tells 157 = .ok (.goto (-90), 3) := by decide +kernel
theorem dX7_tells_160 : decode cX7_tells 160 = .ok (.iinc 4 1, 3) := by decide +kernel
theorem dX7_tells_163 : decode cX7_tells 163 = .ok (.goto (-121), 3) := by decide +kernel
theorem dX7_tells_166 : decode cX7_tells 166 = .ok (.iload_n 1, 1) := by decide +kernel
theorem dX7_tells_167 : decode cX7_tells 167 = .ok (.ifCond .eq 9, 3) := by decide +kernel
theorem dX7_tells_170 : decode cX7_tells 170 = .ok (.iload_n 2, 1) := by decide +kernel
theorem dX7_tells_171 : decode cX7_tells 171 = .ok (.bipush (-4), 2) := by decide +kernel
theorem dX7_tells_173 : decode cX7_tells 173 = .ok (.if_icmp .ne 7, 3) := by decide +kernel
theorem dX7_tells_176 : decode cX7_tells 176 = .ok (.iload_n 2, 1) := by decide +kernel
theorem dX7_tells_177 : decode cX7_tells 177 = .ok (.goto 4, 3) := by decide +kernel
theorem dX7_tells_180 : decode cX7_tells 180 = .ok (.iload_n 3, 1) := by decide +kernel
theorem dX7_tells_181 : decode cX7_tells 181 = .ok (.ireturn, 1) := by decide +kernel
set_option maxRecDepth 20000 in
theorem ggX7_slips_X7_isPush : GoodIn wsX7_slips wsX7_isPush := goodIn_r _ [10, 5, 11, 12, 13, 9, 14, 86, 87, 88, 89, 90, 91, 92, 93, 94, 95, 96, 97, 98, 99, 100, 101, 102, 103, 104, 105, 106, 107] (by decide +kernel) (by decide +kernel)
set_option maxRecDepth 20000 in
theorem gX7_slips_X7_isPush : GoodIn wsX7_slips (wsV RX7 163 RX7 yX7_isPush wsX7_isPush) := goodIn_app (goodIn_of _ (by decide +kernel)) ggX7_slips_X7_isPush
set_option maxRecDepth 20000 in
theorem ggX7_slips_X7_within : GoodIn wsX7_slips wsX7_within := goodIn_r _ [14] (by decide +kernel) (by decide +kernel)
set_option maxRecDepth 20000 in
theorem gX7_slips_X7_within : GoodIn wsX7_slips (va_wsS RX7 101 yX7_within wsX7_within) := goodIn_app (goodIn_of _ (by decide +kernel)) ggX7_slips_X7_within
set_option maxRecDepth 20000 in
theorem ggX7_slips_X7_weighSlips : GoodIn wsX7_slips wsX7_weighSlips := goodIn_r _ [18, 3, 19, 20, 9, 21, 22, 23, 24, 86, 87, 88, 89, 90, 91, 92, 93, 94, 95, 96] (by decide +kernel) (by decide +kernel)
set_option maxRecDepth 20000 in
theorem gX7_slips_X7_weighSlips : GoodIn wsX7_slips (wsV RX7 253 RX7 yX7_weighSlips wsX7_weighSlips) := goodIn_app (goodIn_of _ (by decide +kernel)) ggX7_slips_X7_weighSlips
set_option maxRecDepth 20000 in
theorem ggX7_slips_X5_copy : GoodIn wsX7_slips wsX5_copy := goodIn_r _ [29, 30, 31, 32, 33, 34, 35, 36, 37, 9, 38, 108, 109, 110, 111, 112, 113, 114] (by decide +kernel) (by decide +kernel)
set_option maxRecDepth 20000 in
theorem gX7_slips_X5_copy : GoodIn wsX7_slips (wsV RX7 199 RX5 yX5_copy wsX5_copy) := goodIn_app (goodIn_of _ (by decide +kernel)) ggX7_slips_X5_copy
set_option maxRecDepth 20000 in
theorem ggX7_slips_X7_cell : GoodIn wsX7_slips wsX7_cell := goodIn_r _ [24] (by decide +kernel) (by decide +kernel)
set_option maxRecDepth 20000 in
theorem gX7_slips_X7_cell : GoodIn wsX7_slips (va_wsS RX7 124 yX7_cell wsX7_cell) := goodIn_app (goodIn_of _ (by decide +kernel)) ggX7_slips_X7_cell
set_option maxRecDepth 20000 in
theorem ggX7_slips_X0_allSo : GoodIn wsX7_slips wsX0_allSo := goodIn_r _ [43, 44, 45, 46, 47, 48, 23, 9, 24, 49, 50, 51, 28, 52, 53, 31, 30, 54, 33, 55, 56, 57, 58, 59, 60, 61, 62, 63, 64, 65, 66, 67, 115, 116, 117, 97, 98, 99, 100, 101, 102, 103, 104, 105, 106, 107, 108, 109, 110, 111, 112, 113, 114] (by decide +kernel) (by decide +kernel)
set_option maxRecDepth 20000 in
theorem gX7_slips_X0_allSo : GoodIn wsX7_slips (wsV RX7 257 RX0 yX0_allSo wsX0_allSo) := goodIn_app (goodIn_of _ (by decide +kernel)) ggX7_slips_X0_allSo
set_option maxRecDepth 20000 in
theorem ggX7_slips_X5_shove : GoodIn wsX7_slips wsX5_shove := goodIn_r _ [71, 30, 31, 72, 32, 73, 74, 75, 76, 23, 9, 24, 77, 78, 79, 80, 81, 82, 108, 109, 110, 111, 112, 113, 114, 97, 98, 99, 100, 101, 102, 103, 104, 105, 106, 107] (by decide +kernel) (by decide +kernel)
set_option maxRecDepth 20000 in
theorem gX7_slips_X5_shove : GoodIn wsX7_slips (wsV RX7 170 RX5 yX5_shove wsX5_shove) := goodIn_app (goodIn_of _ (by decide +kernel)) ggX7_slips_X5_shove
set_option maxRecDepth 20000 in
theorem ggX7_slips_X7_commonDivisor : GoodIn wsX7_slips wsX7_commonDivisor := goodIn_r _ [85] (by decide +kernel) (by decide +kernel)
set_option maxRecDepth 20000 in
theorem gX7_slips_X7_commonDivisor : GoodIn wsX7_slips (va_wsS RX7 261 yX7_commonDivisor wsX7_commonDivisor) := goodIn_app (goodIn_of _ (by decide +kernel)) ggX7_slips_X7_commonDivisor
theorem dX7_slips_0 : decode cX7_slips 0 = .ok (.aload_n 0, 1) := by decide +kernel
theorem dX7_slips_1 : decode cX7_slips 1 = .ok (.iload_n 1, 1) := by decide +kernel
theorem dX7_slips_2 : decode cX7_slips 2 = .ok (.iload_n 2, 1) := by decide +kernel
theorem dX7_slips_3 : decode cX7_slips 3 = .ok (.invokevirtual 163, 3) := by decide +kernel
theorem dX7_slips_6 : decode cX7_slips 6 = .ok (.ifCond .eq 34, 3) := by decide +kernel
theorem dX7_slips_9 : decode cX7_slips 9 = .ok (.iload_n 3, 1) := by decide +kernel
theorem dX7_slips_10 : decode cX7_slips 10 = .ok (.iconst 0, 1) := by decide +kernel
theorem dX7_slips_11 : decode cX7_slips 11 = .ok (.bipush 8, 2) := by decide +kernel
theorem dX7_slips_13 : decode cX7_slips 13 = .ok (.invokestatic 101, 3) := by decide +kernel
theorem dX7_slips_16 : decode cX7_slips 16 = .ok (.ifCond .eq 24, 3) := by decide +kernel
theorem dX7_slips_19 : decode cX7_slips 19 = .ok (.iload 4, 2) := by decide +kernel
theorem dX7_slips_21 : decode cX7_slips 21 = .ok (.iconst 0, 1) := by decide +kernel
theorem dX7_slips_22 : decode cX7_slips 22 = .ok (.bipush 10, 2) := by decide +kernel
theorem dX7_slips_24 : decode cX7_slips 24 = .ok (.invokestatic 101, 3) := by decide +kernel
theorem dX7_slips_27 : decode cX7_slips 27 = .ok (.ifCond .eq 13, 3) := by decide +kernel
theorem dX7_slips_30 : decode cX7_slips 30 = .ok (.iload 5, 2) := by decide +kernel
theorem dX7_slips_32 : decode cX7_slips 32 = .ok (.iconst 0, 1) := by decide +kernel
theorem dX7_slips_33 : decode cX7_slips 33 = .ok (.iconst 1, 1) := by decide +kernel
theorem dX7_slips_34 : decode cX7_slips 34 = .ok (.invokestatic 101, 3) := by decide +kernel
theorem dX7_slips_37 : decode cX7_slips 37 = .ok (.ifCond .ne 5, 3) := by decide +kernel
theorem dX7_slips_40 : decode cX7_slips 40 = .ok (.iconst (-1), 1) := by decide +kernel
theorem dX7_slips_41 : decode cX7_slips 41 = .ok (.ireturn, 1) := by decide +kernel
theorem dX7_slips_42 : decode cX7_slips 42 = .ok (.aload_n 0, 1) := by decide +kernel
theorem dX7_slips_43 : decode cX7_slips 43 = .ok (.iload_n 3, 1) := by decide +kernel
theorem dX7_slips_44 : decode cX7_slips 44 = .ok (.iload 4, 2) := by decide +kernel
theorem dX7_slips_46 : decode cX7_slips 46 = .ok (.invokevirtual 253, 3) := by decide +kernel
theorem dX7_slips_49 : decode cX7_slips 49 = .ok (.iconst 0, 1) := by decide +kernel
theorem dX7_slips_50 : decode cX7_slips 50 = .ok (.istore 6, 2) := by decide +kernel
theorem dX7_slips_52 : decode cX7_slips 52 = .ok (.iconst 0, 1) := by decide +kernel
theorem dX7_slips_53 : decode cX7_slips 53 = .ok (.istore 7, 2) := by decide +kernel
theorem dX7_slips_55 : decode cX7_slips 55 = .ok (.aload_n 0, 1) := by decide +kernel
theorem dX7_slips_56 : decode cX7_slips 56 = .ok (.getfield 33, 3) := by decide +kernel
theorem dX7_slips_59 : decode cX7_slips 59 = .ok (.aload_n 0, 1) := by decide +kernel
theorem dX7_slips_60 : decode cX7_slips 60 = .ok (.getfield 29, 3) := by decide +kernel
theorem dX7_slips_63 : decode cX7_slips 63 = .ok (.invokevirtual 199, 3) := by decide +kernel
theorem dX7_slips_66 : decode cX7_slips 66 = .ok (.iconst 0, 1) := by decide +kernel
theorem dX7_slips_67 : decode cX7_slips 67 = .ok (.istore 8, 2) := by decide +kernel
theorem dX7_slips_69 : decode cX7_slips 69 = .ok (.iload 8, 2) := by decide +kernel
theorem dX7_slips_71 : decode cX7_slips 71 = .ok (.iload_n 3, 1) := by decide +kernel
theorem dX7_slips_72 : decode cX7_slips 72 = .ok (.if_icmp .gt 65, 3) := by decide +kernel
theorem dX7_slips_75 : decode cX7_slips 75 = .ok (.aload_n 0, 1) := by decide +kernel
theorem dX7_slips_76 : decode cX7_slips 76 = .ok (.getfield 69, 3) := by decide +kernel
theorem dX7_slips_79 : decode cX7_slips 79 = .ok (.iload 8, 2) := by decide +kernel
theorem dX7_slips_81 : decode cX7_slips 81 = .ok (.invokestatic 124, 3) := by decide +kernel
theorem dX7_slips_84 : decode cX7_slips 84 = .ok (.istore 9, 2) := by decide +kernel
theorem dX7_slips_86 : decode cX7_slips 86 = .ok (.iload 7, 2) := by decide +kernel
theorem dX7_slips_88 : decode cX7_slips 88 = .ok (.iload 9, 2) := by decide +kernel
theorem dX7_slips_90 : decode cX7_slips 90 = .ok (.iadd, 1) := by decide +kernel
theorem dX7_slips_91 : decode cX7_slips 91 = .ok (.istore 7, 2) := by decide +kernel
theorem dX7_slips_93 : decode cX7_slips 93 = .ok (.aload_n 0, 1) := by decide +kernel
theorem dX7_slips_94 : decode cX7_slips 94 = .ok (.getfield 51, 3) := by decide +kernel
theorem dX7_slips_97 : decode cX7_slips 97 = .ok (.aload_n 0, 1) := by decide +kernel
theorem dX7_slips_98 : decode cX7_slips 98 = .ok (.getfield 19, 3) := by decide +kernel
theorem dX7_slips_101 : decode cX7_slips 101 = .ok (.aload_n 0, 1) := by decide +kernel
theorem dX7_slips_102 : decode cX7_slips 102 = .ok (.getfield 33, 3) := by decide +kernel
theorem dX7_slips_105 : decode cX7_slips 105 = .ok (.invokevirtual 257, 3) := by decide +kernel
theorem dX7_slips_108 : decode cX7_slips 108 = .ok (.ifCond .eq 10, 3) := by decide +kernel
theorem dX7_slips_111 : decode cX7_slips 111 = .ok (.iload 6, 2) := by decide +kernel
theorem dX7_slips_113 : decode cX7_slips 113 = .ok (.iload 9, 2) := by decide +kernel
theorem dX7_slips_115 : decode cX7_slips 115 = .ok (.iadd, 1) := by decide +kernel
theorem dX7_slips_116 : decode cX7_slips 116 = .ok (.istore 6, 2) := by decide +kernel
theorem dX7_slips_118 : decode cX7_slips 118 = .ok (.aload_n 0, 1) := by decide +kernel
theorem dX7_slips_119 : decode cX7_slips 119 = .ok (.getfield 33, 3) := by decide +kernel
theorem dX7_slips_122 : decode cX7_slips 122 = .ok (.aload_n 0, 1) := by decide +kernel
theorem dX7_slips_123 : decode cX7_slips 123 = .ok (.getfield 19, 3) := by decide +kernel
theorem dX7_slips_126 : decode cX7_slips 126 = .ok (.iload_n 1, 1) := by decide +kernel
theorem dX7_slips_127 : decode cX7_slips 127 = .ok (.iload_n 2, 1) := by decide +kernel
theorem dX7_slips_128 : decode cX7_slips 128 = .ok (.invokevirtual 170, 3) := by decide +kernel
theorem dX7_slips_131 : decode cX7_slips 131 = .ok (.iinc 8 1, 3) := by decide +kernel
theorem dX7_slips_134 : decode cX7_slips 134 = .ok (.goto (-65), 3) := by decide +kernel
theorem dX7_slips_137 : decode cX7_slips 137 = .ok (.iload 6, 2) := by decide +kernel
theorem dX7_slips_139 : decode cX7_slips 139 = .ok (.iload 7, 2) := by decide +kernel
theorem dX7_slips_141 : decode cX7_slips 141 = .ok (.invokestatic 261, 3) := by decide +kernel
theorem dX7_slips_144 : decode cX7_slips 144 = .ok (.istore 8, 2) := by decide +kernel
theorem dX7_slips_146 : decode cX7_slips 146 = .ok (.iload 8, 2) := by decide +kernel
theorem dX7_slips_148 : decode cX7_slips 148 = .ok (.ifCond .gt 5, 3) := by decide +kernel
theorem dX7_slips_151 : decode cX7_slips 151 = .ok (.iconst (-1), 1) := by decide +kernel
theorem dX7_slips_152 : decode cX7_slips 152 = .ok (.ireturn, 1) := by decide +kernel
theorem dX7_slips_153 : decode cX7_slips 153 = .ok (.iload 5, 2) := by decide +kernel
theorem dX7_slips_155 : decode cX7_slips 155 = .ok (.ifCond .ne 11, 3) := by decide +kernel
theorem dX7_slips_158 : decode cX7_slips 158 = .ok (.iload 6, 2) := by decide +kernel
theorem dX7_slips_160 : decode cX7_slips 160 = .ok (.iload 8, 2) := by decide +kernel
theorem dX7_slips_162 : decode cX7_slips 162 = .ok (.idiv, 1) := by decide +kernel
theorem dX7_slips_163 : decode cX7_slips 163 = .ok (.goto 8, 3) := by decide +kernel
theorem dX7_slips_166 : decode cX7_slips 166 = .ok (.iload 7, 2) := by decide +kernel
theorem dX7_slips_168 : decode cX7_slips 168 = .ok (.iload 8, 2) := by decide +kernel
theorem dX7_slips_170 : decode cX7_slips 170 = .ok (.idiv, 1) := by decide +kernel
theorem dX7_slips_171 : decode cX7_slips 171 = .ok (.ireturn, 1) := by decide +kernel
set_option maxRecDepth 20000 in
theorem ggX7_century_X7_within : GoodIn wsX7_century wsX7_within := goodIn_r _ [8] (by decide +kernel) (by decide +kernel)
set_option maxRecDepth 20000 in
theorem gX7_century_X7_within : GoodIn wsX7_century (va_wsS RX7 101 yX7_within wsX7_within) := goodIn_app (goodIn_of _ (by decide +kernel)) ggX7_century_X7_within
set_option maxRecDepth 20000 in
theorem ggX7_century_X5_copy : GoodIn wsX7_century wsX5_copy := goodIn_r _ [13, 14, 15, 16, 17, 18, 19, 20, 21, 7, 22, 128, 129, 130, 131, 132, 133, 134] (by decide +kernel) (by decide +kernel)
set_option maxRecDepth 20000 in
theorem gX7_century_X5_copy : GoodIn wsX7_century (wsV RX7 199 RX5 yX5_copy wsX5_copy) := goodIn_app (goodIn_of _ (by decide +kernel)) ggX7_century_X5_copy
set_option maxRecDepth 20000 in
theorem ggX7_century_X7_drawOf : GoodIn wsX7_century wsX7_drawOf := goodIn_r _ [25, 26, 27, 28] (by decide +kernel) (by decide +kernel)
set_option maxRecDepth 20000 in
theorem gX7_century_X7_drawOf : GoodIn wsX7_century (va_wsS RX7 264 yX7_drawOf wsX7_drawOf) := goodIn_app (goodIn_of _ (by decide +kernel)) ggX7_century_X7_drawOf
set_option maxRecDepth 20000 in
theorem ggX7_century_X7_actByDraw : GoodIn wsX7_century wsX7_actByDraw := goodIn_r _ [32, 3, 33, 1, 34, 4, 35, 36, 37, 38, 12, 39, 14, 15, 40, 16, 41, 42, 43, 44, 45, 7, 46, 47, 48, 49, 50, 51, 52, 53, 54, 55, 56, 57, 58, 59, 60, 61, 62, 18, 63, 64, 65, 66, 67, 68, 69, 70, 71, 72, 73, 74, 75, 76, 77, 17, 78, 79, 80, 81, 82, 83, 84, 85, 86, 87, 88, 89, 90, 91, 92, 93, 94, 95, 96, 97, 98, 99, 100, 101, 102, 19, 20, 103, 104, 105, 117, 118, 119, 120, 121, 122, 123, 124, 125, 126, 127, 135, 136, 137, 138, 139, 140, 141, 142, 143, 144, 145, 128, 129, 130, 131, 132, 133, 134] (by decide +kernel) (by decide +kernel)
set_option maxRecDepth 20000 in
theorem gX7_century_X7_actByDraw : GoodIn wsX7_century (wsV RX7 267 RX7 yX7_actByDraw wsX7_actByDraw) := goodIn_app (goodIn_of _ (by decide +kernel)) ggX7_century_X7_actByDraw
set_option maxRecDepth 20000 in
theorem ggX7_century_X5_allGoods : GoodIn wsX7_century wsX5_allGoods := goodIn_r _ [109, 71, 19, 45, 7, 46, 135, 136, 137, 138, 139, 140, 141, 142, 143, 144, 145, 128, 129, 130, 131, 132, 133, 134] (by decide +kernel) (by decide +kernel)
set_option maxRecDepth 20000 in
theorem gX7_century_X5_allGoods : GoodIn wsX7_century (wsV RX7 233 RX5 yX5_allGoods wsX5_allGoods) := goodIn_app (goodIn_of _ (by decide +kernel)) ggX7_century_X5_allGoods
set_option maxRecDepth 20000 in
theorem ggX7_century_J6_bitCount_0f7a4 : GoodIn wsX7_century wsJ6_bitCount_0f7a4 := goodIn_r _ [113, 114, 115, 116] (by decide +kernel) (by decide +kernel)
set_option maxRecDepth 20000 in
theorem gX7_century_J6_bitCount_0f7a4 : GoodIn wsX7_century (va_wsS RX7 187 yJ6_bitCount_0f7a4 wsJ6_bitCount_0f7a4) := goodIn_app (goodIn_of _ (by decide +kernel)) ggX7_century_J6_bitCount_0f7a4
theorem dX7_century_0 : decode cX7_century 0 = .ok (.iload_n 1, 1) := by decide +kernel
theorem dX7_century_1 : decode cX7_century 1 = .ok (.iconst 0, 1) := by decide +kernel
theorem dX7_century_2 : decode cX7_century 2 = .ok (.sipush 9999, 3) := by decide +kernel
theorem dX7_century_5 : decode cX7_century 5 = .ok (.invokestatic 101, 3) := by decide +kernel
theorem dX7_century_8 : decode cX7_century 8 = .ok (.ifCond .eq 22, 3) := by decide +kernel
theorem dX7_century_11 : decode cX7_century 11 = .ok (.iload_n 2, 1) := by decide +kernel
theorem dX7_century_12 : decode cX7_century 12 = .ok (.iconst 1, 1) := by decide +kernel
theorem dX7_century_13 : decode cX7_century 13 = .ok (.bipush 60, 2) := by decide +kernel
theorem dX7_century_15 : decode cX7_century 15 = .ok (.invokestatic 101, 3) := by decide +kernel
theorem dX7_century_18 : decode cX7_century 18 = .ok (.ifCond .eq 12, 3) := by decide +kernel
theorem dX7_century_21 : decode cX7_century 21 = .ok (.iload_n 3, 1) := by decide +kernel
theorem dX7_century_22 : decode cX7_century 22 = .ok (.iconst 0, 1) := by decide +kernel
theorem dX7_century_23 : decode cX7_century 23 = .ok (.iconst 1, 1) := by decide +kernel
theorem dX7_century_24 : decode cX7_century 24 = .ok (.invokestatic 101, 3) := by decide +kernel
theorem dX7_century_27 : decode cX7_century 27 = .ok (.ifCond .ne 5, 3) := by decide +kernel
theorem dX7_century_30 : decode cX7_century 30 = .ok (.iconst (-1), 1) := by decide +kernel
theorem dX7_century_31 : decode cX7_century 31 = .ok (.ireturn, 1) := by decide +kernel
theorem dX7_century_32 : decode cX7_century 32 = .ok (.aload_n 0, 1) := by decide +kernel
theorem dX7_century_33 : decode cX7_century 33 = .ok (.getfield 33, 3) := by decide +kernel
theorem dX7_century_36 : decode cX7_century 36 = .ok (.aload_n 0, 1) := by decide +kernel
theorem dX7_century_37 : decode cX7_century 37 = .ok (.getfield 29, 3) := by decide +kernel
theorem dX7_century_40 : decode cX7_century 40 = .ok (.invokevirtual 199, 3) := by decide +kernel
theorem dX7_century_43 : decode cX7_century 43 = .ok (.iconst 0, 1) := by decide +kernel
theorem dX7_century_44 : decode cX7_century 44 = .ok (.istore 4, 2) := by decide +kernel
theorem dX7_century_46 : decode cX7_century 46 = .ok (.iload 4, 2) := by decide +kernel
theorem dX7_century_48 : decode cX7_century 48 = .ok (.iload_n 2, 1) := by decide +kernel
theorem dX7_century_49 : decode cX7_century 49 = .ok (.if_icmp .ge 19, 3) := by decide +kernel
theorem dX7_century_52 : decode cX7_century 52 = .ok (.aload_n 0, 1) := by decide +kernel
theorem dX7_century_53 : decode cX7_century 53 = .ok (.iload_n 1, 1) := by decide +kernel
theorem dX7_century_54 : decode cX7_century 54 = .ok (.iload 4, 2) := by decide +kernel
theorem dX7_century_56 : decode cX7_century 56 = .ok (.invokestatic 264, 3) := by decide +kernel
theorem dX7_century_59 : decode cX7_century 59 = .ok (.invokevirtual 267, 3) := by decide +kernel
theorem dX7_century_62 : decode cX7_century 62 = .ok (.iinc 4 1, 3) := by decide +kernel
theorem dX7_century_65 : decode cX7_century 65 = .ok (.goto (-19), 3) := by decide +kernel
theorem dX7_century_68 : decode cX7_century 68 = .ok (.iload_n 3, 1) := by decide +kernel
theorem dX7_century_69 : decode cX7_century 69 = .ok (.ifCond .ne 17, 3) := by decide +kernel
theorem dX7_century_72 : decode cX7_century 72 = .ok (.aload_n 0, 1) := by decide +kernel
theorem dX7_century_73 : decode cX7_century 73 = .ok (.getfield 33, 3) := by decide +kernel
theorem dX7_century_76 : decode cX7_century 76 = .ok (.aload_n 0, 1) := by decide +kernel
theorem dX7_century_77 : decode cX7_century 77 = .ok (.getfield 19, 3) := by decide +kernel
theorem dX7_century_80 : decode cX7_century 80 = .ok (.invokevirtual 233, 3) := by decide +kernel
theorem dX7_century_83 : decode cX7_century 83 = .ok (.goto 13, 3) := by decide +kernel
theorem dX7_century_86 : decode cX7_century 86 = .ok (.aload_n 0, 1) := by decide +kernel
theorem dX7_century_87 : decode cX7_century 87 = .ok (.getfield 33, 3) := by decide +kernel
theorem dX7_century_90 : decode cX7_century 90 = .ok (.getfield 131, 3) := by decide +kernel
theorem dX7_century_93 : decode cX7_century 93 = .ok (.invokestatic 187, 3) := by decide +kernel
theorem dX7_century_96 : decode cX7_century 96 = .ok (.ireturn, 1) := by decide +kernel
set_option maxRecDepth 20000 in
theorem ggX7_keep_X3_isFull : GoodIn wsX7_keep wsX3_isFull := goodIn_r _ [8, 9, 10, 50, 51] (by decide +kernel) (by decide +kernel)
set_option maxRecDepth 20000 in
theorem gX7_keep_X3_isFull : GoodIn wsX7_keep (wsV RX7 270 RX3 yX3_isFull wsX3_isFull) := goodIn_app (goodIn_of _ (by decide +kernel)) ggX7_keep_X3_isFull
set_option maxRecDepth 20000 in
theorem ggX7_keep_X3_put : GoodIn wsX7_keep wsX3_put := goodIn_r _ [14, 9, 15, 5, 6, 7, 8, 10, 16, 17, 18, 19, 20, 21, 22, 23, 24, 25, 26, 27, 28, 29, 30, 31, 32, 33, 34, 35, 36, 37, 38, 50, 51, 52, 53, 54, 55, 56, 57, 58] (by decide +kernel) (by decide +kernel)
set_option maxRecDepth 20000 in
theorem gX7_keep_X3_put : GoodIn wsX7_keep (wsV RX7 166 RX3 yX3_put wsX3_put) := goodIn_app (goodIn_of _ (by decide +kernel)) ggX7_keep_X3_put
theorem dX7_keep_0 : decode cX7_keep 0 = .ok (.aload_n 0, 1) := by decide +kernel
theorem dX7_keep_1 : decode cX7_keep 1 = .ok (.getfield 45, 3) := by decide +kernel
theorem dX7_keep_4 : decode cX7_keep 4 = .ok (.invokevirtual 270, 3) := by decide +kernel
theorem dX7_keep_7 : decode cX7_keep 7 = .ok (.ifCond .eq 6, 3) := by decide +kernel
theorem dX7_keep_10 : decode cX7_keep 10 = .ok (.bipush (-3), 2) := by decide +kernel
theorem dX7_keep_12 : decode cX7_keep 12 = .ok (.ireturn, 1) := by decide +kernel
theorem dX7_keep_13 : decode cX7_keep 13 = .ok (.aload_n 0, 1) := by decide +kernel
theorem dX7_keep_14 : decode cX7_keep 14 = .ok (.getfield 45, 3) := by decide +kernel
theorem dX7_keep_17 : decode cX7_keep 17 = .ok (.aload_n 0, 1) := by decide +kernel
theorem dX7_keep_18 : decode cX7_keep 18 = .ok (.getfield 29, 3) := by decide +kernel
theorem dX7_keep_21 : decode cX7_keep 21 = .ok (.invokevirtual 166, 3) := by decide +kernel
theorem dX7_keep_24 : decode cX7_keep 24 = .ok (.aload_n 0, 1) := by decide +kernel
theorem dX7_keep_25 : decode cX7_keep 25 = .ok (.getfield 45, 3) := by decide +kernel
theorem dX7_keep_28 : decode cX7_keep 28 = .ok (.getfield 111, 3) := by decide +kernel
theorem dX7_keep_31 : decode cX7_keep 31 = .ok (.ireturn, 1) := by decide +kernel
set_option maxRecDepth 20000 in
theorem ggX7_back_X3_takeInto : GoodIn wsX7_back wsX3_takeInto := goodIn_r _ [9, 10, 11, 12, 13, 8, 14, 15, 16, 17, 18, 19, 20, 21, 22, 23, 24, 25, 26, 27, 28, 29, 30, 42, 43, 44, 45, 46, 47, 48, 49, 50] (by decide +kernel) (by decide +kernel)
set_option maxRecDepth 20000 in
theorem gX7_back_X3_takeInto : GoodIn wsX7_back (wsV RX7 192 RX3 yX3_takeInto wsX3_takeInto) := goodIn_app (goodIn_of _ (by decide +kernel)) ggX7_back_X3_takeInto
theorem dX7_back_0 : decode cX7_back 0 = .ok (.aload_n 0, 1) := by decide +kernel
theorem dX7_back_1 : decode cX7_back 1 = .ok (.getfield 45, 3) := by decide +kernel
theorem dX7_back_4 : decode cX7_back 4 = .ok (.aload_n 0, 1) := by decide +kernel
theorem dX7_back_5 : decode cX7_back 5 = .ok (.getfield 29, 3) := by decide +kernel
theorem dX7_back_8 : decode cX7_back 8 = .ok (.invokevirtual 192, 3) := by decide +kernel
theorem dX7_back_11 : decode cX7_back 11 = .ok (.ifCond .ne 6, 3) := by decide +kernel
theorem dX7_back_14 : decode cX7_back 14 = .ok (.bipush (-2), 2) := by decide +kernel
theorem dX7_back_16 : decode cX7_back 16 = .ok (.ireturn, 1) := by decide +kernel
theorem dX7_back_17 : decode cX7_back 17 = .ok (.aload_n 0, 1) := by decide +kernel
theorem dX7_back_18 : decode cX7_back 18 = .ok (.getfield 41, 3) := by decide +kernel
theorem dX7_back_21 : decode cX7_back 21 = .ok (.iconst 0, 1) := by decide +kernel
theorem dX7_back_22 : decode cX7_back 22 = .ok (.putfield 111, 3) := by decide +kernel
theorem dX7_back_25 : decode cX7_back 25 = .ok (.aload_n 0, 1) := by decide +kernel
theorem dX7_back_26 : decode cX7_back 26 = .ok (.getfield 45, 3) := by decide +kernel
theorem dX7_back_29 : decode cX7_back 29 = .ok (.getfield 111, 3) := by decide +kernel
theorem dX7_back_32 : decode cX7_back 32 = .ok (.ireturn, 1) := by decide +kernel
set_option maxRecDepth 20000 in
theorem ggX7_count_X7_cell : GoodIn wsX7_count wsX7_cell := goodIn_r _ [15] (by decide +kernel) (by decide +kernel)
set_option maxRecDepth 20000 in
theorem gX7_count_X7_cell : GoodIn wsX7_count (va_wsS RX7 124 yX7_cell wsX7_cell) := goodIn_app (goodIn_of _ (by decide +kernel)) ggX7_count_X7_cell
set_option maxRecDepth 20000 in
theorem ggX7_count_X7_countNow : GoodIn wsX7_count wsX7_countNow := goodIn_r _ [19, 20, 21, 22, 23, 24, 25, 1, 26, 27, 28, 29, 30, 31, 32, 33, 34, 35, 36, 37, 38, 39, 40, 41, 42, 43, 44, 13, 14, 15, 45, 46, 47, 48, 49, 50, 51, 52, 53, 54, 55, 56, 57, 58, 59, 60, 61, 62, 63, 64, 65, 66, 67, 68, 69, 70, 71, 72, 73, 74, 75, 76, 77, 96, 97, 98, 99, 100, 101, 102, 78, 79, 80, 81, 82, 83, 84, 85, 86, 87, 88] (by decide +kernel) (by decide +kernel)
set_option maxRecDepth 20000 in
theorem gX7_count_X7_countNow : GoodIn wsX7_count (wsV RX7 277 RX7 yX7_countNow wsX7_countNow) := goodIn_app (goodIn_of _ (by decide +kernel)) ggX7_count_X7_countNow
theorem dX7_count_0 : decode cX7_count 0 = .ok (.iload_n 1, 1) := by decide +kernel
theorem dX7_count_1 : decode cX7_count 1 = .ok (.tableswitch 143 0 13 #[71, 83, 95, 103, 143, 143, 143, 143, 143, 143, 111, 119, 127, 135], 71) := by decide +kernel
theorem dX7_count_72 : decode cX7_count 72 = .ok (.aload_n 0, 1) := by decide +kernel
theorem dX7_count_73 : decode cX7_count 73 = .ok (.getfield 19, 3) := by decide +kernel
theorem dX7_count_76 : decode cX7_count 76 = .ok (.getfield 274, 3) := by decide +kernel
theorem dX7_count_79 : decode cX7_count 79 = .ok (.iconst 0, 1) := by decide +kernel
theorem dX7_count_80 : decode cX7_count 80 = .ok (.invokestatic 124, 3) := by decide +kernel
theorem dX7_count_83 : decode cX7_count 83 = .ok (.ireturn, 1) := by decide +kernel
theorem dX7_count_84 : decode cX7_count 84 = .ok (.aload_n 0, 1) := by decide +kernel
theorem dX7_count_85 : decode cX7_count 85 = .ok (.getfield 19, 3) := by decide +kernel
theorem dX7_count_88 : decode cX7_count 88 = .ok (.getfield 274, 3) := by decide +kernel
theorem dX7_count_91 : decode cX7_count 91 = .ok (.iconst 1, 1) := by decide +kernel
theorem dX7_count_92 : decode cX7_count 92 = .ok (.invokestatic 124, 3) := by decide +kernel
theorem dX7_count_95 : decode cX7_count 95 = .ok (.ireturn, 1) := by decide +kernel
theorem dX7_count_96 : decode cX7_count 96 = .ok (.aload_n 0, 1) := by decide +kernel
theorem dX7_count_97 : decode cX7_count 97 = .ok (.getfield 19, 3) := by decide +kernel
theorem dX7_count_100 : decode cX7_count 100 = .ok (.getfield 105, 3) := by decide +kernel
theorem dX7_count_103 : decode cX7_count 103 = .ok (.ireturn, 1) := by decide +kernel
theorem dX7_count_104 : decode cX7_count 104 = .ok (.aload_n 0, 1) := by decide +kernel
theorem dX7_count_105 : decode cX7_count 105 = .ok (.getfield 19, 3) := by decide +kernel
theorem dX7_count_108 : decode cX7_count 108 = .ok (.getfield 108, 3) := by decide +kernel
theorem dX7_count_111 : decode cX7_count 111 = .ok (.ireturn, 1) := by decide +kernel
theorem dX7_count_112 : decode cX7_count 112 = .ok (.aload_n 0, 1) := by decide +kernel
theorem dX7_count_113 : decode cX7_count 113 = .ok (.getfield 51, 3) := by decide +kernel
theorem dX7_count_116 : decode cX7_count 116 = .ok (.getfield 112, 3) := by decide +kernel
theorem dX7_count_119 : decode cX7_count 119 = .ok (.ireturn, 1) := by decide +kernel
theorem dX7_count_120 : decode cX7_count 120 = .ok (.aload_n 0, 1) := by decide +kernel
theorem dX7_count_121 : decode cX7_count 121 = .ok (.getfield 41, 3) := by decide +kernel
theorem dX7_count_124 : decode cX7_count 124 = .ok (.getfield 111, 3) := by decide +kernel
theorem dX7_count_127 : decode cX7_count 127 = .ok (.ireturn, 1) := by decide +kernel
theorem dX7_count_128 : decode cX7_count 128 = .ok (.aload_n 0, 1) := by decide +kernel
theorem dX7_count_129 : decode cX7_count 129 = .ok (.getfield 45, 3) := by decide +kernel
theorem dX7_count_132 : decode cX7_count 132 = .ok (.getfield 111, 3) := by decide +kernel
theorem dX7_count_135 : decode cX7_count 135 = .ok (.ireturn, 1) := by decide +kernel
theorem dX7_count_136 : decode cX7_count 136 = .ok (.aload_n 0, 1) := by decide +kernel
theorem dX7_count_137 : decode cX7_count 137 = .ok (.getfield 12, 3) := by decide +kernel
theorem dX7_count_140 : decode cX7_count 140 = .ok (.getfield 93, 3) := by decide +kernel
theorem dX7_count_143 : decode cX7_count 143 = .ok (.ireturn, 1) := by decide +kernel
theorem dX7_count_144 : decode cX7_count 144 = .ok (.aload_n 0, 1) := by decide +kernel
theorem dX7_count_145 : decode cX7_count 145 = .ok (.iload_n 1, 1) := by decide +kernel
theorem dX7_count_146 : decode cX7_count 146 = .ok (.invokevirtual 277, 3) := by decide +kernel
theorem dX7_count_149 : decode cX7_count 149 = .ok (.ireturn, 1) := by decide +kernel
set_option maxRecDepth 20000 in
theorem ggX7_countNow_J6_bitCount_0f7a4 : GoodIn wsX7_countNow wsJ6_bitCount_0f7a4 := goodIn_r _ [11, 12, 13, 14] (by decide +kernel) (by decide +kernel)
set_option maxRecDepth 20000 in
theorem gX7_countNow_J6_bitCount_0f7a4 : GoodIn wsX7_countNow (va_wsS RX7 187 yJ6_bitCount_0f7a4 wsJ6_bitCount_0f7a4) := goodIn_app (goodIn_of _ (by decide +kernel)) ggX7_countNow_J6_bitCount_0f7a4
set_option maxRecDepth 20000 in
theorem ggX7_countNow_X5_allPairs : GoodIn wsX7_countNow wsX5_allPairs := goodIn_r _ [19, 20, 21, 22, 23, 18, 24, 25, 26, 27, 28, 29, 30, 31, 32, 33, 34, 35, 36, 37, 38, 39, 40, 41, 42, 43, 44, 45, 46, 47, 48, 49, 50, 51, 9, 10, 11, 12, 13, 14, 70, 71, 72, 73, 74, 75, 76, 77, 78, 79, 80, 63, 64, 65, 66, 67, 68, 69] (by decide +kernel) (by decide +kernel)
set_option maxRecDepth 20000 in
theorem gX7_countNow_X5_allPairs : GoodIn wsX7_countNow (wsV RX7 283 RX5 yX5_allPairs wsX5_allPairs) := goodIn_app (goodIn_of _ (by decide +kernel)) ggX7_countNow_X5_allPairs
theorem dX7_countNow_0 : decode cX7_countNow 0 = .ok (.iload_n 1, 1) := by decide +kernel
theorem dX7_countNow_1 : decode cX7_countNow 1 = .ok (.tableswitch 100 4 9 #[39, 47, 58, 69, 77, 88], 39) := by decide +kernel
theorem dX7_countNow_40 : decode cX7_countNow 40 = .ok (.aload_n 0, 1) := by decide +kernel
theorem dX7_countNow_41 : decode cX7_countNow 41 = .ok (.getfield 29, 3) := by decide +kernel
theorem dX7_countNow_44 : decode cX7_countNow 44 = .ok (.getfield 153, 3) := by decide +kernel
theorem dX7_countNow_47 : decode cX7_countNow 47 = .ok (.ireturn, 1) := by decide +kernel
theorem dX7_countNow_48 : decode cX7_countNow 48 = .ok (.aload_n 0, 1) := by decide +kernel
theorem dX7_countNow_49 : decode cX7_countNow 49 = .ok (.getfield 29, 3) := by decide +kernel
theorem dX7_countNow_52 : decode cX7_countNow 52 = .ok (.getfield 174, 3) := by decide +kernel
theorem dX7_countNow_55 : decode cX7_countNow 55 = .ok (.bipush 40, 2) := by decide +kernel
theorem dX7_countNow_57 : decode cX7_countNow 57 = .ok (.iadd, 1) := by decide +kernel
theorem dX7_countNow_58 : decode cX7_countNow 58 = .ok (.ireturn, 1) := by decide +kernel
theorem dX7_countNow_59 : decode cX7_countNow 59 = .ok (.aload_n 0, 1) := by decide +kernel
theorem dX7_countNow_60 : decode cX7_countNow 60 = .ok (.getfield 29, 3) := by decide +kernel
theorem dX7_countNow_63 : decode cX7_countNow 63 = .ok (.getfield 280, 3) := by decide +kernel
theorem dX7_countNow_66 : decode cX7_countNow 66 = .ok (.bipush 40, 2) := by decide +kernel
theorem dX7_countNow_68 : decode cX7_countNow 68 = .ok (.iadd, 1) := by decide +kernel
theorem dX7_countNow_69 : decode cX7_countNow 69 = .ok (.ireturn, 1) := by decide +kernel
theorem dX7_countNow_70 : decode cX7_countNow 70 = .ok (.aload_n 0, 1) := by decide +kernel
theorem dX7_countNow_71 : decode cX7_countNow 71 = .ok (.getfield 29, 3) := by decide +kernel
theorem dX7_countNow_74 : decode cX7_countNow 74 = .ok (.getfield 177, 3) := by decide +kernel
theorem dX7_countNow_77 : decode cX7_countNow 77 = .ok (.ireturn, 1) := by decide +kernel
theorem dX7_countNow_78 : decode cX7_countNow 78 = .ok (.aload_n 0, 1) := by decide +kernel
theorem dX7_countNow_79 : decode cX7_countNow 79 = .ok (.getfield 29, 3) := by decide +kernel
theorem dX7_countNow_82 : decode cX7_countNow 82 = .ok (.getfield 131, 3) := by decide +kernel
theorem dX7_countNow_85 : decode cX7_countNow 85 = .ok (.invokestatic 187, 3) := by decide +kernel
theorem dX7_countNow_88 : decode cX7_countNow 88 = .ok (.ireturn, 1) := by decide +kernel
theorem dX7_countNow_89 : decode cX7_countNow 89 = .ok (.aload_n 0, 1) := by decide +kernel
theorem dX7_countNow_90 : decode cX7_countNow 90 = .ok (.getfield 29, 3) := by decide +kernel
theorem dX7_countNow_93 : decode cX7_countNow 93 = .ok (.aload_n 0, 1) := by decide +kernel
theorem dX7_countNow_94 : decode cX7_countNow 94 = .ok (.getfield 19, 3) := by decide +kernel
theorem dX7_countNow_97 : decode cX7_countNow 97 = .ok (.invokevirtual 283, 3) := by decide +kernel
theorem dX7_countNow_100 : decode cX7_countNow 100 = .ok (.ireturn, 1) := by decide +kernel
theorem dX7_countNow_101 : decode cX7_countNow 101 = .ok (.iconst (-1), 1) := by decide +kernel
theorem dX7_countNow_102 : decode cX7_countNow 102 = .ok (.ireturn, 1) := by decide +kernel
set_option maxRecDepth 20000 in
theorem ggX7_isPush_X7_within : GoodIn wsX7_isPush wsX7_within := goodIn_r _ [6] (by decide +kernel) (by decide +kernel)
set_option maxRecDepth 20000 in
theorem gX7_isPush_X7_within : GoodIn wsX7_isPush (va_wsS RX7 101 yX7_within wsX7_within) := goodIn_app (goodIn_of _ (by decide +kernel)) ggX7_isPush_X7_within
theorem dX7_isPush_0 : decode cX7_isPush 0 = .ok (.iload_n 1, 1) := by decide +kernel
theorem dX7_isPush_1 : decode cX7_isPush 1 = .ok (.iconst 0, 1) := by decide +kernel
theorem dX7_isPush_2 : decode cX7_isPush 2 = .ok (.aload_n 0, 1) := by decide +kernel
theorem dX7_isPush_3 : decode cX7_isPush 3 = .ok (.getfield 19, 3) := by decide +kernel
theorem dX7_isPush_6 : decode cX7_isPush 6 = .ok (.getfield 108, 3) := by decide +kernel
theorem dX7_isPush_9 : decode cX7_isPush 9 = .ok (.iconst 1, 1) := by decide +kernel
theorem dX7_isPush_10 : decode cX7_isPush 10 = .ok (.isub, 1) := by decide +kernel
theorem dX7_isPush_11 : decode cX7_isPush 11 = .ok (.invokestatic 101, 3) := by decide +kernel
theorem dX7_isPush_14 : decode cX7_isPush 14 = .ok (.ifCond .eq 16, 3) := by decide +kernel
theorem dX7_isPush_17 : decode cX7_isPush 17 = .ok (.iload_n 2, 1) := by decide +kernel
theorem dX7_isPush_18 : decode cX7_isPush 18 = .ok (.iconst 0, 1) := by decide +kernel
theorem dX7_isPush_19 : decode cX7_isPush 19 = .ok (.iconst 1, 1) := by decide +kernel
theorem dX7_isPush_20 : decode cX7_isPush 20 = .ok (.invokestatic 101, 3) := by decide +kernel
theorem dX7_isPush_23 : decode cX7_isPush 23 = .ok (.ifCond .eq 7, 3) := by decide +kernel
theorem dX7_isPush_26 : decode cX7_isPush 26 = .ok (.iconst 1, 1) := by decide +kernel
theorem dX7_isPush_27 : decode cX7_isPush 27 = .ok (.goto 4, 3) := by decide +kernel
theorem dX7_isPush_30 : decode cX7_isPush 30 = .ok (.iconst 0, 1) := by decide +kernel
theorem dX7_isPush_31 : decode cX7_isPush 31 = .ok (.ireturn, 1) := by decide +kernel
set_option maxRecDepth 20000 in
theorem ggX7_weighSlips_X7_setCell : GoodIn wsX7_weighSlips wsX7_setCell := goodIn_r _ [5] (by decide +kernel) (by decide +kernel)
set_option maxRecDepth 20000 in
theorem gX7_weighSlips_X7_setCell : GoodIn wsX7_weighSlips (va_wsS RX7 286 yX7_setCell wsX7_setCell) := goodIn_app (goodIn_of _ (by decide +kernel)) ggX7_weighSlips_X7_setCell
set_option maxRecDepth 20000 in
theorem ggX7_weighSlips_X7_cell : GoodIn wsX7_weighSlips wsX7_cell := goodIn_r _ [8] (by decide +kernel) (by decide +kernel)
set_option maxRecDepth 20000 in
theorem gX7_weighSlips_X7_cell : GoodIn wsX7_weighSlips (va_wsS RX7 124 yX7_cell wsX7_cell) := goodIn_app (goodIn_of _ (by decide +kernel)) ggX7_weighSlips_X7_cell
theorem dX7_weighSlips_0 : decode cX7_weighSlips 0 = .ok (.aload_n 0, 1) := by decide +kernel
theorem dX7_weighSlips_1 : decode cX7_weighSlips 1 = .ok (.getfield 69, 3) := by decide +kernel
theorem dX7_weighSlips_4 : decode cX7_weighSlips 4 = .ok (.iconst 0, 1) := by decide +kernel
theorem dX7_weighSlips_5 : decode cX7_weighSlips 5 = .ok (.iconst 1, 1) := by decide +kernel
theorem dX7_weighSlips_6 : decode cX7_weighSlips 6 = .ok (.invokestatic 286, 3) := by decide +kernel
theorem dX7_weighSlips_9 : decode cX7_weighSlips 9 = .ok (.iconst 1, 1) := by decide +kernel
theorem dX7_weighSlips_10 : decode cX7_weighSlips 10 = .ok (.istore_n 3, 1) := by decide +kernel
theorem dX7_weighSlips_11 : decode cX7_weighSlips 11 = .ok (.iload_n 3, 1) := by decide +kernel
theorem dX7_weighSlips_12 : decode cX7_weighSlips 12 = .ok (.iload_n 1, 1) := by decide +kernel
theorem dX7_weighSlips_13 : decode cX7_weighSlips 13 = .ok (.if_icmp .gt 18, 3) := by decide +kernel
theorem dX7_weighSlips_16 : decode cX7_weighSlips 16 = .ok (.aload_n 0, 1) := by decide +kernel
theorem dX7_weighSlips_17 : decode cX7_weighSlips 17 = .ok (.getfield 69, 3) := by decide +kernel
theorem dX7_weighSlips_20 : decode cX7_weighSlips 20 = .ok (.iload_n 3, 1) := by decide +kernel
theorem dX7_weighSlips_21 : decode cX7_weighSlips 21 = .ok (.iconst 0, 1) := by decide +kernel
theorem dX7_weighSlips_22 : decode cX7_weighSlips 22 = .ok (.invokestatic 286, 3) := by decide +kernel
theorem dX7_weighSlips_25 : decode cX7_weighSlips 25 = .ok (.iinc 3 1, 3) := by decide +kernel
theorem dX7_weighSlips_28 : decode cX7_weighSlips 28 = .ok (.goto (-17), 3) := by decide +kernel
theorem dX7_weighSlips_31 : decode cX7_weighSlips 31 = .ok (.iconst 1, 1) := by decide +kernel
theorem dX7_weighSlips_32 : decode cX7_weighSlips 32 = .ok (.istore_n 3, 1) := by decide +kernel
theorem dX7_weighSlips_33 : decode cX7_weighSlips 33 = .ok (.iload_n 3, 1) := by decide +kernel
theorem dX7_weighSlips_34 : decode cX7_weighSlips 34 = .ok (.iload_n 1, 1) := by decide +kernel
theorem dX7_weighSlips_35 : decode cX7_weighSlips 35 = .ok (.if_icmp .gt 78, 3) := by decide +kernel
theorem dX7_weighSlips_38 : decode cX7_weighSlips 38 = .ok (.iload_n 3, 1) := by decide +kernel
theorem dX7_weighSlips_39 : decode cX7_weighSlips 39 = .ok (.istore 4, 2) := by decide +kernel
theorem dX7_weighSlips_41 : decode cX7_weighSlips 41 = .ok (.iload 4, 2) := by decide +kernel
theorem dX7_weighSlips_43 : decode cX7_weighSlips 43 = .ok (.ifCond .le 46, 3) := by decide +kernel
theorem dX7_weighSlips_46 : decode cX7_weighSlips 46 = .ok (.aload_n 0, 1) := by decide +kernel
theorem dX7_weighSlips_47 : decode cX7_weighSlips 47 = .ok (.getfield 69, 3) := by decide +kernel
theorem dX7_weighSlips_50 : decode cX7_weighSlips 50 = .ok (.iload 4, 2) := by decide +kernel
theorem dX7_weighSlips_52 : decode cX7_weighSlips 52 = .ok (.aload_n 0, 1) := by decide +kernel
theorem dX7_weighSlips_53 : decode cX7_weighSlips 53 = .ok (.getfield 69, 3) := by decide +kernel
theorem dX7_weighSlips_56 : decode cX7_weighSlips 56 = .ok (.iload 4, 2) := by decide +kernel
theorem dX7_weighSlips_58 : decode cX7_weighSlips 58 = .ok (.invokestatic 124, 3) := by decide +kernel
theorem dX7_weighSlips_61 : decode cX7_weighSlips 61 = .ok (.iload_n 2, 1) := by decide +kernel
theorem dX7_weighSlips_62 : decode cX7_weighSlips 62 = .ok (.imul, 1) := by decide +kernel
theorem dX7_weighSlips_63 : decode cX7_weighSlips 63 = .ok (.aload_n 0, 1) := by decide +kernel
theorem dX7_weighSlips_64 : decode cX7_weighSlips 64 = .ok (.getfield 69, 3) := by decide +kernel
theorem dX7_weighSlips_67 : decode cX7_weighSlips 67 = .ok (.iload 4, 2) := by decide +kernel
theorem dX7_weighSlips_69 : decode cX7_weighSlips 69 = .ok (.iconst 1, 1) := by decide +kernel
theorem dX7_weighSlips_70 : decode cX7_weighSlips 70 = .ok (.isub, 1) := by decide +kernel
theorem dX7_weighSlips_71 : decode cX7_weighSlips 71 = .ok (.invokestatic 124, 3) := by decide +kernel
theorem dX7_weighSlips_74 : decode cX7_weighSlips 74 = .ok (.bipush 10, 2) := by decide +kernel
theorem dX7_weighSlips_76 : decode cX7_weighSlips 76 = .ok (.iload_n 2, 1) := by decide +kernel
theorem dX7_weighSlips_77 : decode cX7_weighSlips 77 = .ok (.isub, 1) := by decide +kernel
theorem dX7_weighSlips_78 : decode cX7_weighSlips 78 = .ok (.imul, 1) := by decide +kernel
theorem dX7_weighSlips_79 : decode cX7_weighSlips 79 = .ok (.iadd, 1) := by decide +kernel
theorem dX7_weighSlips_80 : decode cX7_weighSlips 80 = .ok (.invokestatic 286, 3) := by decide +kernel
theorem dX7_weighSlips_83 : decode cX7_weighSlips 83 = .ok (.iinc 4 (-1), 3) := by decide +kernel
theorem dX7_weighSlips_86 : decode cX7_weighSlips 86 = .ok (.goto (-45), 3) := by decide +kernel
theorem dX7_weighSlips_89 : decode cX7_weighSlips 89 = .ok (.aload_n 0, 1) := by decide +kernel
theorem dX7_weighSlips_90 : decode cX7_weighSlips 90 = .ok (.getfield 69, 3) := by decide +kernel
theorem dX7_weighSlips_93 : decode cX7_weighSlips 93 = .ok (.iconst 0, 1) := by decide +kernel
theorem dX7_weighSlips_94 : decode cX7_weighSlips 94 = .ok (.aload_n 0, 1) := by decide +kernel
theorem dX7_weighSlips_95 : decode cX7_weighSlips 95 = .ok (.getfield 69, 3) := by decide +kernel
theorem dX7_weighSlips_98 : decode cX7_weighSlips 98 = .ok (.iconst 0, 1) := by decide +kernel
theorem dX7_weighSlips_99 : decode cX7_weighSlips 99 = .ok (.invokestatic 124, 3) := by decide +kernel
theorem dX7_weighSlips_102 : decode cX7_weighSlips 102 = .ok (.iload_n 2, 1) := by decide +kernel
theorem dX7_weighSlips_103 : decode cX7_weighSlips 103 = .ok (.imul, 1) := by decide +kernel
theorem dX7_weighSlips_104 : decode cX7_weighSlips 104 = .ok (.invokestatic 286, 3) := by decide +kernel
theorem dX7_weighSlips_107 : decode cX7_weighSlips 107 = .ok (.iinc 3 1, 3) := by decide +kernel
theorem dX7_weighSlips_110 : decode cX7_weighSlips 110 = .ok (.goto (-77), 3) := by decide +kernel
theorem dX7_weighSlips_113 : decode cX7_weighSlips 113 = .ok (.return_, 1) := by decide +kernel
set_option maxRecDepth 20000 in
theorem ggX7_actByDraw_X5_shove : GoodIn wsX7_actByDraw wsX5_shove := goodIn_r _ [11, 12, 13, 14, 15, 16, 17, 18, 19, 20, 21, 22, 23, 24, 25, 26, 27, 28, 108, 109, 110, 111, 112, 113, 114, 97, 98, 99, 100, 101, 102, 103, 104, 105, 106, 107] (by decide +kernel) (by decide +kernel)
set_option maxRecDepth 20000 in
theorem gX7_actByDraw_X5_shove : GoodIn wsX7_actByDraw (wsV RX7 170 RX5 yX5_shove wsX5_shove) := goodIn_app (goodIn_of _ (by decide +kernel)) ggX7_actByDraw_X5_shove
set_option maxRecDepth 20000 in
theorem ggX7_actByDraw_X5_coupleAt : GoodIn wsX7_actByDraw wsX5_coupleAt := goodIn_r _ [32, 33, 34, 35, 10, 36, 37, 38, 39, 20, 21, 22, 40, 41, 42, 43, 44, 45, 46, 47, 48, 49, 50, 51, 52, 53, 13, 12, 54, 55, 56, 57, 58, 59, 60, 61, 62, 63, 64, 65, 66, 97, 98, 99, 100, 101, 102, 103, 104, 105, 106, 107, 108, 109, 110, 111, 112, 113, 114] (by decide +kernel) (by decide +kernel)
set_option maxRecDepth 20000 in
theorem gX7_actByDraw_X5_coupleAt : GoodIn wsX7_actByDraw (wsV RX7 184 RX5 yX5_coupleAt wsX5_coupleAt) := goodIn_app (goodIn_of _ (by decide +kernel)) ggX7_actByDraw_X5_coupleAt
set_option maxRecDepth 20000 in
theorem ggX7_actByDraw_X5_trade : GoodIn wsX7_actByDraw wsX5_trade := goodIn_r _ [70, 48, 55, 71, 72, 73, 10, 74, 53, 38, 20, 21, 22, 49, 50, 51, 52, 13, 12, 54, 56, 57, 58, 59, 60, 61, 62, 63, 64, 65, 66, 75, 76, 77, 78, 79, 80, 81, 82, 83, 26, 18, 27, 42, 43, 84, 85, 97, 98, 99, 100, 101, 102, 103, 104, 105, 106, 107, 108, 109, 110, 111, 112, 113, 114] (by decide +kernel) (by decide +kernel)
set_option maxRecDepth 20000 in
theorem gX7_actByDraw_X5_trade : GoodIn wsX7_actByDraw (wsV RX7 180 RX5 yX5_trade wsX5_trade) := goodIn_app (goodIn_of _ (by decide +kernel)) ggX7_actByDraw_X5_trade
theorem dX7_actByDraw_0 : decode cX7_actByDraw 0 = .ok (.iload_n 1, 1) := by decide +kernel
theorem dX7_actByDraw_1 : decode cX7_actByDraw 1 = .ok (.bipush 8, 2) := by decide +kernel
theorem dX7_actByDraw_3 : decode cX7_actByDraw 3 = .ok (.idiv, 1) := by decide +kernel
theorem dX7_actByDraw_4 : decode cX7_actByDraw 4 = .ok (.istore_n 2, 1) := by decide +kernel
theorem dX7_actByDraw_5 : decode cX7_actByDraw 5 = .ok (.iload_n 1, 1) := by decide +kernel
theorem dX7_actByDraw_6 : decode cX7_actByDraw 6 = .ok (.bipush 8, 2) := by decide +kernel
theorem dX7_actByDraw_8 : decode cX7_actByDraw 8 = .ok (.irem, 1) := by decide +kernel
theorem dX7_actByDraw_9 : decode cX7_actByDraw 9 = .ok (.tableswitch 131 0 5 #[39, 39, 39, 39, 87, 101], 39) := by decide +kernel
theorem dX7_actByDraw_48 : decode cX7_actByDraw 48 = .ok (.aload_n 0, 1) := by decide +kernel
theorem dX7_actByDraw_49 : decode cX7_actByDraw 49 = .ok (.getfield 19, 3) := by decide +kernel
theorem dX7_actByDraw_52 : decode cX7_actByDraw 52 = .ok (.getfield 108, 3) := by decide +kernel
theorem dX7_actByDraw_55 : decode cX7_actByDraw 55 = .ok (.ifCond .le 110, 3) := by decide +kernel
theorem dX7_actByDraw_58 : decode cX7_actByDraw 58 = .ok (.aload_n 0, 1) := by decide +kernel
theorem dX7_actByDraw_59 : decode cX7_actByDraw 59 = .ok (.getfield 33, 3) := by decide +kernel
theorem dX7_actByDraw_62 : decode cX7_actByDraw 62 = .ok (.aload_n 0, 1) := by decide +kernel
theorem dX7_actByDraw_63 : decode cX7_actByDraw 63 = .ok (.getfield 19, 3) := by decide +kernel
theorem dX7_actByDraw_66 : decode cX7_actByDraw 66 = .ok (.iload_n 2, 1) := by decide +kernel
theorem dX7_actByDraw_67 : decode cX7_actByDraw 67 = .ok (.aload_n 0, 1) := by decide +kernel
theorem dX7_actByDraw_68 : decode cX7_actByDraw 68 = .ok (.getfield 19, 3) := by decide +kernel
theorem dX7_actByDraw_71 : decode cX7_actByDraw 71 = .ok (.getfield 108, 3) := by decide +kernel
theorem dX7_actByDraw_74 : decode cX7_actByDraw 74 = .ok (.irem, 1) := by decide +kernel
theorem dX7_actByDraw_75 : decode cX7_actByDraw 75 = .ok (.iload_n 1, 1) := by decide +kernel
theorem dX7_actByDraw_76 : decode cX7_actByDraw 76 = .ok (.bipush 64, 2) := by decide +kernel
theorem dX7_actByDraw_78 : decode cX7_actByDraw 78 = .ok (.idiv, 1) := by decide +kernel
theorem dX7_actByDraw_79 : decode cX7_actByDraw 79 = .ok (.iconst 2, 1) := by decide +kernel
theorem dX7_actByDraw_80 : decode cX7_actByDraw 80 = .ok (.irem, 1) := by decide +kernel
theorem dX7_actByDraw_81 : decode cX7_actByDraw 81 = .ok (.iconst 1, 1) := by decide +kernel
theorem dX7_actByDraw_82 : decode cX7_actByDraw 82 = .ok (.if_icmp .ne 7, 3) := by decide +kernel
theorem dX7_actByDraw_85 : decode cX7_actByDraw 85 = .ok (.iconst 1, 1) := by decide +kernel
theorem dX7_actByDraw_86 : decode cX7_actByDraw 86 = .ok (.goto 4, 3) := by decide +kernel
theorem dX7_actByDraw_89 : decode cX7_actByDraw 89 = .ok (.iconst 0, 1) := by decide +kernel
theorem dX7_actByDraw_90 : decode cX7_actByDraw 90 = .ok (.invokevirtual 170, 3) := by decide +kernel
theorem dX7_actByDraw_93 : decode cX7_actByDraw 93 = .ok (.goto 72, 3) := by decide +kernel
theorem dX7_actByDraw_96 : decode cX7_actByDraw 96 = .ok (.aload_n 0, 1) := by decide +kernel
theorem dX7_actByDraw_97 : decode cX7_actByDraw 97 = .ok (.getfield 33, 3) := by decide +kernel
theorem dX7_actByDraw_100 : decode cX7_actByDraw 100 = .ok (.iload_n 2, 1) := by decide +kernel
theorem dX7_actByDraw_101 : decode cX7_actByDraw 101 = .ok (.bipush 10, 2) := by decide +kernel
theorem dX7_actByDraw_103 : decode cX7_actByDraw 103 = .ok (.irem, 1) := by decide +kernel
theorem dX7_actByDraw_104 : decode cX7_actByDraw 104 = .ok (.putfield 177, 3) := by decide +kernel
theorem dX7_actByDraw_107 : decode cX7_actByDraw 107 = .ok (.goto 58, 3) := by decide +kernel
theorem dX7_actByDraw_110 : decode cX7_actByDraw 110 = .ok (.aload_n 0, 1) := by decide +kernel
theorem dX7_actByDraw_111 : decode cX7_actByDraw 111 = .ok (.getfield 33, 3) := by decide +kernel
theorem dX7_actByDraw_114 : decode cX7_actByDraw 114 = .ok (.dup, 1) := by decide +kernel
theorem dX7_actByDraw_115 : decode cX7_actByDraw 115 = .ok (.getfield 131, 3) := by decide +kernel
theorem dX7_actByDraw_118 : decode cX7_actByDraw 118 = .ok (.aload_n 0, 1) := by decide +kernel
theorem dX7_actByDraw_119 : decode cX7_actByDraw 119 = .ok (.getfield 33, 3) := by decide +kernel
theorem dX7_actByDraw_122 : decode cX7_actByDraw 122 = .ok (.aload_n 0, 1) := by decide +kernel
theorem dX7_actByDraw_123 : decode cX7_actByDraw 123 = .ok (.getfield 19, 3) := by decide +kernel
theorem dX7_actByDraw_126 : decode cX7_actByDraw 126 = .ok (.iload_n 2, 1) := by decide +kernel
theorem dX7_actByDraw_127 : decode cX7_actByDraw 127 = .ok (.bipush 61, 2) := by decide +kernel
theorem dX7_actByDraw_129 : decode cX7_actByDraw 129 = .ok (.irem, 1) := by decide +kernel
theorem dX7_actByDraw_130 : decode cX7_actByDraw 130 = .ok (.invokevirtual 184, 3) := by decide +kernel
theorem dX7_actByDraw_133 : decode cX7_actByDraw 133 = .ok (.ior, 1) := by decide +kernel
theorem dX7_actByDraw_134 : decode cX7_actByDraw 134 = .ok (.putfield 131, 3) := by decide +kernel
theorem dX7_actByDraw_137 : decode cX7_actByDraw 137 = .ok (.goto 28, 3) := by decide +kernel
theorem dX7_actByDraw_140 : decode cX7_actByDraw 140 = .ok (.aload_n 0, 1) := by decide +kernel
theorem dX7_actByDraw_141 : decode cX7_actByDraw 141 = .ok (.getfield 33, 3) := by decide +kernel
theorem dX7_actByDraw_144 : decode cX7_actByDraw 144 = .ok (.getfield 153, 3) := by decide +kernel
theorem dX7_actByDraw_147 : decode cX7_actByDraw 147 = .ok (.sipush 999, 3) := by decide +kernel
theorem dX7_actByDraw_150 : decode cX7_actByDraw 150 = .ok (.if_icmp .ge 15, 3) := by decide +kernel
theorem dX7_actByDraw_153 : decode cX7_actByDraw 153 = .ok (.aload_n 0, 1) := by decide +kernel
theorem dX7_actByDraw_154 : decode cX7_actByDraw 154 = .ok (.getfield 33, 3) := by decide +kernel
theorem dX7_actByDraw_157 : decode cX7_actByDraw 157 = .ok (.aload_n 0, 1) := by decide +kernel
theorem dX7_actByDraw_158 : decode cX7_actByDraw 158 = .ok (.getfield 19, 3) := by decide +kernel
theorem dX7_actByDraw_161 : decode cX7_actByDraw 161 = .ok (.iconst 1, 1) := by decide +kernel
theorem dX7_actByDraw_162 : decode cX7_actByDraw 162 = .ok (.invokevirtual 180, 3) := by decide +kernel
theorem dX7_actByDraw_165 : decode cX7_actByDraw 165 = .ok (.return_, 1) := by decide +kernel
theorem dX7_drawOf_0 : decode cX7_drawOf 0 = .ok (.ldc2_w 290, 3) := by decide +kernel
theorem dX7_drawOf_3 : decode cX7_drawOf 3 = .ok (.iload_n 0, 1) := by decide +kernel
theorem dX7_drawOf_4 : decode cX7_drawOf 4 = .ok (.i2l, 1) := by decide +kernel
theorem dX7_drawOf_5 : decode cX7_drawOf 5 = .ok (.lmul, 1) := by decide +kernel
theorem dX7_drawOf_6 : decode cX7_drawOf 6 = .ok (.ldc2_w 292, 3) := by decide +kernel
theorem dX7_drawOf_9 : decode cX7_drawOf 9 = .ok (.iload_n 1, 1) := by decide +kernel
theorem dX7_drawOf_10 : decode cX7_drawOf 10 = .ok (.i2l, 1) := by decide +kernel
theorem dX7_drawOf_11 : decode cX7_drawOf 11 = .ok (.lmul, 1) := by decide +kernel
theorem dX7_drawOf_12 : decode cX7_drawOf 12 = .ok (.ladd, 1) := by decide +kernel
theorem dX7_drawOf_13 : decode cX7_drawOf 13 = .ok (.lconst 1, 1) := by decide +kernel
theorem dX7_drawOf_14 : decode cX7_drawOf 14 = .ok (.ladd, 1) := by decide +kernel
theorem dX7_drawOf_15 : decode cX7_drawOf 15 = .ok (.lstore_n 2, 1) := by decide +kernel
theorem dX7_drawOf_16 : decode cX7_drawOf 16 = .ok (.lload_n 2, 1) := by decide +kernel
theorem dX7_drawOf_17 : decode cX7_drawOf 17 = .ok (.lload_n 2, 1) := by decide +kernel
theorem dX7_drawOf_18 : decode cX7_drawOf 18 = .ok (.lmul, 1) := by decide +kernel
theorem dX7_drawOf_19 : decode cX7_drawOf 19 = .ok (.ldc2_w 294, 3) := by decide +kernel
theorem dX7_drawOf_22 : decode cX7_drawOf 22 = .ok (.lrem, 1) := by decide +kernel
theorem dX7_drawOf_23 : decode cX7_drawOf 23 = .ok (.l2i, 1) := by decide +kernel
theorem dX7_drawOf_24 : decode cX7_drawOf 24 = .ok (.ireturn, 1) := by decide +kernel
theorem dX7_commonDivisor_0 : decode cX7_commonDivisor 0 = .ok (.iload_n 1, 1) := by decide +kernel
theorem dX7_commonDivisor_1 : decode cX7_commonDivisor 1 = .ok (.istore_n 2, 1) := by decide +kernel
theorem dX7_commonDivisor_2 : decode cX7_commonDivisor 2 = .ok (.iload_n 0, 1) := by decide +kernel
theorem dX7_commonDivisor_3 : decode cX7_commonDivisor 3 = .ok (.istore_n 3, 1) := by decide +kernel
theorem dX7_commonDivisor_4 : decode cX7_commonDivisor 4 = .ok (.iconst 0, 1) := by decide +kernel
theorem dX7_commonDivisor_5 : decode cX7_commonDivisor 5 = .ok (.istore 4, 2) := by decide +kernel
theorem dX7_commonDivisor_7 : decode cX7_commonDivisor 7 = .ok (.iload 4, 2) := by decide +kernel
theorem dX7_commonDivisor_9 : decode cX7_commonDivisor 9 = .ok (.bipush 64, 2) := by decide +kernel
theorem dX7_commonDivisor_11 : decode cX7_commonDivisor 11 = .ok (.if_icmp .ge 23, 3) := by decide +kernel
theorem dX7_commonDivisor_14 : decode cX7_commonDivisor 14 = .ok (.iload_n 3, 1) := by decide +kernel
theorem dX7_commonDivisor_15 : decode cX7_commonDivisor 15 = .ok (.ifCond .eq 19, 3) := by decide +kernel
theorem dX7_commonDivisor_18 : decode cX7_commonDivisor 18 = .ok (.iload_n 2, 1) := by decide +kernel
theorem dX7_commonDivisor_19 : decode cX7_commonDivisor 19 = .ok (.iload_n 3, 1) := by decide +kernel
theorem dX7_commonDivisor_20 : decode cX7_commonDivisor 20 = .ok (.irem, 1) := by decide +kernel
theorem dX7_commonDivisor_21 : decode cX7_commonDivisor 21 = .ok (.istore 5, 2) := by decide +kernel
theorem dX7_commonDivisor_23 : decode cX7_commonDivisor 23 = .ok (.iload_n 3, 1) := by decide +kernel
theorem dX7_commonDivisor_24 : decode cX7_commonDivisor 24 = .ok (.istore_n 2, 1) := by decide +kernel
theorem dX7_commonDivisor_25 : decode cX7_commonDivisor 25 = .ok (.iload 5, 2) := by decide +kernel
theorem dX7_commonDivisor_27 : decode cX7_commonDivisor 27 = .ok (.istore_n 3, 1) := by decide +kernel
theorem dX7_commonDivisor_28 : decode cX7_commonDivisor 28 = .ok (.iinc 4 1, 3) := by decide +kernel
theorem dX7_commonDivisor_31 : decode cX7_commonDivisor 31 = .ok (.goto (-24), 3) := by decide +kernel
theorem dX7_commonDivisor_34 : decode cX7_commonDivisor 34 = .ok (.iload_n 2, 1) := by decide +kernel
theorem dX7_commonDivisor_35 : decode cX7_commonDivisor 35 = .ok (.ireturn, 1) := by decide +kernel
theorem dX7_within_0 : decode cX7_within 0 = .ok (.iload_n 0, 1) := by decide +kernel
theorem dX7_within_1 : decode cX7_within 1 = .ok (.iload_n 1, 1) := by decide +kernel
theorem dX7_within_2 : decode cX7_within 2 = .ok (.if_icmp .lt 12, 3) := by decide +kernel
theorem dX7_within_5 : decode cX7_within 5 = .ok (.iload_n 0, 1) := by decide +kernel
theorem dX7_within_6 : decode cX7_within 6 = .ok (.iload_n 2, 1) := by decide +kernel
theorem dX7_within_7 : decode cX7_within 7 = .ok (.if_icmp .gt 7, 3) := by decide +kernel
theorem dX7_within_10 : decode cX7_within 10 = .ok (.iconst 1, 1) := by decide +kernel
theorem dX7_within_11 : decode cX7_within 11 = .ok (.goto 4, 3) := by decide +kernel
theorem dX7_within_14 : decode cX7_within 14 = .ok (.iconst 0, 1) := by decide +kernel
theorem dX7_within_15 : decode cX7_within 15 = .ok (.ireturn, 1) := by decide +kernel
theorem dX7_meet_0 : decode cX7_meet 0 = .ok (.iload_n 1, 1) := by decide +kernel
theorem dX7_meet_1 : decode cX7_meet 1 = .ok (.ifCond .eq 28, 3) := by decide +kernel
theorem dX7_meet_4 : decode cX7_meet 4 = .ok (.iload_n 0, 1) := by decide +kernel
theorem dX7_meet_5 : decode cX7_meet 5 = .ok (.iconst 1, 1) := by decide +kernel
theorem dX7_meet_6 : decode cX7_meet 6 = .ok (.if_icmp .ne 13, 3) := by decide +kernel
theorem dX7_meet_9 : decode cX7_meet 9 = .ok (.iload_n 1, 1) := by decide +kernel
theorem dX7_meet_10 : decode cX7_meet 10 = .ok (.iconst 1, 1) := by decide +kernel
theorem dX7_meet_11 : decode cX7_meet 11 = .ok (.if_icmp .eq 18, 3) := by decide +kernel
theorem dX7_meet_14 : decode cX7_meet 14 = .ok (.iload_n 1, 1) := by decide +kernel
theorem dX7_meet_15 : decode cX7_meet 15 = .ok (.iconst (-1), 1) := by decide +kernel
theorem dX7_meet_16 : decode cX7_meet 16 = .ok (.if_icmp .eq 13, 3) := by decide +kernel
theorem dX7_meet_19 : decode cX7_meet 19 = .ok (.iload_n 0, 1) := by decide +kernel
theorem dX7_meet_20 : decode cX7_meet 20 = .ok (.iconst 2, 1) := by decide +kernel
theorem dX7_meet_21 : decode cX7_meet 21 = .ok (.if_icmp .ne 12, 3) := by decide +kernel
theorem dX7_meet_24 : decode cX7_meet 24 = .ok (.iload_n 1, 1) := by decide +kernel
theorem dX7_meet_25 : decode cX7_meet 25 = .ok (.iconst 2, 1) := by decide +kernel
theorem dX7_meet_26 : decode cX7_meet 26 = .ok (.if_icmp .ne 7, 3) := by decide +kernel
theorem dX7_meet_29 : decode cX7_meet 29 = .ok (.iconst 1, 1) := by decide +kernel
theorem dX7_meet_30 : decode cX7_meet 30 = .ok (.goto 4, 3) := by decide +kernel
theorem dX7_meet_33 : decode cX7_meet 33 = .ok (.iconst 0, 1) := by decide +kernel
theorem dX7_meet_34 : decode cX7_meet 34 = .ok (.ireturn, 1) := by decide +kernel
theorem dX7_shiftBehind_0 : decode cX7_shiftBehind 0 = .ok (.iload_n 2, 1) := by decide +kernel
theorem dX7_shiftBehind_1 : decode cX7_shiftBehind 1 = .ok (.iconst 1, 1) := by decide +kernel
theorem dX7_shiftBehind_2 : decode cX7_shiftBehind 2 = .ok (.if_icmp .ne 9, 3) := by decide +kernel
theorem dX7_shiftBehind_5 : decode cX7_shiftBehind 5 = .ok (.iload_n 0, 1) := by decide +kernel
theorem dX7_shiftBehind_6 : decode cX7_shiftBehind 6 = .ok (.iload_n 1, 1) := by decide +kernel
theorem dX7_shiftBehind_7 : decode cX7_shiftBehind 7 = .ok (.isub, 1) := by decide +kernel
theorem dX7_shiftBehind_8 : decode cX7_shiftBehind 8 = .ok (.goto 6, 3) := by decide +kernel
theorem dX7_shiftBehind_11 : decode cX7_shiftBehind 11 = .ok (.iload_n 0, 1) := by decide +kernel
theorem dX7_shiftBehind_12 : decode cX7_shiftBehind 12 = .ok (.iload_n 1, 1) := by decide +kernel
theorem dX7_shiftBehind_13 : decode cX7_shiftBehind 13 = .ok (.iadd, 1) := by decide +kernel
theorem dX7_shiftBehind_14 : decode cX7_shiftBehind 14 = .ok (.istore_n 3, 1) := by decide +kernel
theorem dX7_shiftBehind_15 : decode cX7_shiftBehind 15 = .ok (.bipush (-40), 2) := by decide +kernel
theorem dX7_shiftBehind_17 : decode cX7_shiftBehind 17 = .ok (.bipush 40, 2) := by decide +kernel
theorem dX7_shiftBehind_19 : decode cX7_shiftBehind 19 = .ok (.iload_n 3, 1) := by decide +kernel
theorem dX7_shiftBehind_20 : decode cX7_shiftBehind 20 = .ok (.invokestatic 296, 3) := by decide +kernel
theorem dX7_shiftBehind_23 : decode cX7_shiftBehind 23 = .ok (.invokestatic 301, 3) := by decide +kernel
theorem dX7_shiftBehind_26 : decode cX7_shiftBehind 26 = .ok (.ireturn, 1) := by decide +kernel
theorem dX7_oneOf_0 : decode cX7_oneOf 0 = .ok (.iload_n 0, 1) := by decide +kernel
theorem dX7_oneOf_1 : decode cX7_oneOf 1 = .ok (.bipush 6, 2) := by decide +kernel
theorem dX7_oneOf_3 : decode cX7_oneOf 3 = .ok (.imul, 1) := by decide +kernel
theorem dX7_oneOf_4 : decode cX7_oneOf 4 = .ok (.iload_n 1, 1) := by decide +kernel
theorem dX7_oneOf_5 : decode cX7_oneOf 5 = .ok (.iadd, 1) := by decide +kernel
theorem dX7_oneOf_6 : decode cX7_oneOf 6 = .ok (.ireturn, 1) := by decide +kernel
theorem dX7_landOf_0 : decode cX7_landOf 0 = .ok (.iload_n 0, 1) := by decide +kernel
theorem dX7_landOf_1 : decode cX7_landOf 1 = .ok (.bipush 6, 2) := by decide +kernel
theorem dX7_landOf_3 : decode cX7_landOf 3 = .ok (.if_icmp .ge 7, 3) := by decide +kernel
theorem dX7_landOf_6 : decode cX7_landOf 6 = .ok (.iconst 0, 1) := by decide +kernel
theorem dX7_landOf_7 : decode cX7_landOf 7 = .ok (.goto 4, 3) := by decide +kernel
theorem dX7_landOf_10 : decode cX7_landOf 10 = .ok (.iconst 1, 1) := by decide +kernel
theorem dX7_landOf_11 : decode cX7_landOf 11 = .ok (.ireturn, 1) := by decide +kernel
theorem dX7_kOf_0 : decode cX7_kOf 0 = .ok (.iload_n 0, 1) := by decide +kernel
theorem dX7_kOf_1 : decode cX7_kOf 1 = .ok (.bipush 6, 2) := by decide +kernel
theorem dX7_kOf_3 : decode cX7_kOf 3 = .ok (.if_icmp .ge 7, 3) := by decide +kernel
theorem dX7_kOf_6 : decode cX7_kOf 6 = .ok (.iload_n 0, 1) := by decide +kernel
theorem dX7_kOf_7 : decode cX7_kOf 7 = .ok (.goto 7, 3) := by decide +kernel
theorem dX7_kOf_10 : decode cX7_kOf 10 = .ok (.iload_n 0, 1) := by decide +kernel
theorem dX7_kOf_11 : decode cX7_kOf 11 = .ok (.bipush 6, 2) := by decide +kernel
theorem dX7_kOf_13 : decode cX7_kOf 13 = .ok (.isub, 1) := by decide +kernel
theorem dX7_kOf_14 : decode cX7_kOf 14 = .ok (.ireturn, 1) := by decide +kernel
theorem dX7_bitOf_0 : decode cX7_bitOf 0 = .ok (.iload_n 0, 1) := by decide +kernel
theorem dX7_bitOf_1 : decode cX7_bitOf 1 = .ok (.iload_n 1, 1) := by decide +kernel
theorem dX7_bitOf_2 : decode cX7_bitOf 2 = .ok (.ishr, 1) := by decide +kernel
theorem dX7_bitOf_3 : decode cX7_bitOf 3 = .ok (.iconst 1, 1) := by decide +kernel
theorem dX7_bitOf_4 : decode cX7_bitOf 4 = .ok (.iand, 1) := by decide +kernel
theorem dX7_bitOf_5 : decode cX7_bitOf 5 = .ok (.ireturn, 1) := by decide +kernel
theorem dX7_cell_0 : decode cX7_cell 0 = .ok (.iload_n 1, 1) := by decide +kernel
theorem dX7_cell_1 : decode cX7_cell 1 = .ok (.ifCond .lt 15, 3) := by decide +kernel
theorem dX7_cell_4 : decode cX7_cell 4 = .ok (.iload_n 1, 1) := by decide +kernel
theorem dX7_cell_5 : decode cX7_cell 5 = .ok (.aload_n 0, 1) := by decide +kernel
theorem dX7_cell_6 : decode cX7_cell 6 = .ok (.arraylength, 1) := by decide +kernel
theorem dX7_cell_7 : decode cX7_cell 7 = .ok (.if_icmp .ge 9, 3) := by decide +kernel
theorem dX7_cell_10 : decode cX7_cell 10 = .ok (.aload_n 0, 1) := by decide +kernel
theorem dX7_cell_11 : decode cX7_cell 11 = .ok (.iload_n 1, 1) := by decide +kernel
theorem dX7_cell_12 : decode cX7_cell 12 = .ok (.iaload, 1) := by decide +kernel
theorem dX7_cell_13 : decode cX7_cell 13 = .ok (.goto 4, 3) := by decide +kernel
theorem dX7_cell_16 : decode cX7_cell 16 = .ok (.iconst 0, 1) := by decide +kernel
theorem dX7_cell_17 : decode cX7_cell 17 = .ok (.ireturn, 1) := by decide +kernel
theorem dX7_setCell_0 : decode cX7_setCell 0 = .ok (.iload_n 1, 1) := by decide +kernel
theorem dX7_setCell_1 : decode cX7_setCell 1 = .ok (.ifCond .lt 13, 3) := by decide +kernel
theorem dX7_setCell_4 : decode cX7_setCell 4 = .ok (.iload_n 1, 1) := by decide +kernel
theorem dX7_setCell_5 : decode cX7_setCell 5 = .ok (.aload_n 0, 1) := by decide +kernel
theorem dX7_setCell_6 : decode cX7_setCell 6 = .ok (.arraylength, 1) := by decide +kernel
theorem dX7_setCell_7 : decode cX7_setCell 7 = .ok (.if_icmp .ge 7, 3) := by decide +kernel
theorem dX7_setCell_10 : decode cX7_setCell 10 = .ok (.aload_n 0, 1) := by decide +kernel
theorem dX7_setCell_11 : decode cX7_setCell 11 = .ok (.iload_n 1, 1) := by decide +kernel
theorem dX7_setCell_12 : decode cX7_setCell 12 = .ok (.iload_n 2, 1) := by decide +kernel
theorem dX7_setCell_13 : decode cX7_setCell 13 = .ok (.iastore, 1) := by decide +kernel
theorem dX7_setCell_14 : decode cX7_setCell 14 = .ok (.return_, 1) := by decide +kernel
theorem dX7_copyCells_0 : decode cX7_copyCells 0 = .ok (.iconst 0, 1) := by decide +kernel
theorem dX7_copyCells_1 : decode cX7_copyCells 1 = .ok (.istore_n 2, 1) := by decide +kernel
theorem dX7_copyCells_2 : decode cX7_copyCells 2 = .ok (.iload_n 2, 1) := by decide +kernel
theorem dX7_copyCells_3 : decode cX7_copyCells 3 = .ok (.aload_n 0, 1) := by decide +kernel
theorem dX7_copyCells_4 : decode cX7_copyCells 4 = .ok (.arraylength, 1) := by decide +kernel
theorem dX7_copyCells_5 : decode cX7_copyCells 5 = .ok (.if_icmp .ge 21, 3) := by decide +kernel
theorem dX7_copyCells_8 : decode cX7_copyCells 8 = .ok (.iload_n 2, 1) := by decide +kernel
theorem dX7_copyCells_9 : decode cX7_copyCells 9 = .ok (.aload_n 1, 1) := by decide +kernel
theorem dX7_copyCells_10 : decode cX7_copyCells 10 = .ok (.arraylength, 1) := by decide +kernel
theorem dX7_copyCells_11 : decode cX7_copyCells 11 = .ok (.if_icmp .ge 15, 3) := by decide +kernel
theorem dX7_copyCells_14 : decode cX7_copyCells 14 = .ok (.aload_n 1, 1) := by decide +kernel
theorem dX7_copyCells_15 : decode cX7_copyCells 15 = .ok (.iload_n 2, 1) := by decide +kernel
theorem dX7_copyCells_16 : decode cX7_copyCells 16 = .ok (.aload_n 0, 1) := by decide +kernel
theorem dX7_copyCells_17 : decode cX7_copyCells 17 = .ok (.iload_n 2, 1) := by decide +kernel
theorem dX7_copyCells_18 : decode cX7_copyCells 18 = .ok (.iaload, 1) := by decide +kernel
theorem dX7_copyCells_19 : decode cX7_copyCells 19 = .ok (.iastore, 1) := by decide +kernel
theorem dX7_copyCells_20 : decode cX7_copyCells 20 = .ok (.iinc 2 1, 3) := by decide +kernel
theorem dX7_copyCells_23 : decode cX7_copyCells 23 = .ok (.goto (-21), 3) := by decide +kernel
theorem dX7_copyCells_26 : decode cX7_copyCells 26 = .ok (.return_, 1) := by decide +kernel
