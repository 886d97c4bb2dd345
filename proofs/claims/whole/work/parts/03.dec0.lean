theorem dX0_init_0 : decode cX0_init 0 = .ok (.aload_n 0, 1) := by decide +kernel
theorem dX0_init_1 : decode cX0_init 1 = .ok (.invokespecial 3, 3) := by decide +kernel
theorem dX0_init_4 : decode cX0_init 4 = .ok (.aload_n 0, 1) := by decide +kernel
theorem dX0_init_5 : decode cX0_init 5 = .ok (.bipush 6, 2) := by decide +kernel
theorem dX0_init_7 : decode cX0_init 7 = .ok (.newarray .int, 2) := by decide +kernel
theorem dX0_init_9 : decode cX0_init 9 = .ok (.putfield 9, 3) := by decide +kernel
theorem dX0_init_12 : decode cX0_init 12 = .ok (.aload_n 0, 1) := by decide +kernel
theorem dX0_init_13 : decode cX0_init 13 = .ok (.bipush 6, 2) := by decide +kernel
theorem dX0_init_15 : decode cX0_init 15 = .ok (.newarray .int, 2) := by decide +kernel
theorem dX0_init_17 : decode cX0_init 17 = .ok (.putfield 15, 3) := by decide +kernel
theorem dX0_init_20 : decode cX0_init 20 = .ok (.return_, 1) := by decide +kernel
set_option maxRecDepth 20000 in
theorem ggX0_add_X7_setCell : GoodIn wsX0_add wsX7_setCell := goodIn_r _ [6] (by decide +kernel) (by decide +kernel)
set_option maxRecDepth 20000 in
theorem gX0_add_X7_setCell_n22 : GoodIn wsX0_add (wsX7_setCell) := ggX0_add_X7_setCell
theorem dX0_add_0 : decode cX0_add 0 = .ok (.aload_n 0, 1) := by decide +kernel
theorem dX0_add_1 : decode cX0_add 1 = .ok (.getfield 18, 3) := by decide +kernel
theorem dX0_add_4 : decode cX0_add 4 = .ok (.bipush 6, 2) := by decide +kernel
theorem dX0_add_6 : decode cX0_add 6 = .ok (.if_icmp .lt 5, 3) := by decide +kernel
theorem dX0_add_9 : decode cX0_add 9 = .ok (.iconst 0, 1) := by decide +kernel
theorem dX0_add_10 : decode cX0_add 10 = .ok (.ireturn, 1) := by decide +kernel
theorem dX0_add_11 : decode cX0_add 11 = .ok (.aload_n 0, 1) := by decide +kernel
theorem dX0_add_12 : decode cX0_add 12 = .ok (.getfield 9, 3) := by decide +kernel
theorem dX0_add_15 : decode cX0_add 15 = .ok (.aload_n 0, 1) := by decide +kernel
theorem dX0_add_16 : decode cX0_add 16 = .ok (.getfield 18, 3) := by decide +kernel
theorem dX0_add_19 : decode cX0_add 19 = .ok (.iload_n 1, 1) := by decide +kernel
theorem dX0_add_20 : decode cX0_add 20 = .ok (.invokestatic 22, 3) := by decide +kernel
theorem dX0_add_23 : decode cX0_add 23 = .ok (.aload_n 0, 1) := by decide +kernel
theorem dX0_add_24 : decode cX0_add 24 = .ok (.getfield 15, 3) := by decide +kernel
theorem dX0_add_27 : decode cX0_add 27 = .ok (.aload_n 0, 1) := by decide +kernel
theorem dX0_add_28 : decode cX0_add 28 = .ok (.getfield 18, 3) := by decide +kernel
theorem dX0_add_31 : decode cX0_add 31 = .ok (.iload_n 2, 1) := by decide +kernel
theorem dX0_add_32 : decode cX0_add 32 = .ok (.invokestatic 22, 3) := by decide +kernel
theorem dX0_add_35 : decode cX0_add 35 = .ok (.aload_n 0, 1) := by decide +kernel
theorem dX0_add_36 : decode cX0_add 36 = .ok (.dup, 1) := by decide +kernel
theorem dX0_add_37 : decode cX0_add 37 = .ok (.getfield 18, 3) := by decide +kernel
theorem dX0_add_40 : decode cX0_add 40 = .ok (.iconst 1, 1) := by decide +kernel
theorem dX0_add_41 : decode cX0_add 41 = .ok (.iadd, 1) := by decide +kernel
theorem dX0_add_42 : decode cX0_add 42 = .ok (.putfield 18, 3) := by decide +kernel
theorem dX0_add_45 : decode cX0_add 45 = .ok (.iconst 1, 1) := by decide +kernel
theorem dX0_add_46 : decode cX0_add 46 = .ok (.ireturn, 1) := by decide +kernel
set_option maxRecDepth 20000 in
theorem ggX0_holds_X7_cell : GoodIn wsX0_holds wsX7_cell := goodIn_r _ [6] (by decide +kernel) (by decide +kernel)
set_option maxRecDepth 20000 in
theorem gX0_holds_X7_cell_n26 : GoodIn wsX0_holds (wsX7_cell) := ggX0_holds_X7_cell
theorem dX0_holds_0 : decode cX0_holds 0 = .ok (.iconst 0, 1) := by decide +kernel
theorem dX0_holds_1 : decode cX0_holds 1 = .ok (.istore_n 3, 1) := by decide +kernel
theorem dX0_holds_2 : decode cX0_holds 2 = .ok (.iload_n 3, 1) := by decide +kernel
theorem dX0_holds_3 : decode cX0_holds 3 = .ok (.aload_n 0, 1) := by decide +kernel
theorem dX0_holds_4 : decode cX0_holds 4 = .ok (.getfield 18, 3) := by decide +kernel
theorem dX0_holds_7 : decode cX0_holds 7 = .ok (.if_icmp .ge 35, 3) := by decide +kernel
theorem dX0_holds_10 : decode cX0_holds 10 = .ok (.aload_n 0, 1) := by decide +kernel
theorem dX0_holds_11 : decode cX0_holds 11 = .ok (.getfield 9, 3) := by decide +kernel
theorem dX0_holds_14 : decode cX0_holds 14 = .ok (.iload_n 3, 1) := by decide +kernel
theorem dX0_holds_15 : decode cX0_holds 15 = .ok (.invokestatic 26, 3) := by decide +kernel
theorem dX0_holds_18 : decode cX0_holds 18 = .ok (.iload_n 1, 1) := by decide +kernel
theorem dX0_holds_19 : decode cX0_holds 19 = .ok (.if_icmp .ne 17, 3) := by decide +kernel
theorem dX0_holds_22 : decode cX0_holds 22 = .ok (.aload_n 0, 1) := by decide +kernel
theorem dX0_holds_23 : decode cX0_holds 23 = .ok (.getfield 15, 3) := by decide +kernel
theorem dX0_holds_26 : decode cX0_holds 26 = .ok (.iload_n 3, 1) := by decide +kernel
theorem dX0_holds_27 : decode cX0_holds 27 = .ok (.invokestatic 26, 3) := by decide +kernel
theorem dX0_holds_30 : decode cX0_holds 30 = .ok (.iload_n 2, 1) := by decide +kernel
theorem dX0_holds_31 : decode cX0_holds 31 = .ok (.if_icmp .ne 5, 3) := by decide +kernel
theorem dX0_holds_34 : decode cX0_holds 34 = .ok (.iconst 1, 1) := by decide +kernel
theorem dX0_holds_35 : decode cX0_holds 35 = .ok (.ireturn, 1) := by decide +kernel
theorem dX0_holds_36 : decode cX0_holds 36 = .ok (.iinc 3 1, 3) := by decide +kernel
theorem dX0_holds_39 : decode cX0_holds 39 = .ok (.goto (-37), 3) := by decide +kernel
theorem dX0_holds_42 : decode cX0_holds 42 = .ok (.iconst 0, 1) := by decide +kernel
theorem dX0_holds_43 : decode cX0_holds 43 = .ok (.ireturn, 1) := by decide +kernel
set_option maxRecDepth 20000 in
theorem ggX0_allSo_X7_cell : GoodIn wsX0_allSo wsX7_cell := goodIn_r _ [8] (by decide +kernel) (by decide +kernel)
set_option maxRecDepth 20000 in
theorem gX0_allSo_X7_cell_n26 : GoodIn wsX0_allSo (wsX7_cell) := ggX0_allSo_X7_cell
set_option maxRecDepth 20000 in
theorem ggX0_allSo_X5_placeOf : GoodIn wsX0_allSo wsX5_placeOf := goodIn_r _ [13, 14, 15, 16, 17, 18, 6, 7, 8, 19, 20, 21, 22, 23, 24, 25, 26, 27, 28, 29, 35, 36, 37, 38, 39, 40, 41, 42, 43, 44, 45, 46, 47, 48, 49, 50, 51, 52] (by decide +kernel) (by decide +kernel)
set_option maxRecDepth 20000 in
theorem gX0_allSo_X5_placeOf : GoodIn wsX0_allSo (wsV RX0 35 RX5 yX5_placeOf wsX5_placeOf) := goodIn_app (goodIn_of _ (by decide +kernel)) ggX0_allSo_X5_placeOf
set_option maxRecDepth 20000 in
theorem ggX0_allSo_X7_meet : GoodIn wsX0_allSo wsX7_meet := goodIn_r _ [31] (by decide +kernel) (by decide +kernel)
set_option maxRecDepth 20000 in
theorem gX0_allSo_X7_meet_n44 : GoodIn wsX0_allSo (wsX7_meet) := ggX0_allSo_X7_meet
theorem dX0_allSo_0 : decode cX0_allSo 0 = .ok (.iconst 0, 1) := by decide +kernel
theorem dX0_allSo_1 : decode cX0_allSo 1 = .ok (.istore_n 3, 1) := by decide +kernel
theorem dX0_allSo_2 : decode cX0_allSo 2 = .ok (.iload_n 3, 1) := by decide +kernel
theorem dX0_allSo_3 : decode cX0_allSo 3 = .ok (.aload_n 0, 1) := by decide +kernel
theorem dX0_allSo_4 : decode cX0_allSo 4 = .ok (.getfield 18, 3) := by decide +kernel
theorem dX0_allSo_7 : decode cX0_allSo 7 = .ok (.if_icmp .ge 59, 3) := by decide +kernel
theorem dX0_allSo_10 : decode cX0_allSo 10 = .ok (.aload_n 0, 1) := by decide +kernel
theorem dX0_allSo_11 : decode cX0_allSo 11 = .ok (.getfield 9, 3) := by decide +kernel
theorem dX0_allSo_14 : decode cX0_allSo 14 = .ok (.iload_n 3, 1) := by decide +kernel
theorem dX0_allSo_15 : decode cX0_allSo 15 = .ok (.invokestatic 26, 3) := by decide +kernel
theorem dX0_allSo_18 : decode cX0_allSo 18 = .ok (.istore 4, 2) := by decide +kernel
theorem dX0_allSo_20 : decode cX0_allSo 20 = .ok (.aload_n 1, 1) := by decide +kernel
theorem dX0_allSo_21 : decode cX0_allSo 21 = .ok (.getfield 30, 3) := by decide +kernel
theorem dX0_allSo_24 : decode cX0_allSo 24 = .ok (.iload 4, 2) := by decide +kernel
theorem dX0_allSo_26 : decode cX0_allSo 26 = .ok (.invokestatic 26, 3) := by decide +kernel
theorem dX0_allSo_29 : decode cX0_allSo 29 = .ok (.aload_n 2, 1) := by decide +kernel
theorem dX0_allSo_30 : decode cX0_allSo 30 = .ok (.aload_n 1, 1) := by decide +kernel
theorem dX0_allSo_31 : decode cX0_allSo 31 = .ok (.iload 4, 2) := by decide +kernel
theorem dX0_allSo_33 : decode cX0_allSo 33 = .ok (.invokevirtual 35, 3) := by decide +kernel
theorem dX0_allSo_36 : decode cX0_allSo 36 = .ok (.aload_n 1, 1) := by decide +kernel
theorem dX0_allSo_37 : decode cX0_allSo 37 = .ok (.getfield 41, 3) := by decide +kernel
theorem dX0_allSo_40 : decode cX0_allSo 40 = .ok (.aload_n 0, 1) := by decide +kernel
theorem dX0_allSo_41 : decode cX0_allSo 41 = .ok (.getfield 15, 3) := by decide +kernel
theorem dX0_allSo_44 : decode cX0_allSo 44 = .ok (.iload_n 3, 1) := by decide +kernel
theorem dX0_allSo_45 : decode cX0_allSo 45 = .ok (.invokestatic 26, 3) := by decide +kernel
theorem dX0_allSo_48 : decode cX0_allSo 48 = .ok (.invokestatic 26, 3) := by decide +kernel
theorem dX0_allSo_51 : decode cX0_allSo 51 = .ok (.isub, 1) := by decide +kernel
theorem dX0_allSo_52 : decode cX0_allSo 52 = .ok (.invokestatic 44, 3) := by decide +kernel
theorem dX0_allSo_55 : decode cX0_allSo 55 = .ok (.ifCond .ne 5, 3) := by decide +kernel
theorem dX0_allSo_58 : decode cX0_allSo 58 = .ok (.iconst 0, 1) := by decide +kernel
theorem dX0_allSo_59 : decode cX0_allSo 59 = .ok (.ireturn, 1) := by decide +kernel
theorem dX0_allSo_60 : decode cX0_allSo 60 = .ok (.iinc 3 1, 3) := by decide +kernel
theorem dX0_allSo_63 : decode cX0_allSo 63 = .ok (.goto (-61), 3) := by decide +kernel
theorem dX0_allSo_66 : decode cX0_allSo 66 = .ok (.iconst 1, 1) := by decide +kernel
theorem dX0_allSo_67 : decode cX0_allSo 67 = .ok (.ireturn, 1) := by decide +kernel
theorem dX1_init_0 : decode cX1_init 0 = .ok (.aload_n 0, 1) := by decide +kernel
theorem dX1_init_1 : decode cX1_init 1 = .ok (.invokespecial 3, 3) := by decide +kernel
theorem dX1_init_4 : decode cX1_init 4 = .ok (.aload_n 0, 1) := by decide +kernel
theorem dX1_init_5 : decode cX1_init 5 = .ok (.bipush 81, 2) := by decide +kernel
theorem dX1_init_7 : decode cX1_init 7 = .ok (.newarray .boolean, 2) := by decide +kernel
theorem dX1_init_9 : decode cX1_init 9 = .ok (.putfield 9, 3) := by decide +kernel
theorem dX1_init_12 : decode cX1_init 12 = .ok (.aload_n 0, 1) := by decide +kernel
theorem dX1_init_13 : decode cX1_init 13 = .ok (.bipush 81, 2) := by decide +kernel
theorem dX1_init_15 : decode cX1_init 15 = .ok (.newarray .int, 2) := by decide +kernel
theorem dX1_init_17 : decode cX1_init 17 = .ok (.putfield 15, 3) := by decide +kernel
theorem dX1_init_20 : decode cX1_init 20 = .ok (.return_, 1) := by decide +kernel
set_option maxRecDepth 20000 in
theorem ggX1_findSo_X1_allSoAt : GoodIn wsX1_findSo wsX1_allSoAt := goodIn_r _ [8, 9, 10, 11, 12, 13, 14, 15, 16, 17, 18, 19, 20, 21, 22, 23, 24, 25, 26, 27, 28, 29, 30, 31, 32, 33, 34, 39, 40, 41, 42, 43, 44, 45, 46, 47, 48, 49, 50, 51, 52] (by decide +kernel) (by decide +kernel)
set_option maxRecDepth 20000 in
theorem gX1_findSo_X1_allSoAt : GoodIn wsX1_findSo (wsV RX1 23 RX1 yX1_allSoAt wsX1_allSoAt) := goodIn_app (goodIn_of _ (by decide +kernel)) ggX1_findSo_X1_allSoAt
theorem dX1_findSo_0 : decode cX1_findSo 0 = .ok (.aload_n 0, 1) := by decide +kernel
theorem dX1_findSo_1 : decode cX1_findSo 1 = .ok (.iconst 0, 1) := by decide +kernel
theorem dX1_findSo_2 : decode cX1_findSo 2 = .ok (.putfield 19, 3) := by decide +kernel
theorem dX1_findSo_5 : decode cX1_findSo 5 = .ok (.bipush 80, 2) := by decide +kernel
theorem dX1_findSo_7 : decode cX1_findSo 7 = .ok (.istore 4, 2) := by decide +kernel
theorem dX1_findSo_9 : decode cX1_findSo 9 = .ok (.iload 4, 2) := by decide +kernel
theorem dX1_findSo_11 : decode cX1_findSo 11 = .ok (.ifCond .lt 63, 3) := by decide +kernel
theorem dX1_findSo_14 : decode cX1_findSo 14 = .ok (.aload_n 0, 1) := by decide +kernel
theorem dX1_findSo_15 : decode cX1_findSo 15 = .ok (.iload 4, 2) := by decide +kernel
theorem dX1_findSo_17 : decode cX1_findSo 17 = .ok (.bipush 40, 2) := by decide +kernel
theorem dX1_findSo_19 : decode cX1_findSo 19 = .ok (.isub, 1) := by decide +kernel
theorem dX1_findSo_20 : decode cX1_findSo 20 = .ok (.aload_n 1, 1) := by decide +kernel
theorem dX1_findSo_21 : decode cX1_findSo 21 = .ok (.iload_n 2, 1) := by decide +kernel
theorem dX1_findSo_22 : decode cX1_findSo 22 = .ok (.aload_n 3, 1) := by decide +kernel
theorem dX1_findSo_23 : decode cX1_findSo 23 = .ok (.invokevirtual 23, 3) := by decide +kernel
theorem dX1_findSo_26 : decode cX1_findSo 26 = .ok (.istore 5, 2) := by decide +kernel
theorem dX1_findSo_28 : decode cX1_findSo 28 = .ok (.iload 4, 2) := by decide +kernel
theorem dX1_findSo_30 : decode cX1_findSo 30 = .ok (.aload_n 0, 1) := by decide +kernel
theorem dX1_findSo_31 : decode cX1_findSo 31 = .ok (.getfield 9, 3) := by decide +kernel
theorem dX1_findSo_34 : decode cX1_findSo 34 = .ok (.arraylength, 1) := by decide +kernel
theorem dX1_findSo_35 : decode cX1_findSo 35 = .ok (.if_icmp .ge 12, 3) := by decide +kernel
theorem dX1_findSo_38 : decode cX1_findSo 38 = .ok (.aload_n 0, 1) := by decide +kernel
theorem dX1_findSo_39 : decode cX1_findSo 39 = .ok (.getfield 9, 3) := by decide +kernel
theorem dX1_findSo_42 : decode cX1_findSo 42 = .ok (.iload 4, 2) := by decide +kernel
theorem dX1_findSo_44 : decode cX1_findSo 44 = .ok (.iload 5, 2) := by decide +kernel
theorem dX1_findSo_46 : decode cX1_findSo 46 = .ok (.bastore, 1) := by decide +kernel
theorem dX1_findSo_47 : decode cX1_findSo 47 = .ok (.iload 5, 2) := by decide +kernel
theorem dX1_findSo_49 : decode cX1_findSo 49 = .ok (.ifCond .eq 19, 3) := by decide +kernel
theorem dX1_findSo_52 : decode cX1_findSo 52 = .ok (.aload_n 0, 1) := by decide +kernel
theorem dX1_findSo_53 : decode cX1_findSo 53 = .ok (.dup, 1) := by decide +kernel
theorem dX1_findSo_54 : decode cX1_findSo 54 = .ok (.getfield 19, 3) := by decide +kernel
theorem dX1_findSo_57 : decode cX1_findSo 57 = .ok (.iconst 1, 1) := by decide +kernel
theorem dX1_findSo_58 : decode cX1_findSo 58 = .ok (.iadd, 1) := by decide +kernel
theorem dX1_findSo_59 : decode cX1_findSo 59 = .ok (.putfield 19, 3) := by decide +kernel
theorem dX1_findSo_62 : decode cX1_findSo 62 = .ok (.aload_n 0, 1) := by decide +kernel
theorem dX1_findSo_63 : decode cX1_findSo 63 = .ok (.iload 4, 2) := by decide +kernel
theorem dX1_findSo_65 : decode cX1_findSo 65 = .ok (.putfield 27, 3) := by decide +kernel
theorem dX1_findSo_68 : decode cX1_findSo 68 = .ok (.iinc 4 (-1), 3) := by decide +kernel
theorem dX1_findSo_71 : decode cX1_findSo 71 = .ok (.goto (-62), 3) := by decide +kernel
theorem dX1_findSo_74 : decode cX1_findSo 74 = .ok (.return_, 1) := by decide +kernel
set_option maxRecDepth 20000 in
theorem ggX1_allSoAt_X7_cell : GoodIn wsX1_allSoAt wsX7_cell := goodIn_r _ [7] (by decide +kernel) (by decide +kernel)
set_option maxRecDepth 20000 in
theorem gX1_allSoAt_X7_cell_n38 : GoodIn wsX1_allSoAt (wsX7_cell) := ggX1_allSoAt_X7_cell
set_option maxRecDepth 20000 in
theorem ggX1_allSoAt_X6_gapUnshifted : GoodIn wsX1_allSoAt wsX6_gapUnshifted := goodIn_r _ [12, 13, 14, 5, 6, 7, 15, 16, 17, 11, 18, 19, 20, 21, 22, 23, 24, 30, 31, 32, 33, 34, 35, 36, 37, 38, 39, 40] (by decide +kernel) (by decide +kernel)
set_option maxRecDepth 20000 in
theorem gX1_allSoAt_X6_gapUnshifted : GoodIn wsX1_allSoAt (wsV RX1 50 RX6 yX6_gapUnshifted wsX6_gapUnshifted) := goodIn_app (goodIn_of _ (by decide +kernel)) ggX1_allSoAt_X6_gapUnshifted
set_option maxRecDepth 20000 in
theorem ggX1_allSoAt_X7_meet : GoodIn wsX1_allSoAt wsX7_meet := goodIn_r _ [26] (by decide +kernel) (by decide +kernel)
set_option maxRecDepth 20000 in
theorem gX1_allSoAt_X7_meet_n54 : GoodIn wsX1_allSoAt (wsX7_meet) := ggX1_allSoAt_X7_meet
theorem dX1_allSoAt_0 : decode cX1_allSoAt 0 = .ok (.iconst 0, 1) := by decide +kernel
theorem dX1_allSoAt_1 : decode cX1_allSoAt 1 = .ok (.istore 5, 2) := by decide +kernel
theorem dX1_allSoAt_3 : decode cX1_allSoAt 3 = .ok (.iload 5, 2) := by decide +kernel
theorem dX1_allSoAt_5 : decode cX1_allSoAt 5 = .ok (.aload 4, 2) := by decide +kernel
theorem dX1_allSoAt_7 : decode cX1_allSoAt 7 = .ok (.getfield 30, 3) := by decide +kernel
theorem dX1_allSoAt_10 : decode cX1_allSoAt 10 = .ok (.if_icmp .ge 57, 3) := by decide +kernel
theorem dX1_allSoAt_13 : decode cX1_allSoAt 13 = .ok (.aload 4, 2) := by decide +kernel
theorem dX1_allSoAt_15 : decode cX1_allSoAt 15 = .ok (.getfield 35, 3) := by decide +kernel
theorem dX1_allSoAt_18 : decode cX1_allSoAt 18 = .ok (.iload 5, 2) := by decide +kernel
theorem dX1_allSoAt_20 : decode cX1_allSoAt 20 = .ok (.invokestatic 38, 3) := by decide +kernel
theorem dX1_allSoAt_23 : decode cX1_allSoAt 23 = .ok (.istore 6, 2) := by decide +kernel
theorem dX1_allSoAt_25 : decode cX1_allSoAt 25 = .ok (.aload_n 2, 1) := by decide +kernel
theorem dX1_allSoAt_26 : decode cX1_allSoAt 26 = .ok (.getfield 42, 3) := by decide +kernel
theorem dX1_allSoAt_29 : decode cX1_allSoAt 29 = .ok (.iload 6, 2) := by decide +kernel
theorem dX1_allSoAt_31 : decode cX1_allSoAt 31 = .ok (.invokestatic 38, 3) := by decide +kernel
theorem dX1_allSoAt_34 : decode cX1_allSoAt 34 = .ok (.aload_n 2, 1) := by decide +kernel
theorem dX1_allSoAt_35 : decode cX1_allSoAt 35 = .ok (.iload 6, 2) := by decide +kernel
theorem dX1_allSoAt_37 : decode cX1_allSoAt 37 = .ok (.aload 4, 2) := by decide +kernel
theorem dX1_allSoAt_39 : decode cX1_allSoAt 39 = .ok (.getfield 47, 3) := by decide +kernel
theorem dX1_allSoAt_42 : decode cX1_allSoAt 42 = .ok (.iload 5, 2) := by decide +kernel
theorem dX1_allSoAt_44 : decode cX1_allSoAt 44 = .ok (.invokestatic 38, 3) := by decide +kernel
theorem dX1_allSoAt_47 : decode cX1_allSoAt 47 = .ok (.iload_n 3, 1) := by decide +kernel
theorem dX1_allSoAt_48 : decode cX1_allSoAt 48 = .ok (.invokevirtual 50, 3) := by decide +kernel
theorem dX1_allSoAt_51 : decode cX1_allSoAt 51 = .ok (.iload_n 1, 1) := by decide +kernel
theorem dX1_allSoAt_52 : decode cX1_allSoAt 52 = .ok (.iadd, 1) := by decide +kernel
theorem dX1_allSoAt_53 : decode cX1_allSoAt 53 = .ok (.invokestatic 54, 3) := by decide +kernel
theorem dX1_allSoAt_56 : decode cX1_allSoAt 56 = .ok (.ifCond .ne 5, 3) := by decide +kernel
theorem dX1_allSoAt_59 : decode cX1_allSoAt 59 = .ok (.iconst 0, 1) := by decide +kernel
theorem dX1_allSoAt_60 : decode cX1_allSoAt 60 = .ok (.ireturn, 1) := by decide +kernel
theorem dX1_allSoAt_61 : decode cX1_allSoAt 61 = .ok (.iinc 5 1, 3) := by decide +kernel
theorem dX1_allSoAt_64 : decode cX1_allSoAt 64 = .ok (.goto (-61), 3) := by decide +kernel
theorem dX1_allSoAt_67 : decode cX1_allSoAt 67 = .ok (.iconst 1, 1) := by decide +kernel
theorem dX1_allSoAt_68 : decode cX1_allSoAt 68 = .ok (.ireturn, 1) := by decide +kernel
set_option maxRecDepth 20000 in
theorem ggX1_findPairs_X7_setCell : GoodIn wsX1_findPairs wsX7_setCell := goodIn_r _ [6] (by decide +kernel) (by decide +kernel)
set_option maxRecDepth 20000 in
theorem gX1_findPairs_X7_setCell_n58 : GoodIn wsX1_findPairs (wsX7_setCell) := ggX1_findPairs_X7_setCell
set_option maxRecDepth 20000 in
theorem ggX1_findPairs_X7_cell : GoodIn wsX1_findPairs wsX7_cell := goodIn_r _ [8] (by decide +kernel) (by decide +kernel)
set_option maxRecDepth 20000 in
theorem gX1_findPairs_X7_cell_n38 : GoodIn wsX1_findPairs (wsX7_cell) := ggX1_findPairs_X7_cell
set_option maxRecDepth 20000 in
theorem ggX1_findPairs_X6_gapUnshifted : GoodIn wsX1_findPairs wsX6_gapUnshifted := goodIn_r _ [13, 14, 15, 7, 5, 8, 16, 17, 18, 12, 19, 20, 21, 22, 23, 24, 25, 32, 33, 34, 35, 36, 37, 38, 39, 40, 41, 42] (by decide +kernel) (by decide +kernel)
set_option maxRecDepth 20000 in
theorem gX1_findPairs_X6_gapUnshifted : GoodIn wsX1_findPairs (wsV RX1 50 RX6 yX6_gapUnshifted wsX6_gapUnshifted) := goodIn_app (goodIn_of _ (by decide +kernel)) ggX1_findPairs_X6_gapUnshifted
set_option maxRecDepth 20000 in
theorem ggX1_findPairs_X7_meet : GoodIn wsX1_findPairs wsX7_meet := goodIn_r _ [27] (by decide +kernel) (by decide +kernel)
set_option maxRecDepth 20000 in
theorem gX1_findPairs_X7_meet_n54 : GoodIn wsX1_findPairs (wsX7_meet) := ggX1_findPairs_X7_meet
theorem dX1_findPairs_0 : decode cX1_findPairs 0 = .ok (.iconst 0, 1) := by decide +kernel
theorem dX1_findPairs_1 : decode cX1_findPairs 1 = .ok (.istore_n 3, 1) := by decide +kernel
theorem dX1_findPairs_2 : decode cX1_findPairs 2 = .ok (.iload_n 3, 1) := by decide +kernel
theorem dX1_findPairs_3 : decode cX1_findPairs 3 = .ok (.bipush 81, 2) := by decide +kernel
theorem dX1_findPairs_5 : decode cX1_findPairs 5 = .ok (.if_icmp .ge 18, 3) := by decide +kernel
theorem dX1_findPairs_8 : decode cX1_findPairs 8 = .ok (.aload_n 0, 1) := by decide +kernel
theorem dX1_findPairs_9 : decode cX1_findPairs 9 = .ok (.getfield 15, 3) := by decide +kernel
theorem dX1_findPairs_12 : decode cX1_findPairs 12 = .ok (.iload_n 3, 1) := by decide +kernel
theorem dX1_findPairs_13 : decode cX1_findPairs 13 = .ok (.iconst 0, 1) := by decide +kernel
theorem dX1_findPairs_14 : decode cX1_findPairs 14 = .ok (.invokestatic 58, 3) := by decide +kernel
theorem dX1_findPairs_17 : decode cX1_findPairs 17 = .ok (.iinc 3 1, 3) := by decide +kernel
theorem dX1_findPairs_20 : decode cX1_findPairs 20 = .ok (.goto (-18), 3) := by decide +kernel
theorem dX1_findPairs_23 : decode cX1_findPairs 23 = .ok (.iconst 0, 1) := by decide +kernel
theorem dX1_findPairs_24 : decode cX1_findPairs 24 = .ok (.istore_n 3, 1) := by decide +kernel
theorem dX1_findPairs_25 : decode cX1_findPairs 25 = .ok (.iload_n 3, 1) := by decide +kernel
theorem dX1_findPairs_26 : decode cX1_findPairs 26 = .ok (.aload_n 1, 1) := by decide +kernel
theorem dX1_findPairs_27 : decode cX1_findPairs 27 = .ok (.getfield 62, 3) := by decide +kernel
theorem dX1_findPairs_30 : decode cX1_findPairs 30 = .ok (.if_icmp .ge 100, 3) := by decide +kernel
theorem dX1_findPairs_33 : decode cX1_findPairs 33 = .ok (.aload_n 1, 1) := by decide +kernel
theorem dX1_findPairs_34 : decode cX1_findPairs 34 = .ok (.getfield 42, 3) := by decide +kernel
theorem dX1_findPairs_37 : decode cX1_findPairs 37 = .ok (.iload_n 3, 1) := by decide +kernel
theorem dX1_findPairs_38 : decode cX1_findPairs 38 = .ok (.invokestatic 38, 3) := by decide +kernel
theorem dX1_findPairs_41 : decode cX1_findPairs 41 = .ok (.istore 4, 2) := by decide +kernel
theorem dX1_findPairs_43 : decode cX1_findPairs 43 = .ok (.iconst 0, 1) := by decide +kernel
theorem dX1_findPairs_44 : decode cX1_findPairs 44 = .ok (.istore 5, 2) := by decide +kernel
theorem dX1_findPairs_46 : decode cX1_findPairs 46 = .ok (.iload 5, 2) := by decide +kernel
theorem dX1_findPairs_48 : decode cX1_findPairs 48 = .ok (.bipush 12, 2) := by decide +kernel
theorem dX1_findPairs_50 : decode cX1_findPairs 50 = .ok (.if_icmp .ge 74, 3) := by decide +kernel
theorem dX1_findPairs_53 : decode cX1_findPairs 53 = .ok (.aload_n 1, 1) := by decide +kernel
theorem dX1_findPairs_54 : decode cX1_findPairs 54 = .ok (.iload_n 3, 1) := by decide +kernel
theorem dX1_findPairs_55 : decode cX1_findPairs 55 = .ok (.iload 5, 2) := by decide +kernel
theorem dX1_findPairs_57 : decode cX1_findPairs 57 = .ok (.iload_n 2, 1) := by decide +kernel
theorem dX1_findPairs_58 : decode cX1_findPairs 58 = .ok (.invokevirtual 50, 3) := by decide +kernel
theorem dX1_findPairs_61 : decode cX1_findPairs 61 = .ok (.istore 6, 2) := by decide +kernel
theorem dX1_findPairs_63 : decode cX1_findPairs 63 = .ok (.iconst (-1), 1) := by decide +kernel
theorem dX1_findPairs_64 : decode cX1_findPairs 64 = .ok (.istore 7, 2) := by decide +kernel
theorem dX1_findPairs_66 : decode cX1_findPairs 66 = .ok (.iload 7, 2) := by decide +kernel
theorem dX1_findPairs_68 : decode cX1_findPairs 68 = .ok (.iconst 2, 1) := by decide +kernel
theorem dX1_findPairs_69 : decode cX1_findPairs 69 = .ok (.if_icmp .gt 49, 3) := by decide +kernel
theorem dX1_findPairs_72 : decode cX1_findPairs 72 = .ok (.iload 4, 2) := by decide +kernel
theorem dX1_findPairs_74 : decode cX1_findPairs 74 = .ok (.iload 7, 2) := by decide +kernel
theorem dX1_findPairs_76 : decode cX1_findPairs 76 = .ok (.invokestatic 54, 3) := by decide +kernel
theorem dX1_findPairs_79 : decode cX1_findPairs 79 = .ok (.ifCond .eq 33, 3) := by decide +kernel
theorem dX1_findPairs_82 : decode cX1_findPairs 82 = .ok (.iload 7, 2) := by decide +kernel
theorem dX1_findPairs_84 : decode cX1_findPairs 84 = .ok (.iload 6, 2) := by decide +kernel
theorem dX1_findPairs_86 : decode cX1_findPairs 86 = .ok (.isub, 1) := by decide +kernel
theorem dX1_findPairs_87 : decode cX1_findPairs 87 = .ok (.bipush 40, 2) := by decide +kernel
theorem dX1_findPairs_89 : decode cX1_findPairs 89 = .ok (.iadd, 1) := by decide +kernel
theorem dX1_findPairs_90 : decode cX1_findPairs 90 = .ok (.istore 8, 2) := by decide +kernel
theorem dX1_findPairs_92 : decode cX1_findPairs 92 = .ok (.aload_n 0, 1) := by decide +kernel
theorem dX1_findPairs_93 : decode cX1_findPairs 93 = .ok (.getfield 15, 3) := by decide +kernel
theorem dX1_findPairs_96 : decode cX1_findPairs 96 = .ok (.iload 8, 2) := by decide +kernel
theorem dX1_findPairs_98 : decode cX1_findPairs 98 = .ok (.aload_n 0, 1) := by decide +kernel
theorem dX1_findPairs_99 : decode cX1_findPairs 99 = .ok (.getfield 15, 3) := by decide +kernel
theorem dX1_findPairs_102 : decode cX1_findPairs 102 = .ok (.iload 8, 2) := by decide +kernel
theorem dX1_findPairs_104 : decode cX1_findPairs 104 = .ok (.invokestatic 38, 3) := by decide +kernel
theorem dX1_findPairs_107 : decode cX1_findPairs 107 = .ok (.iconst 1, 1) := by decide +kernel
theorem dX1_findPairs_108 : decode cX1_findPairs 108 = .ok (.iadd, 1) := by decide +kernel
theorem dX1_findPairs_109 : decode cX1_findPairs 109 = .ok (.invokestatic 58, 3) := by decide +kernel
theorem dX1_findPairs_112 : decode cX1_findPairs 112 = .ok (.iinc 7 1, 3) := by decide +kernel
theorem dX1_findPairs_115 : decode cX1_findPairs 115 = .ok (.goto (-49), 3) := by decide +kernel
theorem dX1_findPairs_118 : decode cX1_findPairs 118 = .ok (.iinc 5 1, 3) := by decide +kernel
theorem dX1_findPairs_121 : decode cX1_findPairs 121 = .ok (.goto (-75), 3) := by decide +kernel
theorem dX1_findPairs_124 : decode cX1_findPairs 124 = .ok (.iinc 3 1, 3) := by decide +kernel
theorem dX1_findPairs_127 : decode cX1_findPairs 127 = .ok (.goto (-102), 3) := by decide +kernel
theorem dX1_findPairs_130 : decode cX1_findPairs 130 = .ok (.return_, 1) := by decide +kernel
set_option maxRecDepth 20000 in
theorem ggX1_lowestOfMostPairs_X7_cell : GoodIn wsX1_lowestOfMostPairs wsX7_cell := goodIn_r _ [4] (by decide +kernel) (by decide +kernel)
set_option maxRecDepth 20000 in
theorem gX1_lowestOfMostPairs_X7_cell_n38 : GoodIn wsX1_lowestOfMostPairs (wsX7_cell) := ggX1_lowestOfMostPairs_X7_cell
theorem dX1_lowestOfMostPairs_0 : decode cX1_lowestOfMostPairs 0 = .ok (.iconst 0, 1) := by decide +kernel
theorem dX1_lowestOfMostPairs_1 : decode cX1_lowestOfMostPairs 1 = .ok (.istore_n 1, 1) := by decide +kernel
theorem dX1_lowestOfMostPairs_2 : decode cX1_lowestOfMostPairs 2 = .ok (.iconst 1, 1) := by decide +kernel
theorem dX1_lowestOfMostPairs_3 : decode cX1_lowestOfMostPairs 3 = .ok (.istore_n 2, 1) := by decide +kernel
theorem dX1_lowestOfMostPairs_4 : decode cX1_lowestOfMostPairs 4 = .ok (.iload_n 2, 1) := by decide +kernel
theorem dX1_lowestOfMostPairs_5 : decode cX1_lowestOfMostPairs 5 = .ok (.bipush 81, 2) := by decide +kernel
theorem dX1_lowestOfMostPairs_7 : decode cX1_lowestOfMostPairs 7 = .ok (.if_icmp .ge 30, 3) := by decide +kernel
theorem dX1_lowestOfMostPairs_10 : decode cX1_lowestOfMostPairs 10 = .ok (.aload_n 0, 1) := by decide +kernel
theorem dX1_lowestOfMostPairs_11 : decode cX1_lowestOfMostPairs 11 = .ok (.getfield 15, 3) := by decide +kernel
theorem dX1_lowestOfMostPairs_14 : decode cX1_lowestOfMostPairs 14 = .ok (.iload_n 2, 1) := by decide +kernel
theorem dX1_lowestOfMostPairs_15 : decode cX1_lowestOfMostPairs 15 = .ok (.invokestatic 38, 3) := by decide +kernel
theorem dX1_lowestOfMostPairs_18 : decode cX1_lowestOfMostPairs 18 = .ok (.aload_n 0, 1) := by decide +kernel
theorem dX1_lowestOfMostPairs_19 : decode cX1_lowestOfMostPairs 19 = .ok (.getfield 15, 3) := by decide +kernel
theorem dX1_lowestOfMostPairs_22 : decode cX1_lowestOfMostPairs 22 = .ok (.iload_n 1, 1) := by decide +kernel
theorem dX1_lowestOfMostPairs_23 : decode cX1_lowestOfMostPairs 23 = .ok (.invokestatic 38, 3) := by decide +kernel
theorem dX1_lowestOfMostPairs_26 : decode cX1_lowestOfMostPairs 26 = .ok (.if_icmp .le 5, 3) := by decide +kernel
theorem dX1_lowestOfMostPairs_29 : decode cX1_lowestOfMostPairs 29 = .ok (.iload_n 2, 1) := by decide +kernel
theorem dX1_lowestOfMostPairs_30 : decode cX1_lowestOfMostPairs 30 = .ok (.istore_n 1, 1) := by decide +kernel
theorem dX1_lowestOfMostPairs_31 : decode cX1_lowestOfMostPairs 31 = .ok (.iinc 2 1, 3) := by decide +kernel
theorem dX1_lowestOfMostPairs_34 : decode cX1_lowestOfMostPairs 34 = .ok (.goto (-30), 3) := by decide +kernel
theorem dX1_lowestOfMostPairs_37 : decode cX1_lowestOfMostPairs 37 = .ok (.iload_n 1, 1) := by decide +kernel
theorem dX1_lowestOfMostPairs_38 : decode cX1_lowestOfMostPairs 38 = .ok (.ireturn, 1) := by decide +kernel
set_option maxRecDepth 20000 in
theorem ggX1_greaterPart_X7_cell : GoodIn wsX1_greaterPart wsX7_cell := goodIn_r _ [10] (by decide +kernel) (by decide +kernel)
set_option maxRecDepth 20000 in
theorem gX1_greaterPart_X7_cell_n38 : GoodIn wsX1_greaterPart (wsX7_cell) := ggX1_greaterPart_X7_cell
set_option maxRecDepth 20000 in
theorem ggX1_greaterPart_X6_gapUnshifted : GoodIn wsX1_greaterPart wsX6_gapUnshifted := goodIn_r _ [15, 16, 17, 8, 9, 10, 18, 19, 20, 14, 21, 22, 23, 24, 25, 26, 27, 30, 31, 32, 33, 34, 35, 36, 37, 38, 39, 40] (by decide +kernel) (by decide +kernel)
set_option maxRecDepth 20000 in
theorem gX1_greaterPart_X6_gapUnshifted : GoodIn wsX1_greaterPart (wsV RX1 50 RX6 yX6_gapUnshifted wsX6_gapUnshifted) := goodIn_app (goodIn_of _ (by decide +kernel)) ggX1_greaterPart_X6_gapUnshifted
set_option maxRecDepth 20000 in
theorem ggX1_greaterPart_X7_meet : GoodIn wsX1_greaterPart wsX7_meet := goodIn_r _ [29] (by decide +kernel) (by decide +kernel)
set_option maxRecDepth 20000 in
theorem gX1_greaterPart_X7_meet_n54 : GoodIn wsX1_greaterPart (wsX7_meet) := ggX1_greaterPart_X7_meet
theorem dX1_greaterPart_0 : decode cX1_greaterPart 0 = .ok (.aload_n 1, 1) := by decide +kernel
theorem dX1_greaterPart_1 : decode cX1_greaterPart 1 = .ok (.getfield 42, 3) := by decide +kernel
theorem dX1_greaterPart_4 : decode cX1_greaterPart 4 = .ok (.iload_n 3, 1) := by decide +kernel
theorem dX1_greaterPart_5 : decode cX1_greaterPart 5 = .ok (.invokestatic 38, 3) := by decide +kernel
theorem dX1_greaterPart_8 : decode cX1_greaterPart 8 = .ok (.istore 5, 2) := by decide +kernel
theorem dX1_greaterPart_10 : decode cX1_greaterPart 10 = .ok (.aload_n 1, 1) := by decide +kernel
theorem dX1_greaterPart_11 : decode cX1_greaterPart 11 = .ok (.iload_n 3, 1) := by decide +kernel
theorem dX1_greaterPart_12 : decode cX1_greaterPart 12 = .ok (.iload 4, 2) := by decide +kernel
theorem dX1_greaterPart_14 : decode cX1_greaterPart 14 = .ok (.iload_n 2, 1) := by decide +kernel
theorem dX1_greaterPart_15 : decode cX1_greaterPart 15 = .ok (.invokevirtual 50, 3) := by decide +kernel
theorem dX1_greaterPart_18 : decode cX1_greaterPart 18 = .ok (.istore 6, 2) := by decide +kernel
theorem dX1_greaterPart_20 : decode cX1_greaterPart 20 = .ok (.iconst 0, 1) := by decide +kernel
theorem dX1_greaterPart_21 : decode cX1_greaterPart 21 = .ok (.istore 7, 2) := by decide +kernel
theorem dX1_greaterPart_23 : decode cX1_greaterPart 23 = .ok (.iconst (-1), 1) := by decide +kernel
theorem dX1_greaterPart_24 : decode cX1_greaterPart 24 = .ok (.istore 8, 2) := by decide +kernel
theorem dX1_greaterPart_26 : decode cX1_greaterPart 26 = .ok (.iload 8, 2) := by decide +kernel
theorem dX1_greaterPart_28 : decode cX1_greaterPart 28 = .ok (.iconst 2, 1) := by decide +kernel
theorem dX1_greaterPart_29 : decode cX1_greaterPart 29 = .ok (.if_icmp .gt 57, 3) := by decide +kernel
theorem dX1_greaterPart_32 : decode cX1_greaterPart 32 = .ok (.iload 8, 2) := by decide +kernel
theorem dX1_greaterPart_34 : decode cX1_greaterPart 34 = .ok (.iload 6, 2) := by decide +kernel
theorem dX1_greaterPart_36 : decode cX1_greaterPart 36 = .ok (.isub, 1) := by decide +kernel
theorem dX1_greaterPart_37 : decode cX1_greaterPart 37 = .ok (.bipush 40, 2) := by decide +kernel
theorem dX1_greaterPart_39 : decode cX1_greaterPart 39 = .ok (.iadd, 1) := by decide +kernel
theorem dX1_greaterPart_40 : decode cX1_greaterPart 40 = .ok (.istore 9, 2) := by decide +kernel
theorem dX1_greaterPart_42 : decode cX1_greaterPart 42 = .ok (.iload 5, 2) := by decide +kernel
theorem dX1_greaterPart_44 : decode cX1_greaterPart 44 = .ok (.iload 8, 2) := by decide +kernel
theorem dX1_greaterPart_46 : decode cX1_greaterPart 46 = .ok (.invokestatic 54, 3) := by decide +kernel
theorem dX1_greaterPart_49 : decode cX1_greaterPart 49 = .ok (.ifCond .eq 31, 3) := by decide +kernel
theorem dX1_greaterPart_52 : decode cX1_greaterPart 52 = .ok (.iload 9, 2) := by decide +kernel
theorem dX1_greaterPart_54 : decode cX1_greaterPart 54 = .ok (.ifCond .lt 26, 3) := by decide +kernel
theorem dX1_greaterPart_57 : decode cX1_greaterPart 57 = .ok (.iload 9, 2) := by decide +kernel
theorem dX1_greaterPart_59 : decode cX1_greaterPart 59 = .ok (.aload_n 0, 1) := by decide +kernel
theorem dX1_greaterPart_60 : decode cX1_greaterPart 60 = .ok (.getfield 9, 3) := by decide +kernel
theorem dX1_greaterPart_63 : decode cX1_greaterPart 63 = .ok (.arraylength, 1) := by decide +kernel
theorem dX1_greaterPart_64 : decode cX1_greaterPart 64 = .ok (.if_icmp .ge 16, 3) := by decide +kernel
theorem dX1_greaterPart_67 : decode cX1_greaterPart 67 = .ok (.aload_n 0, 1) := by decide +kernel
theorem dX1_greaterPart_68 : decode cX1_greaterPart 68 = .ok (.getfield 9, 3) := by decide +kernel
theorem dX1_greaterPart_71 : decode cX1_greaterPart 71 = .ok (.iload 9, 2) := by decide +kernel
theorem dX1_greaterPart_73 : decode cX1_greaterPart 73 = .ok (.baload, 1) := by decide +kernel
theorem dX1_greaterPart_74 : decode cX1_greaterPart 74 = .ok (.ifCond .eq 6, 3) := by decide +kernel
theorem dX1_greaterPart_77 : decode cX1_greaterPart 77 = .ok (.iinc 7 1, 3) := by decide +kernel
theorem dX1_greaterPart_80 : decode cX1_greaterPart 80 = .ok (.iinc 8 1, 3) := by decide +kernel
theorem dX1_greaterPart_83 : decode cX1_greaterPart 83 = .ok (.goto (-57), 3) := by decide +kernel
theorem dX1_greaterPart_86 : decode cX1_greaterPart 86 = .ok (.iload 7, 2) := by decide +kernel
theorem dX1_greaterPart_88 : decode cX1_greaterPart 88 = .ok (.aload_n 0, 1) := by decide +kernel
theorem dX1_greaterPart_89 : decode cX1_greaterPart 89 = .ok (.getfield 19, 3) := by decide +kernel
theorem dX1_greaterPart_92 : decode cX1_greaterPart 92 = .ok (.iload 7, 2) := by decide +kernel
theorem dX1_greaterPart_94 : decode cX1_greaterPart 94 = .ok (.isub, 1) := by decide +kernel
theorem dX1_greaterPart_95 : decode cX1_greaterPart 95 = .ok (.invokestatic 65, 3) := by decide +kernel
theorem dX1_greaterPart_98 : decode cX1_greaterPart 98 = .ok (.ireturn, 1) := by decide +kernel
theorem dX2_init_0 : decode cX2_init 0 = .ok (.aload_n 0, 1) := by decide +kernel
theorem dX2_init_1 : decode cX2_init 1 = .ok (.invokespecial 3, 3) := by decide +kernel
theorem dX2_init_4 : decode cX2_init 4 = .ok (.aload_n 0, 1) := by decide +kernel
theorem dX2_init_5 : decode cX2_init 5 = .ok (.sipush 200, 3) := by decide +kernel
theorem dX2_init_8 : decode cX2_init 8 = .ok (.newarray .int, 2) := by decide +kernel
theorem dX2_init_10 : decode cX2_init 10 = .ok (.putfield 9, 3) := by decide +kernel
theorem dX2_init_13 : decode cX2_init 13 = .ok (.return_, 1) := by decide +kernel
set_option maxRecDepth 20000 in
theorem ggX2_append_X7_setCell : GoodIn wsX2_append wsX7_setCell := goodIn_r _ [5] (by decide +kernel) (by decide +kernel)
set_option maxRecDepth 20000 in
theorem gX2_append_X7_setCell_n19 : GoodIn wsX2_append (wsX7_setCell) := ggX2_append_X7_setCell
theorem dX2_append_0 : decode cX2_append 0 = .ok (.aload_n 0, 1) := by decide +kernel
theorem dX2_append_1 : decode cX2_append 1 = .ok (.getfield 15, 3) := by decide +kernel
theorem dX2_append_4 : decode cX2_append 4 = .ok (.sipush 200, 3) := by decide +kernel
theorem dX2_append_7 : decode cX2_append 7 = .ok (.if_icmp .lt 5, 3) := by decide +kernel
theorem dX2_append_10 : decode cX2_append 10 = .ok (.iconst 0, 1) := by decide +kernel
theorem dX2_append_11 : decode cX2_append 11 = .ok (.ireturn, 1) := by decide +kernel
theorem dX2_append_12 : decode cX2_append 12 = .ok (.aload_n 0, 1) := by decide +kernel
theorem dX2_append_13 : decode cX2_append 13 = .ok (.getfield 9, 3) := by decide +kernel
theorem dX2_append_16 : decode cX2_append 16 = .ok (.aload_n 0, 1) := by decide +kernel
theorem dX2_append_17 : decode cX2_append 17 = .ok (.getfield 15, 3) := by decide +kernel
theorem dX2_append_20 : decode cX2_append 20 = .ok (.iload_n 1, 1) := by decide +kernel
theorem dX2_append_21 : decode cX2_append 21 = .ok (.invokestatic 19, 3) := by decide +kernel
theorem dX2_append_24 : decode cX2_append 24 = .ok (.aload_n 0, 1) := by decide +kernel
theorem dX2_append_25 : decode cX2_append 25 = .ok (.dup, 1) := by decide +kernel
theorem dX2_append_26 : decode cX2_append 26 = .ok (.getfield 15, 3) := by decide +kernel
theorem dX2_append_29 : decode cX2_append 29 = .ok (.iconst 1, 1) := by decide +kernel
theorem dX2_append_30 : decode cX2_append 30 = .ok (.iadd, 1) := by decide +kernel
theorem dX2_append_31 : decode cX2_append 31 = .ok (.putfield 15, 3) := by decide +kernel
theorem dX2_append_34 : decode cX2_append 34 = .ok (.iconst 1, 1) := by decide +kernel
theorem dX2_append_35 : decode cX2_append 35 = .ok (.ireturn, 1) := by decide +kernel
set_option maxRecDepth 20000 in
theorem ggX2_letterAt_X7_cell : GoodIn wsX2_letterAt wsX7_cell := goodIn_r _ [5] (by decide +kernel) (by decide +kernel)
set_option maxRecDepth 20000 in
theorem gX2_letterAt_X7_cell_n23 : GoodIn wsX2_letterAt (wsX7_cell) := ggX2_letterAt_X7_cell
theorem dX2_letterAt_0 : decode cX2_letterAt 0 = .ok (.iload_n 1, 1) := by decide +kernel
theorem dX2_letterAt_1 : decode cX2_letterAt 1 = .ok (.aload_n 0, 1) := by decide +kernel
theorem dX2_letterAt_2 : decode cX2_letterAt 2 = .ok (.getfield 15, 3) := by decide +kernel
theorem dX2_letterAt_5 : decode cX2_letterAt 5 = .ok (.if_icmp .ge 14, 3) := by decide +kernel
theorem dX2_letterAt_8 : decode cX2_letterAt 8 = .ok (.aload_n 0, 1) := by decide +kernel
theorem dX2_letterAt_9 : decode cX2_letterAt 9 = .ok (.getfield 9, 3) := by decide +kernel
theorem dX2_letterAt_12 : decode cX2_letterAt 12 = .ok (.iload_n 1, 1) := by decide +kernel
theorem dX2_letterAt_13 : decode cX2_letterAt 13 = .ok (.invokestatic 23, 3) := by decide +kernel
theorem dX2_letterAt_16 : decode cX2_letterAt 16 = .ok (.goto 4, 3) := by decide +kernel
theorem dX2_letterAt_19 : decode cX2_letterAt 19 = .ok (.iconst 0, 1) := by decide +kernel
theorem dX2_letterAt_20 : decode cX2_letterAt 20 = .ok (.ireturn, 1) := by decide +kernel
set_option maxRecDepth 20000 in
theorem ggX2_isFigureAt_X2_letterAt : GoodIn wsX2_isFigureAt wsX2_letterAt := goodIn_r _ [5, 6, 7, 8, 9, 10, 11, 12] (by decide +kernel) (by decide +kernel)
set_option maxRecDepth 20000 in
theorem gX2_isFigureAt_X2_letterAt : GoodIn wsX2_isFigureAt (wsV RX2 27 RX2 yX2_letterAt wsX2_letterAt) := goodIn_app (goodIn_of _ (by decide +kernel)) ggX2_isFigureAt_X2_letterAt
theorem dX2_isFigureAt_0 : decode cX2_isFigureAt 0 = .ok (.aload_n 0, 1) := by decide +kernel
theorem dX2_isFigureAt_1 : decode cX2_isFigureAt 1 = .ok (.iload_n 1, 1) := by decide +kernel
theorem dX2_isFigureAt_2 : decode cX2_isFigureAt 2 = .ok (.invokevirtual 27, 3) := by decide +kernel
theorem dX2_isFigureAt_5 : decode cX2_isFigureAt 5 = .ok (.istore_n 2, 1) := by decide +kernel
theorem dX2_isFigureAt_6 : decode cX2_isFigureAt 6 = .ok (.iload_n 2, 1) := by decide +kernel
theorem dX2_isFigureAt_7 : decode cX2_isFigureAt 7 = .ok (.bipush 48, 2) := by decide +kernel
theorem dX2_isFigureAt_9 : decode cX2_isFigureAt 9 = .ok (.if_icmp .lt 13, 3) := by decide +kernel
theorem dX2_isFigureAt_12 : decode cX2_isFigureAt 12 = .ok (.iload_n 2, 1) := by decide +kernel
theorem dX2_isFigureAt_13 : decode cX2_isFigureAt 13 = .ok (.bipush 57, 2) := by decide +kernel
theorem dX2_isFigureAt_15 : decode cX2_isFigureAt 15 = .ok (.if_icmp .gt 7, 3) := by decide +kernel
theorem dX2_isFigureAt_18 : decode cX2_isFigureAt 18 = .ok (.iconst 1, 1) := by decide +kernel
theorem dX2_isFigureAt_19 : decode cX2_isFigureAt 19 = .ok (.goto 4, 3) := by decide +kernel
theorem dX2_isFigureAt_22 : decode cX2_isFigureAt 22 = .ok (.iconst 0, 1) := by decide +kernel
theorem dX2_isFigureAt_23 : decode cX2_isFigureAt 23 = .ok (.ireturn, 1) := by decide +kernel
set_option maxRecDepth 20000 in
theorem ggX2_figuresAt_X2_isFigureAt : GoodIn wsX2_figuresAt wsX2_isFigureAt := goodIn_r _ [5, 6, 7, 8, 4, 9, 10, 11, 12, 13, 14, 15, 16] (by decide +kernel) (by decide +kernel)
set_option maxRecDepth 20000 in
theorem gX2_figuresAt_X2_isFigureAt : GoodIn wsX2_figuresAt (wsV RX2 31 RX2 yX2_isFigureAt wsX2_isFigureAt) := goodIn_app (goodIn_of _ (by decide +kernel)) ggX2_figuresAt_X2_isFigureAt
theorem dX2_figuresAt_0 : decode cX2_figuresAt 0 = .ok (.aload_n 0, 1) := by decide +kernel
theorem dX2_figuresAt_1 : decode cX2_figuresAt 1 = .ok (.iload_n 1, 1) := by decide +kernel
theorem dX2_figuresAt_2 : decode cX2_figuresAt 2 = .ok (.invokevirtual 31, 3) := by decide +kernel
theorem dX2_figuresAt_5 : decode cX2_figuresAt 5 = .ok (.ifCond .ne 5, 3) := by decide +kernel
theorem dX2_figuresAt_8 : decode cX2_figuresAt 8 = .ok (.iconst 0, 1) := by decide +kernel
theorem dX2_figuresAt_9 : decode cX2_figuresAt 9 = .ok (.ireturn, 1) := by decide +kernel
theorem dX2_figuresAt_10 : decode cX2_figuresAt 10 = .ok (.aload_n 0, 1) := by decide +kernel
theorem dX2_figuresAt_11 : decode cX2_figuresAt 11 = .ok (.iload_n 1, 1) := by decide +kernel
theorem dX2_figuresAt_12 : decode cX2_figuresAt 12 = .ok (.iconst 1, 1) := by decide +kernel
theorem dX2_figuresAt_13 : decode cX2_figuresAt 13 = .ok (.iadd, 1) := by decide +kernel
theorem dX2_figuresAt_14 : decode cX2_figuresAt 14 = .ok (.invokevirtual 31, 3) := by decide +kernel
theorem dX2_figuresAt_17 : decode cX2_figuresAt 17 = .ok (.ifCond .eq 7, 3) := by decide +kernel
theorem dX2_figuresAt_20 : decode cX2_figuresAt 20 = .ok (.iconst 2, 1) := by decide +kernel
theorem dX2_figuresAt_21 : decode cX2_figuresAt 21 = .ok (.goto 4, 3) := by decide +kernel
theorem dX2_figuresAt_24 : decode cX2_figuresAt 24 = .ok (.iconst 1, 1) := by decide +kernel
theorem dX2_figuresAt_25 : decode cX2_figuresAt 25 = .ok (.ireturn, 1) := by decide +kernel
set_option maxRecDepth 20000 in
theorem ggX2_numberAt_X2_letterAt : GoodIn wsX2_numberAt wsX2_letterAt := goodIn_r _ [5, 6, 7, 8, 9, 10, 11, 12] (by decide +kernel) (by decide +kernel)
set_option maxRecDepth 20000 in
theorem gX2_numberAt_X2_letterAt : GoodIn wsX2_numberAt (wsV RX2 27 RX2 yX2_letterAt wsX2_letterAt) := goodIn_app (goodIn_of _ (by decide +kernel)) ggX2_numberAt_X2_letterAt
theorem dX2_numberAt_0 : decode cX2_numberAt 0 = .ok (.aload_n 0, 1) := by decide +kernel
theorem dX2_numberAt_1 : decode cX2_numberAt 1 = .ok (.iload_n 1, 1) := by decide +kernel
theorem dX2_numberAt_2 : decode cX2_numberAt 2 = .ok (.invokevirtual 27, 3) := by decide +kernel
theorem dX2_numberAt_5 : decode cX2_numberAt 5 = .ok (.bipush 48, 2) := by decide +kernel
theorem dX2_numberAt_7 : decode cX2_numberAt 7 = .ok (.isub, 1) := by decide +kernel
theorem dX2_numberAt_8 : decode cX2_numberAt 8 = .ok (.istore_n 3, 1) := by decide +kernel
theorem dX2_numberAt_9 : decode cX2_numberAt 9 = .ok (.iload_n 2, 1) := by decide +kernel
theorem dX2_numberAt_10 : decode cX2_numberAt 10 = .ok (.iconst 1, 1) := by decide +kernel
theorem dX2_numberAt_11 : decode cX2_numberAt 11 = .ok (.if_icmp .ne 7, 3) := by decide +kernel
theorem dX2_numberAt_14 : decode cX2_numberAt 14 = .ok (.iload_n 3, 1) := by decide +kernel
theorem dX2_numberAt_15 : decode cX2_numberAt 15 = .ok (.goto 18, 3) := by decide +kernel
theorem dX2_numberAt_18 : decode cX2_numberAt 18 = .ok (.bipush 10, 2) := by decide +kernel
theorem dX2_numberAt_20 : decode cX2_numberAt 20 = .ok (.iload_n 3, 1) := by decide +kernel
theorem dX2_numberAt_21 : decode cX2_numberAt 21 = .ok (.imul, 1) := by decide +kernel
theorem dX2_numberAt_22 : decode cX2_numberAt 22 = .ok (.aload_n 0, 1) := by decide +kernel
theorem dX2_numberAt_23 : decode cX2_numberAt 23 = .ok (.iload_n 1, 1) := by decide +kernel
theorem dX2_numberAt_24 : decode cX2_numberAt 24 = .ok (.iconst 1, 1) := by decide +kernel
theorem dX2_numberAt_25 : decode cX2_numberAt 25 = .ok (.iadd, 1) := by decide +kernel
theorem dX2_numberAt_26 : decode cX2_numberAt 26 = .ok (.invokevirtual 27, 3) := by decide +kernel
theorem dX2_numberAt_29 : decode cX2_numberAt 29 = .ok (.iadd, 1) := by decide +kernel
theorem dX2_numberAt_30 : decode cX2_numberAt 30 = .ok (.bipush 48, 2) := by decide +kernel
theorem dX2_numberAt_32 : decode cX2_numberAt 32 = .ok (.isub, 1) := by decide +kernel
theorem dX2_numberAt_33 : decode cX2_numberAt 33 = .ok (.ireturn, 1) := by decide +kernel
set_option maxRecDepth 20000 in
theorem ggX3_init_X5_init : GoodIn wsX3_init wsX5_init := goodIn_r _ [10, 11, 2, 3, 12, 13, 14, 17, 18, 19, 20, 21, 22, 23] (by decide +kernel) (by decide +kernel)
set_option maxRecDepth 20000 in
theorem gX3_init_X5_init : GoodIn wsX3_init (wsX5_init) := ggX3_init_X5_init
theorem dX3_init_0 : decode cX3_init 0 = .ok (.aload_n 0, 1) := by decide +kernel
theorem dX3_init_1 : decode cX3_init 1 = .ok (.invokespecial 1, 3) := by decide +kernel
theorem dX3_init_4 : decode cX3_init 4 = .ok (.aload_n 0, 1) := by decide +kernel
theorem dX3_init_5 : decode cX3_init 5 = .ok (.iload_n 1, 1) := by decide +kernel
theorem dX3_init_6 : decode cX3_init 6 = .ok (.ifCond .le 7, 3) := by decide +kernel
theorem dX3_init_9 : decode cX3_init 9 = .ok (.iload_n 1, 1) := by decide +kernel
theorem dX3_init_10 : decode cX3_init 10 = .ok (.goto 4, 3) := by decide +kernel
theorem dX3_init_13 : decode cX3_init 13 = .ok (.iconst 0, 1) := by decide +kernel
theorem dX3_init_14 : decode cX3_init 14 = .ok (.anewarray 7, 3) := by decide +kernel
theorem dX3_init_17 : decode cX3_init 17 = .ok (.putfield 9, 3) := by decide +kernel
theorem dX3_init_20 : decode cX3_init 20 = .ok (.iconst 0, 1) := by decide +kernel
theorem dX3_init_21 : decode cX3_init 21 = .ok (.istore_n 2, 1) := by decide +kernel
theorem dX3_init_22 : decode cX3_init 22 = .ok (.iload_n 2, 1) := by decide +kernel
theorem dX3_init_23 : decode cX3_init 23 = .ok (.aload_n 0, 1) := by decide +kernel
theorem dX3_init_24 : decode cX3_init 24 = .ok (.getfield 9, 3) := by decide +kernel
theorem dX3_init_27 : decode cX3_init 27 = .ok (.arraylength, 1) := by decide +kernel
theorem dX3_init_28 : decode cX3_init 28 = .ok (.if_icmp .ge 22, 3) := by decide +kernel
theorem dX3_init_31 : decode cX3_init 31 = .ok (.aload_n 0, 1) := by decide +kernel
theorem dX3_init_32 : decode cX3_init 32 = .ok (.getfield 9, 3) := by decide +kernel
theorem dX3_init_35 : decode cX3_init 35 = .ok (.iload_n 2, 1) := by decide +kernel
theorem dX3_init_36 : decode cX3_init 36 = .ok (.new 7, 3) := by decide +kernel
theorem dX3_init_39 : decode cX3_init 39 = .ok (.dup, 1) := by decide +kernel
theorem dX3_init_40 : decode cX3_init 40 = .ok (.invokespecial 15, 3) := by decide +kernel
theorem dX3_init_43 : decode cX3_init 43 = .ok (.aastore, 1) := by decide +kernel
theorem dX3_init_44 : decode cX3_init 44 = .ok (.iinc 2 1, 3) := by decide +kernel
theorem dX3_init_47 : decode cX3_init 47 = .ok (.goto (-25), 3) := by decide +kernel
theorem dX3_init_50 : decode cX3_init 50 = .ok (.return_, 1) := by decide +kernel
theorem dX3_isFull_0 : decode cX3_isFull 0 = .ok (.aload_n 0, 1) := by decide +kernel
theorem dX3_isFull_1 : decode cX3_isFull 1 = .ok (.getfield 16, 3) := by decide +kernel
theorem dX3_isFull_4 : decode cX3_isFull 4 = .ok (.aload_n 0, 1) := by decide +kernel
theorem dX3_isFull_5 : decode cX3_isFull 5 = .ok (.getfield 9, 3) := by decide +kernel
theorem dX3_isFull_8 : decode cX3_isFull 8 = .ok (.arraylength, 1) := by decide +kernel
theorem dX3_isFull_9 : decode cX3_isFull 9 = .ok (.if_icmp .lt 7, 3) := by decide +kernel
theorem dX3_isFull_12 : decode cX3_isFull 12 = .ok (.iconst 1, 1) := by decide +kernel
theorem dX3_isFull_13 : decode cX3_isFull 13 = .ok (.goto 4, 3) := by decide +kernel
theorem dX3_isFull_16 : decode cX3_isFull 16 = .ok (.iconst 0, 1) := by decide +kernel
theorem dX3_isFull_17 : decode cX3_isFull 17 = .ok (.ireturn, 1) := by decide +kernel
set_option maxRecDepth 20000 in
theorem ggX3_put_X3_isFull : GoodIn wsX3_put wsX3_isFull := goodIn_r _ [6, 1, 7, 31, 32] (by decide +kernel) (by decide +kernel)
set_option maxRecDepth 20000 in
theorem gX3_put_X3_isFull : GoodIn wsX3_put (wsV RX3 20 RX3 yX3_isFull wsX3_isFull) := goodIn_app (goodIn_of _ (by decide +kernel)) ggX3_put_X3_isFull
set_option maxRecDepth 20000 in
theorem ggX3_put_X3_dropLowest : GoodIn wsX3_put wsX3_dropLowest := goodIn_r _ [11, 7, 1, 12, 13, 14, 5, 15, 31, 32] (by decide +kernel) (by decide +kernel)
set_option maxRecDepth 20000 in
theorem gX3_put_X3_dropLowest : GoodIn wsX3_put (wsV RX3 24 RX3 yX3_dropLowest wsX3_dropLowest) := goodIn_app (goodIn_of _ (by decide +kernel)) ggX3_put_X3_dropLowest
set_option maxRecDepth 20000 in
theorem ggX3_put_X3_standAt : GoodIn wsX3_put wsX3_standAt := goodIn_r _ [15, 7, 31, 32] (by decide +kernel) (by decide +kernel)
set_option maxRecDepth 20000 in
theorem gX3_put_X3_standAt : GoodIn wsX3_put (wsV RX3 27 RX3 yX3_standAt wsX3_standAt) := goodIn_app (goodIn_of _ (by decide +kernel)) ggX3_put_X3_standAt
set_option maxRecDepth 20000 in
theorem ggX3_put_X5_copy : GoodIn wsX3_put wsX5_copy := goodIn_r _ [20, 21, 22, 23, 24, 25, 26, 27, 28, 29, 30, 33, 34, 35, 36, 37, 38, 39] (by decide +kernel) (by decide +kernel)
set_option maxRecDepth 20000 in
theorem gX3_put_X5_copy : GoodIn wsX3_put (wsV RX3 31 RX5 yX5_copy wsX5_copy) := goodIn_app (goodIn_of _ (by decide +kernel)) ggX3_put_X5_copy
theorem dX3_put_0 : decode cX3_put 0 = .ok (.aload_n 0, 1) := by decide +kernel
theorem dX3_put_1 : decode cX3_put 1 = .ok (.invokevirtual 20, 3) := by decide +kernel
theorem dX3_put_4 : decode cX3_put 4 = .ok (.ifCond .eq 7, 3) := by decide +kernel
theorem dX3_put_7 : decode cX3_put 7 = .ok (.aload_n 0, 1) := by decide +kernel
theorem dX3_put_8 : decode cX3_put 8 = .ok (.invokevirtual 24, 3) := by decide +kernel
theorem dX3_put_11 : decode cX3_put 11 = .ok (.aload_n 0, 1) := by decide +kernel
theorem dX3_put_12 : decode cX3_put 12 = .ok (.aload_n 0, 1) := by decide +kernel
theorem dX3_put_13 : decode cX3_put 13 = .ok (.getfield 16, 3) := by decide +kernel
theorem dX3_put_16 : decode cX3_put 16 = .ok (.invokevirtual 27, 3) := by decide +kernel
theorem dX3_put_19 : decode cX3_put 19 = .ok (.astore_n 2, 1) := by decide +kernel
theorem dX3_put_20 : decode cX3_put 20 = .ok (.aload_n 2, 1) := by decide +kernel
theorem dX3_put_21 : decode cX3_put 21 = .ok (.ifnull 18, 3) := by decide +kernel
theorem dX3_put_24 : decode cX3_put 24 = .ok (.aload_n 2, 1) := by decide +kernel
theorem dX3_put_25 : decode cX3_put 25 = .ok (.aload_n 1, 1) := by decide +kernel
theorem dX3_put_26 : decode cX3_put 26 = .ok (.invokevirtual 31, 3) := by decide +kernel
theorem dX3_put_29 : decode cX3_put 29 = .ok (.aload_n 0, 1) := by decide +kernel
theorem dX3_put_30 : decode cX3_put 30 = .ok (.dup, 1) := by decide +kernel
theorem dX3_put_31 : decode cX3_put 31 = .ok (.getfield 16, 3) := by decide +kernel
theorem dX3_put_34 : decode cX3_put 34 = .ok (.iconst 1, 1) := by decide +kernel
theorem dX3_put_35 : decode cX3_put 35 = .ok (.iadd, 1) := by decide +kernel
theorem dX3_put_36 : decode cX3_put 36 = .ok (.putfield 16, 3) := by decide +kernel
theorem dX3_put_39 : decode cX3_put 39 = .ok (.return_, 1) := by decide +kernel
set_option maxRecDepth 20000 in
theorem ggX3_takeInto_X3_standAt : GoodIn wsX3_takeInto wsX3_standAt := goodIn_r _ [6, 7, 23, 24] (by decide +kernel) (by decide +kernel)
set_option maxRecDepth 20000 in
theorem gX3_takeInto_X3_standAt : GoodIn wsX3_takeInto (wsV RX3 27 RX3 yX3_standAt wsX3_standAt) := goodIn_app (goodIn_of _ (by decide +kernel)) ggX3_takeInto_X3_standAt
set_option maxRecDepth 20000 in
theorem ggX3_takeInto_X5_copy : GoodIn wsX3_takeInto wsX5_copy := goodIn_r _ [12, 13, 14, 15, 16, 17, 18, 19, 20, 21, 22, 25, 26, 27, 28, 29, 30, 31] (by decide +kernel) (by decide +kernel)
set_option maxRecDepth 20000 in
theorem gX3_takeInto_X5_copy : GoodIn wsX3_takeInto (wsV RX3 31 RX5 yX5_copy wsX5_copy) := goodIn_app (goodIn_of _ (by decide +kernel)) ggX3_takeInto_X5_copy
theorem dX3_takeInto_0 : decode cX3_takeInto 0 = .ok (.aload_n 0, 1) := by decide +kernel
theorem dX3_takeInto_1 : decode cX3_takeInto 1 = .ok (.aload_n 0, 1) := by decide +kernel
theorem dX3_takeInto_2 : decode cX3_takeInto 2 = .ok (.getfield 16, 3) := by decide +kernel
theorem dX3_takeInto_5 : decode cX3_takeInto 5 = .ok (.iconst 1, 1) := by decide +kernel
theorem dX3_takeInto_6 : decode cX3_takeInto 6 = .ok (.isub, 1) := by decide +kernel
theorem dX3_takeInto_7 : decode cX3_takeInto 7 = .ok (.invokevirtual 27, 3) := by decide +kernel
theorem dX3_takeInto_10 : decode cX3_takeInto 10 = .ok (.astore_n 2, 1) := by decide +kernel
theorem dX3_takeInto_11 : decode cX3_takeInto 11 = .ok (.aload_n 2, 1) := by decide +kernel
theorem dX3_takeInto_12 : decode cX3_takeInto 12 = .ok (.ifnonnull 5, 3) := by decide +kernel
theorem dX3_takeInto_15 : decode cX3_takeInto 15 = .ok (.iconst 0, 1) := by decide +kernel
theorem dX3_takeInto_16 : decode cX3_takeInto 16 = .ok (.ireturn, 1) := by decide +kernel
theorem dX3_takeInto_17 : decode cX3_takeInto 17 = .ok (.aload_n 1, 1) := by decide +kernel
theorem dX3_takeInto_18 : decode cX3_takeInto 18 = .ok (.aload_n 2, 1) := by decide +kernel
theorem dX3_takeInto_19 : decode cX3_takeInto 19 = .ok (.invokevirtual 31, 3) := by decide +kernel
theorem dX3_takeInto_22 : decode cX3_takeInto 22 = .ok (.aload_n 0, 1) := by decide +kernel
theorem dX3_takeInto_23 : decode cX3_takeInto 23 = .ok (.dup, 1) := by decide +kernel
theorem dX3_takeInto_24 : decode cX3_takeInto 24 = .ok (.getfield 16, 3) := by decide +kernel
theorem dX3_takeInto_27 : decode cX3_takeInto 27 = .ok (.iconst 1, 1) := by decide +kernel
theorem dX3_takeInto_28 : decode cX3_takeInto 28 = .ok (.isub, 1) := by decide +kernel
theorem dX3_takeInto_29 : decode cX3_takeInto 29 = .ok (.putfield 16, 3) := by decide +kernel
theorem dX3_takeInto_32 : decode cX3_takeInto 32 = .ok (.iconst 1, 1) := by decide +kernel
theorem dX3_takeInto_33 : decode cX3_takeInto 33 = .ok (.ireturn, 1) := by decide +kernel
set_option maxRecDepth 20000 in
theorem ggX3_dropLowest_X3_standAt : GoodIn wsX3_dropLowest wsX3_standAt := goodIn_r _ [7, 1, 8, 9] (by decide +kernel) (by decide +kernel)
set_option maxRecDepth 20000 in
theorem gX3_dropLowest_X3_standAt : GoodIn wsX3_dropLowest (wsV RX3 27 RX3 yX3_standAt wsX3_standAt) := goodIn_app (goodIn_of _ (by decide +kernel)) ggX3_dropLowest_X3_standAt
theorem dX3_dropLowest_0 : decode cX3_dropLowest 0 = .ok (.aload_n 0, 1) := by decide +kernel
theorem dX3_dropLowest_1 : decode cX3_dropLowest 1 = .ok (.iconst 0, 1) := by decide +kernel
theorem dX3_dropLowest_2 : decode cX3_dropLowest 2 = .ok (.invokevirtual 27, 3) := by decide +kernel
theorem dX3_dropLowest_5 : decode cX3_dropLowest 5 = .ok (.astore_n 1, 1) := by decide +kernel
theorem dX3_dropLowest_6 : decode cX3_dropLowest 6 = .ok (.aload_n 1, 1) := by decide +kernel
theorem dX3_dropLowest_7 : decode cX3_dropLowest 7 = .ok (.ifnull 57, 3) := by decide +kernel
theorem dX3_dropLowest_10 : decode cX3_dropLowest 10 = .ok (.iconst 1, 1) := by decide +kernel
theorem dX3_dropLowest_11 : decode cX3_dropLowest 11 = .ok (.istore_n 2, 1) := by decide +kernel
theorem dX3_dropLowest_12 : decode cX3_dropLowest 12 = .ok (.iload_n 2, 1) := by decide +kernel
theorem dX3_dropLowest_13 : decode cX3_dropLowest 13 = .ok (.aload_n 0, 1) := by decide +kernel
theorem dX3_dropLowest_14 : decode cX3_dropLowest 14 = .ok (.getfield 9, 3) := by decide +kernel
theorem dX3_dropLowest_17 : decode cX3_dropLowest 17 = .ok (.arraylength, 1) := by decide +kernel
theorem dX3_dropLowest_18 : decode cX3_dropLowest 18 = .ok (.if_icmp .ge 23, 3) := by decide +kernel
theorem dX3_dropLowest_21 : decode cX3_dropLowest 21 = .ok (.aload_n 0, 1) := by decide +kernel
theorem dX3_dropLowest_22 : decode cX3_dropLowest 22 = .ok (.getfield 9, 3) := by decide +kernel
theorem dX3_dropLowest_25 : decode cX3_dropLowest 25 = .ok (.iload_n 2, 1) := by decide +kernel
theorem dX3_dropLowest_26 : decode cX3_dropLowest 26 = .ok (.iconst 1, 1) := by decide +kernel
theorem dX3_dropLowest_27 : decode cX3_dropLowest 27 = .ok (.isub, 1) := by decide +kernel
theorem dX3_dropLowest_28 : decode cX3_dropLowest 28 = .ok (.aload_n 0, 1) := by decide +kernel
theorem dX3_dropLowest_29 : decode cX3_dropLowest 29 = .ok (.getfield 9, 3) := by decide +kernel
theorem dX3_dropLowest_32 : decode cX3_dropLowest 32 = .ok (.iload_n 2, 1) := by decide +kernel
theorem dX3_dropLowest_33 : decode cX3_dropLowest 33 = .ok (.aaload, 1) := by decide +kernel
theorem dX3_dropLowest_34 : decode cX3_dropLowest 34 = .ok (.aastore, 1) := by decide +kernel
theorem dX3_dropLowest_35 : decode cX3_dropLowest 35 = .ok (.iinc 2 1, 3) := by decide +kernel
theorem dX3_dropLowest_38 : decode cX3_dropLowest 38 = .ok (.goto (-26), 3) := by decide +kernel
theorem dX3_dropLowest_41 : decode cX3_dropLowest 41 = .ok (.aload_n 0, 1) := by decide +kernel
theorem dX3_dropLowest_42 : decode cX3_dropLowest 42 = .ok (.getfield 9, 3) := by decide +kernel
theorem dX3_dropLowest_45 : decode cX3_dropLowest 45 = .ok (.aload_n 0, 1) := by decide +kernel
theorem dX3_dropLowest_46 : decode cX3_dropLowest 46 = .ok (.getfield 9, 3) := by decide +kernel
theorem dX3_dropLowest_49 : decode cX3_dropLowest 49 = .ok (.arraylength, 1) := by decide +kernel
theorem dX3_dropLowest_50 : decode cX3_dropLowest 50 = .ok (.iconst 1, 1) := by decide +kernel
theorem dX3_dropLowest_51 : decode cX3_dropLowest 51 = .ok (.isub, 1) := by decide +kernel
theorem dX3_dropLowest_52 : decode cX3_dropLowest 52 = .ok (.aload_n 1, 1) := by decide +kernel
theorem dX3_dropLowest_53 : decode cX3_dropLowest 53 = .ok (.aastore, 1) := by decide +kernel
theorem dX3_dropLowest_54 : decode cX3_dropLowest 54 = .ok (.aload_n 0, 1) := by decide +kernel
theorem dX3_dropLowest_55 : decode cX3_dropLowest 55 = .ok (.dup, 1) := by decide +kernel
theorem dX3_dropLowest_56 : decode cX3_dropLowest 56 = .ok (.getfield 16, 3) := by decide +kernel
theorem dX3_dropLowest_59 : decode cX3_dropLowest 59 = .ok (.iconst 1, 1) := by decide +kernel
theorem dX3_dropLowest_60 : decode cX3_dropLowest 60 = .ok (.isub, 1) := by decide +kernel
theorem dX3_dropLowest_61 : decode cX3_dropLowest 61 = .ok (.putfield 16, 3) := by decide +kernel
theorem dX3_dropLowest_64 : decode cX3_dropLowest 64 = .ok (.return_, 1) := by decide +kernel
theorem dX3_standAt_0 : decode cX3_standAt 0 = .ok (.iload_n 1, 1) := by decide +kernel
theorem dX3_standAt_1 : decode cX3_standAt 1 = .ok (.ifCond .lt 21, 3) := by decide +kernel
theorem dX3_standAt_4 : decode cX3_standAt 4 = .ok (.iload_n 1, 1) := by decide +kernel
theorem dX3_standAt_5 : decode cX3_standAt 5 = .ok (.aload_n 0, 1) := by decide +kernel
theorem dX3_standAt_6 : decode cX3_standAt 6 = .ok (.getfield 9, 3) := by decide +kernel
theorem dX3_standAt_9 : decode cX3_standAt 9 = .ok (.arraylength, 1) := by decide +kernel
theorem dX3_standAt_10 : decode cX3_standAt 10 = .ok (.if_icmp .ge 12, 3) := by decide +kernel
theorem dX3_standAt_13 : decode cX3_standAt 13 = .ok (.aload_n 0, 1) := by decide +kernel
theorem dX3_standAt_14 : decode cX3_standAt 14 = .ok (.getfield 9, 3) := by decide +kernel
theorem dX3_standAt_17 : decode cX3_standAt 17 = .ok (.iload_n 1, 1) := by decide +kernel
theorem dX3_standAt_18 : decode cX3_standAt 18 = .ok (.aaload, 1) := by decide +kernel
theorem dX3_standAt_19 : decode cX3_standAt 19 = .ok (.goto 4, 3) := by decide +kernel
theorem dX3_standAt_22 : decode cX3_standAt 22 = .ok (.aconst_null, 1) := by decide +kernel
theorem dX3_standAt_23 : decode cX3_standAt 23 = .ok (.areturn, 1) := by decide +kernel
theorem dX4_init_0 : decode cX4_init 0 = .ok (.aload_n 0, 1) := by decide +kernel
theorem dX4_init_1 : decode cX4_init 1 = .ok (.invokespecial 3, 3) := by decide +kernel
theorem dX4_init_4 : decode cX4_init 4 = .ok (.aload_n 0, 1) := by decide +kernel
theorem dX4_init_5 : decode cX4_init 5 = .ok (.bipush 81, 2) := by decide +kernel
theorem dX4_init_7 : decode cX4_init 7 = .ok (.newarray .int, 2) := by decide +kernel
theorem dX4_init_9 : decode cX4_init 9 = .ok (.putfield 9, 3) := by decide +kernel
theorem dX4_init_12 : decode cX4_init 12 = .ok (.aload_n 0, 1) := by decide +kernel
theorem dX4_init_13 : decode cX4_init 13 = .ok (.bipush 81, 2) := by decide +kernel
theorem dX4_init_15 : decode cX4_init 15 = .ok (.newarray .int, 2) := by decide +kernel
theorem dX4_init_17 : decode cX4_init 17 = .ok (.putfield 15, 3) := by decide +kernel
theorem dX4_init_20 : decode cX4_init 20 = .ok (.aload_n 0, 1) := by decide +kernel
theorem dX4_init_21 : decode cX4_init 21 = .ok (.bipush 81, 2) := by decide +kernel
theorem dX4_init_23 : decode cX4_init 23 = .ok (.newarray .int, 2) := by decide +kernel
theorem dX4_init_25 : decode cX4_init 25 = .ok (.putfield 18, 3) := by decide +kernel
theorem dX4_init_28 : decode cX4_init 28 = .ok (.aload_n 0, 1) := by decide +kernel
theorem dX4_init_29 : decode cX4_init 29 = .ok (.bipush 81, 2) := by decide +kernel
theorem dX4_init_31 : decode cX4_init 31 = .ok (.newarray .int, 2) := by decide +kernel
theorem dX4_init_33 : decode cX4_init 33 = .ok (.putfield 21, 3) := by decide +kernel
theorem dX4_init_36 : decode cX4_init 36 = .ok (.aload_n 0, 1) := by decide +kernel
theorem dX4_init_37 : decode cX4_init 37 = .ok (.bipush 81, 2) := by decide +kernel
theorem dX4_init_39 : decode cX4_init 39 = .ok (.newarray .boolean, 2) := by decide +kernel
theorem dX4_init_41 : decode cX4_init 41 = .ok (.putfield 24, 3) := by decide +kernel
theorem dX4_init_44 : decode cX4_init 44 = .ok (.aload_n 0, 1) := by decide +kernel
theorem dX4_init_45 : decode cX4_init 45 = .ok (.bipush 9, 2) := by decide +kernel
theorem dX4_init_47 : decode cX4_init 47 = .ok (.newarray .int, 2) := by decide +kernel
theorem dX4_init_49 : decode cX4_init 49 = .ok (.putfield 28, 3) := by decide +kernel
theorem dX4_init_52 : decode cX4_init 52 = .ok (.return_, 1) := by decide +kernel
set_option maxRecDepth 20000 in
theorem ggX4_find_X0_allSo : GoodIn wsX4_find wsX0_allSo := goodIn_r _ [9, 10, 11, 12, 13, 14, 15, 16, 17, 18, 19, 20, 21, 22, 23, 24, 25, 26, 27, 28, 29, 30, 31, 32, 33, 34, 35, 36, 37, 38, 39, 40, 92, 93, 94, 95, 96, 97, 98, 99, 100, 101, 102, 103, 104, 105, 85, 86, 87, 88, 89, 90, 91] (by decide +kernel) (by decide +kernel)
set_option maxRecDepth 20000 in
theorem gX4_find_X0_allSo : GoodIn wsX4_find (wsV RX4 35 RX0 yX0_allSo wsX0_allSo) := goodIn_app (goodIn_of _ (by decide +kernel)) ggX4_find_X0_allSo
set_option maxRecDepth 20000 in
theorem ggX4_find_X4_clear : GoodIn wsX4_find wsX4_clear := goodIn_r _ [45, 3, 46, 77, 78, 79, 80, 81, 82, 83, 84] (by decide +kernel) (by decide +kernel)
set_option maxRecDepth 20000 in
theorem gX4_find_X4_clear : GoodIn wsX4_find (wsV RX4 41 RX4 yX4_clear wsX4_clear) := goodIn_app (goodIn_of _ (by decide +kernel)) ggX4_find_X4_clear
set_option maxRecDepth 20000 in
theorem ggX4_find_X4_come : GoodIn wsX4_find wsX4_come := goodIn_r _ [50, 46, 51, 3, 52, 53, 4, 54, 16, 55, 77, 78, 79, 80, 81, 82, 83, 84] (by decide +kernel) (by decide +kernel)
set_option maxRecDepth 20000 in
theorem gX4_find_X4_come : GoodIn wsX4_find (wsV RX4 49 RX4 yX4_come wsX4_come) := goodIn_app (goodIn_of _ (by decide +kernel)) ggX4_find_X4_come
set_option maxRecDepth 20000 in
theorem ggX4_find_X7_cell : GoodIn wsX4_find wsX7_cell := goodIn_r _ [17] (by decide +kernel) (by decide +kernel)
set_option maxRecDepth 20000 in
theorem gX4_find_X7_cell_n56 : GoodIn wsX4_find (wsX7_cell) := ggX4_find_X7_cell
set_option maxRecDepth 20000 in
theorem ggX4_find_X4_leave : GoodIn wsX4_find wsX4_leave := goodIn_r _ [59, 51, 60, 61, 62, 2, 4, 15, 16, 17, 63, 64, 65, 66, 67, 68, 69, 70, 71, 5, 6, 7, 8, 9, 10, 11, 12, 13, 14, 18, 19, 20, 21, 22, 23, 24, 25, 26, 27, 28, 29, 30, 31, 32, 33, 34, 35, 36, 37, 38, 39, 40, 72, 73, 74, 44, 75, 1, 76, 53, 52, 54, 55, 47, 48, 49, 50, 46, 3, 77, 78, 79, 80, 81, 82, 83, 84, 85, 86, 87, 88, 89, 90, 91, 95, 96, 97, 98, 99, 100, 101, 102, 103, 104, 105, 92, 93, 94] (by decide +kernel) (by decide +kernel)
set_option maxRecDepth 20000 in
theorem gX4_find_X4_leave : GoodIn wsX4_find (wsV RX4 60 RX4 yX4_leave wsX4_leave) := goodIn_app (goodIn_of _ (by decide +kernel)) ggX4_find_X4_leave
theorem dX4_find_0 : decode cX4_find 0 = .ok (.aload_n 0, 1) := by decide +kernel
theorem dX4_find_1 : decode cX4_find 1 = .ok (.iconst 0, 1) := by decide +kernel
theorem dX4_find_2 : decode cX4_find 2 = .ok (.putfield 31, 3) := by decide +kernel
theorem dX4_find_5 : decode cX4_find 5 = .ok (.aload_n 3, 1) := by decide +kernel
theorem dX4_find_6 : decode cX4_find 6 = .ok (.aload_n 1, 1) := by decide +kernel
theorem dX4_find_7 : decode cX4_find 7 = .ok (.aload_n 2, 1) := by decide +kernel
theorem dX4_find_8 : decode cX4_find 8 = .ok (.invokevirtual 35, 3) := by decide +kernel
theorem dX4_find_11 : decode cX4_find 11 = .ok (.ifCond .eq 5, 3) := by decide +kernel
theorem dX4_find_14 : decode cX4_find 14 = .ok (.iconst 1, 1) := by decide +kernel
theorem dX4_find_15 : decode cX4_find 15 = .ok (.ireturn, 1) := by decide +kernel
theorem dX4_find_16 : decode cX4_find 16 = .ok (.aload_n 0, 1) := by decide +kernel
theorem dX4_find_17 : decode cX4_find 17 = .ok (.invokevirtual 41, 3) := by decide +kernel
theorem dX4_find_20 : decode cX4_find 20 = .ok (.aload_n 0, 1) := by decide +kernel
theorem dX4_find_21 : decode cX4_find 21 = .ok (.aload_n 2, 1) := by decide +kernel
theorem dX4_find_22 : decode cX4_find 22 = .ok (.getfield 44, 3) := by decide +kernel
theorem dX4_find_25 : decode cX4_find 25 = .ok (.iconst 0, 1) := by decide +kernel
theorem dX4_find_26 : decode cX4_find 26 = .ok (.iconst 0, 1) := by decide +kernel
theorem dX4_find_27 : decode cX4_find 27 = .ok (.iconst 0, 1) := by decide +kernel
theorem dX4_find_28 : decode cX4_find 28 = .ok (.invokevirtual 49, 3) := by decide +kernel
theorem dX4_find_31 : decode cX4_find 31 = .ok (.iconst 0, 1) := by decide +kernel
theorem dX4_find_32 : decode cX4_find 32 = .ok (.istore 4, 2) := by decide +kernel
theorem dX4_find_34 : decode cX4_find 34 = .ok (.iload 4, 2) := by decide +kernel
theorem dX4_find_36 : decode cX4_find 36 = .ok (.bipush 81, 2) := by decide +kernel
theorem dX4_find_38 : decode cX4_find 38 = .ok (.if_icmp .ge 48, 3) := by decide +kernel
theorem dX4_find_41 : decode cX4_find 41 = .ok (.iload 4, 2) := by decide +kernel
theorem dX4_find_43 : decode cX4_find 43 = .ok (.aload_n 0, 1) := by decide +kernel
theorem dX4_find_44 : decode cX4_find 44 = .ok (.getfield 53, 3) := by decide +kernel
theorem dX4_find_47 : decode cX4_find 47 = .ok (.if_icmp .ge 39, 3) := by decide +kernel
theorem dX4_find_50 : decode cX4_find 50 = .ok (.aload_n 0, 1) := by decide +kernel
theorem dX4_find_51 : decode cX4_find 51 = .ok (.getfield 21, 3) := by decide +kernel
theorem dX4_find_54 : decode cX4_find 54 = .ok (.iload 4, 2) := by decide +kernel
theorem dX4_find_56 : decode cX4_find 56 = .ok (.invokestatic 56, 3) := by decide +kernel
theorem dX4_find_59 : decode cX4_find 59 = .ok (.bipush 9, 2) := by decide +kernel
theorem dX4_find_61 : decode cX4_find 61 = .ok (.if_icmp .lt 5, 3) := by decide +kernel
theorem dX4_find_64 : decode cX4_find 64 = .ok (.iconst 0, 1) := by decide +kernel
theorem dX4_find_65 : decode cX4_find 65 = .ok (.ireturn, 1) := by decide +kernel
theorem dX4_find_66 : decode cX4_find 66 = .ok (.aload_n 0, 1) := by decide +kernel
theorem dX4_find_67 : decode cX4_find 67 = .ok (.iload 4, 2) := by decide +kernel
theorem dX4_find_69 : decode cX4_find 69 = .ok (.aload_n 1, 1) := by decide +kernel
theorem dX4_find_70 : decode cX4_find 70 = .ok (.aload_n 2, 1) := by decide +kernel
theorem dX4_find_71 : decode cX4_find 71 = .ok (.aload_n 3, 1) := by decide +kernel
theorem dX4_find_72 : decode cX4_find 72 = .ok (.invokevirtual 60, 3) := by decide +kernel
theorem dX4_find_75 : decode cX4_find 75 = .ok (.ifCond .eq 5, 3) := by decide +kernel
theorem dX4_find_78 : decode cX4_find 78 = .ok (.iconst 1, 1) := by decide +kernel
theorem dX4_find_79 : decode cX4_find 79 = .ok (.ireturn, 1) := by decide +kernel
theorem dX4_find_80 : decode cX4_find 80 = .ok (.iinc 4 1, 3) := by decide +kernel
theorem dX4_find_83 : decode cX4_find 83 = .ok (.goto (-49), 3) := by decide +kernel
theorem dX4_find_86 : decode cX4_find 86 = .ok (.iconst 0, 1) := by decide +kernel
theorem dX4_find_87 : decode cX4_find 87 = .ok (.ireturn, 1) := by decide +kernel
theorem dX4_clear_0 : decode cX4_clear 0 = .ok (.aload_n 0, 1) := by decide +kernel
theorem dX4_clear_1 : decode cX4_clear 1 = .ok (.iconst 0, 1) := by decide +kernel
theorem dX4_clear_2 : decode cX4_clear 2 = .ok (.putfield 53, 3) := by decide +kernel
theorem dX4_clear_5 : decode cX4_clear 5 = .ok (.iconst 0, 1) := by decide +kernel
theorem dX4_clear_6 : decode cX4_clear 6 = .ok (.istore_n 1, 1) := by decide +kernel
theorem dX4_clear_7 : decode cX4_clear 7 = .ok (.iload_n 1, 1) := by decide +kernel
theorem dX4_clear_8 : decode cX4_clear 8 = .ok (.aload_n 0, 1) := by decide +kernel
theorem dX4_clear_9 : decode cX4_clear 9 = .ok (.getfield 24, 3) := by decide +kernel
theorem dX4_clear_12 : decode cX4_clear 12 = .ok (.arraylength, 1) := by decide +kernel
theorem dX4_clear_13 : decode cX4_clear 13 = .ok (.if_icmp .ge 16, 3) := by decide +kernel
theorem dX4_clear_16 : decode cX4_clear 16 = .ok (.aload_n 0, 1) := by decide +kernel
theorem dX4_clear_17 : decode cX4_clear 17 = .ok (.getfield 24, 3) := by decide +kernel
theorem dX4_clear_20 : decode cX4_clear 20 = .ok (.iload_n 1, 1) := by decide +kernel
theorem dX4_clear_21 : decode cX4_clear 21 = .ok (.iconst 0, 1) := by decide +kernel
theorem dX4_clear_22 : decode cX4_clear 22 = .ok (.bastore, 1) := by decide +kernel
theorem dX4_clear_23 : decode cX4_clear 23 = .ok (.iinc 1 1, 3) := by decide +kernel
theorem dX4_clear_26 : decode cX4_clear 26 = .ok (.goto (-19), 3) := by decide +kernel
theorem dX4_clear_29 : decode cX4_clear 29 = .ok (.return_, 1) := by decide +kernel
set_option maxRecDepth 20000 in
theorem ggX4_leave_X7_cell : GoodIn wsX4_leave wsX7_cell := goodIn_r _ [9] (by decide +kernel) (by decide +kernel)
set_option maxRecDepth 20000 in
theorem gX4_leave_X7_cell_n56 : GoodIn wsX4_leave (wsX7_cell) := ggX4_leave_X7_cell
set_option maxRecDepth 20000 in
theorem ggX4_leave_X7_shiftBehind : GoodIn wsX4_leave wsX7_shiftBehind := goodIn_r _ [11, 12, 13, 14, 15, 16, 17, 18] (by decide +kernel) (by decide +kernel)
set_option maxRecDepth 20000 in
theorem gX4_leave_X7_shiftBehind_n75 : GoodIn wsX4_leave (wsX7_shiftBehind) := ggX4_leave_X7_shiftBehind
set_option maxRecDepth 20000 in
theorem ggX4_leave_X0_allSo : GoodIn wsX4_leave wsX0_allSo := goodIn_r _ [23, 24, 25, 26, 27, 28, 7, 8, 9, 29, 30, 31, 32, 33, 34, 35, 36, 37, 38, 39, 40, 41, 42, 43, 44, 45, 46, 47, 48, 49, 50, 51, 95, 96, 97, 84, 85, 86, 87, 88, 89, 90, 91, 92, 93, 94, 77, 78, 79, 80, 81, 82, 83] (by decide +kernel) (by decide +kernel)
set_option maxRecDepth 20000 in
theorem gX4_leave_X0_allSo : GoodIn wsX4_leave (wsV RX4 35 RX0 yX0_allSo wsX0_allSo) := goodIn_app (goodIn_of _ (by decide +kernel)) ggX4_leave_X0_allSo
set_option maxRecDepth 20000 in
theorem ggX4_leave_X4_writeRow : GoodIn wsX4_leave wsX4_writeRow := goodIn_r _ [56, 6, 57, 58, 59, 60, 7, 8, 9, 61, 62, 69, 70, 71, 72, 73, 74, 75, 76] (by decide +kernel) (by decide +kernel)
set_option maxRecDepth 20000 in
theorem gX4_leave_X4_writeRow : GoodIn wsX4_leave (wsV RX4 79 RX4 yX4_writeRow wsX4_writeRow) := goodIn_app (goodIn_of _ (by decide +kernel)) ggX4_leave_X4_writeRow
set_option maxRecDepth 20000 in
theorem ggX4_leave_X4_come : GoodIn wsX4_leave wsX4_come := goodIn_r _ [66, 67, 1, 68, 60, 59, 6, 61, 8, 62, 69, 70, 71, 72, 73, 74, 75, 76] (by decide +kernel) (by decide +kernel)
set_option maxRecDepth 20000 in
theorem gX4_leave_X4_come : GoodIn wsX4_leave (wsV RX4 49 RX4 yX4_come wsX4_come) := goodIn_app (goodIn_of _ (by decide +kernel)) ggX4_leave_X4_come
theorem dX4_leave_0 : decode cX4_leave 0 = .ok (.aload_n 3, 1) := by decide +kernel
theorem dX4_leave_1 : decode cX4_leave 1 = .ok (.aload_n 0, 1) := by decide +kernel
theorem dX4_leave_2 : decode cX4_leave 2 = .ok (.getfield 9, 3) := by decide +kernel
theorem dX4_leave_5 : decode cX4_leave 5 = .ok (.iload_n 1, 1) := by decide +kernel
theorem dX4_leave_6 : decode cX4_leave 6 = .ok (.invokestatic 56, 3) := by decide +kernel
theorem dX4_leave_9 : decode cX4_leave 9 = .ok (.bipush 40, 2) := by decide +kernel
theorem dX4_leave_11 : decode cX4_leave 11 = .ok (.isub, 1) := by decide +kernel
theorem dX4_leave_12 : decode cX4_leave 12 = .ok (.putfield 64, 3) := by decide +kernel
theorem dX4_leave_15 : decode cX4_leave 15 = .ok (.iconst 0, 1) := by decide +kernel
theorem dX4_leave_16 : decode cX4_leave 16 = .ok (.istore 5, 2) := by decide +kernel
theorem dX4_leave_18 : decode cX4_leave 18 = .ok (.iload 5, 2) := by decide +kernel
theorem dX4_leave_20 : decode cX4_leave 20 = .ok (.aload_n 2, 1) := by decide +kernel
theorem dX4_leave_21 : decode cX4_leave 21 = .ok (.getfield 67, 3) := by decide +kernel
theorem dX4_leave_24 : decode cX4_leave 24 = .ok (.if_icmp .ge 98, 3) := by decide +kernel
theorem dX4_leave_27 : decode cX4_leave 27 = .ok (.iconst 0, 1) := by decide +kernel
theorem dX4_leave_28 : decode cX4_leave 28 = .ok (.istore 6, 2) := by decide +kernel
theorem dX4_leave_30 : decode cX4_leave 30 = .ok (.iload 6, 2) := by decide +kernel
theorem dX4_leave_32 : decode cX4_leave 32 = .ok (.iconst 1, 1) := by decide +kernel
theorem dX4_leave_33 : decode cX4_leave 33 = .ok (.if_icmp .gt 83, 3) := by decide +kernel
theorem dX4_leave_36 : decode cX4_leave 36 = .ok (.aload_n 3, 1) := by decide +kernel
theorem dX4_leave_37 : decode cX4_leave 37 = .ok (.aload_n 3, 1) := by decide +kernel
theorem dX4_leave_38 : decode cX4_leave 38 = .ok (.getfield 64, 3) := by decide +kernel
theorem dX4_leave_41 : decode cX4_leave 41 = .ok (.aload_n 2, 1) := by decide +kernel
theorem dX4_leave_42 : decode cX4_leave 42 = .ok (.getfield 72, 3) := by decide +kernel
theorem dX4_leave_45 : decode cX4_leave 45 = .ok (.iload 5, 2) := by decide +kernel
theorem dX4_leave_47 : decode cX4_leave 47 = .ok (.invokestatic 56, 3) := by decide +kernel
theorem dX4_leave_50 : decode cX4_leave 50 = .ok (.iload 6, 2) := by decide +kernel
theorem dX4_leave_52 : decode cX4_leave 52 = .ok (.invokestatic 75, 3) := by decide +kernel
theorem dX4_leave_55 : decode cX4_leave 55 = .ok (.putfield 44, 3) := by decide +kernel
theorem dX4_leave_58 : decode cX4_leave 58 = .ok (.aload 4, 2) := by decide +kernel
theorem dX4_leave_60 : decode cX4_leave 60 = .ok (.aload_n 2, 1) := by decide +kernel
theorem dX4_leave_61 : decode cX4_leave 61 = .ok (.aload_n 3, 1) := by decide +kernel
theorem dX4_leave_62 : decode cX4_leave 62 = .ok (.invokevirtual 35, 3) := by decide +kernel
theorem dX4_leave_65 : decode cX4_leave 65 = .ok (.ifCond .eq 18, 3) := by decide +kernel
theorem dX4_leave_68 : decode cX4_leave 68 = .ok (.aload_n 0, 1) := by decide +kernel
theorem dX4_leave_69 : decode cX4_leave 69 = .ok (.iload_n 1, 1) := by decide +kernel
theorem dX4_leave_70 : decode cX4_leave 70 = .ok (.bipush 10, 2) := by decide +kernel
theorem dX4_leave_72 : decode cX4_leave 72 = .ok (.iload 5, 2) := by decide +kernel
theorem dX4_leave_74 : decode cX4_leave 74 = .ok (.imul, 1) := by decide +kernel
theorem dX4_leave_75 : decode cX4_leave 75 = .ok (.iload 6, 2) := by decide +kernel
theorem dX4_leave_77 : decode cX4_leave 77 = .ok (.iadd, 1) := by decide +kernel
theorem dX4_leave_78 : decode cX4_leave 78 = .ok (.invokevirtual 79, 3) := by decide +kernel
theorem dX4_leave_81 : decode cX4_leave 81 = .ok (.iconst 1, 1) := by decide +kernel
theorem dX4_leave_82 : decode cX4_leave 82 = .ok (.ireturn, 1) := by decide +kernel
theorem dX4_leave_83 : decode cX4_leave 83 = .ok (.aload_n 0, 1) := by decide +kernel
theorem dX4_leave_84 : decode cX4_leave 84 = .ok (.aload_n 3, 1) := by decide +kernel
theorem dX4_leave_85 : decode cX4_leave 85 = .ok (.getfield 44, 3) := by decide +kernel
theorem dX4_leave_88 : decode cX4_leave 88 = .ok (.iload_n 1, 1) := by decide +kernel
theorem dX4_leave_89 : decode cX4_leave 89 = .ok (.bipush 10, 2) := by decide +kernel
theorem dX4_leave_91 : decode cX4_leave 91 = .ok (.iload 5, 2) := by decide +kernel
theorem dX4_leave_93 : decode cX4_leave 93 = .ok (.imul, 1) := by decide +kernel
theorem dX4_leave_94 : decode cX4_leave 94 = .ok (.iload 6, 2) := by decide +kernel
theorem dX4_leave_96 : decode cX4_leave 96 = .ok (.iadd, 1) := by decide +kernel
theorem dX4_leave_97 : decode cX4_leave 97 = .ok (.aload_n 0, 1) := by decide +kernel
theorem dX4_leave_98 : decode cX4_leave 98 = .ok (.getfield 21, 3) := by decide +kernel
theorem dX4_leave_101 : decode cX4_leave 101 = .ok (.iload_n 1, 1) := by decide +kernel
theorem dX4_leave_102 : decode cX4_leave 102 = .ok (.invokestatic 56, 3) := by decide +kernel
theorem dX4_leave_105 : decode cX4_leave 105 = .ok (.iconst 1, 1) := by decide +kernel
theorem dX4_leave_106 : decode cX4_leave 106 = .ok (.iadd, 1) := by decide +kernel
theorem dX4_leave_107 : decode cX4_leave 107 = .ok (.invokevirtual 49, 3) := by decide +kernel
theorem dX4_leave_110 : decode cX4_leave 110 = .ok (.iinc 6 1, 3) := by decide +kernel
theorem dX4_leave_113 : decode cX4_leave 113 = .ok (.goto (-83), 3) := by decide +kernel
theorem dX4_leave_116 : decode cX4_leave 116 = .ok (.iinc 5 1, 3) := by decide +kernel
theorem dX4_leave_119 : decode cX4_leave 119 = .ok (.goto (-101), 3) := by decide +kernel
theorem dX4_leave_122 : decode cX4_leave 122 = .ok (.iconst 0, 1) := by decide +kernel
theorem dX4_leave_123 : decode cX4_leave 123 = .ok (.ireturn, 1) := by decide +kernel
set_option maxRecDepth 20000 in
theorem ggX4_come_X7_setCell : GoodIn wsX4_come wsX7_setCell := goodIn_r _ [9] (by decide +kernel) (by decide +kernel)
set_option maxRecDepth 20000 in
theorem gX4_come_X7_setCell_n83 : GoodIn wsX4_come (wsX7_setCell) := ggX4_come_X7_setCell
theorem dX4_come_0 : decode cX4_come 0 = .ok (.iload_n 1, 1) := by decide +kernel
theorem dX4_come_1 : decode cX4_come 1 = .ok (.bipush 40, 2) := by decide +kernel
theorem dX4_come_3 : decode cX4_come 3 = .ok (.iadd, 1) := by decide +kernel
theorem dX4_come_4 : decode cX4_come 4 = .ok (.istore 5, 2) := by decide +kernel
theorem dX4_come_6 : decode cX4_come 6 = .ok (.iload 5, 2) := by decide +kernel
theorem dX4_come_8 : decode cX4_come 8 = .ok (.ifCond .lt 91, 3) := by decide +kernel
theorem dX4_come_11 : decode cX4_come 11 = .ok (.iload 5, 2) := by decide +kernel
theorem dX4_come_13 : decode cX4_come 13 = .ok (.aload_n 0, 1) := by decide +kernel
theorem dX4_come_14 : decode cX4_come 14 = .ok (.getfield 24, 3) := by decide +kernel
theorem dX4_come_17 : decode cX4_come 17 = .ok (.arraylength, 1) := by decide +kernel
theorem dX4_come_18 : decode cX4_come 18 = .ok (.if_icmp .ge 81, 3) := by decide +kernel
theorem dX4_come_21 : decode cX4_come 21 = .ok (.aload_n 0, 1) := by decide +kernel
theorem dX4_come_22 : decode cX4_come 22 = .ok (.getfield 24, 3) := by decide +kernel
theorem dX4_come_25 : decode cX4_come 25 = .ok (.iload 5, 2) := by decide +kernel
theorem dX4_come_27 : decode cX4_come 27 = .ok (.baload, 1) := by decide +kernel
theorem dX4_come_28 : decode cX4_come 28 = .ok (.ifCond .ne 71, 3) := by decide +kernel
theorem dX4_come_31 : decode cX4_come 31 = .ok (.aload_n 0, 1) := by decide +kernel
theorem dX4_come_32 : decode cX4_come 32 = .ok (.getfield 24, 3) := by decide +kernel
theorem dX4_come_35 : decode cX4_come 35 = .ok (.iload 5, 2) := by decide +kernel
theorem dX4_come_37 : decode cX4_come 37 = .ok (.iconst 1, 1) := by decide +kernel
theorem dX4_come_38 : decode cX4_come 38 = .ok (.bastore, 1) := by decide +kernel
theorem dX4_come_39 : decode cX4_come 39 = .ok (.aload_n 0, 1) := by decide +kernel
theorem dX4_come_40 : decode cX4_come 40 = .ok (.getfield 9, 3) := by decide +kernel
theorem dX4_come_43 : decode cX4_come 43 = .ok (.aload_n 0, 1) := by decide +kernel
theorem dX4_come_44 : decode cX4_come 44 = .ok (.getfield 53, 3) := by decide +kernel
theorem dX4_come_47 : decode cX4_come 47 = .ok (.iload 5, 2) := by decide +kernel
theorem dX4_come_49 : decode cX4_come 49 = .ok (.invokestatic 83, 3) := by decide +kernel
theorem dX4_come_52 : decode cX4_come 52 = .ok (.aload_n 0, 1) := by decide +kernel
theorem dX4_come_53 : decode cX4_come 53 = .ok (.getfield 15, 3) := by decide +kernel
theorem dX4_come_56 : decode cX4_come 56 = .ok (.aload_n 0, 1) := by decide +kernel
theorem dX4_come_57 : decode cX4_come 57 = .ok (.getfield 53, 3) := by decide +kernel
theorem dX4_come_60 : decode cX4_come 60 = .ok (.iload_n 2, 1) := by decide +kernel
theorem dX4_come_61 : decode cX4_come 61 = .ok (.invokestatic 83, 3) := by decide +kernel
theorem dX4_come_64 : decode cX4_come 64 = .ok (.aload_n 0, 1) := by decide +kernel
theorem dX4_come_65 : decode cX4_come 65 = .ok (.getfield 18, 3) := by decide +kernel
theorem dX4_come_68 : decode cX4_come 68 = .ok (.aload_n 0, 1) := by decide +kernel
theorem dX4_come_69 : decode cX4_come 69 = .ok (.getfield 53, 3) := by decide +kernel
theorem dX4_come_72 : decode cX4_come 72 = .ok (.iload_n 3, 1) := by decide +kernel
theorem dX4_come_73 : decode cX4_come 73 = .ok (.invokestatic 83, 3) := by decide +kernel
theorem dX4_come_76 : decode cX4_come 76 = .ok (.aload_n 0, 1) := by decide +kernel
theorem dX4_come_77 : decode cX4_come 77 = .ok (.getfield 21, 3) := by decide +kernel
theorem dX4_come_80 : decode cX4_come 80 = .ok (.aload_n 0, 1) := by decide +kernel
theorem dX4_come_81 : decode cX4_come 81 = .ok (.getfield 53, 3) := by decide +kernel
theorem dX4_come_84 : decode cX4_come 84 = .ok (.iload 4, 2) := by decide +kernel
theorem dX4_come_86 : decode cX4_come 86 = .ok (.invokestatic 83, 3) := by decide +kernel
theorem dX4_come_89 : decode cX4_come 89 = .ok (.aload_n 0, 1) := by decide +kernel
theorem dX4_come_90 : decode cX4_come 90 = .ok (.dup, 1) := by decide +kernel
theorem dX4_come_91 : decode cX4_come 91 = .ok (.getfield 53, 3) := by decide +kernel
theorem dX4_come_94 : decode cX4_come 94 = .ok (.iconst 1, 1) := by decide +kernel
theorem dX4_come_95 : decode cX4_come 95 = .ok (.iadd, 1) := by decide +kernel
theorem dX4_come_96 : decode cX4_come 96 = .ok (.putfield 53, 3) := by decide +kernel
theorem dX4_come_99 : decode cX4_come 99 = .ok (.return_, 1) := by decide +kernel
set_option maxRecDepth 20000 in
theorem ggX4_writeRow_X7_cell : GoodIn wsX4_writeRow wsX7_cell := goodIn_r _ [8] (by decide +kernel) (by decide +kernel)
set_option maxRecDepth 20000 in
theorem gX4_writeRow_X7_cell_n56 : GoodIn wsX4_writeRow (wsX7_cell) := ggX4_writeRow_X7_cell
set_option maxRecDepth 20000 in
theorem ggX4_writeRow_X7_setCell : GoodIn wsX4_writeRow wsX7_setCell := goodIn_r _ [10] (by decide +kernel) (by decide +kernel)
set_option maxRecDepth 20000 in
theorem gX4_writeRow_X7_setCell_n83 : GoodIn wsX4_writeRow (wsX7_setCell) := ggX4_writeRow_X7_setCell
theorem dX4_writeRow_0 : decode cX4_writeRow 0 = .ok (.aload_n 0, 1) := by decide +kernel
theorem dX4_writeRow_1 : decode cX4_writeRow 1 = .ok (.aload_n 0, 1) := by decide +kernel
theorem dX4_writeRow_2 : decode cX4_writeRow 2 = .ok (.getfield 21, 3) := by decide +kernel
theorem dX4_writeRow_5 : decode cX4_writeRow 5 = .ok (.iload_n 1, 1) := by decide +kernel
theorem dX4_writeRow_6 : decode cX4_writeRow 6 = .ok (.invokestatic 56, 3) := by decide +kernel
theorem dX4_writeRow_9 : decode cX4_writeRow 9 = .ok (.iconst 1, 1) := by decide +kernel
theorem dX4_writeRow_10 : decode cX4_writeRow 10 = .ok (.iadd, 1) := by decide +kernel
theorem dX4_writeRow_11 : decode cX4_writeRow 11 = .ok (.putfield 31, 3) := by decide +kernel
theorem dX4_writeRow_14 : decode cX4_writeRow 14 = .ok (.aload_n 0, 1) := by decide +kernel
theorem dX4_writeRow_15 : decode cX4_writeRow 15 = .ok (.getfield 28, 3) := by decide +kernel
theorem dX4_writeRow_18 : decode cX4_writeRow 18 = .ok (.aload_n 0, 1) := by decide +kernel
theorem dX4_writeRow_19 : decode cX4_writeRow 19 = .ok (.getfield 31, 3) := by decide +kernel
theorem dX4_writeRow_22 : decode cX4_writeRow 22 = .ok (.iconst 1, 1) := by decide +kernel
theorem dX4_writeRow_23 : decode cX4_writeRow 23 = .ok (.isub, 1) := by decide +kernel
theorem dX4_writeRow_24 : decode cX4_writeRow 24 = .ok (.iload_n 2, 1) := by decide +kernel
theorem dX4_writeRow_25 : decode cX4_writeRow 25 = .ok (.invokestatic 83, 3) := by decide +kernel
theorem dX4_writeRow_28 : decode cX4_writeRow 28 = .ok (.iload_n 1, 1) := by decide +kernel
theorem dX4_writeRow_29 : decode cX4_writeRow 29 = .ok (.istore_n 3, 1) := by decide +kernel
theorem dX4_writeRow_30 : decode cX4_writeRow 30 = .ok (.aload_n 0, 1) := by decide +kernel
theorem dX4_writeRow_31 : decode cX4_writeRow 31 = .ok (.getfield 31, 3) := by decide +kernel
theorem dX4_writeRow_34 : decode cX4_writeRow 34 = .ok (.iconst 2, 1) := by decide +kernel
theorem dX4_writeRow_35 : decode cX4_writeRow 35 = .ok (.isub, 1) := by decide +kernel
theorem dX4_writeRow_36 : decode cX4_writeRow 36 = .ok (.istore 4, 2) := by decide +kernel
theorem dX4_writeRow_38 : decode cX4_writeRow 38 = .ok (.iload 4, 2) := by decide +kernel
theorem dX4_writeRow_40 : decode cX4_writeRow 40 = .ok (.ifCond .lt 35, 3) := by decide +kernel
theorem dX4_writeRow_43 : decode cX4_writeRow 43 = .ok (.aload_n 0, 1) := by decide +kernel
theorem dX4_writeRow_44 : decode cX4_writeRow 44 = .ok (.getfield 28, 3) := by decide +kernel
theorem dX4_writeRow_47 : decode cX4_writeRow 47 = .ok (.iload 4, 2) := by decide +kernel
theorem dX4_writeRow_49 : decode cX4_writeRow 49 = .ok (.aload_n 0, 1) := by decide +kernel
theorem dX4_writeRow_50 : decode cX4_writeRow 50 = .ok (.getfield 18, 3) := by decide +kernel
theorem dX4_writeRow_53 : decode cX4_writeRow 53 = .ok (.iload_n 3, 1) := by decide +kernel
theorem dX4_writeRow_54 : decode cX4_writeRow 54 = .ok (.invokestatic 56, 3) := by decide +kernel
theorem dX4_writeRow_57 : decode cX4_writeRow 57 = .ok (.invokestatic 83, 3) := by decide +kernel
theorem dX4_writeRow_60 : decode cX4_writeRow 60 = .ok (.aload_n 0, 1) := by decide +kernel
theorem dX4_writeRow_61 : decode cX4_writeRow 61 = .ok (.getfield 15, 3) := by decide +kernel
theorem dX4_writeRow_64 : decode cX4_writeRow 64 = .ok (.iload_n 3, 1) := by decide +kernel
theorem dX4_writeRow_65 : decode cX4_writeRow 65 = .ok (.invokestatic 56, 3) := by decide +kernel
theorem dX4_writeRow_68 : decode cX4_writeRow 68 = .ok (.istore_n 3, 1) := by decide +kernel
theorem dX4_writeRow_69 : decode cX4_writeRow 69 = .ok (.iinc 4 (-1), 3) := by decide +kernel
theorem dX4_writeRow_72 : decode cX4_writeRow 72 = .ok (.goto (-34), 3) := by decide +kernel
theorem dX4_writeRow_75 : decode cX4_writeRow 75 = .ok (.return_, 1) := by decide +kernel
theorem dX5_init_0 : decode cX5_init 0 = .ok (.aload_n 0, 1) := by decide +kernel
theorem dX5_init_1 : decode cX5_init 1 = .ok (.invokespecial 3, 3) := by decide +kernel
theorem dX5_init_4 : decode cX5_init 4 = .ok (.aload_n 0, 1) := by decide +kernel
theorem dX5_init_5 : decode cX5_init 5 = .ok (.bipush 7, 2) := by decide +kernel
theorem dX5_init_7 : decode cX5_init 7 = .ok (.newarray .int, 2) := by decide +kernel
theorem dX5_init_9 : decode cX5_init 9 = .ok (.putfield 9, 3) := by decide +kernel
theorem dX5_init_12 : decode cX5_init 12 = .ok (.aload_n 0, 1) := by decide +kernel
theorem dX5_init_13 : decode cX5_init 13 = .ok (.bipush 12, 2) := by decide +kernel
theorem dX5_init_15 : decode cX5_init 15 = .ok (.newarray .int, 2) := by decide +kernel
theorem dX5_init_17 : decode cX5_init 17 = .ok (.putfield 15, 3) := by decide +kernel
theorem dX5_init_20 : decode cX5_init 20 = .ok (.return_, 1) := by decide +kernel
set_option maxRecDepth 20000 in
theorem ggX5_begin_X7_copyCells : GoodIn wsX5_begin wsX7_copyCells := goodIn_r _ [11] (by decide +kernel) (by decide +kernel)
set_option maxRecDepth 20000 in
theorem gX5_begin_X7_copyCells_n39 : GoodIn wsX5_begin (wsX7_copyCells) := ggX5_begin_X7_copyCells
set_option maxRecDepth 20000 in
theorem ggX5_begin_X7_setCell : GoodIn wsX5_begin wsX7_setCell := goodIn_r _ [13] (by decide +kernel) (by decide +kernel)
set_option maxRecDepth 20000 in
theorem gX5_begin_X7_setCell_n43 : GoodIn wsX5_begin (wsX7_setCell) := ggX5_begin_X7_setCell
theorem dX5_begin_0 : decode cX5_begin 0 = .ok (.aload_n 0, 1) := by decide +kernel
theorem dX5_begin_1 : decode cX5_begin 1 = .ok (.iconst 0, 1) := by decide +kernel
theorem dX5_begin_2 : decode cX5_begin 2 = .ok (.putfield 18, 3) := by decide +kernel
theorem dX5_begin_5 : decode cX5_begin 5 = .ok (.aload_n 0, 1) := by decide +kernel
theorem dX5_begin_6 : decode cX5_begin 6 = .ok (.iconst 0, 1) := by decide +kernel
theorem dX5_begin_7 : decode cX5_begin 7 = .ok (.putfield 22, 3) := by decide +kernel
theorem dX5_begin_10 : decode cX5_begin 10 = .ok (.aload_n 0, 1) := by decide +kernel
theorem dX5_begin_11 : decode cX5_begin 11 = .ok (.iconst 0, 1) := by decide +kernel
theorem dX5_begin_12 : decode cX5_begin 12 = .ok (.putfield 25, 3) := by decide +kernel
theorem dX5_begin_15 : decode cX5_begin 15 = .ok (.aload_n 0, 1) := by decide +kernel
theorem dX5_begin_16 : decode cX5_begin 16 = .ok (.iconst 0, 1) := by decide +kernel
theorem dX5_begin_17 : decode cX5_begin 17 = .ok (.putfield 28, 3) := by decide +kernel
theorem dX5_begin_20 : decode cX5_begin 20 = .ok (.aload_n 0, 1) := by decide +kernel
theorem dX5_begin_21 : decode cX5_begin 21 = .ok (.iconst 0, 1) := by decide +kernel
theorem dX5_begin_22 : decode cX5_begin 22 = .ok (.putfield 31, 3) := by decide +kernel
theorem dX5_begin_25 : decode cX5_begin 25 = .ok (.aload_n 1, 1) := by decide +kernel
theorem dX5_begin_26 : decode cX5_begin 26 = .ok (.getfield 34, 3) := by decide +kernel
theorem dX5_begin_29 : decode cX5_begin 29 = .ok (.aload_n 0, 1) := by decide +kernel
theorem dX5_begin_30 : decode cX5_begin 30 = .ok (.getfield 9, 3) := by decide +kernel
theorem dX5_begin_33 : decode cX5_begin 33 = .ok (.invokestatic 39, 3) := by decide +kernel
theorem dX5_begin_36 : decode cX5_begin 36 = .ok (.iconst 0, 1) := by decide +kernel
theorem dX5_begin_37 : decode cX5_begin 37 = .ok (.istore_n 2, 1) := by decide +kernel
theorem dX5_begin_38 : decode cX5_begin 38 = .ok (.iload_n 2, 1) := by decide +kernel
theorem dX5_begin_39 : decode cX5_begin 39 = .ok (.bipush 12, 2) := by decide +kernel
theorem dX5_begin_41 : decode cX5_begin 41 = .ok (.if_icmp .ge 18, 3) := by decide +kernel
theorem dX5_begin_44 : decode cX5_begin 44 = .ok (.aload_n 0, 1) := by decide +kernel
theorem dX5_begin_45 : decode cX5_begin 45 = .ok (.getfield 15, 3) := by decide +kernel
theorem dX5_begin_48 : decode cX5_begin 48 = .ok (.iload_n 2, 1) := by decide +kernel
theorem dX5_begin_49 : decode cX5_begin 49 = .ok (.iconst 0, 1) := by decide +kernel
theorem dX5_begin_50 : decode cX5_begin 50 = .ok (.invokestatic 43, 3) := by decide +kernel
theorem dX5_begin_53 : decode cX5_begin 53 = .ok (.iinc 2 1, 3) := by decide +kernel
theorem dX5_begin_56 : decode cX5_begin 56 = .ok (.goto (-18), 3) := by decide +kernel
theorem dX5_begin_59 : decode cX5_begin 59 = .ok (.return_, 1) := by decide +kernel
set_option maxRecDepth 20000 in
theorem ggX5_copy_X7_copyCells : GoodIn wsX5_copy wsX7_copyCells := goodIn_r _ [10] (by decide +kernel) (by decide +kernel)
set_option maxRecDepth 20000 in
theorem gX5_copy_X7_copyCells_n39 : GoodIn wsX5_copy (wsX7_copyCells) := ggX5_copy_X7_copyCells
theorem dX5_copy_0 : decode cX5_copy 0 = .ok (.aload_n 0, 1) := by decide +kernel
theorem dX5_copy_1 : decode cX5_copy 1 = .ok (.aload_n 1, 1) := by decide +kernel
theorem dX5_copy_2 : decode cX5_copy 2 = .ok (.getfield 18, 3) := by decide +kernel
theorem dX5_copy_5 : decode cX5_copy 5 = .ok (.putfield 18, 3) := by decide +kernel
theorem dX5_copy_8 : decode cX5_copy 8 = .ok (.aload_n 0, 1) := by decide +kernel
theorem dX5_copy_9 : decode cX5_copy 9 = .ok (.aload_n 1, 1) := by decide +kernel
theorem dX5_copy_10 : decode cX5_copy 10 = .ok (.getfield 22, 3) := by decide +kernel
theorem dX5_copy_13 : decode cX5_copy 13 = .ok (.putfield 22, 3) := by decide +kernel
theorem dX5_copy_16 : decode cX5_copy 16 = .ok (.aload_n 0, 1) := by decide +kernel
theorem dX5_copy_17 : decode cX5_copy 17 = .ok (.aload_n 1, 1) := by decide +kernel
theorem dX5_copy_18 : decode cX5_copy 18 = .ok (.getfield 25, 3) := by decide +kernel
theorem dX5_copy_21 : decode cX5_copy 21 = .ok (.putfield 25, 3) := by decide +kernel
theorem dX5_copy_24 : decode cX5_copy 24 = .ok (.aload_n 0, 1) := by decide +kernel
theorem dX5_copy_25 : decode cX5_copy 25 = .ok (.aload_n 1, 1) := by decide +kernel
theorem dX5_copy_26 : decode cX5_copy 26 = .ok (.getfield 28, 3) := by decide +kernel
theorem dX5_copy_29 : decode cX5_copy 29 = .ok (.putfield 28, 3) := by decide +kernel
theorem dX5_copy_32 : decode cX5_copy 32 = .ok (.aload_n 0, 1) := by decide +kernel
theorem dX5_copy_33 : decode cX5_copy 33 = .ok (.aload_n 1, 1) := by decide +kernel
theorem dX5_copy_34 : decode cX5_copy 34 = .ok (.getfield 31, 3) := by decide +kernel
theorem dX5_copy_37 : decode cX5_copy 37 = .ok (.putfield 31, 3) := by decide +kernel
theorem dX5_copy_40 : decode cX5_copy 40 = .ok (.aload_n 1, 1) := by decide +kernel
theorem dX5_copy_41 : decode cX5_copy 41 = .ok (.getfield 9, 3) := by decide +kernel
theorem dX5_copy_44 : decode cX5_copy 44 = .ok (.aload_n 0, 1) := by decide +kernel
theorem dX5_copy_45 : decode cX5_copy 45 = .ok (.getfield 9, 3) := by decide +kernel
theorem dX5_copy_48 : decode cX5_copy 48 = .ok (.invokestatic 39, 3) := by decide +kernel
theorem dX5_copy_51 : decode cX5_copy 51 = .ok (.aload_n 1, 1) := by decide +kernel
theorem dX5_copy_52 : decode cX5_copy 52 = .ok (.getfield 15, 3) := by decide +kernel
theorem dX5_copy_55 : decode cX5_copy 55 = .ok (.aload_n 0, 1) := by decide +kernel
theorem dX5_copy_56 : decode cX5_copy 56 = .ok (.getfield 15, 3) := by decide +kernel
theorem dX5_copy_59 : decode cX5_copy 59 = .ok (.invokestatic 39, 3) := by decide +kernel
theorem dX5_copy_62 : decode cX5_copy 62 = .ok (.return_, 1) := by decide +kernel
set_option maxRecDepth 20000 in
theorem ggX5_placeOf_X7_cell : GoodIn wsX5_placeOf wsX7_cell := goodIn_r _ [8] (by decide +kernel) (by decide +kernel)
set_option maxRecDepth 20000 in
theorem gX5_placeOf_X7_cell_n50 : GoodIn wsX5_placeOf (wsX7_cell) := ggX5_placeOf_X7_cell
set_option maxRecDepth 20000 in
theorem ggX5_placeOf_X6_dampInch : GoodIn wsX5_placeOf wsX6_dampInch := goodIn_r _ [13, 14, 15, 16, 12, 17, 18, 19, 20, 21, 22, 23, 24, 25, 26, 27, 28, 29, 30] (by decide +kernel) (by decide +kernel)
set_option maxRecDepth 20000 in
theorem gX5_placeOf_X6_dampInch : GoodIn wsX5_placeOf (wsV RX5 57 RX6 yX6_dampInch wsX6_dampInch) := goodIn_app (goodIn_of _ (by decide +kernel)) ggX5_placeOf_X6_dampInch
theorem dX5_placeOf_0 : decode cX5_placeOf 0 = .ok (.aload_n 1, 1) := by decide +kernel
theorem dX5_placeOf_1 : decode cX5_placeOf 1 = .ok (.getfield 47, 3) := by decide +kernel
theorem dX5_placeOf_4 : decode cX5_placeOf 4 = .ok (.iload_n 2, 1) := by decide +kernel
theorem dX5_placeOf_5 : decode cX5_placeOf 5 = .ok (.invokestatic 50, 3) := by decide +kernel
theorem dX5_placeOf_8 : decode cX5_placeOf 8 = .ok (.iconst 3, 1) := by decide +kernel
theorem dX5_placeOf_9 : decode cX5_placeOf 9 = .ok (.if_icmp .ne 10, 3) := by decide +kernel
theorem dX5_placeOf_12 : decode cX5_placeOf 12 = .ok (.aload_n 0, 1) := by decide +kernel
theorem dX5_placeOf_13 : decode cX5_placeOf 13 = .ok (.getfield 22, 3) := by decide +kernel
theorem dX5_placeOf_16 : decode cX5_placeOf 16 = .ok (.goto 7, 3) := by decide +kernel
theorem dX5_placeOf_19 : decode cX5_placeOf 19 = .ok (.aload_n 0, 1) := by decide +kernel
theorem dX5_placeOf_20 : decode cX5_placeOf 20 = .ok (.getfield 18, 3) := by decide +kernel
theorem dX5_placeOf_23 : decode cX5_placeOf 23 = .ok (.istore_n 3, 1) := by decide +kernel
theorem dX5_placeOf_24 : decode cX5_placeOf 24 = .ok (.aload_n 1, 1) := by decide +kernel
theorem dX5_placeOf_25 : decode cX5_placeOf 25 = .ok (.aload_n 1, 1) := by decide +kernel
theorem dX5_placeOf_26 : decode cX5_placeOf 26 = .ok (.getfield 54, 3) := by decide +kernel
theorem dX5_placeOf_29 : decode cX5_placeOf 29 = .ok (.iload_n 2, 1) := by decide +kernel
theorem dX5_placeOf_30 : decode cX5_placeOf 30 = .ok (.invokestatic 50, 3) := by decide +kernel
theorem dX5_placeOf_33 : decode cX5_placeOf 33 = .ok (.aload_n 0, 1) := by decide +kernel
theorem dX5_placeOf_34 : decode cX5_placeOf 34 = .ok (.getfield 28, 3) := by decide +kernel
theorem dX5_placeOf_37 : decode cX5_placeOf 37 = .ok (.invokevirtual 57, 3) := by decide +kernel
theorem dX5_placeOf_40 : decode cX5_placeOf 40 = .ok (.iload_n 3, 1) := by decide +kernel
theorem dX5_placeOf_41 : decode cX5_placeOf 41 = .ok (.iadd, 1) := by decide +kernel
theorem dX5_placeOf_42 : decode cX5_placeOf 42 = .ok (.ireturn, 1) := by decide +kernel
set_option maxRecDepth 20000 in
theorem ggX5_againstBits_X7_cell : GoodIn wsX5_againstBits wsX7_cell := goodIn_r _ [5] (by decide +kernel) (by decide +kernel)
set_option maxRecDepth 20000 in
theorem gX5_againstBits_X7_cell_n50 : GoodIn wsX5_againstBits (wsX7_cell) := ggX5_againstBits_X7_cell
set_option maxRecDepth 20000 in
theorem ggX5_againstBits_X5_placeOf : GoodIn wsX5_againstBits wsX5_placeOf := goodIn_r _ [10, 1, 11, 12, 13, 14, 3, 4, 5, 15, 16, 17, 18, 19, 20, 21, 22, 23, 24, 25, 28, 29, 30, 31, 32, 33, 34, 35, 36, 37, 38, 39, 40, 41, 42, 43, 44, 45] (by decide +kernel) (by decide +kernel)
set_option maxRecDepth 20000 in
theorem gX5_againstBits_X5_placeOf : GoodIn wsX5_againstBits (wsV RX5 61 RX5 yX5_placeOf wsX5_placeOf) := goodIn_app (goodIn_of _ (by decide +kernel)) ggX5_againstBits_X5_placeOf
set_option maxRecDepth 20000 in
theorem ggX5_againstBits_X7_meet : GoodIn wsX5_againstBits wsX7_meet := goodIn_r _ [27] (by decide +kernel) (by decide +kernel)
set_option maxRecDepth 20000 in
theorem gX5_againstBits_X7_meet_n68 : GoodIn wsX5_againstBits (wsX7_meet) := ggX5_againstBits_X7_meet
theorem dX5_againstBits_0 : decode cX5_againstBits 0 = .ok (.aload_n 1, 1) := by decide +kernel
theorem dX5_againstBits_1 : decode cX5_againstBits 1 = .ok (.getfield 47, 3) := by decide +kernel
theorem dX5_againstBits_4 : decode cX5_againstBits 4 = .ok (.iload_n 2, 1) := by decide +kernel
theorem dX5_againstBits_5 : decode cX5_againstBits 5 = .ok (.invokestatic 50, 3) := by decide +kernel
theorem dX5_againstBits_8 : decode cX5_againstBits 8 = .ok (.istore_n 3, 1) := by decide +kernel
theorem dX5_againstBits_9 : decode cX5_againstBits 9 = .ok (.aload_n 0, 1) := by decide +kernel
theorem dX5_againstBits_10 : decode cX5_againstBits 10 = .ok (.aload_n 1, 1) := by decide +kernel
theorem dX5_againstBits_11 : decode cX5_againstBits 11 = .ok (.iload_n 2, 1) := by decide +kernel
theorem dX5_againstBits_12 : decode cX5_againstBits 12 = .ok (.invokevirtual 61, 3) := by decide +kernel
theorem dX5_againstBits_15 : decode cX5_againstBits 15 = .ok (.istore 4, 2) := by decide +kernel
theorem dX5_againstBits_17 : decode cX5_againstBits 17 = .ok (.iconst 0, 1) := by decide +kernel
theorem dX5_againstBits_18 : decode cX5_againstBits 18 = .ok (.istore 5, 2) := by decide +kernel
theorem dX5_againstBits_20 : decode cX5_againstBits 20 = .ok (.iconst 0, 1) := by decide +kernel
theorem dX5_againstBits_21 : decode cX5_againstBits 21 = .ok (.istore 6, 2) := by decide +kernel
theorem dX5_againstBits_23 : decode cX5_againstBits 23 = .ok (.iload 6, 2) := by decide +kernel
theorem dX5_againstBits_25 : decode cX5_againstBits 25 = .ok (.bipush 12, 2) := by decide +kernel
theorem dX5_againstBits_27 : decode cX5_againstBits 27 = .ok (.if_icmp .ge 37, 3) := by decide +kernel
theorem dX5_againstBits_30 : decode cX5_againstBits 30 = .ok (.iload_n 3, 1) := by decide +kernel
theorem dX5_againstBits_31 : decode cX5_againstBits 31 = .ok (.iload 4, 2) := by decide +kernel
theorem dX5_againstBits_33 : decode cX5_againstBits 33 = .ok (.aload_n 1, 1) := by decide +kernel
theorem dX5_againstBits_34 : decode cX5_againstBits 34 = .ok (.getfield 65, 3) := by decide +kernel
theorem dX5_againstBits_37 : decode cX5_againstBits 37 = .ok (.iload 6, 2) := by decide +kernel
theorem dX5_againstBits_39 : decode cX5_againstBits 39 = .ok (.invokestatic 50, 3) := by decide +kernel
theorem dX5_againstBits_42 : decode cX5_againstBits 42 = .ok (.isub, 1) := by decide +kernel
theorem dX5_againstBits_43 : decode cX5_againstBits 43 = .ok (.invokestatic 68, 3) := by decide +kernel
theorem dX5_againstBits_46 : decode cX5_againstBits 46 = .ok (.ifCond .eq 12, 3) := by decide +kernel
theorem dX5_againstBits_49 : decode cX5_againstBits 49 = .ok (.iload 5, 2) := by decide +kernel
theorem dX5_againstBits_51 : decode cX5_againstBits 51 = .ok (.iconst 1, 1) := by decide +kernel
theorem dX5_againstBits_52 : decode cX5_againstBits 52 = .ok (.iload 6, 2) := by decide +kernel
theorem dX5_againstBits_54 : decode cX5_againstBits 54 = .ok (.ishl, 1) := by decide +kernel
theorem dX5_againstBits_55 : decode cX5_againstBits 55 = .ok (.ior, 1) := by decide +kernel
theorem dX5_againstBits_56 : decode cX5_againstBits 56 = .ok (.istore 5, 2) := by decide +kernel
theorem dX5_againstBits_58 : decode cX5_againstBits 58 = .ok (.iinc 6 1, 3) := by decide +kernel
theorem dX5_againstBits_61 : decode cX5_againstBits 61 = .ok (.goto (-38), 3) := by decide +kernel
theorem dX5_againstBits_64 : decode cX5_againstBits 64 = .ok (.iload 5, 2) := by decide +kernel
theorem dX5_againstBits_66 : decode cX5_againstBits 66 = .ok (.ireturn, 1) := by decide +kernel
set_option maxRecDepth 20000 in
theorem ggX5_allPairs_X5_againstBits : GoodIn wsX5_allPairs wsX5_againstBits := goodIn_r _ [6, 7, 8, 9, 10, 11, 12, 13, 14, 5, 15, 16, 17, 18, 19, 20, 21, 22, 23, 24, 25, 26, 27, 28, 29, 30, 31, 32, 40, 41, 42, 43, 44, 45, 46, 47, 48, 49, 50, 51, 52, 53, 54, 55, 56, 57] (by decide +kernel) (by decide +kernel)
set_option maxRecDepth 20000 in
theorem gX5_allPairs_X5_againstBits : GoodIn wsX5_allPairs (wsV RX5 75 RX5 yX5_againstBits wsX5_againstBits) := goodIn_app (goodIn_of _ (by decide +kernel)) ggX5_allPairs_X5_againstBits
set_option maxRecDepth 20000 in
theorem ggX5_allPairs_J6_bitCount_0f7a4 : GoodIn wsX5_allPairs wsJ6_bitCount_0f7a4 := goodIn_r _ [36, 37, 38, 39] (by decide +kernel) (by decide +kernel)
set_option maxRecDepth 20000 in
theorem gX5_allPairs_J6_bitCount_0f7a4 : GoodIn wsX5_allPairs (va_wsS RX5 78 yJ6_bitCount_0f7a4 wsJ6_bitCount_0f7a4) := goodIn_app (goodIn_of _ (by decide +kernel)) ggX5_allPairs_J6_bitCount_0f7a4
theorem dX5_allPairs_0 : decode cX5_allPairs 0 = .ok (.iconst 0, 1) := by decide +kernel
theorem dX5_allPairs_1 : decode cX5_allPairs 1 = .ok (.istore_n 2, 1) := by decide +kernel
theorem dX5_allPairs_2 : decode cX5_allPairs 2 = .ok (.iconst 0, 1) := by decide +kernel
theorem dX5_allPairs_3 : decode cX5_allPairs 3 = .ok (.istore_n 3, 1) := by decide +kernel
theorem dX5_allPairs_4 : decode cX5_allPairs 4 = .ok (.iload_n 3, 1) := by decide +kernel
theorem dX5_allPairs_5 : decode cX5_allPairs 5 = .ok (.aload_n 1, 1) := by decide +kernel
theorem dX5_allPairs_6 : decode cX5_allPairs 6 = .ok (.getfield 72, 3) := by decide +kernel
theorem dX5_allPairs_9 : decode cX5_allPairs 9 = .ok (.if_icmp .ge 21, 3) := by decide +kernel
theorem dX5_allPairs_12 : decode cX5_allPairs 12 = .ok (.iload_n 2, 1) := by decide +kernel
theorem dX5_allPairs_13 : decode cX5_allPairs 13 = .ok (.aload_n 0, 1) := by decide +kernel
theorem dX5_allPairs_14 : decode cX5_allPairs 14 = .ok (.aload_n 1, 1) := by decide +kernel
theorem dX5_allPairs_15 : decode cX5_allPairs 15 = .ok (.iload_n 3, 1) := by decide +kernel
theorem dX5_allPairs_16 : decode cX5_allPairs 16 = .ok (.invokevirtual 75, 3) := by decide +kernel
theorem dX5_allPairs_19 : decode cX5_allPairs 19 = .ok (.invokestatic 78, 3) := by decide +kernel
theorem dX5_allPairs_22 : decode cX5_allPairs 22 = .ok (.iadd, 1) := by decide +kernel
theorem dX5_allPairs_23 : decode cX5_allPairs 23 = .ok (.istore_n 2, 1) := by decide +kernel
theorem dX5_allPairs_24 : decode cX5_allPairs 24 = .ok (.iinc 3 1, 3) := by decide +kernel
theorem dX5_allPairs_27 : decode cX5_allPairs 27 = .ok (.goto (-23), 3) := by decide +kernel
theorem dX5_allPairs_30 : decode cX5_allPairs 30 = .ok (.iload_n 2, 1) := by decide +kernel
theorem dX5_allPairs_31 : decode cX5_allPairs 31 = .ok (.ireturn, 1) := by decide +kernel
set_option maxRecDepth 20000 in
theorem ggX5_allGoods_X7_cell : GoodIn wsX5_allGoods wsX7_cell := goodIn_r _ [5] (by decide +kernel) (by decide +kernel)
set_option maxRecDepth 20000 in
theorem gX5_allGoods_X7_cell_n50 : GoodIn wsX5_allGoods (wsX7_cell) := ggX5_allGoods_X7_cell
theorem dX5_allGoods_0 : decode cX5_allGoods 0 = .ok (.iconst 0, 1) := by decide +kernel
theorem dX5_allGoods_1 : decode cX5_allGoods 1 = .ok (.istore_n 2, 1) := by decide +kernel
theorem dX5_allGoods_2 : decode cX5_allGoods 2 = .ok (.iconst 0, 1) := by decide +kernel
theorem dX5_allGoods_3 : decode cX5_allGoods 3 = .ok (.istore_n 3, 1) := by decide +kernel
theorem dX5_allGoods_4 : decode cX5_allGoods 4 = .ok (.iload_n 3, 1) := by decide +kernel
theorem dX5_allGoods_5 : decode cX5_allGoods 5 = .ok (.aload_n 1, 1) := by decide +kernel
theorem dX5_allGoods_6 : decode cX5_allGoods 6 = .ok (.getfield 72, 3) := by decide +kernel
theorem dX5_allGoods_9 : decode cX5_allGoods 9 = .ok (.if_icmp .ge 20, 3) := by decide +kernel
theorem dX5_allGoods_12 : decode cX5_allGoods 12 = .ok (.iload_n 2, 1) := by decide +kernel
theorem dX5_allGoods_13 : decode cX5_allGoods 13 = .ok (.aload_n 0, 1) := by decide +kernel
theorem dX5_allGoods_14 : decode cX5_allGoods 14 = .ok (.getfield 9, 3) := by decide +kernel
theorem dX5_allGoods_17 : decode cX5_allGoods 17 = .ok (.iload_n 3, 1) := by decide +kernel
theorem dX5_allGoods_18 : decode cX5_allGoods 18 = .ok (.invokestatic 50, 3) := by decide +kernel
theorem dX5_allGoods_21 : decode cX5_allGoods 21 = .ok (.iadd, 1) := by decide +kernel
theorem dX5_allGoods_22 : decode cX5_allGoods 22 = .ok (.istore_n 2, 1) := by decide +kernel
theorem dX5_allGoods_23 : decode cX5_allGoods 23 = .ok (.iinc 3 1, 3) := by decide +kernel
theorem dX5_allGoods_26 : decode cX5_allGoods 26 = .ok (.goto (-22), 3) := by decide +kernel
theorem dX5_allGoods_29 : decode cX5_allGoods 29 = .ok (.iload_n 2, 1) := by decide +kernel
theorem dX5_allGoods_30 : decode cX5_allGoods 30 = .ok (.ireturn, 1) := by decide +kernel
set_option maxRecDepth 20000 in
theorem ggX5_shove_X7_cell : GoodIn wsX5_shove wsX7_cell := goodIn_r _ [11] (by decide +kernel) (by decide +kernel)
set_option maxRecDepth 20000 in
theorem gX5_shove_X7_cell_n50 : GoodIn wsX5_shove (wsX7_cell) := ggX5_shove_X7_cell
set_option maxRecDepth 20000 in
theorem ggX5_shove_X7_shiftBehind : GoodIn wsX5_shove wsX7_shiftBehind := goodIn_r _ [13, 14, 15, 7, 16, 17, 6, 8] (by decide +kernel) (by decide +kernel)
set_option maxRecDepth 20000 in
theorem gX5_shove_X7_shiftBehind_n92 : GoodIn wsX5_shove (wsX7_shiftBehind) := ggX5_shove_X7_shiftBehind
theorem dX5_shove_0 : decode cX5_shove 0 = .ok (.aload_n 0, 1) := by decide +kernel
theorem dX5_shove_1 : decode cX5_shove 1 = .ok (.aload_n 0, 1) := by decide +kernel
theorem dX5_shove_2 : decode cX5_shove 2 = .ok (.getfield 18, 3) := by decide +kernel
theorem dX5_shove_5 : decode cX5_shove 5 = .ok (.putfield 22, 3) := by decide +kernel
theorem dX5_shove_8 : decode cX5_shove 8 = .ok (.aload_n 0, 1) := by decide +kernel
theorem dX5_shove_9 : decode cX5_shove 9 = .ok (.aload_n 0, 1) := by decide +kernel
theorem dX5_shove_10 : decode cX5_shove 10 = .ok (.getfield 18, 3) := by decide +kernel
theorem dX5_shove_13 : decode cX5_shove 13 = .ok (.iconst 0, 1) := by decide +kernel
theorem dX5_shove_14 : decode cX5_shove 14 = .ok (.aload_n 1, 1) := by decide +kernel
theorem dX5_shove_15 : decode cX5_shove 15 = .ok (.getfield 84, 3) := by decide +kernel
theorem dX5_shove_18 : decode cX5_shove 18 = .ok (.iload_n 2, 1) := by decide +kernel
theorem dX5_shove_19 : decode cX5_shove 19 = .ok (.invokestatic 50, 3) := by decide +kernel
theorem dX5_shove_22 : decode cX5_shove 22 = .ok (.aload_n 0, 1) := by decide +kernel
theorem dX5_shove_23 : decode cX5_shove 23 = .ok (.getfield 25, 3) := by decide +kernel
theorem dX5_shove_26 : decode cX5_shove 26 = .ok (.isub, 1) := by decide +kernel
theorem dX5_shove_27 : decode cX5_shove 27 = .ok (.invokestatic 87, 3) := by decide +kernel
theorem dX5_shove_30 : decode cX5_shove 30 = .ok (.iload_n 3, 1) := by decide +kernel
theorem dX5_shove_31 : decode cX5_shove 31 = .ok (.invokestatic 92, 3) := by decide +kernel
theorem dX5_shove_34 : decode cX5_shove 34 = .ok (.putfield 18, 3) := by decide +kernel
theorem dX5_shove_37 : decode cX5_shove 37 = .ok (.aload_n 0, 1) := by decide +kernel
theorem dX5_shove_38 : decode cX5_shove 38 = .ok (.iconst 0, 1) := by decide +kernel
theorem dX5_shove_39 : decode cX5_shove 39 = .ok (.aload_n 0, 1) := by decide +kernel
theorem dX5_shove_40 : decode cX5_shove 40 = .ok (.getfield 25, 3) := by decide +kernel
theorem dX5_shove_43 : decode cX5_shove 43 = .ok (.iconst 1, 1) := by decide +kernel
theorem dX5_shove_44 : decode cX5_shove 44 = .ok (.isub, 1) := by decide +kernel
theorem dX5_shove_45 : decode cX5_shove 45 = .ok (.invokestatic 87, 3) := by decide +kernel
theorem dX5_shove_48 : decode cX5_shove 48 = .ok (.putfield 25, 3) := by decide +kernel
theorem dX5_shove_51 : decode cX5_shove 51 = .ok (.return_, 1) := by decide +kernel
set_option maxRecDepth 20000 in
theorem ggX5_trade_X5_againstBits : GoodIn wsX5_trade wsX5_againstBits := goodIn_r _ [7, 8, 9, 10, 11, 12, 13, 14, 15, 6, 16, 17, 18, 19, 2, 20, 21, 22, 23, 24, 25, 26, 27, 28, 29, 30, 31, 32, 47, 48, 49, 50, 51, 52, 53, 54, 55, 56, 57, 58, 59, 60, 61, 62, 63, 64] (by decide +kernel) (by decide +kernel)
set_option maxRecDepth 20000 in
theorem gX5_trade_X5_againstBits : GoodIn wsX5_trade (wsV RX5 75 RX5 yX5_againstBits wsX5_againstBits) := goodIn_app (goodIn_of _ (by decide +kernel)) ggX5_trade_X5_againstBits
set_option maxRecDepth 20000 in
theorem ggX5_trade_X5_tradeOf : GoodIn wsX5_trade wsX5_tradeOf := goodIn_r _ [36, 37, 38, 39, 40, 41, 42, 10, 11, 12, 43, 44, 45, 46, 58, 59, 60, 61, 62, 63, 64] (by decide +kernel) (by decide +kernel)
set_option maxRecDepth 20000 in
theorem gX5_trade_X5_tradeOf : GoodIn wsX5_trade (wsV RX5 96 RX5 yX5_tradeOf wsX5_tradeOf) := goodIn_app (goodIn_of _ (by decide +kernel)) ggX5_trade_X5_tradeOf
theorem dX5_trade_0 : decode cX5_trade 0 = .ok (.iconst 0, 1) := by decide +kernel
theorem dX5_trade_1 : decode cX5_trade 1 = .ok (.istore_n 3, 1) := by decide +kernel
theorem dX5_trade_2 : decode cX5_trade 2 = .ok (.iload_n 3, 1) := by decide +kernel
theorem dX5_trade_3 : decode cX5_trade 3 = .ok (.iload_n 2, 1) := by decide +kernel
theorem dX5_trade_4 : decode cX5_trade 4 = .ok (.if_icmp .ge 50, 3) := by decide +kernel
theorem dX5_trade_7 : decode cX5_trade 7 = .ok (.iconst 0, 1) := by decide +kernel
theorem dX5_trade_8 : decode cX5_trade 8 = .ok (.istore 4, 2) := by decide +kernel
theorem dX5_trade_10 : decode cX5_trade 10 = .ok (.iload 4, 2) := by decide +kernel
theorem dX5_trade_12 : decode cX5_trade 12 = .ok (.aload_n 1, 1) := by decide +kernel
theorem dX5_trade_13 : decode cX5_trade 13 = .ok (.getfield 72, 3) := by decide +kernel
theorem dX5_trade_16 : decode cX5_trade 16 = .ok (.if_icmp .ge 22, 3) := by decide +kernel
theorem dX5_trade_19 : decode cX5_trade 19 = .ok (.aload_n 0, 1) := by decide +kernel
theorem dX5_trade_20 : decode cX5_trade 20 = .ok (.iload 4, 2) := by decide +kernel
theorem dX5_trade_22 : decode cX5_trade 22 = .ok (.aload_n 0, 1) := by decide +kernel
theorem dX5_trade_23 : decode cX5_trade 23 = .ok (.aload_n 1, 1) := by decide +kernel
theorem dX5_trade_24 : decode cX5_trade 24 = .ok (.iload 4, 2) := by decide +kernel
theorem dX5_trade_26 : decode cX5_trade 26 = .ok (.invokevirtual 75, 3) := by decide +kernel
theorem dX5_trade_29 : decode cX5_trade 29 = .ok (.invokevirtual 96, 3) := by decide +kernel
theorem dX5_trade_32 : decode cX5_trade 32 = .ok (.iinc 4 1, 3) := by decide +kernel
theorem dX5_trade_35 : decode cX5_trade 35 = .ok (.goto (-25), 3) := by decide +kernel
theorem dX5_trade_38 : decode cX5_trade 38 = .ok (.aload_n 0, 1) := by decide +kernel
theorem dX5_trade_39 : decode cX5_trade 39 = .ok (.dup, 1) := by decide +kernel
theorem dX5_trade_40 : decode cX5_trade 40 = .ok (.getfield 28, 3) := by decide +kernel
theorem dX5_trade_43 : decode cX5_trade 43 = .ok (.iconst 1, 1) := by decide +kernel
theorem dX5_trade_44 : decode cX5_trade 44 = .ok (.iadd, 1) := by decide +kernel
theorem dX5_trade_45 : decode cX5_trade 45 = .ok (.putfield 28, 3) := by decide +kernel
theorem dX5_trade_48 : decode cX5_trade 48 = .ok (.iinc 3 1, 3) := by decide +kernel
theorem dX5_trade_51 : decode cX5_trade 51 = .ok (.goto (-49), 3) := by decide +kernel
theorem dX5_trade_54 : decode cX5_trade 54 = .ok (.return_, 1) := by decide +kernel
set_option maxRecDepth 20000 in
theorem ggX5_tradeOf_X7_cell : GoodIn wsX5_tradeOf wsX7_cell := goodIn_r _ [9] (by decide +kernel) (by decide +kernel)
set_option maxRecDepth 20000 in
theorem gX5_tradeOf_X7_cell_n50 : GoodIn wsX5_tradeOf (wsX7_cell) := ggX5_tradeOf_X7_cell
set_option maxRecDepth 20000 in
theorem ggX5_tradeOf_X7_bitOf : GoodIn wsX5_tradeOf wsX7_bitOf := goodIn_r _ [11] (by decide +kernel) (by decide +kernel)
set_option maxRecDepth 20000 in
theorem gX5_tradeOf_X7_bitOf_n100 : GoodIn wsX5_tradeOf (wsX7_bitOf) := ggX5_tradeOf_X7_bitOf
set_option maxRecDepth 20000 in
theorem ggX5_tradeOf_X7_setCell : GoodIn wsX5_tradeOf wsX7_setCell := goodIn_r _ [13] (by decide +kernel) (by decide +kernel)
set_option maxRecDepth 20000 in
theorem gX5_tradeOf_X7_setCell_n43 : GoodIn wsX5_tradeOf (wsX7_setCell) := ggX5_tradeOf_X7_setCell
theorem dX5_tradeOf_0 : decode cX5_tradeOf 0 = .ok (.aload_n 0, 1) := by decide +kernel
theorem dX5_tradeOf_1 : decode cX5_tradeOf 1 = .ok (.getfield 9, 3) := by decide +kernel
theorem dX5_tradeOf_4 : decode cX5_tradeOf 4 = .ok (.iload_n 1, 1) := by decide +kernel
theorem dX5_tradeOf_5 : decode cX5_tradeOf 5 = .ok (.invokestatic 50, 3) := by decide +kernel
theorem dX5_tradeOf_8 : decode cX5_tradeOf 8 = .ok (.istore_n 3, 1) := by decide +kernel
theorem dX5_tradeOf_9 : decode cX5_tradeOf 9 = .ok (.iconst 0, 1) := by decide +kernel
theorem dX5_tradeOf_10 : decode cX5_tradeOf 10 = .ok (.istore 4, 2) := by decide +kernel
theorem dX5_tradeOf_12 : decode cX5_tradeOf 12 = .ok (.iload 4, 2) := by decide +kernel
theorem dX5_tradeOf_14 : decode cX5_tradeOf 14 = .ok (.bipush 12, 2) := by decide +kernel
theorem dX5_tradeOf_16 : decode cX5_tradeOf 16 = .ok (.if_icmp .ge 46, 3) := by decide +kernel
theorem dX5_tradeOf_19 : decode cX5_tradeOf 19 = .ok (.iload_n 3, 1) := by decide +kernel
theorem dX5_tradeOf_20 : decode cX5_tradeOf 20 = .ok (.ifCond .le 42, 3) := by decide +kernel
theorem dX5_tradeOf_23 : decode cX5_tradeOf 23 = .ok (.iload_n 2, 1) := by decide +kernel
theorem dX5_tradeOf_24 : decode cX5_tradeOf 24 = .ok (.iload 4, 2) := by decide +kernel
theorem dX5_tradeOf_26 : decode cX5_tradeOf 26 = .ok (.invokestatic 100, 3) := by decide +kernel
theorem dX5_tradeOf_29 : decode cX5_tradeOf 29 = .ok (.iconst 1, 1) := by decide +kernel
theorem dX5_tradeOf_30 : decode cX5_tradeOf 30 = .ok (.if_icmp .ne 26, 3) := by decide +kernel
theorem dX5_tradeOf_33 : decode cX5_tradeOf 33 = .ok (.iinc 3 (-1), 3) := by decide +kernel
theorem dX5_tradeOf_36 : decode cX5_tradeOf 36 = .ok (.aload_n 0, 1) := by decide +kernel
theorem dX5_tradeOf_37 : decode cX5_tradeOf 37 = .ok (.getfield 15, 3) := by decide +kernel
theorem dX5_tradeOf_40 : decode cX5_tradeOf 40 = .ok (.iload 4, 2) := by decide +kernel
theorem dX5_tradeOf_42 : decode cX5_tradeOf 42 = .ok (.aload_n 0, 1) := by decide +kernel
theorem dX5_tradeOf_43 : decode cX5_tradeOf 43 = .ok (.getfield 15, 3) := by decide +kernel
theorem dX5_tradeOf_46 : decode cX5_tradeOf 46 = .ok (.iload 4, 2) := by decide +kernel
theorem dX5_tradeOf_48 : decode cX5_tradeOf 48 = .ok (.invokestatic 50, 3) := by decide +kernel
theorem dX5_tradeOf_51 : decode cX5_tradeOf 51 = .ok (.iconst 1, 1) := by decide +kernel
theorem dX5_tradeOf_52 : decode cX5_tradeOf 52 = .ok (.iadd, 1) := by decide +kernel
theorem dX5_tradeOf_53 : decode cX5_tradeOf 53 = .ok (.invokestatic 43, 3) := by decide +kernel
theorem dX5_tradeOf_56 : decode cX5_tradeOf 56 = .ok (.iinc 4 1, 3) := by decide +kernel
theorem dX5_tradeOf_59 : decode cX5_tradeOf 59 = .ok (.goto (-47), 3) := by decide +kernel
theorem dX5_tradeOf_62 : decode cX5_tradeOf 62 = .ok (.iload_n 2, 1) := by decide +kernel
theorem dX5_tradeOf_63 : decode cX5_tradeOf 63 = .ok (.bipush 63, 2) := by decide +kernel
theorem dX5_tradeOf_65 : decode cX5_tradeOf 65 = .ok (.iand, 1) := by decide +kernel
theorem dX5_tradeOf_66 : decode cX5_tradeOf 66 = .ok (.ifCond .eq 20, 3) := by decide +kernel
theorem dX5_tradeOf_69 : decode cX5_tradeOf 69 = .ok (.iload_n 2, 1) := by decide +kernel
theorem dX5_tradeOf_70 : decode cX5_tradeOf 70 = .ok (.sipush 4032, 3) := by decide +kernel
theorem dX5_tradeOf_73 : decode cX5_tradeOf 73 = .ok (.iand, 1) := by decide +kernel
theorem dX5_tradeOf_74 : decode cX5_tradeOf 74 = .ok (.ifCond .eq 12, 3) := by decide +kernel
theorem dX5_tradeOf_77 : decode cX5_tradeOf 77 = .ok (.bipush 99, 2) := by decide +kernel
theorem dX5_tradeOf_79 : decode cX5_tradeOf 79 = .ok (.iload_n 3, 1) := by decide +kernel
theorem dX5_tradeOf_80 : decode cX5_tradeOf 80 = .ok (.iconst 3, 1) := by decide +kernel
theorem dX5_tradeOf_81 : decode cX5_tradeOf 81 = .ok (.iadd, 1) := by decide +kernel
theorem dX5_tradeOf_82 : decode cX5_tradeOf 82 = .ok (.invokestatic 103, 3) := by decide +kernel
theorem dX5_tradeOf_85 : decode cX5_tradeOf 85 = .ok (.istore_n 3, 1) := by decide +kernel
theorem dX5_tradeOf_86 : decode cX5_tradeOf 86 = .ok (.aload_n 0, 1) := by decide +kernel
theorem dX5_tradeOf_87 : decode cX5_tradeOf 87 = .ok (.getfield 9, 3) := by decide +kernel
theorem dX5_tradeOf_90 : decode cX5_tradeOf 90 = .ok (.iload_n 1, 1) := by decide +kernel
theorem dX5_tradeOf_91 : decode cX5_tradeOf 91 = .ok (.iload_n 3, 1) := by decide +kernel
theorem dX5_tradeOf_92 : decode cX5_tradeOf 92 = .ok (.invokestatic 43, 3) := by decide +kernel
theorem dX5_tradeOf_95 : decode cX5_tradeOf 95 = .ok (.return_, 1) := by decide +kernel
set_option maxRecDepth 20000 in
theorem ggX5_coupleAt_X5_unwedOfLand : GoodIn wsX5_coupleAt wsX5_unwedOfLand := goodIn_r _ [5, 6, 7, 8, 9, 10, 11, 12, 13, 14, 15, 41, 42, 43, 44, 45, 46, 47, 48, 49, 50, 51, 52, 53, 54, 55, 56, 57, 58] (by decide +kernel) (by decide +kernel)
set_option maxRecDepth 20000 in
theorem gX5_coupleAt_X5_unwedOfLand : GoodIn wsX5_coupleAt (wsV RX5 106 RX5 yX5_unwedOfLand wsX5_unwedOfLand) := goodIn_app (goodIn_of _ (by decide +kernel)) ggX5_coupleAt_X5_unwedOfLand
set_option maxRecDepth 20000 in
theorem ggX5_coupleAt_X5_unwedOfStrip : GoodIn wsX5_coupleAt wsX5_unwedOfStrip := goodIn_r _ [19, 20, 8, 14, 10, 15, 21, 22, 23, 4, 24, 25, 26, 27, 28, 29, 9, 11, 30, 31, 32, 33, 34, 35, 36, 37, 38, 39, 40, 41, 42, 43, 44, 45, 46, 47, 48, 49, 50, 51, 52, 53, 54, 55, 56, 57, 58] (by decide +kernel) (by decide +kernel)
set_option maxRecDepth 20000 in
theorem gX5_coupleAt_X5_unwedOfStrip : GoodIn wsX5_coupleAt (wsV RX5 110 RX5 yX5_unwedOfStrip wsX5_unwedOfStrip) := goodIn_app (goodIn_of _ (by decide +kernel)) ggX5_coupleAt_X5_unwedOfStrip
theorem dX5_coupleAt_0 : decode cX5_coupleAt 0 = .ok (.aload_n 0, 1) := by decide +kernel
theorem dX5_coupleAt_1 : decode cX5_coupleAt 1 = .ok (.aload_n 1, 1) := by decide +kernel
theorem dX5_coupleAt_2 : decode cX5_coupleAt 2 = .ok (.iconst 0, 1) := by decide +kernel
theorem dX5_coupleAt_3 : decode cX5_coupleAt 3 = .ok (.iload_n 2, 1) := by decide +kernel
theorem dX5_coupleAt_4 : decode cX5_coupleAt 4 = .ok (.invokevirtual 106, 3) := by decide +kernel
theorem dX5_coupleAt_7 : decode cX5_coupleAt 7 = .ok (.istore_n 3, 1) := by decide +kernel
theorem dX5_coupleAt_8 : decode cX5_coupleAt 8 = .ok (.aload_n 0, 1) := by decide +kernel
theorem dX5_coupleAt_9 : decode cX5_coupleAt 9 = .ok (.aload_n 1, 1) := by decide +kernel
theorem dX5_coupleAt_10 : decode cX5_coupleAt 10 = .ok (.iconst 1, 1) := by decide +kernel
theorem dX5_coupleAt_11 : decode cX5_coupleAt 11 = .ok (.iload_n 2, 1) := by decide +kernel
theorem dX5_coupleAt_12 : decode cX5_coupleAt 12 = .ok (.invokevirtual 106, 3) := by decide +kernel
theorem dX5_coupleAt_15 : decode cX5_coupleAt 15 = .ok (.istore 4, 2) := by decide +kernel
theorem dX5_coupleAt_17 : decode cX5_coupleAt 17 = .ok (.aload_n 0, 1) := by decide +kernel
theorem dX5_coupleAt_18 : decode cX5_coupleAt 18 = .ok (.aload_n 1, 1) := by decide +kernel
theorem dX5_coupleAt_19 : decode cX5_coupleAt 19 = .ok (.iload_n 2, 1) := by decide +kernel
theorem dX5_coupleAt_20 : decode cX5_coupleAt 20 = .ok (.invokevirtual 110, 3) := by decide +kernel
theorem dX5_coupleAt_23 : decode cX5_coupleAt 23 = .ok (.istore 5, 2) := by decide +kernel
theorem dX5_coupleAt_25 : decode cX5_coupleAt 25 = .ok (.iload 5, 2) := by decide +kernel
theorem dX5_coupleAt_27 : decode cX5_coupleAt 27 = .ok (.ifCond .eq 12, 3) := by decide +kernel
theorem dX5_coupleAt_30 : decode cX5_coupleAt 30 = .ok (.iload_n 3, 1) := by decide +kernel
theorem dX5_coupleAt_31 : decode cX5_coupleAt 31 = .ok (.ifCond .eq 8, 3) := by decide +kernel
theorem dX5_coupleAt_34 : decode cX5_coupleAt 34 = .ok (.iload_n 3, 1) := by decide +kernel
theorem dX5_coupleAt_35 : decode cX5_coupleAt 35 = .ok (.iload 5, 2) := by decide +kernel
theorem dX5_coupleAt_37 : decode cX5_coupleAt 37 = .ok (.ior, 1) := by decide +kernel
theorem dX5_coupleAt_38 : decode cX5_coupleAt 38 = .ok (.ireturn, 1) := by decide +kernel
theorem dX5_coupleAt_39 : decode cX5_coupleAt 39 = .ok (.iload 5, 2) := by decide +kernel
theorem dX5_coupleAt_41 : decode cX5_coupleAt 41 = .ok (.ifCond .eq 14, 3) := by decide +kernel
theorem dX5_coupleAt_44 : decode cX5_coupleAt 44 = .ok (.iload 4, 2) := by decide +kernel
theorem dX5_coupleAt_46 : decode cX5_coupleAt 46 = .ok (.ifCond .eq 9, 3) := by decide +kernel
theorem dX5_coupleAt_49 : decode cX5_coupleAt 49 = .ok (.iload 5, 2) := by decide +kernel
theorem dX5_coupleAt_51 : decode cX5_coupleAt 51 = .ok (.iload 4, 2) := by decide +kernel
theorem dX5_coupleAt_53 : decode cX5_coupleAt 53 = .ok (.ior, 1) := by decide +kernel
theorem dX5_coupleAt_54 : decode cX5_coupleAt 54 = .ok (.ireturn, 1) := by decide +kernel
theorem dX5_coupleAt_55 : decode cX5_coupleAt 55 = .ok (.iload_n 3, 1) := by decide +kernel
theorem dX5_coupleAt_56 : decode cX5_coupleAt 56 = .ok (.ifCond .eq 15, 3) := by decide +kernel
theorem dX5_coupleAt_59 : decode cX5_coupleAt 59 = .ok (.iload 4, 2) := by decide +kernel
theorem dX5_coupleAt_61 : decode cX5_coupleAt 61 = .ok (.ifCond .eq 10, 3) := by decide +kernel
theorem dX5_coupleAt_64 : decode cX5_coupleAt 64 = .ok (.iload_n 3, 1) := by decide +kernel
theorem dX5_coupleAt_65 : decode cX5_coupleAt 65 = .ok (.iload 4, 2) := by decide +kernel
theorem dX5_coupleAt_67 : decode cX5_coupleAt 67 = .ok (.ior, 1) := by decide +kernel
theorem dX5_coupleAt_68 : decode cX5_coupleAt 68 = .ok (.goto 4, 3) := by decide +kernel
theorem dX5_coupleAt_71 : decode cX5_coupleAt 71 = .ok (.iconst 0, 1) := by decide +kernel
theorem dX5_coupleAt_72 : decode cX5_coupleAt 72 = .ok (.ireturn, 1) := by decide +kernel
set_option maxRecDepth 20000 in
theorem ggX5_unwedOfLand_X7_cell : GoodIn wsX5_unwedOfLand wsX7_cell := goodIn_r _ [6] (by decide +kernel) (by decide +kernel)
set_option maxRecDepth 20000 in
theorem gX5_unwedOfLand_X7_cell_n50 : GoodIn wsX5_unwedOfLand (wsX7_cell) := ggX5_unwedOfLand_X7_cell
set_option maxRecDepth 20000 in
theorem ggX5_unwedOfLand_X7_oneOf : GoodIn wsX5_unwedOfLand wsX7_oneOf := goodIn_r _ [8] (by decide +kernel) (by decide +kernel)
set_option maxRecDepth 20000 in
theorem gX5_unwedOfLand_X7_oneOf_n116 : GoodIn wsX5_unwedOfLand (wsX7_oneOf) := ggX5_unwedOfLand_X7_oneOf
set_option maxRecDepth 20000 in
theorem ggX5_unwedOfLand_X7_bitOf : GoodIn wsX5_unwedOfLand wsX7_bitOf := goodIn_r _ [10] (by decide +kernel) (by decide +kernel)
set_option maxRecDepth 20000 in
theorem gX5_unwedOfLand_X7_bitOf_n100 : GoodIn wsX5_unwedOfLand (wsX7_bitOf) := ggX5_unwedOfLand_X7_bitOf
theorem dX5_unwedOfLand_0 : decode cX5_unwedOfLand 0 = .ok (.iconst 0, 1) := by decide +kernel
theorem dX5_unwedOfLand_1 : decode cX5_unwedOfLand 1 = .ok (.istore 4, 2) := by decide +kernel
theorem dX5_unwedOfLand_3 : decode cX5_unwedOfLand 3 = .ok (.iload 4, 2) := by decide +kernel
theorem dX5_unwedOfLand_5 : decode cX5_unwedOfLand 5 = .ok (.aload_n 1, 1) := by decide +kernel
theorem dX5_unwedOfLand_6 : decode cX5_unwedOfLand 6 = .ok (.getfield 113, 3) := by decide +kernel
theorem dX5_unwedOfLand_9 : decode cX5_unwedOfLand 9 = .ok (.iload_n 2, 1) := by decide +kernel
theorem dX5_unwedOfLand_10 : decode cX5_unwedOfLand 10 = .ok (.invokestatic 50, 3) := by decide +kernel
theorem dX5_unwedOfLand_13 : decode cX5_unwedOfLand 13 = .ok (.if_icmp .ge 47, 3) := by decide +kernel
theorem dX5_unwedOfLand_16 : decode cX5_unwedOfLand 16 = .ok (.iload_n 2, 1) := by decide +kernel
theorem dX5_unwedOfLand_17 : decode cX5_unwedOfLand 17 = .ok (.iload 4, 2) := by decide +kernel
theorem dX5_unwedOfLand_19 : decode cX5_unwedOfLand 19 = .ok (.invokestatic 116, 3) := by decide +kernel
theorem dX5_unwedOfLand_22 : decode cX5_unwedOfLand 22 = .ok (.istore 5, 2) := by decide +kernel
theorem dX5_unwedOfLand_24 : decode cX5_unwedOfLand 24 = .ok (.aload_n 1, 1) := by decide +kernel
theorem dX5_unwedOfLand_25 : decode cX5_unwedOfLand 25 = .ok (.getfield 65, 3) := by decide +kernel
theorem dX5_unwedOfLand_28 : decode cX5_unwedOfLand 28 = .ok (.iload 5, 2) := by decide +kernel
theorem dX5_unwedOfLand_30 : decode cX5_unwedOfLand 30 = .ok (.invokestatic 50, 3) := by decide +kernel
theorem dX5_unwedOfLand_33 : decode cX5_unwedOfLand 33 = .ok (.iload_n 3, 1) := by decide +kernel
theorem dX5_unwedOfLand_34 : decode cX5_unwedOfLand 34 = .ok (.if_icmp .ne 20, 3) := by decide +kernel
theorem dX5_unwedOfLand_37 : decode cX5_unwedOfLand 37 = .ok (.aload_n 0, 1) := by decide +kernel
theorem dX5_unwedOfLand_38 : decode cX5_unwedOfLand 38 = .ok (.getfield 31, 3) := by decide +kernel
theorem dX5_unwedOfLand_41 : decode cX5_unwedOfLand 41 = .ok (.iload 5, 2) := by decide +kernel
theorem dX5_unwedOfLand_43 : decode cX5_unwedOfLand 43 = .ok (.invokestatic 100, 3) := by decide +kernel
theorem dX5_unwedOfLand_46 : decode cX5_unwedOfLand 46 = .ok (.ifCond .ne 8, 3) := by decide +kernel
theorem dX5_unwedOfLand_49 : decode cX5_unwedOfLand 49 = .ok (.iconst 1, 1) := by decide +kernel
theorem dX5_unwedOfLand_50 : decode cX5_unwedOfLand 50 = .ok (.iload 5, 2) := by decide +kernel
theorem dX5_unwedOfLand_52 : decode cX5_unwedOfLand 52 = .ok (.ishl, 1) := by decide +kernel
theorem dX5_unwedOfLand_53 : decode cX5_unwedOfLand 53 = .ok (.ireturn, 1) := by decide +kernel
theorem dX5_unwedOfLand_54 : decode cX5_unwedOfLand 54 = .ok (.iinc 4 1, 3) := by decide +kernel
theorem dX5_unwedOfLand_57 : decode cX5_unwedOfLand 57 = .ok (.goto (-54), 3) := by decide +kernel
theorem dX5_unwedOfLand_60 : decode cX5_unwedOfLand 60 = .ok (.iconst 0, 1) := by decide +kernel
theorem dX5_unwedOfLand_61 : decode cX5_unwedOfLand 61 = .ok (.ireturn, 1) := by decide +kernel
set_option maxRecDepth 20000 in
theorem ggX5_unwedOfStrip_X7_bitOf : GoodIn wsX5_unwedOfStrip wsX7_bitOf := goodIn_r _ [5] (by decide +kernel) (by decide +kernel)
set_option maxRecDepth 20000 in
theorem gX5_unwedOfStrip_X7_bitOf_n100 : GoodIn wsX5_unwedOfStrip (wsX7_bitOf) := ggX5_unwedOfStrip_X7_bitOf
set_option maxRecDepth 20000 in
theorem ggX5_unwedOfStrip_X5_placeOf : GoodIn wsX5_unwedOfStrip wsX5_placeOf := goodIn_r _ [10, 11, 12, 13, 14, 15, 16, 4, 17, 18, 19, 20, 21, 22, 23, 24, 25, 26, 27, 28, 29, 30, 31, 32, 33, 34, 35, 36, 37, 38, 39, 40, 41, 42, 43, 44, 45, 46] (by decide +kernel) (by decide +kernel)
set_option maxRecDepth 20000 in
theorem gX5_unwedOfStrip_X5_placeOf : GoodIn wsX5_unwedOfStrip (wsV RX5 61 RX5 yX5_placeOf wsX5_placeOf) := goodIn_app (goodIn_of _ (by decide +kernel)) ggX5_unwedOfStrip_X5_placeOf
theorem dX5_unwedOfStrip_0 : decode cX5_unwedOfStrip 0 = .ok (.iconst 0, 1) := by decide +kernel
theorem dX5_unwedOfStrip_1 : decode cX5_unwedOfStrip 1 = .ok (.istore_n 3, 1) := by decide +kernel
theorem dX5_unwedOfStrip_2 : decode cX5_unwedOfStrip 2 = .ok (.iload_n 3, 1) := by decide +kernel
theorem dX5_unwedOfStrip_3 : decode cX5_unwedOfStrip 3 = .ok (.aload_n 1, 1) := by decide +kernel
theorem dX5_unwedOfStrip_4 : decode cX5_unwedOfStrip 4 = .ok (.getfield 72, 3) := by decide +kernel
theorem dX5_unwedOfStrip_7 : decode cX5_unwedOfStrip 7 = .ok (.if_icmp .ge 40, 3) := by decide +kernel
theorem dX5_unwedOfStrip_10 : decode cX5_unwedOfStrip 10 = .ok (.aload_n 0, 1) := by decide +kernel
theorem dX5_unwedOfStrip_11 : decode cX5_unwedOfStrip 11 = .ok (.getfield 31, 3) := by decide +kernel
theorem dX5_unwedOfStrip_14 : decode cX5_unwedOfStrip 14 = .ok (.bipush 12, 2) := by decide +kernel
theorem dX5_unwedOfStrip_16 : decode cX5_unwedOfStrip 16 = .ok (.iload_n 3, 1) := by decide +kernel
theorem dX5_unwedOfStrip_17 : decode cX5_unwedOfStrip 17 = .ok (.iadd, 1) := by decide +kernel
theorem dX5_unwedOfStrip_18 : decode cX5_unwedOfStrip 18 = .ok (.invokestatic 100, 3) := by decide +kernel
theorem dX5_unwedOfStrip_21 : decode cX5_unwedOfStrip 21 = .ok (.ifCond .ne 20, 3) := by decide +kernel
theorem dX5_unwedOfStrip_24 : decode cX5_unwedOfStrip 24 = .ok (.aload_n 0, 1) := by decide +kernel
theorem dX5_unwedOfStrip_25 : decode cX5_unwedOfStrip 25 = .ok (.aload_n 1, 1) := by decide +kernel
theorem dX5_unwedOfStrip_26 : decode cX5_unwedOfStrip 26 = .ok (.iload_n 3, 1) := by decide +kernel
theorem dX5_unwedOfStrip_27 : decode cX5_unwedOfStrip 27 = .ok (.invokevirtual 61, 3) := by decide +kernel
theorem dX5_unwedOfStrip_30 : decode cX5_unwedOfStrip 30 = .ok (.iload_n 2, 1) := by decide +kernel
theorem dX5_unwedOfStrip_31 : decode cX5_unwedOfStrip 31 = .ok (.if_icmp .ne 10, 3) := by decide +kernel
theorem dX5_unwedOfStrip_34 : decode cX5_unwedOfStrip 34 = .ok (.iconst 1, 1) := by decide +kernel
theorem dX5_unwedOfStrip_35 : decode cX5_unwedOfStrip 35 = .ok (.bipush 12, 2) := by decide +kernel
theorem dX5_unwedOfStrip_37 : decode cX5_unwedOfStrip 37 = .ok (.iload_n 3, 1) := by decide +kernel
theorem dX5_unwedOfStrip_38 : decode cX5_unwedOfStrip 38 = .ok (.iadd, 1) := by decide +kernel
theorem dX5_unwedOfStrip_39 : decode cX5_unwedOfStrip 39 = .ok (.ishl, 1) := by decide +kernel
theorem dX5_unwedOfStrip_40 : decode cX5_unwedOfStrip 40 = .ok (.ireturn, 1) := by decide +kernel
theorem dX5_unwedOfStrip_41 : decode cX5_unwedOfStrip 41 = .ok (.iinc 3 1, 3) := by decide +kernel
theorem dX5_unwedOfStrip_44 : decode cX5_unwedOfStrip 44 = .ok (.goto (-42), 3) := by decide +kernel
theorem dX5_unwedOfStrip_47 : decode cX5_unwedOfStrip 47 = .ok (.iconst 0, 1) := by decide +kernel
theorem dX5_unwedOfStrip_48 : decode cX5_unwedOfStrip 48 = .ok (.ireturn, 1) := by decide +kernel
theorem dX6_init_0 : decode cX6_init 0 = .ok (.aload_n 0, 1) := by decide +kernel
theorem dX6_init_1 : decode cX6_init 1 = .ok (.invokespecial 3, 3) := by decide +kernel
theorem dX6_init_4 : decode cX6_init 4 = .ok (.aload_n 0, 1) := by decide +kernel
theorem dX6_init_5 : decode cX6_init 5 = .ok (.bipush 12, 2) := by decide +kernel
theorem dX6_init_7 : decode cX6_init 7 = .ok (.newarray .int, 2) := by decide +kernel
theorem dX6_init_9 : decode cX6_init 9 = .ok (.putfield 9, 3) := by decide +kernel
theorem dX6_init_12 : decode cX6_init 12 = .ok (.aload_n 0, 1) := by decide +kernel
theorem dX6_init_13 : decode cX6_init 13 = .ok (.iconst 2, 1) := by decide +kernel
theorem dX6_init_14 : decode cX6_init 14 = .ok (.newarray .int, 2) := by decide +kernel
theorem dX6_init_16 : decode cX6_init 16 = .ok (.putfield 15, 3) := by decide +kernel
theorem dX6_init_19 : decode cX6_init 19 = .ok (.aload_n 0, 1) := by decide +kernel
theorem dX6_init_20 : decode cX6_init 20 = .ok (.bipush 7, 2) := by decide +kernel
theorem dX6_init_22 : decode cX6_init 22 = .ok (.newarray .int, 2) := by decide +kernel
theorem dX6_init_24 : decode cX6_init 24 = .ok (.putfield 18, 3) := by decide +kernel
theorem dX6_init_27 : decode cX6_init 27 = .ok (.aload_n 0, 1) := by decide +kernel
theorem dX6_init_28 : decode cX6_init 28 = .ok (.bipush 7, 2) := by decide +kernel
theorem dX6_init_30 : decode cX6_init 30 = .ok (.newarray .int, 2) := by decide +kernel
theorem dX6_init_32 : decode cX6_init 32 = .ok (.putfield 21, 3) := by decide +kernel
theorem dX6_init_35 : decode cX6_init 35 = .ok (.aload_n 0, 1) := by decide +kernel
theorem dX6_init_36 : decode cX6_init 36 = .ok (.bipush 7, 2) := by decide +kernel
theorem dX6_init_38 : decode cX6_init 38 = .ok (.newarray .int, 2) := by decide +kernel
theorem dX6_init_40 : decode cX6_init 40 = .ok (.putfield 24, 3) := by decide +kernel
theorem dX6_init_43 : decode cX6_init 43 = .ok (.aload_n 0, 1) := by decide +kernel
theorem dX6_init_44 : decode cX6_init 44 = .ok (.iconst 4, 1) := by decide +kernel
theorem dX6_init_45 : decode cX6_init 45 = .ok (.newarray .int, 2) := by decide +kernel
theorem dX6_init_47 : decode cX6_init 47 = .ok (.putfield 27, 3) := by decide +kernel
theorem dX6_init_50 : decode cX6_init 50 = .ok (.aload_n 0, 1) := by decide +kernel
theorem dX6_init_51 : decode cX6_init 51 = .ok (.bipush 8, 2) := by decide +kernel
theorem dX6_init_53 : decode cX6_init 53 = .ok (.newarray .int, 2) := by decide +kernel
theorem dX6_init_55 : decode cX6_init 55 = .ok (.putfield 30, 3) := by decide +kernel
theorem dX6_init_58 : decode cX6_init 58 = .ok (.aload_n 0, 1) := by decide +kernel
theorem dX6_init_59 : decode cX6_init 59 = .ok (.iconst 3, 1) := by decide +kernel
theorem dX6_init_60 : decode cX6_init 60 = .ok (.newarray .int, 2) := by decide +kernel
theorem dX6_init_62 : decode cX6_init 62 = .ok (.putfield 33, 3) := by decide +kernel
theorem dX6_init_65 : decode cX6_init 65 = .ok (.return_, 1) := by decide +kernel
set_option maxRecDepth 20000 in
theorem ggX6_read_X6_clear : GoodIn wsX6_read wsX6_clear := goodIn_r _ [6, 7, 8, 9, 10, 11, 12, 13, 14, 73, 74, 75, 76, 77, 78, 79, 80, 81, 82, 83] (by decide +kernel) (by decide +kernel)
set_option maxRecDepth 20000 in
theorem gX6_read_X6_clear : GoodIn wsX6_read (wsV RX6 36 RX6 yX6_clear wsX6_clear) := goodIn_app (goodIn_of _ (by decide +kernel)) ggX6_read_X6_clear
set_option maxRecDepth 20000 in
theorem ggX6_read_X6_endOfItem : GoodIn wsX6_read wsX6_endOfItem := goodIn_r _ [18, 19, 20, 21, 22, 23, 24, 25, 26, 27, 13, 28, 29, 30, 31, 32, 33, 34, 35, 36, 37, 38, 39, 40, 41, 12, 14, 73, 74, 75, 76, 77, 78, 79, 80, 81, 82, 83, 71, 72] (by decide +kernel) (by decide +kernel)
set_option maxRecDepth 20000 in
theorem gX6_read_X6_endOfItem : GoodIn wsX6_read (wsV RX6 45 RX6 yX6_endOfItem wsX6_endOfItem) := goodIn_app (goodIn_of _ (by decide +kernel)) ggX6_read_X6_endOfItem
set_option maxRecDepth 20000 in
theorem ggX6_read_X2_letterAt : GoodIn wsX6_read wsX2_letterAt := goodIn_r _ [24, 25, 26, 27, 13, 28, 71, 72] (by decide +kernel) (by decide +kernel)
set_option maxRecDepth 20000 in
theorem gX6_read_X2_letterAt : GoodIn wsX6_read (wsV RX6 49 RX2 yX2_letterAt wsX2_letterAt) := goodIn_app (goodIn_of _ (by decide +kernel)) ggX6_read_X2_letterAt
set_option maxRecDepth 20000 in
theorem ggX6_read_X6_addItem : GoodIn wsX6_read wsX6_addItem := goodIn_r _ [45, 19, 27, 13, 28, 46, 47, 48, 5, 49, 8, 7, 50, 51, 12, 14, 52, 53, 54, 55, 9, 56, 57, 58, 59, 60, 61, 62, 10, 63, 64, 65, 66, 67, 68, 69, 11, 70, 73, 74, 75, 76, 77, 78, 79, 80, 81, 82, 83] (by decide +kernel) (by decide +kernel)
set_option maxRecDepth 20000 in
theorem gX6_read_X6_addItem : GoodIn wsX6_read (wsV RX6 53 RX6 yX6_addItem wsX6_addItem) := goodIn_app (goodIn_of _ (by decide +kernel)) ggX6_read_X6_addItem
theorem dX6_read_0 : decode cX6_read 0 = .ok (.aload_n 0, 1) := by decide +kernel
theorem dX6_read_1 : decode cX6_read 1 = .ok (.invokevirtual 36, 3) := by decide +kernel
theorem dX6_read_4 : decode cX6_read 4 = .ok (.iconst 0, 1) := by decide +kernel
theorem dX6_read_5 : decode cX6_read 5 = .ok (.istore_n 2, 1) := by decide +kernel
theorem dX6_read_6 : decode cX6_read 6 = .ok (.iconst 0, 1) := by decide +kernel
theorem dX6_read_7 : decode cX6_read 7 = .ok (.istore_n 3, 1) := by decide +kernel
theorem dX6_read_8 : decode cX6_read 8 = .ok (.iload_n 3, 1) := by decide +kernel
theorem dX6_read_9 : decode cX6_read 9 = .ok (.sipush 200, 3) := by decide +kernel
theorem dX6_read_12 : decode cX6_read 12 = .ok (.if_icmp .ge 49, 3) := by decide +kernel
theorem dX6_read_15 : decode cX6_read 15 = .ok (.iload_n 2, 1) := by decide +kernel
theorem dX6_read_16 : decode cX6_read 16 = .ok (.aload_n 1, 1) := by decide +kernel
theorem dX6_read_17 : decode cX6_read 17 = .ok (.getfield 39, 3) := by decide +kernel
theorem dX6_read_20 : decode cX6_read 20 = .ok (.if_icmp .ge 41, 3) := by decide +kernel
theorem dX6_read_23 : decode cX6_read 23 = .ok (.aload_n 0, 1) := by decide +kernel
theorem dX6_read_24 : decode cX6_read 24 = .ok (.aload_n 1, 1) := by decide +kernel
theorem dX6_read_25 : decode cX6_read 25 = .ok (.iload_n 2, 1) := by decide +kernel
theorem dX6_read_26 : decode cX6_read 26 = .ok (.invokevirtual 45, 3) := by decide +kernel
theorem dX6_read_29 : decode cX6_read 29 = .ok (.istore 4, 2) := by decide +kernel
theorem dX6_read_31 : decode cX6_read 31 = .ok (.iload 4, 2) := by decide +kernel
theorem dX6_read_33 : decode cX6_read 33 = .ok (.bipush (-4), 2) := by decide +kernel
theorem dX6_read_35 : decode cX6_read 35 = .ok (.if_icmp .eq 15, 3) := by decide +kernel
theorem dX6_read_38 : decode cX6_read 38 = .ok (.aload_n 0, 1) := by decide +kernel
theorem dX6_read_39 : decode cX6_read 39 = .ok (.aload_n 1, 1) := by decide +kernel
theorem dX6_read_40 : decode cX6_read 40 = .ok (.iload_n 2, 1) := by decide +kernel
theorem dX6_read_41 : decode cX6_read 41 = .ok (.invokevirtual 49, 3) := by decide +kernel
theorem dX6_read_44 : decode cX6_read 44 = .ok (.invokevirtual 53, 3) := by decide +kernel
theorem dX6_read_47 : decode cX6_read 47 = .ok (.ifCond .ne 5, 3) := by decide +kernel
theorem dX6_read_50 : decode cX6_read 50 = .ok (.iload_n 2, 1) := by decide +kernel
theorem dX6_read_51 : decode cX6_read 51 = .ok (.ireturn, 1) := by decide +kernel
theorem dX6_read_52 : decode cX6_read 52 = .ok (.iload 4, 2) := by decide +kernel
theorem dX6_read_54 : decode cX6_read 54 = .ok (.istore_n 2, 1) := by decide +kernel
theorem dX6_read_55 : decode cX6_read 55 = .ok (.iinc 3 1, 3) := by decide +kernel
theorem dX6_read_58 : decode cX6_read 58 = .ok (.goto (-50), 3) := by decide +kernel
theorem dX6_read_61 : decode cX6_read 61 = .ok (.bipush (-4), 2) := by decide +kernel
theorem dX6_read_63 : decode cX6_read 63 = .ok (.ireturn, 1) := by decide +kernel
set_option maxRecDepth 20000 in
theorem ggX6_clear_X7_setCell : GoodIn wsX6_clear wsX7_setCell := goodIn_r _ [8] (by decide +kernel) (by decide +kernel)
set_option maxRecDepth 20000 in
theorem gX6_clear_X7_setCell_n57 : GoodIn wsX6_clear (wsX7_setCell) := ggX6_clear_X7_setCell
theorem dX6_clear_0 : decode cX6_clear 0 = .ok (.iconst 0, 1) := by decide +kernel
theorem dX6_clear_1 : decode cX6_clear 1 = .ok (.istore_n 1, 1) := by decide +kernel
theorem dX6_clear_2 : decode cX6_clear 2 = .ok (.iload_n 1, 1) := by decide +kernel
theorem dX6_clear_3 : decode cX6_clear 3 = .ok (.bipush 12, 2) := by decide +kernel
theorem dX6_clear_5 : decode cX6_clear 5 = .ok (.if_icmp .ge 20, 3) := by decide +kernel
theorem dX6_clear_8 : decode cX6_clear 8 = .ok (.aload_n 0, 1) := by decide +kernel
theorem dX6_clear_9 : decode cX6_clear 9 = .ok (.getfield 9, 3) := by decide +kernel
theorem dX6_clear_12 : decode cX6_clear 12 = .ok (.iload_n 1, 1) := by decide +kernel
theorem dX6_clear_13 : decode cX6_clear 13 = .ok (.sipush (-1000), 3) := by decide +kernel
theorem dX6_clear_16 : decode cX6_clear 16 = .ok (.invokestatic 57, 3) := by decide +kernel
theorem dX6_clear_19 : decode cX6_clear 19 = .ok (.iinc 1 1, 3) := by decide +kernel
theorem dX6_clear_22 : decode cX6_clear 22 = .ok (.goto (-20), 3) := by decide +kernel
theorem dX6_clear_25 : decode cX6_clear 25 = .ok (.aload_n 0, 1) := by decide +kernel
theorem dX6_clear_26 : decode cX6_clear 26 = .ok (.getfield 15, 3) := by decide +kernel
theorem dX6_clear_29 : decode cX6_clear 29 = .ok (.iconst 0, 1) := by decide +kernel
theorem dX6_clear_30 : decode cX6_clear 30 = .ok (.iconst 0, 1) := by decide +kernel
theorem dX6_clear_31 : decode cX6_clear 31 = .ok (.invokestatic 57, 3) := by decide +kernel
theorem dX6_clear_34 : decode cX6_clear 34 = .ok (.aload_n 0, 1) := by decide +kernel
theorem dX6_clear_35 : decode cX6_clear 35 = .ok (.getfield 15, 3) := by decide +kernel
theorem dX6_clear_38 : decode cX6_clear 38 = .ok (.iconst 1, 1) := by decide +kernel
theorem dX6_clear_39 : decode cX6_clear 39 = .ok (.iconst 0, 1) := by decide +kernel
theorem dX6_clear_40 : decode cX6_clear 40 = .ok (.invokestatic 57, 3) := by decide +kernel
theorem dX6_clear_43 : decode cX6_clear 43 = .ok (.aload_n 0, 1) := by decide +kernel
theorem dX6_clear_44 : decode cX6_clear 44 = .ok (.iconst 0, 1) := by decide +kernel
theorem dX6_clear_45 : decode cX6_clear 45 = .ok (.putfield 61, 3) := by decide +kernel
theorem dX6_clear_48 : decode cX6_clear 48 = .ok (.aload_n 0, 1) := by decide +kernel
theorem dX6_clear_49 : decode cX6_clear 49 = .ok (.iconst 0, 1) := by decide +kernel
theorem dX6_clear_50 : decode cX6_clear 50 = .ok (.putfield 64, 3) := by decide +kernel
theorem dX6_clear_53 : decode cX6_clear 53 = .ok (.aload_n 0, 1) := by decide +kernel
theorem dX6_clear_54 : decode cX6_clear 54 = .ok (.iconst 0, 1) := by decide +kernel
theorem dX6_clear_55 : decode cX6_clear 55 = .ok (.putfield 67, 3) := by decide +kernel
theorem dX6_clear_58 : decode cX6_clear 58 = .ok (.return_, 1) := by decide +kernel
set_option maxRecDepth 20000 in
theorem ggX6_endOfItem_X2_letterAt : GoodIn wsX6_endOfItem wsX2_letterAt := goodIn_r _ [6, 7, 8, 9, 10, 11, 38, 39] (by decide +kernel) (by decide +kernel)
set_option maxRecDepth 20000 in
theorem gX6_endOfItem_X2_letterAt : GoodIn wsX6_endOfItem (wsV RX6 49 RX2 yX2_letterAt wsX2_letterAt) := goodIn_app (goodIn_of _ (by decide +kernel)) ggX6_endOfItem_X2_letterAt
set_option maxRecDepth 20000 in
theorem ggX6_endOfItem_X2_figuresAt : GoodIn wsX6_endOfItem wsX2_figuresAt := goodIn_r _ [15, 16, 17, 18, 5, 19, 20, 3, 4, 6, 7, 8, 9, 10, 11, 38, 39] (by decide +kernel) (by decide +kernel)
set_option maxRecDepth 20000 in
theorem gX6_endOfItem_X2_figuresAt : GoodIn wsX6_endOfItem (wsV RX6 70 RX2 yX2_figuresAt wsX2_figuresAt) := goodIn_app (goodIn_of _ (by decide +kernel)) ggX6_endOfItem_X2_figuresAt
set_option maxRecDepth 20000 in
theorem ggX6_endOfItem_X2_numberAt : GoodIn wsX6_endOfItem wsX2_numberAt := goodIn_r _ [24, 20, 3, 4, 5, 6, 7, 8, 9, 10, 11, 38, 39] (by decide +kernel) (by decide +kernel)
set_option maxRecDepth 20000 in
theorem gX6_endOfItem_X2_numberAt : GoodIn wsX6_endOfItem (wsV RX6 73 RX2 yX2_numberAt wsX2_numberAt) := goodIn_app (goodIn_of _ (by decide +kernel)) ggX6_endOfItem_X2_numberAt
set_option maxRecDepth 20000 in
theorem ggX6_endOfItem_X7_setCell : GoodIn wsX6_endOfItem wsX7_setCell := goodIn_r _ [26] (by decide +kernel) (by decide +kernel)
set_option maxRecDepth 20000 in
theorem gX6_endOfItem_X7_setCell_n57 : GoodIn wsX6_endOfItem (wsX7_setCell) := ggX6_endOfItem_X7_setCell
theorem dX6_endOfItem_0 : decode cX6_endOfItem 0 = .ok (.aload_n 1, 1) := by decide +kernel
theorem dX6_endOfItem_1 : decode cX6_endOfItem 1 = .ok (.iload_n 2, 1) := by decide +kernel
theorem dX6_endOfItem_2 : decode cX6_endOfItem 2 = .ok (.invokevirtual 49, 3) := by decide +kernel
theorem dX6_endOfItem_5 : decode cX6_endOfItem 5 = .ok (.bipush 115, 2) := by decide +kernel
theorem dX6_endOfItem_7 : decode cX6_endOfItem 7 = .ok (.if_icmp .ne 7, 3) := by decide +kernel
theorem dX6_endOfItem_10 : decode cX6_endOfItem 10 = .ok (.iconst 3, 1) := by decide +kernel
theorem dX6_endOfItem_11 : decode cX6_endOfItem 11 = .ok (.goto 4, 3) := by decide +kernel
theorem dX6_endOfItem_14 : decode cX6_endOfItem 14 = .ok (.iconst 1, 1) := by decide +kernel
theorem dX6_endOfItem_15 : decode cX6_endOfItem 15 = .ok (.istore_n 3, 1) := by decide +kernel
theorem dX6_endOfItem_16 : decode cX6_endOfItem 16 = .ok (.iload_n 2, 1) := by decide +kernel
theorem dX6_endOfItem_17 : decode cX6_endOfItem 17 = .ok (.iconst 1, 1) := by decide +kernel
theorem dX6_endOfItem_18 : decode cX6_endOfItem 18 = .ok (.iadd, 1) := by decide +kernel
theorem dX6_endOfItem_19 : decode cX6_endOfItem 19 = .ok (.istore 4, 2) := by decide +kernel
theorem dX6_endOfItem_21 : decode cX6_endOfItem 21 = .ok (.iconst 0, 1) := by decide +kernel
theorem dX6_endOfItem_22 : decode cX6_endOfItem 22 = .ok (.istore 5, 2) := by decide +kernel
theorem dX6_endOfItem_24 : decode cX6_endOfItem 24 = .ok (.iload 5, 2) := by decide +kernel
theorem dX6_endOfItem_26 : decode cX6_endOfItem 26 = .ok (.iload_n 3, 1) := by decide +kernel
theorem dX6_endOfItem_27 : decode cX6_endOfItem 27 = .ok (.if_icmp .ge 79, 3) := by decide +kernel
theorem dX6_endOfItem_30 : decode cX6_endOfItem 30 = .ok (.aload_n 1, 1) := by decide +kernel
theorem dX6_endOfItem_31 : decode cX6_endOfItem 31 = .ok (.iload 4, 2) := by decide +kernel
theorem dX6_endOfItem_33 : decode cX6_endOfItem 33 = .ok (.invokevirtual 70, 3) := by decide +kernel
theorem dX6_endOfItem_36 : decode cX6_endOfItem 36 = .ok (.istore 6, 2) := by decide +kernel
theorem dX6_endOfItem_38 : decode cX6_endOfItem 38 = .ok (.iload 6, 2) := by decide +kernel
theorem dX6_endOfItem_40 : decode cX6_endOfItem 40 = .ok (.ifCond .ne 6, 3) := by decide +kernel
theorem dX6_endOfItem_43 : decode cX6_endOfItem 43 = .ok (.bipush (-4), 2) := by decide +kernel
theorem dX6_endOfItem_45 : decode cX6_endOfItem 45 = .ok (.ireturn, 1) := by decide +kernel
theorem dX6_endOfItem_46 : decode cX6_endOfItem 46 = .ok (.aload_n 0, 1) := by decide +kernel
theorem dX6_endOfItem_47 : decode cX6_endOfItem 47 = .ok (.getfield 33, 3) := by decide +kernel
theorem dX6_endOfItem_50 : decode cX6_endOfItem 50 = .ok (.iload 5, 2) := by decide +kernel
theorem dX6_endOfItem_52 : decode cX6_endOfItem 52 = .ok (.aload_n 1, 1) := by decide +kernel
theorem dX6_endOfItem_53 : decode cX6_endOfItem 53 = .ok (.iload 4, 2) := by decide +kernel
theorem dX6_endOfItem_55 : decode cX6_endOfItem 55 = .ok (.iload 6, 2) := by decide +kernel
theorem dX6_endOfItem_57 : decode cX6_endOfItem 57 = .ok (.invokevirtual 73, 3) := by decide +kernel
theorem dX6_endOfItem_60 : decode cX6_endOfItem 60 = .ok (.invokestatic 57, 3) := by decide +kernel
theorem dX6_endOfItem_63 : decode cX6_endOfItem 63 = .ok (.iload 4, 2) := by decide +kernel
theorem dX6_endOfItem_65 : decode cX6_endOfItem 65 = .ok (.iload 6, 2) := by decide +kernel
theorem dX6_endOfItem_67 : decode cX6_endOfItem 67 = .ok (.iadd, 1) := by decide +kernel
theorem dX6_endOfItem_68 : decode cX6_endOfItem 68 = .ok (.istore 4, 2) := by decide +kernel
theorem dX6_endOfItem_70 : decode cX6_endOfItem 70 = .ok (.aload_n 1, 1) := by decide +kernel
theorem dX6_endOfItem_71 : decode cX6_endOfItem 71 = .ok (.iload 4, 2) := by decide +kernel
theorem dX6_endOfItem_73 : decode cX6_endOfItem 73 = .ok (.invokevirtual 49, 3) := by decide +kernel
theorem dX6_endOfItem_76 : decode cX6_endOfItem 76 = .ok (.iload 5, 2) := by decide +kernel
theorem dX6_endOfItem_78 : decode cX6_endOfItem 78 = .ok (.iload_n 3, 1) := by decide +kernel
theorem dX6_endOfItem_79 : decode cX6_endOfItem 79 = .ok (.iconst 1, 1) := by decide +kernel
theorem dX6_endOfItem_80 : decode cX6_endOfItem 80 = .ok (.isub, 1) := by decide +kernel
theorem dX6_endOfItem_81 : decode cX6_endOfItem 81 = .ok (.if_icmp .ge 8, 3) := by decide +kernel
theorem dX6_endOfItem_84 : decode cX6_endOfItem 84 = .ok (.bipush 44, 2) := by decide +kernel
theorem dX6_endOfItem_86 : decode cX6_endOfItem 86 = .ok (.goto 5, 3) := by decide +kernel
theorem dX6_endOfItem_89 : decode cX6_endOfItem 89 = .ok (.bipush 59, 2) := by decide +kernel
theorem dX6_endOfItem_91 : decode cX6_endOfItem 91 = .ok (.if_icmp .eq 6, 3) := by decide +kernel
theorem dX6_endOfItem_94 : decode cX6_endOfItem 94 = .ok (.bipush (-4), 2) := by decide +kernel
theorem dX6_endOfItem_96 : decode cX6_endOfItem 96 = .ok (.ireturn, 1) := by decide +kernel
theorem dX6_endOfItem_97 : decode cX6_endOfItem 97 = .ok (.iinc 4 1, 3) := by decide +kernel
theorem dX6_endOfItem_100 : decode cX6_endOfItem 100 = .ok (.iinc 5 1, 3) := by decide +kernel
theorem dX6_endOfItem_103 : decode cX6_endOfItem 103 = .ok (.goto (-79), 3) := by decide +kernel
theorem dX6_endOfItem_106 : decode cX6_endOfItem 106 = .ok (.iload 4, 2) := by decide +kernel
theorem dX6_endOfItem_108 : decode cX6_endOfItem 108 = .ok (.ireturn, 1) := by decide +kernel
set_option maxRecDepth 20000 in
theorem ggX6_addItem_X7_cell : GoodIn wsX6_addItem wsX7_cell := goodIn_r _ [4] (by decide +kernel) (by decide +kernel)
set_option maxRecDepth 20000 in
theorem gX6_addItem_X7_cell_n77 : GoodIn wsX6_addItem (wsX7_cell) := ggX6_addItem_X7_cell
set_option maxRecDepth 20000 in
theorem ggX6_addItem_X6_addOne : GoodIn wsX6_addItem wsX6_addOne := goodIn_r _ [9, 10, 11, 2, 3, 4, 12, 13, 14, 15, 38, 39, 40, 41, 42, 43, 44, 45, 46, 47, 48] (by decide +kernel) (by decide +kernel)
set_option maxRecDepth 20000 in
theorem gX6_addItem_X6_addOne : GoodIn wsX6_addItem (wsV RX6 81 RX6 yX6_addOne wsX6_addOne) := goodIn_app (goodIn_of _ (by decide +kernel)) ggX6_addItem_X6_addOne
set_option maxRecDepth 20000 in
theorem ggX6_addItem_X6_addStrip : GoodIn wsX6_addItem wsX6_addStrip := goodIn_r _ [19, 20, 21, 22, 23, 14, 3, 15, 38, 39, 40, 41, 42, 43, 44, 45, 46, 47, 48] (by decide +kernel) (by decide +kernel)
set_option maxRecDepth 20000 in
theorem gX6_addItem_X6_addStrip : GoodIn wsX6_addItem (wsV RX6 85 RX6 yX6_addStrip wsX6_addStrip) := goodIn_app (goodIn_of _ (by decide +kernel)) ggX6_addItem_X6_addStrip
set_option maxRecDepth 20000 in
theorem ggX6_addItem_X6_addPush : GoodIn wsX6_addItem wsX6_addPush := goodIn_r _ [27, 28, 29, 30, 3, 31, 14, 15, 38, 39, 40, 41, 42, 43, 44, 45, 46, 47, 48] (by decide +kernel) (by decide +kernel)
set_option maxRecDepth 20000 in
theorem gX6_addItem_X6_addPush : GoodIn wsX6_addItem (wsV RX6 89 RX6 yX6_addPush wsX6_addPush) := goodIn_app (goodIn_of _ (by decide +kernel)) ggX6_addItem_X6_addPush
set_option maxRecDepth 20000 in
theorem ggX6_addItem_X6_addDamp : GoodIn wsX6_addItem wsX6_addDamp := goodIn_r _ [35, 36, 37, 14, 3, 15, 38, 39, 40, 41, 42, 43, 44, 45, 46, 47, 48] (by decide +kernel) (by decide +kernel)
set_option maxRecDepth 20000 in
theorem gX6_addItem_X6_addDamp : GoodIn wsX6_addItem (wsV RX6 92 RX6 yX6_addDamp wsX6_addDamp) := goodIn_app (goodIn_of _ (by decide +kernel)) ggX6_addItem_X6_addDamp
theorem dX6_addItem_0 : decode cX6_addItem 0 = .ok (.aload_n 0, 1) := by decide +kernel
theorem dX6_addItem_1 : decode cX6_addItem 1 = .ok (.getfield 33, 3) := by decide +kernel
theorem dX6_addItem_4 : decode cX6_addItem 4 = .ok (.iconst 0, 1) := by decide +kernel
theorem dX6_addItem_5 : decode cX6_addItem 5 = .ok (.invokestatic 77, 3) := by decide +kernel
theorem dX6_addItem_8 : decode cX6_addItem 8 = .ok (.istore_n 2, 1) := by decide +kernel
theorem dX6_addItem_9 : decode cX6_addItem 9 = .ok (.iload_n 1, 1) := by decide +kernel
theorem dX6_addItem_10 : decode cX6_addItem 10 = .ok (.lookupswitch 98 #[(100, 92), (108, 57), (112, 86), (115, 64), (117, 50)], 50) := by decide +kernel
theorem dX6_addItem_60 : decode cX6_addItem 60 = .ok (.aload_n 0, 1) := by decide +kernel
theorem dX6_addItem_61 : decode cX6_addItem 61 = .ok (.iconst 0, 1) := by decide +kernel
theorem dX6_addItem_62 : decode cX6_addItem 62 = .ok (.iload_n 2, 1) := by decide +kernel
theorem dX6_addItem_63 : decode cX6_addItem 63 = .ok (.invokevirtual 81, 3) := by decide +kernel
theorem dX6_addItem_66 : decode cX6_addItem 66 = .ok (.ireturn, 1) := by decide +kernel
theorem dX6_addItem_67 : decode cX6_addItem 67 = .ok (.aload_n 0, 1) := by decide +kernel
theorem dX6_addItem_68 : decode cX6_addItem 68 = .ok (.iconst 1, 1) := by decide +kernel
theorem dX6_addItem_69 : decode cX6_addItem 69 = .ok (.iload_n 2, 1) := by decide +kernel
theorem dX6_addItem_70 : decode cX6_addItem 70 = .ok (.invokevirtual 81, 3) := by decide +kernel
theorem dX6_addItem_73 : decode cX6_addItem 73 = .ok (.ireturn, 1) := by decide +kernel
theorem dX6_addItem_74 : decode cX6_addItem 74 = .ok (.aload_n 0, 1) := by decide +kernel
theorem dX6_addItem_75 : decode cX6_addItem 75 = .ok (.iload_n 2, 1) := by decide +kernel
theorem dX6_addItem_76 : decode cX6_addItem 76 = .ok (.aload_n 0, 1) := by decide +kernel
theorem dX6_addItem_77 : decode cX6_addItem 77 = .ok (.getfield 33, 3) := by decide +kernel
theorem dX6_addItem_80 : decode cX6_addItem 80 = .ok (.iconst 1, 1) := by decide +kernel
theorem dX6_addItem_81 : decode cX6_addItem 81 = .ok (.invokestatic 77, 3) := by decide +kernel
theorem dX6_addItem_84 : decode cX6_addItem 84 = .ok (.aload_n 0, 1) := by decide +kernel
theorem dX6_addItem_85 : decode cX6_addItem 85 = .ok (.getfield 33, 3) := by decide +kernel
theorem dX6_addItem_88 : decode cX6_addItem 88 = .ok (.iconst 2, 1) := by decide +kernel
theorem dX6_addItem_89 : decode cX6_addItem 89 = .ok (.invokestatic 77, 3) := by decide +kernel
theorem dX6_addItem_92 : decode cX6_addItem 92 = .ok (.invokevirtual 85, 3) := by decide +kernel
theorem dX6_addItem_95 : decode cX6_addItem 95 = .ok (.ireturn, 1) := by decide +kernel
theorem dX6_addItem_96 : decode cX6_addItem 96 = .ok (.aload_n 0, 1) := by decide +kernel
theorem dX6_addItem_97 : decode cX6_addItem 97 = .ok (.iload_n 2, 1) := by decide +kernel
theorem dX6_addItem_98 : decode cX6_addItem 98 = .ok (.invokevirtual 89, 3) := by decide +kernel
theorem dX6_addItem_101 : decode cX6_addItem 101 = .ok (.ireturn, 1) := by decide +kernel
theorem dX6_addItem_102 : decode cX6_addItem 102 = .ok (.aload_n 0, 1) := by decide +kernel
theorem dX6_addItem_103 : decode cX6_addItem 103 = .ok (.iload_n 2, 1) := by decide +kernel
theorem dX6_addItem_104 : decode cX6_addItem 104 = .ok (.invokevirtual 92, 3) := by decide +kernel
theorem dX6_addItem_107 : decode cX6_addItem 107 = .ok (.ireturn, 1) := by decide +kernel
theorem dX6_addItem_108 : decode cX6_addItem 108 = .ok (.iconst 0, 1) := by decide +kernel
theorem dX6_addItem_109 : decode cX6_addItem 109 = .ok (.ireturn, 1) := by decide +kernel
set_option maxRecDepth 20000 in
theorem ggX6_addOne_X7_cell : GoodIn wsX6_addOne wsX7_cell := goodIn_r _ [5] (by decide +kernel) (by decide +kernel)
set_option maxRecDepth 20000 in
theorem gX6_addOne_X7_cell_n77 : GoodIn wsX6_addOne (wsX7_cell) := ggX6_addOne_X7_cell
set_option maxRecDepth 20000 in
theorem ggX6_addOne_X7_oneOf : GoodIn wsX6_addOne wsX7_oneOf := goodIn_r _ [7] (by decide +kernel) (by decide +kernel)
set_option maxRecDepth 20000 in
theorem gX6_addOne_X7_oneOf_n95 : GoodIn wsX6_addOne (wsX7_oneOf) := ggX6_addOne_X7_oneOf
set_option maxRecDepth 20000 in
theorem ggX6_addOne_X7_setCell : GoodIn wsX6_addOne wsX7_setCell := goodIn_r _ [9] (by decide +kernel) (by decide +kernel)
set_option maxRecDepth 20000 in
theorem gX6_addOne_X7_setCell_n57 : GoodIn wsX6_addOne (wsX7_setCell) := ggX6_addOne_X7_setCell
theorem dX6_addOne_0 : decode cX6_addOne 0 = .ok (.aload_n 0, 1) := by decide +kernel
theorem dX6_addOne_1 : decode cX6_addOne 1 = .ok (.getfield 15, 3) := by decide +kernel
theorem dX6_addOne_4 : decode cX6_addOne 4 = .ok (.iload_n 1, 1) := by decide +kernel
theorem dX6_addOne_5 : decode cX6_addOne 5 = .ok (.invokestatic 77, 3) := by decide +kernel
theorem dX6_addOne_8 : decode cX6_addOne 8 = .ok (.istore_n 3, 1) := by decide +kernel
theorem dX6_addOne_9 : decode cX6_addOne 9 = .ok (.iload_n 3, 1) := by decide +kernel
theorem dX6_addOne_10 : decode cX6_addOne 10 = .ok (.bipush 6, 2) := by decide +kernel
theorem dX6_addOne_12 : decode cX6_addOne 12 = .ok (.if_icmp .ge 9, 3) := by decide +kernel
theorem dX6_addOne_15 : decode cX6_addOne 15 = .ok (.iload_n 2, 1) := by decide +kernel
theorem dX6_addOne_16 : decode cX6_addOne 16 = .ok (.bipush 60, 2) := by decide +kernel
theorem dX6_addOne_18 : decode cX6_addOne 18 = .ok (.if_icmp .le 5, 3) := by decide +kernel
theorem dX6_addOne_21 : decode cX6_addOne 21 = .ok (.iconst 0, 1) := by decide +kernel
theorem dX6_addOne_22 : decode cX6_addOne 22 = .ok (.ireturn, 1) := by decide +kernel
theorem dX6_addOne_23 : decode cX6_addOne 23 = .ok (.aload_n 0, 1) := by decide +kernel
theorem dX6_addOne_24 : decode cX6_addOne 24 = .ok (.getfield 9, 3) := by decide +kernel
theorem dX6_addOne_27 : decode cX6_addOne 27 = .ok (.iload_n 1, 1) := by decide +kernel
theorem dX6_addOne_28 : decode cX6_addOne 28 = .ok (.iload_n 3, 1) := by decide +kernel
theorem dX6_addOne_29 : decode cX6_addOne 29 = .ok (.invokestatic 95, 3) := by decide +kernel
theorem dX6_addOne_32 : decode cX6_addOne 32 = .ok (.iload_n 2, 1) := by decide +kernel
theorem dX6_addOne_33 : decode cX6_addOne 33 = .ok (.invokestatic 57, 3) := by decide +kernel
theorem dX6_addOne_36 : decode cX6_addOne 36 = .ok (.aload_n 0, 1) := by decide +kernel
theorem dX6_addOne_37 : decode cX6_addOne 37 = .ok (.getfield 15, 3) := by decide +kernel
theorem dX6_addOne_40 : decode cX6_addOne 40 = .ok (.iload_n 1, 1) := by decide +kernel
theorem dX6_addOne_41 : decode cX6_addOne 41 = .ok (.iload_n 3, 1) := by decide +kernel
theorem dX6_addOne_42 : decode cX6_addOne 42 = .ok (.iconst 1, 1) := by decide +kernel
theorem dX6_addOne_43 : decode cX6_addOne 43 = .ok (.iadd, 1) := by decide +kernel
theorem dX6_addOne_44 : decode cX6_addOne 44 = .ok (.invokestatic 57, 3) := by decide +kernel
theorem dX6_addOne_47 : decode cX6_addOne 47 = .ok (.iconst 1, 1) := by decide +kernel
theorem dX6_addOne_48 : decode cX6_addOne 48 = .ok (.ireturn, 1) := by decide +kernel
set_option maxRecDepth 20000 in
theorem ggX6_addStrip_X7_setCell : GoodIn wsX6_addStrip wsX7_setCell := goodIn_r _ [7] (by decide +kernel) (by decide +kernel)
set_option maxRecDepth 20000 in
theorem gX6_addStrip_X7_setCell_n57 : GoodIn wsX6_addStrip (wsX7_setCell) := ggX6_addStrip_X7_setCell
theorem dX6_addStrip_0 : decode cX6_addStrip 0 = .ok (.aload_n 0, 1) := by decide +kernel
theorem dX6_addStrip_1 : decode cX6_addStrip 1 = .ok (.getfield 61, 3) := by decide +kernel
theorem dX6_addStrip_4 : decode cX6_addStrip 4 = .ok (.bipush 7, 2) := by decide +kernel
theorem dX6_addStrip_6 : decode cX6_addStrip 6 = .ok (.if_icmp .ge 20, 3) := by decide +kernel
theorem dX6_addStrip_9 : decode cX6_addStrip 9 = .ok (.iload_n 1, 1) := by decide +kernel
theorem dX6_addStrip_10 : decode cX6_addStrip 10 = .ok (.iconst 3, 1) := by decide +kernel
theorem dX6_addStrip_11 : decode cX6_addStrip 11 = .ok (.if_icmp .gt 15, 3) := by decide +kernel
theorem dX6_addStrip_14 : decode cX6_addStrip 14 = .ok (.iload_n 2, 1) := by decide +kernel
theorem dX6_addStrip_15 : decode cX6_addStrip 15 = .ok (.bipush 60, 2) := by decide +kernel
theorem dX6_addStrip_17 : decode cX6_addStrip 17 = .ok (.if_icmp .gt 9, 3) := by decide +kernel
theorem dX6_addStrip_20 : decode cX6_addStrip 20 = .ok (.iload_n 3, 1) := by decide +kernel
theorem dX6_addStrip_21 : decode cX6_addStrip 21 = .ok (.bipush 99, 2) := by decide +kernel
theorem dX6_addStrip_23 : decode cX6_addStrip 23 = .ok (.if_icmp .le 5, 3) := by decide +kernel
theorem dX6_addStrip_26 : decode cX6_addStrip 26 = .ok (.iconst 0, 1) := by decide +kernel
theorem dX6_addStrip_27 : decode cX6_addStrip 27 = .ok (.ireturn, 1) := by decide +kernel
theorem dX6_addStrip_28 : decode cX6_addStrip 28 = .ok (.aload_n 0, 1) := by decide +kernel
theorem dX6_addStrip_29 : decode cX6_addStrip 29 = .ok (.getfield 18, 3) := by decide +kernel
theorem dX6_addStrip_32 : decode cX6_addStrip 32 = .ok (.aload_n 0, 1) := by decide +kernel
theorem dX6_addStrip_33 : decode cX6_addStrip 33 = .ok (.getfield 61, 3) := by decide +kernel
theorem dX6_addStrip_36 : decode cX6_addStrip 36 = .ok (.iload_n 1, 1) := by decide +kernel
theorem dX6_addStrip_37 : decode cX6_addStrip 37 = .ok (.invokestatic 57, 3) := by decide +kernel
theorem dX6_addStrip_40 : decode cX6_addStrip 40 = .ok (.aload_n 0, 1) := by decide +kernel
theorem dX6_addStrip_41 : decode cX6_addStrip 41 = .ok (.getfield 21, 3) := by decide +kernel
theorem dX6_addStrip_44 : decode cX6_addStrip 44 = .ok (.aload_n 0, 1) := by decide +kernel
theorem dX6_addStrip_45 : decode cX6_addStrip 45 = .ok (.getfield 61, 3) := by decide +kernel
theorem dX6_addStrip_48 : decode cX6_addStrip 48 = .ok (.iload_n 2, 1) := by decide +kernel
theorem dX6_addStrip_49 : decode cX6_addStrip 49 = .ok (.invokestatic 57, 3) := by decide +kernel
theorem dX6_addStrip_52 : decode cX6_addStrip 52 = .ok (.aload_n 0, 1) := by decide +kernel
theorem dX6_addStrip_53 : decode cX6_addStrip 53 = .ok (.getfield 24, 3) := by decide +kernel
theorem dX6_addStrip_56 : decode cX6_addStrip 56 = .ok (.aload_n 0, 1) := by decide +kernel
theorem dX6_addStrip_57 : decode cX6_addStrip 57 = .ok (.getfield 61, 3) := by decide +kernel
theorem dX6_addStrip_60 : decode cX6_addStrip 60 = .ok (.iload_n 3, 1) := by decide +kernel
theorem dX6_addStrip_61 : decode cX6_addStrip 61 = .ok (.invokestatic 57, 3) := by decide +kernel
theorem dX6_addStrip_64 : decode cX6_addStrip 64 = .ok (.aload_n 0, 1) := by decide +kernel
theorem dX6_addStrip_65 : decode cX6_addStrip 65 = .ok (.dup, 1) := by decide +kernel
theorem dX6_addStrip_66 : decode cX6_addStrip 66 = .ok (.getfield 61, 3) := by decide +kernel
theorem dX6_addStrip_69 : decode cX6_addStrip 69 = .ok (.iconst 1, 1) := by decide +kernel
theorem dX6_addStrip_70 : decode cX6_addStrip 70 = .ok (.iadd, 1) := by decide +kernel
theorem dX6_addStrip_71 : decode cX6_addStrip 71 = .ok (.putfield 61, 3) := by decide +kernel
theorem dX6_addStrip_74 : decode cX6_addStrip 74 = .ok (.iconst 1, 1) := by decide +kernel
theorem dX6_addStrip_75 : decode cX6_addStrip 75 = .ok (.ireturn, 1) := by decide +kernel
set_option maxRecDepth 20000 in
theorem ggX6_addPush_X7_within : GoodIn wsX6_addPush wsX7_within := goodIn_r _ [5] (by decide +kernel) (by decide +kernel)
set_option maxRecDepth 20000 in
theorem gX6_addPush_X7_within_n98 : GoodIn wsX6_addPush (wsX7_within) := ggX6_addPush_X7_within
set_option maxRecDepth 20000 in
theorem ggX6_addPush_X7_setCell : GoodIn wsX6_addPush wsX7_setCell := goodIn_r _ [7] (by decide +kernel) (by decide +kernel)
set_option maxRecDepth 20000 in
theorem gX6_addPush_X7_setCell_n57 : GoodIn wsX6_addPush (wsX7_setCell) := ggX6_addPush_X7_setCell
theorem dX6_addPush_0 : decode cX6_addPush 0 = .ok (.aload_n 0, 1) := by decide +kernel
theorem dX6_addPush_1 : decode cX6_addPush 1 = .ok (.getfield 64, 3) := by decide +kernel
theorem dX6_addPush_4 : decode cX6_addPush 4 = .ok (.iconst 4, 1) := by decide +kernel
theorem dX6_addPush_5 : decode cX6_addPush 5 = .ok (.if_icmp .ge 13, 3) := by decide +kernel
theorem dX6_addPush_8 : decode cX6_addPush 8 = .ok (.iload_n 1, 1) := by decide +kernel
theorem dX6_addPush_9 : decode cX6_addPush 9 = .ok (.iconst 1, 1) := by decide +kernel
theorem dX6_addPush_10 : decode cX6_addPush 10 = .ok (.bipush 20, 2) := by decide +kernel
theorem dX6_addPush_12 : decode cX6_addPush 12 = .ok (.invokestatic 98, 3) := by decide +kernel
theorem dX6_addPush_15 : decode cX6_addPush 15 = .ok (.ifCond .ne 5, 3) := by decide +kernel
theorem dX6_addPush_18 : decode cX6_addPush 18 = .ok (.iconst 0, 1) := by decide +kernel
theorem dX6_addPush_19 : decode cX6_addPush 19 = .ok (.ireturn, 1) := by decide +kernel
theorem dX6_addPush_20 : decode cX6_addPush 20 = .ok (.aload_n 0, 1) := by decide +kernel
theorem dX6_addPush_21 : decode cX6_addPush 21 = .ok (.getfield 27, 3) := by decide +kernel
theorem dX6_addPush_24 : decode cX6_addPush 24 = .ok (.aload_n 0, 1) := by decide +kernel
theorem dX6_addPush_25 : decode cX6_addPush 25 = .ok (.getfield 64, 3) := by decide +kernel
theorem dX6_addPush_28 : decode cX6_addPush 28 = .ok (.iload_n 1, 1) := by decide +kernel
theorem dX6_addPush_29 : decode cX6_addPush 29 = .ok (.invokestatic 57, 3) := by decide +kernel
theorem dX6_addPush_32 : decode cX6_addPush 32 = .ok (.aload_n 0, 1) := by decide +kernel
theorem dX6_addPush_33 : decode cX6_addPush 33 = .ok (.dup, 1) := by decide +kernel
theorem dX6_addPush_34 : decode cX6_addPush 34 = .ok (.getfield 64, 3) := by decide +kernel
theorem dX6_addPush_37 : decode cX6_addPush 37 = .ok (.iconst 1, 1) := by decide +kernel
theorem dX6_addPush_38 : decode cX6_addPush 38 = .ok (.iadd, 1) := by decide +kernel
theorem dX6_addPush_39 : decode cX6_addPush 39 = .ok (.putfield 64, 3) := by decide +kernel
theorem dX6_addPush_42 : decode cX6_addPush 42 = .ok (.iconst 1, 1) := by decide +kernel
theorem dX6_addPush_43 : decode cX6_addPush 43 = .ok (.ireturn, 1) := by decide +kernel
set_option maxRecDepth 20000 in
theorem ggX6_addDamp_X7_setCell : GoodIn wsX6_addDamp wsX7_setCell := goodIn_r _ [5] (by decide +kernel) (by decide +kernel)
set_option maxRecDepth 20000 in
theorem gX6_addDamp_X7_setCell_n57 : GoodIn wsX6_addDamp (wsX7_setCell) := ggX6_addDamp_X7_setCell
theorem dX6_addDamp_0 : decode cX6_addDamp 0 = .ok (.aload_n 0, 1) := by decide +kernel
theorem dX6_addDamp_1 : decode cX6_addDamp 1 = .ok (.getfield 67, 3) := by decide +kernel
theorem dX6_addDamp_4 : decode cX6_addDamp 4 = .ok (.bipush 8, 2) := by decide +kernel
theorem dX6_addDamp_6 : decode cX6_addDamp 6 = .ok (.if_icmp .ge 8, 3) := by decide +kernel
theorem dX6_addDamp_9 : decode cX6_addDamp 9 = .ok (.iload_n 1, 1) := by decide +kernel
theorem dX6_addDamp_10 : decode cX6_addDamp 10 = .ok (.iconst 3, 1) := by decide +kernel
theorem dX6_addDamp_11 : decode cX6_addDamp 11 = .ok (.if_icmp .le 5, 3) := by decide +kernel
theorem dX6_addDamp_14 : decode cX6_addDamp 14 = .ok (.iconst 0, 1) := by decide +kernel
theorem dX6_addDamp_15 : decode cX6_addDamp 15 = .ok (.ireturn, 1) := by decide +kernel
theorem dX6_addDamp_16 : decode cX6_addDamp 16 = .ok (.aload_n 0, 1) := by decide +kernel
theorem dX6_addDamp_17 : decode cX6_addDamp 17 = .ok (.getfield 30, 3) := by decide +kernel
theorem dX6_addDamp_20 : decode cX6_addDamp 20 = .ok (.aload_n 0, 1) := by decide +kernel
theorem dX6_addDamp_21 : decode cX6_addDamp 21 = .ok (.getfield 67, 3) := by decide +kernel
theorem dX6_addDamp_24 : decode cX6_addDamp 24 = .ok (.iload_n 1, 1) := by decide +kernel
theorem dX6_addDamp_25 : decode cX6_addDamp 25 = .ok (.invokestatic 57, 3) := by decide +kernel
theorem dX6_addDamp_28 : decode cX6_addDamp 28 = .ok (.aload_n 0, 1) := by decide +kernel
theorem dX6_addDamp_29 : decode cX6_addDamp 29 = .ok (.dup, 1) := by decide +kernel
theorem dX6_addDamp_30 : decode cX6_addDamp 30 = .ok (.getfield 67, 3) := by decide +kernel
theorem dX6_addDamp_33 : decode cX6_addDamp 33 = .ok (.iconst 1, 1) := by decide +kernel
theorem dX6_addDamp_34 : decode cX6_addDamp 34 = .ok (.iadd, 1) := by decide +kernel
theorem dX6_addDamp_35 : decode cX6_addDamp 35 = .ok (.putfield 67, 3) := by decide +kernel
theorem dX6_addDamp_38 : decode cX6_addDamp 38 = .ok (.iconst 1, 1) := by decide +kernel
theorem dX6_addDamp_39 : decode cX6_addDamp 39 = .ok (.ireturn, 1) := by decide +kernel
set_option maxRecDepth 20000 in
theorem ggX6_isOfLand_X7_within : GoodIn wsX6_isOfLand wsX7_within := goodIn_r _ [4] (by decide +kernel) (by decide +kernel)
set_option maxRecDepth 20000 in
theorem gX6_isOfLand_X7_within_n98 : GoodIn wsX6_isOfLand (wsX7_within) := ggX6_isOfLand_X7_within
set_option maxRecDepth 20000 in
theorem ggX6_isOfLand_X7_cell : GoodIn wsX6_isOfLand wsX7_cell := goodIn_r _ [6] (by decide +kernel) (by decide +kernel)
set_option maxRecDepth 20000 in
theorem gX6_isOfLand_X7_cell_n77 : GoodIn wsX6_isOfLand (wsX7_cell) := ggX6_isOfLand_X7_cell
theorem dX6_isOfLand_0 : decode cX6_isOfLand 0 = .ok (.iload_n 1, 1) := by decide +kernel
theorem dX6_isOfLand_1 : decode cX6_isOfLand 1 = .ok (.iconst 0, 1) := by decide +kernel
theorem dX6_isOfLand_2 : decode cX6_isOfLand 2 = .ok (.iconst 1, 1) := by decide +kernel
theorem dX6_isOfLand_3 : decode cX6_isOfLand 3 = .ok (.invokestatic 98, 3) := by decide +kernel
theorem dX6_isOfLand_6 : decode cX6_isOfLand 6 = .ok (.ifCond .eq 25, 3) := by decide +kernel
theorem dX6_isOfLand_9 : decode cX6_isOfLand 9 = .ok (.iload_n 2, 1) := by decide +kernel
theorem dX6_isOfLand_10 : decode cX6_isOfLand 10 = .ok (.iconst 0, 1) := by decide +kernel
theorem dX6_isOfLand_11 : decode cX6_isOfLand 11 = .ok (.aload_n 0, 1) := by decide +kernel
theorem dX6_isOfLand_12 : decode cX6_isOfLand 12 = .ok (.getfield 15, 3) := by decide +kernel
theorem dX6_isOfLand_15 : decode cX6_isOfLand 15 = .ok (.iload_n 1, 1) := by decide +kernel
theorem dX6_isOfLand_16 : decode cX6_isOfLand 16 = .ok (.invokestatic 77, 3) := by decide +kernel
theorem dX6_isOfLand_19 : decode cX6_isOfLand 19 = .ok (.iconst 1, 1) := by decide +kernel
theorem dX6_isOfLand_20 : decode cX6_isOfLand 20 = .ok (.isub, 1) := by decide +kernel
theorem dX6_isOfLand_21 : decode cX6_isOfLand 21 = .ok (.invokestatic 98, 3) := by decide +kernel
theorem dX6_isOfLand_24 : decode cX6_isOfLand 24 = .ok (.ifCond .eq 7, 3) := by decide +kernel
theorem dX6_isOfLand_27 : decode cX6_isOfLand 27 = .ok (.iconst 1, 1) := by decide +kernel
theorem dX6_isOfLand_28 : decode cX6_isOfLand 28 = .ok (.goto 4, 3) := by decide +kernel
theorem dX6_isOfLand_31 : decode cX6_isOfLand 31 = .ok (.iconst 0, 1) := by decide +kernel
theorem dX6_isOfLand_32 : decode cX6_isOfLand 32 = .ok (.ireturn, 1) := by decide +kernel
set_option maxRecDepth 20000 in
theorem ggX6_isTold_X7_landOf : GoodIn wsX6_isTold wsX7_landOf := goodIn_r _ [3] (by decide +kernel) (by decide +kernel)
set_option maxRecDepth 20000 in
theorem gX6_isTold_X7_landOf_n101 : GoodIn wsX6_isTold (wsX7_landOf) := ggX6_isTold_X7_landOf
set_option maxRecDepth 20000 in
theorem ggX6_isTold_X7_kOf : GoodIn wsX6_isTold wsX7_kOf := goodIn_r _ [5] (by decide +kernel) (by decide +kernel)
set_option maxRecDepth 20000 in
theorem gX6_isTold_X7_kOf_n104 : GoodIn wsX6_isTold (wsX7_kOf) := ggX6_isTold_X7_kOf
set_option maxRecDepth 20000 in
theorem ggX6_isTold_X6_isOfLand : GoodIn wsX6_isTold wsX6_isOfLand := goodIn_r _ [10, 11, 12, 2, 13, 14, 15, 16, 17, 18, 19, 20, 21, 22, 23, 24, 25, 26] (by decide +kernel) (by decide +kernel)
set_option maxRecDepth 20000 in
theorem gX6_isTold_X6_isOfLand : GoodIn wsX6_isTold (wsV RX6 107 RX6 yX6_isOfLand wsX6_isOfLand) := goodIn_app (goodIn_of _ (by decide +kernel)) ggX6_isTold_X6_isOfLand
theorem dX6_isTold_0 : decode cX6_isTold 0 = .ok (.aload_n 0, 1) := by decide +kernel
theorem dX6_isTold_1 : decode cX6_isTold 1 = .ok (.iload_n 1, 1) := by decide +kernel
theorem dX6_isTold_2 : decode cX6_isTold 2 = .ok (.invokestatic 101, 3) := by decide +kernel
theorem dX6_isTold_5 : decode cX6_isTold 5 = .ok (.iload_n 1, 1) := by decide +kernel
theorem dX6_isTold_6 : decode cX6_isTold 6 = .ok (.invokestatic 104, 3) := by decide +kernel
theorem dX6_isTold_9 : decode cX6_isTold 9 = .ok (.invokevirtual 107, 3) := by decide +kernel
theorem dX6_isTold_12 : decode cX6_isTold 12 = .ok (.ireturn, 1) := by decide +kernel
theorem dX6_dampOf_0 : decode cX6_dampOf 0 = .ok (.aload_n 0, 1) := by decide +kernel
theorem dX6_dampOf_1 : decode cX6_dampOf 1 = .ok (.getfield 67, 3) := by decide +kernel
theorem dX6_dampOf_4 : decode cX6_dampOf 4 = .ok (.ifCond .gt 5, 3) := by decide +kernel
theorem dX6_dampOf_7 : decode cX6_dampOf 7 = .ok (.iconst 0, 1) := by decide +kernel
theorem dX6_dampOf_8 : decode cX6_dampOf 8 = .ok (.ireturn, 1) := by decide +kernel
theorem dX6_dampOf_9 : decode cX6_dampOf 9 = .ok (.iload_n 1, 1) := by decide +kernel
theorem dX6_dampOf_10 : decode cX6_dampOf 10 = .ok (.aload_n 0, 1) := by decide +kernel
theorem dX6_dampOf_11 : decode cX6_dampOf 11 = .ok (.getfield 67, 3) := by decide +kernel
theorem dX6_dampOf_14 : decode cX6_dampOf 14 = .ok (.irem, 1) := by decide +kernel
theorem dX6_dampOf_15 : decode cX6_dampOf 15 = .ok (.istore_n 2, 1) := by decide +kernel
theorem dX6_dampOf_16 : decode cX6_dampOf 16 = .ok (.iload_n 2, 1) := by decide +kernel
theorem dX6_dampOf_17 : decode cX6_dampOf 17 = .ok (.ifCond .lt 21, 3) := by decide +kernel
theorem dX6_dampOf_20 : decode cX6_dampOf 20 = .ok (.iload_n 2, 1) := by decide +kernel
theorem dX6_dampOf_21 : decode cX6_dampOf 21 = .ok (.aload_n 0, 1) := by decide +kernel
theorem dX6_dampOf_22 : decode cX6_dampOf 22 = .ok (.getfield 30, 3) := by decide +kernel
theorem dX6_dampOf_25 : decode cX6_dampOf 25 = .ok (.arraylength, 1) := by decide +kernel
theorem dX6_dampOf_26 : decode cX6_dampOf 26 = .ok (.if_icmp .ge 12, 3) := by decide +kernel
theorem dX6_dampOf_29 : decode cX6_dampOf 29 = .ok (.aload_n 0, 1) := by decide +kernel
theorem dX6_dampOf_30 : decode cX6_dampOf 30 = .ok (.getfield 30, 3) := by decide +kernel
theorem dX6_dampOf_33 : decode cX6_dampOf 33 = .ok (.iload_n 2, 1) := by decide +kernel
theorem dX6_dampOf_34 : decode cX6_dampOf 34 = .ok (.iaload, 1) := by decide +kernel
theorem dX6_dampOf_35 : decode cX6_dampOf 35 = .ok (.goto 4, 3) := by decide +kernel
theorem dX6_dampOf_38 : decode cX6_dampOf 38 = .ok (.iconst 0, 1) := by decide +kernel
theorem dX6_dampOf_39 : decode cX6_dampOf 39 = .ok (.ireturn, 1) := by decide +kernel
set_option maxRecDepth 20000 in
theorem ggX6_dampInch_X6_dampOf : GoodIn wsX6_dampInch wsX6_dampOf := goodIn_r _ [5, 6, 7, 8, 9, 10, 11, 12, 13, 14, 15, 16, 17, 18] (by decide +kernel) (by decide +kernel)
set_option maxRecDepth 20000 in
theorem gX6_dampInch_X6_dampOf : GoodIn wsX6_dampInch (wsV RX6 110 RX6 yX6_dampOf wsX6_dampOf) := goodIn_app (goodIn_of _ (by decide +kernel)) ggX6_dampInch_X6_dampOf
theorem dX6_dampInch_0 : decode cX6_dampInch 0 = .ok (.iload_n 1, 1) := by decide +kernel
theorem dX6_dampInch_1 : decode cX6_dampInch 1 = .ok (.iload_n 1, 1) := by decide +kernel
theorem dX6_dampInch_2 : decode cX6_dampInch 2 = .ok (.aload_n 0, 1) := by decide +kernel
theorem dX6_dampInch_3 : decode cX6_dampInch 3 = .ok (.iload_n 2, 1) := by decide +kernel
theorem dX6_dampInch_4 : decode cX6_dampInch 4 = .ok (.invokevirtual 110, 3) := by decide +kernel
theorem dX6_dampInch_7 : decode cX6_dampInch 7 = .ok (.imul, 1) := by decide +kernel
theorem dX6_dampInch_8 : decode cX6_dampInch 8 = .ok (.bipush 10, 2) := by decide +kernel
theorem dX6_dampInch_10 : decode cX6_dampInch 10 = .ok (.idiv, 1) := by decide +kernel
theorem dX6_dampInch_11 : decode cX6_dampInch 11 = .ok (.iadd, 1) := by decide +kernel
theorem dX6_dampInch_12 : decode cX6_dampInch 12 = .ok (.ireturn, 1) := by decide +kernel
set_option maxRecDepth 20000 in
theorem ggX6_gapUnshifted_X7_cell : GoodIn wsX6_gapUnshifted wsX7_cell := goodIn_r _ [5] (by decide +kernel) (by decide +kernel)
set_option maxRecDepth 20000 in
theorem gX6_gapUnshifted_X7_cell_n77 : GoodIn wsX6_gapUnshifted (wsX7_cell) := ggX6_gapUnshifted_X7_cell
set_option maxRecDepth 20000 in
theorem ggX6_gapUnshifted_X6_dampInch : GoodIn wsX6_gapUnshifted wsX6_dampInch := goodIn_r _ [10, 11, 12, 13, 9, 14, 15, 16, 17, 18, 19, 20, 21, 22, 23, 24, 25, 26, 27] (by decide +kernel) (by decide +kernel)
set_option maxRecDepth 20000 in
theorem gX6_gapUnshifted_X6_dampInch : GoodIn wsX6_gapUnshifted (wsV RX6 113 RX6 yX6_dampInch wsX6_dampInch) := goodIn_app (goodIn_of _ (by decide +kernel)) ggX6_gapUnshifted_X6_dampInch
theorem dX6_gapUnshifted_0 : decode cX6_gapUnshifted 0 = .ok (.aload_n 0, 1) := by decide +kernel
theorem dX6_gapUnshifted_1 : decode cX6_gapUnshifted 1 = .ok (.aload_n 0, 1) := by decide +kernel
theorem dX6_gapUnshifted_2 : decode cX6_gapUnshifted 2 = .ok (.getfield 21, 3) := by decide +kernel
theorem dX6_gapUnshifted_5 : decode cX6_gapUnshifted 5 = .ok (.iload_n 1, 1) := by decide +kernel
theorem dX6_gapUnshifted_6 : decode cX6_gapUnshifted 6 = .ok (.invokestatic 77, 3) := by decide +kernel
theorem dX6_gapUnshifted_9 : decode cX6_gapUnshifted 9 = .ok (.iload_n 3, 1) := by decide +kernel
theorem dX6_gapUnshifted_10 : decode cX6_gapUnshifted 10 = .ok (.invokevirtual 113, 3) := by decide +kernel
theorem dX6_gapUnshifted_13 : decode cX6_gapUnshifted 13 = .ok (.aload_n 0, 1) := by decide +kernel
theorem dX6_gapUnshifted_14 : decode cX6_gapUnshifted 14 = .ok (.getfield 9, 3) := by decide +kernel
theorem dX6_gapUnshifted_17 : decode cX6_gapUnshifted 17 = .ok (.iload_n 2, 1) := by decide +kernel
theorem dX6_gapUnshifted_18 : decode cX6_gapUnshifted 18 = .ok (.invokestatic 77, 3) := by decide +kernel
theorem dX6_gapUnshifted_21 : decode cX6_gapUnshifted 21 = .ok (.isub, 1) := by decide +kernel
theorem dX6_gapUnshifted_22 : decode cX6_gapUnshifted 22 = .ok (.ireturn, 1) := by decide +kernel
set_option maxRecDepth 20000 in
theorem ggX6_metFrom_X6_dampInch : GoodIn wsX6_metFrom wsX6_dampInch := goodIn_r _ [6, 7, 8, 9, 5, 10, 11, 12, 31, 32, 33, 34, 35, 36, 37, 38, 39, 40, 41] (by decide +kernel) (by decide +kernel)
set_option maxRecDepth 20000 in
theorem gX6_metFrom_X6_dampInch : GoodIn wsX6_metFrom (wsV RX6 113 RX6 yX6_dampInch wsX6_dampInch) := goodIn_app (goodIn_of _ (by decide +kernel)) ggX6_metFrom_X6_dampInch
set_option maxRecDepth 20000 in
theorem ggX6_metFrom_X6_isTold : GoodIn wsX6_metFrom wsX6_isTold := goodIn_r _ [16, 17, 18, 19, 20, 21, 22, 23, 24, 5, 25, 26, 27, 28, 29, 30, 31, 32, 33, 34, 35, 36, 37, 38, 39, 40, 41] (by decide +kernel) (by decide +kernel)
set_option maxRecDepth 20000 in
theorem gX6_metFrom_X6_isTold : GoodIn wsX6_metFrom (wsV RX6 116 RX6 yX6_isTold wsX6_isTold) := goodIn_app (goodIn_of _ (by decide +kernel)) ggX6_metFrom_X6_isTold
set_option maxRecDepth 20000 in
theorem ggX6_metFrom_X7_cell : GoodIn wsX6_metFrom wsX7_cell := goodIn_r _ [30] (by decide +kernel) (by decide +kernel)
set_option maxRecDepth 20000 in
theorem gX6_metFrom_X7_cell_n77 : GoodIn wsX6_metFrom (wsX7_cell) := ggX6_metFrom_X7_cell
set_option maxRecDepth 20000 in
theorem ggX6_metFrom_X7_within : GoodIn wsX6_metFrom wsX7_within := goodIn_r _ [28] (by decide +kernel) (by decide +kernel)
set_option maxRecDepth 20000 in
theorem gX6_metFrom_X7_within_n98 : GoodIn wsX6_metFrom (wsX7_within) := ggX6_metFrom_X7_within
theorem dX6_metFrom_0 : decode cX6_metFrom 0 = .ok (.aload_n 0, 1) := by decide +kernel
theorem dX6_metFrom_1 : decode cX6_metFrom 1 = .ok (.iload_n 1, 1) := by decide +kernel
theorem dX6_metFrom_2 : decode cX6_metFrom 2 = .ok (.iload_n 2, 1) := by decide +kernel
theorem dX6_metFrom_3 : decode cX6_metFrom 3 = .ok (.invokevirtual 113, 3) := by decide +kernel
theorem dX6_metFrom_6 : decode cX6_metFrom 6 = .ok (.istore_n 3, 1) := by decide +kernel
theorem dX6_metFrom_7 : decode cX6_metFrom 7 = .ok (.iconst 0, 1) := by decide +kernel
theorem dX6_metFrom_8 : decode cX6_metFrom 8 = .ok (.istore 4, 2) := by decide +kernel
theorem dX6_metFrom_10 : decode cX6_metFrom 10 = .ok (.iconst 0, 1) := by decide +kernel
theorem dX6_metFrom_11 : decode cX6_metFrom 11 = .ok (.istore 5, 2) := by decide +kernel
theorem dX6_metFrom_13 : decode cX6_metFrom 13 = .ok (.iload 5, 2) := by decide +kernel
theorem dX6_metFrom_15 : decode cX6_metFrom 15 = .ok (.bipush 12, 2) := by decide +kernel
theorem dX6_metFrom_17 : decode cX6_metFrom 17 = .ok (.if_icmp .ge 42, 3) := by decide +kernel
theorem dX6_metFrom_20 : decode cX6_metFrom 20 = .ok (.aload_n 0, 1) := by decide +kernel
theorem dX6_metFrom_21 : decode cX6_metFrom 21 = .ok (.iload 5, 2) := by decide +kernel
theorem dX6_metFrom_23 : decode cX6_metFrom 23 = .ok (.invokevirtual 116, 3) := by decide +kernel
theorem dX6_metFrom_26 : decode cX6_metFrom 26 = .ok (.ifCond .eq 27, 3) := by decide +kernel
theorem dX6_metFrom_29 : decode cX6_metFrom 29 = .ok (.iload_n 3, 1) := by decide +kernel
theorem dX6_metFrom_30 : decode cX6_metFrom 30 = .ok (.aload_n 0, 1) := by decide +kernel
theorem dX6_metFrom_31 : decode cX6_metFrom 31 = .ok (.getfield 9, 3) := by decide +kernel
theorem dX6_metFrom_34 : decode cX6_metFrom 34 = .ok (.iload 5, 2) := by decide +kernel
theorem dX6_metFrom_36 : decode cX6_metFrom 36 = .ok (.invokestatic 77, 3) := by decide +kernel
theorem dX6_metFrom_39 : decode cX6_metFrom 39 = .ok (.isub, 1) := by decide +kernel
theorem dX6_metFrom_40 : decode cX6_metFrom 40 = .ok (.bipush (-40), 2) := by decide +kernel
theorem dX6_metFrom_42 : decode cX6_metFrom 42 = .ok (.bipush 40, 2) := by decide +kernel
theorem dX6_metFrom_44 : decode cX6_metFrom 44 = .ok (.invokestatic 98, 3) := by decide +kernel
theorem dX6_metFrom_47 : decode cX6_metFrom 47 = .ok (.ifCond .eq 6, 3) := by decide +kernel
theorem dX6_metFrom_50 : decode cX6_metFrom 50 = .ok (.iinc 4 1, 3) := by decide +kernel
theorem dX6_metFrom_53 : decode cX6_metFrom 53 = .ok (.iinc 5 1, 3) := by decide +kernel
theorem dX6_metFrom_56 : decode cX6_metFrom 56 = .ok (.goto (-43), 3) := by decide +kernel
theorem dX6_metFrom_59 : decode cX6_metFrom 59 = .ok (.iload 4, 2) := by decide +kernel
theorem dX6_metFrom_61 : decode cX6_metFrom 61 = .ok (.ireturn, 1) := by decide +kernel
