set_option maxRecDepth 20000 in
theorem ggX0_init_X3_init : GoodIn wsX0_init wsX3_init := goodIn_r _ [10, 11, 2, 3, 12, 13, 14, 18, 19, 20] (by decide +kernel) (by decide +kernel)
set_option maxRecDepth 20000 in
theorem gX0_init_X3_init_n17 : GoodIn wsX0_init (wsX3_init) := ggX0_init_X3_init
theorem dX0_init_0 : decode cX0_init 0 = .ok (.aload_n 0, 1) := by decide +kernel
theorem dX0_init_1 : decode cX0_init 1 = .ok (.invokespecial 3, 3) := by decide +kernel
theorem dX0_init_4 : decode cX0_init 4 = .ok (.aload_n 0, 1) := by decide +kernel
theorem dX0_init_5 : decode cX0_init 5 = .ok (.bipush 8, 2) := by decide +kernel
theorem dX0_init_7 : decode cX0_init 7 = .ok (.anewarray 9, 3) := by decide +kernel
theorem dX0_init_10 : decode cX0_init 10 = .ok (.putfield 11, 3) := by decide +kernel
theorem dX0_init_13 : decode cX0_init 13 = .ok (.aload_n 0, 1) := by decide +kernel
theorem dX0_init_14 : decode cX0_init 14 = .ok (.new 9, 3) := by decide +kernel
theorem dX0_init_17 : decode cX0_init 17 = .ok (.dup, 1) := by decide +kernel
theorem dX0_init_18 : decode cX0_init 18 = .ok (.invokespecial 17, 3) := by decide +kernel
theorem dX0_init_21 : decode cX0_init 21 = .ok (.putfield 18, 3) := by decide +kernel
theorem dX0_init_24 : decode cX0_init 24 = .ok (.iconst 0, 1) := by decide +kernel
theorem dX0_init_25 : decode cX0_init 25 = .ok (.istore_n 1, 1) := by decide +kernel
theorem dX0_init_26 : decode cX0_init 26 = .ok (.iload_n 1, 1) := by decide +kernel
theorem dX0_init_27 : decode cX0_init 27 = .ok (.bipush 8, 2) := by decide +kernel
theorem dX0_init_29 : decode cX0_init 29 = .ok (.if_icmp .ge 22, 3) := by decide +kernel
theorem dX0_init_32 : decode cX0_init 32 = .ok (.aload_n 0, 1) := by decide +kernel
theorem dX0_init_33 : decode cX0_init 33 = .ok (.getfield 11, 3) := by decide +kernel
theorem dX0_init_36 : decode cX0_init 36 = .ok (.iload_n 1, 1) := by decide +kernel
theorem dX0_init_37 : decode cX0_init 37 = .ok (.new 9, 3) := by decide +kernel
theorem dX0_init_40 : decode cX0_init 40 = .ok (.dup, 1) := by decide +kernel
theorem dX0_init_41 : decode cX0_init 41 = .ok (.invokespecial 17, 3) := by decide +kernel
theorem dX0_init_44 : decode cX0_init 44 = .ok (.aastore, 1) := by decide +kernel
theorem dX0_init_45 : decode cX0_init 45 = .ok (.iinc 1 1, 3) := by decide +kernel
theorem dX0_init_48 : decode cX0_init 48 = .ok (.goto (-22), 3) := by decide +kernel
theorem dX0_init_51 : decode cX0_init 51 = .ok (.return_, 1) := by decide +kernel
theorem dX0_append_0 : decode cX0_append 0 = .ok (.aload_n 0, 1) := by decide +kernel
theorem dX0_append_1 : decode cX0_append 1 = .ok (.getfield 22, 3) := by decide +kernel
theorem dX0_append_4 : decode cX0_append 4 = .ok (.istore_n 1, 1) := by decide +kernel
theorem dX0_append_5 : decode cX0_append 5 = .ok (.aload_n 0, 1) := by decide +kernel
theorem dX0_append_6 : decode cX0_append 6 = .ok (.dup, 1) := by decide +kernel
theorem dX0_append_7 : decode cX0_append 7 = .ok (.getfield 22, 3) := by decide +kernel
theorem dX0_append_10 : decode cX0_append 10 = .ok (.iconst 1, 1) := by decide +kernel
theorem dX0_append_11 : decode cX0_append 11 = .ok (.iadd, 1) := by decide +kernel
theorem dX0_append_12 : decode cX0_append 12 = .ok (.putfield 22, 3) := by decide +kernel
theorem dX0_append_15 : decode cX0_append 15 = .ok (.iload_n 1, 1) := by decide +kernel
theorem dX0_append_16 : decode cX0_append 16 = .ok (.ireturn, 1) := by decide +kernel
theorem dX0_scriptAt_0 : decode cX0_scriptAt 0 = .ok (.iload_n 1, 1) := by decide +kernel
theorem dX0_scriptAt_1 : decode cX0_scriptAt 1 = .ok (.ifCond .lt 18, 3) := by decide +kernel
theorem dX0_scriptAt_4 : decode cX0_scriptAt 4 = .ok (.iload_n 1, 1) := by decide +kernel
theorem dX0_scriptAt_5 : decode cX0_scriptAt 5 = .ok (.bipush 8, 2) := by decide +kernel
theorem dX0_scriptAt_7 : decode cX0_scriptAt 7 = .ok (.if_icmp .ge 12, 3) := by decide +kernel
theorem dX0_scriptAt_10 : decode cX0_scriptAt 10 = .ok (.aload_n 0, 1) := by decide +kernel
theorem dX0_scriptAt_11 : decode cX0_scriptAt 11 = .ok (.getfield 11, 3) := by decide +kernel
theorem dX0_scriptAt_14 : decode cX0_scriptAt 14 = .ok (.iload_n 1, 1) := by decide +kernel
theorem dX0_scriptAt_15 : decode cX0_scriptAt 15 = .ok (.aaload, 1) := by decide +kernel
theorem dX0_scriptAt_16 : decode cX0_scriptAt 16 = .ok (.goto 7, 3) := by decide +kernel
theorem dX0_scriptAt_19 : decode cX0_scriptAt 19 = .ok (.aload_n 0, 1) := by decide +kernel
theorem dX0_scriptAt_20 : decode cX0_scriptAt 20 = .ok (.getfield 18, 3) := by decide +kernel
theorem dX0_scriptAt_23 : decode cX0_scriptAt 23 = .ok (.areturn, 1) := by decide +kernel
set_option maxRecDepth 20000 in
theorem ggX1_init_X4_init : GoodIn wsX1_init wsX4_init := goodIn_r _ [23, 24, 2, 3, 25, 86, 87, 88, 89, 90, 91, 92, 93, 94, 95, 96] (by decide +kernel) (by decide +kernel)
set_option maxRecDepth 20000 in
theorem gX1_init_X4_init : GoodIn wsX1_init (wsX4_init) := ggX1_init_X4_init
set_option maxRecDepth 20000 in
theorem ggX1_init_X5_init : GoodIn wsX1_init wsX5_init := goodIn_r _ [27, 28, 2, 3, 29, 15, 16, 30, 31, 18, 32, 33, 34, 35, 36, 103, 104, 97, 98, 99, 100, 101, 102] (by decide +kernel) (by decide +kernel)
set_option maxRecDepth 20000 in
theorem gX1_init_X5_init_n30 : GoodIn wsX1_init (wsX5_init) := ggX1_init_X5_init
set_option maxRecDepth 20000 in
theorem ggX1_init_X2_init : GoodIn wsX1_init wsX2_init := goodIn_r _ [34, 35, 2, 3, 18, 36, 103, 104] (by decide +kernel) (by decide +kernel)
set_option maxRecDepth 20000 in
theorem gX1_init_X2_init_n37 : GoodIn wsX1_init (wsX2_init) := ggX1_init_X2_init
set_option maxRecDepth 20000 in
theorem ggX1_init_X1_clear : GoodIn wsX1_init wsX1_clear := goodIn_r _ [41, 42, 43, 17, 19, 44, 45, 46, 47, 48, 49, 50, 40, 51, 52, 53, 54, 55, 10, 13, 56, 57, 58, 12, 59, 30, 31, 60, 61, 62, 32, 63, 64, 65, 16, 66, 67, 68, 69, 70, 71, 72, 73, 74, 75, 76, 77, 78, 79, 80, 81, 82, 83, 84, 85, 97, 98, 99, 100, 101, 102, 103, 104] (by decide +kernel) (by decide +kernel)
set_option maxRecDepth 20000 in
theorem gX1_init_X1_clear : GoodIn wsX1_init (wsV RX1 50 RX1 yX1_clear wsX1_clear) := goodIn_app (goodIn_of _ (by decide +kernel)) ggX1_init_X1_clear
theorem dX1_init_0 : decode cX1_init 0 = .ok (.aload_n 0, 1) := by decide +kernel
theorem dX1_init_1 : decode cX1_init 1 = .ok (.invokespecial 3, 3) := by decide +kernel
theorem dX1_init_4 : decode cX1_init 4 = .ok (.aload_n 0, 1) := by decide +kernel
theorem dX1_init_5 : decode cX1_init 5 = .ok (.bipush 24, 2) := by decide +kernel
theorem dX1_init_7 : decode cX1_init 7 = .ok (.anewarray 9, 3) := by decide +kernel
theorem dX1_init_10 : decode cX1_init 10 = .ok (.putfield 11, 3) := by decide +kernel
theorem dX1_init_13 : decode cX1_init 13 = .ok (.aload_n 0, 1) := by decide +kernel
theorem dX1_init_14 : decode cX1_init 14 = .ok (.new 9, 3) := by decide +kernel
theorem dX1_init_17 : decode cX1_init 17 = .ok (.dup, 1) := by decide +kernel
theorem dX1_init_18 : decode cX1_init 18 = .ok (.iconst (-1), 1) := by decide +kernel
theorem dX1_init_19 : decode cX1_init 19 = .ok (.invokespecial 17, 3) := by decide +kernel
theorem dX1_init_22 : decode cX1_init 22 = .ok (.putfield 20, 3) := by decide +kernel
theorem dX1_init_25 : decode cX1_init 25 = .ok (.aload_n 0, 1) := by decide +kernel
theorem dX1_init_26 : decode cX1_init 26 = .ok (.iconst 5, 1) := by decide +kernel
theorem dX1_init_27 : decode cX1_init 27 = .ok (.anewarray 24, 3) := by decide +kernel
theorem dX1_init_30 : decode cX1_init 30 = .ok (.putfield 26, 3) := by decide +kernel
theorem dX1_init_33 : decode cX1_init 33 = .ok (.aload_n 0, 1) := by decide +kernel
theorem dX1_init_34 : decode cX1_init 34 = .ok (.new 24, 3) := by decide +kernel
theorem dX1_init_37 : decode cX1_init 37 = .ok (.dup, 1) := by decide +kernel
theorem dX1_init_38 : decode cX1_init 38 = .ok (.invokespecial 30, 3) := by decide +kernel
theorem dX1_init_41 : decode cX1_init 41 = .ok (.putfield 31, 3) := by decide +kernel
theorem dX1_init_44 : decode cX1_init 44 = .ok (.aload_n 0, 1) := by decide +kernel
theorem dX1_init_45 : decode cX1_init 45 = .ok (.new 35, 3) := by decide +kernel
theorem dX1_init_48 : decode cX1_init 48 = .ok (.dup, 1) := by decide +kernel
theorem dX1_init_49 : decode cX1_init 49 = .ok (.invokespecial 37, 3) := by decide +kernel
theorem dX1_init_52 : decode cX1_init 52 = .ok (.putfield 38, 3) := by decide +kernel
theorem dX1_init_55 : decode cX1_init 55 = .ok (.aload_n 0, 1) := by decide +kernel
theorem dX1_init_56 : decode cX1_init 56 = .ok (.bipush 6, 2) := by decide +kernel
theorem dX1_init_58 : decode cX1_init 58 = .ok (.newarray .int, 2) := by decide +kernel
theorem dX1_init_60 : decode cX1_init 60 = .ok (.putfield 42, 3) := by decide +kernel
theorem dX1_init_63 : decode cX1_init 63 = .ok (.aload_n 0, 1) := by decide +kernel
theorem dX1_init_64 : decode cX1_init 64 = .ok (.aload_n 1, 1) := by decide +kernel
theorem dX1_init_65 : decode cX1_init 65 = .ok (.putfield 46, 3) := by decide +kernel
theorem dX1_init_68 : decode cX1_init 68 = .ok (.iconst 0, 1) := by decide +kernel
theorem dX1_init_69 : decode cX1_init 69 = .ok (.istore_n 2, 1) := by decide +kernel
theorem dX1_init_70 : decode cX1_init 70 = .ok (.iload_n 2, 1) := by decide +kernel
theorem dX1_init_71 : decode cX1_init 71 = .ok (.bipush 24, 2) := by decide +kernel
theorem dX1_init_73 : decode cX1_init 73 = .ok (.if_icmp .ge 23, 3) := by decide +kernel
theorem dX1_init_76 : decode cX1_init 76 = .ok (.aload_n 0, 1) := by decide +kernel
theorem dX1_init_77 : decode cX1_init 77 = .ok (.getfield 11, 3) := by decide +kernel
theorem dX1_init_80 : decode cX1_init 80 = .ok (.iload_n 2, 1) := by decide +kernel
theorem dX1_init_81 : decode cX1_init 81 = .ok (.new 9, 3) := by decide +kernel
theorem dX1_init_84 : decode cX1_init 84 = .ok (.dup, 1) := by decide +kernel
theorem dX1_init_85 : decode cX1_init 85 = .ok (.iload_n 2, 1) := by decide +kernel
theorem dX1_init_86 : decode cX1_init 86 = .ok (.invokespecial 17, 3) := by decide +kernel
theorem dX1_init_89 : decode cX1_init 89 = .ok (.aastore, 1) := by decide +kernel
theorem dX1_init_90 : decode cX1_init 90 = .ok (.iinc 2 1, 3) := by decide +kernel
theorem dX1_init_93 : decode cX1_init 93 = .ok (.goto (-23), 3) := by decide +kernel
theorem dX1_init_96 : decode cX1_init 96 = .ok (.iconst 0, 1) := by decide +kernel
theorem dX1_init_97 : decode cX1_init 97 = .ok (.istore_n 2, 1) := by decide +kernel
theorem dX1_init_98 : decode cX1_init 98 = .ok (.iload_n 2, 1) := by decide +kernel
theorem dX1_init_99 : decode cX1_init 99 = .ok (.iconst 5, 1) := by decide +kernel
theorem dX1_init_100 : decode cX1_init 100 = .ok (.if_icmp .ge 22, 3) := by decide +kernel
theorem dX1_init_103 : decode cX1_init 103 = .ok (.aload_n 0, 1) := by decide +kernel
theorem dX1_init_104 : decode cX1_init 104 = .ok (.getfield 26, 3) := by decide +kernel
theorem dX1_init_107 : decode cX1_init 107 = .ok (.iload_n 2, 1) := by decide +kernel
theorem dX1_init_108 : decode cX1_init 108 = .ok (.new 24, 3) := by decide +kernel
theorem dX1_init_111 : decode cX1_init 111 = .ok (.dup, 1) := by decide +kernel
theorem dX1_init_112 : decode cX1_init 112 = .ok (.invokespecial 30, 3) := by decide +kernel
theorem dX1_init_115 : decode cX1_init 115 = .ok (.aastore, 1) := by decide +kernel
theorem dX1_init_116 : decode cX1_init 116 = .ok (.iinc 2 1, 3) := by decide +kernel
theorem dX1_init_119 : decode cX1_init 119 = .ok (.goto (-21), 3) := by decide +kernel
theorem dX1_init_122 : decode cX1_init 122 = .ok (.aload_n 0, 1) := by decide +kernel
theorem dX1_init_123 : decode cX1_init 123 = .ok (.invokevirtual 50, 3) := by decide +kernel
theorem dX1_init_126 : decode cX1_init 126 = .ok (.return_, 1) := by decide +kernel
set_option maxRecDepth 20000 in
theorem ggX1_clear_X1_changeWorkerCount : GoodIn wsX1_clear wsX1_changeWorkerCount := goodIn_r _ [13, 2, 14, 15, 16, 12, 17, 18, 19, 20, 21, 22, 23, 24, 25, 26, 27, 28, 29, 30, 31, 32, 33, 34, 35, 36, 37, 38, 39, 40, 43, 44, 45, 46, 47, 48, 49, 50, 51, 52, 53, 54, 55, 56, 57, 58, 59, 60, 61, 62] (by decide +kernel) (by decide +kernel)
set_option maxRecDepth 20000 in
theorem gX1_clear_X1_changeWorkerCount : GoodIn wsX1_clear (wsV RX1 60 RX1 yX1_changeWorkerCount wsX1_changeWorkerCount) := goodIn_app (goodIn_of _ (by decide +kernel)) ggX1_clear_X1_changeWorkerCount
set_option maxRecDepth 20000 in
theorem ggX1_clear_X2_clear : GoodIn wsX1_clear wsX2_clear := goodIn_r _ [35, 36, 61, 62] (by decide +kernel) (by decide +kernel)
set_option maxRecDepth 20000 in
theorem gX1_clear_X2_clear : GoodIn wsX1_clear (wsV RX1 63 RX2 yX2_clear wsX2_clear) := goodIn_app (goodIn_of _ (by decide +kernel)) ggX1_clear_X2_clear
set_option maxRecDepth 20000 in
theorem ggX1_clear_J7_fill_53178 : GoodIn wsX1_clear wsJ7_fill_53178 := goodIn_r _ [40] (by decide +kernel) (by decide +kernel)
set_option maxRecDepth 20000 in
theorem gX1_clear_J7_fill_53178 : GoodIn wsX1_clear (va_wsS RX1 65 yJ7_fill_53178 wsJ7_fill_53178) := goodIn_app (goodIn_of _ (by decide +kernel)) ggX1_clear_J7_fill_53178
theorem dX1_clear_0 : decode cX1_clear 0 = .ok (.aload_n 0, 1) := by decide +kernel
theorem dX1_clear_1 : decode cX1_clear 1 = .ok (.iconst 0, 1) := by decide +kernel
theorem dX1_clear_2 : decode cX1_clear 2 = .ok (.putfield 53, 3) := by decide +kernel
theorem dX1_clear_5 : decode cX1_clear 5 = .ok (.aload_n 0, 1) := by decide +kernel
theorem dX1_clear_6 : decode cX1_clear 6 = .ok (.iconst 0, 1) := by decide +kernel
theorem dX1_clear_7 : decode cX1_clear 7 = .ok (.putfield 57, 3) := by decide +kernel
theorem dX1_clear_10 : decode cX1_clear 10 = .ok (.aload_n 0, 1) := by decide +kernel
theorem dX1_clear_11 : decode cX1_clear 11 = .ok (.iconst 1, 1) := by decide +kernel
theorem dX1_clear_12 : decode cX1_clear 12 = .ok (.invokevirtual 60, 3) := by decide +kernel
theorem dX1_clear_15 : decode cX1_clear 15 = .ok (.aload_n 0, 1) := by decide +kernel
theorem dX1_clear_16 : decode cX1_clear 16 = .ok (.getfield 38, 3) := by decide +kernel
theorem dX1_clear_19 : decode cX1_clear 19 = .ok (.invokevirtual 63, 3) := by decide +kernel
theorem dX1_clear_22 : decode cX1_clear 22 = .ok (.aload_n 0, 1) := by decide +kernel
theorem dX1_clear_23 : decode cX1_clear 23 = .ok (.getfield 42, 3) := by decide +kernel
theorem dX1_clear_26 : decode cX1_clear 26 = .ok (.ldc 64, 2) := by decide +kernel
theorem dX1_clear_28 : decode cX1_clear 28 = .ok (.invokestatic 65, 3) := by decide +kernel
theorem dX1_clear_31 : decode cX1_clear 31 = .ok (.aload_n 0, 1) := by decide +kernel
theorem dX1_clear_32 : decode cX1_clear 32 = .ok (.iconst 0, 1) := by decide +kernel
theorem dX1_clear_33 : decode cX1_clear 33 = .ok (.putfield 71, 3) := by decide +kernel
theorem dX1_clear_36 : decode cX1_clear 36 = .ok (.aload_n 0, 1) := by decide +kernel
theorem dX1_clear_37 : decode cX1_clear 37 = .ok (.iconst 0, 1) := by decide +kernel
theorem dX1_clear_38 : decode cX1_clear 38 = .ok (.putfield 74, 3) := by decide +kernel
theorem dX1_clear_41 : decode cX1_clear 41 = .ok (.aload_n 0, 1) := by decide +kernel
theorem dX1_clear_42 : decode cX1_clear 42 = .ok (.iconst 0, 1) := by decide +kernel
theorem dX1_clear_43 : decode cX1_clear 43 = .ok (.putfield 77, 3) := by decide +kernel
theorem dX1_clear_46 : decode cX1_clear 46 = .ok (.return_, 1) := by decide +kernel
set_option maxRecDepth 20000 in
theorem ggX1_copyFrom_X4_copyFrom : GoodIn wsX1_copyFrom wsX4_copyFrom := goodIn_r _ [14, 15, 16, 17, 18, 19, 20, 21, 22, 23, 24, 56, 57, 58, 59, 60, 61, 62, 63, 64, 65, 66] (by decide +kernel) (by decide +kernel)
set_option maxRecDepth 20000 in
theorem gX1_copyFrom_X4_copyFrom : GoodIn wsX1_copyFrom (wsV RX1 80 RX4 yX4_copyFrom wsX4_copyFrom) := goodIn_app (goodIn_of _ (by decide +kernel)) ggX1_copyFrom_X4_copyFrom
set_option maxRecDepth 20000 in
theorem ggX1_copyFrom_X5_copyFrom : GoodIn wsX1_copyFrom wsX5_copyFrom := goodIn_r _ [29, 30, 31, 32, 33, 34, 35, 36, 37, 38, 39, 40, 41, 42, 67, 68, 69, 70, 71, 72, 73, 74] (by decide +kernel) (by decide +kernel)
set_option maxRecDepth 20000 in
theorem gX1_copyFrom_X5_copyFrom : GoodIn wsX1_copyFrom (wsV RX1 84 RX5 yX5_copyFrom wsX5_copyFrom) := goodIn_app (goodIn_of _ (by decide +kernel)) ggX1_copyFrom_X5_copyFrom
set_option maxRecDepth 20000 in
theorem ggX1_copyFrom_X2_copyFrom : GoodIn wsX1_copyFrom wsX2_copyFrom := goodIn_r _ [40, 41, 42, 73, 74] (by decide +kernel) (by decide +kernel)
set_option maxRecDepth 20000 in
theorem gX1_copyFrom_X2_copyFrom : GoodIn wsX1_copyFrom (wsV RX1 87 RX2 yX2_copyFrom wsX2_copyFrom) := goodIn_app (goodIn_of _ (by decide +kernel)) ggX1_copyFrom_X2_copyFrom
theorem dX1_copyFrom_0 : decode cX1_copyFrom 0 = .ok (.aload_n 0, 1) := by decide +kernel
theorem dX1_copyFrom_1 : decode cX1_copyFrom 1 = .ok (.aload_n 1, 1) := by decide +kernel
theorem dX1_copyFrom_2 : decode cX1_copyFrom 2 = .ok (.getfield 53, 3) := by decide +kernel
theorem dX1_copyFrom_5 : decode cX1_copyFrom 5 = .ok (.putfield 53, 3) := by decide +kernel
theorem dX1_copyFrom_8 : decode cX1_copyFrom 8 = .ok (.iconst 0, 1) := by decide +kernel
theorem dX1_copyFrom_9 : decode cX1_copyFrom 9 = .ok (.istore_n 2, 1) := by decide +kernel
theorem dX1_copyFrom_10 : decode cX1_copyFrom 10 = .ok (.iload_n 2, 1) := by decide +kernel
theorem dX1_copyFrom_11 : decode cX1_copyFrom 11 = .ok (.bipush 24, 2) := by decide +kernel
theorem dX1_copyFrom_13 : decode cX1_copyFrom 13 = .ok (.if_icmp .ge 24, 3) := by decide +kernel
theorem dX1_copyFrom_16 : decode cX1_copyFrom 16 = .ok (.aload_n 0, 1) := by decide +kernel
theorem dX1_copyFrom_17 : decode cX1_copyFrom 17 = .ok (.getfield 11, 3) := by decide +kernel
theorem dX1_copyFrom_20 : decode cX1_copyFrom 20 = .ok (.iload_n 2, 1) := by decide +kernel
theorem dX1_copyFrom_21 : decode cX1_copyFrom 21 = .ok (.aaload, 1) := by decide +kernel
theorem dX1_copyFrom_22 : decode cX1_copyFrom 22 = .ok (.aload_n 1, 1) := by decide +kernel
theorem dX1_copyFrom_23 : decode cX1_copyFrom 23 = .ok (.getfield 11, 3) := by decide +kernel
theorem dX1_copyFrom_26 : decode cX1_copyFrom 26 = .ok (.iload_n 2, 1) := by decide +kernel
theorem dX1_copyFrom_27 : decode cX1_copyFrom 27 = .ok (.aaload, 1) := by decide +kernel
theorem dX1_copyFrom_28 : decode cX1_copyFrom 28 = .ok (.invokevirtual 80, 3) := by decide +kernel
theorem dX1_copyFrom_31 : decode cX1_copyFrom 31 = .ok (.iinc 2 1, 3) := by decide +kernel
theorem dX1_copyFrom_34 : decode cX1_copyFrom 34 = .ok (.goto (-24), 3) := by decide +kernel
theorem dX1_copyFrom_37 : decode cX1_copyFrom 37 = .ok (.aload_n 0, 1) := by decide +kernel
theorem dX1_copyFrom_38 : decode cX1_copyFrom 38 = .ok (.aload_n 1, 1) := by decide +kernel
theorem dX1_copyFrom_39 : decode cX1_copyFrom 39 = .ok (.getfield 57, 3) := by decide +kernel
theorem dX1_copyFrom_42 : decode cX1_copyFrom 42 = .ok (.putfield 57, 3) := by decide +kernel
theorem dX1_copyFrom_45 : decode cX1_copyFrom 45 = .ok (.iconst 0, 1) := by decide +kernel
theorem dX1_copyFrom_46 : decode cX1_copyFrom 46 = .ok (.istore_n 2, 1) := by decide +kernel
theorem dX1_copyFrom_47 : decode cX1_copyFrom 47 = .ok (.iload_n 2, 1) := by decide +kernel
theorem dX1_copyFrom_48 : decode cX1_copyFrom 48 = .ok (.iconst 5, 1) := by decide +kernel
theorem dX1_copyFrom_49 : decode cX1_copyFrom 49 = .ok (.if_icmp .ge 24, 3) := by decide +kernel
theorem dX1_copyFrom_52 : decode cX1_copyFrom 52 = .ok (.aload_n 0, 1) := by decide +kernel
theorem dX1_copyFrom_53 : decode cX1_copyFrom 53 = .ok (.getfield 26, 3) := by decide +kernel
theorem dX1_copyFrom_56 : decode cX1_copyFrom 56 = .ok (.iload_n 2, 1) := by decide +kernel
theorem dX1_copyFrom_57 : decode cX1_copyFrom 57 = .ok (.aaload, 1) := by decide +kernel
theorem dX1_copyFrom_58 : decode cX1_copyFrom 58 = .ok (.aload_n 1, 1) := by decide +kernel
theorem dX1_copyFrom_59 : decode cX1_copyFrom 59 = .ok (.getfield 26, 3) := by decide +kernel
theorem dX1_copyFrom_62 : decode cX1_copyFrom 62 = .ok (.iload_n 2, 1) := by decide +kernel
theorem dX1_copyFrom_63 : decode cX1_copyFrom 63 = .ok (.aaload, 1) := by decide +kernel
theorem dX1_copyFrom_64 : decode cX1_copyFrom 64 = .ok (.invokevirtual 84, 3) := by decide +kernel
theorem dX1_copyFrom_67 : decode cX1_copyFrom 67 = .ok (.iinc 2 1, 3) := by decide +kernel
theorem dX1_copyFrom_70 : decode cX1_copyFrom 70 = .ok (.goto (-23), 3) := by decide +kernel
theorem dX1_copyFrom_73 : decode cX1_copyFrom 73 = .ok (.aload_n 0, 1) := by decide +kernel
theorem dX1_copyFrom_74 : decode cX1_copyFrom 74 = .ok (.getfield 38, 3) := by decide +kernel
theorem dX1_copyFrom_77 : decode cX1_copyFrom 77 = .ok (.aload_n 1, 1) := by decide +kernel
theorem dX1_copyFrom_78 : decode cX1_copyFrom 78 = .ok (.getfield 38, 3) := by decide +kernel
theorem dX1_copyFrom_81 : decode cX1_copyFrom 81 = .ok (.invokevirtual 87, 3) := by decide +kernel
theorem dX1_copyFrom_84 : decode cX1_copyFrom 84 = .ok (.iconst 0, 1) := by decide +kernel
theorem dX1_copyFrom_85 : decode cX1_copyFrom 85 = .ok (.istore_n 2, 1) := by decide +kernel
theorem dX1_copyFrom_86 : decode cX1_copyFrom 86 = .ok (.iload_n 2, 1) := by decide +kernel
theorem dX1_copyFrom_87 : decode cX1_copyFrom 87 = .ok (.bipush 6, 2) := by decide +kernel
theorem dX1_copyFrom_89 : decode cX1_copyFrom 89 = .ok (.if_icmp .ge 21, 3) := by decide +kernel
theorem dX1_copyFrom_92 : decode cX1_copyFrom 92 = .ok (.aload_n 0, 1) := by decide +kernel
theorem dX1_copyFrom_93 : decode cX1_copyFrom 93 = .ok (.getfield 42, 3) := by decide +kernel
theorem dX1_copyFrom_96 : decode cX1_copyFrom 96 = .ok (.iload_n 2, 1) := by decide +kernel
theorem dX1_copyFrom_97 : decode cX1_copyFrom 97 = .ok (.aload_n 1, 1) := by decide +kernel
theorem dX1_copyFrom_98 : decode cX1_copyFrom 98 = .ok (.getfield 42, 3) := by decide +kernel
theorem dX1_copyFrom_101 : decode cX1_copyFrom 101 = .ok (.iload_n 2, 1) := by decide +kernel
theorem dX1_copyFrom_102 : decode cX1_copyFrom 102 = .ok (.iaload, 1) := by decide +kernel
theorem dX1_copyFrom_103 : decode cX1_copyFrom 103 = .ok (.iastore, 1) := by decide +kernel
theorem dX1_copyFrom_104 : decode cX1_copyFrom 104 = .ok (.iinc 2 1, 3) := by decide +kernel
theorem dX1_copyFrom_107 : decode cX1_copyFrom 107 = .ok (.goto (-21), 3) := by decide +kernel
theorem dX1_copyFrom_110 : decode cX1_copyFrom 110 = .ok (.aload_n 0, 1) := by decide +kernel
theorem dX1_copyFrom_111 : decode cX1_copyFrom 111 = .ok (.aload_n 1, 1) := by decide +kernel
theorem dX1_copyFrom_112 : decode cX1_copyFrom 112 = .ok (.getfield 71, 3) := by decide +kernel
theorem dX1_copyFrom_115 : decode cX1_copyFrom 115 = .ok (.putfield 71, 3) := by decide +kernel
theorem dX1_copyFrom_118 : decode cX1_copyFrom 118 = .ok (.aload_n 0, 1) := by decide +kernel
theorem dX1_copyFrom_119 : decode cX1_copyFrom 119 = .ok (.aload_n 1, 1) := by decide +kernel
theorem dX1_copyFrom_120 : decode cX1_copyFrom 120 = .ok (.getfield 74, 3) := by decide +kernel
theorem dX1_copyFrom_123 : decode cX1_copyFrom 123 = .ok (.putfield 74, 3) := by decide +kernel
theorem dX1_copyFrom_126 : decode cX1_copyFrom 126 = .ok (.aload_n 0, 1) := by decide +kernel
theorem dX1_copyFrom_127 : decode cX1_copyFrom 127 = .ok (.aload_n 1, 1) := by decide +kernel
theorem dX1_copyFrom_128 : decode cX1_copyFrom 128 = .ok (.getfield 77, 3) := by decide +kernel
theorem dX1_copyFrom_131 : decode cX1_copyFrom 131 = .ok (.putfield 77, 3) := by decide +kernel
theorem dX1_copyFrom_134 : decode cX1_copyFrom 134 = .ok (.return_, 1) := by decide +kernel
theorem dX1_taskAt_0 : decode cX1_taskAt 0 = .ok (.iload_n 1, 1) := by decide +kernel
theorem dX1_taskAt_1 : decode cX1_taskAt 1 = .ok (.ifCond .lt 18, 3) := by decide +kernel
theorem dX1_taskAt_4 : decode cX1_taskAt 4 = .ok (.iload_n 1, 1) := by decide +kernel
theorem dX1_taskAt_5 : decode cX1_taskAt 5 = .ok (.bipush 24, 2) := by decide +kernel
theorem dX1_taskAt_7 : decode cX1_taskAt 7 = .ok (.if_icmp .ge 12, 3) := by decide +kernel
theorem dX1_taskAt_10 : decode cX1_taskAt 10 = .ok (.aload_n 0, 1) := by decide +kernel
theorem dX1_taskAt_11 : decode cX1_taskAt 11 = .ok (.getfield 11, 3) := by decide +kernel
theorem dX1_taskAt_14 : decode cX1_taskAt 14 = .ok (.iload_n 1, 1) := by decide +kernel
theorem dX1_taskAt_15 : decode cX1_taskAt 15 = .ok (.aaload, 1) := by decide +kernel
theorem dX1_taskAt_16 : decode cX1_taskAt 16 = .ok (.goto 7, 3) := by decide +kernel
theorem dX1_taskAt_19 : decode cX1_taskAt 19 = .ok (.aload_n 0, 1) := by decide +kernel
theorem dX1_taskAt_20 : decode cX1_taskAt 20 = .ok (.getfield 20, 3) := by decide +kernel
theorem dX1_taskAt_23 : decode cX1_taskAt 23 = .ok (.areturn, 1) := by decide +kernel
theorem dX1_workerAt_0 : decode cX1_workerAt 0 = .ok (.iload_n 1, 1) := by decide +kernel
theorem dX1_workerAt_1 : decode cX1_workerAt 1 = .ok (.ifCond .lt 17, 3) := by decide +kernel
theorem dX1_workerAt_4 : decode cX1_workerAt 4 = .ok (.iload_n 1, 1) := by decide +kernel
theorem dX1_workerAt_5 : decode cX1_workerAt 5 = .ok (.iconst 5, 1) := by decide +kernel
theorem dX1_workerAt_6 : decode cX1_workerAt 6 = .ok (.if_icmp .ge 12, 3) := by decide +kernel
theorem dX1_workerAt_9 : decode cX1_workerAt 9 = .ok (.aload_n 0, 1) := by decide +kernel
theorem dX1_workerAt_10 : decode cX1_workerAt 10 = .ok (.getfield 26, 3) := by decide +kernel
theorem dX1_workerAt_13 : decode cX1_workerAt 13 = .ok (.iload_n 1, 1) := by decide +kernel
theorem dX1_workerAt_14 : decode cX1_workerAt 14 = .ok (.aaload, 1) := by decide +kernel
theorem dX1_workerAt_15 : decode cX1_workerAt 15 = .ok (.goto 7, 3) := by decide +kernel
theorem dX1_workerAt_18 : decode cX1_workerAt 18 = .ok (.aload_n 0, 1) := by decide +kernel
theorem dX1_workerAt_19 : decode cX1_workerAt 19 = .ok (.getfield 31, 3) := by decide +kernel
theorem dX1_workerAt_22 : decode cX1_workerAt 22 = .ok (.areturn, 1) := by decide +kernel
set_option maxRecDepth 20000 in
theorem ggX1_rowOf_X1_workerAt : GoodIn wsX1_rowOf wsX1_workerAt := goodIn_r _ [6, 7, 8, 9, 10, 11, 12, 13, 14, 15, 16, 17, 18, 19, 20] (by decide +kernel) (by decide +kernel)
set_option maxRecDepth 20000 in
theorem gX1_rowOf_X1_workerAt : GoodIn wsX1_rowOf (wsV RX1 90 RX1 yX1_workerAt wsX1_workerAt) := goodIn_app (goodIn_of _ (by decide +kernel)) ggX1_rowOf_X1_workerAt
theorem dX1_rowOf_0 : decode cX1_rowOf 0 = .ok (.iload_n 1, 1) := by decide +kernel
theorem dX1_rowOf_1 : decode cX1_rowOf 1 = .ok (.iconst (-1), 1) := by decide +kernel
theorem dX1_rowOf_2 : decode cX1_rowOf 2 = .ok (.if_icmp .ne 10, 3) := by decide +kernel
theorem dX1_rowOf_5 : decode cX1_rowOf 5 = .ok (.aload_n 0, 1) := by decide +kernel
theorem dX1_rowOf_6 : decode cX1_rowOf 6 = .ok (.getfield 38, 3) := by decide +kernel
theorem dX1_rowOf_9 : decode cX1_rowOf 9 = .ok (.goto 11, 3) := by decide +kernel
theorem dX1_rowOf_12 : decode cX1_rowOf 12 = .ok (.aload_n 0, 1) := by decide +kernel
theorem dX1_rowOf_13 : decode cX1_rowOf 13 = .ok (.iload_n 1, 1) := by decide +kernel
theorem dX1_rowOf_14 : decode cX1_rowOf 14 = .ok (.invokevirtual 90, 3) := by decide +kernel
theorem dX1_rowOf_17 : decode cX1_rowOf 17 = .ok (.getfield 94, 3) := by decide +kernel
theorem dX1_rowOf_20 : decode cX1_rowOf 20 = .ok (.areturn, 1) := by decide +kernel
theorem dX1_promiseAt_0 : decode cX1_promiseAt 0 = .ok (.iload_n 1, 1) := by decide +kernel
theorem dX1_promiseAt_1 : decode cX1_promiseAt 1 = .ok (.ifCond .lt 18, 3) := by decide +kernel
theorem dX1_promiseAt_4 : decode cX1_promiseAt 4 = .ok (.iload_n 1, 1) := by decide +kernel
theorem dX1_promiseAt_5 : decode cX1_promiseAt 5 = .ok (.bipush 6, 2) := by decide +kernel
theorem dX1_promiseAt_7 : decode cX1_promiseAt 7 = .ok (.if_icmp .ge 12, 3) := by decide +kernel
theorem dX1_promiseAt_10 : decode cX1_promiseAt 10 = .ok (.aload_n 0, 1) := by decide +kernel
theorem dX1_promiseAt_11 : decode cX1_promiseAt 11 = .ok (.getfield 42, 3) := by decide +kernel
theorem dX1_promiseAt_14 : decode cX1_promiseAt 14 = .ok (.iload_n 1, 1) := by decide +kernel
theorem dX1_promiseAt_15 : decode cX1_promiseAt 15 = .ok (.iaload, 1) := by decide +kernel
theorem dX1_promiseAt_16 : decode cX1_promiseAt 16 = .ok (.goto 5, 3) := by decide +kernel
theorem dX1_promiseAt_19 : decode cX1_promiseAt 19 = .ok (.ldc 64, 2) := by decide +kernel
theorem dX1_promiseAt_21 : decode cX1_promiseAt 21 = .ok (.ireturn, 1) := by decide +kernel
set_option maxRecDepth 20000 in
theorem ggX1_hasTaskOf_X1_taskAt : GoodIn wsX1_hasTaskOf wsX1_taskAt := goodIn_r _ [6, 7, 8, 9, 10, 11, 12, 13, 14, 15, 16, 17, 18, 19, 20] (by decide +kernel) (by decide +kernel)
set_option maxRecDepth 20000 in
theorem gX1_hasTaskOf_X1_taskAt : GoodIn wsX1_hasTaskOf (wsV RX1 97 RX1 yX1_taskAt wsX1_taskAt) := goodIn_app (goodIn_of _ (by decide +kernel)) ggX1_hasTaskOf_X1_taskAt
theorem dX1_hasTaskOf_0 : decode cX1_hasTaskOf 0 = .ok (.iconst 0, 1) := by decide +kernel
theorem dX1_hasTaskOf_1 : decode cX1_hasTaskOf 1 = .ok (.istore_n 2, 1) := by decide +kernel
theorem dX1_hasTaskOf_2 : decode cX1_hasTaskOf 2 = .ok (.iload_n 2, 1) := by decide +kernel
theorem dX1_hasTaskOf_3 : decode cX1_hasTaskOf 3 = .ok (.aload_n 0, 1) := by decide +kernel
theorem dX1_hasTaskOf_4 : decode cX1_hasTaskOf 4 = .ok (.getfield 53, 3) := by decide +kernel
theorem dX1_hasTaskOf_7 : decode cX1_hasTaskOf 7 = .ok (.if_icmp .ge 23, 3) := by decide +kernel
theorem dX1_hasTaskOf_10 : decode cX1_hasTaskOf 10 = .ok (.aload_n 0, 1) := by decide +kernel
theorem dX1_hasTaskOf_11 : decode cX1_hasTaskOf 11 = .ok (.iload_n 2, 1) := by decide +kernel
theorem dX1_hasTaskOf_12 : decode cX1_hasTaskOf 12 = .ok (.invokevirtual 97, 3) := by decide +kernel
theorem dX1_hasTaskOf_15 : decode cX1_hasTaskOf 15 = .ok (.getfield 101, 3) := by decide +kernel
theorem dX1_hasTaskOf_18 : decode cX1_hasTaskOf 18 = .ok (.iload_n 1, 1) := by decide +kernel
theorem dX1_hasTaskOf_19 : decode cX1_hasTaskOf 19 = .ok (.if_icmp .ne 5, 3) := by decide +kernel
theorem dX1_hasTaskOf_22 : decode cX1_hasTaskOf 22 = .ok (.iconst 1, 1) := by decide +kernel
theorem dX1_hasTaskOf_23 : decode cX1_hasTaskOf 23 = .ok (.ireturn, 1) := by decide +kernel
theorem dX1_hasTaskOf_24 : decode cX1_hasTaskOf 24 = .ok (.iinc 2 1, 3) := by decide +kernel
theorem dX1_hasTaskOf_27 : decode cX1_hasTaskOf 27 = .ok (.goto (-25), 3) := by decide +kernel
theorem dX1_hasTaskOf_30 : decode cX1_hasTaskOf 30 = .ok (.iconst 0, 1) := by decide +kernel
theorem dX1_hasTaskOf_31 : decode cX1_hasTaskOf 31 = .ok (.ireturn, 1) := by decide +kernel
set_option maxRecDepth 20000 in
theorem ggX1_hasTaskIn_X1_taskAt : GoodIn wsX1_hasTaskIn wsX1_taskAt := goodIn_r _ [6, 7, 8, 9, 10, 11, 12, 13, 14, 15, 16, 17, 18, 19, 20] (by decide +kernel) (by decide +kernel)
set_option maxRecDepth 20000 in
theorem gX1_hasTaskIn_X1_taskAt : GoodIn wsX1_hasTaskIn (wsV RX1 97 RX1 yX1_taskAt wsX1_taskAt) := goodIn_app (goodIn_of _ (by decide +kernel)) ggX1_hasTaskIn_X1_taskAt
theorem dX1_hasTaskIn_0 : decode cX1_hasTaskIn 0 = .ok (.iconst 0, 1) := by decide +kernel
theorem dX1_hasTaskIn_1 : decode cX1_hasTaskIn 1 = .ok (.istore_n 2, 1) := by decide +kernel
theorem dX1_hasTaskIn_2 : decode cX1_hasTaskIn 2 = .ok (.iload_n 2, 1) := by decide +kernel
theorem dX1_hasTaskIn_3 : decode cX1_hasTaskIn 3 = .ok (.aload_n 0, 1) := by decide +kernel
theorem dX1_hasTaskIn_4 : decode cX1_hasTaskIn 4 = .ok (.getfield 53, 3) := by decide +kernel
theorem dX1_hasTaskIn_7 : decode cX1_hasTaskIn 7 = .ok (.if_icmp .ge 23, 3) := by decide +kernel
theorem dX1_hasTaskIn_10 : decode cX1_hasTaskIn 10 = .ok (.aload_n 0, 1) := by decide +kernel
theorem dX1_hasTaskIn_11 : decode cX1_hasTaskIn 11 = .ok (.iload_n 2, 1) := by decide +kernel
theorem dX1_hasTaskIn_12 : decode cX1_hasTaskIn 12 = .ok (.invokevirtual 97, 3) := by decide +kernel
theorem dX1_hasTaskIn_15 : decode cX1_hasTaskIn 15 = .ok (.getfield 104, 3) := by decide +kernel
theorem dX1_hasTaskIn_18 : decode cX1_hasTaskIn 18 = .ok (.iload_n 1, 1) := by decide +kernel
theorem dX1_hasTaskIn_19 : decode cX1_hasTaskIn 19 = .ok (.if_icmp .ne 5, 3) := by decide +kernel
theorem dX1_hasTaskIn_22 : decode cX1_hasTaskIn 22 = .ok (.iconst 1, 1) := by decide +kernel
theorem dX1_hasTaskIn_23 : decode cX1_hasTaskIn 23 = .ok (.ireturn, 1) := by decide +kernel
theorem dX1_hasTaskIn_24 : decode cX1_hasTaskIn 24 = .ok (.iinc 2 1, 3) := by decide +kernel
theorem dX1_hasTaskIn_27 : decode cX1_hasTaskIn 27 = .ok (.goto (-25), 3) := by decide +kernel
theorem dX1_hasTaskIn_30 : decode cX1_hasTaskIn 30 = .ok (.iconst 0, 1) := by decide +kernel
theorem dX1_hasTaskIn_31 : decode cX1_hasTaskIn 31 = .ok (.ireturn, 1) := by decide +kernel
set_option maxRecDepth 20000 in
theorem ggX1_hasStackedTask_X1_workerAt : GoodIn wsX1_hasStackedTask wsX1_workerAt := goodIn_r _ [6, 7, 8, 9, 10, 11, 12, 13, 14, 15, 16, 17, 18, 19, 20] (by decide +kernel) (by decide +kernel)
set_option maxRecDepth 20000 in
theorem gX1_hasStackedTask_X1_workerAt : GoodIn wsX1_hasStackedTask (wsV RX1 90 RX1 yX1_workerAt wsX1_workerAt) := goodIn_app (goodIn_of _ (by decide +kernel)) ggX1_hasStackedTask_X1_workerAt
theorem dX1_hasStackedTask_0 : decode cX1_hasStackedTask 0 = .ok (.iconst 0, 1) := by decide +kernel
theorem dX1_hasStackedTask_1 : decode cX1_hasStackedTask 1 = .ok (.istore_n 1, 1) := by decide +kernel
theorem dX1_hasStackedTask_2 : decode cX1_hasStackedTask 2 = .ok (.iload_n 1, 1) := by decide +kernel
theorem dX1_hasStackedTask_3 : decode cX1_hasStackedTask 3 = .ok (.aload_n 0, 1) := by decide +kernel
theorem dX1_hasStackedTask_4 : decode cX1_hasStackedTask 4 = .ok (.getfield 57, 3) := by decide +kernel
theorem dX1_hasStackedTask_7 : decode cX1_hasStackedTask 7 = .ok (.if_icmp .ge 25, 3) := by decide +kernel
theorem dX1_hasStackedTask_10 : decode cX1_hasStackedTask 10 = .ok (.aload_n 0, 1) := by decide +kernel
theorem dX1_hasStackedTask_11 : decode cX1_hasStackedTask 11 = .ok (.iload_n 1, 1) := by decide +kernel
theorem dX1_hasStackedTask_12 : decode cX1_hasStackedTask 12 = .ok (.invokevirtual 90, 3) := by decide +kernel
theorem dX1_hasStackedTask_15 : decode cX1_hasStackedTask 15 = .ok (.getfield 107, 3) := by decide +kernel
theorem dX1_hasStackedTask_18 : decode cX1_hasStackedTask 18 = .ok (.getfield 110, 3) := by decide +kernel
theorem dX1_hasStackedTask_21 : decode cX1_hasStackedTask 21 = .ok (.ifCond .le 5, 3) := by decide +kernel
theorem dX1_hasStackedTask_24 : decode cX1_hasStackedTask 24 = .ok (.iconst 1, 1) := by decide +kernel
theorem dX1_hasStackedTask_25 : decode cX1_hasStackedTask 25 = .ok (.ireturn, 1) := by decide +kernel
theorem dX1_hasStackedTask_26 : decode cX1_hasStackedTask 26 = .ok (.iinc 1 1, 3) := by decide +kernel
theorem dX1_hasStackedTask_29 : decode cX1_hasStackedTask 29 = .ok (.goto (-27), 3) := by decide +kernel
theorem dX1_hasStackedTask_32 : decode cX1_hasStackedTask 32 = .ok (.iconst 0, 1) := by decide +kernel
theorem dX1_hasStackedTask_33 : decode cX1_hasStackedTask 33 = .ok (.ireturn, 1) := by decide +kernel
set_option maxRecDepth 20000 in
theorem ggX1_needsWorkerFrom_X1_workerAt : GoodIn wsX1_needsWorkerFrom wsX1_workerAt := goodIn_r _ [7, 8, 9, 22, 23, 24, 25, 26, 27, 28, 29, 30, 31, 32, 33] (by decide +kernel) (by decide +kernel)
set_option maxRecDepth 20000 in
theorem gX1_needsWorkerFrom_X1_workerAt : GoodIn wsX1_needsWorkerFrom (wsV RX1 90 RX1 yX1_workerAt wsX1_workerAt) := goodIn_app (goodIn_of _ (by decide +kernel)) ggX1_needsWorkerFrom_X1_workerAt
set_option maxRecDepth 20000 in
theorem ggX1_needsWorkerFrom_X1_taskAt : GoodIn wsX1_needsWorkerFrom wsX1_taskAt := goodIn_r _ [13, 14, 15, 22, 23, 24, 25, 26, 27, 28, 29, 30, 31, 32, 33] (by decide +kernel) (by decide +kernel)
set_option maxRecDepth 20000 in
theorem gX1_needsWorkerFrom_X1_taskAt : GoodIn wsX1_needsWorkerFrom (wsV RX1 97 RX1 yX1_taskAt wsX1_taskAt) := goodIn_app (goodIn_of _ (by decide +kernel)) ggX1_needsWorkerFrom_X1_taskAt
set_option maxRecDepth 20000 in
theorem ggX1_needsWorkerFrom_X4_isBlocked : GoodIn wsX1_needsWorkerFrom wsX4_isBlocked := goodIn_r _ [20, 21, 42, 43, 44, 45, 46, 47, 48, 49, 50, 51, 52] (by decide +kernel) (by decide +kernel)
set_option maxRecDepth 20000 in
theorem gX1_needsWorkerFrom_X4_isBlocked : GoodIn wsX1_needsWorkerFrom (wsV RX1 113 RX4 yX4_isBlocked wsX4_isBlocked) := goodIn_app (goodIn_of _ (by decide +kernel)) ggX1_needsWorkerFrom_X4_isBlocked
theorem dX1_needsWorkerFrom_0 : decode cX1_needsWorkerFrom 0 = .ok (.iload_n 1, 1) := by decide +kernel
theorem dX1_needsWorkerFrom_1 : decode cX1_needsWorkerFrom 1 = .ok (.istore_n 2, 1) := by decide +kernel
theorem dX1_needsWorkerFrom_2 : decode cX1_needsWorkerFrom 2 = .ok (.iload_n 2, 1) := by decide +kernel
theorem dX1_needsWorkerFrom_3 : decode cX1_needsWorkerFrom 3 = .ok (.aload_n 0, 1) := by decide +kernel
theorem dX1_needsWorkerFrom_4 : decode cX1_needsWorkerFrom 4 = .ok (.getfield 57, 3) := by decide +kernel
theorem dX1_needsWorkerFrom_7 : decode cX1_needsWorkerFrom 7 = .ok (.if_icmp .ge 37, 3) := by decide +kernel
theorem dX1_needsWorkerFrom_10 : decode cX1_needsWorkerFrom 10 = .ok (.aload_n 0, 1) := by decide +kernel
theorem dX1_needsWorkerFrom_11 : decode cX1_needsWorkerFrom 11 = .ok (.iload_n 2, 1) := by decide +kernel
theorem dX1_needsWorkerFrom_12 : decode cX1_needsWorkerFrom 12 = .ok (.invokevirtual 90, 3) := by decide +kernel
theorem dX1_needsWorkerFrom_15 : decode cX1_needsWorkerFrom 15 = .ok (.astore_n 3, 1) := by decide +kernel
theorem dX1_needsWorkerFrom_16 : decode cX1_needsWorkerFrom 16 = .ok (.aload_n 3, 1) := by decide +kernel
theorem dX1_needsWorkerFrom_17 : decode cX1_needsWorkerFrom 17 = .ok (.getfield 94, 3) := by decide +kernel
theorem dX1_needsWorkerFrom_20 : decode cX1_needsWorkerFrom 20 = .ok (.getfield 110, 3) := by decide +kernel
theorem dX1_needsWorkerFrom_23 : decode cX1_needsWorkerFrom 23 = .ok (.ifCond .gt 13, 3) := by decide +kernel
theorem dX1_needsWorkerFrom_26 : decode cX1_needsWorkerFrom 26 = .ok (.aload_n 3, 1) := by decide +kernel
theorem dX1_needsWorkerFrom_27 : decode cX1_needsWorkerFrom 27 = .ok (.getfield 107, 3) := by decide +kernel
theorem dX1_needsWorkerFrom_30 : decode cX1_needsWorkerFrom 30 = .ok (.getfield 110, 3) := by decide +kernel
theorem dX1_needsWorkerFrom_33 : decode cX1_needsWorkerFrom 33 = .ok (.ifCond .le 5, 3) := by decide +kernel
theorem dX1_needsWorkerFrom_36 : decode cX1_needsWorkerFrom 36 = .ok (.iconst 1, 1) := by decide +kernel
theorem dX1_needsWorkerFrom_37 : decode cX1_needsWorkerFrom 37 = .ok (.ireturn, 1) := by decide +kernel
theorem dX1_needsWorkerFrom_38 : decode cX1_needsWorkerFrom 38 = .ok (.iinc 2 1, 3) := by decide +kernel
theorem dX1_needsWorkerFrom_41 : decode cX1_needsWorkerFrom 41 = .ok (.goto (-39), 3) := by decide +kernel
theorem dX1_needsWorkerFrom_44 : decode cX1_needsWorkerFrom 44 = .ok (.iconst 0, 1) := by decide +kernel
theorem dX1_needsWorkerFrom_45 : decode cX1_needsWorkerFrom 45 = .ok (.istore_n 2, 1) := by decide +kernel
theorem dX1_needsWorkerFrom_46 : decode cX1_needsWorkerFrom 46 = .ok (.iload_n 2, 1) := by decide +kernel
theorem dX1_needsWorkerFrom_47 : decode cX1_needsWorkerFrom 47 = .ok (.aload_n 0, 1) := by decide +kernel
theorem dX1_needsWorkerFrom_48 : decode cX1_needsWorkerFrom 48 = .ok (.getfield 53, 3) := by decide +kernel
theorem dX1_needsWorkerFrom_51 : decode cX1_needsWorkerFrom 51 = .ok (.if_icmp .ge 32, 3) := by decide +kernel
theorem dX1_needsWorkerFrom_54 : decode cX1_needsWorkerFrom 54 = .ok (.aload_n 0, 1) := by decide +kernel
theorem dX1_needsWorkerFrom_55 : decode cX1_needsWorkerFrom 55 = .ok (.iload_n 2, 1) := by decide +kernel
theorem dX1_needsWorkerFrom_56 : decode cX1_needsWorkerFrom 56 = .ok (.invokevirtual 97, 3) := by decide +kernel
theorem dX1_needsWorkerFrom_59 : decode cX1_needsWorkerFrom 59 = .ok (.astore_n 3, 1) := by decide +kernel
theorem dX1_needsWorkerFrom_60 : decode cX1_needsWorkerFrom 60 = .ok (.aload_n 3, 1) := by decide +kernel
theorem dX1_needsWorkerFrom_61 : decode cX1_needsWorkerFrom 61 = .ok (.invokevirtual 113, 3) := by decide +kernel
theorem dX1_needsWorkerFrom_64 : decode cX1_needsWorkerFrom 64 = .ok (.ifCond .eq 13, 3) := by decide +kernel
theorem dX1_needsWorkerFrom_67 : decode cX1_needsWorkerFrom 67 = .ok (.aload_n 3, 1) := by decide +kernel
theorem dX1_needsWorkerFrom_68 : decode cX1_needsWorkerFrom 68 = .ok (.getfield 117, 3) := by decide +kernel
theorem dX1_needsWorkerFrom_71 : decode cX1_needsWorkerFrom 71 = .ok (.iload_n 1, 1) := by decide +kernel
theorem dX1_needsWorkerFrom_72 : decode cX1_needsWorkerFrom 72 = .ok (.if_icmp .lt 5, 3) := by decide +kernel
theorem dX1_needsWorkerFrom_75 : decode cX1_needsWorkerFrom 75 = .ok (.iconst 1, 1) := by decide +kernel
theorem dX1_needsWorkerFrom_76 : decode cX1_needsWorkerFrom 76 = .ok (.ireturn, 1) := by decide +kernel
theorem dX1_needsWorkerFrom_77 : decode cX1_needsWorkerFrom 77 = .ok (.iinc 2 1, 3) := by decide +kernel
theorem dX1_needsWorkerFrom_80 : decode cX1_needsWorkerFrom 80 = .ok (.goto (-34), 3) := by decide +kernel
theorem dX1_needsWorkerFrom_83 : decode cX1_needsWorkerFrom 83 = .ok (.iconst 0, 1) := by decide +kernel
theorem dX1_needsWorkerFrom_84 : decode cX1_needsWorkerFrom 84 = .ok (.ireturn, 1) := by decide +kernel
set_option maxRecDepth 20000 in
theorem ggX1_countUnfinished_X1_taskAt : GoodIn wsX1_countUnfinished wsX1_taskAt := goodIn_r _ [6, 7, 8, 15, 16, 17, 18, 19, 20, 21, 22, 23, 24, 25, 26] (by decide +kernel) (by decide +kernel)
set_option maxRecDepth 20000 in
theorem gX1_countUnfinished_X1_taskAt : GoodIn wsX1_countUnfinished (wsV RX1 97 RX1 yX1_taskAt wsX1_taskAt) := goodIn_app (goodIn_of _ (by decide +kernel)) ggX1_countUnfinished_X1_taskAt
set_option maxRecDepth 20000 in
theorem ggX1_countUnfinished_X4_isOver : GoodIn wsX1_countUnfinished wsX4_isOver := goodIn_r _ [13, 14, 27, 28, 29, 30, 31, 32, 33, 34, 35, 36, 37] (by decide +kernel) (by decide +kernel)
set_option maxRecDepth 20000 in
theorem gX1_countUnfinished_X4_isOver : GoodIn wsX1_countUnfinished (wsV RX1 120 RX4 yX4_isOver wsX4_isOver) := goodIn_app (goodIn_of _ (by decide +kernel)) ggX1_countUnfinished_X4_isOver
theorem dX1_countUnfinished_0 : decode cX1_countUnfinished 0 = .ok (.iconst 0, 1) := by decide +kernel
theorem dX1_countUnfinished_1 : decode cX1_countUnfinished 1 = .ok (.istore_n 1, 1) := by decide +kernel
theorem dX1_countUnfinished_2 : decode cX1_countUnfinished 2 = .ok (.iconst 0, 1) := by decide +kernel
theorem dX1_countUnfinished_3 : decode cX1_countUnfinished 3 = .ok (.istore_n 2, 1) := by decide +kernel
theorem dX1_countUnfinished_4 : decode cX1_countUnfinished 4 = .ok (.iload_n 2, 1) := by decide +kernel
theorem dX1_countUnfinished_5 : decode cX1_countUnfinished 5 = .ok (.aload_n 0, 1) := by decide +kernel
theorem dX1_countUnfinished_6 : decode cX1_countUnfinished 6 = .ok (.getfield 53, 3) := by decide +kernel
theorem dX1_countUnfinished_9 : decode cX1_countUnfinished 9 = .ok (.if_icmp .ge 23, 3) := by decide +kernel
theorem dX1_countUnfinished_12 : decode cX1_countUnfinished 12 = .ok (.aload_n 0, 1) := by decide +kernel
theorem dX1_countUnfinished_13 : decode cX1_countUnfinished 13 = .ok (.iload_n 2, 1) := by decide +kernel
theorem dX1_countUnfinished_14 : decode cX1_countUnfinished 14 = .ok (.invokevirtual 97, 3) := by decide +kernel
theorem dX1_countUnfinished_17 : decode cX1_countUnfinished 17 = .ok (.invokevirtual 120, 3) := by decide +kernel
theorem dX1_countUnfinished_20 : decode cX1_countUnfinished 20 = .ok (.ifCond .ne 6, 3) := by decide +kernel
theorem dX1_countUnfinished_23 : decode cX1_countUnfinished 23 = .ok (.iinc 1 1, 3) := by decide +kernel
theorem dX1_countUnfinished_26 : decode cX1_countUnfinished 26 = .ok (.iinc 2 1, 3) := by decide +kernel
theorem dX1_countUnfinished_29 : decode cX1_countUnfinished 29 = .ok (.goto (-25), 3) := by decide +kernel
theorem dX1_countUnfinished_32 : decode cX1_countUnfinished 32 = .ok (.iload_n 1, 1) := by decide +kernel
theorem dX1_countUnfinished_33 : decode cX1_countUnfinished 33 = .ok (.ireturn, 1) := by decide +kernel
set_option maxRecDepth 20000 in
theorem ggX1_sumWork_X1_taskAt : GoodIn wsX1_sumWork wsX1_taskAt := goodIn_r _ [6, 7, 8, 23, 24, 25, 26, 27, 28, 29, 30, 31, 32, 33, 34] (by decide +kernel) (by decide +kernel)
set_option maxRecDepth 20000 in
theorem gX1_sumWork_X1_taskAt : GoodIn wsX1_sumWork (wsV RX1 97 RX1 yX1_taskAt wsX1_taskAt) := goodIn_app (goodIn_of _ (by decide +kernel)) ggX1_sumWork_X1_taskAt
set_option maxRecDepth 20000 in
theorem ggX1_sumWork_X1_isIn : GoodIn wsX1_sumWork wsX1_isIn := goodIn_r _ [11] (by decide +kernel) (by decide +kernel)
set_option maxRecDepth 20000 in
theorem gX1_sumWork_X1_isIn : GoodIn wsX1_sumWork (va_wsS RX1 129 yX1_isIn wsX1_isIn) := goodIn_app (goodIn_of _ (by decide +kernel)) ggX1_sumWork_X1_isIn
theorem dX1_sumWork_0 : decode cX1_sumWork 0 = .ok (.iconst 1, 1) := by decide +kernel
theorem dX1_sumWork_1 : decode cX1_sumWork 1 = .ok (.iload_n 1, 1) := by decide +kernel
theorem dX1_sumWork_2 : decode cX1_sumWork 2 = .ok (.ishl, 1) := by decide +kernel
theorem dX1_sumWork_3 : decode cX1_sumWork 3 = .ok (.istore_n 2, 1) := by decide +kernel
theorem dX1_sumWork_4 : decode cX1_sumWork 4 = .ok (.aload_n 0, 1) := by decide +kernel
theorem dX1_sumWork_5 : decode cX1_sumWork 5 = .ok (.iload_n 1, 1) := by decide +kernel
theorem dX1_sumWork_6 : decode cX1_sumWork 6 = .ok (.invokevirtual 97, 3) := by decide +kernel
theorem dX1_sumWork_9 : decode cX1_sumWork 9 = .ok (.getfield 123, 3) := by decide +kernel
theorem dX1_sumWork_12 : decode cX1_sumWork 12 = .ok (.istore_n 3, 1) := by decide +kernel
theorem dX1_sumWork_13 : decode cX1_sumWork 13 = .ok (.iload_n 1, 1) := by decide +kernel
theorem dX1_sumWork_14 : decode cX1_sumWork 14 = .ok (.iconst 1, 1) := by decide +kernel
theorem dX1_sumWork_15 : decode cX1_sumWork 15 = .ok (.iadd, 1) := by decide +kernel
theorem dX1_sumWork_16 : decode cX1_sumWork 16 = .ok (.istore 4, 2) := by decide +kernel
theorem dX1_sumWork_18 : decode cX1_sumWork 18 = .ok (.iload 4, 2) := by decide +kernel
theorem dX1_sumWork_20 : decode cX1_sumWork 20 = .ok (.aload_n 0, 1) := by decide +kernel
theorem dX1_sumWork_21 : decode cX1_sumWork 21 = .ok (.getfield 53, 3) := by decide +kernel
theorem dX1_sumWork_24 : decode cX1_sumWork 24 = .ok (.if_icmp .ge 44, 3) := by decide +kernel
theorem dX1_sumWork_27 : decode cX1_sumWork 27 = .ok (.aload_n 0, 1) := by decide +kernel
theorem dX1_sumWork_28 : decode cX1_sumWork 28 = .ok (.iload 4, 2) := by decide +kernel
theorem dX1_sumWork_30 : decode cX1_sumWork 30 = .ok (.invokevirtual 97, 3) := by decide +kernel
theorem dX1_sumWork_33 : decode cX1_sumWork 33 = .ok (.astore 5, 2) := by decide +kernel
theorem dX1_sumWork_35 : decode cX1_sumWork 35 = .ok (.iload_n 2, 1) := by decide +kernel
theorem dX1_sumWork_36 : decode cX1_sumWork 36 = .ok (.aload 5, 2) := by decide +kernel
theorem dX1_sumWork_38 : decode cX1_sumWork 38 = .ok (.getfield 126, 3) := by decide +kernel
theorem dX1_sumWork_41 : decode cX1_sumWork 41 = .ok (.invokestatic 129, 3) := by decide +kernel
theorem dX1_sumWork_44 : decode cX1_sumWork 44 = .ok (.ifCond .eq 18, 3) := by decide +kernel
theorem dX1_sumWork_47 : decode cX1_sumWork 47 = .ok (.iload_n 2, 1) := by decide +kernel
theorem dX1_sumWork_48 : decode cX1_sumWork 48 = .ok (.iconst 1, 1) := by decide +kernel
theorem dX1_sumWork_49 : decode cX1_sumWork 49 = .ok (.iload 4, 2) := by decide +kernel
theorem dX1_sumWork_51 : decode cX1_sumWork 51 = .ok (.ishl, 1) := by decide +kernel
theorem dX1_sumWork_52 : decode cX1_sumWork 52 = .ok (.ior, 1) := by decide +kernel
theorem dX1_sumWork_53 : decode cX1_sumWork 53 = .ok (.istore_n 2, 1) := by decide +kernel
theorem dX1_sumWork_54 : decode cX1_sumWork 54 = .ok (.iload_n 3, 1) := by decide +kernel
theorem dX1_sumWork_55 : decode cX1_sumWork 55 = .ok (.aload 5, 2) := by decide +kernel
theorem dX1_sumWork_57 : decode cX1_sumWork 57 = .ok (.getfield 123, 3) := by decide +kernel
theorem dX1_sumWork_60 : decode cX1_sumWork 60 = .ok (.iadd, 1) := by decide +kernel
theorem dX1_sumWork_61 : decode cX1_sumWork 61 = .ok (.istore_n 3, 1) := by decide +kernel
theorem dX1_sumWork_62 : decode cX1_sumWork 62 = .ok (.iinc 4 1, 3) := by decide +kernel
theorem dX1_sumWork_65 : decode cX1_sumWork 65 = .ok (.goto (-47), 3) := by decide +kernel
theorem dX1_sumWork_68 : decode cX1_sumWork 68 = .ok (.iload_n 3, 1) := by decide +kernel
theorem dX1_sumWork_69 : decode cX1_sumWork 69 = .ok (.ireturn, 1) := by decide +kernel
set_option maxRecDepth 20000 in
theorem ggX1_isHalted_X1_countUnfinished : GoodIn wsX1_isHalted wsX1_countUnfinished := goodIn_r _ [6, 7, 8, 9, 10, 5, 11, 12, 13, 14, 15, 16, 17, 18, 19, 68, 69, 70, 71, 72, 73, 74, 75, 76, 77, 78, 79, 80, 81, 82, 83, 84, 85, 86, 87, 88, 89, 90] (by decide +kernel) (by decide +kernel)
set_option maxRecDepth 20000 in
theorem gX1_isHalted_X1_countUnfinished : GoodIn wsX1_isHalted (wsV RX1 133 RX1 yX1_countUnfinished wsX1_countUnfinished) := goodIn_app (goodIn_of _ (by decide +kernel)) ggX1_isHalted_X1_countUnfinished
set_option maxRecDepth 20000 in
theorem ggX1_isHalted_X1_wouldAct : GoodIn wsX1_isHalted wsX1_wouldAct := goodIn_r _ [23, 24, 25, 26, 5, 27, 28, 29, 30, 31, 32, 33, 34, 35, 36, 37, 38, 39, 40, 41, 42, 43, 44, 45, 8, 9, 10, 11, 12, 13, 46, 47, 48, 17, 49, 19, 50, 51, 52, 53, 54, 55, 56, 57, 58, 59, 60, 61, 62, 63, 1, 64, 65, 66, 67, 91, 92, 93, 94, 95, 96, 68, 69, 70, 71, 72, 73, 74, 75, 76, 77, 78, 79, 97, 98, 80, 81, 82, 83, 84, 85, 86, 87, 88, 89, 90] (by decide +kernel) (by decide +kernel)
set_option maxRecDepth 20000 in
theorem gX1_isHalted_X1_wouldAct : GoodIn wsX1_isHalted (wsV RX1 137 RX1 yX1_wouldAct wsX1_wouldAct) := goodIn_app (goodIn_of _ (by decide +kernel)) ggX1_isHalted_X1_wouldAct
theorem dX1_isHalted_0 : decode cX1_isHalted 0 = .ok (.aload_n 0, 1) := by decide +kernel
theorem dX1_isHalted_1 : decode cX1_isHalted 1 = .ok (.invokevirtual 133, 3) := by decide +kernel
theorem dX1_isHalted_4 : decode cX1_isHalted 4 = .ok (.ifCond .ne 5, 3) := by decide +kernel
theorem dX1_isHalted_7 : decode cX1_isHalted 7 = .ok (.iconst 0, 1) := by decide +kernel
theorem dX1_isHalted_8 : decode cX1_isHalted 8 = .ok (.ireturn, 1) := by decide +kernel
theorem dX1_isHalted_9 : decode cX1_isHalted 9 = .ok (.iconst 0, 1) := by decide +kernel
theorem dX1_isHalted_10 : decode cX1_isHalted 10 = .ok (.istore_n 1, 1) := by decide +kernel
theorem dX1_isHalted_11 : decode cX1_isHalted 11 = .ok (.iload_n 1, 1) := by decide +kernel
theorem dX1_isHalted_12 : decode cX1_isHalted 12 = .ok (.aload_n 0, 1) := by decide +kernel
theorem dX1_isHalted_13 : decode cX1_isHalted 13 = .ok (.getfield 57, 3) := by decide +kernel
theorem dX1_isHalted_16 : decode cX1_isHalted 16 = .ok (.if_icmp .ge 19, 3) := by decide +kernel
theorem dX1_isHalted_19 : decode cX1_isHalted 19 = .ok (.aload_n 0, 1) := by decide +kernel
theorem dX1_isHalted_20 : decode cX1_isHalted 20 = .ok (.iload_n 1, 1) := by decide +kernel
theorem dX1_isHalted_21 : decode cX1_isHalted 21 = .ok (.invokevirtual 137, 3) := by decide +kernel
theorem dX1_isHalted_24 : decode cX1_isHalted 24 = .ok (.ifCond .eq 5, 3) := by decide +kernel
theorem dX1_isHalted_27 : decode cX1_isHalted 27 = .ok (.iconst 0, 1) := by decide +kernel
theorem dX1_isHalted_28 : decode cX1_isHalted 28 = .ok (.ireturn, 1) := by decide +kernel
theorem dX1_isHalted_29 : decode cX1_isHalted 29 = .ok (.iinc 1 1, 3) := by decide +kernel
theorem dX1_isHalted_32 : decode cX1_isHalted 32 = .ok (.goto (-21), 3) := by decide +kernel
theorem dX1_isHalted_35 : decode cX1_isHalted 35 = .ok (.iconst 1, 1) := by decide +kernel
theorem dX1_isHalted_36 : decode cX1_isHalted 36 = .ok (.ireturn, 1) := by decide +kernel
set_option maxRecDepth 20000 in
theorem ggX1_wouldAct_X1_workerAt : GoodIn wsX1_wouldAct wsX1_workerAt := goodIn_r _ [5, 6, 7, 61, 62, 63, 64, 65, 66, 67, 68, 69, 70, 71, 72] (by decide +kernel) (by decide +kernel)
set_option maxRecDepth 20000 in
theorem gX1_wouldAct_X1_workerAt : GoodIn wsX1_wouldAct (wsV RX1 90 RX1 yX1_workerAt wsX1_workerAt) := goodIn_app (goodIn_of _ (by decide +kernel)) ggX1_wouldAct_X1_workerAt
set_option maxRecDepth 20000 in
theorem ggX1_wouldAct_X1_wantsTask : GoodIn wsX1_wouldAct wsX1_wantsTask := goodIn_r _ [11, 12, 13, 14, 15, 16, 17, 18, 19, 20, 21, 22, 23, 24, 25, 26, 4, 27, 28, 29, 30, 31, 32, 33, 34, 35, 55, 56, 57, 58, 59, 60, 73, 74, 61, 62, 63, 64, 65, 66, 67, 68, 69, 70, 71, 72, 75, 76, 77, 78, 79, 80, 81, 82, 83, 84, 85] (by decide +kernel) (by decide +kernel)
set_option maxRecDepth 20000 in
theorem gX1_wouldAct_X1_wantsTask : GoodIn wsX1_wouldAct (wsV RX1 141 RX1 yX1_wantsTask wsX1_wantsTask) := goodIn_app (goodIn_of _ (by decide +kernel)) ggX1_wouldAct_X1_wantsTask
set_option maxRecDepth 20000 in
theorem ggX1_wouldAct_X1_sourceFor : GoodIn wsX1_wouldAct wsX1_sourceFor := goodIn_r _ [39, 40, 41, 42, 43, 44, 4, 45, 1, 2, 3, 5, 6, 7, 46, 47, 48, 49, 50, 51, 52, 53, 54, 73, 74, 61, 62, 63, 64, 65, 66, 67, 68, 69, 70, 71, 72, 55, 56, 57, 58, 59, 60] (by decide +kernel) (by decide +kernel)
set_option maxRecDepth 20000 in
theorem gX1_wouldAct_X1_sourceFor : GoodIn wsX1_wouldAct (wsV RX1 145 RX1 yX1_sourceFor wsX1_sourceFor) := goodIn_app (goodIn_of _ (by decide +kernel)) ggX1_wouldAct_X1_sourceFor
set_option maxRecDepth 20000 in
theorem ggX1_wouldAct_X2_last : GoodIn wsX1_wouldAct wsX2_last := goodIn_r _ [17, 18, 19, 20, 21, 16, 22, 23, 73, 74] (by decide +kernel) (by decide +kernel)
set_option maxRecDepth 20000 in
theorem gX1_wouldAct_X2_last : GoodIn wsX1_wouldAct (wsV RX1 149 RX2 yX2_last wsX2_last) := goodIn_app (goodIn_of _ (by decide +kernel)) ggX1_wouldAct_X2_last
set_option maxRecDepth 20000 in
theorem ggX1_wouldAct_X1_taskAt : GoodIn wsX1_wouldAct wsX1_taskAt := goodIn_r _ [27, 28, 29, 61, 62, 63, 64, 65, 66, 67, 68, 69, 70, 71, 72] (by decide +kernel) (by decide +kernel)
set_option maxRecDepth 20000 in
theorem gX1_wouldAct_X1_taskAt : GoodIn wsX1_wouldAct (wsV RX1 97 RX1 yX1_taskAt wsX1_taskAt) := goodIn_app (goodIn_of _ (by decide +kernel)) ggX1_wouldAct_X1_taskAt
set_option maxRecDepth 20000 in
theorem ggX1_wouldAct_X4_isBlocked : GoodIn wsX1_wouldAct wsX4_isBlocked := goodIn_r _ [34, 35, 75, 76, 77, 78, 79, 80, 81, 82, 83, 84, 85] (by decide +kernel) (by decide +kernel)
set_option maxRecDepth 20000 in
theorem gX1_wouldAct_X4_isBlocked : GoodIn wsX1_wouldAct (wsV RX1 113 RX4 yX4_isBlocked wsX4_isBlocked) := goodIn_app (goodIn_of _ (by decide +kernel)) ggX1_wouldAct_X4_isBlocked
theorem dX1_wouldAct_0 : decode cX1_wouldAct 0 = .ok (.aload_n 0, 1) := by decide +kernel
theorem dX1_wouldAct_1 : decode cX1_wouldAct 1 = .ok (.iload_n 1, 1) := by decide +kernel
theorem dX1_wouldAct_2 : decode cX1_wouldAct 2 = .ok (.invokevirtual 90, 3) := by decide +kernel
theorem dX1_wouldAct_5 : decode cX1_wouldAct 5 = .ok (.astore_n 2, 1) := by decide +kernel
theorem dX1_wouldAct_6 : decode cX1_wouldAct 6 = .ok (.aload_n 0, 1) := by decide +kernel
theorem dX1_wouldAct_7 : decode cX1_wouldAct 7 = .ok (.aload_n 2, 1) := by decide +kernel
theorem dX1_wouldAct_8 : decode cX1_wouldAct 8 = .ok (.invokevirtual 141, 3) := by decide +kernel
theorem dX1_wouldAct_11 : decode cX1_wouldAct 11 = .ok (.ifCond .eq 19, 3) := by decide +kernel
theorem dX1_wouldAct_14 : decode cX1_wouldAct 14 = .ok (.aload_n 0, 1) := by decide +kernel
theorem dX1_wouldAct_15 : decode cX1_wouldAct 15 = .ok (.iload_n 1, 1) := by decide +kernel
theorem dX1_wouldAct_16 : decode cX1_wouldAct 16 = .ok (.invokevirtual 145, 3) := by decide +kernel
theorem dX1_wouldAct_19 : decode cX1_wouldAct 19 = .ok (.bipush (-2), 2) := by decide +kernel
theorem dX1_wouldAct_21 : decode cX1_wouldAct 21 = .ok (.if_icmp .eq 7, 3) := by decide +kernel
theorem dX1_wouldAct_24 : decode cX1_wouldAct 24 = .ok (.iconst 1, 1) := by decide +kernel
theorem dX1_wouldAct_25 : decode cX1_wouldAct 25 = .ok (.goto 4, 3) := by decide +kernel
theorem dX1_wouldAct_28 : decode cX1_wouldAct 28 = .ok (.iconst 0, 1) := by decide +kernel
theorem dX1_wouldAct_29 : decode cX1_wouldAct 29 = .ok (.ireturn, 1) := by decide +kernel
theorem dX1_wouldAct_30 : decode cX1_wouldAct 30 = .ok (.aload_n 0, 1) := by decide +kernel
theorem dX1_wouldAct_31 : decode cX1_wouldAct 31 = .ok (.aload_n 2, 1) := by decide +kernel
theorem dX1_wouldAct_32 : decode cX1_wouldAct 32 = .ok (.getfield 107, 3) := by decide +kernel
theorem dX1_wouldAct_35 : decode cX1_wouldAct 35 = .ok (.invokevirtual 149, 3) := by decide +kernel
theorem dX1_wouldAct_38 : decode cX1_wouldAct 38 = .ok (.invokevirtual 97, 3) := by decide +kernel
theorem dX1_wouldAct_41 : decode cX1_wouldAct 41 = .ok (.invokevirtual 113, 3) := by decide +kernel
theorem dX1_wouldAct_44 : decode cX1_wouldAct 44 = .ok (.ifCond .ne 7, 3) := by decide +kernel
theorem dX1_wouldAct_47 : decode cX1_wouldAct 47 = .ok (.iconst 1, 1) := by decide +kernel
theorem dX1_wouldAct_48 : decode cX1_wouldAct 48 = .ok (.goto 4, 3) := by decide +kernel
theorem dX1_wouldAct_51 : decode cX1_wouldAct 51 = .ok (.iconst 0, 1) := by decide +kernel
theorem dX1_wouldAct_52 : decode cX1_wouldAct 52 = .ok (.ireturn, 1) := by decide +kernel
theorem dX1_isIn_0 : decode cX1_isIn 0 = .ok (.iload_n 1, 1) := by decide +kernel
theorem dX1_isIn_1 : decode cX1_isIn 1 = .ok (.ifCond .lt 22, 3) := by decide +kernel
theorem dX1_isIn_4 : decode cX1_isIn 4 = .ok (.iload_n 1, 1) := by decide +kernel
theorem dX1_isIn_5 : decode cX1_isIn 5 = .ok (.bipush 24, 2) := by decide +kernel
theorem dX1_isIn_7 : decode cX1_isIn 7 = .ok (.if_icmp .ge 16, 3) := by decide +kernel
theorem dX1_isIn_10 : decode cX1_isIn 10 = .ok (.iload_n 0, 1) := by decide +kernel
theorem dX1_isIn_11 : decode cX1_isIn 11 = .ok (.iload_n 1, 1) := by decide +kernel
theorem dX1_isIn_12 : decode cX1_isIn 12 = .ok (.ishr, 1) := by decide +kernel
theorem dX1_isIn_13 : decode cX1_isIn 13 = .ok (.iconst 1, 1) := by decide +kernel
theorem dX1_isIn_14 : decode cX1_isIn 14 = .ok (.iand, 1) := by decide +kernel
theorem dX1_isIn_15 : decode cX1_isIn 15 = .ok (.iconst 1, 1) := by decide +kernel
theorem dX1_isIn_16 : decode cX1_isIn 16 = .ok (.if_icmp .ne 7, 3) := by decide +kernel
theorem dX1_isIn_19 : decode cX1_isIn 19 = .ok (.iconst 1, 1) := by decide +kernel
theorem dX1_isIn_20 : decode cX1_isIn 20 = .ok (.goto 4, 3) := by decide +kernel
theorem dX1_isIn_23 : decode cX1_isIn 23 = .ok (.iconst 0, 1) := by decide +kernel
theorem dX1_isIn_24 : decode cX1_isIn 24 = .ok (.ireturn, 1) := by decide +kernel
set_option maxRecDepth 20000 in
theorem ggX1_changeWorkerCount_X1_workerAt : GoodIn wsX1_changeWorkerCount wsX1_workerAt := goodIn_r _ [6, 7, 8, 30, 31, 32, 33, 34, 35, 36, 37, 38, 39, 40, 41] (by decide +kernel) (by decide +kernel)
set_option maxRecDepth 20000 in
theorem gX1_changeWorkerCount_X1_workerAt : GoodIn wsX1_changeWorkerCount (wsV RX1 90 RX1 yX1_workerAt wsX1_workerAt) := goodIn_app (goodIn_of _ (by decide +kernel)) ggX1_changeWorkerCount_X1_workerAt
set_option maxRecDepth 20000 in
theorem ggX1_changeWorkerCount_X5_begin : GoodIn wsX1_changeWorkerCount wsX5_begin := goodIn_r _ [13, 14, 15, 16, 17, 18, 19, 20, 21, 22, 23, 24, 25, 26, 27, 28, 29, 42, 43, 44, 45, 46, 47, 48, 49] (by decide +kernel) (by decide +kernel)
set_option maxRecDepth 20000 in
theorem gX1_changeWorkerCount_X5_begin : GoodIn wsX1_changeWorkerCount (wsV RX1 152 RX5 yX5_begin wsX5_begin) := goodIn_app (goodIn_of _ (by decide +kernel)) ggX1_changeWorkerCount_X5_begin
theorem dX1_changeWorkerCount_0 : decode cX1_changeWorkerCount 0 = .ok (.aload_n 0, 1) := by decide +kernel
theorem dX1_changeWorkerCount_1 : decode cX1_changeWorkerCount 1 = .ok (.getfield 57, 3) := by decide +kernel
theorem dX1_changeWorkerCount_4 : decode cX1_changeWorkerCount 4 = .ok (.istore_n 2, 1) := by decide +kernel
theorem dX1_changeWorkerCount_5 : decode cX1_changeWorkerCount 5 = .ok (.iload_n 2, 1) := by decide +kernel
theorem dX1_changeWorkerCount_6 : decode cX1_changeWorkerCount 6 = .ok (.iload_n 1, 1) := by decide +kernel
theorem dX1_changeWorkerCount_7 : decode cX1_changeWorkerCount 7 = .ok (.if_icmp .ge 17, 3) := by decide +kernel
theorem dX1_changeWorkerCount_10 : decode cX1_changeWorkerCount 10 = .ok (.aload_n 0, 1) := by decide +kernel
theorem dX1_changeWorkerCount_11 : decode cX1_changeWorkerCount 11 = .ok (.iload_n 2, 1) := by decide +kernel
theorem dX1_changeWorkerCount_12 : decode cX1_changeWorkerCount 12 = .ok (.invokevirtual 90, 3) := by decide +kernel
theorem dX1_changeWorkerCount_15 : decode cX1_changeWorkerCount 15 = .ok (.invokevirtual 152, 3) := by decide +kernel
theorem dX1_changeWorkerCount_18 : decode cX1_changeWorkerCount 18 = .ok (.iinc 2 1, 3) := by decide +kernel
theorem dX1_changeWorkerCount_21 : decode cX1_changeWorkerCount 21 = .ok (.goto (-16), 3) := by decide +kernel
theorem dX1_changeWorkerCount_24 : decode cX1_changeWorkerCount 24 = .ok (.aload_n 0, 1) := by decide +kernel
theorem dX1_changeWorkerCount_25 : decode cX1_changeWorkerCount 25 = .ok (.iload_n 1, 1) := by decide +kernel
theorem dX1_changeWorkerCount_26 : decode cX1_changeWorkerCount 26 = .ok (.putfield 57, 3) := by decide +kernel
theorem dX1_changeWorkerCount_29 : decode cX1_changeWorkerCount 29 = .ok (.return_, 1) := by decide +kernel
set_option maxRecDepth 20000 in
theorem ggX1_askFor_X1_newTask : GoodIn wsX1_askFor wsX1_newTask := goodIn_r _ [6, 7, 8, 9, 10, 5, 11, 12, 13, 14, 15, 16, 17, 18, 19, 20, 21, 22, 23, 24, 25, 26, 27, 28, 36, 37, 38, 39, 40, 41, 42, 43, 44, 45, 46, 47, 48, 49, 50, 51, 52, 53, 54, 55, 56, 57, 58] (by decide +kernel) (by decide +kernel)
set_option maxRecDepth 20000 in
theorem gX1_askFor_X1_newTask : GoodIn wsX1_askFor (wsV RX1 155 RX1 yX1_newTask wsX1_newTask) := goodIn_app (goodIn_of _ (by decide +kernel)) ggX1_askFor_X1_newTask
set_option maxRecDepth 20000 in
theorem ggX1_askFor_X2_append : GoodIn wsX1_askFor wsX2_append := goodIn_r _ [33, 34, 35, 59, 60] (by decide +kernel) (by decide +kernel)
set_option maxRecDepth 20000 in
theorem gX1_askFor_X2_append : GoodIn wsX1_askFor (wsV RX1 162 RX2 yX2_append wsX2_append) := goodIn_app (goodIn_of _ (by decide +kernel)) ggX1_askFor_X2_append
theorem dX1_askFor_0 : decode cX1_askFor 0 = .ok (.aload_n 0, 1) := by decide +kernel
theorem dX1_askFor_1 : decode cX1_askFor 1 = .ok (.iload_n 1, 1) := by decide +kernel
theorem dX1_askFor_2 : decode cX1_askFor 2 = .ok (.iconst (-1), 1) := by decide +kernel
theorem dX1_askFor_3 : decode cX1_askFor 3 = .ok (.invokevirtual 155, 3) := by decide +kernel
theorem dX1_askFor_6 : decode cX1_askFor 6 = .ok (.astore_n 2, 1) := by decide +kernel
theorem dX1_askFor_7 : decode cX1_askFor 7 = .ok (.aload_n 0, 1) := by decide +kernel
theorem dX1_askFor_8 : decode cX1_askFor 8 = .ok (.getfield 38, 3) := by decide +kernel
theorem dX1_askFor_11 : decode cX1_askFor 11 = .ok (.aload_n 2, 1) := by decide +kernel
theorem dX1_askFor_12 : decode cX1_askFor 12 = .ok (.getfield 159, 3) := by decide +kernel
theorem dX1_askFor_15 : decode cX1_askFor 15 = .ok (.invokevirtual 162, 3) := by decide +kernel
theorem dX1_askFor_18 : decode cX1_askFor 18 = .ok (.aload_n 2, 1) := by decide +kernel
theorem dX1_askFor_19 : decode cX1_askFor 19 = .ok (.getfield 159, 3) := by decide +kernel
theorem dX1_askFor_22 : decode cX1_askFor 22 = .ok (.ireturn, 1) := by decide +kernel
set_option maxRecDepth 20000 in
theorem ggX1_keepPromise_X1_taskAt : GoodIn wsX1_keepPromise wsX1_taskAt := goodIn_r _ [9, 10, 11, 47, 48, 49, 50, 51, 52, 53, 54, 55, 56, 57, 58] (by decide +kernel) (by decide +kernel)
set_option maxRecDepth 20000 in
theorem gX1_keepPromise_X1_taskAt : GoodIn wsX1_keepPromise (wsV RX1 97 RX1 yX1_taskAt wsX1_taskAt) := goodIn_app (goodIn_of _ (by decide +kernel)) ggX1_keepPromise_X1_taskAt
set_option maxRecDepth 20000 in
theorem ggX1_keepPromise_X0_scriptAt : GoodIn wsX1_keepPromise wsX0_scriptAt := goodIn_r _ [16, 17, 18, 70, 71, 72] (by decide +kernel) (by decide +kernel)
set_option maxRecDepth 20000 in
theorem gX1_keepPromise_X0_scriptAt : GoodIn wsX1_keepPromise (wsV RX1 165 RX0 yX0_scriptAt wsX0_scriptAt) := goodIn_app (goodIn_of _ (by decide +kernel)) ggX1_keepPromise_X0_scriptAt
set_option maxRecDepth 20000 in
theorem ggX1_keepPromise_X3_numberAt : GoodIn wsX1_keepPromise wsX3_numberAt := goodIn_r _ [23, 24, 73, 74, 75] (by decide +kernel) (by decide +kernel)
set_option maxRecDepth 20000 in
theorem gX1_keepPromise_X3_numberAt : GoodIn wsX1_keepPromise (wsV RX1 174 RX3 yX3_numberAt wsX3_numberAt) := goodIn_app (goodIn_of _ (by decide +kernel)) ggX1_keepPromise_X3_numberAt
set_option maxRecDepth 20000 in
theorem ggX1_keepPromise_X1_free : GoodIn wsX1_keepPromise wsX1_free := goodIn_r _ [28, 29, 30, 31, 32, 8, 33, 34, 35, 36, 37, 38, 39, 40, 41, 42, 43, 44, 45, 46, 47, 48, 49, 50, 51, 52, 53, 54, 55, 56, 57, 58, 76, 77, 78, 79, 80, 81, 59, 60, 61, 62, 63, 64, 65, 66, 67, 68, 69, 82, 83] (by decide +kernel) (by decide +kernel)
set_option maxRecDepth 20000 in
theorem gX1_keepPromise_X1_free : GoodIn wsX1_keepPromise (wsV RX1 179 RX1 yX1_free wsX1_free) := goodIn_app (goodIn_of _ (by decide +kernel)) ggX1_keepPromise_X1_free
theorem dX1_keepPromise_0 : decode cX1_keepPromise 0 = .ok (.iload_n 1, 1) := by decide +kernel
theorem dX1_keepPromise_1 : decode cX1_keepPromise 1 = .ok (.ifCond .lt 20, 3) := by decide +kernel
theorem dX1_keepPromise_4 : decode cX1_keepPromise 4 = .ok (.iload_n 1, 1) := by decide +kernel
theorem dX1_keepPromise_5 : decode cX1_keepPromise 5 = .ok (.bipush 6, 2) := by decide +kernel
theorem dX1_keepPromise_7 : decode cX1_keepPromise 7 = .ok (.if_icmp .ge 14, 3) := by decide +kernel
theorem dX1_keepPromise_10 : decode cX1_keepPromise 10 = .ok (.aload_n 0, 1) := by decide +kernel
theorem dX1_keepPromise_11 : decode cX1_keepPromise 11 = .ok (.getfield 42, 3) := by decide +kernel
theorem dX1_keepPromise_14 : decode cX1_keepPromise 14 = .ok (.iload_n 1, 1) := by decide +kernel
theorem dX1_keepPromise_15 : decode cX1_keepPromise 15 = .ok (.iaload, 1) := by decide +kernel
theorem dX1_keepPromise_16 : decode cX1_keepPromise 16 = .ok (.ldc 64, 2) := by decide +kernel
theorem dX1_keepPromise_18 : decode cX1_keepPromise 18 = .ok (.if_icmp .eq 5, 3) := by decide +kernel
theorem dX1_keepPromise_21 : decode cX1_keepPromise 21 = .ok (.iconst 0, 1) := by decide +kernel
theorem dX1_keepPromise_22 : decode cX1_keepPromise 22 = .ok (.ireturn, 1) := by decide +kernel
theorem dX1_keepPromise_23 : decode cX1_keepPromise 23 = .ok (.aload_n 0, 1) := by decide +kernel
theorem dX1_keepPromise_24 : decode cX1_keepPromise 24 = .ok (.getfield 42, 3) := by decide +kernel
theorem dX1_keepPromise_27 : decode cX1_keepPromise 27 = .ok (.iload_n 1, 1) := by decide +kernel
theorem dX1_keepPromise_28 : decode cX1_keepPromise 28 = .ok (.iload_n 2, 1) := by decide +kernel
theorem dX1_keepPromise_29 : decode cX1_keepPromise 29 = .ok (.iastore, 1) := by decide +kernel
theorem dX1_keepPromise_30 : decode cX1_keepPromise 30 = .ok (.iconst 0, 1) := by decide +kernel
theorem dX1_keepPromise_31 : decode cX1_keepPromise 31 = .ok (.istore_n 3, 1) := by decide +kernel
theorem dX1_keepPromise_32 : decode cX1_keepPromise 32 = .ok (.iload_n 3, 1) := by decide +kernel
theorem dX1_keepPromise_33 : decode cX1_keepPromise 33 = .ok (.aload_n 0, 1) := by decide +kernel
theorem dX1_keepPromise_34 : decode cX1_keepPromise 34 = .ok (.getfield 53, 3) := by decide +kernel
theorem dX1_keepPromise_37 : decode cX1_keepPromise 37 = .ok (.if_icmp .ge 59, 3) := by decide +kernel
theorem dX1_keepPromise_40 : decode cX1_keepPromise 40 = .ok (.aload_n 0, 1) := by decide +kernel
theorem dX1_keepPromise_41 : decode cX1_keepPromise 41 = .ok (.iload_n 3, 1) := by decide +kernel
theorem dX1_keepPromise_42 : decode cX1_keepPromise 42 = .ok (.invokevirtual 97, 3) := by decide +kernel
theorem dX1_keepPromise_45 : decode cX1_keepPromise 45 = .ok (.astore 4, 2) := by decide +kernel
theorem dX1_keepPromise_47 : decode cX1_keepPromise 47 = .ok (.aload_n 0, 1) := by decide +kernel
theorem dX1_keepPromise_48 : decode cX1_keepPromise 48 = .ok (.getfield 46, 3) := by decide +kernel
theorem dX1_keepPromise_51 : decode cX1_keepPromise 51 = .ok (.aload 4, 2) := by decide +kernel
theorem dX1_keepPromise_53 : decode cX1_keepPromise 53 = .ok (.getfield 101, 3) := by decide +kernel
theorem dX1_keepPromise_56 : decode cX1_keepPromise 56 = .ok (.invokevirtual 165, 3) := by decide +kernel
theorem dX1_keepPromise_59 : decode cX1_keepPromise 59 = .ok (.astore 5, 2) := by decide +kernel
theorem dX1_keepPromise_61 : decode cX1_keepPromise 61 = .ok (.aload 4, 2) := by decide +kernel
theorem dX1_keepPromise_63 : decode cX1_keepPromise 63 = .ok (.getfield 104, 3) := by decide +kernel
theorem dX1_keepPromise_66 : decode cX1_keepPromise 66 = .ok (.iconst 3, 1) := by decide +kernel
theorem dX1_keepPromise_67 : decode cX1_keepPromise 67 = .ok (.if_icmp .ne 23, 3) := by decide +kernel
theorem dX1_keepPromise_70 : decode cX1_keepPromise 70 = .ok (.aload 5, 2) := by decide +kernel
theorem dX1_keepPromise_72 : decode cX1_keepPromise 72 = .ok (.aload 4, 2) := by decide +kernel
theorem dX1_keepPromise_74 : decode cX1_keepPromise 74 = .ok (.getfield 171, 3) := by decide +kernel
theorem dX1_keepPromise_77 : decode cX1_keepPromise 77 = .ok (.invokevirtual 174, 3) := by decide +kernel
theorem dX1_keepPromise_80 : decode cX1_keepPromise 80 = .ok (.iload_n 1, 1) := by decide +kernel
theorem dX1_keepPromise_81 : decode cX1_keepPromise 81 = .ok (.if_icmp .ne 9, 3) := by decide +kernel
theorem dX1_keepPromise_84 : decode cX1_keepPromise 84 = .ok (.aload_n 0, 1) := by decide +kernel
theorem dX1_keepPromise_85 : decode cX1_keepPromise 85 = .ok (.aload 4, 2) := by decide +kernel
theorem dX1_keepPromise_87 : decode cX1_keepPromise 87 = .ok (.invokevirtual 179, 3) := by decide +kernel
theorem dX1_keepPromise_90 : decode cX1_keepPromise 90 = .ok (.iinc 3 1, 3) := by decide +kernel
theorem dX1_keepPromise_93 : decode cX1_keepPromise 93 = .ok (.goto (-61), 3) := by decide +kernel
theorem dX1_keepPromise_96 : decode cX1_keepPromise 96 = .ok (.iconst 1, 1) := by decide +kernel
theorem dX1_keepPromise_97 : decode cX1_keepPromise 97 = .ok (.ireturn, 1) := by decide +kernel
set_option maxRecDepth 20000 in
theorem ggX1_cancelBelow_X1_taskAt : GoodIn wsX1_cancelBelow wsX1_taskAt := goodIn_r _ [6, 7, 8, 71, 72, 73, 74, 75, 76, 77, 78, 79, 80, 81, 82] (by decide +kernel) (by decide +kernel)
set_option maxRecDepth 20000 in
theorem gX1_cancelBelow_X1_taskAt : GoodIn wsX1_cancelBelow (wsV RX1 97 RX1 yX1_taskAt wsX1_taskAt) := goodIn_app (goodIn_of _ (by decide +kernel)) ggX1_cancelBelow_X1_taskAt
set_option maxRecDepth 20000 in
theorem ggX1_cancelBelow_X1_isIn : GoodIn wsX1_cancelBelow wsX1_isIn := goodIn_r _ [11] (by decide +kernel) (by decide +kernel)
set_option maxRecDepth 20000 in
theorem gX1_cancelBelow_X1_isIn : GoodIn wsX1_cancelBelow (va_wsS RX1 129 yX1_isIn wsX1_isIn) := goodIn_app (goodIn_of _ (by decide +kernel)) ggX1_cancelBelow_X1_isIn
set_option maxRecDepth 20000 in
theorem ggX1_cancelBelow_X4_isOver : GoodIn wsX1_cancelBelow wsX4_isOver := goodIn_r _ [16, 17, 60, 61, 62, 63, 64, 65, 66, 67, 68, 69, 70] (by decide +kernel) (by decide +kernel)
set_option maxRecDepth 20000 in
theorem gX1_cancelBelow_X4_isOver : GoodIn wsX1_cancelBelow (wsV RX1 120 RX4 yX4_isOver wsX4_isOver) := goodIn_app (goodIn_of _ (by decide +kernel)) ggX1_cancelBelow_X4_isOver
set_option maxRecDepth 20000 in
theorem ggX1_cancelBelow_X1_end : GoodIn wsX1_cancelBelow wsX1_end := goodIn_r _ [21, 22, 23, 24, 25, 26, 27, 28, 29, 30, 31, 32, 33, 34, 5, 35, 36, 37, 2, 3, 4, 6, 7, 8, 38, 39, 40, 15, 41, 42, 43, 44, 45, 46, 47, 48, 49, 50, 51, 52, 53, 54, 55, 56, 57, 58, 59, 60, 61, 62, 63, 64, 65, 66, 67, 68, 69, 70, 71, 72, 73, 74, 75, 76, 77, 78, 79, 80, 81, 82, 83, 84, 85, 86, 87, 88, 89, 90] (by decide +kernel) (by decide +kernel)
set_option maxRecDepth 20000 in
theorem gX1_cancelBelow_X1_end : GoodIn wsX1_cancelBelow (wsV RX1 182 RX1 yX1_end wsX1_end) := goodIn_app (goodIn_of _ (by decide +kernel)) ggX1_cancelBelow_X1_end
theorem dX1_cancelBelow_0 : decode cX1_cancelBelow 0 = .ok (.iconst 1, 1) := by decide +kernel
theorem dX1_cancelBelow_1 : decode cX1_cancelBelow 1 = .ok (.aload_n 1, 1) := by decide +kernel
theorem dX1_cancelBelow_2 : decode cX1_cancelBelow 2 = .ok (.getfield 159, 3) := by decide +kernel
theorem dX1_cancelBelow_5 : decode cX1_cancelBelow 5 = .ok (.ishl, 1) := by decide +kernel
theorem dX1_cancelBelow_6 : decode cX1_cancelBelow 6 = .ok (.istore_n 2, 1) := by decide +kernel
theorem dX1_cancelBelow_7 : decode cX1_cancelBelow 7 = .ok (.aload_n 1, 1) := by decide +kernel
theorem dX1_cancelBelow_8 : decode cX1_cancelBelow 8 = .ok (.getfield 159, 3) := by decide +kernel
theorem dX1_cancelBelow_11 : decode cX1_cancelBelow 11 = .ok (.iconst 1, 1) := by decide +kernel
theorem dX1_cancelBelow_12 : decode cX1_cancelBelow 12 = .ok (.iadd, 1) := by decide +kernel
theorem dX1_cancelBelow_13 : decode cX1_cancelBelow 13 = .ok (.istore_n 3, 1) := by decide +kernel
theorem dX1_cancelBelow_14 : decode cX1_cancelBelow 14 = .ok (.iload_n 3, 1) := by decide +kernel
theorem dX1_cancelBelow_15 : decode cX1_cancelBelow 15 = .ok (.aload_n 0, 1) := by decide +kernel
theorem dX1_cancelBelow_16 : decode cX1_cancelBelow 16 = .ok (.getfield 53, 3) := by decide +kernel
theorem dX1_cancelBelow_19 : decode cX1_cancelBelow 19 = .ok (.if_icmp .ge 42, 3) := by decide +kernel
theorem dX1_cancelBelow_22 : decode cX1_cancelBelow 22 = .ok (.aload_n 0, 1) := by decide +kernel
theorem dX1_cancelBelow_23 : decode cX1_cancelBelow 23 = .ok (.iload_n 3, 1) := by decide +kernel
theorem dX1_cancelBelow_24 : decode cX1_cancelBelow 24 = .ok (.invokevirtual 97, 3) := by decide +kernel
theorem dX1_cancelBelow_27 : decode cX1_cancelBelow 27 = .ok (.astore 4, 2) := by decide +kernel
theorem dX1_cancelBelow_29 : decode cX1_cancelBelow 29 = .ok (.iload_n 2, 1) := by decide +kernel
theorem dX1_cancelBelow_30 : decode cX1_cancelBelow 30 = .ok (.aload 4, 2) := by decide +kernel
theorem dX1_cancelBelow_32 : decode cX1_cancelBelow 32 = .ok (.getfield 126, 3) := by decide +kernel
theorem dX1_cancelBelow_35 : decode cX1_cancelBelow 35 = .ok (.invokestatic 129, 3) := by decide +kernel
theorem dX1_cancelBelow_38 : decode cX1_cancelBelow 38 = .ok (.ifCond .eq 17, 3) := by decide +kernel
theorem dX1_cancelBelow_41 : decode cX1_cancelBelow 41 = .ok (.aload 4, 2) := by decide +kernel
theorem dX1_cancelBelow_43 : decode cX1_cancelBelow 43 = .ok (.invokevirtual 120, 3) := by decide +kernel
theorem dX1_cancelBelow_46 : decode cX1_cancelBelow 46 = .ok (.ifCond .ne 9, 3) := by decide +kernel
theorem dX1_cancelBelow_49 : decode cX1_cancelBelow 49 = .ok (.iload_n 2, 1) := by decide +kernel
theorem dX1_cancelBelow_50 : decode cX1_cancelBelow 50 = .ok (.iconst 1, 1) := by decide +kernel
theorem dX1_cancelBelow_51 : decode cX1_cancelBelow 51 = .ok (.iload_n 3, 1) := by decide +kernel
theorem dX1_cancelBelow_52 : decode cX1_cancelBelow 52 = .ok (.ishl, 1) := by decide +kernel
theorem dX1_cancelBelow_53 : decode cX1_cancelBelow 53 = .ok (.ior, 1) := by decide +kernel
theorem dX1_cancelBelow_54 : decode cX1_cancelBelow 54 = .ok (.istore_n 2, 1) := by decide +kernel
theorem dX1_cancelBelow_55 : decode cX1_cancelBelow 55 = .ok (.iinc 3 1, 3) := by decide +kernel
theorem dX1_cancelBelow_58 : decode cX1_cancelBelow 58 = .ok (.goto (-44), 3) := by decide +kernel
theorem dX1_cancelBelow_61 : decode cX1_cancelBelow 61 = .ok (.iconst 0, 1) := by decide +kernel
theorem dX1_cancelBelow_62 : decode cX1_cancelBelow 62 = .ok (.istore_n 3, 1) := by decide +kernel
theorem dX1_cancelBelow_63 : decode cX1_cancelBelow 63 = .ok (.aload_n 0, 1) := by decide +kernel
theorem dX1_cancelBelow_64 : decode cX1_cancelBelow 64 = .ok (.getfield 53, 3) := by decide +kernel
theorem dX1_cancelBelow_67 : decode cX1_cancelBelow 67 = .ok (.iconst 1, 1) := by decide +kernel
theorem dX1_cancelBelow_68 : decode cX1_cancelBelow 68 = .ok (.isub, 1) := by decide +kernel
theorem dX1_cancelBelow_69 : decode cX1_cancelBelow 69 = .ok (.istore 4, 2) := by decide +kernel
theorem dX1_cancelBelow_71 : decode cX1_cancelBelow 71 = .ok (.iload 4, 2) := by decide +kernel
theorem dX1_cancelBelow_73 : decode cX1_cancelBelow 73 = .ok (.aload_n 1, 1) := by decide +kernel
theorem dX1_cancelBelow_74 : decode cX1_cancelBelow 74 = .ok (.getfield 159, 3) := by decide +kernel
theorem dX1_cancelBelow_77 : decode cX1_cancelBelow 77 = .ok (.if_icmp .le 33, 3) := by decide +kernel
theorem dX1_cancelBelow_80 : decode cX1_cancelBelow 80 = .ok (.iload_n 2, 1) := by decide +kernel
theorem dX1_cancelBelow_81 : decode cX1_cancelBelow 81 = .ok (.iload 4, 2) := by decide +kernel
theorem dX1_cancelBelow_83 : decode cX1_cancelBelow 83 = .ok (.invokestatic 129, 3) := by decide +kernel
theorem dX1_cancelBelow_86 : decode cX1_cancelBelow 86 = .ok (.ifCond .eq 18, 3) := by decide +kernel
theorem dX1_cancelBelow_89 : decode cX1_cancelBelow 89 = .ok (.aload_n 0, 1) := by decide +kernel
theorem dX1_cancelBelow_90 : decode cX1_cancelBelow 90 = .ok (.aload_n 0, 1) := by decide +kernel
theorem dX1_cancelBelow_91 : decode cX1_cancelBelow 91 = .ok (.iload 4, 2) := by decide +kernel
theorem dX1_cancelBelow_93 : decode cX1_cancelBelow 93 = .ok (.invokevirtual 97, 3) := by decide +kernel
theorem dX1_cancelBelow_96 : decode cX1_cancelBelow 96 = .ok (.bipush 6, 2) := by decide +kernel
theorem dX1_cancelBelow_98 : decode cX1_cancelBelow 98 = .ok (.invokevirtual 182, 3) := by decide +kernel
theorem dX1_cancelBelow_101 : decode cX1_cancelBelow 101 = .ok (.iinc 3 1, 3) := by decide +kernel
theorem dX1_cancelBelow_104 : decode cX1_cancelBelow 104 = .ok (.iinc 4 (-1), 3) := by decide +kernel
theorem dX1_cancelBelow_107 : decode cX1_cancelBelow 107 = .ok (.goto (-36), 3) := by decide +kernel
theorem dX1_cancelBelow_110 : decode cX1_cancelBelow 110 = .ok (.iload_n 3, 1) := by decide +kernel
theorem dX1_cancelBelow_111 : decode cX1_cancelBelow 111 = .ok (.ireturn, 1) := by decide +kernel
set_option maxRecDepth 20000 in
theorem ggX1_passTick_X1_workerAt : GoodIn wsX1_passTick wsX1_workerAt := goodIn_r _ [8, 9, 10, 205, 206, 207, 208, 209, 210, 211, 212, 213, 214, 215, 216] (by decide +kernel) (by decide +kernel)
set_option maxRecDepth 20000 in
theorem gX1_passTick_X1_workerAt : GoodIn wsX1_passTick (wsV RX1 90 RX1 yX1_workerAt wsX1_workerAt) := goodIn_app (goodIn_of _ (by decide +kernel)) ggX1_passTick_X1_workerAt
set_option maxRecDepth 20000 in
theorem ggX1_passTick_X5_noteRan : GoodIn wsX1_passTick wsX5_noteRan := goodIn_r _ [15, 16, 17, 18, 19, 20, 217, 218, 219, 220, 221, 222] (by decide +kernel) (by decide +kernel)
set_option maxRecDepth 20000 in
theorem gX1_passTick_X5_noteRan : GoodIn wsX1_passTick (wsV RX1 186 RX5 yX5_noteRan wsX5_noteRan) := goodIn_app (goodIn_of _ (by decide +kernel)) ggX1_passTick_X5_noteRan
set_option maxRecDepth 20000 in
theorem ggX1_passTick_X1_act : GoodIn wsX1_passTick wsX1_act := goodIn_r _ [24, 4, 5, 6, 7, 8, 9, 10, 25, 26, 27, 28, 29, 30, 31, 32, 33, 34, 35, 36, 37, 38, 39, 40, 41, 42, 43, 44, 45, 46, 47, 48, 49, 50, 51, 52, 53, 54, 55, 56, 57, 58, 59, 60, 61, 62, 63, 64, 65, 66, 67, 68, 69, 70, 1, 71, 72, 73, 74, 75, 76, 77, 78, 79, 80, 81, 82, 83, 84, 85, 86, 87, 88, 89, 90, 91, 92, 93, 94, 95, 96, 97, 98, 99, 100, 101, 102, 103, 104, 105, 106, 107, 108, 109, 110, 2, 11, 12, 13, 14, 15, 16, 17, 18, 19, 20, 111, 112, 113, 114, 115, 116, 117, 118, 119, 120, 121, 122, 123, 124, 125, 126, 127, 128, 129, 130, 131, 132, 133, 134, 135, 136, 137, 138, 139, 140, 141, 142, 143, 144, 145, 146, 147, 148, 149, 150, 151, 152, 153, 154, 155, 156, 157, 158, 159, 160, 161, 162, 163, 164, 165, 166, 167, 168, 169, 170, 171, 172, 173, 174, 175, 176, 177, 178, 179, 180, 181, 182, 183, 184, 185, 186, 187, 188, 189, 190, 191, 192, 193, 194, 195, 196, 197, 198, 199, 200, 201, 202, 203, 204, 217, 218, 219, 220, 221, 222, 205, 206, 207, 208, 209, 210, 211, 212, 213, 214, 215, 216, 223, 224, 225, 226, 227, 228, 229, 230, 231, 232, 233, 234, 235, 236, 237, 238, 239, 240, 241] (by decide +kernel) (by decide +kernel)
set_option maxRecDepth 20000 in
theorem gX1_passTick_X1_act : GoodIn wsX1_passTick (wsV RX1 191 RX1 yX1_act wsX1_act) := goodIn_app (goodIn_of _ (by decide +kernel)) ggX1_passTick_X1_act
theorem dX1_passTick_0 : decode cX1_passTick 0 = .ok (.iconst 0, 1) := by decide +kernel
theorem dX1_passTick_1 : decode cX1_passTick 1 = .ok (.istore_n 1, 1) := by decide +kernel
theorem dX1_passTick_2 : decode cX1_passTick 2 = .ok (.iload_n 1, 1) := by decide +kernel
theorem dX1_passTick_3 : decode cX1_passTick 3 = .ok (.aload_n 0, 1) := by decide +kernel
theorem dX1_passTick_4 : decode cX1_passTick 4 = .ok (.getfield 57, 3) := by decide +kernel
theorem dX1_passTick_7 : decode cX1_passTick 7 = .ok (.if_icmp .ge 48, 3) := by decide +kernel
theorem dX1_passTick_10 : decode cX1_passTick 10 = .ok (.aload_n 0, 1) := by decide +kernel
theorem dX1_passTick_11 : decode cX1_passTick 11 = .ok (.iload_n 1, 1) := by decide +kernel
theorem dX1_passTick_12 : decode cX1_passTick 12 = .ok (.invokevirtual 90, 3) := by decide +kernel
theorem dX1_passTick_15 : decode cX1_passTick 15 = .ok (.aload_n 0, 1) := by decide +kernel
theorem dX1_passTick_16 : decode cX1_passTick 16 = .ok (.getfield 77, 3) := by decide +kernel
theorem dX1_passTick_19 : decode cX1_passTick 19 = .ok (.iconst (-1), 1) := by decide +kernel
theorem dX1_passTick_20 : decode cX1_passTick 20 = .ok (.invokevirtual 186, 3) := by decide +kernel
theorem dX1_passTick_23 : decode cX1_passTick 23 = .ok (.iconst 1, 1) := by decide +kernel
theorem dX1_passTick_24 : decode cX1_passTick 24 = .ok (.istore_n 2, 1) := by decide +kernel
theorem dX1_passTick_25 : decode cX1_passTick 25 = .ok (.iconst 0, 1) := by decide +kernel
theorem dX1_passTick_26 : decode cX1_passTick 26 = .ok (.istore_n 3, 1) := by decide +kernel
theorem dX1_passTick_27 : decode cX1_passTick 27 = .ok (.iload_n 3, 1) := by decide +kernel
theorem dX1_passTick_28 : decode cX1_passTick 28 = .ok (.ldc 190, 2) := by decide +kernel
theorem dX1_passTick_30 : decode cX1_passTick 30 = .ok (.if_icmp .ge 19, 3) := by decide +kernel
theorem dX1_passTick_33 : decode cX1_passTick 33 = .ok (.iload_n 2, 1) := by decide +kernel
theorem dX1_passTick_34 : decode cX1_passTick 34 = .ok (.ifCond .eq 15, 3) := by decide +kernel
theorem dX1_passTick_37 : decode cX1_passTick 37 = .ok (.aload_n 0, 1) := by decide +kernel
theorem dX1_passTick_38 : decode cX1_passTick 38 = .ok (.iload_n 1, 1) := by decide +kernel
theorem dX1_passTick_39 : decode cX1_passTick 39 = .ok (.invokevirtual 191, 3) := by decide +kernel
theorem dX1_passTick_42 : decode cX1_passTick 42 = .ok (.istore_n 2, 1) := by decide +kernel
theorem dX1_passTick_43 : decode cX1_passTick 43 = .ok (.iinc 3 1, 3) := by decide +kernel
theorem dX1_passTick_46 : decode cX1_passTick 46 = .ok (.goto (-19), 3) := by decide +kernel
theorem dX1_passTick_49 : decode cX1_passTick 49 = .ok (.iinc 1 1, 3) := by decide +kernel
theorem dX1_passTick_52 : decode cX1_passTick 52 = .ok (.goto (-50), 3) := by decide +kernel
theorem dX1_passTick_55 : decode cX1_passTick 55 = .ok (.aload_n 0, 1) := by decide +kernel
theorem dX1_passTick_56 : decode cX1_passTick 56 = .ok (.dup, 1) := by decide +kernel
theorem dX1_passTick_57 : decode cX1_passTick 57 = .ok (.getfield 77, 3) := by decide +kernel
theorem dX1_passTick_60 : decode cX1_passTick 60 = .ok (.iconst 1, 1) := by decide +kernel
theorem dX1_passTick_61 : decode cX1_passTick 61 = .ok (.iadd, 1) := by decide +kernel
theorem dX1_passTick_62 : decode cX1_passTick 62 = .ok (.putfield 77, 3) := by decide +kernel
theorem dX1_passTick_65 : decode cX1_passTick 65 = .ok (.return_, 1) := by decide +kernel
set_option maxRecDepth 20000 in
theorem ggX1_act_X1_workerAt : GoodIn wsX1_act wsX1_workerAt := goodIn_r _ [5, 6, 7, 206, 207, 208, 209, 210, 211, 212, 213, 214, 215, 216, 217] (by decide +kernel) (by decide +kernel)
set_option maxRecDepth 20000 in
theorem gX1_act_X1_workerAt : GoodIn wsX1_act (wsV RX1 90 RX1 yX1_workerAt wsX1_workerAt) := goodIn_app (goodIn_of _ (by decide +kernel)) ggX1_act_X1_workerAt
set_option maxRecDepth 20000 in
theorem ggX1_act_X1_wantsTask : GoodIn wsX1_act wsX1_wantsTask := goodIn_r _ [11, 12, 13, 14, 15, 16, 17, 18, 19, 20, 21, 22, 23, 24, 25, 26, 4, 27, 28, 29, 30, 31, 32, 33, 34, 35, 200, 201, 202, 203, 204, 205, 218, 219, 206, 207, 208, 209, 210, 211, 212, 213, 214, 215, 216, 217, 220, 221, 222, 223, 224, 225, 226, 227, 228, 229, 230] (by decide +kernel) (by decide +kernel)
set_option maxRecDepth 20000 in
theorem gX1_act_X1_wantsTask : GoodIn wsX1_act (wsV RX1 141 RX1 yX1_wantsTask wsX1_wantsTask) := goodIn_app (goodIn_of _ (by decide +kernel)) ggX1_act_X1_wantsTask
set_option maxRecDepth 20000 in
theorem ggX1_act_X1_take : GoodIn wsX1_act wsX1_take := goodIn_r _ [39, 40, 41, 42, 4, 43, 44, 45, 46, 47, 48, 49, 1, 2, 3, 5, 6, 7, 50, 51, 52, 53, 54, 55, 56, 57, 58, 13, 14, 15, 16, 17, 18, 19, 20, 21, 22, 23, 59, 60, 61, 62, 63, 64, 65, 66, 67, 24, 25, 26, 27, 28, 29, 200, 201, 202, 203, 204, 205, 220, 221, 222, 223, 224, 225, 226, 227, 228, 229, 230, 218, 219, 206, 207, 208, 209, 210, 211, 212, 213, 214, 215, 216, 217] (by decide +kernel) (by decide +kernel)
set_option maxRecDepth 20000 in
theorem gX1_act_X1_take : GoodIn wsX1_act (wsV RX1 194 RX1 yX1_take wsX1_take) := goodIn_app (goodIn_of _ (by decide +kernel)) ggX1_act_X1_take
set_option maxRecDepth 20000 in
theorem ggX1_act_X2_last : GoodIn wsX1_act wsX2_last := goodIn_r _ [17, 18, 19, 20, 21, 16, 22, 23, 218, 219] (by decide +kernel) (by decide +kernel)
set_option maxRecDepth 20000 in
theorem gX1_act_X2_last : GoodIn wsX1_act (wsV RX1 149 RX2 yX2_last wsX2_last) := goodIn_app (goodIn_of _ (by decide +kernel)) ggX1_act_X2_last
set_option maxRecDepth 20000 in
theorem ggX1_act_X1_taskAt : GoodIn wsX1_act wsX1_taskAt := goodIn_r _ [27, 28, 29, 206, 207, 208, 209, 210, 211, 212, 213, 214, 215, 216, 217] (by decide +kernel) (by decide +kernel)
set_option maxRecDepth 20000 in
theorem gX1_act_X1_taskAt : GoodIn wsX1_act (wsV RX1 97 RX1 yX1_taskAt wsX1_taskAt) := goodIn_app (goodIn_of _ (by decide +kernel)) ggX1_act_X1_taskAt
set_option maxRecDepth 20000 in
theorem ggX1_act_X4_isBlocked : GoodIn wsX1_act wsX4_isBlocked := goodIn_r _ [34, 35, 220, 221, 222, 223, 224, 225, 226, 227, 228, 229, 230] (by decide +kernel) (by decide +kernel)
set_option maxRecDepth 20000 in
theorem gX1_act_X4_isBlocked : GoodIn wsX1_act (wsV RX1 113 RX4 yX4_isBlocked wsX4_isBlocked) := goodIn_app (goodIn_of _ (by decide +kernel)) ggX1_act_X4_isBlocked
