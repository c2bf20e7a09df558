set_option maxRecDepth 20000 in
theorem ggX0_init_X3_init : GoodIn wsX0_init wsX3_init := goodIn_r _ [10, 11, 2, 3, 12, 13, 14, 18, 19, 20] (by decide +kernel) (by decide +kernel)
set_option maxRecDepth 20000 in
theorem gX0_init_X3_init_n17 : GoodIn wsX0_init (wsX3_init) := ggX0_init_X3_init
theorem dX0_init_0 : decode cX0_init 0 = .ok (.aload_n 0, 1) := by decide +kernel
theorem dX0_init_1 : decode cX0_init 1 = .ok (.invokespecial 3, 3) := by decide +kernel
theorem dX0_init_4 : decode cX0_init 4 = .ok (.aload_n 0, 1) := by decide +kernel
theorem dX0_init_5 : decode cX0_init 5 = .ok (.bipush 8, 2) := by decide +kernel
theorem dX0_init_7 : decode cX0_init 7 = .ok (.anewarray 9, 3) := by decide +kernel
theorem dX0_init_10 : decode cX0_init 10 = .ok (.putfield 11, 3) := by decide +kernel
theorem dX0_init_13 : decode cX0_init 13 = .ok (.aload_n 0, 1) := by decide +kernel
theorem dX0_init_14 : decode cX0_init 14 = .ok (.new 9, 3) := by decide +kernel
theorem dX0_init_17 : decode cX0_init 17 = .ok (.dup, 1) := by decide +kernel
theorem dX0_init_18 : decode cX0_init 18 = .ok (.invokespecial 17, 3) := by decide +kernel
theorem dX0_init_21 : decode cX0_init 21 = .ok (.putfield 18, 3) := by decide +kernel
theorem dX0_init_24 : decode cX0_init 24 = .ok (.iconst 0, 1) := by decide +kernel
theorem dX0_init_25 : decode cX0_init 25 = .ok (.istore_n 1, 1) := by decide +kernel
theorem dX0_init_26 : decode cX0_init 26 = .ok (.iload_n 1, 1) := by decide +kernel
theorem dX0_init_27 : decode cX0_init 27 = .ok (.bipush 8, 2) := by decide +kernel
theorem dX0_init_29 : decode cX0_init 29 = .ok (.if_icmp .ge 22, 3) := by decide +kernel
theorem dX0_init_32 : decode cX0_init 32 = .ok (.aload_n 0, 1) := by decide +kernel
theorem dX0_init_33 : decode cX0_init 33 = .ok (.getfield 11, 3) := by decide +kernel
theorem dX0_init_36 : decode cX0_init 36 = .ok (.iload_n 1, 1) := by decide +kernel
theorem dX0_init_37 : decode cX0_init 37 = .ok (.new 9, 3) := by decide +kernel
theorem dX0_init_40 : decode cX0_init 40 = .ok (.dup, 1) := by decide +kernel
theorem dX0_init_41 : decode cX0_init 41 = .ok (.invokespecial 17, 3) := by decide +kernel
theorem dX0_init_44 : decode cX0_init 44 = .ok (.aastore, 1) := by decide +kernel
theorem dX0_init_45 : decode cX0_init 45 = .ok (.iinc 1 1, 3) := by decide +kernel
theorem dX0_init_48 : decode cX0_init 48 = .ok (.goto (-22), 3) := by decide +kernel
theorem dX0_init_51 : decode cX0_init 51 = .ok (.return_, 1) := by decide +kernel
theorem dX0_append_0 : decode cX0_append 0 = .ok (.aload_n 0, 1) := by decide +kernel
theorem dX0_append_1 : decode cX0_append 1 = .ok (.getfield 22, 3) := by decide +kernel
theorem dX0_append_4 : decode cX0_append 4 = .ok (.istore_n 1, 1) := by decide +kernel
theorem dX0_append_5 : decode cX0_append 5 = .ok (.aload_n 0, 1) := by decide +kernel
theorem dX0_append_6 : decode cX0_append 6 = .ok (.dup, 1) := by decide +kernel
theorem dX0_append_7 : decode cX0_append 7 = .ok (.getfield 22, 3) := by decide +kernel
theorem dX0_append_10 : decode cX0_append 10 = .ok (.iconst 1, 1) := by decide +kernel
theorem dX0_append_11 : decode cX0_append 11 = .ok (.iadd, 1) := by decide +kernel
theorem dX0_append_12 : decode cX0_append 12 = .ok (.putfield 22, 3) := by decide +kernel
theorem dX0_append_15 : decode cX0_append 15 = .ok (.iload_n 1, 1) := by decide +kernel
theorem dX0_append_16 : decode cX0_append 16 = .ok (.ireturn, 1) := by decide +kernel
theorem dX0_scriptAt_0 : decode cX0_scriptAt 0 = .ok (.iload_n 1, 1) := by decide +kernel
theorem dX0_scriptAt_1 : decode cX0_scriptAt 1 = .ok (.ifCond .lt 18, 3) := by decide +kernel
theorem dX0_scriptAt_4 : decode cX0_scriptAt 4 = .ok (.iload_n 1, 1) := by decide +kernel
theorem dX0_scriptAt_5 : decode cX0_scriptAt 5 = .ok (.bipush 8, 2) := by decide +kernel
theorem dX0_scriptAt_7 : decode cX0_scriptAt 7 = .ok (.if_icmp .ge 12, 3) := by decide +kernel
theorem dX0_scriptAt_10 : decode cX0_scriptAt 10 = .ok (.aload_n 0, 1) := by decide +kernel
theorem dX0_scriptAt_11 : decode cX0_scriptAt 11 = .ok (.getfield 11, 3) := by decide +kernel
theorem dX0_scriptAt_14 : decode cX0_scriptAt 14 = .ok (.iload_n 1, 1) := by decide +kernel
theorem dX0_scriptAt_15 : decode cX0_scriptAt 15 = .ok (.aaload, 1) := by decide +kernel
theorem dX0_scriptAt_16 : decode cX0_scriptAt 16 = .ok (.goto 7, 3) := by decide +kernel
theorem dX0_scriptAt_19 : decode cX0_scriptAt 19 = .ok (.aload_n 0, 1) := by decide +kernel
theorem dX0_scriptAt_20 : decode cX0_scriptAt 20 = .ok (.getfield 18, 3) := by decide +kernel
theorem dX0_scriptAt_23 : decode cX0_scriptAt 23 = .ok (.areturn, 1) := by decide +kernel
set_option maxRecDepth 20000 in
theorem ggX1_init_X4_init : GoodIn wsX1_init wsX4_init := goodIn_r _ [23, 24, 2, 3, 25, 86, 87, 88, 89, 90, 91, 92, 93, 94, 95, 96] (by decide +kernel) (by decide +kernel)
set_option maxRecDepth 20000 in
theorem gX1_init_X4_init : GoodIn wsX1_init (wsX4_init) := ggX1_init_X4_init
set_option maxRecDepth 20000 in
theorem ggX1_init_X5_init : GoodIn wsX1_init wsX5_init := goodIn_r _ [27, 28, 2, 3, 29, 15, 16, 30, 31, 18, 32, 33, 34, 35, 36, 103, 104, 97, 98, 99, 100, 101, 102] (by decide +kernel) (by decide +kernel)
set_option maxRecDepth 20000 in
theorem gX1_init_X5_init_n30 : GoodIn wsX1_init (wsX5_init) := ggX1_init_X5_init
set_option maxRecDepth 20000 in
theorem ggX1_init_X2_init : GoodIn wsX1_init wsX2_init := goodIn_r _ [34, 35, 2, 3, 18, 36, 103, 104] (by decide +kernel) (by decide +kernel)
set_option maxRecDepth 20000 in
theorem gX1_init_X2_init_n37 : GoodIn wsX1_init (wsX2_init) := ggX1_init_X2_init
set_option maxRecDepth 20000 in
theorem ggX1_init_X1_clear : GoodIn wsX1_init wsX1_clear := goodIn_r _ [41, 42, 43, 17, 19, 44, 45, 46, 47, 48, 49, 50, 40, 51, 52, 53, 54, 55, 10, 13, 56, 57, 58, 12, 59, 30, 31, 60, 61, 62, 32, 63, 64, 65, 16, 66, 67, 68, 69, 70, 71, 72, 73, 74, 75, 76, 77, 78, 79, 80, 81, 82, 83, 84, 85, 97, 98, 99, 100, 101, 102, 103, 104] (by decide +kernel) (by decide +kernel)
set_option maxRecDepth 20000 in
theorem gX1_init_X1_clear : GoodIn wsX1_init (wsV RX1 50 RX1 yX1_clear wsX1_clear) := goodIn_app (goodIn_of _ (by decide +kernel)) ggX1_init_X1_clear
theorem dX1_init_0 : decode cX1_init 0 = .ok (.aload_n 0, 1) := by decide +kernel
theorem dX1_init_1 : decode cX1_init 1 = .ok (.invokespecial 3, 3) := by decide +kernel
theorem dX1_init_4 : decode cX1_init 4 = .ok (.aload_n 0, 1) := by decide +kernel
theorem dX1_init_5 : decode cX1_init 5 = .ok (.bipush 24, 2) := by decide +kernel
theorem dX1_init_7 : decode cX1_init 7 = .ok (.anewarray 9, 3) := by decide +kernel
theorem dX1_init_10 : decode cX1_init 10 = .ok (.putfield 11, 3) := by decide +kernel
theorem dX1_init_13 : decode cX1_init 13 = .ok (.aload_n 0, 1) := by decide +kernel
theorem dX1_init_14 : decode cX1_init 14 = .ok (.new 9, 3) := by decide +kernel
theorem dX1_init_17 : decode cX1_init 17 = .ok (.dup, 1) := by decide +kernel
theorem dX1_init_18 : decode cX1_init 18 = .ok (.iconst (-1), 1) := by decide +kernel
theorem dX1_init_19 : decode cX1_init 19 = .ok (.invokespecial 17, 3) := by decide +kernel
theorem dX1_init_22 : decode cX1_init 22 = .ok (.putfield 20, 3) := by decide +kernel
theorem dX1_init_25 : decode cX1_init 25 = .ok (.aload_n 0, 1) := by decide +kernel
theorem dX1_init_26 : decode cX1_init 26 = .ok (.iconst 5, 1) := by decide +kernel
theorem dX1_init_27 : decode cX1_init 27 = .ok (.anewarray 24, 3) := by decide +kernel
theorem dX1_init_30 : decode cX1_init 30 = .ok (.putfield 26, 3) := by decide +kernel
theorem dX1_init_33 : decode cX1_init 33 = .ok (.aload_n 0, 1) := by decide +kernel
theorem dX1_init_34 : decode cX1_init 34 = .ok (.new 24, 3) := by decide +kernel
theorem dX1_init_37 : decode cX1_init 37 = .ok (.dup, 1) := by decide +kernel
theorem dX1_init_38 : decode cX1_init 38 = .ok (.invokespecial 30, 3) := by decide +kernel
theorem dX1_init_41 : decode cX1_init 41 = .ok (.putfield 31, 3) := by decide +kernel
theorem dX1_init_44 : decode cX1_init 44 = .ok (.aload_n 0, 1) := by decide +kernel
theorem dX1_init_45 : decode cX1_init 45 = .ok (.new 35, 3) := by decide +kernel
theorem dX1_init_48 : decode cX1_init 48 = .ok (.dup, 1) := by decide +kernel
theorem dX1_init_49 : decode cX1_init 49 = .ok (.invokespecial 37, 3) := by decide +kernel
theorem dX1_init_52 : decode cX1_init 52 = .ok (.putfield 38, 3) := by decide +kernel
theorem dX1_init_55 : decode cX1_init 55 = .ok (.aload_n 0, 1) := by decide +kernel
theorem dX1_init_56 : decode cX1_init 56 = .ok (.bipush 6, 2) := by decide +kernel
theorem dX1_init_58 : decode cX1_init 58 = .ok (.newarray .int, 2) := by decide +kernel
theorem dX1_init_60 : decode cX1_init 60 = .ok (.putfield 42, 3) := by decide +kernel
theorem dX1_init_63 : decode cX1_init 63 = .ok (.aload_n 0, 1) := by decide +kernel
theorem dX1_init_64 : decode cX1_init 64 = .ok (.aload_n 1, 1) := by decide +kernel
theorem dX1_init_65 : decode cX1_init 65 = .ok (.putfield 46, 3) := by decide +kernel
theorem dX1_init_68 : decode cX1_init 68 = .ok (.iconst 0, 1) := by decide +kernel
theorem dX1_init_69 : decode cX1_init 69 = .ok (.istore_n 2, 1) := by decide +kernel
theorem dX1_init_70 : decode cX1_init 70 = .ok (.iload_n 2, 1) := by decide +kernel
theorem dX1_init_71 : decode cX1_init 71 = .ok (.bipush 24, 2) := by decide +kernel
theorem dX1_init_73 : decode cX1_init 73 = .ok (.if_icmp .ge 23, 3) := by decide +kernel
theorem dX1_init_76 : decode cX1_init 76 = .ok (.aload_n 0, 1) := by decide +kernel
theorem dX1_init_77 : decode cX1_init 77 = .ok (.getfield 11, 3) := by decide +kernel
theorem dX1_init_80 : decode cX1_init 80 = .ok (.iload_n 2, 1) := by decide +kernel
theorem dX1_init_81 : decode cX1_init 81 = .ok (.new 9, 3) := by decide +kernel
theorem dX1_init_84 : decode cX1_init 84 = .ok (.dup, 1) := by decide +kernel
theorem dX1_init_85 : decode cX1_init 85 = .ok (.iload_n 2, 1) := by decide +kernel
theorem dX1_init_86 : decode cX1_init 86 = .ok (.invokespecial 17, 3) := by decide +kernel
theorem dX1_init_89 : decode cX1_init 89 = .ok (.aastore, 1) := by decide +kernel
theorem dX1_init_90 : decode cX1_init 90 = .ok (.iinc 2 1, 3) := by decide +kernel
theorem dX1_init_93 : decode cX1_init 93 = .ok (.goto (-23), 3) := by decide +kernel
theorem dX1_init_96 : decode cX1_init 96 = .ok (.iconst 0, 1) := by decide +kernel
theorem dX1_init_97 : decode cX1_init 97 = .ok (.istore_n 2, 1) := by decide +kernel
theorem dX1_init_98 : decode cX1_init 98 = .ok (.iload_n 2, 1) := by decide +kernel
theorem dX1_init_99 : decode cX1_init 99 = .ok (.iconst 5, 1) := by decide +kernel
theorem dX1_init_100 : decode cX1_init 100 = .ok (.if_icmp .ge 22, 3) := by decide +kernel
theorem dX1_init_103 : decode cX1_init 103 = .ok (.aload_n 0, 1) := by decide +kernel
theorem dX1_init_104 : decode cX1_init 104 = .ok (.getfield 26, 3) := by decide +kernel
theorem dX1_init_107 : decode cX1_init 107 = .ok (.iload_n 2, 1) := by decide +kernel
theorem dX1_init_108 : decode cX1_init 108 = .ok (.new 24, 3) := by decide +kernel
theorem dX1_init_111 : decode cX1_init 111 = .ok (.dup, 1) := by decide +kernel
theorem dX1_init_112 : decode cX1_init 112 = .ok (.invokespecial 30, 3) := by decide +kernel
theorem dX1_init_115 : decode cX1_init 115 = .ok (.aastore, 1) := by decide +kernel
theorem dX1_init_116 : decode cX1_init 116 = .ok (.iinc 2 1, 3) := by decide +kernel
theorem dX1_init_119 : decode cX1_init 119 = .ok (.goto (-21), 3) := by decide +kernel
theorem dX1_init_122 : decode cX1_init 122 = .ok (.aload_n 0, 1) := by decide +kernel
theorem dX1_init_123 : decode cX1_init 123 = .ok (.invokevirtual 50, 3) := by decide +kernel
theorem dX1_init_126 : decode cX1_init 126 = .ok (.return_, 1) := by decide +kernel
set_option maxRecDepth 20000 in
theorem ggX1_clear_X1_changeWorkerCount : GoodIn wsX1_clear wsX1_changeWorkerCount := goodIn_r _ [13, 2, 14, 15, 16, 12, 17, 18, 19, 20, 21, 22, 23, 24, 25, 26, 27, 28, 29, 30, 31, 32, 33, 34, 35, 36, 37, 38, 39, 40, 43, 44, 45, 46, 47, 48, 49, 50, 51, 52, 53, 54, 55, 56, 57, 58, 59, 60, 61, 62] (by decide +kernel) (by decide +kernel)
set_option maxRecDepth 20000 in
theorem gX1_clear_X1_changeWorkerCount : GoodIn wsX1_clear (wsV RX1 60 RX1 yX1_changeWorkerCount wsX1_changeWorkerCount) := goodIn_app (goodIn_of _ (by decide +kernel)) ggX1_clear_X1_changeWorkerCount
set_option maxRecDepth 20000 in
theorem ggX1_clear_X2_clear : GoodIn wsX1_clear wsX2_clear := goodIn_r _ [35, 36, 61, 62] (by decide +kernel) (by decide +kernel)
set_option maxRecDepth 20000 in
theorem gX1_clear_X2_clear : GoodIn wsX1_clear (wsV RX1 63 RX2 yX2_clear wsX2_clear) := goodIn_app (goodIn_of _ (by decide +kernel)) ggX1_clear_X2_clear
set_option maxRecDepth 20000 in
theorem ggX1_clear_J7_fill_53178 : GoodIn wsX1_clear wsJ7_fill_53178 := goodIn_r _ [40] (by decide +kernel) (by decide +kernel)
set_option maxRecDepth 20000 in
theorem gX1_clear_J7_fill_53178 : GoodIn wsX1_clear (va_wsS RX1 65 yJ7_fill_53178 wsJ7_fill_53178) := goodIn_app (goodIn_of _ (by decide +kernel)) ggX1_clear_J7_fill_53178
theorem dX1_clear_0 : decode cX1_clear 0 = .ok (.aload_n 0, 1) := by decide +kernel
theorem dX1_clear_1 : decode cX1_clear 1 = .ok (.iconst 0, 1) := by decide +kernel
theorem dX1_clear_2 : decode cX1_clear 2 = .ok (.putfield 53, 3) := by decide +kernel
theorem dX1_clear_5 : decode cX1_clear 5 = .ok (.aload_n 0, 1) := by decide +kernel
theorem dX1_clear_6 : decode cX1_clear 6 = .ok (.iconst 0, 1) := by decide +kernel
theorem dX1_clear_7 : decode cX1_clear 7 = .ok (.putfield 57, 3) := by decide +kernel
theorem dX1_clear_10 : decode cX1_clear 10 = .ok (.aload_n 0, 1) := by decide +kernel
theorem dX1_clear_11 : decode cX1_clear 11 = .ok (.iconst 1, 1) := by decide +kernel
theorem dX1_clear_12 : decode cX1_clear 12 = .ok (.invokevirtual 60, 3) := by decide +kernel
theorem dX1_clear_15 : decode cX1_clear 15 = .ok (.aload_n 0, 1) := by decide +kernel
theorem dX1_clear_16 : decode cX1_clear 16 = .ok (.getfield 38, 3) := by decide +kernel
theorem dX1_clear_19 : decode cX1_clear 19 = .ok (.invokevirtual 63, 3) := by decide +kernel
theorem dX1_clear_22 : decode cX1_clear 22 = .ok (.aload_n 0, 1) := by decide +kernel
theorem dX1_clear_23 : decode cX1_clear 23 = .ok (.getfield 42, 3) := by decide +kernel
theorem dX1_clear_26 : decode cX1_clear 26 = .ok (.ldc 64, 2) := by decide +kernel
theorem dX1_clear_28 : decode cX1_clear 28 = .ok (.invokestatic 65, 3) := by decide +kernel
theorem dX1_clear_31 : decode cX1_clear 31 = .ok (.aload_n 0, 1) := by decide +kernel
theorem dX1_clear_32 : decode cX1_clear 32 = .ok (.iconst 0, 1) := by decide +kernel
theorem dX1_clear_33 : decode cX1_clear 33 = .ok (.putfield 71, 3) := by decide +kernel
theorem dX1_clear_36 : decode cX1_clear 36 = .ok (.aload_n 0, 1) := by decide +kernel
theorem dX1_clear_37 : decode cX1_clear 37 = .ok (.iconst 0, 1) := by decide +kernel
theorem dX1_clear_38 : decode cX1_clear 38 = .ok (.putfield 74, 3) := by decide +kernel
theorem dX1_clear_41 : decode cX1_clear 41 = .ok (.aload_n 0, 1) := by decide +kernel
theorem dX1_clear_42 : decode cX1_clear 42 = .ok (.iconst 0, 1) := by decide +kernel
theorem dX1_clear_43 : decode cX1_clear 43 = .ok (.putfield 77, 3) := by decide +kernel
theorem dX1_clear_46 : decode cX1_clear 46 = .ok (.return_, 1) := by decide +kernel
set_option maxRecDepth 20000 in
theorem ggX1_copyFrom_X4_copyFrom : GoodIn wsX1_copyFrom wsX4_copyFrom := goodIn_r _ [14, 15, 16, 17, 18, 19, 20, 21, 22, 23, 24, 56, 57, 58, 59, 60, 61, 62, 63, 64, 65, 66] (by decide +kernel) (by decide +kernel)
set_option maxRecDepth 20000 in
theorem gX1_copyFrom_X4_copyFrom : GoodIn wsX1_copyFrom (wsV RX1 80 RX4 yX4_copyFrom wsX4_copyFrom) := goodIn_app (goodIn_of _ (by decide +kernel)) ggX1_copyFrom_X4_copyFrom
set_option maxRecDepth 20000 in
theorem ggX1_copyFrom_X5_copyFrom : GoodIn wsX1_copyFrom wsX5_copyFrom := goodIn_r _ [29, 30, 31, 32, 33, 34, 35, 36, 37, 38, 39, 40, 41, 42, 67, 68, 69, 70, 71, 72, 73, 74] (by decide +kernel) (by decide +kernel)
set_option maxRecDepth 20000 in
theorem gX1_copyFrom_X5_copyFrom : GoodIn wsX1_copyFrom (wsV RX1 84 RX5 yX5_copyFrom wsX5_copyFrom) := goodIn_app (goodIn_of _ (by decide +kernel)) ggX1_copyFrom_X5_copyFrom
set_option maxRecDepth 20000 in
theorem ggX1_copyFrom_X2_copyFrom : GoodIn wsX1_copyFrom wsX2_copyFrom := goodIn_r _ [40, 41, 42, 73, 74] (by decide +kernel) (by decide +kernel)
set_option maxRecDepth 20000 in
theorem gX1_copyFrom_X2_copyFrom : GoodIn wsX1_copyFrom (wsV RX1 87 RX2 yX2_copyFrom wsX2_copyFrom) := goodIn_app (goodIn_of _ (by decide +kernel)) ggX1_copyFrom_X2_copyFrom
theorem dX1_copyFrom_0 : decode cX1_copyFrom 0 = .ok (.aload_n 0, 1) := by decide +kernel
theorem dX1_copyFrom_1 : decode cX1_copyFrom 1 = .ok (.aload_n 1, 1) := by decide +kernel
theorem dX1_copyFrom_2 : decode cX1_copyFrom 2 = .ok (.getfield 53, 3) := by decide +kernel
theorem dX1_copyFrom_5 : decode cX1_copyFrom 5 = .ok (.putfield 53, 3) := by decide +kernel
theorem dX1_copyFrom_8 : decode cX1_copyFrom 8 = .ok (.iconst 0, 1) := by decide +kernel
theorem dX1_copyFrom_9 : decode cX1_copyFrom 9 = .ok (.istore_n 2, 1) := by decide +kernel
theorem dX1_copyFrom_10 : decode cX1_copyFrom 10 = .ok (.iload_n 2, 1) := by decide +kernel
theorem dX1_copyFrom_11 : decode cX1_copyFrom 11 = .ok (.bipush 24, 2) := by decide +kernel
theorem dX1_copyFrom_13 : decode cX1_copyFrom 13 = .ok (.if_icmp .ge 24, 3) := by decide +kernel
theorem dX1_copyFrom_16 : decode cX1_copyFrom 16 = .ok (.aload_n 0, 1) := by decide +kernel
theorem dX1_copyFrom_17 : decode cX1_copyFrom 17 = .ok (.getfield 11, 3) := by decide +kernel
theorem dX1_copyFrom_20 : decode cX1_copyFrom 20 = .ok (.iload_n 2, 1) := by decide +kernel
theorem dX1_copyFrom_21 : decode cX1_copyFrom 21 = .ok (.aaload, 1) := by decide +kernel
theorem dX1_copyFrom_22 : decode cX1_copyFrom 22 = .ok (.aload_n 1, 1) := by decide +kernel
theorem dX1_copyFrom_23 : decode cX1_copyFrom 23 = .ok (.getfield 11, 3) := by decide +kernel
theorem dX1_copyFrom_26 : decode cX1_copyFrom 26 = .ok (.iload_n 2, 1) := by decide +kernel
theorem dX1_copyFrom_27 : decode cX1_copyFrom 27 = .ok (.aaload, 1) := by decide +kernel
theorem dX1_copyFrom_28 : decode cX1_copyFrom 28 = .ok (.invokevirtual 80, 3) := by decide +kernel
theorem dX1_copyFrom_31 : decode cX1_copyFrom 31 = .ok (.iinc 2 1, 3) := by decide +kernel
theorem dX1_copyFrom_34 : decode cX1_copyFrom 34 = .ok (.goto (-24), 3) := by decide +kernel
theorem dX1_copyFrom_37 : decode cX1_copyFrom 37 = .ok (.aload_n 0, 1) := by decide +kernel
theorem dX1_copyFrom_38 : decode cX1_copyFrom 38 = .ok (.aload_n 1, 1) := by decide +kernel
theorem dX1_copyFrom_39 : decode cX1_copyFrom 39 = .ok (.getfield 57, 3) := by decide +kernel
theorem dX1_copyFrom_42 : decode cX1_copyFrom 42 = .ok (.putfield 57, 3) := by decide +kernel
theorem dX1_copyFrom_45 : decode cX1_copyFrom 45 = .ok (.iconst 0, 1) := by decide +kernel
theorem dX1_copyFrom_46 : decode cX1_copyFrom 46 = .ok (.istore_n 2, 1) := by decide +kernel
theorem dX1_copyFrom_47 : decode cX1_copyFrom 47 = .ok (.iload_n 2, 1) := by decide +kernel
theorem dX1_copyFrom_48 : decode cX1_copyFrom 48 = .ok (.iconst 5, 1) := by decide +kernel
theorem dX1_copyFrom_49 : decode cX1_copyFrom 49 = .ok (.if_icmp .ge 24, 3) := by decide +kernel
theorem dX1_copyFrom_52 : decode cX1_copyFrom 52 = .ok (.aload_n 0, 1) := by decide +kernel
theorem dX1_copyFrom_53 : decode cX1_copyFrom 53 = .ok (.getfield 26, 3) := by decide +kernel
theorem dX1_copyFrom_56 : decode cX1_copyFrom 56 = .ok (.iload_n 2, 1) := by decide +kernel
theorem dX1_copyFrom_57 : decode cX1_copyFrom 57 = .ok (.aaload, 1) := by decide +kernel
theorem dX1_copyFrom_58 : decode cX1_copyFrom 58 = .ok (.aload_n 1, 1) := by decide +kernel
theorem dX1_copyFrom_59 : decode cX1_copyFrom 59 = .ok (.getfield 26, 3) := by decide +kernel
theorem dX1_copyFrom_62 : decode cX1_copyFrom 62 = .ok (.iload_n 2, 1) := by decide +kernel
theorem dX1_copyFrom_63 : decode cX1_copyFrom 63 = .ok (.aaload, 1) := by decide +kernel
theorem dX1_copyFrom_64 : decode cX1_copyFrom 64 = .ok (.invokevirtual 84, 3) := by decide +kernel
theorem dX1_copyFrom_67 : decode cX1_copyFrom 67 = .ok (.iinc 2 1, 3) := by decide +kernel
theorem dX1_copyFrom_70 : decode cX1_copyFrom 70 = .ok (.goto (-23), 3) := by decide +kernel
theorem dX1_copyFrom_73 : decode cX1_copyFrom 73 = .ok (.aload_n 0, 1) := by decide +kernel
theorem dX1_copyFrom_74 : decode cX1_copyFrom 74 = .ok (.getfield 38, 3) := by decide +kernel
theorem dX1_copyFrom_77 : decode cX1_copyFrom 77 = .ok (.aload_n 1, 1) := by decide +kernel
theorem dX1_copyFrom_78 : decode cX1_copyFrom 78 = .ok (.getfield 38, 3) := by decide +kernel
theorem dX1_copyFrom_81 : decode cX1_copyFrom 81 = .ok (.invokevirtual 87, 3) := by decide +kernel
theorem dX1_copyFrom_84 : decode cX1_copyFrom 84 = .ok (.iconst 0, 1) := by decide +kernel
theorem dX1_copyFrom_85 : decode cX1_copyFrom 85 = .ok (.istore_n 2, 1) := by decide +kernel
theorem dX1_copyFrom_86 : decode cX1_copyFrom 86 = .ok (.iload_n 2, 1) := by decide +kernel
theorem dX1_copyFrom_87 : decode cX1_copyFrom 87 = .ok (.bipush 6, 2) := by decide +kernel
theorem dX1_copyFrom_89 : decode cX1_copyFrom 89 = .ok (.if_icmp .ge 21, 3) := by decide +kernel
theorem dX1_copyFrom_92 : decode cX1_copyFrom 92 = .ok (.aload_n 0, 1) := by decide +kernel
theorem dX1_copyFrom_93 : decode cX1_copyFrom 93 = .ok (.getfield 42, 3) := by decide +kernel
theorem dX1_copyFrom_96 : decode cX1_copyFrom 96 = .ok (.iload_n 2, 1) := by decide +kernel
theorem dX1_copyFrom_97 : decode cX1_copyFrom 97 = .ok (.aload_n 1, 1) := by decide +kernel
theorem dX1_copyFrom_98 : decode cX1_copyFrom 98 = .ok (.getfield 42, 3) := by decide +kernel
theorem dX1_copyFrom_101 : decode cX1_copyFrom 101 = .ok (.iload_n 2, 1) := by decide +kernel
theorem dX1_copyFrom_102 : decode cX1_copyFrom 102 = .ok (.iaload, 1) := by decide +kernel
theorem dX1_copyFrom_103 : decode cX1_copyFrom 103 = .ok (.iastore, 1) := by decide +kernel
theorem dX1_copyFrom_104 : decode cX1_copyFrom 104 = .ok (.iinc 2 1, 3) := by decide +kernel
theorem dX1_copyFrom_107 : decode cX1_copyFrom 107 = .ok (.goto (-21), 3) := by decide +kernel
theorem dX1_copyFrom_110 : decode cX1_copyFrom 110 = .ok (.aload_n 0, 1) := by decide +kernel
theorem dX1_copyFrom_111 : decode cX1_copyFrom 111 = .ok (.aload_n 1, 1) := by decide +kernel
theorem dX1_copyFrom_112 : decode cX1_copyFrom 112 = .ok (.getfield 71, 3) := by decide +kernel
theorem dX1_copyFrom_115 : decode cX1_copyFrom 115 = .ok (.putfield 71, 3) := by decide +kernel
theorem dX1_copyFrom_118 : decode cX1_copyFrom 118 = .ok (.aload_n 0, 1) := by decide +kernel
theorem dX1_copyFrom_119 : decode cX1_copyFrom 119 = .ok (.aload_n 1, 1) := by decide +kernel
theorem dX1_copyFrom_120 : decode cX1_copyFrom 120 = .ok (.getfield 74, 3) := by decide +kernel
theorem dX1_copyFrom_123 : decode cX1_copyFrom 123 = .ok (.putfield 74, 3) := by decide +kernel
theorem dX1_copyFrom_126 : decode cX1_copyFrom 126 = .ok (.aload_n 0, 1) := by decide +kernel
theorem dX1_copyFrom_127 : decode cX1_copyFrom 127 = .ok (.aload_n 1, 1) := by decide +kernel
theorem dX1_copyFrom_128 : decode cX1_copyFrom 128 = .ok (.getfield 77, 3) := by decide +kernel
theorem dX1_copyFrom_131 : decode cX1_copyFrom 131 = .ok (.putfield 77, 3) := by decide +kernel
theorem dX1_copyFrom_134 : decode cX1_copyFrom 134 = .ok (.return_, 1) := by decide +kernel
theorem dX1_taskAt_0 : decode cX1_taskAt 0 = .ok (.iload_n 1, 1) := by decide +kernel
theorem dX1_taskAt_1 : decode cX1_taskAt 1 = .ok (.ifCond .lt 18, 3) := by decide +kernel
theorem dX1_taskAt_4 : decode cX1_taskAt 4 = .ok (.iload_n 1, 1) := by decide +kernel
theorem dX1_taskAt_5 : decode cX1_taskAt 5 = .ok (.bipush 24, 2) := by decide +kernel
theorem dX1_taskAt_7 : decode cX1_taskAt 7 = .ok (.if_icmp .ge 12, 3) := by decide +kernel
theorem dX1_taskAt_10 : decode cX1_taskAt 10 = .ok (.aload_n 0, 1) := by decide +kernel
theorem dX1_taskAt_11 : decode cX1_taskAt 11 = .ok (.getfield 11, 3) := by decide +kernel
theorem dX1_taskAt_14 : decode cX1_taskAt 14 = .ok (.iload_n 1, 1) := by decide +kernel
theorem dX1_taskAt_15 : decode cX1_taskAt 15 = .ok (.aaload, 1) := by decide +kernel
theorem dX1_taskAt_16 : decode cX1_taskAt 16 = .ok (.goto 7, 3) := by decide +kernel
theorem dX1_taskAt_19 : decode cX1_taskAt 19 = .ok (.aload_n 0, 1) := by decide +kernel
theorem dX1_taskAt_20 : decode cX1_taskAt 20 = .ok (.getfield 20, 3) := by decide +kernel
theorem dX1_taskAt_23 : decode cX1_taskAt 23 = .ok (.areturn, 1) := by decide +kernel
theorem dX1_workerAt_0 : decode cX1_workerAt 0 = .ok (.iload_n 1, 1) := by decide +kernel
theorem dX1_workerAt_1 : decode cX1_workerAt 1 = .ok (.ifCond .lt 17, 3) := by decide +kernel
theorem dX1_workerAt_4 : decode cX1_workerAt 4 = .ok (.iload_n 1, 1) := by decide +kernel
theorem dX1_workerAt_5 : decode cX1_workerAt 5 = .ok (.iconst 5, 1) := by decide +kernel
theorem dX1_workerAt_6 : decode cX1_workerAt 6 = .ok (.if_icmp .ge 12, 3) := by decide +kernel
theorem dX1_workerAt_9 : decode cX1_workerAt 9 = .ok (.aload_n 0, 1) := by decide +kernel
theorem dX1_workerAt_10 : decode cX1_workerAt 10 = .ok (.getfield 26, 3) := by decide +kernel
theorem dX1_workerAt_13 : decode cX1_workerAt 13 = .ok (.iload_n 1, 1) := by decide +kernel
theorem dX1_workerAt_14 : decode cX1_workerAt 14 = .ok (.aaload, 1) := by decide +kernel
theorem dX1_workerAt_15 : decode cX1_workerAt 15 = .ok (.goto 7, 3) := by decide +kernel
theorem dX1_workerAt_18 : decode cX1_workerAt 18 = .ok (.aload_n 0, 1) := by decide +kernel
theorem dX1_workerAt_19 : decode cX1_workerAt 19 = .ok (.getfield 31, 3) := by decide +kernel
theorem dX1_workerAt_22 : decode cX1_workerAt 22 = .ok (.areturn, 1) := by decide +kernel
set_option maxRecDepth 20000 in
theorem ggX1_rowOf_X1_workerAt : GoodIn wsX1_rowOf wsX1_workerAt := goodIn_r _ [6, 7, 8, 9, 10, 11, 12, 13, 14, 15, 16, 17, 18, 19, 20] (by decide +kernel) (by decide +kernel)
set_option maxRecDepth 20000 in
theorem gX1_rowOf_X1_workerAt : GoodIn wsX1_rowOf (wsV RX1 90 RX1 yX1_workerAt wsX1_workerAt) := goodIn_app (goodIn_of _ (by decide +kernel)) ggX1_rowOf_X1_workerAt
theorem dX1_rowOf_0 : decode cX1_rowOf 0 = .ok (.iload_n 1, 1) := by decide +kernel
theorem dX1_rowOf_1 : decode cX1_rowOf 1 = .ok (.iconst (-1), 1) := by decide +kernel
theorem dX1_rowOf_2 : decode cX1_rowOf 2 = .ok (.if_icmp .ne 10, 3) := by decide +kernel
theorem dX1_rowOf_5 : decode cX1_rowOf 5 = .ok (.aload_n 0, 1) := by decide +kernel
theorem dX1_rowOf_6 : decode cX1_rowOf 6 = .ok (.getfield 38, 3) := by decide +kernel
theorem dX1_rowOf_9 : decode cX1_rowOf 9 = .ok (.goto 11, 3) := by decide +kernel
theorem dX1_rowOf_12 : decode cX1_rowOf 12 = .ok (.aload_n 0, 1) := by decide +kernel
theorem dX1_rowOf_13 : decode cX1_rowOf 13 = .ok (.iload_n 1, 1) := by decide +kernel
theorem dX1_rowOf_14 : decode cX1_rowOf 14 = .ok (.invokevirtual 90, 3) := by decide +kernel
theorem dX1_rowOf_17 : decode cX1_rowOf 17 = .ok (.getfield 94, 3) := by decide +kernel
theorem dX1_rowOf_20 : decode cX1_rowOf 20 = .ok (.areturn, 1) := by decide +kernel
theorem dX1_promiseAt_0 : decode cX1_promiseAt 0 = .ok (.iload_n 1, 1) := by decide +kernel
theorem dX1_promiseAt_1 : decode cX1_promiseAt 1 = .ok (.ifCond .lt 18, 3) := by decide +kernel
theorem dX1_promiseAt_4 : decode cX1_promiseAt 4 = .ok (.iload_n 1, 1) := by decide +kernel
theorem dX1_promiseAt_5 : decode cX1_promiseAt 5 = .ok (.bipush 6, 2) := by decide +kernel
theorem dX1_promiseAt_7 : decode cX1_promiseAt 7 = .ok (.if_icmp .ge 12, 3) := by decide +kernel
theorem dX1_promiseAt_10 : decode cX1_promiseAt 10 = .ok (.aload_n 0, 1) := by decide +kernel
theorem dX1_promiseAt_11 : decode cX1_promiseAt 11 = .ok (.getfield 42, 3) := by decide +kernel
theorem dX1_promiseAt_14 : decode cX1_promiseAt 14 = .ok (.iload_n 1, 1) := by decide +kernel
theorem dX1_promiseAt_15 : decode cX1_promiseAt 15 = .ok (.iaload, 1) := by decide +kernel
theorem dX1_promiseAt_16 : decode cX1_promiseAt 16 = .ok (.goto 5, 3) := by decide +kernel
theorem dX1_promiseAt_19 : decode cX1_promiseAt 19 = .ok (.ldc 64, 2) := by decide +kernel
theorem dX1_promiseAt_21 : decode cX1_promiseAt 21 = .ok (.ireturn, 1) := by decide +kernel
set_option maxRecDepth 20000 in
theorem ggX1_hasTaskOf_X1_taskAt : GoodIn wsX1_hasTaskOf wsX1_taskAt := goodIn_r _ [6, 7, 8, 9, 10, 11, 12, 13, 14, 15, 16, 17, 18, 19, 20] (by decide +kernel) (by decide +kernel)
set_option maxRecDepth 20000 in
theorem gX1_hasTaskOf_X1_taskAt : GoodIn wsX1_hasTaskOf (wsV RX1 97 RX1 yX1_taskAt wsX1_taskAt) := goodIn_app (goodIn_of _ (by decide +kernel)) ggX1_hasTaskOf_X1_taskAt
theorem dX1_hasTaskOf_0 : decode cX1_hasTaskOf 0 = .ok (.iconst 0, 1) := by decide +kernel
theorem dX1_hasTaskOf_1 : decode cX1_hasTaskOf 1 = .ok (.istore_n 2, 1) := by decide +kernel
theorem dX1_hasTaskOf_2 : decode cX1_hasTaskOf 2 = .ok (.iload_n 2, 1) := by decide +kernel
theorem dX1_hasTaskOf_3 : decode cX1_hasTaskOf 3 = .ok (.aload_n 0, 1) := by decide +kernel
theorem dX1_hasTaskOf_4 : decode cX1_hasTaskOf 4 = .ok (.getfield 53, 3) := by decide +kernel
theorem dX1_hasTaskOf_7 : decode cX1_hasTaskOf 7 = .ok (.if_icmp .ge 23, 3) := by decide +kernel
theorem dX1_hasTaskOf_10 : decode cX1_hasTaskOf 10 = .ok (.aload_n 0, 1) := by decide +kernel
theorem dX1_hasTaskOf_11 : decode cX1_hasTaskOf 11 = .ok (.iload_n 2, 1) := by decide +kernel
theorem dX1_hasTaskOf_12 : decode cX1_hasTaskOf 12 = .ok (.invokevirtual 97, 3) := by decide +kernel
theorem dX1_hasTaskOf_15 : decode cX1_hasTaskOf 15 = .ok (.getfield 101, 3) := by decide +kernel
theorem dX1_hasTaskOf_18 : decode cX1_hasTaskOf 18 = .ok (.iload_n 1, 1) := by decide +kernel
theorem dX1_hasTaskOf_19 : decode cX1_hasTaskOf 19 = .ok (.if_icmp .ne 5, 3) := by decide +kernel
theorem dX1_hasTaskOf_22 : decode cX1_hasTaskOf 22 = .ok (.iconst 1, 1) := by decide +kernel
theorem dX1_hasTaskOf_23 : decode cX1_hasTaskOf 23 = .ok (.ireturn, 1) := by decide +kernel
theorem dX1_hasTaskOf_24 : decode cX1_hasTaskOf 24 = .ok (.iinc 2 1, 3) := by decide +kernel
theorem dX1_hasTaskOf_27 : decode cX1_hasTaskOf 27 = .ok (.goto (-25), 3) := by decide +kernel
theorem dX1_hasTaskOf_30 : decode cX1_hasTaskOf 30 = .ok (.iconst 0, 1) := by decide +kernel
theorem dX1_hasTaskOf_31 : decode cX1_hasTaskOf 31 = .ok (.ireturn, 1) := by decide +kernel
set_option maxRecDepth 20000 in
theorem ggX1_hasTaskIn_X1_taskAt : GoodIn wsX1_hasTaskIn wsX1_taskAt := goodIn_r _ [6, 7, 8, 9, 10, 11, 12, 13, 14, 15, 16, 17, 18, 19, 20] (by decide +kernel) (by decide +kernel)
set_option maxRecDepth 20000 in
theorem gX1_hasTaskIn_X1_taskAt : GoodIn wsX1_hasTaskIn (wsV RX1 97 RX1 yX1_taskAt wsX1_taskAt) := goodIn_app (goodIn_of _ (by decide +kernel)) ggX1_hasTaskIn_X1_taskAt
theorem dX1_hasTaskIn_0 : decode cX1_hasTaskIn 0 = .ok (.iconst 0, 1) := by decide +kernel
theorem dX1_hasTaskIn_1 : decode cX1_hasTaskIn 1 = .ok (.istore_n 2, 1) := by decide +kernel
theorem dX1_hasTaskIn_2 : decode cX1_hasTaskIn 2 = .ok (.iload_n 2, 1) := by decide +kernel
theorem dX1_hasTaskIn_3 : decode cX1_hasTaskIn 3 = .ok (.aload_n 0, 1) := by decide +kernel
theorem dX1_hasTaskIn_4 : decode cX1_hasTaskIn 4 = .ok (.getfield 53, 3) := by decide +kernel
theorem dX1_hasTaskIn_7 : decode cX1_hasTaskIn 7 = .ok (.if_icmp .ge 23, 3) := by decide +kernel
theorem dX1_hasTaskIn_10 : decode cX1_hasTaskIn 10 = .ok (.aload_n 0, 1) := by decide +kernel
theorem dX1_hasTaskIn_11 : decode cX1_hasTaskIn 11 = .ok (.iload_n 2, 1) := by decide +kernel
theorem dX1_hasTaskIn_12 : decode cX1_hasTaskIn 12 = .ok (.invokevirtual 97, 3) := by decide +kernel
theorem dX1_hasTaskIn_15 : decode cX1_hasTaskIn 15 = .ok (.getfield 104, 3) := by decide +kernel
theorem dX1_hasTaskIn_18 : decode cX1_hasTaskIn 18 = .ok (.iload_n 1, 1) := by decide +kernel
theorem dX1_hasTaskIn_19 : decode cX1_hasTaskIn 19 = .ok (.if_icmp .ne 5, 3) := by decide +kernel
theorem dX1_hasTaskIn_22 : decode cX1_hasTaskIn 22 = .ok (.iconst 1, 1) := by decide +kernel
theorem dX1_hasTaskIn_23 : decode cX1_hasTaskIn 23 = .ok (.ireturn, 1) := by decide +kernel
theorem dX1_hasTaskIn_24 : decode cX1_hasTaskIn 24 = .ok (.iinc 2 1, 3) := by decide +kernel
theorem dX1_hasTaskIn_27 : decode cX1_hasTaskIn 27 = .ok (.goto (-25), 3) := by decide +kernel
theorem dX1_hasTaskIn_30 : decode cX1_hasTaskIn 30 = .ok (.iconst 0, 1) := by decide +kernel
theorem dX1_hasTaskIn_31 : decode cX1_hasTaskIn 31 = .ok (.ireturn, 1) := by decide +kernel
set_option maxRecDepth 20000 in
theorem ggX1_hasStackedTask_X1_workerAt : GoodIn wsX1_hasStackedTask wsX1_workerAt := goodIn_r _ [6, 7, 8, 9, 10, 11, 12, 13, 14, 15, 16, 17, 18, 19, 20] (by decide +kernel) (by decide +kernel)
set_option maxRecDepth 20000 in
theorem gX1_hasStackedTask_X1_workerAt : GoodIn wsX1_hasStackedTask (wsV RX1 90 RX1 yX1_workerAt wsX1_workerAt) := goodIn_app (goodIn_of _ (by decide +kernel)) ggX1_hasStackedTask_X1_workerAt
theorem dX1_hasStackedTask_0 : decode cX1_hasStackedTask 0 = .ok (.iconst 0, 1) := by decide +kernel
theorem dX1_hasStackedTask_1 : decode cX1_hasStackedTask 1 = .ok (.istore_n 1, 1) := by decide +kernel
theorem dX1_hasStackedTask_2 : decode cX1_hasStackedTask 2 = .ok (.iload_n 1, 1) := by decide +kernel
theorem dX1_hasStackedTask_3 : decode cX1_hasStackedTask 3 = .ok (.aload_n 0, 1) := by decide +kernel
theorem dX1_hasStackedTask_4 : decode cX1_hasStackedTask 4 = .ok (.getfield 57, 3) := by decide +kernel
theorem dX1_hasStackedTask_7 : decode cX1_hasStackedTask 7 = .ok (.if_icmp .ge 25, 3) := by decide +kernel
theorem dX1_hasStackedTask_10 : decode cX1_hasStackedTask 10 = .ok (.aload_n 0, 1) := by decide +kernel
theorem dX1_hasStackedTask_11 : decode cX1_hasStackedTask 11 = .ok (.iload_n 1, 1) := by decide +kernel
theorem dX1_hasStackedTask_12 : decode cX1_hasStackedTask 12 = .ok (.invokevirtual 90, 3) := by decide +kernel
theorem dX1_hasStackedTask_15 : decode cX1_hasStackedTask 15 = .ok (.getfield 107, 3) := by decide +kernel
theorem dX1_hasStackedTask_18 : decode cX1_hasStackedTask 18 = .ok (.getfield 110, 3) := by decide +kernel
theorem dX1_hasStackedTask_21 : decode cX1_hasStackedTask 21 = .ok (.ifCond .le 5, 3) := by decide +kernel
theorem dX1_hasStackedTask_24 : decode cX1_hasStackedTask 24 = .ok (.iconst 1, 1) := by decide +kernel
theorem dX1_hasStackedTask_25 : decode cX1_hasStackedTask 25 = .ok (.ireturn, 1) := by decide +kernel
theorem dX1_hasStackedTask_26 : decode cX1_hasStackedTask 26 = .ok (.iinc 1 1, 3) := by decide +kernel
theorem dX1_hasStackedTask_29 : decode cX1_hasStackedTask 29 = .ok (.goto (-27), 3) := by decide +kernel
theorem dX1_hasStackedTask_32 : decode cX1_hasStackedTask 32 = .ok (.iconst 0, 1) := by decide +kernel
theorem dX1_hasStackedTask_33 : decode cX1_hasStackedTask 33 = .ok (.ireturn, 1) := by decide +kernel
set_option maxRecDepth 20000 in
theorem ggX1_needsWorkerFrom_X1_workerAt : GoodIn wsX1_needsWorkerFrom wsX1_workerAt := goodIn_r _ [7, 8, 9, 22, 23, 24, 25, 26, 27, 28, 29, 30, 31, 32, 33] (by decide +kernel) (by decide +kernel)
set_option maxRecDepth 20000 in
theorem gX1_needsWorkerFrom_X1_workerAt : GoodIn wsX1_needsWorkerFrom (wsV RX1 90 RX1 yX1_workerAt wsX1_workerAt) := goodIn_app (goodIn_of _ (by decide +kernel)) ggX1_needsWorkerFrom_X1_workerAt
set_option maxRecDepth 20000 in
theorem ggX1_needsWorkerFrom_X1_taskAt : GoodIn wsX1_needsWorkerFrom wsX1_taskAt := goodIn_r _ [13, 14, 15, 22, 23, 24, 25, 26, 27, 28, 29, 30, 31, 32, 33] (by decide +kernel) (by decide +kernel)
set_option maxRecDepth 20000 in
theorem gX1_needsWorkerFrom_X1_taskAt : GoodIn wsX1_needsWorkerFrom (wsV RX1 97 RX1 yX1_taskAt wsX1_taskAt) := goodIn_app (goodIn_of _ (by decide +kernel)) ggX1_needsWorkerFrom_X1_taskAt
set_option maxRecDepth 20000 in
theorem ggX1_needsWorkerFrom_X4_isBlocked : GoodIn wsX1_needsWorkerFrom wsX4_isBlocked := goodIn_r _ [20, 21, 42, 43, 44, 45, 46, 47, 48, 49, 50, 51, 52] (by decide +kernel) (by decide +kernel)
set_option maxRecDepth 20000 in
theorem gX1_needsWorkerFrom_X4_isBlocked : GoodIn wsX1_needsWorkerFrom (wsV RX1 113 RX4 yX4_isBlocked wsX4_isBlocked) := goodIn_app (goodIn_of _ (by decide +kernel)) ggX1_needsWorkerFrom_X4_isBlocked
theorem dX1_needsWorkerFrom_0 : decode cX1_needsWorkerFrom 0 = .ok (.iload_n 1, 1) := by decide +kernel
theorem dX1_needsWorkerFrom_1 : decode cX1_needsWorkerFrom 1 = .ok (.istore_n 2, 1) := by decide +kernel
theorem dX1_needsWorkerFrom_2 : decode cX1_needsWorkerFrom 2 = .ok (.iload_n 2, 1) := by decide +kernel
theorem dX1_needsWorkerFrom_3 : decode cX1_needsWorkerFrom 3 = .ok (.aload_n 0, 1) := by decide +kernel
theorem dX1_needsWorkerFrom_4 : decode cX1_needsWorkerFrom 4 = .ok (.getfield 57, 3) := by decide +kernel
theorem dX1_needsWorkerFrom_7 : decode cX1_needsWorkerFrom 7 = .ok (.if_icmp .ge 37, 3) := by decide +kernel
theorem dX1_needsWorkerFrom_10 : decode cX1_needsWorkerFrom 10 = .ok (.aload_n 0, 1) := by decide +kernel
theorem dX1_needsWorkerFrom_11 : decode cX1_needsWorkerFrom 11 = .ok (.iload_n 2, 1) := by decide +kernel
theorem dX1_needsWorkerFrom_12 : decode cX1_needsWorkerFrom 12 = .ok (.invokevirtual 90, 3) := by decide +kernel
theorem dX1_needsWorkerFrom_15 : decode cX1_needsWorkerFrom 15 = .ok (.astore_n 3, 1) := by decide +kernel
theorem dX1_needsWorkerFrom_16 : decode cX1_needsWorkerFrom 16 = .ok (.aload_n 3, 1) := by decide +kernel
theorem dX1_needsWorkerFrom_17 : decode cX1_needsWorkerFrom 17 = .ok (.getfield 94, 3) := by decide +kernel
theorem dX1_needsWorkerFrom_20 : decode cX1_needsWorkerFrom 20 = .ok (.getfield 110, 3) := by decide +kernel
theorem dX1_needsWorkerFrom_23 : decode cX1_needsWorkerFrom 23 = .ok (.ifCond .gt 13, 3) := by decide +kernel
theorem dX1_needsWorkerFrom_26 : decode cX1_needsWorkerFrom 26 = .ok (.aload_n 3, 1) := by decide +kernel
theorem dX1_needsWorkerFrom_27 : decode cX1_needsWorkerFrom 27 = .ok (.getfield 107, 3) := by decide +kernel
theorem dX1_needsWorkerFrom_30 : decode cX1_needsWorkerFrom 30 = .ok (.getfield 110, 3) := by decide +kernel
theorem dX1_needsWorkerFrom_33 : decode cX1_needsWorkerFrom 33 = .ok (.ifCond .le 5, 3) := by decide +kernel
theorem dX1_needsWorkerFrom_36 : decode cX1_needsWorkerFrom 36 = .ok (.iconst 1, 1) := by decide +kernel
theorem dX1_needsWorkerFrom_37 : decode cX1_needsWorkerFrom 37 = .ok (.ireturn, 1) := by decide +kernel
theorem dX1_needsWorkerFrom_38 : decode cX1_needsWorkerFrom 38 = .ok (.iinc 2 1, 3) := by decide +kernel
theorem dX1_needsWorkerFrom_41 : decode cX1_needsWorkerFrom 41 = .ok (.goto (-39), 3) := by decide +kernel
theorem dX1_needsWorkerFrom_44 : decode cX1_needsWorkerFrom 44 = .ok (.iconst 0, 1) := by decide +kernel
theorem dX1_needsWorkerFrom_45 : decode cX1_needsWorkerFrom 45 = .ok (.istore_n 2, 1) := by decide +kernel
theorem dX1_needsWorkerFrom_46 : decode cX1_needsWorkerFrom 46 = .ok (.iload_n 2, 1) := by decide +kernel
theorem dX1_needsWorkerFrom_47 : decode cX1_needsWorkerFrom 47 = .ok (.aload_n 0, 1) := by decide +kernel
theorem dX1_needsWorkerFrom_48 : decode cX1_needsWorkerFrom 48 = .ok (.getfield 53, 3) := by decide +kernel
theorem dX1_needsWorkerFrom_51 : decode cX1_needsWorkerFrom 51 = .ok (.if_icmp .ge 32, 3) := by decide +kernel
theorem dX1_needsWorkerFrom_54 : decode cX1_needsWorkerFrom 54 = .ok (.aload_n 0, 1) := by decide +kernel
theorem dX1_needsWorkerFrom_55 : decode cX1_needsWorkerFrom 55 = .ok (.iload_n 2, 1) := by decide +kernel
theorem dX1_needsWorkerFrom_56 : decode cX1_needsWorkerFrom 56 = .ok (.invokevirtual 97, 3) := by decide +kernel
theorem dX1_needsWorkerFrom_59 : decode cX1_needsWorkerFrom 59 = .ok (.astore_n 3, 1) := by decide +kernel
theorem dX1_needsWorkerFrom_60 : decode cX1_needsWorkerFrom 60 = .ok (.aload_n 3, 1) := by decide +kernel
theorem dX1_needsWorkerFrom_61 : decode cX1_needsWorkerFrom 61 = .ok (.invokevirtual 113, 3) := by decide +kernel
theorem dX1_needsWorkerFrom_64 : decode cX1_needsWorkerFrom 64 = .ok (.ifCond .eq 13, 3) := by decide +kernel
theorem dX1_needsWorkerFrom_67 : decode cX1_needsWorkerFrom 67 = .ok (.aload_n 3, 1) := by decide +kernel
theorem dX1_needsWorkerFrom_68 : decode cX1_needsWorkerFrom 68 = .ok (.getfield 117, 3) := by decide +kernel
theorem dX1_needsWorkerFrom_71 : decode cX1_needsWorkerFrom 71 = .ok (.iload_n 1, 1) := by decide +kernel
theorem dX1_needsWorkerFrom_72 : decode cX1_needsWorkerFrom 72 = .ok (.if_icmp .lt 5, 3) := by decide +kernel
theorem dX1_needsWorkerFrom_75 : decode cX1_needsWorkerFrom 75 = .ok (.iconst 1, 1) := by decide +kernel
theorem dX1_needsWorkerFrom_76 : decode cX1_needsWorkerFrom 76 = .ok (.ireturn, 1) := by decide +kernel
theorem dX1_needsWorkerFrom_77 : decode cX1_needsWorkerFrom 77 = .ok (.iinc 2 1, 3) := by decide +kernel
theorem dX1_needsWorkerFrom_80 : decode cX1_needsWorkerFrom 80 = .ok (.goto (-34), 3) := by decide +kernel
theorem dX1_needsWorkerFrom_83 : decode cX1_needsWorkerFrom 83 = .ok (.iconst 0, 1) := by decide +kernel
theorem dX1_needsWorkerFrom_84 : decode cX1_needsWorkerFrom 84 = .ok (.ireturn, 1) := by decide +kernel
set_option maxRecDepth 20000 in
theorem ggX1_countUnfinished_X1_taskAt : GoodIn wsX1_countUnfinished wsX1_taskAt := goodIn_r _ [6, 7, 8, 15, 16, 17, 18, 19, 20, 21, 22, 23, 24, 25, 26] (by decide +kernel) (by decide +kernel)
set_option maxRecDepth 20000 in
theorem gX1_countUnfinished_X1_taskAt : GoodIn wsX1_countUnfinished (wsV RX1 97 RX1 yX1_taskAt wsX1_taskAt) := goodIn_app (goodIn_of _ (by decide +kernel)) ggX1_countUnfinished_X1_taskAt
set_option maxRecDepth 20000 in
theorem ggX1_countUnfinished_X4_isOver : GoodIn wsX1_countUnfinished wsX4_isOver := goodIn_r _ [13, 14, 27, 28, 29, 30, 31, 32, 33, 34, 35, 36, 37] (by decide +kernel) (by decide +kernel)
set_option maxRecDepth 20000 in
theorem gX1_countUnfinished_X4_isOver : GoodIn wsX1_countUnfinished (wsV RX1 120 RX4 yX4_isOver wsX4_isOver) := goodIn_app (goodIn_of _ (by decide +kernel)) ggX1_countUnfinished_X4_isOver
theorem dX1_countUnfinished_0 : decode cX1_countUnfinished 0 = .ok (.iconst 0, 1) := by decide +kernel
theorem dX1_countUnfinished_1 : decode cX1_countUnfinished 1 = .ok (.istore_n 1, 1) := by decide +kernel
theorem dX1_countUnfinished_2 : decode cX1_countUnfinished 2 = .ok (.iconst 0, 1) := by decide +kernel
theorem dX1_countUnfinished_3 : decode cX1_countUnfinished 3 = .ok (.istore_n 2, 1) := by decide +kernel
theorem dX1_countUnfinished_4 : decode cX1_countUnfinished 4 = .ok (.iload_n 2, 1) := by decide +kernel
theorem dX1_countUnfinished_5 : decode cX1_countUnfinished 5 = .ok (.aload_n 0, 1) := by decide +kernel
theorem dX1_countUnfinished_6 : decode cX1_countUnfinished 6 = .ok (.getfield 53, 3) := by decide +kernel
theorem dX1_countUnfinished_9 : decode cX1_countUnfinished 9 = .ok (.if_icmp .ge 23, 3) := by decide +kernel
theorem dX1_countUnfinished_12 : decode cX1_countUnfinished 12 = .ok (.aload_n 0, 1) := by decide +kernel
theorem dX1_countUnfinished_13 : decode cX1_countUnfinished 13 = .ok (.iload_n 2, 1) := by decide +kernel
theorem dX1_countUnfinished_14 : decode cX1_countUnfinished 14 = .ok (.invokevirtual 97, 3) := by decide +kernel
theorem dX1_countUnfinished_17 : decode cX1_countUnfinished 17 = .ok (.invokevirtual 120, 3) := by decide +kernel
theorem dX1_countUnfinished_20 : decode cX1_countUnfinished 20 = .ok (.ifCond .ne 6, 3) := by decide +kernel
theorem dX1_countUnfinished_23 : decode cX1_countUnfinished 23 = .ok (.iinc 1 1, 3) := by decide +kernel
theorem dX1_countUnfinished_26 : decode cX1_countUnfinished 26 = .ok (.iinc 2 1, 3) := by decide +kernel
theorem dX1_countUnfinished_29 : decode cX1_countUnfinished 29 = .ok (.goto (-25), 3) := by decide +kernel
theorem dX1_countUnfinished_32 : decode cX1_countUnfinished 32 = .ok (.iload_n 1, 1) := by decide +kernel
theorem dX1_countUnfinished_33 : decode cX1_countUnfinished 33 = .ok (.ireturn, 1) := by decide +kernel
set_option maxRecDepth 20000 in
theorem ggX1_sumWork_X1_taskAt : GoodIn wsX1_sumWork wsX1_taskAt := goodIn_r _ [6, 7, 8, 23, 24, 25, 26, 27, 28, 29, 30, 31, 32, 33, 34] (by decide +kernel) (by decide +kernel)
set_option maxRecDepth 20000 in
theorem gX1_sumWork_X1_taskAt : GoodIn wsX1_sumWork (wsV RX1 97 RX1 yX1_taskAt wsX1_taskAt) := goodIn_app (goodIn_of _ (by decide +kernel)) ggX1_sumWork_X1_taskAt
set_option maxRecDepth 20000 in
theorem ggX1_sumWork_X1_isIn : GoodIn wsX1_sumWork wsX1_isIn := goodIn_r _ [11] (by decide +kernel) (by decide +kernel)
set_option maxRecDepth 20000 in
theorem gX1_sumWork_X1_isIn : GoodIn wsX1_sumWork (va_wsS RX1 129 yX1_isIn wsX1_isIn) := goodIn_app (goodIn_of _ (by decide +kernel)) ggX1_sumWork_X1_isIn
theorem dX1_sumWork_0 : decode cX1_sumWork 0 = .ok (.iconst 1, 1) := by decide +kernel
theorem dX1_sumWork_1 : decode cX1_sumWork 1 = .ok (.iload_n 1, 1) := by decide +kernel
theorem dX1_sumWork_2 : decode cX1_sumWork 2 = .ok (.ishl, 1) := by decide +kernel
theorem dX1_sumWork_3 : decode cX1_sumWork 3 = .ok (.istore_n 2, 1) := by decide +kernel
theorem dX1_sumWork_4 : decode cX1_sumWork 4 = .ok (.aload_n 0, 1) := by decide +kernel
theorem dX1_sumWork_5 : decode cX1_sumWork 5 = .ok (.iload_n 1, 1) := by decide +kernel
theorem dX1_sumWork_6 : decode cX1_sumWork 6 = .ok (.invokevirtual 97, 3) := by decide +kernel
theorem dX1_sumWork_9 : decode cX1_sumWork 9 = .ok (.getfield 123, 3) := by decide +kernel
theorem dX1_sumWork_12 : decode cX1_sumWork 12 = .ok (.istore_n 3, 1) := by decide +kernel
theorem dX1_sumWork_13 : decode cX1_sumWork 13 = .ok (.iload_n 1, 1) := by decide +kernel
theorem dX1_sumWork_14 : decode cX1_sumWork 14 = .ok (.iconst 1, 1) := by decide +kernel
theorem dX1_sumWork_15 : decode cX1_sumWork 15 = .ok (.iadd, 1) := by decide +kernel
theorem dX1_sumWork_16 : decode cX1_sumWork 16 = .ok (.istore 4, 2) := by decide +kernel
theorem dX1_sumWork_18 : decode cX1_sumWork 18 = .ok (.iload 4, 2) := by decide +kernel
theorem dX1_sumWork_20 : decode cX1_sumWork 20 = .ok (.aload_n 0, 1) := by decide +kernel
theorem dX1_sumWork_21 : decode cX1_sumWork 21 = .ok (.getfield 53, 3) := by decide +kernel
theorem dX1_sumWork_24 : decode cX1_sumWork 24 = .ok (.if_icmp .ge 44, 3) := by decide +kernel
theorem dX1_sumWork_27 : decode cX1_sumWork 27 = .ok (.aload_n 0, 1) := by decide +kernel
theorem dX1_sumWork_28 : decode cX1_sumWork 28 = .ok (.iload 4, 2) := by decide +kernel
theorem dX1_sumWork_30 : decode cX1_sumWork 30 = .ok (.invokevirtual 97, 3) := by decide +kernel
theorem dX1_sumWork_33 : decode cX1_sumWork 33 = .ok (.astore 5, 2) := by decide +kernel
theorem dX1_sumWork_35 : decode cX1_sumWork 35 = .ok (.iload_n 2, 1) := by decide +kernel
theorem dX1_sumWork_36 : decode cX1_sumWork 36 = .ok (.aload 5, 2) := by decide +kernel
theorem dX1_sumWork_38 : decode cX1_sumWork 38 = .ok (.getfield 126, 3) := by decide +kernel
theorem dX1_sumWork_41 : decode cX1_sumWork 41 = .ok (.invokestatic 129, 3) := by decide +kernel
theorem dX1_sumWork_44 : decode cX1_sumWork 44 = .ok (.ifCond .eq 18, 3) := by decide +kernel
theorem dX1_sumWork_47 : decode cX1_sumWork 47 = .ok (.iload_n 2, 1) := by decide +kernel
theorem dX1_sumWork_48 : decode cX1_sumWork 48 = .ok (.iconst 1, 1) := by decide +kernel
theorem dX1_sumWork_49 : decode cX1_sumWork 49 = .ok (.iload 4, 2) := by decide +kernel
theorem dX1_sumWork_51 : decode cX1_sumWork 51 = .ok (.ishl, 1) := by decide +kernel
theorem dX1_sumWork_52 : decode cX1_sumWork 52 = .ok (.ior, 1) := by decide +kernel
theorem dX1_sumWork_53 : decode cX1_sumWork 53 = .ok (.istore_n 2, 1) := by decide +kernel
theorem dX1_sumWork_54 : decode cX1_sumWork 54 = .ok (.iload_n 3, 1) := by decide +kernel
theorem dX1_sumWork_55 : decode cX1_sumWork 55 = .ok (.aload 5, 2) := by decide +kernel
theorem dX1_sumWork_57 : decode cX1_sumWork 57 = .ok (.getfield 123, 3) := by decide +kernel
theorem dX1_sumWork_60 : decode cX1_sumWork 60 = .ok (.iadd, 1) := by decide +kernel
theorem dX1_sumWork_61 : decode cX1_sumWork 61 = .ok (.istore_n 3, 1) := by decide +kernel
theorem dX1_sumWork_62 : decode cX1_sumWork 62 = .ok (.iinc 4 1, 3) := by decide +kernel
theorem dX1_sumWork_65 : decode cX1_sumWork 65 = .ok (.goto (-47), 3) := by decide +kernel
theorem dX1_sumWork_68 : decode cX1_sumWork 68 = .ok (.iload_n 3, 1) := by decide +kernel
theorem dX1_sumWork_69 : decode cX1_sumWork 69 = .ok (.ireturn, 1) := by decide +kernel
set_option maxRecDepth 20000 in
theorem ggX1_isHalted_X1_countUnfinished : GoodIn wsX1_isHalted wsX1_countUnfinished := goodIn_r _ [6, 7, 8, 9, 10, 5, 11, 12, 13, 14, 15, 16, 17, 18, 19, 68, 69, 70, 71, 72, 73, 74, 75, 76, 77, 78, 79, 80, 81, 82, 83, 84, 85, 86, 87, 88, 89, 90] (by decide +kernel) (by decide +kernel)
set_option maxRecDepth 20000 in
theorem gX1_isHalted_X1_countUnfinished : GoodIn wsX1_isHalted (wsV RX1 133 RX1 yX1_countUnfinished wsX1_countUnfinished) := goodIn_app (goodIn_of _ (by decide +kernel)) ggX1_isHalted_X1_countUnfinished
set_option maxRecDepth 20000 in
theorem ggX1_isHalted_X1_wouldAct : GoodIn wsX1_isHalted wsX1_wouldAct := goodIn_r _ [23, 24, 25, 26, 5, 27, 28, 29, 30, 31, 32, 33, 34, 35, 36, 37, 38, 39, 40, 41, 42, 43, 44, 45, 8, 9, 10, 11, 12, 13, 46, 47, 48, 17, 49, 19, 50, 51, 52, 53, 54, 55, 56, 57, 58, 59, 60, 61, 62, 63, 1, 64, 65, 66, 67, 91, 92, 93, 94, 95, 96, 68, 69, 70, 71, 72, 73, 74, 75, 76, 77, 78, 79, 97, 98, 80, 81, 82, 83, 84, 85, 86, 87, 88, 89, 90] (by decide +kernel) (by decide +kernel)
set_option maxRecDepth 20000 in
theorem gX1_isHalted_X1_wouldAct : GoodIn wsX1_isHalted (wsV RX1 137 RX1 yX1_wouldAct wsX1_wouldAct) := goodIn_app (goodIn_of _ (by decide +kernel)) ggX1_isHalted_X1_wouldAct
theorem dX1_isHalted_0 : decode cX1_isHalted 0 = .ok (.aload_n 0, 1) := by decide +kernel
theorem dX1_isHalted_1 : decode cX1_isHalted 1 = .ok (.invokevirtual 133, 3) := by decide +kernel
theorem dX1_isHalted_4 : decode cX1_isHalted 4 = .ok (.ifCond .ne 5, 3) := by decide +kernel
theorem dX1_isHalted_7 : decode cX1_isHalted 7 = .ok (.iconst 0, 1) := by decide +kernel
theorem dX1_isHalted_8 : decode cX1_isHalted 8 = .ok (.ireturn, 1) := by decide +kernel
theorem dX1_isHalted_9 : decode cX1_isHalted 9 = .ok (.iconst 0, 1) := by decide +kernel
theorem dX1_isHalted_10 : decode cX1_isHalted 10 = .ok (.istore_n 1, 1) := by decide +kernel
theorem dX1_isHalted_11 : decode cX1_isHalted 11 = .ok (.iload_n 1, 1) := by decide +kernel
theorem dX1_isHalted_12 : decode cX1_isHalted 12 = .ok (.aload_n 0, 1) := by decide +kernel
theorem dX1_isHalted_13 : decode cX1_isHalted 13 = .ok (.getfield 57, 3) := by decide +kernel
theorem dX1_isHalted_16 : decode cX1_isHalted 16 = .ok (.if_icmp .ge 19, 3) := by decide +kernel
theorem dX1_isHalted_19 : decode cX1_isHalted 19 = .ok (.aload_n 0, 1) := by decide +kernel
theorem dX1_isHalted_20 : decode cX1_isHalted 20 = .ok (.iload_n 1, 1) := by decide +kernel
theorem dX1_isHalted_21 : decode cX1_isHalted 21 = .ok (.invokevirtual 137, 3) := by decide +kernel
theorem dX1_isHalted_24 : decode cX1_isHalted 24 = .ok (.ifCond .eq 5, 3) := by decide +kernel
theorem dX1_isHalted_27 : decode cX1_isHalted 27 = .ok (.iconst 0, 1) := by decide +kernel
theorem dX1_isHalted_28 : decode cX1_isHalted 28 = .ok (.ireturn, 1) := by decide +kernel
theorem dX1_isHalted_29 : decode cX1_isHalted 29 = .ok (.iinc 1 1, 3) := by decide +kernel
theorem dX1_isHalted_32 : decode cX1_isHalted 32 = .ok (.goto (-21), 3) := by decide +kernel
theorem dX1_isHalted_35 : decode cX1_isHalted 35 = .ok (.iconst 1, 1) := by decide +kernel
theorem dX1_isHalted_36 : decode cX1_isHalted 36 = .ok (.ireturn, 1) := by decide +kernel
set_option maxRecDepth 20000 in
theorem ggX1_wouldAct_X1_workerAt : GoodIn wsX1_wouldAct wsX1_workerAt := goodIn_r _ [5, 6, 7, 61, 62, 63, 64, 65, 66, 67, 68, 69, 70, 71, 72] (by decide +kernel) (by decide +kernel)
set_option maxRecDepth 20000 in
theorem gX1_wouldAct_X1_workerAt : GoodIn wsX1_wouldAct (wsV RX1 90 RX1 yX1_workerAt wsX1_workerAt) := goodIn_app (goodIn_of _ (by decide +kernel)) ggX1_wouldAct_X1_workerAt
set_option maxRecDepth 20000 in
theorem ggX1_wouldAct_X1_wantsTask : GoodIn wsX1_wouldAct wsX1_wantsTask := goodIn_r _ [11, 12, 13, 14, 15, 16, 17, 18, 19, 20, 21, 22, 23, 24, 25, 26, 4, 27, 28, 29, 30, 31, 32, 33, 34, 35, 55, 56, 57, 58, 59, 60, 73, 74, 61, 62, 63, 64, 65, 66, 67, 68, 69, 70, 71, 72, 75, 76, 77, 78, 79, 80, 81, 82, 83, 84, 85] (by decide +kernel) (by decide +kernel)
set_option maxRecDepth 20000 in
theorem gX1_wouldAct_X1_wantsTask : GoodIn wsX1_wouldAct (wsV RX1 141 RX1 yX1_wantsTask wsX1_wantsTask) := goodIn_app (goodIn_of _ (by decide +kernel)) ggX1_wouldAct_X1_wantsTask
set_option maxRecDepth 20000 in
theorem ggX1_wouldAct_X1_sourceFor : GoodIn wsX1_wouldAct wsX1_sourceFor := goodIn_r _ [39, 40, 41, 42, 43, 44, 4, 45, 1, 2, 3, 5, 6, 7, 46, 47, 48, 49, 50, 51, 52, 53, 54, 73, 74, 61, 62, 63, 64, 65, 66, 67, 68, 69, 70, 71, 72, 55, 56, 57, 58, 59, 60] (by decide +kernel) (by decide +kernel)
set_option maxRecDepth 20000 in
theorem gX1_wouldAct_X1_sourceFor : GoodIn wsX1_wouldAct (wsV RX1 145 RX1 yX1_sourceFor wsX1_sourceFor) := goodIn_app (goodIn_of _ (by decide +kernel)) ggX1_wouldAct_X1_sourceFor
set_option maxRecDepth 20000 in
theorem ggX1_wouldAct_X2_last : GoodIn wsX1_wouldAct wsX2_last := goodIn_r _ [17, 18, 19, 20, 21, 16, 22, 23, 73, 74] (by decide +kernel) (by decide +kernel)
set_option maxRecDepth 20000 in
theorem gX1_wouldAct_X2_last : GoodIn wsX1_wouldAct (wsV RX1 149 RX2 yX2_last wsX2_last) := goodIn_app (goodIn_of _ (by decide +kernel)) ggX1_wouldAct_X2_last
set_option maxRecDepth 20000 in
theorem ggX1_wouldAct_X1_taskAt : GoodIn wsX1_wouldAct wsX1_taskAt := goodIn_r _ [27, 28, 29, 61, 62, 63, 64, 65, 66, 67, 68, 69, 70, 71, 72] (by decide +kernel) (by decide +kernel)
set_option maxRecDepth 20000 in
theorem gX1_wouldAct_X1_taskAt : GoodIn wsX1_wouldAct (wsV RX1 97 RX1 yX1_taskAt wsX1_taskAt) := goodIn_app (goodIn_of _ (by decide +kernel)) ggX1_wouldAct_X1_taskAt
set_option maxRecDepth 20000 in
theorem ggX1_wouldAct_X4_isBlocked : GoodIn wsX1_wouldAct wsX4_isBlocked := goodIn_r _ [34, 35, 75, 76, 77, 78, 79, 80, 81, 82, 83, 84, 85] (by decide +kernel) (by decide +kernel)
set_option maxRecDepth 20000 in
theorem gX1_wouldAct_X4_isBlocked : GoodIn wsX1_wouldAct (wsV RX1 113 RX4 yX4_isBlocked wsX4_isBlocked) := goodIn_app (goodIn_of _ (by decide +kernel)) ggX1_wouldAct_X4_isBlocked
theorem dX1_wouldAct_0 : decode cX1_wouldAct 0 = .ok (.aload_n 0, 1) := by decide +kernel
theorem dX1_wouldAct_1 : decode cX1_wouldAct 1 = .ok (.iload_n 1, 1) := by decide +kernel
theorem dX1_wouldAct_2 : decode cX1_wouldAct 2 = .ok (.invokevirtual 90, 3) := by decide +kernel
theorem dX1_wouldAct_5 : decode cX1_wouldAct 5 = .ok (.astore_n 2, 1) := by decide +kernel
theorem dX1_wouldAct_6 : decode cX1_wouldAct 6 = .ok (.aload_n 0, 1) := by decide +kernel
theorem dX1_wouldAct_7 : decode cX1_wouldAct 7 = .ok (.aload_n 2, 1) := by decide +kernel
theorem dX1_wouldAct_8 : decode cX1_wouldAct 8 = .ok (.invokevirtual 141, 3) := by decide +kernel
theorem dX1_wouldAct_11 : decode cX1_wouldAct 11 = .ok (.ifCond .eq 19, 3) := by decide +kernel
theorem dX1_wouldAct_14 : decode cX1_wouldAct 14 = .ok (.aload_n 0, 1) := by decide +kernel
theorem dX1_wouldAct_15 : decode cX1_wouldAct 15 = .ok (.iload_n 1, 1) := by decide +kernel
theorem dX1_wouldAct_16 : decode cX1_wouldAct 16 = .ok (.invokevirtual 145, 3) := by decide +kernel
theorem dX1_wouldAct_19 : decode cX1_wouldAct 19 = .ok (.bipush (-2), 2) := by decide +kernel
theorem dX1_wouldAct_21 : decode cX1_wouldAct 21 = .ok (.if_icmp .eq 7, 3) := by decide +kernel
theorem dX1_wouldAct_24 : decode cX1_wouldAct 24 = .ok (.iconst 1, 1) := by decide +kernel
theorem dX1_wouldAct_25 : decode cX1_wouldAct 25 = .ok (.goto 4, 3) := by decide +kernel
theorem dX1_wouldAct_28 : decode cX1_wouldAct 28 = .ok (.iconst 0, 1) := by decide +kernel
theorem dX1_wouldAct_29 : decode cX1_wouldAct 29 = .ok (.ireturn, 1) := by decide +kernel
theorem dX1_wouldAct_30 : decode cX1_wouldAct 30 = .ok (.aload_n 0, 1) := by decide +kernel
theorem dX1_wouldAct_31 : decode cX1_wouldAct 31 = .ok (.aload_n 2, 1) := by decide +kernel
theorem dX1_wouldAct_32 : decode cX1_wouldAct 32 = .ok (.getfield 107, 3) := by decide +kernel
theorem dX1_wouldAct_35 : decode cX1_wouldAct 35 = .ok (.invokevirtual 149, 3) := by decide +kernel
theorem dX1_wouldAct_38 : decode cX1_wouldAct 38 = .ok (.invokevirtual 97, 3) := by decide +kernel
theorem dX1_wouldAct_41 : decode cX1_wouldAct 41 = .ok (.invokevirtual 113, 3) := by decide +kernel
theorem dX1_wouldAct_44 : decode cX1_wouldAct 44 = .ok (.ifCond .ne 7, 3) := by decide +kernel
theorem dX1_wouldAct_47 : decode cX1_wouldAct 47 = .ok (.iconst 1, 1) := by decide +kernel
theorem dX1_wouldAct_48 : decode cX1_wouldAct 48 = .ok (.goto 4, 3) := by decide +kernel
theorem dX1_wouldAct_51 : decode cX1_wouldAct 51 = .ok (.iconst 0, 1) := by decide +kernel
theorem dX1_wouldAct_52 : decode cX1_wouldAct 52 = .ok (.ireturn, 1) := by decide +kernel
theorem dX1_isIn_0 : decode cX1_isIn 0 = .ok (.iload_n 1, 1) := by decide +kernel
theorem dX1_isIn_1 : decode cX1_isIn 1 = .ok (.ifCond .lt 22, 3) := by decide +kernel
theorem dX1_isIn_4 : decode cX1_isIn 4 = .ok (.iload_n 1, 1) := by decide +kernel
theorem dX1_isIn_5 : decode cX1_isIn 5 = .ok (.bipush 24, 2) := by decide +kernel
theorem dX1_isIn_7 : decode cX1_isIn 7 = .ok (.if_icmp .ge 16, 3) := by decide +kernel
theorem dX1_isIn_10 : decode cX1_isIn 10 = .ok (.iload_n 0, 1) := by decide +kernel
theorem dX1_isIn_11 : decode cX1_isIn 11 = .ok (.iload_n 1, 1) := by decide +kernel
theorem dX1_isIn_12 : decode cX1_isIn 12 = .ok (.ishr, 1) := by decide +kernel
theorem dX1_isIn_13 : decode cX1_isIn 13 = .ok (.iconst 1, 1) := by decide +kernel
theorem dX1_isIn_14 : decode cX1_isIn 14 = .ok (.iand, 1) := by decide +kernel
theorem dX1_isIn_15 : decode cX1_isIn 15 = .ok (.iconst 1, 1) := by decide +kernel
theorem dX1_isIn_16 : decode cX1_isIn 16 = .ok (.if_icmp .ne 7, 3) := by decide +kernel
theorem dX1_isIn_19 : decode cX1_isIn 19 = .ok (.iconst 1, 1) := by decide +kernel
theorem dX1_isIn_20 : decode cX1_isIn 20 = .ok (.goto 4, 3) := by decide +kernel
theorem dX1_isIn_23 : decode cX1_isIn 23 = .ok (.iconst 0, 1) := by decide +kernel
theorem dX1_isIn_24 : decode cX1_isIn 24 = .ok (.ireturn, 1) := by decide +kernel
set_option maxRecDepth 20000 in
theorem ggX1_changeWorkerCount_X1_workerAt : GoodIn wsX1_changeWorkerCount wsX1_workerAt := goodIn_r _ [6, 7, 8, 30, 31, 32, 33, 34, 35, 36, 37, 38, 39, 40, 41] (by decide +kernel) (by decide +kernel)
set_option maxRecDepth 20000 in
theorem gX1_changeWorkerCount_X1_workerAt : GoodIn wsX1_changeWorkerCount (wsV RX1 90 RX1 yX1_workerAt wsX1_workerAt) := goodIn_app (goodIn_of _ (by decide +kernel)) ggX1_changeWorkerCount_X1_workerAt
set_option maxRecDepth 20000 in
theorem ggX1_changeWorkerCount_X5_begin : GoodIn wsX1_changeWorkerCount wsX5_begin := goodIn_r _ [13, 14, 15, 16, 17, 18, 19, 20, 21, 22, 23, 24, 25, 26, 27, 28, 29, 42, 43, 44, 45, 46, 47, 48, 49] (by decide +kernel) (by decide +kernel)
set_option maxRecDepth 20000 in
theorem gX1_changeWorkerCount_X5_begin : GoodIn wsX1_changeWorkerCount (wsV RX1 152 RX5 yX5_begin wsX5_begin) := goodIn_app (goodIn_of _ (by decide +kernel)) ggX1_changeWorkerCount_X5_begin
theorem dX1_changeWorkerCount_0 : decode cX1_changeWorkerCount 0 = .ok (.aload_n 0, 1) := by decide +kernel
theorem dX1_changeWorkerCount_1 : decode cX1_changeWorkerCount 1 = .ok (.getfield 57, 3) := by decide +kernel
theorem dX1_changeWorkerCount_4 : decode cX1_changeWorkerCount 4 = .ok (.istore_n 2, 1) := by decide +kernel
theorem dX1_changeWorkerCount_5 : decode cX1_changeWorkerCount 5 = .ok (.iload_n 2, 1) := by decide +kernel
theorem dX1_changeWorkerCount_6 : decode cX1_changeWorkerCount 6 = .ok (.iload_n 1, 1) := by decide +kernel
theorem dX1_changeWorkerCount_7 : decode cX1_changeWorkerCount 7 = .ok (.if_icmp .ge 17, 3) := by decide +kernel
theorem dX1_changeWorkerCount_10 : decode cX1_changeWorkerCount 10 = .ok (.aload_n 0, 1) := by decide +kernel
theorem dX1_changeWorkerCount_11 : decode cX1_changeWorkerCount 11 = .ok (.iload_n 2, 1) := by decide +kernel
theorem dX1_changeWorkerCount_12 : decode cX1_changeWorkerCount 12 = .ok (.invokevirtual 90, 3) := by decide +kernel
theorem dX1_changeWorkerCount_15 : decode cX1_changeWorkerCount 15 = .ok (.invokevirtual 152, 3) := by decide +kernel
theorem dX1_changeWorkerCount_18 : decode cX1_changeWorkerCount 18 = .ok (.iinc 2 1, 3) := by decide +kernel
theorem dX1_changeWorkerCount_21 : decode cX1_changeWorkerCount 21 = .ok (.goto (-16), 3) := by decide +kernel
theorem dX1_changeWorkerCount_24 : decode cX1_changeWorkerCount 24 = .ok (.aload_n 0, 1) := by decide +kernel
theorem dX1_changeWorkerCount_25 : decode cX1_changeWorkerCount 25 = .ok (.iload_n 1, 1) := by decide +kernel
theorem dX1_changeWorkerCount_26 : decode cX1_changeWorkerCount 26 = .ok (.putfield 57, 3) := by decide +kernel
theorem dX1_changeWorkerCount_29 : decode cX1_changeWorkerCount 29 = .ok (.return_, 1) := by decide +kernel
set_option maxRecDepth 20000 in
theorem ggX1_askFor_X1_newTask : GoodIn wsX1_askFor wsX1_newTask := goodIn_r _ [6, 7, 8, 9, 10, 5, 11, 12, 13, 14, 15, 16, 17, 18, 19, 20, 21, 22, 23, 24, 25, 26, 27, 28, 36, 37, 38, 39, 40, 41, 42, 43, 44, 45, 46, 47, 48, 49, 50, 51, 52, 53, 54, 55, 56, 57, 58] (by decide +kernel) (by decide +kernel)
set_option maxRecDepth 20000 in
theorem gX1_askFor_X1_newTask : GoodIn wsX1_askFor (wsV RX1 155 RX1 yX1_newTask wsX1_newTask) := goodIn_app (goodIn_of _ (by decide +kernel)) ggX1_askFor_X1_newTask
set_option maxRecDepth 20000 in
theorem ggX1_askFor_X2_append : GoodIn wsX1_askFor wsX2_append := goodIn_r _ [33, 34, 35, 59, 60] (by decide +kernel) (by decide +kernel)
set_option maxRecDepth 20000 in
theorem gX1_askFor_X2_append : GoodIn wsX1_askFor (wsV RX1 162 RX2 yX2_append wsX2_append) := goodIn_app (goodIn_of _ (by decide +kernel)) ggX1_askFor_X2_append
theorem dX1_askFor_0 : decode cX1_askFor 0 = .ok (.aload_n 0, 1) := by decide +kernel
theorem dX1_askFor_1 : decode cX1_askFor 1 = .ok (.iload_n 1, 1) := by decide +kernel
theorem dX1_askFor_2 : decode cX1_askFor 2 = .ok (.iconst (-1), 1) := by decide +kernel
theorem dX1_askFor_3 : decode cX1_askFor 3 = .ok (.invokevirtual 155, 3) := by decide +kernel
theorem dX1_askFor_6 : decode cX1_askFor 6 = .ok (.astore_n 2, 1) := by decide +kernel
theorem dX1_askFor_7 : decode cX1_askFor 7 = .ok (.aload_n 0, 1) := by decide +kernel
theorem dX1_askFor_8 : decode cX1_askFor 8 = .ok (.getfield 38, 3) := by decide +kernel
theorem dX1_askFor_11 : decode cX1_askFor 11 = .ok (.aload_n 2, 1) := by decide +kernel
theorem dX1_askFor_12 : decode cX1_askFor 12 = .ok (.getfield 159, 3) := by decide +kernel
theorem dX1_askFor_15 : decode cX1_askFor 15 = .ok (.invokevirtual 162, 3) := by decide +kernel
theorem dX1_askFor_18 : decode cX1_askFor 18 = .ok (.aload_n 2, 1) := by decide +kernel
theorem dX1_askFor_19 : decode cX1_askFor 19 = .ok (.getfield 159, 3) := by decide +kernel
theorem dX1_askFor_22 : decode cX1_askFor 22 = .ok (.ireturn, 1) := by decide +kernel
set_option maxRecDepth 20000 in
theorem ggX1_keepPromise_X1_taskAt : GoodIn wsX1_keepPromise wsX1_taskAt := goodIn_r _ [9, 10, 11, 47, 48, 49, 50, 51, 52, 53, 54, 55, 56, 57, 58] (by decide +kernel) (by decide +kernel)
set_option maxRecDepth 20000 in
theorem gX1_keepPromise_X1_taskAt : GoodIn wsX1_keepPromise (wsV RX1 97 RX1 yX1_taskAt wsX1_taskAt) := goodIn_app (goodIn_of _ (by decide +kernel)) ggX1_keepPromise_X1_taskAt
set_option maxRecDepth 20000 in
theorem ggX1_keepPromise_X0_scriptAt : GoodIn wsX1_keepPromise wsX0_scriptAt := goodIn_r _ [16, 17, 18, 70, 71, 72] (by decide +kernel) (by decide +kernel)
set_option maxRecDepth 20000 in
theorem gX1_keepPromise_X0_scriptAt : GoodIn wsX1_keepPromise (wsV RX1 165 RX0 yX0_scriptAt wsX0_scriptAt) := goodIn_app (goodIn_of _ (by decide +kernel)) ggX1_keepPromise_X0_scriptAt
set_option maxRecDepth 20000 in
theorem ggX1_keepPromise_X3_numberAt : GoodIn wsX1_keepPromise wsX3_numberAt := goodIn_r _ [23, 24, 73, 74, 75] (by decide +kernel) (by decide +kernel)
set_option maxRecDepth 20000 in
theorem gX1_keepPromise_X3_numberAt : GoodIn wsX1_keepPromise (wsV RX1 174 RX3 yX3_numberAt wsX3_numberAt) := goodIn_app (goodIn_of _ (by decide +kernel)) ggX1_keepPromise_X3_numberAt
set_option maxRecDepth 20000 in
theorem ggX1_keepPromise_X1_free : GoodIn wsX1_keepPromise wsX1_free := goodIn_r _ [28, 29, 30, 31, 32, 8, 33, 34, 35, 36, 37, 38, 39, 40, 41, 42, 43, 44, 45, 46, 47, 48, 49, 50, 51, 52, 53, 54, 55, 56, 57, 58, 76, 77, 78, 79, 80, 81, 59, 60, 61, 62, 63, 64, 65, 66, 67, 68, 69, 82, 83] (by decide +kernel) (by decide +kernel)
set_option maxRecDepth 20000 in
theorem gX1_keepPromise_X1_free : GoodIn wsX1_keepPromise (wsV RX1 179 RX1 yX1_free wsX1_free) := goodIn_app (goodIn_of _ (by decide +kernel)) ggX1_keepPromise_X1_free
theorem dX1_keepPromise_0 : decode cX1_keepPromise 0 = .ok (.iload_n 1, 1) := by decide +kernel
theorem dX1_keepPromise_1 : decode cX1_keepPromise 1 = .ok (.ifCond .lt 20, 3) := by decide +kernel
theorem dX1_keepPromise_4 : decode cX1_keepPromise 4 = .ok (.iload_n 1, 1) := by decide +kernel
theorem dX1_keepPromise_5 : decode cX1_keepPromise 5 = .ok (.bipush 6, 2) := by decide +kernel
theorem dX1_keepPromise_7 : decode cX1_keepPromise 7 = .ok (.if_icmp .ge 14, 3) := by decide +kernel
theorem dX1_keepPromise_10 : decode cX1_keepPromise 10 = .ok (.aload_n 0, 1) := by decide +kernel
theorem dX1_keepPromise_11 : decode cX1_keepPromise 11 = .ok (.getfield 42, 3) := by decide +kernel
theorem dX1_keepPromise_14 : decode cX1_keepPromise 14 = .ok (.iload_n 1, 1) := by decide +kernel
theorem dX1_keepPromise_15 : decode cX1_keepPromise 15 = .ok (.iaload, 1) := by decide +kernel
theorem dX1_keepPromise_16 : decode cX1_keepPromise 16 = .ok (.ldc 64, 2) := by decide +kernel
theorem dX1_keepPromise_18 : decode cX1_keepPromise 18 = .ok (.if_icmp .eq 5, 3) := by decide +kernel
theorem dX1_keepPromise_21 : decode cX1_keepPromise 21 = .ok (.iconst 0, 1) := by decide +kernel
theorem dX1_keepPromise_22 : decode cX1_keepPromise 22 = .ok (.ireturn, 1) := by decide +kernel
theorem dX1_keepPromise_23 : decode cX1_keepPromise 23 = .ok (.aload_n 0, 1) := by decide +kernel
theorem dX1_keepPromise_24 : decode cX1_keepPromise 24 = .ok (.getfield 42, 3) := by decide +kernel
theorem dX1_keepPromise_27 : decode cX1_keepPromise 27 = .ok (.iload_n 1, 1) := by decide +kernel
theorem dX1_keepPromise_28 : decode cX1_keepPromise 28 = .ok (.iload_n 2, 1) := by decide +kernel
theorem dX1_keepPromise_29 : decode cX1_keepPromise 29 = .ok (.iastore, 1) := by decide +kernel
theorem dX1_keepPromise_30 : decode cX1_keepPromise 30 = .ok (.iconst 0, 1) := by decide +kernel
theorem dX1_keepPromise_31 : decode cX1_keepPromise 31 = .ok (.istore_n 3, 1) := by decide +kernel
theorem dX1_keepPromise_32 : decode cX1_keepPromise 32 = .ok (.iload_n 3, 1) := by decide +kernel
theorem dX1_keepPromise_33 : decode cX1_keepPromise 33 = .ok (.aload_n 0, 1) := by decide +kernel
theorem dX1_keepPromise_34 : decode cX1_keepPromise 34 = .ok (.getfield 53, 3) := by decide +kernel
theorem dX1_keepPromise_37 : decode cX1_keepPromise 37 = .ok (.if_icmp .ge 59, 3) := by decide +kernel
theorem dX1_keepPromise_40 : decode cX1_keepPromise 40 = .ok (.aload_n 0, 1) := by decide +kernel
theorem dX1_keepPromise_41 : decode cX1_keepPromise 41 = .ok (.iload_n 3, 1) := by decide +kernel
theorem dX1_keepPromise_42 : decode cX1_keepPromise 42 = .ok (.invokevirtual 97, 3) := by decide +kernel
theorem dX1_keepPromise_45 : decode cX1_keepPromise 45 = .ok (.astore 4, 2) := by decide +kernel
theorem dX1_keepPromise_47 : decode cX1_keepPromise 47 = .ok (.aload_n 0, 1) := by decide +kernel
theorem dX1_keepPromise_48 : decode cX1_keepPromise 48 = .ok (.getfield 46, 3) := by decide +kernel
theorem dX1_keepPromise_51 : decode cX1_keepPromise 51 = .ok (.aload 4, 2) := by decide +kernel
theorem dX1_keepPromise_53 : decode cX1_keepPromise 53 = .ok (.getfield 101, 3) := by decide +kernel
theorem dX1_keepPromise_56 : decode cX1_keepPromise 56 = .ok (.invokevirtual 165, 3) := by decide +kernel
theorem dX1_keepPromise_59 : decode cX1_keepPromise 59 = .ok (.astore 5, 2) := by decide +kernel
theorem dX1_keepPromise_61 : decode cX1_keepPromise 61 = .ok (.aload 4, 2) := by decide +kernel
theorem dX1_keepPromise_63 : decode cX1_keepPromise 63 = .ok (.getfield 104, 3) := by decide +kernel
theorem dX1_keepPromise_66 : decode cX1_keepPromise 66 = .ok (.iconst 3, 1) := by decide +kernel
theorem dX1_keepPromise_67 : decode cX1_keepPromise 67 = .ok (.if_icmp .ne 23, 3) := by decide +kernel
theorem dX1_keepPromise_70 : decode cX1_keepPromise 70 = .ok (.aload 5, 2) := by decide +kernel
theorem dX1_keepPromise_72 : decode cX1_keepPromise 72 = .ok (.aload 4, 2) := by decide +kernel
theorem dX1_keepPromise_74 : decode cX1_keepPromise 74 = .ok (.getfield 171, 3) := by decide +kernel
theorem dX1_keepPromise_77 : decode cX1_keepPromise 77 = .ok (.invokevirtual 174, 3) := by decide +kernel
theorem dX1_keepPromise_80 : decode cX1_keepPromise 80 = .ok (.iload_n 1, 1) := by decide +kernel
theorem dX1_keepPromise_81 : decode cX1_keepPromise 81 = .ok (.if_icmp .ne 9, 3) := by decide +kernel
theorem dX1_keepPromise_84 : decode cX1_keepPromise 84 = .ok (.aload_n 0, 1) := by decide +kernel
theorem dX1_keepPromise_85 : decode cX1_keepPromise 85 = .ok (.aload 4, 2) := by decide +kernel
theorem dX1_keepPromise_87 : decode cX1_keepPromise 87 = .ok (.invokevirtual 179, 3) := by decide +kernel
theorem dX1_keepPromise_90 : decode cX1_keepPromise 90 = .ok (.iinc 3 1, 3) := by decide +kernel
theorem dX1_keepPromise_93 : decode cX1_keepPromise 93 = .ok (.goto (-61), 3) := by decide +kernel
theorem dX1_keepPromise_96 : decode cX1_keepPromise 96 = .ok (.iconst 1, 1) := by decide +kernel
theorem dX1_keepPromise_97 : decode cX1_keepPromise 97 = .ok (.ireturn, 1) := by decide +kernel
set_option maxRecDepth 20000 in
theorem ggX1_cancelBelow_X1_taskAt : GoodIn wsX1_cancelBelow wsX1_taskAt := goodIn_r _ [6, 7, 8, 71, 72, 73, 74, 75, 76, 77, 78, 79, 80, 81, 82] (by decide +kernel) (by decide +kernel)
set_option maxRecDepth 20000 in
theorem gX1_cancelBelow_X1_taskAt : GoodIn wsX1_cancelBelow (wsV RX1 97 RX1 yX1_taskAt wsX1_taskAt) := goodIn_app (goodIn_of _ (by decide +kernel)) ggX1_cancelBelow_X1_taskAt
set_option maxRecDepth 20000 in
theorem ggX1_cancelBelow_X1_isIn : GoodIn wsX1_cancelBelow wsX1_isIn := goodIn_r _ [11] (by decide +kernel) (by decide +kernel)
set_option maxRecDepth 20000 in
theorem gX1_cancelBelow_X1_isIn : GoodIn wsX1_cancelBelow (va_wsS RX1 129 yX1_isIn wsX1_isIn) := goodIn_app (goodIn_of _ (by decide +kernel)) ggX1_cancelBelow_X1_isIn
set_option maxRecDepth 20000 in
theorem ggX1_cancelBelow_X4_isOver : GoodIn wsX1_cancelBelow wsX4_isOver := goodIn_r _ [16, 17, 60, 61, 62, 63, 64, 65, 66, 67, 68, 69, 70] (by decide +kernel) (by decide +kernel)
set_option maxRecDepth 20000 in
theorem gX1_cancelBelow_X4_isOver : GoodIn wsX1_cancelBelow (wsV RX1 120 RX4 yX4_isOver wsX4_isOver) := goodIn_app (goodIn_of _ (by decide +kernel)) ggX1_cancelBelow_X4_isOver
set_option maxRecDepth 20000 in
theorem ggX1_cancelBelow_X1_end : GoodIn wsX1_cancelBelow wsX1_end := goodIn_r _ [21, 22, 23, 24, 25, 26, 27, 28, 29, 30, 31, 32, 33, 34, 5, 35, 36, 37, 2, 3, 4, 6, 7, 8, 38, 39, 40, 15, 41, 42, 43, 44, 45, 46, 47, 48, 49, 50, 51, 52, 53, 54, 55, 56, 57, 58, 59, 60, 61, 62, 63, 64, 65, 66, 67, 68, 69, 70, 71, 72, 73, 74, 75, 76, 77, 78, 79, 80, 81, 82, 83, 84, 85, 86, 87, 88, 89, 90] (by decide +kernel) (by decide +kernel)
set_option maxRecDepth 20000 in
theorem gX1_cancelBelow_X1_end : GoodIn wsX1_cancelBelow (wsV RX1 182 RX1 yX1_end wsX1_end) := goodIn_app (goodIn_of _ (by decide +kernel)) ggX1_cancelBelow_X1_end
theorem dX1_cancelBelow_0 : decode cX1_cancelBelow 0 = .ok (.iconst 1, 1) := by decide +kernel
theorem dX1_cancelBelow_1 : decode cX1_cancelBelow 1 = .ok (.aload_n 1, 1) := by decide +kernel
theorem dX1_cancelBelow_2 : decode cX1_cancelBelow 2 = .ok (.getfield 159, 3) := by decide +kernel
theorem dX1_cancelBelow_5 : decode cX1_cancelBelow 5 = .ok (.ishl, 1) := by decide +kernel
theorem dX1_cancelBelow_6 : decode cX1_cancelBelow 6 = .ok (.istore_n 2, 1) := by decide +kernel
theorem dX1_cancelBelow_7 : decode cX1_cancelBelow 7 = .ok (.aload_n 1, 1) := by decide +kernel
theorem dX1_cancelBelow_8 : decode cX1_cancelBelow 8 = .ok (.getfield 159, 3) := by decide +kernel
theorem dX1_cancelBelow_11 : decode cX1_cancelBelow 11 = .ok (.iconst 1, 1) := by decide +kernel
theorem dX1_cancelBelow_12 : decode cX1_cancelBelow 12 = .ok (.iadd, 1) := by decide +kernel
theorem dX1_cancelBelow_13 : decode cX1_cancelBelow 13 = .ok (.istore_n 3, 1) := by decide +kernel
theorem dX1_cancelBelow_14 : decode cX1_cancelBelow 14 = .ok (.iload_n 3, 1) := by decide +kernel
theorem dX1_cancelBelow_15 : decode cX1_cancelBelow 15 = .ok (.aload_n 0, 1) := by decide +kernel
theorem dX1_cancelBelow_16 : decode cX1_cancelBelow 16 = .ok (.getfield 53, 3) := by decide +kernel
theorem dX1_cancelBelow_19 : decode cX1_cancelBelow 19 = .ok (.if_icmp .ge 42, 3) := by decide +kernel
theorem dX1_cancelBelow_22 : decode cX1_cancelBelow 22 = .ok (.aload_n 0, 1) := by decide +kernel
theorem dX1_cancelBelow_23 : decode cX1_cancelBelow 23 = .ok (.iload_n 3, 1) := by decide +kernel
theorem dX1_cancelBelow_24 : decode cX1_cancelBelow 24 = .ok (.invokevirtual 97, 3) := by decide +kernel
theorem dX1_cancelBelow_27 : decode cX1_cancelBelow 27 = .ok (.astore 4, 2) := by decide +kernel
theorem dX1_cancelBelow_29 : decode cX1_cancelBelow 29 = .ok (.iload_n 2, 1) := by decide +kernel
theorem dX1_cancelBelow_30 : decode cX1_cancelBelow 30 = .ok (.aload 4, 2) := by decide +kernel
theorem dX1_cancelBelow_32 : decode cX1_cancelBelow 32 = .ok (.getfield 126, 3) := by decide +kernel
theorem dX1_cancelBelow_35 : decode cX1_cancelBelow 35 = .ok (.invokestatic 129, 3) := by decide +kernel
theorem dX1_cancelBelow_38 : decode cX1_cancelBelow 38 = .ok (.ifCond .eq 17, 3) := by decide +kernel
theorem dX1_cancelBelow_41 : decode cX1_cancelBelow 41 = .ok (.aload 4, 2) := by decide +kernel
theorem dX1_cancelBelow_43 : decode cX1_cancelBelow 43 = .ok (.invokevirtual 120, 3) := by decide +kernel
theorem dX1_cancelBelow_46 : decode cX1_cancelBelow 46 = .ok (.ifCond .ne 9, 3) := by decide +kernel
theorem dX1_cancelBelow_49 : decode cX1_cancelBelow 49 = .ok (.iload_n 2, 1) := by decide +kernel
theorem dX1_cancelBelow_50 : decode cX1_cancelBelow 50 = .ok (.iconst 1, 1) := by decide +kernel
theorem dX1_cancelBelow_51 : decode cX1_cancelBelow 51 = .ok (.iload_n 3, 1) := by decide +kernel
theorem dX1_cancelBelow_52 : decode cX1_cancelBelow 52 = .ok (.ishl, 1) := by decide +kernel
theorem dX1_cancelBelow_53 : decode cX1_cancelBelow 53 = .ok (.ior, 1) := by decide +kernel
theorem dX1_cancelBelow_54 : decode cX1_cancelBelow 54 = .ok (.istore_n 2, 1) := by decide +kernel
theorem dX1_cancelBelow_55 : decode cX1_cancelBelow 55 = .ok (.iinc 3 1, 3) := by decide +kernel
theorem dX1_cancelBelow_58 : decode cX1_cancelBelow 58 = .ok (.goto (-44), 3) := by decide +kernel
theorem dX1_cancelBelow_61 : decode cX1_cancelBelow 61 = .ok (.iconst 0, 1) := by decide +kernel
theorem dX1_cancelBelow_62 : decode cX1_cancelBelow 62 = .ok (.istore_n 3, 1) := by decide +kernel
theorem dX1_cancelBelow_63 : decode cX1_cancelBelow 63 = .ok (.aload_n 0, 1) := by decide +kernel
theorem dX1_cancelBelow_64 : decode cX1_cancelBelow 64 = .ok (.getfield 53, 3) := by decide +kernel
theorem dX1_cancelBelow_67 : decode cX1_cancelBelow 67 = .ok (.iconst 1, 1) := by decide +kernel
theorem dX1_cancelBelow_68 : decode cX1_cancelBelow 68 = .ok (.isub, 1) := by decide +kernel
theorem dX1_cancelBelow_69 : decode cX1_cancelBelow 69 = .ok (.istore 4, 2) := by decide +kernel
theorem dX1_cancelBelow_71 : decode cX1_cancelBelow 71 = .ok (.iload 4, 2) := by decide +kernel
theorem dX1_cancelBelow_73 : decode cX1_cancelBelow 73 = .ok (.aload_n 1, 1) := by decide +kernel
theorem dX1_cancelBelow_74 : decode cX1_cancelBelow 74 = .ok (.getfield 159, 3) := by decide +kernel
theorem dX1_cancelBelow_77 : decode cX1_cancelBelow 77 = .ok (.if_icmp .le 33, 3) := by decide +kernel
theorem dX1_cancelBelow_80 : decode cX1_cancelBelow 80 = .ok (.iload_n 2, 1) := by decide +kernel
theorem dX1_cancelBelow_81 : decode cX1_cancelBelow 81 = .ok (.iload 4, 2) := by decide +kernel
theorem dX1_cancelBelow_83 : decode cX1_cancelBelow 83 = .ok (.invokestatic 129, 3) := by decide +kernel
theorem dX1_cancelBelow_86 : decode cX1_cancelBelow 86 = .ok (.ifCond .eq 18, 3) := by decide +kernel
theorem dX1_cancelBelow_89 : decode cX1_cancelBelow 89 = .ok (.aload_n 0, 1) := by decide +kernel
theorem dX1_cancelBelow_90 : decode cX1_cancelBelow 90 = .ok (.aload_n 0, 1) := by decide +kernel
theorem dX1_cancelBelow_91 : decode cX1_cancelBelow 91 = .ok (.iload 4, 2) := by decide +kernel
theorem dX1_cancelBelow_93 : decode cX1_cancelBelow 93 = .ok (.invokevirtual 97, 3) := by decide +kernel
theorem dX1_cancelBelow_96 : decode cX1_cancelBelow 96 = .ok (.bipush 6, 2) := by decide +kernel
theorem dX1_cancelBelow_98 : decode cX1_cancelBelow 98 = .ok (.invokevirtual 182, 3) := by decide +kernel
theorem dX1_cancelBelow_101 : decode cX1_cancelBelow 101 = .ok (.iinc 3 1, 3) := by decide +kernel
theorem dX1_cancelBelow_104 : decode cX1_cancelBelow 104 = .ok (.iinc 4 (-1), 3) := by decide +kernel
theorem dX1_cancelBelow_107 : decode cX1_cancelBelow 107 = .ok (.goto (-36), 3) := by decide +kernel
theorem dX1_cancelBelow_110 : decode cX1_cancelBelow 110 = .ok (.iload_n 3, 1) := by decide +kernel
theorem dX1_cancelBelow_111 : decode cX1_cancelBelow 111 = .ok (.ireturn, 1) := by decide +kernel
set_option maxRecDepth 20000 in
theorem ggX1_passTick_X1_workerAt : GoodIn wsX1_passTick wsX1_workerAt := goodIn_r _ [8, 9, 10, 205, 206, 207, 208, 209, 210, 211, 212, 213, 214, 215, 216] (by decide +kernel) (by decide +kernel)
set_option maxRecDepth 20000 in
theorem gX1_passTick_X1_workerAt : GoodIn wsX1_passTick (wsV RX1 90 RX1 yX1_workerAt wsX1_workerAt) := goodIn_app (goodIn_of _ (by decide +kernel)) ggX1_passTick_X1_workerAt
set_option maxRecDepth 20000 in
theorem ggX1_passTick_X5_noteRan : GoodIn wsX1_passTick wsX5_noteRan := goodIn_r _ [15, 16, 17, 18, 19, 20, 217, 218, 219, 220, 221, 222] (by decide +kernel) (by decide +kernel)
set_option maxRecDepth 20000 in
theorem gX1_passTick_X5_noteRan : GoodIn wsX1_passTick (wsV RX1 186 RX5 yX5_noteRan wsX5_noteRan) := goodIn_app (goodIn_of _ (by decide +kernel)) ggX1_passTick_X5_noteRan
set_option maxRecDepth 20000 in
theorem ggX1_passTick_X1_act : GoodIn wsX1_passTick wsX1_act := goodIn_r _ [24, 4, 5, 6, 7, 8, 9, 10, 25, 26, 27, 28, 29, 30, 31, 32, 33, 34, 35, 36, 37, 38, 39, 40, 41, 42, 43, 44, 45, 46, 47, 48, 49, 50, 51, 52, 53, 54, 55, 56, 57, 58, 59, 60, 61, 62, 63, 64, 65, 66, 67, 68, 69, 70, 1, 71, 72, 73, 74, 75, 76, 77, 78, 79, 80, 81, 82, 83, 84, 85, 86, 87, 88, 89, 90, 91, 92, 93, 94, 95, 96, 97, 98, 99, 100, 101, 102, 103, 104, 105, 106, 107, 108, 109, 110, 2, 11, 12, 13, 14, 15, 16, 17, 18, 19, 20, 111, 112, 113, 114, 115, 116, 117, 118, 119, 120, 121, 122, 123, 124, 125, 126, 127, 128, 129, 130, 131, 132, 133, 134, 135, 136, 137, 138, 139, 140, 141, 142, 143, 144, 145, 146, 147, 148, 149, 150, 151, 152, 153, 154, 155, 156, 157, 158, 159, 160, 161, 162, 163, 164, 165, 166, 167, 168, 169, 170, 171, 172, 173, 174, 175, 176, 177, 178, 179, 180, 181, 182, 183, 184, 185, 186, 187, 188, 189, 190, 191, 192, 193, 194, 195, 196, 197, 198, 199, 200, 201, 202, 203, 204, 217, 218, 219, 220, 221, 222, 205, 206, 207, 208, 209, 210, 211, 212, 213, 214, 215, 216, 223, 224, 225, 226, 227, 228, 229, 230, 231, 232, 233, 234, 235, 236, 237, 238, 239, 240, 241] (by decide +kernel) (by decide +kernel)
set_option maxRecDepth 20000 in
theorem gX1_passTick_X1_act : GoodIn wsX1_passTick (wsV RX1 191 RX1 yX1_act wsX1_act) := goodIn_app (goodIn_of _ (by decide +kernel)) ggX1_passTick_X1_act
theorem dX1_passTick_0 : decode cX1_passTick 0 = .ok (.iconst 0, 1) := by decide +kernel
theorem dX1_passTick_1 : decode cX1_passTick 1 = .ok (.istore_n 1, 1) := by decide +kernel
theorem dX1_passTick_2 : decode cX1_passTick 2 = .ok (.iload_n 1, 1) := by decide +kernel
theorem dX1_passTick_3 : decode cX1_passTick 3 = .ok (.aload_n 0, 1) := by decide +kernel
theorem dX1_passTick_4 : decode cX1_passTick 4 = .ok (.getfield 57, 3) := by decide +kernel
theorem dX1_passTick_7 : decode cX1_passTick 7 = .ok (.if_icmp .ge 48, 3) := by decide +kernel
theorem dX1_passTick_10 : decode cX1_passTick 10 = .ok (.aload_n 0, 1) := by decide +kernel
theorem dX1_passTick_11 : decode cX1_passTick 11 = .ok (.iload_n 1, 1) := by decide +kernel
theorem dX1_passTick_12 : decode cX1_passTick 12 = .ok (.invokevirtual 90, 3) := by decide +kernel
theorem dX1_passTick_15 : decode cX1_passTick 15 = .ok (.aload_n 0, 1) := by decide +kernel
theorem dX1_passTick_16 : decode cX1_passTick 16 = .ok (.getfield 77, 3) := by decide +kernel
theorem dX1_passTick_19 : decode cX1_passTick 19 = .ok (.iconst (-1), 1) := by decide +kernel
theorem dX1_passTick_20 : decode cX1_passTick 20 = .ok (.invokevirtual 186, 3) := by decide +kernel
theorem dX1_passTick_23 : decode cX1_passTick 23 = .ok (.iconst 1, 1) := by decide +kernel
theorem dX1_passTick_24 : decode cX1_passTick 24 = .ok (.istore_n 2, 1) := by decide +kernel
theorem dX1_passTick_25 : decode cX1_passTick 25 = .ok (.iconst 0, 1) := by decide +kernel
theorem dX1_passTick_26 : decode cX1_passTick 26 = .ok (.istore_n 3, 1) := by decide +kernel
theorem dX1_passTick_27 : decode cX1_passTick 27 = .ok (.iload_n 3, 1) := by decide +kernel
theorem dX1_passTick_28 : decode cX1_passTick 28 = .ok (.ldc 190, 2) := by decide +kernel
theorem dX1_passTick_30 : decode cX1_passTick 30 = .ok (.if_icmp .ge 19, 3) := by decide +kernel
theorem dX1_passTick_33 : decode cX1_passTick 33 = .ok (.iload_n 2, 1) := by decide +kernel
theorem dX1_passTick_34 : decode cX1_passTick 34 = .ok (.ifCond .eq 15, 3) := by decide +kernel
theorem dX1_passTick_37 : decode cX1_passTick 37 = .ok (.aload_n 0, 1) := by decide +kernel
theorem dX1_passTick_38 : decode cX1_passTick 38 = .ok (.iload_n 1, 1) := by decide +kernel
theorem dX1_passTick_39 : decode cX1_passTick 39 = .ok (.invokevirtual 191, 3) := by decide +kernel
theorem dX1_passTick_42 : decode cX1_passTick 42 = .ok (.istore_n 2, 1) := by decide +kernel
theorem dX1_passTick_43 : decode cX1_passTick 43 = .ok (.iinc 3 1, 3) := by decide +kernel
theorem dX1_passTick_46 : decode cX1_passTick 46 = .ok (.goto (-19), 3) := by decide +kernel
theorem dX1_passTick_49 : decode cX1_passTick 49 = .ok (.iinc 1 1, 3) := by decide +kernel
theorem dX1_passTick_52 : decode cX1_passTick 52 = .ok (.goto (-50), 3) := by decide +kernel
theorem dX1_passTick_55 : decode cX1_passTick 55 = .ok (.aload_n 0, 1) := by decide +kernel
theorem dX1_passTick_56 : decode cX1_passTick 56 = .ok (.dup, 1) := by decide +kernel
theorem dX1_passTick_57 : decode cX1_passTick 57 = .ok (.getfield 77, 3) := by decide +kernel
theorem dX1_passTick_60 : decode cX1_passTick 60 = .ok (.iconst 1, 1) := by decide +kernel
theorem dX1_passTick_61 : decode cX1_passTick 61 = .ok (.iadd, 1) := by decide +kernel
theorem dX1_passTick_62 : decode cX1_passTick 62 = .ok (.putfield 77, 3) := by decide +kernel
theorem dX1_passTick_65 : decode cX1_passTick 65 = .ok (.return_, 1) := by decide +kernel
set_option maxRecDepth 20000 in
theorem ggX1_act_X1_workerAt : GoodIn wsX1_act wsX1_workerAt := goodIn_r _ [5, 6, 7, 206, 207, 208, 209, 210, 211, 212, 213, 214, 215, 216, 217] (by decide +kernel) (by decide +kernel)
set_option maxRecDepth 20000 in
theorem gX1_act_X1_workerAt : GoodIn wsX1_act (wsV RX1 90 RX1 yX1_workerAt wsX1_workerAt) := goodIn_app (goodIn_of _ (by decide +kernel)) ggX1_act_X1_workerAt
set_option maxRecDepth 20000 in
theorem ggX1_act_X1_wantsTask : GoodIn wsX1_act wsX1_wantsTask := goodIn_r _ [11, 12, 13, 14, 15, 16, 17, 18, 19, 20, 21, 22, 23, 24, 25, 26, 4, 27, 28, 29, 30, 31, 32, 33, 34, 35, 200, 201, 202, 203, 204, 205, 218, 219, 206, 207, 208, 209, 210, 211, 212, 213, 214, 215, 216, 217, 220, 221, 222, 223, 224, 225, 226, 227, 228, 229, 230] (by decide +kernel) (by decide +kernel)
set_option maxRecDepth 20000 in
theorem gX1_act_X1_wantsTask : GoodIn wsX1_act (wsV RX1 141 RX1 yX1_wantsTask wsX1_wantsTask) := goodIn_app (goodIn_of _ (by decide +kernel)) ggX1_act_X1_wantsTask
set_option maxRecDepth 20000 in
theorem ggX1_act_X1_take : GoodIn wsX1_act wsX1_take := goodIn_r _ [39, 40, 41, 42, 4, 43, 44, 45, 46, 47, 48, 49, 1, 2, 3, 5, 6, 7, 50, 51, 52, 53, 54, 55, 56, 57, 58, 13, 14, 15, 16, 17, 18, 19, 20, 21, 22, 23, 59, 60, 61, 62, 63, 64, 65, 66, 67, 24, 25, 26, 27, 28, 29, 200, 201, 202, 203, 204, 205, 220, 221, 222, 223, 224, 225, 226, 227, 228, 229, 230, 218, 219, 206, 207, 208, 209, 210, 211, 212, 213, 214, 215, 216, 217] (by decide +kernel) (by decide +kernel)
set_option maxRecDepth 20000 in
theorem gX1_act_X1_take : GoodIn wsX1_act (wsV RX1 194 RX1 yX1_take wsX1_take) := goodIn_app (goodIn_of _ (by decide +kernel)) ggX1_act_X1_take
set_option maxRecDepth 20000 in
theorem ggX1_act_X2_last : GoodIn wsX1_act wsX2_last := goodIn_r _ [17, 18, 19, 20, 21, 16, 22, 23, 218, 219] (by decide +kernel) (by decide +kernel)
set_option maxRecDepth 20000 in
theorem gX1_act_X2_last : GoodIn wsX1_act (wsV RX1 149 RX2 yX2_last wsX2_last) := goodIn_app (goodIn_of _ (by decide +kernel)) ggX1_act_X2_last
set_option maxRecDepth 20000 in
theorem ggX1_act_X1_taskAt : GoodIn wsX1_act wsX1_taskAt := goodIn_r _ [27, 28, 29, 206, 207, 208, 209, 210, 211, 212, 213, 214, 215, 216, 217] (by decide +kernel) (by decide +kernel)
set_option maxRecDepth 20000 in
theorem gX1_act_X1_taskAt : GoodIn wsX1_act (wsV RX1 97 RX1 yX1_taskAt wsX1_taskAt) := goodIn_app (goodIn_of _ (by decide +kernel)) ggX1_act_X1_taskAt
set_option maxRecDepth 20000 in
theorem ggX1_act_X4_isBlocked : GoodIn wsX1_act wsX4_isBlocked := goodIn_r _ [34, 35, 220, 221, 222, 223, 224, 225, 226, 227, 228, 229, 230] (by decide +kernel) (by decide +kernel)
set_option maxRecDepth 20000 in
theorem gX1_act_X4_isBlocked : GoodIn wsX1_act (wsV RX1 113 RX4 yX4_isBlocked wsX4_isBlocked) := goodIn_app (goodIn_of _ (by decide +kernel)) ggX1_act_X4_isBlocked
set_option maxRecDepth 20000 in
theorem ggX1_act_X1_goOn : GoodIn wsX1_act wsX1_goOn := goodIn_r _ [71, 72, 73, 74, 75, 76, 77, 78, 79, 80, 81, 82, 83, 84, 85, 86, 87, 88, 89, 90, 91, 92, 93, 4, 94, 95, 1, 2, 3, 5, 6, 7, 96, 97, 98, 99, 100, 101, 102, 103, 104, 105, 106, 107, 108, 109, 110, 111, 112, 113, 114, 24, 25, 26, 27, 28, 29, 115, 116, 117, 33, 118, 119, 35, 120, 121, 122, 123, 124, 125, 126, 127, 46, 47, 48, 49, 44, 64, 65, 66, 16, 67, 18, 23, 128, 129, 130, 131, 132, 133, 134, 135, 136, 137, 138, 139, 140, 141, 142, 143, 144, 145, 146, 147, 148, 12, 60, 61, 62, 63, 149, 150, 151, 152, 153, 154, 155, 156, 157, 158, 159, 160, 161, 162, 163, 164, 165, 54, 166, 167, 168, 169, 170, 171, 172, 173, 174, 175, 176, 177, 178, 179, 180, 181, 182, 183, 184, 185, 186, 187, 188, 189, 190, 191, 192, 193, 194, 195, 196, 197, 198, 199, 206, 207, 208, 209, 210, 211, 212, 213, 214, 215, 216, 217, 220, 221, 222, 223, 224, 225, 226, 227, 228, 229, 230, 231, 232, 233, 234, 235, 236, 200, 201, 202, 203, 204, 205, 218, 219] (by decide +kernel) (by decide +kernel)
set_option maxRecDepth 20000 in
theorem gX1_act_X1_goOn : GoodIn wsX1_act (wsV RX1 201 RX1 yX1_goOn wsX1_goOn) := goodIn_app (goodIn_of _ (by decide +kernel)) ggX1_act_X1_goOn
theorem dX1_act_0 : decode cX1_act 0 = .ok (.aload_n 0, 1) := by decide +kernel
theorem dX1_act_1 : decode cX1_act 1 = .ok (.iload_n 1, 1) := by decide +kernel
theorem dX1_act_2 : decode cX1_act 2 = .ok (.invokevirtual 90, 3) := by decide +kernel
theorem dX1_act_5 : decode cX1_act 5 = .ok (.astore_n 2, 1) := by decide +kernel
theorem dX1_act_6 : decode cX1_act 6 = .ok (.aload_n 0, 1) := by decide +kernel
theorem dX1_act_7 : decode cX1_act 7 = .ok (.aload_n 2, 1) := by decide +kernel
theorem dX1_act_8 : decode cX1_act 8 = .ok (.invokevirtual 141, 3) := by decide +kernel
theorem dX1_act_11 : decode cX1_act 11 = .ok (.ifCond .eq 10, 3) := by decide +kernel
theorem dX1_act_14 : decode cX1_act 14 = .ok (.aload_n 0, 1) := by decide +kernel
theorem dX1_act_15 : decode cX1_act 15 = .ok (.iload_n 1, 1) := by decide +kernel
theorem dX1_act_16 : decode cX1_act 16 = .ok (.aload_n 2, 1) := by decide +kernel
theorem dX1_act_17 : decode cX1_act 17 = .ok (.invokevirtual 194, 3) := by decide +kernel
theorem dX1_act_20 : decode cX1_act 20 = .ok (.ireturn, 1) := by decide +kernel
theorem dX1_act_21 : decode cX1_act 21 = .ok (.aload_n 0, 1) := by decide +kernel
theorem dX1_act_22 : decode cX1_act 22 = .ok (.aload_n 2, 1) := by decide +kernel
theorem dX1_act_23 : decode cX1_act 23 = .ok (.getfield 107, 3) := by decide +kernel
theorem dX1_act_26 : decode cX1_act 26 = .ok (.invokevirtual 149, 3) := by decide +kernel
theorem dX1_act_29 : decode cX1_act 29 = .ok (.invokevirtual 97, 3) := by decide +kernel
theorem dX1_act_32 : decode cX1_act 32 = .ok (.astore_n 3, 1) := by decide +kernel
theorem dX1_act_33 : decode cX1_act 33 = .ok (.aload_n 3, 1) := by decide +kernel
theorem dX1_act_34 : decode cX1_act 34 = .ok (.invokevirtual 113, 3) := by decide +kernel
theorem dX1_act_37 : decode cX1_act 37 = .ok (.ifCond .eq 15, 3) := by decide +kernel
theorem dX1_act_40 : decode cX1_act 40 = .ok (.aload_n 2, 1) := by decide +kernel
theorem dX1_act_41 : decode cX1_act 41 = .ok (.dup, 1) := by decide +kernel
theorem dX1_act_42 : decode cX1_act 42 = .ok (.getfield 198, 3) := by decide +kernel
theorem dX1_act_45 : decode cX1_act 45 = .ok (.iconst 1, 1) := by decide +kernel
theorem dX1_act_46 : decode cX1_act 46 = .ok (.iadd, 1) := by decide +kernel
theorem dX1_act_47 : decode cX1_act 47 = .ok (.putfield 198, 3) := by decide +kernel
theorem dX1_act_50 : decode cX1_act 50 = .ok (.iconst 0, 1) := by decide +kernel
theorem dX1_act_51 : decode cX1_act 51 = .ok (.ireturn, 1) := by decide +kernel
theorem dX1_act_52 : decode cX1_act 52 = .ok (.aload_n 0, 1) := by decide +kernel
theorem dX1_act_53 : decode cX1_act 53 = .ok (.iload_n 1, 1) := by decide +kernel
theorem dX1_act_54 : decode cX1_act 54 = .ok (.aload_n 3, 1) := by decide +kernel
theorem dX1_act_55 : decode cX1_act 55 = .ok (.invokevirtual 201, 3) := by decide +kernel
theorem dX1_act_58 : decode cX1_act 58 = .ok (.ireturn, 1) := by decide +kernel
set_option maxRecDepth 20000 in
theorem ggX1_wantsTask_X2_last : GoodIn wsX1_wantsTask wsX2_last := goodIn_r _ [6, 7, 8, 9, 10, 5, 11, 12, 32, 33] (by decide +kernel) (by decide +kernel)
set_option maxRecDepth 20000 in
theorem gX1_wantsTask_X2_last : GoodIn wsX1_wantsTask (wsV RX1 149 RX2 yX2_last wsX2_last) := goodIn_app (goodIn_of _ (by decide +kernel)) ggX1_wantsTask_X2_last
set_option maxRecDepth 20000 in
theorem ggX1_wantsTask_X1_taskAt : GoodIn wsX1_wantsTask wsX1_taskAt := goodIn_r _ [17, 18, 19, 34, 35, 36, 37, 38, 39, 40, 41, 42, 43, 44, 45] (by decide +kernel) (by decide +kernel)
set_option maxRecDepth 20000 in
theorem gX1_wantsTask_X1_taskAt : GoodIn wsX1_wantsTask (wsV RX1 97 RX1 yX1_taskAt wsX1_taskAt) := goodIn_app (goodIn_of _ (by decide +kernel)) ggX1_wantsTask_X1_taskAt
set_option maxRecDepth 20000 in
theorem ggX1_wantsTask_X4_isBlocked : GoodIn wsX1_wantsTask wsX4_isBlocked := goodIn_r _ [24, 25, 46, 47, 48, 49, 50, 51, 52, 53, 54, 55, 56] (by decide +kernel) (by decide +kernel)
set_option maxRecDepth 20000 in
theorem gX1_wantsTask_X4_isBlocked : GoodIn wsX1_wantsTask (wsV RX1 113 RX4 yX4_isBlocked wsX4_isBlocked) := goodIn_app (goodIn_of _ (by decide +kernel)) ggX1_wantsTask_X4_isBlocked
theorem dX1_wantsTask_0 : decode cX1_wantsTask 0 = .ok (.aload_n 1, 1) := by decide +kernel
theorem dX1_wantsTask_1 : decode cX1_wantsTask 1 = .ok (.getfield 107, 3) := by decide +kernel
theorem dX1_wantsTask_4 : decode cX1_wantsTask 4 = .ok (.getfield 110, 3) := by decide +kernel
theorem dX1_wantsTask_7 : decode cX1_wantsTask 7 = .ok (.ifCond .eq 28, 3) := by decide +kernel
theorem dX1_wantsTask_10 : decode cX1_wantsTask 10 = .ok (.aload_n 0, 1) := by decide +kernel
theorem dX1_wantsTask_11 : decode cX1_wantsTask 11 = .ok (.getfield 71, 3) := by decide +kernel
theorem dX1_wantsTask_14 : decode cX1_wantsTask 14 = .ok (.iconst 2, 1) := by decide +kernel
theorem dX1_wantsTask_15 : decode cX1_wantsTask 15 = .ok (.if_icmp .ne 24, 3) := by decide +kernel
theorem dX1_wantsTask_18 : decode cX1_wantsTask 18 = .ok (.aload_n 0, 1) := by decide +kernel
theorem dX1_wantsTask_19 : decode cX1_wantsTask 19 = .ok (.aload_n 1, 1) := by decide +kernel
theorem dX1_wantsTask_20 : decode cX1_wantsTask 20 = .ok (.getfield 107, 3) := by decide +kernel
theorem dX1_wantsTask_23 : decode cX1_wantsTask 23 = .ok (.invokevirtual 149, 3) := by decide +kernel
theorem dX1_wantsTask_26 : decode cX1_wantsTask 26 = .ok (.invokevirtual 97, 3) := by decide +kernel
theorem dX1_wantsTask_29 : decode cX1_wantsTask 29 = .ok (.invokevirtual 113, 3) := by decide +kernel
theorem dX1_wantsTask_32 : decode cX1_wantsTask 32 = .ok (.ifCond .eq 7, 3) := by decide +kernel
theorem dX1_wantsTask_35 : decode cX1_wantsTask 35 = .ok (.iconst 1, 1) := by decide +kernel
theorem dX1_wantsTask_36 : decode cX1_wantsTask 36 = .ok (.goto 4, 3) := by decide +kernel
theorem dX1_wantsTask_39 : decode cX1_wantsTask 39 = .ok (.iconst 0, 1) := by decide +kernel
theorem dX1_wantsTask_40 : decode cX1_wantsTask 40 = .ok (.ireturn, 1) := by decide +kernel
set_option maxRecDepth 20000 in
theorem ggX1_take_X1_sourceFor : GoodIn wsX1_take wsX1_sourceFor := goodIn_r _ [5, 6, 7, 8, 9, 10, 4, 11, 12, 13, 14, 15, 16, 17, 18, 19, 20, 21, 22, 23, 24, 25, 26, 70, 71, 72, 73, 74, 75, 76, 77, 78, 79, 80, 81, 82, 83, 53, 54, 55, 56, 57, 58] (by decide +kernel) (by decide +kernel)
set_option maxRecDepth 20000 in
theorem gX1_take_X1_sourceFor : GoodIn wsX1_take (wsV RX1 145 RX1 yX1_sourceFor wsX1_sourceFor) := goodIn_app (goodIn_of _ (by decide +kernel)) ggX1_take_X1_sourceFor
set_option maxRecDepth 20000 in
theorem ggX1_take_X1_rowOf : GoodIn wsX1_take wsX1_rowOf := goodIn_r _ [11, 6, 12, 13, 14, 4, 15, 16, 17, 72, 73, 74, 75, 76, 77, 78, 79, 80, 81, 82, 83, 53, 54, 55, 56, 57, 58] (by decide +kernel) (by decide +kernel)
set_option maxRecDepth 20000 in
theorem gX1_take_X1_rowOf : GoodIn wsX1_take (wsV RX1 205 RX1 yX1_rowOf wsX1_rowOf) := goodIn_app (goodIn_of _ (by decide +kernel)) ggX1_take_X1_rowOf
set_option maxRecDepth 20000 in
theorem ggX1_take_X2_last : GoodIn wsX1_take wsX2_last := goodIn_r _ [31, 32, 33, 34, 35, 30, 36, 37, 70, 71] (by decide +kernel) (by decide +kernel)
set_option maxRecDepth 20000 in
theorem gX1_take_X2_last : GoodIn wsX1_take (wsV RX1 149 RX2 yX2_last wsX2_last) := goodIn_app (goodIn_of _ (by decide +kernel)) ggX1_take_X2_last
set_option maxRecDepth 20000 in
theorem ggX1_take_X2_at : GoodIn wsX1_take wsX2_at := goodIn_r _ [36, 32, 37, 70, 71] (by decide +kernel) (by decide +kernel)
set_option maxRecDepth 20000 in
theorem gX1_take_X2_at : GoodIn wsX1_take (wsV RX1 209 RX2 yX2_at wsX2_at) := goodIn_app (goodIn_of _ (by decide +kernel)) ggX1_take_X2_at
set_option maxRecDepth 20000 in
theorem ggX1_take_X2_remove : GoodIn wsX1_take wsX2_remove := goodIn_r _ [42, 32, 37, 70, 71] (by decide +kernel) (by decide +kernel)
set_option maxRecDepth 20000 in
theorem gX1_take_X2_remove : GoodIn wsX1_take (wsV RX1 212 RX2 yX2_remove wsX2_remove) := goodIn_app (goodIn_of _ (by decide +kernel)) ggX1_take_X2_remove
set_option maxRecDepth 20000 in
theorem ggX1_take_X2_append : GoodIn wsX1_take wsX2_append := goodIn_r _ [46, 32, 37, 70, 71] (by decide +kernel) (by decide +kernel)
set_option maxRecDepth 20000 in
theorem gX1_take_X2_append : GoodIn wsX1_take (wsV RX1 162 RX2 yX2_append wsX2_append) := goodIn_app (goodIn_of _ (by decide +kernel)) ggX1_take_X2_append
set_option maxRecDepth 20000 in
theorem ggX1_take_X1_taskAt : GoodIn wsX1_take wsX1_taskAt := goodIn_r _ [50, 51, 52, 72, 73, 74, 75, 76, 77, 78, 79, 80, 81, 82, 83] (by decide +kernel) (by decide +kernel)
set_option maxRecDepth 20000 in
theorem gX1_take_X1_taskAt : GoodIn wsX1_take (wsV RX1 97 RX1 yX1_taskAt wsX1_taskAt) := goodIn_app (goodIn_of _ (by decide +kernel)) ggX1_take_X1_taskAt
theorem dX1_take_0 : decode cX1_take 0 = .ok (.aload_n 0, 1) := by decide +kernel
theorem dX1_take_1 : decode cX1_take 1 = .ok (.iload_n 1, 1) := by decide +kernel
theorem dX1_take_2 : decode cX1_take 2 = .ok (.invokevirtual 145, 3) := by decide +kernel
theorem dX1_take_5 : decode cX1_take 5 = .ok (.istore_n 3, 1) := by decide +kernel
theorem dX1_take_6 : decode cX1_take 6 = .ok (.iload_n 3, 1) := by decide +kernel
theorem dX1_take_7 : decode cX1_take 7 = .ok (.bipush (-2), 2) := by decide +kernel
theorem dX1_take_9 : decode cX1_take 9 = .ok (.if_icmp .ne 15, 3) := by decide +kernel
theorem dX1_take_12 : decode cX1_take 12 = .ok (.aload_n 2, 1) := by decide +kernel
theorem dX1_take_13 : decode cX1_take 13 = .ok (.dup, 1) := by decide +kernel
theorem dX1_take_14 : decode cX1_take 14 = .ok (.getfield 198, 3) := by decide +kernel
theorem dX1_take_17 : decode cX1_take 17 = .ok (.iconst 1, 1) := by decide +kernel
theorem dX1_take_18 : decode cX1_take 18 = .ok (.iadd, 1) := by decide +kernel
theorem dX1_take_19 : decode cX1_take 19 = .ok (.putfield 198, 3) := by decide +kernel
theorem dX1_take_22 : decode cX1_take 22 = .ok (.iconst 0, 1) := by decide +kernel
theorem dX1_take_23 : decode cX1_take 23 = .ok (.ireturn, 1) := by decide +kernel
theorem dX1_take_24 : decode cX1_take 24 = .ok (.aload_n 0, 1) := by decide +kernel
theorem dX1_take_25 : decode cX1_take 25 = .ok (.iload_n 3, 1) := by decide +kernel
theorem dX1_take_26 : decode cX1_take 26 = .ok (.invokevirtual 205, 3) := by decide +kernel
theorem dX1_take_29 : decode cX1_take 29 = .ok (.astore 4, 2) := by decide +kernel
theorem dX1_take_31 : decode cX1_take 31 = .ok (.iload_n 3, 1) := by decide +kernel
theorem dX1_take_32 : decode cX1_take 32 = .ok (.iload_n 1, 1) := by decide +kernel
theorem dX1_take_33 : decode cX1_take 33 = .ok (.if_icmp .ne 11, 3) := by decide +kernel
theorem dX1_take_36 : decode cX1_take 36 = .ok (.aload 4, 2) := by decide +kernel
theorem dX1_take_38 : decode cX1_take 38 = .ok (.invokevirtual 149, 3) := by decide +kernel
theorem dX1_take_41 : decode cX1_take 41 = .ok (.goto 9, 3) := by decide +kernel
theorem dX1_take_44 : decode cX1_take 44 = .ok (.aload 4, 2) := by decide +kernel
theorem dX1_take_46 : decode cX1_take 46 = .ok (.iconst 0, 1) := by decide +kernel
theorem dX1_take_47 : decode cX1_take 47 = .ok (.invokevirtual 209, 3) := by decide +kernel
theorem dX1_take_50 : decode cX1_take 50 = .ok (.istore 5, 2) := by decide +kernel
theorem dX1_take_52 : decode cX1_take 52 = .ok (.aload 4, 2) := by decide +kernel
theorem dX1_take_54 : decode cX1_take 54 = .ok (.iload 5, 2) := by decide +kernel
theorem dX1_take_56 : decode cX1_take 56 = .ok (.invokevirtual 212, 3) := by decide +kernel
theorem dX1_take_59 : decode cX1_take 59 = .ok (.aload_n 2, 1) := by decide +kernel
theorem dX1_take_60 : decode cX1_take 60 = .ok (.getfield 107, 3) := by decide +kernel
theorem dX1_take_63 : decode cX1_take 63 = .ok (.iload 5, 2) := by decide +kernel
theorem dX1_take_65 : decode cX1_take 65 = .ok (.invokevirtual 162, 3) := by decide +kernel
theorem dX1_take_68 : decode cX1_take 68 = .ok (.aload_n 0, 1) := by decide +kernel
theorem dX1_take_69 : decode cX1_take 69 = .ok (.iload 5, 2) := by decide +kernel
theorem dX1_take_71 : decode cX1_take 71 = .ok (.invokevirtual 97, 3) := by decide +kernel
theorem dX1_take_74 : decode cX1_take 74 = .ok (.iconst 1, 1) := by decide +kernel
theorem dX1_take_75 : decode cX1_take 75 = .ok (.putfield 104, 3) := by decide +kernel
theorem dX1_take_78 : decode cX1_take 78 = .ok (.iload_n 3, 1) := by decide +kernel
theorem dX1_take_79 : decode cX1_take 79 = .ok (.iload_n 1, 1) := by decide +kernel
theorem dX1_take_80 : decode cX1_take 80 = .ok (.if_icmp .eq 8, 3) := by decide +kernel
theorem dX1_take_83 : decode cX1_take 83 = .ok (.iload_n 3, 1) := by decide +kernel
theorem dX1_take_84 : decode cX1_take 84 = .ok (.iconst (-1), 1) := by decide +kernel
theorem dX1_take_85 : decode cX1_take 85 = .ok (.if_icmp .ne 5, 3) := by decide +kernel
theorem dX1_take_88 : decode cX1_take 88 = .ok (.iconst 1, 1) := by decide +kernel
theorem dX1_take_89 : decode cX1_take 89 = .ok (.ireturn, 1) := by decide +kernel
theorem dX1_take_90 : decode cX1_take 90 = .ok (.aload_n 2, 1) := by decide +kernel
theorem dX1_take_91 : decode cX1_take 91 = .ok (.dup, 1) := by decide +kernel
theorem dX1_take_92 : decode cX1_take 92 = .ok (.getfield 215, 3) := by decide +kernel
theorem dX1_take_95 : decode cX1_take 95 = .ok (.iconst 1, 1) := by decide +kernel
theorem dX1_take_96 : decode cX1_take 96 = .ok (.iadd, 1) := by decide +kernel
theorem dX1_take_97 : decode cX1_take 97 = .ok (.putfield 215, 3) := by decide +kernel
theorem dX1_take_100 : decode cX1_take 100 = .ok (.iconst 0, 1) := by decide +kernel
theorem dX1_take_101 : decode cX1_take 101 = .ok (.ireturn, 1) := by decide +kernel
set_option maxRecDepth 20000 in
theorem ggX1_sourceFor_X1_rowOf : GoodIn wsX1_sourceFor wsX1_rowOf := goodIn_r _ [7, 1, 8, 9, 10, 6, 11, 12, 13, 25, 26, 27, 28, 29, 30, 31, 32, 33, 34, 35, 36, 37, 38, 39, 40, 41, 42] (by decide +kernel) (by decide +kernel)
set_option maxRecDepth 20000 in
theorem gX1_sourceFor_X1_rowOf : GoodIn wsX1_sourceFor (wsV RX1 205 RX1 yX1_rowOf wsX1_rowOf) := goodIn_app (goodIn_of _ (by decide +kernel)) ggX1_sourceFor_X1_rowOf
set_option maxRecDepth 20000 in
theorem ggX1_sourceFor_X1_nextWithTasks : GoodIn wsX1_sourceFor wsX1_nextWithTasks := goodIn_r _ [17, 18, 3, 4, 5, 6, 7, 1, 8, 9, 10, 11, 12, 13, 25, 26, 27, 28, 29, 30, 31, 32, 33, 34, 35, 36, 23, 24, 37, 38, 39, 40, 41, 42] (by decide +kernel) (by decide +kernel)
set_option maxRecDepth 20000 in
theorem gX1_sourceFor_X1_nextWithTasks : GoodIn wsX1_sourceFor (wsV RX1 218 RX1 yX1_nextWithTasks wsX1_nextWithTasks) := goodIn_app (goodIn_of _ (by decide +kernel)) ggX1_sourceFor_X1_nextWithTasks
set_option maxRecDepth 20000 in
theorem ggX1_sourceFor_X1_firstWithMostTasks : GoodIn wsX1_sourceFor wsX1_firstWithMostTasks := goodIn_r _ [22, 18, 3, 4, 5, 6, 7, 1, 8, 9, 10, 11, 12, 13, 25, 26, 27, 28, 29, 30, 31, 32, 33, 34, 35, 36, 23, 24, 37, 38, 39, 40, 41, 42] (by decide +kernel) (by decide +kernel)
set_option maxRecDepth 20000 in
theorem gX1_sourceFor_X1_firstWithMostTasks : GoodIn wsX1_sourceFor (wsV RX1 221 RX1 yX1_firstWithMostTasks wsX1_firstWithMostTasks) := goodIn_app (goodIn_of _ (by decide +kernel)) ggX1_sourceFor_X1_firstWithMostTasks
theorem dX1_sourceFor_0 : decode cX1_sourceFor 0 = .ok (.aload_n 0, 1) := by decide +kernel
theorem dX1_sourceFor_1 : decode cX1_sourceFor 1 = .ok (.iload_n 1, 1) := by decide +kernel
theorem dX1_sourceFor_2 : decode cX1_sourceFor 2 = .ok (.invokevirtual 205, 3) := by decide +kernel
theorem dX1_sourceFor_5 : decode cX1_sourceFor 5 = .ok (.getfield 110, 3) := by decide +kernel
theorem dX1_sourceFor_8 : decode cX1_sourceFor 8 = .ok (.ifCond .le 5, 3) := by decide +kernel
theorem dX1_sourceFor_11 : decode cX1_sourceFor 11 = .ok (.iload_n 1, 1) := by decide +kernel
theorem dX1_sourceFor_12 : decode cX1_sourceFor 12 = .ok (.ireturn, 1) := by decide +kernel
theorem dX1_sourceFor_13 : decode cX1_sourceFor 13 = .ok (.aload_n 0, 1) := by decide +kernel
theorem dX1_sourceFor_14 : decode cX1_sourceFor 14 = .ok (.getfield 38, 3) := by decide +kernel
theorem dX1_sourceFor_17 : decode cX1_sourceFor 17 = .ok (.getfield 110, 3) := by decide +kernel
theorem dX1_sourceFor_20 : decode cX1_sourceFor 20 = .ok (.ifCond .le 5, 3) := by decide +kernel
theorem dX1_sourceFor_23 : decode cX1_sourceFor 23 = .ok (.iconst (-1), 1) := by decide +kernel
theorem dX1_sourceFor_24 : decode cX1_sourceFor 24 = .ok (.ireturn, 1) := by decide +kernel
theorem dX1_sourceFor_25 : decode cX1_sourceFor 25 = .ok (.aload_n 0, 1) := by decide +kernel
theorem dX1_sourceFor_26 : decode cX1_sourceFor 26 = .ok (.getfield 74, 3) := by decide +kernel
theorem dX1_sourceFor_29 : decode cX1_sourceFor 29 = .ok (.ifCond .ne 9, 3) := by decide +kernel
theorem dX1_sourceFor_32 : decode cX1_sourceFor 32 = .ok (.aload_n 0, 1) := by decide +kernel
theorem dX1_sourceFor_33 : decode cX1_sourceFor 33 = .ok (.iload_n 1, 1) := by decide +kernel
theorem dX1_sourceFor_34 : decode cX1_sourceFor 34 = .ok (.invokevirtual 218, 3) := by decide +kernel
theorem dX1_sourceFor_37 : decode cX1_sourceFor 37 = .ok (.ireturn, 1) := by decide +kernel
theorem dX1_sourceFor_38 : decode cX1_sourceFor 38 = .ok (.aload_n 0, 1) := by decide +kernel
theorem dX1_sourceFor_39 : decode cX1_sourceFor 39 = .ok (.getfield 74, 3) := by decide +kernel
theorem dX1_sourceFor_42 : decode cX1_sourceFor 42 = .ok (.iconst 1, 1) := by decide +kernel
theorem dX1_sourceFor_43 : decode cX1_sourceFor 43 = .ok (.if_icmp .ne 10, 3) := by decide +kernel
theorem dX1_sourceFor_46 : decode cX1_sourceFor 46 = .ok (.aload_n 0, 1) := by decide +kernel
theorem dX1_sourceFor_47 : decode cX1_sourceFor 47 = .ok (.invokevirtual 221, 3) := by decide +kernel
theorem dX1_sourceFor_50 : decode cX1_sourceFor 50 = .ok (.goto 5, 3) := by decide +kernel
theorem dX1_sourceFor_53 : decode cX1_sourceFor 53 = .ok (.bipush (-2), 2) := by decide +kernel
theorem dX1_sourceFor_55 : decode cX1_sourceFor 55 = .ok (.ireturn, 1) := by decide +kernel
set_option maxRecDepth 20000 in
theorem ggX1_nextWithTasks_X1_rowOf : GoodIn wsX1_nextWithTasks wsX1_rowOf := goodIn_r _ [6, 7, 8, 9, 10, 5, 11, 12, 13, 14, 15, 16, 17, 18, 19, 20, 21, 22, 23, 24, 25, 28, 29, 30, 31, 32, 33] (by decide +kernel) (by decide +kernel)
set_option maxRecDepth 20000 in
theorem gX1_nextWithTasks_X1_rowOf : GoodIn wsX1_nextWithTasks (wsV RX1 205 RX1 yX1_rowOf wsX1_rowOf) := goodIn_app (goodIn_of _ (by decide +kernel)) ggX1_nextWithTasks_X1_rowOf
theorem dX1_nextWithTasks_0 : decode cX1_nextWithTasks 0 = .ok (.iconst 1, 1) := by decide +kernel
theorem dX1_nextWithTasks_1 : decode cX1_nextWithTasks 1 = .ok (.istore_n 2, 1) := by decide +kernel
theorem dX1_nextWithTasks_2 : decode cX1_nextWithTasks 2 = .ok (.iload_n 2, 1) := by decide +kernel
theorem dX1_nextWithTasks_3 : decode cX1_nextWithTasks 3 = .ok (.aload_n 0, 1) := by decide +kernel
theorem dX1_nextWithTasks_4 : decode cX1_nextWithTasks 4 = .ok (.getfield 57, 3) := by decide +kernel
theorem dX1_nextWithTasks_7 : decode cX1_nextWithTasks 7 = .ok (.if_icmp .ge 47, 3) := by decide +kernel
theorem dX1_nextWithTasks_10 : decode cX1_nextWithTasks 10 = .ok (.iload_n 1, 1) := by decide +kernel
theorem dX1_nextWithTasks_11 : decode cX1_nextWithTasks 11 = .ok (.iload_n 2, 1) := by decide +kernel
theorem dX1_nextWithTasks_12 : decode cX1_nextWithTasks 12 = .ok (.iadd, 1) := by decide +kernel
theorem dX1_nextWithTasks_13 : decode cX1_nextWithTasks 13 = .ok (.aload_n 0, 1) := by decide +kernel
theorem dX1_nextWithTasks_14 : decode cX1_nextWithTasks 14 = .ok (.getfield 57, 3) := by decide +kernel
theorem dX1_nextWithTasks_17 : decode cX1_nextWithTasks 17 = .ok (.if_icmp .ge 9, 3) := by decide +kernel
theorem dX1_nextWithTasks_20 : decode cX1_nextWithTasks 20 = .ok (.iload_n 1, 1) := by decide +kernel
theorem dX1_nextWithTasks_21 : decode cX1_nextWithTasks 21 = .ok (.iload_n 2, 1) := by decide +kernel
theorem dX1_nextWithTasks_22 : decode cX1_nextWithTasks 22 = .ok (.iadd, 1) := by decide +kernel
theorem dX1_nextWithTasks_23 : decode cX1_nextWithTasks 23 = .ok (.goto 11, 3) := by decide +kernel
theorem dX1_nextWithTasks_26 : decode cX1_nextWithTasks 26 = .ok (.iload_n 1, 1) := by decide +kernel
theorem dX1_nextWithTasks_27 : decode cX1_nextWithTasks 27 = .ok (.iload_n 2, 1) := by decide +kernel
theorem dX1_nextWithTasks_28 : decode cX1_nextWithTasks 28 = .ok (.iadd, 1) := by decide +kernel
theorem dX1_nextWithTasks_29 : decode cX1_nextWithTasks 29 = .ok (.aload_n 0, 1) := by decide +kernel
theorem dX1_nextWithTasks_30 : decode cX1_nextWithTasks 30 = .ok (.getfield 57, 3) := by decide +kernel
theorem dX1_nextWithTasks_33 : decode cX1_nextWithTasks 33 = .ok (.isub, 1) := by decide +kernel
theorem dX1_nextWithTasks_34 : decode cX1_nextWithTasks 34 = .ok (.istore_n 3, 1) := by decide +kernel
theorem dX1_nextWithTasks_35 : decode cX1_nextWithTasks 35 = .ok (.aload_n 0, 1) := by decide +kernel
theorem dX1_nextWithTasks_36 : decode cX1_nextWithTasks 36 = .ok (.iload_n 3, 1) := by decide +kernel
theorem dX1_nextWithTasks_37 : decode cX1_nextWithTasks 37 = .ok (.invokevirtual 205, 3) := by decide +kernel
theorem dX1_nextWithTasks_40 : decode cX1_nextWithTasks 40 = .ok (.getfield 110, 3) := by decide +kernel
theorem dX1_nextWithTasks_43 : decode cX1_nextWithTasks 43 = .ok (.ifCond .le 5, 3) := by decide +kernel
theorem dX1_nextWithTasks_46 : decode cX1_nextWithTasks 46 = .ok (.iload_n 3, 1) := by decide +kernel
theorem dX1_nextWithTasks_47 : decode cX1_nextWithTasks 47 = .ok (.ireturn, 1) := by decide +kernel
theorem dX1_nextWithTasks_48 : decode cX1_nextWithTasks 48 = .ok (.iinc 2 1, 3) := by decide +kernel
theorem dX1_nextWithTasks_51 : decode cX1_nextWithTasks 51 = .ok (.goto (-49), 3) := by decide +kernel
theorem dX1_nextWithTasks_54 : decode cX1_nextWithTasks 54 = .ok (.bipush (-2), 2) := by decide +kernel
theorem dX1_nextWithTasks_56 : decode cX1_nextWithTasks 56 = .ok (.ireturn, 1) := by decide +kernel
set_option maxRecDepth 20000 in
theorem ggX1_firstWithMostTasks_X1_rowOf : GoodIn wsX1_firstWithMostTasks wsX1_rowOf := goodIn_r _ [6, 7, 8, 9, 10, 5, 11, 12, 13, 14, 15, 16, 17, 18, 19, 20, 21, 22, 23, 24, 25, 28, 29, 30, 31, 32, 33] (by decide +kernel) (by decide +kernel)
set_option maxRecDepth 20000 in
theorem gX1_firstWithMostTasks_X1_rowOf : GoodIn wsX1_firstWithMostTasks (wsV RX1 205 RX1 yX1_rowOf wsX1_rowOf) := goodIn_app (goodIn_of _ (by decide +kernel)) ggX1_firstWithMostTasks_X1_rowOf
theorem dX1_firstWithMostTasks_0 : decode cX1_firstWithMostTasks 0 = .ok (.bipush (-2), 2) := by decide +kernel
theorem dX1_firstWithMostTasks_2 : decode cX1_firstWithMostTasks 2 = .ok (.istore_n 1, 1) := by decide +kernel
theorem dX1_firstWithMostTasks_3 : decode cX1_firstWithMostTasks 3 = .ok (.iconst 0, 1) := by decide +kernel
theorem dX1_firstWithMostTasks_4 : decode cX1_firstWithMostTasks 4 = .ok (.istore_n 2, 1) := by decide +kernel
theorem dX1_firstWithMostTasks_5 : decode cX1_firstWithMostTasks 5 = .ok (.iconst 0, 1) := by decide +kernel
theorem dX1_firstWithMostTasks_6 : decode cX1_firstWithMostTasks 6 = .ok (.istore_n 3, 1) := by decide +kernel
theorem dX1_firstWithMostTasks_7 : decode cX1_firstWithMostTasks 7 = .ok (.iload_n 3, 1) := by decide +kernel
theorem dX1_firstWithMostTasks_8 : decode cX1_firstWithMostTasks 8 = .ok (.aload_n 0, 1) := by decide +kernel
theorem dX1_firstWithMostTasks_9 : decode cX1_firstWithMostTasks 9 = .ok (.getfield 57, 3) := by decide +kernel
theorem dX1_firstWithMostTasks_12 : decode cX1_firstWithMostTasks 12 = .ok (.if_icmp .ge 30, 3) := by decide +kernel
theorem dX1_firstWithMostTasks_15 : decode cX1_firstWithMostTasks 15 = .ok (.aload_n 0, 1) := by decide +kernel
theorem dX1_firstWithMostTasks_16 : decode cX1_firstWithMostTasks 16 = .ok (.iload_n 3, 1) := by decide +kernel
theorem dX1_firstWithMostTasks_17 : decode cX1_firstWithMostTasks 17 = .ok (.invokevirtual 205, 3) := by decide +kernel
theorem dX1_firstWithMostTasks_20 : decode cX1_firstWithMostTasks 20 = .ok (.getfield 110, 3) := by decide +kernel
theorem dX1_firstWithMostTasks_23 : decode cX1_firstWithMostTasks 23 = .ok (.istore 4, 2) := by decide +kernel
theorem dX1_firstWithMostTasks_25 : decode cX1_firstWithMostTasks 25 = .ok (.iload 4, 2) := by decide +kernel
theorem dX1_firstWithMostTasks_27 : decode cX1_firstWithMostTasks 27 = .ok (.iload_n 2, 1) := by decide +kernel
theorem dX1_firstWithMostTasks_28 : decode cX1_firstWithMostTasks 28 = .ok (.if_icmp .le 8, 3) := by decide +kernel
theorem dX1_firstWithMostTasks_31 : decode cX1_firstWithMostTasks 31 = .ok (.iload 4, 2) := by decide +kernel
theorem dX1_firstWithMostTasks_33 : decode cX1_firstWithMostTasks 33 = .ok (.istore_n 2, 1) := by decide +kernel
theorem dX1_firstWithMostTasks_34 : decode cX1_firstWithMostTasks 34 = .ok (.iload_n 3, 1) := by decide +kernel
theorem dX1_firstWithMostTasks_35 : decode cX1_firstWithMostTasks 35 = .ok (.istore_n 1, 1) := by decide +kernel
theorem dX1_firstWithMostTasks_36 : decode cX1_firstWithMostTasks 36 = .ok (.iinc 3 1, 3) := by decide +kernel
theorem dX1_firstWithMostTasks_39 : decode cX1_firstWithMostTasks 39 = .ok (.goto (-32), 3) := by decide +kernel
theorem dX1_firstWithMostTasks_42 : decode cX1_firstWithMostTasks 42 = .ok (.iload_n 1, 1) := by decide +kernel
theorem dX1_firstWithMostTasks_43 : decode cX1_firstWithMostTasks 43 = .ok (.ireturn, 1) := by decide +kernel
set_option maxRecDepth 20000 in
theorem ggX1_goOn_X0_scriptAt : GoodIn wsX1_goOn wsX0_scriptAt := goodIn_r _ [6, 7, 8, 188, 189, 190] (by decide +kernel) (by decide +kernel)
set_option maxRecDepth 20000 in
theorem gX1_goOn_X0_scriptAt : GoodIn wsX1_goOn (wsV RX1 165 RX0 yX0_scriptAt wsX0_scriptAt) := goodIn_app (goodIn_of _ (by decide +kernel)) ggX1_goOn_X0_scriptAt
set_option maxRecDepth 20000 in
theorem ggX1_goOn_X3_codeAt : GoodIn wsX1_goOn wsX3_codeAt := goodIn_r _ [13, 14, 185, 186, 187] (by decide +kernel) (by decide +kernel)
set_option maxRecDepth 20000 in
theorem gX1_goOn_X3_codeAt : GoodIn wsX1_goOn (wsV RX1 225 RX3 yX3_codeAt wsX3_codeAt) := goodIn_app (goodIn_of _ (by decide +kernel)) ggX1_goOn_X3_codeAt
set_option maxRecDepth 20000 in
theorem ggX1_goOn_X3_numberAt : GoodIn wsX1_goOn wsX3_numberAt := goodIn_r _ [18, 19, 185, 186, 187] (by decide +kernel) (by decide +kernel)
set_option maxRecDepth 20000 in
theorem gX1_goOn_X3_numberAt : GoodIn wsX1_goOn (wsV RX1 174 RX3 yX3_numberAt wsX3_numberAt) := goodIn_app (goodIn_of _ (by decide +kernel)) ggX1_goOn_X3_numberAt
set_option maxRecDepth 20000 in
theorem ggX1_goOn_X1_work : GoodIn wsX1_goOn wsX1_work := goodIn_r _ [24, 25, 26, 27, 28, 23, 29, 30, 31, 32, 33, 34, 35, 36, 37, 38, 39, 40, 41, 191, 192, 193, 194, 195, 196, 162, 163, 164, 165, 166, 167, 168, 169, 170, 171, 172, 173, 174, 175, 176, 177, 178, 179, 180, 181, 182, 183, 184] (by decide +kernel) (by decide +kernel)
set_option maxRecDepth 20000 in
theorem gX1_goOn_X1_work : GoodIn wsX1_goOn (wsV RX1 228 RX1 yX1_work wsX1_work) := goodIn_app (goodIn_of _ (by decide +kernel)) ggX1_goOn_X1_work
set_option maxRecDepth 20000 in
theorem ggX1_goOn_X1_fork : GoodIn wsX1_goOn wsX1_fork := goodIn_r _ [45, 46, 47, 48, 49, 23, 50, 51, 52, 53, 54, 55, 56, 57, 58, 59, 60, 61, 62, 63, 64, 65, 66, 67, 68, 69, 70, 71, 72, 73, 74, 75, 76, 26, 27, 28, 29, 30, 31, 77, 78, 79, 80, 81, 82, 83, 162, 163, 164, 165, 166, 167, 168, 169, 170, 171, 172, 173, 174, 175, 176, 177, 178, 179, 180, 181, 182, 183, 184, 191, 192, 193, 194, 195, 196, 197, 198] (by decide +kernel) (by decide +kernel)
set_option maxRecDepth 20000 in
theorem gX1_goOn_X1_fork : GoodIn wsX1_goOn (wsV RX1 232 RX1 yX1_fork wsX1_fork) := goodIn_app (goodIn_of _ (by decide +kernel)) ggX1_goOn_X1_fork
set_option maxRecDepth 20000 in
theorem ggX1_goOn_X1_join : GoodIn wsX1_goOn wsX1_join := goodIn_r _ [87, 88, 89, 90, 60, 91, 67, 92, 93, 94, 95, 96, 51, 52, 53, 23, 54, 55, 56, 97, 98, 99, 100, 63, 101, 102, 103, 104, 105, 26, 27, 28, 29, 30, 31, 106, 107, 108, 80, 109, 82, 83, 110, 111, 112, 113, 114, 115, 65, 116, 117, 118, 119, 120, 121, 122, 123, 124, 125, 126, 25, 76, 127, 128, 129, 130, 131, 132, 133, 134, 135, 77, 78, 79, 81, 174, 175, 176, 177, 178, 179, 180, 181, 182, 183, 184, 162, 163, 164, 165, 166, 167, 168, 169, 170, 171, 172, 173, 191, 192, 193, 194, 195, 196, 197, 198] (by decide +kernel) (by decide +kernel)
set_option maxRecDepth 20000 in
theorem gX1_goOn_X1_join : GoodIn wsX1_goOn (wsV RX1 236 RX1 yX1_join wsX1_join) := goodIn_app (goodIn_of _ (by decide +kernel)) ggX1_goOn_X1_join
set_option maxRecDepth 20000 in
theorem ggX1_goOn_X4_addValue : GoodIn wsX1_goOn wsX4_addValue := goodIn_r _ [113, 114, 115, 65, 116, 117, 118, 119, 120, 121, 122, 174, 175, 176, 177, 178, 179, 180, 181, 182, 183, 184] (by decide +kernel) (by decide +kernel)
set_option maxRecDepth 20000 in
theorem gX1_goOn_X4_addValue : GoodIn wsX1_goOn (wsV RX1 239 RX4 yX4_addValue wsX4_addValue) := goodIn_app (goodIn_of _ (by decide +kernel)) ggX1_goOn_X4_addValue
set_option maxRecDepth 20000 in
theorem ggX1_goOn_X1_end : GoodIn wsX1_goOn wsX1_end := goodIn_r _ [126, 25, 76, 127, 106, 107, 108, 80, 109, 82, 83, 26, 27, 28, 23, 29, 30, 31, 51, 52, 53, 54, 55, 56, 88, 89, 90, 60, 91, 67, 92, 93, 94, 95, 96, 128, 129, 130, 131, 132, 133, 134, 135, 77, 78, 79, 81, 174, 175, 176, 177, 178, 179, 180, 181, 182, 183, 184, 162, 163, 164, 165, 166, 167, 168, 169, 170, 171, 172, 173, 191, 192, 193, 194, 195, 196, 197, 198] (by decide +kernel) (by decide +kernel)
set_option maxRecDepth 20000 in
theorem gX1_goOn_X1_end : GoodIn wsX1_goOn (wsV RX1 182 RX1 yX1_end wsX1_end) := goodIn_app (goodIn_of _ (by decide +kernel)) ggX1_goOn_X1_end
set_option maxRecDepth 20000 in
theorem ggX1_goOn_X1_cancelBelow : GoodIn wsX1_goOn wsX1_cancelBelow := goodIn_r _ [139, 46, 51, 52, 53, 23, 54, 55, 56, 140, 141, 142, 97, 98, 99, 60, 100, 63, 123, 124, 125, 126, 25, 76, 127, 106, 107, 108, 80, 109, 82, 83, 26, 27, 28, 29, 30, 31, 88, 89, 90, 91, 67, 92, 93, 94, 95, 96, 128, 129, 130, 131, 132, 133, 134, 135, 77, 78, 79, 81, 174, 175, 176, 177, 178, 179, 180, 181, 182, 183, 184, 162, 163, 164, 165, 166, 167, 168, 169, 170, 171, 172, 173, 191, 192, 193, 194, 195, 196, 197, 198] (by decide +kernel) (by decide +kernel)
set_option maxRecDepth 20000 in
theorem gX1_goOn_X1_cancelBelow : GoodIn wsX1_goOn (wsV RX1 242 RX1 yX1_cancelBelow wsX1_cancelBelow) := goodIn_app (goodIn_of _ (by decide +kernel)) ggX1_goOn_X1_cancelBelow
set_option maxRecDepth 20000 in
theorem ggX1_goOn_X1_await : GoodIn wsX1_goOn wsX1_await := goodIn_r _ [146, 147, 148, 149, 150, 23, 151, 152, 101, 102, 103, 104, 105, 26, 27, 28, 29, 30, 31, 106, 107, 108, 80, 109, 82, 83, 110, 111, 112, 60, 113, 114, 115, 65, 116, 117, 118, 119, 120, 121, 122, 162, 163, 164, 165, 166, 167, 168, 169, 170, 171, 172, 173, 174, 175, 176, 177, 178, 179, 180, 181, 182, 183, 184, 191, 192, 193, 194, 195, 196, 197, 198] (by decide +kernel) (by decide +kernel)
set_option maxRecDepth 20000 in
theorem gX1_goOn_X1_await : GoodIn wsX1_goOn (wsV RX1 246 RX1 yX1_await wsX1_await) := goodIn_app (goodIn_of _ (by decide +kernel)) ggX1_goOn_X1_await
set_option maxRecDepth 20000 in
theorem ggX1_goOn_X1_keepPromise : GoodIn wsX1_goOn wsX1_keepPromise := goodIn_r _ [156, 152, 147, 46, 1, 51, 52, 53, 23, 54, 55, 56, 2, 3, 4, 5, 6, 7, 8, 15, 16, 17, 12, 18, 19, 128, 129, 130, 131, 127, 26, 27, 28, 29, 30, 31, 132, 133, 134, 80, 135, 82, 83, 77, 78, 79, 81, 162, 163, 164, 165, 166, 167, 168, 169, 170, 171, 172, 173, 174, 175, 176, 177, 178, 179, 180, 181, 182, 183, 184, 188, 189, 190, 185, 186, 187, 191, 192, 193, 194, 195, 196, 197, 198] (by decide +kernel) (by decide +kernel)
set_option maxRecDepth 20000 in
theorem gX1_goOn_X1_keepPromise : GoodIn wsX1_goOn (wsV RX1 252 RX1 yX1_keepPromise wsX1_keepPromise) := goodIn_app (goodIn_of _ (by decide +kernel)) ggX1_goOn_X1_keepPromise
set_option maxRecDepth 20000 in
theorem ggX1_goOn_X1_advance : GoodIn wsX1_goOn wsX1_advance := goodIn_r _ [160, 161, 117, 118, 119, 123, 124, 125, 23, 126, 25, 76, 127, 106, 107, 108, 80, 109, 82, 83, 26, 27, 28, 29, 30, 31, 51, 52, 53, 54, 55, 56, 88, 89, 90, 60, 91, 67, 92, 93, 94, 95, 96, 128, 129, 130, 131, 132, 133, 134, 135, 77, 78, 79, 81, 174, 175, 176, 177, 178, 179, 180, 181, 182, 183, 184, 162, 163, 164, 165, 166, 167, 168, 169, 170, 171, 172, 173, 191, 192, 193, 194, 195, 196, 197, 198] (by decide +kernel) (by decide +kernel)
set_option maxRecDepth 20000 in
theorem gX1_goOn_X1_advance : GoodIn wsX1_goOn (wsV RX1 255 RX1 yX1_advance wsX1_advance) := goodIn_app (goodIn_of _ (by decide +kernel)) ggX1_goOn_X1_advance
theorem dX1_goOn_0 : decode cX1_goOn 0 = .ok (.aload_n 0, 1) := by decide +kernel
theorem dX1_goOn_1 : decode cX1_goOn 1 = .ok (.getfield 46, 3) := by decide +kernel
theorem dX1_goOn_4 : decode cX1_goOn 4 = .ok (.aload_n 2, 1) := by decide +kernel
theorem dX1_goOn_5 : decode cX1_goOn 5 = .ok (.getfield 101, 3) := by decide +kernel
theorem dX1_goOn_8 : decode cX1_goOn 8 = .ok (.invokevirtual 165, 3) := by decide +kernel
theorem dX1_goOn_11 : decode cX1_goOn 11 = .ok (.astore_n 3, 1) := by decide +kernel
theorem dX1_goOn_12 : decode cX1_goOn 12 = .ok (.aload_n 2, 1) := by decide +kernel
theorem dX1_goOn_13 : decode cX1_goOn 13 = .ok (.getfield 171, 3) := by decide +kernel
theorem dX1_goOn_16 : decode cX1_goOn 16 = .ok (.aload_n 3, 1) := by decide +kernel
theorem dX1_goOn_17 : decode cX1_goOn 17 = .ok (.getfield 224, 3) := by decide +kernel
theorem dX1_goOn_20 : decode cX1_goOn 20 = .ok (.if_icmp .ge 14, 3) := by decide +kernel
theorem dX1_goOn_23 : decode cX1_goOn 23 = .ok (.aload_n 3, 1) := by decide +kernel
theorem dX1_goOn_24 : decode cX1_goOn 24 = .ok (.aload_n 2, 1) := by decide +kernel
theorem dX1_goOn_25 : decode cX1_goOn 25 = .ok (.getfield 171, 3) := by decide +kernel
theorem dX1_goOn_28 : decode cX1_goOn 28 = .ok (.invokevirtual 225, 3) := by decide +kernel
theorem dX1_goOn_31 : decode cX1_goOn 31 = .ok (.goto 4, 3) := by decide +kernel
theorem dX1_goOn_34 : decode cX1_goOn 34 = .ok (.iconst (-1), 1) := by decide +kernel
theorem dX1_goOn_35 : decode cX1_goOn 35 = .ok (.istore 4, 2) := by decide +kernel
theorem dX1_goOn_37 : decode cX1_goOn 37 = .ok (.aload_n 3, 1) := by decide +kernel
theorem dX1_goOn_38 : decode cX1_goOn 38 = .ok (.aload_n 2, 1) := by decide +kernel
theorem dX1_goOn_39 : decode cX1_goOn 39 = .ok (.getfield 171, 3) := by decide +kernel
theorem dX1_goOn_42 : decode cX1_goOn 42 = .ok (.invokevirtual 174, 3) := by decide +kernel
theorem dX1_goOn_45 : decode cX1_goOn 45 = .ok (.istore 5, 2) := by decide +kernel
theorem dX1_goOn_47 : decode cX1_goOn 47 = .ok (.iconst 1, 1) := by decide +kernel
theorem dX1_goOn_48 : decode cX1_goOn 48 = .ok (.istore 6, 2) := by decide +kernel
theorem dX1_goOn_50 : decode cX1_goOn 50 = .ok (.iload 4, 2) := by decide +kernel
theorem dX1_goOn_52 : decode cX1_goOn 52 = .ok (.tableswitch 150 0 9 #[56, 69, 80, 80, 80, 93, 102, 114, 123, 136], 56) := by decide +kernel
theorem dX1_goOn_108 : decode cX1_goOn 108 = .ok (.aload_n 0, 1) := by decide +kernel
theorem dX1_goOn_109 : decode cX1_goOn 109 = .ok (.iload_n 1, 1) := by decide +kernel
theorem dX1_goOn_110 : decode cX1_goOn 110 = .ok (.aload_n 2, 1) := by decide +kernel
theorem dX1_goOn_111 : decode cX1_goOn 111 = .ok (.iload 5, 2) := by decide +kernel
theorem dX1_goOn_113 : decode cX1_goOn 113 = .ok (.invokevirtual 228, 3) := by decide +kernel
theorem dX1_goOn_116 : decode cX1_goOn 116 = .ok (.istore 6, 2) := by decide +kernel
theorem dX1_goOn_118 : decode cX1_goOn 118 = .ok (.goto 84, 3) := by decide +kernel
theorem dX1_goOn_121 : decode cX1_goOn 121 = .ok (.aload_n 0, 1) := by decide +kernel
theorem dX1_goOn_122 : decode cX1_goOn 122 = .ok (.iload_n 1, 1) := by decide +kernel
theorem dX1_goOn_123 : decode cX1_goOn 123 = .ok (.aload_n 2, 1) := by decide +kernel
theorem dX1_goOn_124 : decode cX1_goOn 124 = .ok (.iload 5, 2) := by decide +kernel
theorem dX1_goOn_126 : decode cX1_goOn 126 = .ok (.invokevirtual 232, 3) := by decide +kernel
theorem dX1_goOn_129 : decode cX1_goOn 129 = .ok (.goto 73, 3) := by decide +kernel
theorem dX1_goOn_132 : decode cX1_goOn 132 = .ok (.aload_n 0, 1) := by decide +kernel
theorem dX1_goOn_133 : decode cX1_goOn 133 = .ok (.iload_n 1, 1) := by decide +kernel
theorem dX1_goOn_134 : decode cX1_goOn 134 = .ok (.aload_n 2, 1) := by decide +kernel
theorem dX1_goOn_135 : decode cX1_goOn 135 = .ok (.iload 4, 2) := by decide +kernel
theorem dX1_goOn_137 : decode cX1_goOn 137 = .ok (.invokevirtual 236, 3) := by decide +kernel
theorem dX1_goOn_140 : decode cX1_goOn 140 = .ok (.istore 6, 2) := by decide +kernel
theorem dX1_goOn_142 : decode cX1_goOn 142 = .ok (.goto 60, 3) := by decide +kernel
theorem dX1_goOn_145 : decode cX1_goOn 145 = .ok (.aload_n 2, 1) := by decide +kernel
theorem dX1_goOn_146 : decode cX1_goOn 146 = .ok (.iload 5, 2) := by decide +kernel
theorem dX1_goOn_148 : decode cX1_goOn 148 = .ok (.invokevirtual 239, 3) := by decide +kernel
theorem dX1_goOn_151 : decode cX1_goOn 151 = .ok (.goto 51, 3) := by decide +kernel
theorem dX1_goOn_154 : decode cX1_goOn 154 = .ok (.aload_n 0, 1) := by decide +kernel
theorem dX1_goOn_155 : decode cX1_goOn 155 = .ok (.aload_n 2, 1) := by decide +kernel
theorem dX1_goOn_156 : decode cX1_goOn 156 = .ok (.iconst 5, 1) := by decide +kernel
theorem dX1_goOn_157 : decode cX1_goOn 157 = .ok (.invokevirtual 182, 3) := by decide +kernel
theorem dX1_goOn_160 : decode cX1_goOn 160 = .ok (.iconst 0, 1) := by decide +kernel
theorem dX1_goOn_161 : decode cX1_goOn 161 = .ok (.istore 6, 2) := by decide +kernel
theorem dX1_goOn_163 : decode cX1_goOn 163 = .ok (.goto 39, 3) := by decide +kernel
theorem dX1_goOn_166 : decode cX1_goOn 166 = .ok (.aload_n 0, 1) := by decide +kernel
theorem dX1_goOn_167 : decode cX1_goOn 167 = .ok (.aload_n 2, 1) := by decide +kernel
theorem dX1_goOn_168 : decode cX1_goOn 168 = .ok (.invokevirtual 242, 3) := by decide +kernel
theorem dX1_goOn_171 : decode cX1_goOn 171 = .ok (.pop, 1) := by decide +kernel
theorem dX1_goOn_172 : decode cX1_goOn 172 = .ok (.goto 30, 3) := by decide +kernel
theorem dX1_goOn_175 : decode cX1_goOn 175 = .ok (.aload_n 0, 1) := by decide +kernel
theorem dX1_goOn_176 : decode cX1_goOn 176 = .ok (.iload_n 1, 1) := by decide +kernel
theorem dX1_goOn_177 : decode cX1_goOn 177 = .ok (.aload_n 2, 1) := by decide +kernel
theorem dX1_goOn_178 : decode cX1_goOn 178 = .ok (.iload 5, 2) := by decide +kernel
theorem dX1_goOn_180 : decode cX1_goOn 180 = .ok (.invokevirtual 246, 3) := by decide +kernel
theorem dX1_goOn_183 : decode cX1_goOn 183 = .ok (.istore 6, 2) := by decide +kernel
theorem dX1_goOn_185 : decode cX1_goOn 185 = .ok (.goto 17, 3) := by decide +kernel
theorem dX1_goOn_188 : decode cX1_goOn 188 = .ok (.aload_n 0, 1) := by decide +kernel
theorem dX1_goOn_189 : decode cX1_goOn 189 = .ok (.iload 5, 2) := by decide +kernel
theorem dX1_goOn_191 : decode cX1_goOn 191 = .ok (.aload_n 2, 1) := by decide +kernel
theorem dX1_goOn_192 : decode cX1_goOn 192 = .ok (.getfield 249, 3) := by decide +kernel
theorem dX1_goOn_195 : decode cX1_goOn 195 = .ok (.invokevirtual 252, 3) := by decide +kernel
theorem dX1_goOn_198 : decode cX1_goOn 198 = .ok (.pop, 1) := by decide +kernel
theorem dX1_goOn_199 : decode cX1_goOn 199 = .ok (.goto 3, 3) := by decide +kernel
theorem dX1_goOn_202 : decode cX1_goOn 202 = .ok (.iload 6, 2) := by decide +kernel
theorem dX1_goOn_204 : decode cX1_goOn 204 = .ok (.ifCond .eq 12, 3) := by decide +kernel
theorem dX1_goOn_207 : decode cX1_goOn 207 = .ok (.aload_n 0, 1) := by decide +kernel
theorem dX1_goOn_208 : decode cX1_goOn 208 = .ok (.aload_n 2, 1) := by decide +kernel
theorem dX1_goOn_209 : decode cX1_goOn 209 = .ok (.aload_n 3, 1) := by decide +kernel
theorem dX1_goOn_210 : decode cX1_goOn 210 = .ok (.getfield 224, 3) := by decide +kernel
theorem dX1_goOn_213 : decode cX1_goOn 213 = .ok (.invokevirtual 255, 3) := by decide +kernel
theorem dX1_goOn_216 : decode cX1_goOn 216 = .ok (.iload 4, 2) := by decide +kernel
theorem dX1_goOn_218 : decode cX1_goOn 218 = .ok (.ifCond .eq 7, 3) := by decide +kernel
theorem dX1_goOn_221 : decode cX1_goOn 221 = .ok (.iconst 1, 1) := by decide +kernel
theorem dX1_goOn_222 : decode cX1_goOn 222 = .ok (.goto 4, 3) := by decide +kernel
theorem dX1_goOn_225 : decode cX1_goOn 225 = .ok (.iconst 0, 1) := by decide +kernel
theorem dX1_goOn_226 : decode cX1_goOn 226 = .ok (.ireturn, 1) := by decide +kernel
set_option maxRecDepth 20000 in
theorem ggX1_advance_X1_end : GoodIn wsX1_advance wsX1_end := goodIn_r _ [9, 10, 11, 12, 13, 14, 15, 16, 17, 18, 19, 20, 21, 22, 8, 23, 24, 25, 26, 27, 28, 29, 30, 31, 32, 33, 34, 35, 36, 37, 38, 39, 40, 41, 42, 43, 44, 45, 46, 47, 48, 49, 50, 51, 52, 53, 54, 55, 56, 57, 58, 59, 60, 61, 62, 63, 64, 65, 66, 67, 68, 69, 70, 71, 72, 73, 74, 75, 76, 77, 78, 79, 80, 81, 82, 83, 84, 85] (by decide +kernel) (by decide +kernel)
set_option maxRecDepth 20000 in
theorem gX1_advance_X1_end : GoodIn wsX1_advance (wsV RX1 182 RX1 yX1_end wsX1_end) := goodIn_app (goodIn_of _ (by decide +kernel)) ggX1_advance_X1_end
theorem dX1_advance_0 : decode cX1_advance 0 = .ok (.aload_n 1, 1) := by decide +kernel
theorem dX1_advance_1 : decode cX1_advance 1 = .ok (.aload_n 1, 1) := by decide +kernel
theorem dX1_advance_2 : decode cX1_advance 2 = .ok (.getfield 171, 3) := by decide +kernel
theorem dX1_advance_5 : decode cX1_advance 5 = .ok (.iconst 1, 1) := by decide +kernel
theorem dX1_advance_6 : decode cX1_advance 6 = .ok (.iadd, 1) := by decide +kernel
theorem dX1_advance_7 : decode cX1_advance 7 = .ok (.iload_n 2, 1) := by decide +kernel
theorem dX1_advance_8 : decode cX1_advance 8 = .ok (.invokestatic 258, 3) := by decide +kernel
theorem dX1_advance_11 : decode cX1_advance 11 = .ok (.putfield 171, 3) := by decide +kernel
theorem dX1_advance_14 : decode cX1_advance 14 = .ok (.aload_n 1, 1) := by decide +kernel
theorem dX1_advance_15 : decode cX1_advance 15 = .ok (.iconst 0, 1) := by decide +kernel
theorem dX1_advance_16 : decode cX1_advance 16 = .ok (.putfield 264, 3) := by decide +kernel
theorem dX1_advance_19 : decode cX1_advance 19 = .ok (.aload_n 1, 1) := by decide +kernel
theorem dX1_advance_20 : decode cX1_advance 20 = .ok (.getfield 171, 3) := by decide +kernel
theorem dX1_advance_23 : decode cX1_advance 23 = .ok (.iload_n 2, 1) := by decide +kernel
theorem dX1_advance_24 : decode cX1_advance 24 = .ok (.if_icmp .ne 9, 3) := by decide +kernel
theorem dX1_advance_27 : decode cX1_advance 27 = .ok (.aload_n 0, 1) := by decide +kernel
theorem dX1_advance_28 : decode cX1_advance 28 = .ok (.aload_n 1, 1) := by decide +kernel
theorem dX1_advance_29 : decode cX1_advance 29 = .ok (.iconst 4, 1) := by decide +kernel
theorem dX1_advance_30 : decode cX1_advance 30 = .ok (.invokevirtual 182, 3) := by decide +kernel
theorem dX1_advance_33 : decode cX1_advance 33 = .ok (.return_, 1) := by decide +kernel
set_option maxRecDepth 20000 in
theorem ggX1_work_X1_workerAt : GoodIn wsX1_work wsX1_workerAt := goodIn_r _ [6, 7, 8, 25, 26, 27, 28, 29, 30, 31, 32, 33, 34, 35, 36] (by decide +kernel) (by decide +kernel)
set_option maxRecDepth 20000 in
theorem gX1_work_X1_workerAt : GoodIn wsX1_work (wsV RX1 90 RX1 yX1_workerAt wsX1_workerAt) := goodIn_app (goodIn_of _ (by decide +kernel)) ggX1_work_X1_workerAt
set_option maxRecDepth 20000 in
theorem ggX1_work_X5_noteRan : GoodIn wsX1_work wsX5_noteRan := goodIn_r _ [13, 14, 15, 16, 17, 18, 19, 20, 21, 22, 23, 24] (by decide +kernel) (by decide +kernel)
set_option maxRecDepth 20000 in
theorem gX1_work_X5_noteRan : GoodIn wsX1_work (wsV RX1 186 RX5 yX5_noteRan wsX5_noteRan) := goodIn_app (goodIn_of _ (by decide +kernel)) ggX1_work_X5_noteRan
theorem dX1_work_0 : decode cX1_work 0 = .ok (.aload_n 0, 1) := by decide +kernel
theorem dX1_work_1 : decode cX1_work 1 = .ok (.iload_n 1, 1) := by decide +kernel
theorem dX1_work_2 : decode cX1_work 2 = .ok (.invokevirtual 90, 3) := by decide +kernel
theorem dX1_work_5 : decode cX1_work 5 = .ok (.astore 4, 2) := by decide +kernel
theorem dX1_work_7 : decode cX1_work 7 = .ok (.aload 4, 2) := by decide +kernel
theorem dX1_work_9 : decode cX1_work 9 = .ok (.dup, 1) := by decide +kernel
theorem dX1_work_10 : decode cX1_work 10 = .ok (.getfield 267, 3) := by decide +kernel
theorem dX1_work_13 : decode cX1_work 13 = .ok (.iconst 1, 1) := by decide +kernel
theorem dX1_work_14 : decode cX1_work 14 = .ok (.iadd, 1) := by decide +kernel
theorem dX1_work_15 : decode cX1_work 15 = .ok (.putfield 267, 3) := by decide +kernel
theorem dX1_work_18 : decode cX1_work 18 = .ok (.aload 4, 2) := by decide +kernel
theorem dX1_work_20 : decode cX1_work 20 = .ok (.aload_n 0, 1) := by decide +kernel
theorem dX1_work_21 : decode cX1_work 21 = .ok (.getfield 77, 3) := by decide +kernel
theorem dX1_work_24 : decode cX1_work 24 = .ok (.aload_n 2, 1) := by decide +kernel
theorem dX1_work_25 : decode cX1_work 25 = .ok (.getfield 159, 3) := by decide +kernel
theorem dX1_work_28 : decode cX1_work 28 = .ok (.invokevirtual 186, 3) := by decide +kernel
theorem dX1_work_31 : decode cX1_work 31 = .ok (.aload_n 2, 1) := by decide +kernel
theorem dX1_work_32 : decode cX1_work 32 = .ok (.dup, 1) := by decide +kernel
theorem dX1_work_33 : decode cX1_work 33 = .ok (.getfield 123, 3) := by decide +kernel
theorem dX1_work_36 : decode cX1_work 36 = .ok (.iconst 1, 1) := by decide +kernel
theorem dX1_work_37 : decode cX1_work 37 = .ok (.iadd, 1) := by decide +kernel
theorem dX1_work_38 : decode cX1_work 38 = .ok (.putfield 123, 3) := by decide +kernel
theorem dX1_work_41 : decode cX1_work 41 = .ok (.aload_n 2, 1) := by decide +kernel
theorem dX1_work_42 : decode cX1_work 42 = .ok (.dup, 1) := by decide +kernel
theorem dX1_work_43 : decode cX1_work 43 = .ok (.getfield 264, 3) := by decide +kernel
theorem dX1_work_46 : decode cX1_work 46 = .ok (.iconst 1, 1) := by decide +kernel
theorem dX1_work_47 : decode cX1_work 47 = .ok (.iadd, 1) := by decide +kernel
theorem dX1_work_48 : decode cX1_work 48 = .ok (.putfield 264, 3) := by decide +kernel
theorem dX1_work_51 : decode cX1_work 51 = .ok (.aload_n 2, 1) := by decide +kernel
theorem dX1_work_52 : decode cX1_work 52 = .ok (.getfield 264, 3) := by decide +kernel
theorem dX1_work_55 : decode cX1_work 55 = .ok (.iload_n 3, 1) := by decide +kernel
theorem dX1_work_56 : decode cX1_work 56 = .ok (.if_icmp .lt 7, 3) := by decide +kernel
theorem dX1_work_59 : decode cX1_work 59 = .ok (.iconst 1, 1) := by decide +kernel
theorem dX1_work_60 : decode cX1_work 60 = .ok (.goto 4, 3) := by decide +kernel
theorem dX1_work_63 : decode cX1_work 63 = .ok (.iconst 0, 1) := by decide +kernel
theorem dX1_work_64 : decode cX1_work 64 = .ok (.ireturn, 1) := by decide +kernel
set_option maxRecDepth 20000 in
theorem ggX1_fork_X1_newTask : GoodIn wsX1_fork wsX1_newTask := goodIn_r _ [6, 1, 7, 8, 9, 5, 10, 11, 12, 13, 14, 15, 16, 17, 18, 19, 20, 21, 22, 23, 24, 25, 26, 27, 46, 47, 48, 49, 50, 51, 52, 53, 54, 55, 56, 57, 58, 59, 60, 61, 62, 63, 64, 65, 66, 67, 68] (by decide +kernel) (by decide +kernel)
set_option maxRecDepth 20000 in
theorem gX1_fork_X1_newTask : GoodIn wsX1_fork (wsV RX1 155 RX1 yX1_newTask wsX1_newTask) := goodIn_app (goodIn_of _ (by decide +kernel)) ggX1_fork_X1_newTask
set_option maxRecDepth 20000 in
theorem ggX1_fork_X1_rowOf : GoodIn wsX1_fork wsX1_rowOf := goodIn_r _ [31, 32, 33, 34, 35, 5, 36, 37, 38, 46, 47, 48, 49, 50, 51, 52, 53, 54, 55, 56, 57, 69, 70, 71, 72, 73, 74] (by decide +kernel) (by decide +kernel)
set_option maxRecDepth 20000 in
theorem gX1_fork_X1_rowOf : GoodIn wsX1_fork (wsV RX1 205 RX1 yX1_rowOf wsX1_rowOf) := goodIn_app (goodIn_of _ (by decide +kernel)) ggX1_fork_X1_rowOf
set_option maxRecDepth 20000 in
theorem ggX1_fork_X2_append : GoodIn wsX1_fork wsX2_append := goodIn_r _ [43, 44, 45, 75, 76] (by decide +kernel) (by decide +kernel)
set_option maxRecDepth 20000 in
theorem gX1_fork_X2_append : GoodIn wsX1_fork (wsV RX1 162 RX2 yX2_append wsX2_append) := goodIn_app (goodIn_of _ (by decide +kernel)) ggX1_fork_X2_append
theorem dX1_fork_0 : decode cX1_fork 0 = .ok (.aload_n 0, 1) := by decide +kernel
theorem dX1_fork_1 : decode cX1_fork 1 = .ok (.getfield 53, 3) := by decide +kernel
theorem dX1_fork_4 : decode cX1_fork 4 = .ok (.bipush 24, 2) := by decide +kernel
theorem dX1_fork_6 : decode cX1_fork 6 = .ok (.if_icmp .lt 4, 3) := by decide +kernel
theorem dX1_fork_9 : decode cX1_fork 9 = .ok (.return_, 1) := by decide +kernel
theorem dX1_fork_10 : decode cX1_fork 10 = .ok (.aload_n 0, 1) := by decide +kernel
theorem dX1_fork_11 : decode cX1_fork 11 = .ok (.iload_n 3, 1) := by decide +kernel
theorem dX1_fork_12 : decode cX1_fork 12 = .ok (.aload_n 2, 1) := by decide +kernel
theorem dX1_fork_13 : decode cX1_fork 13 = .ok (.getfield 159, 3) := by decide +kernel
theorem dX1_fork_16 : decode cX1_fork 16 = .ok (.invokevirtual 155, 3) := by decide +kernel
theorem dX1_fork_19 : decode cX1_fork 19 = .ok (.astore 4, 2) := by decide +kernel
theorem dX1_fork_21 : decode cX1_fork 21 = .ok (.aload_n 2, 1) := by decide +kernel
theorem dX1_fork_22 : decode cX1_fork 22 = .ok (.dup, 1) := by decide +kernel
theorem dX1_fork_23 : decode cX1_fork 23 = .ok (.getfield 270, 3) := by decide +kernel
theorem dX1_fork_26 : decode cX1_fork 26 = .ok (.iconst 1, 1) := by decide +kernel
theorem dX1_fork_27 : decode cX1_fork 27 = .ok (.aload 4, 2) := by decide +kernel
theorem dX1_fork_29 : decode cX1_fork 29 = .ok (.getfield 159, 3) := by decide +kernel
theorem dX1_fork_32 : decode cX1_fork 32 = .ok (.ishl, 1) := by decide +kernel
theorem dX1_fork_33 : decode cX1_fork 33 = .ok (.ior, 1) := by decide +kernel
theorem dX1_fork_34 : decode cX1_fork 34 = .ok (.putfield 270, 3) := by decide +kernel
theorem dX1_fork_37 : decode cX1_fork 37 = .ok (.aload_n 0, 1) := by decide +kernel
theorem dX1_fork_38 : decode cX1_fork 38 = .ok (.iload_n 1, 1) := by decide +kernel
theorem dX1_fork_39 : decode cX1_fork 39 = .ok (.invokevirtual 205, 3) := by decide +kernel
theorem dX1_fork_42 : decode cX1_fork 42 = .ok (.aload 4, 2) := by decide +kernel
theorem dX1_fork_44 : decode cX1_fork 44 = .ok (.getfield 159, 3) := by decide +kernel
theorem dX1_fork_47 : decode cX1_fork 47 = .ok (.invokevirtual 162, 3) := by decide +kernel
theorem dX1_fork_50 : decode cX1_fork 50 = .ok (.return_, 1) := by decide +kernel
set_option maxRecDepth 20000 in
theorem ggX1_newTask_X1_taskAt : GoodIn wsX1_newTask wsX1_taskAt := goodIn_r _ [6, 7, 8, 24, 25, 26, 27, 28, 29, 30, 31, 32, 33, 34, 35] (by decide +kernel) (by decide +kernel)
set_option maxRecDepth 20000 in
theorem gX1_newTask_X1_taskAt : GoodIn wsX1_newTask (wsV RX1 97 RX1 yX1_taskAt wsX1_taskAt) := goodIn_app (goodIn_of _ (by decide +kernel)) ggX1_newTask_X1_taskAt
set_option maxRecDepth 20000 in
theorem ggX1_newTask_X4_begin : GoodIn wsX1_newTask wsX4_begin := goodIn_r _ [13, 14, 15, 16, 17, 18, 19, 20, 21, 22, 23, 36, 37, 38, 39, 40, 41, 42, 43, 44, 45, 46] (by decide +kernel) (by decide +kernel)
set_option maxRecDepth 20000 in
theorem gX1_newTask_X4_begin : GoodIn wsX1_newTask (wsV RX1 273 RX4 yX4_begin wsX4_begin) := goodIn_app (goodIn_of _ (by decide +kernel)) ggX1_newTask_X4_begin
theorem dX1_newTask_0 : decode cX1_newTask 0 = .ok (.aload_n 0, 1) := by decide +kernel
theorem dX1_newTask_1 : decode cX1_newTask 1 = .ok (.aload_n 0, 1) := by decide +kernel
theorem dX1_newTask_2 : decode cX1_newTask 2 = .ok (.getfield 53, 3) := by decide +kernel
theorem dX1_newTask_5 : decode cX1_newTask 5 = .ok (.invokevirtual 97, 3) := by decide +kernel
theorem dX1_newTask_8 : decode cX1_newTask 8 = .ok (.astore_n 3, 1) := by decide +kernel
theorem dX1_newTask_9 : decode cX1_newTask 9 = .ok (.aload_n 0, 1) := by decide +kernel
theorem dX1_newTask_10 : decode cX1_newTask 10 = .ok (.dup, 1) := by decide +kernel
theorem dX1_newTask_11 : decode cX1_newTask 11 = .ok (.getfield 53, 3) := by decide +kernel
theorem dX1_newTask_14 : decode cX1_newTask 14 = .ok (.iconst 1, 1) := by decide +kernel
theorem dX1_newTask_15 : decode cX1_newTask 15 = .ok (.iadd, 1) := by decide +kernel
theorem dX1_newTask_16 : decode cX1_newTask 16 = .ok (.putfield 53, 3) := by decide +kernel
theorem dX1_newTask_19 : decode cX1_newTask 19 = .ok (.aload_n 3, 1) := by decide +kernel
theorem dX1_newTask_20 : decode cX1_newTask 20 = .ok (.iload_n 1, 1) := by decide +kernel
theorem dX1_newTask_21 : decode cX1_newTask 21 = .ok (.iload_n 2, 1) := by decide +kernel
theorem dX1_newTask_22 : decode cX1_newTask 22 = .ok (.invokevirtual 273, 3) := by decide +kernel
theorem dX1_newTask_25 : decode cX1_newTask 25 = .ok (.aload_n 3, 1) := by decide +kernel
theorem dX1_newTask_26 : decode cX1_newTask 26 = .ok (.areturn, 1) := by decide +kernel
set_option maxRecDepth 20000 in
theorem ggX1_join_X4_lastChild : GoodIn wsX1_join wsX4_lastChild := goodIn_r _ [5, 6, 7, 8, 9, 10, 11, 75, 76, 77, 78, 79, 80, 81, 82, 83, 84, 85] (by decide +kernel) (by decide +kernel)
set_option maxRecDepth 20000 in
theorem gX1_join_X4_lastChild : GoodIn wsX1_join (wsV RX1 275 RX4 yX4_lastChild wsX4_lastChild) := goodIn_app (goodIn_of _ (by decide +kernel)) ggX1_join_X4_lastChild
set_option maxRecDepth 20000 in
theorem ggX1_join_X1_taskAt : GoodIn wsX1_join wsX1_taskAt := goodIn_r _ [16, 17, 18, 86, 87, 88, 89, 90, 91, 92, 93, 94, 95, 96, 97] (by decide +kernel) (by decide +kernel)
set_option maxRecDepth 20000 in
theorem gX1_join_X1_taskAt : GoodIn wsX1_join (wsV RX1 97 RX1 yX1_taskAt wsX1_taskAt) := goodIn_app (goodIn_of _ (by decide +kernel)) ggX1_join_X1_taskAt
set_option maxRecDepth 20000 in
theorem ggX1_join_X4_isOver : GoodIn wsX1_join wsX4_isOver := goodIn_r _ [22, 23, 75, 76, 77, 78, 79, 80, 81, 82, 83, 84, 85] (by decide +kernel) (by decide +kernel)
set_option maxRecDepth 20000 in
theorem gX1_join_X4_isOver : GoodIn wsX1_join (wsV RX1 120 RX4 yX4_isOver wsX4_isOver) := goodIn_app (goodIn_of _ (by decide +kernel)) ggX1_join_X4_isOver
set_option maxRecDepth 20000 in
theorem ggX1_join_X1_block : GoodIn wsX1_join wsX1_block := goodIn_r _ [27, 28, 29, 30, 31, 15, 32, 33, 34, 35, 36, 37, 38, 39, 40, 41, 75, 76, 77, 78, 79, 80, 81, 82, 83, 84, 85, 86, 87, 88, 89, 90, 91, 92, 93, 94, 95, 96, 97, 98, 99, 100, 101, 102, 103, 104, 105] (by decide +kernel) (by decide +kernel)
set_option maxRecDepth 20000 in
theorem gX1_join_X1_block : GoodIn wsX1_join (wsV RX1 278 RX1 yX1_block wsX1_block) := goodIn_app (goodIn_of _ (by decide +kernel)) ggX1_join_X1_block
set_option maxRecDepth 20000 in
theorem ggX1_join_X4_addValue : GoodIn wsX1_join wsX4_addValue := goodIn_r _ [45, 46, 47, 48, 49, 50, 51, 52, 53, 54, 55, 75, 76, 77, 78, 79, 80, 81, 82, 83, 84, 85] (by decide +kernel) (by decide +kernel)
set_option maxRecDepth 20000 in
theorem gX1_join_X4_addValue : GoodIn wsX1_join (wsV RX1 239 RX4 yX4_addValue wsX4_addValue) := goodIn_app (goodIn_of _ (by decide +kernel)) ggX1_join_X4_addValue
set_option maxRecDepth 20000 in
theorem ggX1_join_X1_end : GoodIn wsX1_join wsX1_end := goodIn_r _ [59, 60, 61, 62, 35, 36, 37, 38, 39, 40, 41, 29, 30, 31, 15, 32, 33, 34, 12, 13, 14, 16, 17, 18, 1, 2, 3, 4, 5, 6, 7, 8, 9, 10, 11, 63, 64, 65, 66, 67, 68, 69, 70, 71, 72, 73, 74, 75, 76, 77, 78, 79, 80, 81, 82, 83, 84, 85, 86, 87, 88, 89, 90, 91, 92, 93, 94, 95, 96, 97, 98, 99, 100, 101, 102, 103, 104, 105] (by decide +kernel) (by decide +kernel)
set_option maxRecDepth 20000 in
theorem gX1_join_X1_end : GoodIn wsX1_join (wsV RX1 182 RX1 yX1_end wsX1_end) := goodIn_app (goodIn_of _ (by decide +kernel)) ggX1_join_X1_end
theorem dX1_join_0 : decode cX1_join 0 = .ok (.iload_n 3, 1) := by decide +kernel
theorem dX1_join_1 : decode cX1_join 1 = .ok (.iconst 3, 1) := by decide +kernel
theorem dX1_join_2 : decode cX1_join 2 = .ok (.if_icmp .ne 8, 3) := by decide +kernel
theorem dX1_join_5 : decode cX1_join 5 = .ok (.bipush 24, 2) := by decide +kernel
theorem dX1_join_7 : decode cX1_join 7 = .ok (.goto 4, 3) := by decide +kernel
theorem dX1_join_10 : decode cX1_join 10 = .ok (.iconst 1, 1) := by decide +kernel
theorem dX1_join_11 : decode cX1_join 11 = .ok (.istore 4, 2) := by decide +kernel
theorem dX1_join_13 : decode cX1_join 13 = .ok (.iconst 0, 1) := by decide +kernel
theorem dX1_join_14 : decode cX1_join 14 = .ok (.istore 5, 2) := by decide +kernel
theorem dX1_join_16 : decode cX1_join 16 = .ok (.iload 5, 2) := by decide +kernel
theorem dX1_join_18 : decode cX1_join 18 = .ok (.iload 4, 2) := by decide +kernel
theorem dX1_join_20 : decode cX1_join 20 = .ok (.if_icmp .ge 104, 3) := by decide +kernel
theorem dX1_join_23 : decode cX1_join 23 = .ok (.aload_n 2, 1) := by decide +kernel
theorem dX1_join_24 : decode cX1_join 24 = .ok (.getfield 270, 3) := by decide +kernel
theorem dX1_join_27 : decode cX1_join 27 = .ok (.ifCond .eq 97, 3) := by decide +kernel
theorem dX1_join_30 : decode cX1_join 30 = .ok (.aload_n 0, 1) := by decide +kernel
theorem dX1_join_31 : decode cX1_join 31 = .ok (.aload_n 2, 1) := by decide +kernel
theorem dX1_join_32 : decode cX1_join 32 = .ok (.invokevirtual 275, 3) := by decide +kernel
theorem dX1_join_35 : decode cX1_join 35 = .ok (.invokevirtual 97, 3) := by decide +kernel
theorem dX1_join_38 : decode cX1_join 38 = .ok (.astore 6, 2) := by decide +kernel
theorem dX1_join_40 : decode cX1_join 40 = .ok (.aload 6, 2) := by decide +kernel
theorem dX1_join_42 : decode cX1_join 42 = .ok (.invokevirtual 120, 3) := by decide +kernel
theorem dX1_join_45 : decode cX1_join 45 = .ok (.ifCond .ne 12, 3) := by decide +kernel
theorem dX1_join_48 : decode cX1_join 48 = .ok (.aload_n 0, 1) := by decide +kernel
theorem dX1_join_49 : decode cX1_join 49 = .ok (.iload_n 1, 1) := by decide +kernel
theorem dX1_join_50 : decode cX1_join 50 = .ok (.aload_n 2, 1) := by decide +kernel
theorem dX1_join_51 : decode cX1_join 51 = .ok (.iconst 2, 1) := by decide +kernel
theorem dX1_join_52 : decode cX1_join 52 = .ok (.invokevirtual 278, 3) := by decide +kernel
theorem dX1_join_55 : decode cX1_join 55 = .ok (.iconst 0, 1) := by decide +kernel
theorem dX1_join_56 : decode cX1_join 56 = .ok (.ireturn, 1) := by decide +kernel
theorem dX1_join_57 : decode cX1_join 57 = .ok (.aload_n 2, 1) := by decide +kernel
theorem dX1_join_58 : decode cX1_join 58 = .ok (.dup, 1) := by decide +kernel
theorem dX1_join_59 : decode cX1_join 59 = .ok (.getfield 270, 3) := by decide +kernel
theorem dX1_join_62 : decode cX1_join 62 = .ok (.iconst 1, 1) := by decide +kernel
theorem dX1_join_63 : decode cX1_join 63 = .ok (.aload 6, 2) := by decide +kernel
theorem dX1_join_65 : decode cX1_join 65 = .ok (.getfield 159, 3) := by decide +kernel
theorem dX1_join_68 : decode cX1_join 68 = .ok (.ishl, 1) := by decide +kernel
theorem dX1_join_69 : decode cX1_join 69 = .ok (.iconst (-1), 1) := by decide +kernel
theorem dX1_join_70 : decode cX1_join 70 = .ok (.ixor, 1) := by decide +kernel
theorem dX1_join_71 : decode cX1_join 71 = .ok (.iand, 1) := by decide +kernel
theorem dX1_join_72 : decode cX1_join 72 = .ok (.putfield 270, 3) := by decide +kernel
theorem dX1_join_75 : decode cX1_join 75 = .ok (.aload 6, 2) := by decide +kernel
theorem dX1_join_77 : decode cX1_join 77 = .ok (.getfield 104, 3) := by decide +kernel
theorem dX1_join_80 : decode cX1_join 80 = .ok (.iconst 4, 1) := by decide +kernel
theorem dX1_join_81 : decode cX1_join 81 = .ok (.if_icmp .ne 15, 3) := by decide +kernel
theorem dX1_join_84 : decode cX1_join 84 = .ok (.aload_n 2, 1) := by decide +kernel
theorem dX1_join_85 : decode cX1_join 85 = .ok (.aload 6, 2) := by decide +kernel
theorem dX1_join_87 : decode cX1_join 87 = .ok (.getfield 249, 3) := by decide +kernel
theorem dX1_join_90 : decode cX1_join 90 = .ok (.invokevirtual 239, 3) := by decide +kernel
theorem dX1_join_93 : decode cX1_join 93 = .ok (.goto 25, 3) := by decide +kernel
theorem dX1_join_96 : decode cX1_join 96 = .ok (.aload 6, 2) := by decide +kernel
theorem dX1_join_98 : decode cX1_join 98 = .ok (.getfield 104, 3) := by decide +kernel
theorem dX1_join_101 : decode cX1_join 101 = .ok (.iconst 5, 1) := by decide +kernel
theorem dX1_join_102 : decode cX1_join 102 = .ok (.if_icmp .ne 16, 3) := by decide +kernel
theorem dX1_join_105 : decode cX1_join 105 = .ok (.iload_n 3, 1) := by decide +kernel
theorem dX1_join_106 : decode cX1_join 106 = .ok (.iconst 4, 1) := by decide +kernel
theorem dX1_join_107 : decode cX1_join 107 = .ok (.if_icmp .eq 11, 3) := by decide +kernel
theorem dX1_join_110 : decode cX1_join 110 = .ok (.aload_n 0, 1) := by decide +kernel
theorem dX1_join_111 : decode cX1_join 111 = .ok (.aload_n 2, 1) := by decide +kernel
theorem dX1_join_112 : decode cX1_join 112 = .ok (.iconst 5, 1) := by decide +kernel
theorem dX1_join_113 : decode cX1_join 113 = .ok (.invokevirtual 182, 3) := by decide +kernel
theorem dX1_join_116 : decode cX1_join 116 = .ok (.iconst 0, 1) := by decide +kernel
theorem dX1_join_117 : decode cX1_join 117 = .ok (.ireturn, 1) := by decide +kernel
theorem dX1_join_118 : decode cX1_join 118 = .ok (.iinc 5 1, 3) := by decide +kernel
theorem dX1_join_121 : decode cX1_join 121 = .ok (.goto (-105), 3) := by decide +kernel
theorem dX1_join_124 : decode cX1_join 124 = .ok (.iconst 1, 1) := by decide +kernel
theorem dX1_join_125 : decode cX1_join 125 = .ok (.ireturn, 1) := by decide +kernel
set_option maxRecDepth 20000 in
theorem ggX1_await_X1_promiseAt : GoodIn wsX1_await wsX1_promiseAt := goodIn_r _ [6, 7, 1, 41, 42, 43, 44, 45, 46, 47, 48, 49, 50, 51, 52] (by decide +kernel) (by decide +kernel)
set_option maxRecDepth 20000 in
theorem gX1_await_X1_promiseAt : GoodIn wsX1_await (wsV RX1 281 RX1 yX1_promiseAt wsX1_promiseAt) := goodIn_app (goodIn_of _ (by decide +kernel)) ggX1_await_X1_promiseAt
set_option maxRecDepth 20000 in
theorem ggX1_await_X1_block : GoodIn wsX1_await wsX1_block := goodIn_r _ [11, 12, 13, 14, 15, 5, 16, 17, 18, 19, 20, 21, 22, 23, 24, 25, 53, 54, 55, 56, 57, 58, 59, 60, 61, 62, 63, 41, 42, 43, 44, 45, 46, 47, 48, 49, 50, 51, 52, 64, 65, 66, 67, 68, 69, 70, 71] (by decide +kernel) (by decide +kernel)
set_option maxRecDepth 20000 in
theorem gX1_await_X1_block : GoodIn wsX1_await (wsV RX1 278 RX1 yX1_block wsX1_block) := goodIn_app (goodIn_of _ (by decide +kernel)) ggX1_await_X1_block
set_option maxRecDepth 20000 in
theorem ggX1_await_X4_addValue : GoodIn wsX1_await wsX4_addValue := goodIn_r _ [30, 31, 32, 33, 34, 35, 36, 37, 38, 39, 40, 53, 54, 55, 56, 57, 58, 59, 60, 61, 62, 63] (by decide +kernel) (by decide +kernel)
set_option maxRecDepth 20000 in
theorem gX1_await_X4_addValue : GoodIn wsX1_await (wsV RX1 239 RX4 yX4_addValue wsX4_addValue) := goodIn_app (goodIn_of _ (by decide +kernel)) ggX1_await_X4_addValue
theorem dX1_await_0 : decode cX1_await 0 = .ok (.aload_n 0, 1) := by decide +kernel
theorem dX1_await_1 : decode cX1_await 1 = .ok (.iload_n 3, 1) := by decide +kernel
theorem dX1_await_2 : decode cX1_await 2 = .ok (.invokevirtual 281, 3) := by decide +kernel
theorem dX1_await_5 : decode cX1_await 5 = .ok (.istore 4, 2) := by decide +kernel
theorem dX1_await_7 : decode cX1_await 7 = .ok (.iload 4, 2) := by decide +kernel
theorem dX1_await_9 : decode cX1_await 9 = .ok (.ldc 64, 2) := by decide +kernel
theorem dX1_await_11 : decode cX1_await 11 = .ok (.if_icmp .ne 12, 3) := by decide +kernel
theorem dX1_await_14 : decode cX1_await 14 = .ok (.aload_n 0, 1) := by decide +kernel
theorem dX1_await_15 : decode cX1_await 15 = .ok (.iload_n 1, 1) := by decide +kernel
theorem dX1_await_16 : decode cX1_await 16 = .ok (.aload_n 2, 1) := by decide +kernel
theorem dX1_await_17 : decode cX1_await 17 = .ok (.iconst 3, 1) := by decide +kernel
theorem dX1_await_18 : decode cX1_await 18 = .ok (.invokevirtual 278, 3) := by decide +kernel
theorem dX1_await_21 : decode cX1_await 21 = .ok (.iconst 0, 1) := by decide +kernel
theorem dX1_await_22 : decode cX1_await 22 = .ok (.ireturn, 1) := by decide +kernel
theorem dX1_await_23 : decode cX1_await 23 = .ok (.aload_n 2, 1) := by decide +kernel
theorem dX1_await_24 : decode cX1_await 24 = .ok (.iload 4, 2) := by decide +kernel
theorem dX1_await_26 : decode cX1_await 26 = .ok (.invokevirtual 239, 3) := by decide +kernel
theorem dX1_await_29 : decode cX1_await 29 = .ok (.iconst 1, 1) := by decide +kernel
theorem dX1_await_30 : decode cX1_await 30 = .ok (.ireturn, 1) := by decide +kernel
set_option maxRecDepth 20000 in
theorem ggX1_block_X1_workerAt : GoodIn wsX1_block wsX1_workerAt := goodIn_r _ [6, 7, 8, 27, 28, 29, 30, 31, 32, 33, 34, 35, 36, 37, 38] (by decide +kernel) (by decide +kernel)
set_option maxRecDepth 20000 in
theorem gX1_block_X1_workerAt : GoodIn wsX1_block (wsV RX1 90 RX1 yX1_workerAt wsX1_workerAt) := goodIn_app (goodIn_of _ (by decide +kernel)) ggX1_block_X1_workerAt
set_option maxRecDepth 20000 in
theorem ggX1_block_X2_remove : GoodIn wsX1_block wsX2_remove := goodIn_r _ [13, 14, 15, 45, 46] (by decide +kernel) (by decide +kernel)
set_option maxRecDepth 20000 in
theorem gX1_block_X2_remove : GoodIn wsX1_block (wsV RX1 212 RX2 yX2_remove wsX2_remove) := goodIn_app (goodIn_of _ (by decide +kernel)) ggX1_block_X2_remove
theorem dX1_block_0 : decode cX1_block 0 = .ok (.aload_n 2, 1) := by decide +kernel
theorem dX1_block_1 : decode cX1_block 1 = .ok (.iload_n 3, 1) := by decide +kernel
theorem dX1_block_2 : decode cX1_block 2 = .ok (.putfield 104, 3) := by decide +kernel
theorem dX1_block_5 : decode cX1_block 5 = .ok (.aload_n 2, 1) := by decide +kernel
theorem dX1_block_6 : decode cX1_block 6 = .ok (.iload_n 1, 1) := by decide +kernel
theorem dX1_block_7 : decode cX1_block 7 = .ok (.putfield 117, 3) := by decide +kernel
theorem dX1_block_10 : decode cX1_block 10 = .ok (.aload_n 0, 1) := by decide +kernel
theorem dX1_block_11 : decode cX1_block 11 = .ok (.getfield 71, 3) := by decide +kernel
theorem dX1_block_14 : decode cX1_block 14 = .ok (.ifCond .ne 18, 3) := by decide +kernel
theorem dX1_block_17 : decode cX1_block 17 = .ok (.aload_n 0, 1) := by decide +kernel
theorem dX1_block_18 : decode cX1_block 18 = .ok (.iload_n 1, 1) := by decide +kernel
theorem dX1_block_19 : decode cX1_block 19 = .ok (.invokevirtual 90, 3) := by decide +kernel
theorem dX1_block_22 : decode cX1_block 22 = .ok (.getfield 107, 3) := by decide +kernel
theorem dX1_block_25 : decode cX1_block 25 = .ok (.aload_n 2, 1) := by decide +kernel
theorem dX1_block_26 : decode cX1_block 26 = .ok (.getfield 159, 3) := by decide +kernel
theorem dX1_block_29 : decode cX1_block 29 = .ok (.invokevirtual 212, 3) := by decide +kernel
theorem dX1_block_32 : decode cX1_block 32 = .ok (.return_, 1) := by decide +kernel
set_option maxRecDepth 20000 in
theorem ggX1_free_X1_workerAt : GoodIn wsX1_free wsX1_workerAt := goodIn_r _ [6, 7, 8, 20, 21, 22, 23, 24, 25, 26, 27, 28, 29, 30, 31] (by decide +kernel) (by decide +kernel)
set_option maxRecDepth 20000 in
theorem gX1_free_X1_workerAt : GoodIn wsX1_free (wsV RX1 90 RX1 yX1_workerAt wsX1_workerAt) := goodIn_app (goodIn_of _ (by decide +kernel)) ggX1_free_X1_workerAt
set_option maxRecDepth 20000 in
theorem ggX1_free_X2_has : GoodIn wsX1_free wsX2_has := goodIn_r _ [13, 14, 15, 49, 50] (by decide +kernel) (by decide +kernel)
set_option maxRecDepth 20000 in
theorem gX1_free_X2_has : GoodIn wsX1_free (wsV RX1 284 RX2 yX2_has wsX2_has) := goodIn_app (goodIn_of _ (by decide +kernel)) ggX1_free_X2_has
set_option maxRecDepth 20000 in
theorem ggX1_free_X2_append : GoodIn wsX1_free wsX2_append := goodIn_r _ [19, 14, 15, 49, 50] (by decide +kernel) (by decide +kernel)
set_option maxRecDepth 20000 in
theorem gX1_free_X2_append : GoodIn wsX1_free (wsV RX1 162 RX2 yX2_append wsX2_append) := goodIn_app (goodIn_of _ (by decide +kernel)) ggX1_free_X2_append
theorem dX1_free_0 : decode cX1_free 0 = .ok (.iconst 0, 1) := by decide +kernel
theorem dX1_free_1 : decode cX1_free 1 = .ok (.istore_n 2, 1) := by decide +kernel
theorem dX1_free_2 : decode cX1_free 2 = .ok (.iload_n 2, 1) := by decide +kernel
theorem dX1_free_3 : decode cX1_free 3 = .ok (.aload_n 0, 1) := by decide +kernel
theorem dX1_free_4 : decode cX1_free 4 = .ok (.getfield 57, 3) := by decide +kernel
theorem dX1_free_7 : decode cX1_free 7 = .ok (.if_icmp .ge 33, 3) := by decide +kernel
theorem dX1_free_10 : decode cX1_free 10 = .ok (.aload_n 0, 1) := by decide +kernel
theorem dX1_free_11 : decode cX1_free 11 = .ok (.iload_n 2, 1) := by decide +kernel
theorem dX1_free_12 : decode cX1_free 12 = .ok (.invokevirtual 90, 3) := by decide +kernel
theorem dX1_free_15 : decode cX1_free 15 = .ok (.getfield 107, 3) := by decide +kernel
theorem dX1_free_18 : decode cX1_free 18 = .ok (.aload_n 1, 1) := by decide +kernel
theorem dX1_free_19 : decode cX1_free 19 = .ok (.getfield 159, 3) := by decide +kernel
theorem dX1_free_22 : decode cX1_free 22 = .ok (.invokevirtual 284, 3) := by decide +kernel
theorem dX1_free_25 : decode cX1_free 25 = .ok (.ifCond .eq 9, 3) := by decide +kernel
theorem dX1_free_28 : decode cX1_free 28 = .ok (.aload_n 1, 1) := by decide +kernel
theorem dX1_free_29 : decode cX1_free 29 = .ok (.iconst 1, 1) := by decide +kernel
theorem dX1_free_30 : decode cX1_free 30 = .ok (.putfield 104, 3) := by decide +kernel
theorem dX1_free_33 : decode cX1_free 33 = .ok (.return_, 1) := by decide +kernel
theorem dX1_free_34 : decode cX1_free 34 = .ok (.iinc 2 1, 3) := by decide +kernel
theorem dX1_free_37 : decode cX1_free 37 = .ok (.goto (-35), 3) := by decide +kernel
theorem dX1_free_40 : decode cX1_free 40 = .ok (.aload_n 1, 1) := by decide +kernel
theorem dX1_free_41 : decode cX1_free 41 = .ok (.iconst 0, 1) := by decide +kernel
theorem dX1_free_42 : decode cX1_free 42 = .ok (.putfield 104, 3) := by decide +kernel
theorem dX1_free_45 : decode cX1_free 45 = .ok (.aload_n 0, 1) := by decide +kernel
theorem dX1_free_46 : decode cX1_free 46 = .ok (.aload_n 1, 1) := by decide +kernel
theorem dX1_free_47 : decode cX1_free 47 = .ok (.getfield 117, 3) := by decide +kernel
theorem dX1_free_50 : decode cX1_free 50 = .ok (.invokevirtual 90, 3) := by decide +kernel
theorem dX1_free_53 : decode cX1_free 53 = .ok (.getfield 94, 3) := by decide +kernel
theorem dX1_free_56 : decode cX1_free 56 = .ok (.aload_n 1, 1) := by decide +kernel
theorem dX1_free_57 : decode cX1_free 57 = .ok (.getfield 159, 3) := by decide +kernel
theorem dX1_free_60 : decode cX1_free 60 = .ok (.invokevirtual 162, 3) := by decide +kernel
theorem dX1_free_63 : decode cX1_free 63 = .ok (.return_, 1) := by decide +kernel
set_option maxRecDepth 20000 in
theorem ggX1_end_X2_remove : GoodIn wsX1_end wsX2_remove := goodIn_r _ [8, 9, 10, 76, 77] (by decide +kernel) (by decide +kernel)
set_option maxRecDepth 20000 in
theorem gX1_end_X2_remove : GoodIn wsX1_end (wsV RX1 212 RX2 yX2_remove wsX2_remove) := goodIn_app (goodIn_of _ (by decide +kernel)) ggX1_end_X2_remove
set_option maxRecDepth 20000 in
theorem ggX1_end_X1_workerAt : GoodIn wsX1_end wsX1_workerAt := goodIn_r _ [15, 16, 17, 58, 59, 60, 61, 62, 63, 64, 65, 66, 67, 68, 69] (by decide +kernel) (by decide +kernel)
set_option maxRecDepth 20000 in
theorem gX1_end_X1_workerAt : GoodIn wsX1_end (wsV RX1 90 RX1 yX1_workerAt wsX1_workerAt) := goodIn_app (goodIn_of _ (by decide +kernel)) ggX1_end_X1_workerAt
set_option maxRecDepth 20000 in
theorem ggX1_end_X1_taskAt : GoodIn wsX1_end wsX1_taskAt := goodIn_r _ [21, 22, 23, 58, 59, 60, 61, 62, 63, 64, 65, 66, 67, 68, 69] (by decide +kernel) (by decide +kernel)
set_option maxRecDepth 20000 in
theorem gX1_end_X1_taskAt : GoodIn wsX1_end (wsV RX1 97 RX1 yX1_taskAt wsX1_taskAt) := goodIn_app (goodIn_of _ (by decide +kernel)) ggX1_end_X1_taskAt
set_option maxRecDepth 20000 in
theorem ggX1_end_X4_lastChild : GoodIn wsX1_end wsX4_lastChild := goodIn_r _ [28, 29, 30, 31, 32, 33, 34, 47, 48, 49, 50, 51, 52, 53, 54, 55, 56, 57] (by decide +kernel) (by decide +kernel)
set_option maxRecDepth 20000 in
theorem gX1_end_X4_lastChild : GoodIn wsX1_end (wsV RX1 275 RX4 yX4_lastChild wsX4_lastChild) := goodIn_app (goodIn_of _ (by decide +kernel)) ggX1_end_X4_lastChild
set_option maxRecDepth 20000 in
theorem ggX1_end_X1_free : GoodIn wsX1_end wsX1_free := goodIn_r _ [38, 3, 11, 12, 13, 14, 15, 16, 17, 39, 40, 41, 7, 42, 9, 10, 43, 44, 45, 46, 58, 59, 60, 61, 62, 63, 64, 65, 66, 67, 68, 69, 70, 71, 72, 73, 74, 75, 47, 48, 49, 50, 51, 52, 53, 54, 55, 56, 57, 76, 77] (by decide +kernel) (by decide +kernel)
set_option maxRecDepth 20000 in
theorem gX1_end_X1_free : GoodIn wsX1_end (wsV RX1 179 RX1 yX1_free wsX1_free) := goodIn_app (goodIn_of _ (by decide +kernel)) ggX1_end_X1_free
theorem dX1_end_0 : decode cX1_end 0 = .ok (.aload_n 1, 1) := by decide +kernel
theorem dX1_end_1 : decode cX1_end 1 = .ok (.iload_n 2, 1) := by decide +kernel
theorem dX1_end_2 : decode cX1_end 2 = .ok (.putfield 104, 3) := by decide +kernel
theorem dX1_end_5 : decode cX1_end 5 = .ok (.aload_n 1, 1) := by decide +kernel
theorem dX1_end_6 : decode cX1_end 6 = .ok (.aload_n 0, 1) := by decide +kernel
theorem dX1_end_7 : decode cX1_end 7 = .ok (.getfield 77, 3) := by decide +kernel
theorem dX1_end_10 : decode cX1_end 10 = .ok (.putfield 287, 3) := by decide +kernel
theorem dX1_end_13 : decode cX1_end 13 = .ok (.aload_n 0, 1) := by decide +kernel
theorem dX1_end_14 : decode cX1_end 14 = .ok (.getfield 38, 3) := by decide +kernel
theorem dX1_end_17 : decode cX1_end 17 = .ok (.aload_n 1, 1) := by decide +kernel
theorem dX1_end_18 : decode cX1_end 18 = .ok (.getfield 159, 3) := by decide +kernel
theorem dX1_end_21 : decode cX1_end 21 = .ok (.invokevirtual 212, 3) := by decide +kernel
theorem dX1_end_24 : decode cX1_end 24 = .ok (.iconst 0, 1) := by decide +kernel
theorem dX1_end_25 : decode cX1_end 25 = .ok (.istore_n 3, 1) := by decide +kernel
theorem dX1_end_26 : decode cX1_end 26 = .ok (.iload_n 3, 1) := by decide +kernel
theorem dX1_end_27 : decode cX1_end 27 = .ok (.aload_n 0, 1) := by decide +kernel
theorem dX1_end_28 : decode cX1_end 28 = .ok (.getfield 57, 3) := by decide +kernel
theorem dX1_end_31 : decode cX1_end 31 = .ok (.if_icmp .ge 40, 3) := by decide +kernel
theorem dX1_end_34 : decode cX1_end 34 = .ok (.aload_n 0, 1) := by decide +kernel
theorem dX1_end_35 : decode cX1_end 35 = .ok (.iload_n 3, 1) := by decide +kernel
theorem dX1_end_36 : decode cX1_end 36 = .ok (.invokevirtual 90, 3) := by decide +kernel
theorem dX1_end_39 : decode cX1_end 39 = .ok (.astore 4, 2) := by decide +kernel
theorem dX1_end_41 : decode cX1_end 41 = .ok (.aload 4, 2) := by decide +kernel
theorem dX1_end_43 : decode cX1_end 43 = .ok (.getfield 94, 3) := by decide +kernel
theorem dX1_end_46 : decode cX1_end 46 = .ok (.aload_n 1, 1) := by decide +kernel
theorem dX1_end_47 : decode cX1_end 47 = .ok (.getfield 159, 3) := by decide +kernel
theorem dX1_end_50 : decode cX1_end 50 = .ok (.invokevirtual 212, 3) := by decide +kernel
theorem dX1_end_53 : decode cX1_end 53 = .ok (.aload 4, 2) := by decide +kernel
theorem dX1_end_55 : decode cX1_end 55 = .ok (.getfield 107, 3) := by decide +kernel
theorem dX1_end_58 : decode cX1_end 58 = .ok (.aload_n 1, 1) := by decide +kernel
theorem dX1_end_59 : decode cX1_end 59 = .ok (.getfield 159, 3) := by decide +kernel
theorem dX1_end_62 : decode cX1_end 62 = .ok (.invokevirtual 212, 3) := by decide +kernel
theorem dX1_end_65 : decode cX1_end 65 = .ok (.iinc 3 1, 3) := by decide +kernel
theorem dX1_end_68 : decode cX1_end 68 = .ok (.goto (-42), 3) := by decide +kernel
theorem dX1_end_71 : decode cX1_end 71 = .ok (.aload_n 0, 1) := by decide +kernel
theorem dX1_end_72 : decode cX1_end 72 = .ok (.aload_n 1, 1) := by decide +kernel
theorem dX1_end_73 : decode cX1_end 73 = .ok (.getfield 126, 3) := by decide +kernel
theorem dX1_end_76 : decode cX1_end 76 = .ok (.invokevirtual 97, 3) := by decide +kernel
theorem dX1_end_79 : decode cX1_end 79 = .ok (.astore_n 3, 1) := by decide +kernel
theorem dX1_end_80 : decode cX1_end 80 = .ok (.aload_n 3, 1) := by decide +kernel
theorem dX1_end_81 : decode cX1_end 81 = .ok (.getfield 104, 3) := by decide +kernel
theorem dX1_end_84 : decode cX1_end 84 = .ok (.iconst 2, 1) := by decide +kernel
theorem dX1_end_85 : decode cX1_end 85 = .ok (.if_icmp .ne 19, 3) := by decide +kernel
theorem dX1_end_88 : decode cX1_end 88 = .ok (.aload_n 3, 1) := by decide +kernel
theorem dX1_end_89 : decode cX1_end 89 = .ok (.invokevirtual 275, 3) := by decide +kernel
theorem dX1_end_92 : decode cX1_end 92 = .ok (.aload_n 1, 1) := by decide +kernel
theorem dX1_end_93 : decode cX1_end 93 = .ok (.getfield 159, 3) := by decide +kernel
theorem dX1_end_96 : decode cX1_end 96 = .ok (.if_icmp .ne 8, 3) := by decide +kernel
theorem dX1_end_99 : decode cX1_end 99 = .ok (.aload_n 0, 1) := by decide +kernel
theorem dX1_end_100 : decode cX1_end 100 = .ok (.aload_n 3, 1) := by decide +kernel
theorem dX1_end_101 : decode cX1_end 101 = .ok (.invokevirtual 179, 3) := by decide +kernel
theorem dX1_end_104 : decode cX1_end 104 = .ok (.return_, 1) := by decide +kernel
theorem dX2_init_0 : decode cX2_init 0 = .ok (.aload_n 0, 1) := by decide +kernel
theorem dX2_init_1 : decode cX2_init 1 = .ok (.invokespecial 3, 3) := by decide +kernel
theorem dX2_init_4 : decode cX2_init 4 = .ok (.aload_n 0, 1) := by decide +kernel
theorem dX2_init_5 : decode cX2_init 5 = .ok (.bipush 24, 2) := by decide +kernel
theorem dX2_init_7 : decode cX2_init 7 = .ok (.newarray .int, 2) := by decide +kernel
theorem dX2_init_9 : decode cX2_init 9 = .ok (.putfield 9, 3) := by decide +kernel
theorem dX2_init_12 : decode cX2_init 12 = .ok (.return_, 1) := by decide +kernel
theorem dX2_clear_0 : decode cX2_clear 0 = .ok (.aload_n 0, 1) := by decide +kernel
theorem dX2_clear_1 : decode cX2_clear 1 = .ok (.iconst 0, 1) := by decide +kernel
theorem dX2_clear_2 : decode cX2_clear 2 = .ok (.putfield 15, 3) := by decide +kernel
theorem dX2_clear_5 : decode cX2_clear 5 = .ok (.return_, 1) := by decide +kernel
theorem dX2_copyFrom_0 : decode cX2_copyFrom 0 = .ok (.aload_n 0, 1) := by decide +kernel
theorem dX2_copyFrom_1 : decode cX2_copyFrom 1 = .ok (.aload_n 1, 1) := by decide +kernel
theorem dX2_copyFrom_2 : decode cX2_copyFrom 2 = .ok (.getfield 15, 3) := by decide +kernel
theorem dX2_copyFrom_5 : decode cX2_copyFrom 5 = .ok (.putfield 15, 3) := by decide +kernel
theorem dX2_copyFrom_8 : decode cX2_copyFrom 8 = .ok (.iconst 0, 1) := by decide +kernel
theorem dX2_copyFrom_9 : decode cX2_copyFrom 9 = .ok (.istore_n 2, 1) := by decide +kernel
theorem dX2_copyFrom_10 : decode cX2_copyFrom 10 = .ok (.iload_n 2, 1) := by decide +kernel
theorem dX2_copyFrom_11 : decode cX2_copyFrom 11 = .ok (.bipush 24, 2) := by decide +kernel
theorem dX2_copyFrom_13 : decode cX2_copyFrom 13 = .ok (.if_icmp .ge 21, 3) := by decide +kernel
theorem dX2_copyFrom_16 : decode cX2_copyFrom 16 = .ok (.aload_n 0, 1) := by decide +kernel
theorem dX2_copyFrom_17 : decode cX2_copyFrom 17 = .ok (.getfield 9, 3) := by decide +kernel
theorem dX2_copyFrom_20 : decode cX2_copyFrom 20 = .ok (.iload_n 2, 1) := by decide +kernel
theorem dX2_copyFrom_21 : decode cX2_copyFrom 21 = .ok (.aload_n 1, 1) := by decide +kernel
theorem dX2_copyFrom_22 : decode cX2_copyFrom 22 = .ok (.getfield 9, 3) := by decide +kernel
theorem dX2_copyFrom_25 : decode cX2_copyFrom 25 = .ok (.iload_n 2, 1) := by decide +kernel
theorem dX2_copyFrom_26 : decode cX2_copyFrom 26 = .ok (.iaload, 1) := by decide +kernel
theorem dX2_copyFrom_27 : decode cX2_copyFrom 27 = .ok (.iastore, 1) := by decide +kernel
theorem dX2_copyFrom_28 : decode cX2_copyFrom 28 = .ok (.iinc 2 1, 3) := by decide +kernel
theorem dX2_copyFrom_31 : decode cX2_copyFrom 31 = .ok (.goto (-21), 3) := by decide +kernel
theorem dX2_copyFrom_34 : decode cX2_copyFrom 34 = .ok (.return_, 1) := by decide +kernel
theorem dX2_at_0 : decode cX2_at 0 = .ok (.iload_n 1, 1) := by decide +kernel
theorem dX2_at_1 : decode cX2_at 1 = .ok (.ifCond .lt 26, 3) := by decide +kernel
theorem dX2_at_4 : decode cX2_at 4 = .ok (.iload_n 1, 1) := by decide +kernel
theorem dX2_at_5 : decode cX2_at 5 = .ok (.aload_n 0, 1) := by decide +kernel
theorem dX2_at_6 : decode cX2_at 6 = .ok (.getfield 15, 3) := by decide +kernel
theorem dX2_at_9 : decode cX2_at 9 = .ok (.if_icmp .ge 18, 3) := by decide +kernel
theorem dX2_at_12 : decode cX2_at 12 = .ok (.iload_n 1, 1) := by decide +kernel
theorem dX2_at_13 : decode cX2_at 13 = .ok (.bipush 24, 2) := by decide +kernel
theorem dX2_at_15 : decode cX2_at 15 = .ok (.if_icmp .ge 12, 3) := by decide +kernel
theorem dX2_at_18 : decode cX2_at 18 = .ok (.aload_n 0, 1) := by decide +kernel
theorem dX2_at_19 : decode cX2_at 19 = .ok (.getfield 9, 3) := by decide +kernel
theorem dX2_at_22 : decode cX2_at 22 = .ok (.iload_n 1, 1) := by decide +kernel
theorem dX2_at_23 : decode cX2_at 23 = .ok (.iaload, 1) := by decide +kernel
theorem dX2_at_24 : decode cX2_at 24 = .ok (.goto 4, 3) := by decide +kernel
theorem dX2_at_27 : decode cX2_at 27 = .ok (.iconst (-1), 1) := by decide +kernel
theorem dX2_at_28 : decode cX2_at 28 = .ok (.ireturn, 1) := by decide +kernel
set_option maxRecDepth 20000 in
theorem ggX2_last_X2_at : GoodIn wsX2_last wsX2_at := goodIn_r _ [6, 1, 7, 8, 9] (by decide +kernel) (by decide +kernel)
set_option maxRecDepth 20000 in
theorem gX2_last_X2_at : GoodIn wsX2_last (wsV RX2 19 RX2 yX2_at wsX2_at) := goodIn_app (goodIn_of _ (by decide +kernel)) ggX2_last_X2_at
theorem dX2_last_0 : decode cX2_last 0 = .ok (.aload_n 0, 1) := by decide +kernel
theorem dX2_last_1 : decode cX2_last 1 = .ok (.aload_n 0, 1) := by decide +kernel
theorem dX2_last_2 : decode cX2_last 2 = .ok (.getfield 15, 3) := by decide +kernel
theorem dX2_last_5 : decode cX2_last 5 = .ok (.iconst 1, 1) := by decide +kernel
theorem dX2_last_6 : decode cX2_last 6 = .ok (.isub, 1) := by decide +kernel
theorem dX2_last_7 : decode cX2_last 7 = .ok (.invokevirtual 19, 3) := by decide +kernel
theorem dX2_last_10 : decode cX2_last 10 = .ok (.ireturn, 1) := by decide +kernel
theorem dX2_has_0 : decode cX2_has 0 = .ok (.iconst 0, 1) := by decide +kernel
theorem dX2_has_1 : decode cX2_has 1 = .ok (.istore_n 2, 1) := by decide +kernel
theorem dX2_has_2 : decode cX2_has 2 = .ok (.iload_n 2, 1) := by decide +kernel
theorem dX2_has_3 : decode cX2_has 3 = .ok (.aload_n 0, 1) := by decide +kernel
theorem dX2_has_4 : decode cX2_has 4 = .ok (.getfield 15, 3) := by decide +kernel
theorem dX2_has_7 : decode cX2_has 7 = .ok (.if_icmp .ge 27, 3) := by decide +kernel
theorem dX2_has_10 : decode cX2_has 10 = .ok (.iload_n 2, 1) := by decide +kernel
theorem dX2_has_11 : decode cX2_has 11 = .ok (.bipush 24, 2) := by decide +kernel
theorem dX2_has_13 : decode cX2_has 13 = .ok (.if_icmp .ge 21, 3) := by decide +kernel
theorem dX2_has_16 : decode cX2_has 16 = .ok (.aload_n 0, 1) := by decide +kernel
theorem dX2_has_17 : decode cX2_has 17 = .ok (.getfield 9, 3) := by decide +kernel
theorem dX2_has_20 : decode cX2_has 20 = .ok (.iload_n 2, 1) := by decide +kernel
theorem dX2_has_21 : decode cX2_has 21 = .ok (.iaload, 1) := by decide +kernel
theorem dX2_has_22 : decode cX2_has 22 = .ok (.iload_n 1, 1) := by decide +kernel
theorem dX2_has_23 : decode cX2_has 23 = .ok (.if_icmp .ne 5, 3) := by decide +kernel
theorem dX2_has_26 : decode cX2_has 26 = .ok (.iconst 1, 1) := by decide +kernel
theorem dX2_has_27 : decode cX2_has 27 = .ok (.ireturn, 1) := by decide +kernel
theorem dX2_has_28 : decode cX2_has 28 = .ok (.iinc 2 1, 3) := by decide +kernel
theorem dX2_has_31 : decode cX2_has 31 = .ok (.goto (-29), 3) := by decide +kernel
theorem dX2_has_34 : decode cX2_has 34 = .ok (.iconst 0, 1) := by decide +kernel
theorem dX2_has_35 : decode cX2_has 35 = .ok (.ireturn, 1) := by decide +kernel
theorem dX2_append_0 : decode cX2_append 0 = .ok (.aload_n 0, 1) := by decide +kernel
theorem dX2_append_1 : decode cX2_append 1 = .ok (.getfield 15, 3) := by decide +kernel
theorem dX2_append_4 : decode cX2_append 4 = .ok (.ifCond .lt 32, 3) := by decide +kernel
theorem dX2_append_7 : decode cX2_append 7 = .ok (.aload_n 0, 1) := by decide +kernel
theorem dX2_append_8 : decode cX2_append 8 = .ok (.getfield 15, 3) := by decide +kernel
theorem dX2_append_11 : decode cX2_append 11 = .ok (.bipush 24, 2) := by decide +kernel
theorem dX2_append_13 : decode cX2_append 13 = .ok (.if_icmp .ge 23, 3) := by decide +kernel
theorem dX2_append_16 : decode cX2_append 16 = .ok (.aload_n 0, 1) := by decide +kernel
theorem dX2_append_17 : decode cX2_append 17 = .ok (.getfield 9, 3) := by decide +kernel
theorem dX2_append_20 : decode cX2_append 20 = .ok (.aload_n 0, 1) := by decide +kernel
theorem dX2_append_21 : decode cX2_append 21 = .ok (.getfield 15, 3) := by decide +kernel
theorem dX2_append_24 : decode cX2_append 24 = .ok (.iload_n 1, 1) := by decide +kernel
theorem dX2_append_25 : decode cX2_append 25 = .ok (.iastore, 1) := by decide +kernel
theorem dX2_append_26 : decode cX2_append 26 = .ok (.aload_n 0, 1) := by decide +kernel
theorem dX2_append_27 : decode cX2_append 27 = .ok (.dup, 1) := by decide +kernel
theorem dX2_append_28 : decode cX2_append 28 = .ok (.getfield 15, 3) := by decide +kernel
theorem dX2_append_31 : decode cX2_append 31 = .ok (.iconst 1, 1) := by decide +kernel
theorem dX2_append_32 : decode cX2_append 32 = .ok (.iadd, 1) := by decide +kernel
theorem dX2_append_33 : decode cX2_append 33 = .ok (.putfield 15, 3) := by decide +kernel
theorem dX2_append_36 : decode cX2_append 36 = .ok (.return_, 1) := by decide +kernel
theorem dX2_remove_0 : decode cX2_remove 0 = .ok (.iconst 0, 1) := by decide +kernel
theorem dX2_remove_1 : decode cX2_remove 1 = .ok (.istore_n 2, 1) := by decide +kernel
theorem dX2_remove_2 : decode cX2_remove 2 = .ok (.iconst 0, 1) := by decide +kernel
theorem dX2_remove_3 : decode cX2_remove 3 = .ok (.istore_n 3, 1) := by decide +kernel
theorem dX2_remove_4 : decode cX2_remove 4 = .ok (.iload_n 3, 1) := by decide +kernel
theorem dX2_remove_5 : decode cX2_remove 5 = .ok (.aload_n 0, 1) := by decide +kernel
theorem dX2_remove_6 : decode cX2_remove 6 = .ok (.getfield 15, 3) := by decide +kernel
theorem dX2_remove_9 : decode cX2_remove 9 = .ok (.if_icmp .ge 40, 3) := by decide +kernel
theorem dX2_remove_12 : decode cX2_remove 12 = .ok (.iload_n 3, 1) := by decide +kernel
theorem dX2_remove_13 : decode cX2_remove 13 = .ok (.bipush 24, 2) := by decide +kernel
theorem dX2_remove_15 : decode cX2_remove 15 = .ok (.if_icmp .ge 34, 3) := by decide +kernel
theorem dX2_remove_18 : decode cX2_remove 18 = .ok (.aload_n 0, 1) := by decide +kernel
theorem dX2_remove_19 : decode cX2_remove 19 = .ok (.getfield 9, 3) := by decide +kernel
theorem dX2_remove_22 : decode cX2_remove 22 = .ok (.iload_n 3, 1) := by decide +kernel
theorem dX2_remove_23 : decode cX2_remove 23 = .ok (.iaload, 1) := by decide +kernel
theorem dX2_remove_24 : decode cX2_remove 24 = .ok (.iload_n 1, 1) := by decide +kernel
theorem dX2_remove_25 : decode cX2_remove 25 = .ok (.if_icmp .eq 18, 3) := by decide +kernel
theorem dX2_remove_28 : decode cX2_remove 28 = .ok (.aload_n 0, 1) := by decide +kernel
theorem dX2_remove_29 : decode cX2_remove 29 = .ok (.getfield 9, 3) := by decide +kernel
theorem dX2_remove_32 : decode cX2_remove 32 = .ok (.iload_n 2, 1) := by decide +kernel
theorem dX2_remove_33 : decode cX2_remove 33 = .ok (.aload_n 0, 1) := by decide +kernel
theorem dX2_remove_34 : decode cX2_remove 34 = .ok (.getfield 9, 3) := by decide +kernel
theorem dX2_remove_37 : decode cX2_remove 37 = .ok (.iload_n 3, 1) := by decide +kernel
theorem dX2_remove_38 : decode cX2_remove 38 = .ok (.iaload, 1) := by decide +kernel
theorem dX2_remove_39 : decode cX2_remove 39 = .ok (.iastore, 1) := by decide +kernel
theorem dX2_remove_40 : decode cX2_remove 40 = .ok (.iinc 2 1, 3) := by decide +kernel
theorem dX2_remove_43 : decode cX2_remove 43 = .ok (.iinc 3 1, 3) := by decide +kernel
theorem dX2_remove_46 : decode cX2_remove 46 = .ok (.goto (-42), 3) := by decide +kernel
theorem dX2_remove_49 : decode cX2_remove 49 = .ok (.aload_n 0, 1) := by decide +kernel
theorem dX2_remove_50 : decode cX2_remove 50 = .ok (.iload_n 2, 1) := by decide +kernel
theorem dX2_remove_51 : decode cX2_remove 51 = .ok (.putfield 15, 3) := by decide +kernel
theorem dX2_remove_54 : decode cX2_remove 54 = .ok (.return_, 1) := by decide +kernel
theorem dX3_init_0 : decode cX3_init 0 = .ok (.aload_n 0, 1) := by decide +kernel
theorem dX3_init_1 : decode cX3_init 1 = .ok (.invokespecial 3, 3) := by decide +kernel
theorem dX3_init_4 : decode cX3_init 4 = .ok (.aload_n 0, 1) := by decide +kernel
theorem dX3_init_5 : decode cX3_init 5 = .ok (.bipush 12, 2) := by decide +kernel
theorem dX3_init_7 : decode cX3_init 7 = .ok (.newarray .int, 2) := by decide +kernel
theorem dX3_init_9 : decode cX3_init 9 = .ok (.putfield 9, 3) := by decide +kernel
theorem dX3_init_12 : decode cX3_init 12 = .ok (.aload_n 0, 1) := by decide +kernel
theorem dX3_init_13 : decode cX3_init 13 = .ok (.bipush 12, 2) := by decide +kernel
theorem dX3_init_15 : decode cX3_init 15 = .ok (.newarray .int, 2) := by decide +kernel
theorem dX3_init_17 : decode cX3_init 17 = .ok (.putfield 15, 3) := by decide +kernel
theorem dX3_init_20 : decode cX3_init 20 = .ok (.return_, 1) := by decide +kernel
theorem dX3_append_0 : decode cX3_append 0 = .ok (.aload_n 0, 1) := by decide +kernel
theorem dX3_append_1 : decode cX3_append 1 = .ok (.getfield 18, 3) := by decide +kernel
theorem dX3_append_4 : decode cX3_append 4 = .ok (.ifCond .lt 42, 3) := by decide +kernel
theorem dX3_append_7 : decode cX3_append 7 = .ok (.aload_n 0, 1) := by decide +kernel
theorem dX3_append_8 : decode cX3_append 8 = .ok (.getfield 18, 3) := by decide +kernel
theorem dX3_append_11 : decode cX3_append 11 = .ok (.bipush 12, 2) := by decide +kernel
theorem dX3_append_13 : decode cX3_append 13 = .ok (.if_icmp .ge 33, 3) := by decide +kernel
theorem dX3_append_16 : decode cX3_append 16 = .ok (.aload_n 0, 1) := by decide +kernel
theorem dX3_append_17 : decode cX3_append 17 = .ok (.getfield 9, 3) := by decide +kernel
theorem dX3_append_20 : decode cX3_append 20 = .ok (.aload_n 0, 1) := by decide +kernel
theorem dX3_append_21 : decode cX3_append 21 = .ok (.getfield 18, 3) := by decide +kernel
theorem dX3_append_24 : decode cX3_append 24 = .ok (.iload_n 1, 1) := by decide +kernel
theorem dX3_append_25 : decode cX3_append 25 = .ok (.iastore, 1) := by decide +kernel
theorem dX3_append_26 : decode cX3_append 26 = .ok (.aload_n 0, 1) := by decide +kernel
theorem dX3_append_27 : decode cX3_append 27 = .ok (.getfield 15, 3) := by decide +kernel
theorem dX3_append_30 : decode cX3_append 30 = .ok (.aload_n 0, 1) := by decide +kernel
theorem dX3_append_31 : decode cX3_append 31 = .ok (.getfield 18, 3) := by decide +kernel
theorem dX3_append_34 : decode cX3_append 34 = .ok (.iload_n 2, 1) := by decide +kernel
theorem dX3_append_35 : decode cX3_append 35 = .ok (.iastore, 1) := by decide +kernel
theorem dX3_append_36 : decode cX3_append 36 = .ok (.aload_n 0, 1) := by decide +kernel
theorem dX3_append_37 : decode cX3_append 37 = .ok (.dup, 1) := by decide +kernel
theorem dX3_append_38 : decode cX3_append 38 = .ok (.getfield 18, 3) := by decide +kernel
theorem dX3_append_41 : decode cX3_append 41 = .ok (.iconst 1, 1) := by decide +kernel
theorem dX3_append_42 : decode cX3_append 42 = .ok (.iadd, 1) := by decide +kernel
theorem dX3_append_43 : decode cX3_append 43 = .ok (.putfield 18, 3) := by decide +kernel
theorem dX3_append_46 : decode cX3_append 46 = .ok (.return_, 1) := by decide +kernel
theorem dX3_codeAt_0 : decode cX3_codeAt 0 = .ok (.iload_n 1, 1) := by decide +kernel
theorem dX3_codeAt_1 : decode cX3_codeAt 1 = .ok (.ifCond .lt 18, 3) := by decide +kernel
theorem dX3_codeAt_4 : decode cX3_codeAt 4 = .ok (.iload_n 1, 1) := by decide +kernel
theorem dX3_codeAt_5 : decode cX3_codeAt 5 = .ok (.bipush 12, 2) := by decide +kernel
theorem dX3_codeAt_7 : decode cX3_codeAt 7 = .ok (.if_icmp .ge 12, 3) := by decide +kernel
theorem dX3_codeAt_10 : decode cX3_codeAt 10 = .ok (.aload_n 0, 1) := by decide +kernel
theorem dX3_codeAt_11 : decode cX3_codeAt 11 = .ok (.getfield 9, 3) := by decide +kernel
theorem dX3_codeAt_14 : decode cX3_codeAt 14 = .ok (.iload_n 1, 1) := by decide +kernel
theorem dX3_codeAt_15 : decode cX3_codeAt 15 = .ok (.iaload, 1) := by decide +kernel
theorem dX3_codeAt_16 : decode cX3_codeAt 16 = .ok (.goto 4, 3) := by decide +kernel
theorem dX3_codeAt_19 : decode cX3_codeAt 19 = .ok (.iconst (-1), 1) := by decide +kernel
theorem dX3_codeAt_20 : decode cX3_codeAt 20 = .ok (.ireturn, 1) := by decide +kernel
theorem dX3_numberAt_0 : decode cX3_numberAt 0 = .ok (.iload_n 1, 1) := by decide +kernel
theorem dX3_numberAt_1 : decode cX3_numberAt 1 = .ok (.ifCond .lt 18, 3) := by decide +kernel
theorem dX3_numberAt_4 : decode cX3_numberAt 4 = .ok (.iload_n 1, 1) := by decide +kernel
theorem dX3_numberAt_5 : decode cX3_numberAt 5 = .ok (.bipush 12, 2) := by decide +kernel
theorem dX3_numberAt_7 : decode cX3_numberAt 7 = .ok (.if_icmp .ge 12, 3) := by decide +kernel
theorem dX3_numberAt_10 : decode cX3_numberAt 10 = .ok (.aload_n 0, 1) := by decide +kernel
theorem dX3_numberAt_11 : decode cX3_numberAt 11 = .ok (.getfield 15, 3) := by decide +kernel
theorem dX3_numberAt_14 : decode cX3_numberAt 14 = .ok (.iload_n 1, 1) := by decide +kernel
theorem dX3_numberAt_15 : decode cX3_numberAt 15 = .ok (.iaload, 1) := by decide +kernel
theorem dX3_numberAt_16 : decode cX3_numberAt 16 = .ok (.goto 4, 3) := by decide +kernel
theorem dX3_numberAt_19 : decode cX3_numberAt 19 = .ok (.iconst 0, 1) := by decide +kernel
theorem dX3_numberAt_20 : decode cX3_numberAt 20 = .ok (.ireturn, 1) := by decide +kernel
theorem dX4_init_0 : decode cX4_init 0 = .ok (.aload_n 0, 1) := by decide +kernel
theorem dX4_init_1 : decode cX4_init 1 = .ok (.invokespecial 1, 3) := by decide +kernel
theorem dX4_init_4 : decode cX4_init 4 = .ok (.aload_n 0, 1) := by decide +kernel
theorem dX4_init_5 : decode cX4_init 5 = .ok (.iload_n 1, 1) := by decide +kernel
theorem dX4_init_6 : decode cX4_init 6 = .ok (.putfield 7, 3) := by decide +kernel
theorem dX4_init_9 : decode cX4_init 9 = .ok (.return_, 1) := by decide +kernel
theorem dX4_begin_0 : decode cX4_begin 0 = .ok (.aload_n 0, 1) := by decide +kernel
theorem dX4_begin_1 : decode cX4_begin 1 = .ok (.iload_n 1, 1) := by decide +kernel
theorem dX4_begin_2 : decode cX4_begin 2 = .ok (.putfield 13, 3) := by decide +kernel
theorem dX4_begin_5 : decode cX4_begin 5 = .ok (.aload_n 0, 1) := by decide +kernel
theorem dX4_begin_6 : decode cX4_begin 6 = .ok (.iconst 0, 1) := by decide +kernel
theorem dX4_begin_7 : decode cX4_begin 7 = .ok (.putfield 16, 3) := by decide +kernel
theorem dX4_begin_10 : decode cX4_begin 10 = .ok (.aload_n 0, 1) := by decide +kernel
theorem dX4_begin_11 : decode cX4_begin 11 = .ok (.iconst 0, 1) := by decide +kernel
theorem dX4_begin_12 : decode cX4_begin 12 = .ok (.putfield 19, 3) := by decide +kernel
theorem dX4_begin_15 : decode cX4_begin 15 = .ok (.aload_n 0, 1) := by decide +kernel
theorem dX4_begin_16 : decode cX4_begin 16 = .ok (.iconst 0, 1) := by decide +kernel
theorem dX4_begin_17 : decode cX4_begin 17 = .ok (.putfield 22, 3) := by decide +kernel
theorem dX4_begin_20 : decode cX4_begin 20 = .ok (.aload_n 0, 1) := by decide +kernel
theorem dX4_begin_21 : decode cX4_begin 21 = .ok (.iload_n 2, 1) := by decide +kernel
theorem dX4_begin_22 : decode cX4_begin 22 = .ok (.putfield 25, 3) := by decide +kernel
theorem dX4_begin_25 : decode cX4_begin 25 = .ok (.aload_n 0, 1) := by decide +kernel
theorem dX4_begin_26 : decode cX4_begin 26 = .ok (.iconst 0, 1) := by decide +kernel
theorem dX4_begin_27 : decode cX4_begin 27 = .ok (.putfield 28, 3) := by decide +kernel
theorem dX4_begin_30 : decode cX4_begin 30 = .ok (.aload_n 0, 1) := by decide +kernel
theorem dX4_begin_31 : decode cX4_begin 31 = .ok (.iconst (-1), 1) := by decide +kernel
theorem dX4_begin_32 : decode cX4_begin 32 = .ok (.putfield 31, 3) := by decide +kernel
theorem dX4_begin_35 : decode cX4_begin 35 = .ok (.aload_n 0, 1) := by decide +kernel
theorem dX4_begin_36 : decode cX4_begin 36 = .ok (.iconst 0, 1) := by decide +kernel
theorem dX4_begin_37 : decode cX4_begin 37 = .ok (.putfield 34, 3) := by decide +kernel
theorem dX4_begin_40 : decode cX4_begin 40 = .ok (.aload_n 0, 1) := by decide +kernel
theorem dX4_begin_41 : decode cX4_begin 41 = .ok (.iconst 0, 1) := by decide +kernel
theorem dX4_begin_42 : decode cX4_begin 42 = .ok (.putfield 37, 3) := by decide +kernel
theorem dX4_begin_45 : decode cX4_begin 45 = .ok (.aload_n 0, 1) := by decide +kernel
theorem dX4_begin_46 : decode cX4_begin 46 = .ok (.iconst (-1), 1) := by decide +kernel
theorem dX4_begin_47 : decode cX4_begin 47 = .ok (.putfield 40, 3) := by decide +kernel
theorem dX4_begin_50 : decode cX4_begin 50 = .ok (.return_, 1) := by decide +kernel
theorem dX4_copyFrom_0 : decode cX4_copyFrom 0 = .ok (.aload_n 0, 1) := by decide +kernel
theorem dX4_copyFrom_1 : decode cX4_copyFrom 1 = .ok (.aload_n 1, 1) := by decide +kernel
theorem dX4_copyFrom_2 : decode cX4_copyFrom 2 = .ok (.getfield 13, 3) := by decide +kernel
theorem dX4_copyFrom_5 : decode cX4_copyFrom 5 = .ok (.putfield 13, 3) := by decide +kernel
theorem dX4_copyFrom_8 : decode cX4_copyFrom 8 = .ok (.aload_n 0, 1) := by decide +kernel
theorem dX4_copyFrom_9 : decode cX4_copyFrom 9 = .ok (.aload_n 1, 1) := by decide +kernel
theorem dX4_copyFrom_10 : decode cX4_copyFrom 10 = .ok (.getfield 16, 3) := by decide +kernel
theorem dX4_copyFrom_13 : decode cX4_copyFrom 13 = .ok (.putfield 16, 3) := by decide +kernel
theorem dX4_copyFrom_16 : decode cX4_copyFrom 16 = .ok (.aload_n 0, 1) := by decide +kernel
theorem dX4_copyFrom_17 : decode cX4_copyFrom 17 = .ok (.aload_n 1, 1) := by decide +kernel
theorem dX4_copyFrom_18 : decode cX4_copyFrom 18 = .ok (.getfield 19, 3) := by decide +kernel
theorem dX4_copyFrom_21 : decode cX4_copyFrom 21 = .ok (.putfield 19, 3) := by decide +kernel
theorem dX4_copyFrom_24 : decode cX4_copyFrom 24 = .ok (.aload_n 0, 1) := by decide +kernel
theorem dX4_copyFrom_25 : decode cX4_copyFrom 25 = .ok (.aload_n 1, 1) := by decide +kernel
theorem dX4_copyFrom_26 : decode cX4_copyFrom 26 = .ok (.getfield 22, 3) := by decide +kernel
theorem dX4_copyFrom_29 : decode cX4_copyFrom 29 = .ok (.putfield 22, 3) := by decide +kernel
theorem dX4_copyFrom_32 : decode cX4_copyFrom 32 = .ok (.aload_n 0, 1) := by decide +kernel
theorem dX4_copyFrom_33 : decode cX4_copyFrom 33 = .ok (.aload_n 1, 1) := by decide +kernel
theorem dX4_copyFrom_34 : decode cX4_copyFrom 34 = .ok (.getfield 25, 3) := by decide +kernel
theorem dX4_copyFrom_37 : decode cX4_copyFrom 37 = .ok (.putfield 25, 3) := by decide +kernel
theorem dX4_copyFrom_40 : decode cX4_copyFrom 40 = .ok (.aload_n 0, 1) := by decide +kernel
theorem dX4_copyFrom_41 : decode cX4_copyFrom 41 = .ok (.aload_n 1, 1) := by decide +kernel
theorem dX4_copyFrom_42 : decode cX4_copyFrom 42 = .ok (.getfield 28, 3) := by decide +kernel
theorem dX4_copyFrom_45 : decode cX4_copyFrom 45 = .ok (.putfield 28, 3) := by decide +kernel
theorem dX4_copyFrom_48 : decode cX4_copyFrom 48 = .ok (.aload_n 0, 1) := by decide +kernel
theorem dX4_copyFrom_49 : decode cX4_copyFrom 49 = .ok (.aload_n 1, 1) := by decide +kernel
theorem dX4_copyFrom_50 : decode cX4_copyFrom 50 = .ok (.getfield 31, 3) := by decide +kernel
theorem dX4_copyFrom_53 : decode cX4_copyFrom 53 = .ok (.putfield 31, 3) := by decide +kernel
theorem dX4_copyFrom_56 : decode cX4_copyFrom 56 = .ok (.aload_n 0, 1) := by decide +kernel
theorem dX4_copyFrom_57 : decode cX4_copyFrom 57 = .ok (.aload_n 1, 1) := by decide +kernel
theorem dX4_copyFrom_58 : decode cX4_copyFrom 58 = .ok (.getfield 34, 3) := by decide +kernel
theorem dX4_copyFrom_61 : decode cX4_copyFrom 61 = .ok (.putfield 34, 3) := by decide +kernel
theorem dX4_copyFrom_64 : decode cX4_copyFrom 64 = .ok (.aload_n 0, 1) := by decide +kernel
theorem dX4_copyFrom_65 : decode cX4_copyFrom 65 = .ok (.aload_n 1, 1) := by decide +kernel
theorem dX4_copyFrom_66 : decode cX4_copyFrom 66 = .ok (.getfield 37, 3) := by decide +kernel
theorem dX4_copyFrom_69 : decode cX4_copyFrom 69 = .ok (.putfield 37, 3) := by decide +kernel
theorem dX4_copyFrom_72 : decode cX4_copyFrom 72 = .ok (.aload_n 0, 1) := by decide +kernel
theorem dX4_copyFrom_73 : decode cX4_copyFrom 73 = .ok (.aload_n 1, 1) := by decide +kernel
theorem dX4_copyFrom_74 : decode cX4_copyFrom 74 = .ok (.getfield 40, 3) := by decide +kernel
theorem dX4_copyFrom_77 : decode cX4_copyFrom 77 = .ok (.putfield 40, 3) := by decide +kernel
theorem dX4_copyFrom_80 : decode cX4_copyFrom 80 = .ok (.return_, 1) := by decide +kernel
theorem dX4_isBlocked_0 : decode cX4_isBlocked 0 = .ok (.aload_n 0, 1) := by decide +kernel
theorem dX4_isBlocked_1 : decode cX4_isBlocked 1 = .ok (.getfield 16, 3) := by decide +kernel
theorem dX4_isBlocked_4 : decode cX4_isBlocked 4 = .ok (.iconst 2, 1) := by decide +kernel
theorem dX4_isBlocked_5 : decode cX4_isBlocked 5 = .ok (.if_icmp .eq 11, 3) := by decide +kernel
theorem dX4_isBlocked_8 : decode cX4_isBlocked 8 = .ok (.aload_n 0, 1) := by decide +kernel
theorem dX4_isBlocked_9 : decode cX4_isBlocked 9 = .ok (.getfield 16, 3) := by decide +kernel
theorem dX4_isBlocked_12 : decode cX4_isBlocked 12 = .ok (.iconst 3, 1) := by decide +kernel
theorem dX4_isBlocked_13 : decode cX4_isBlocked 13 = .ok (.if_icmp .ne 7, 3) := by decide +kernel
theorem dX4_isBlocked_16 : decode cX4_isBlocked 16 = .ok (.iconst 1, 1) := by decide +kernel
theorem dX4_isBlocked_17 : decode cX4_isBlocked 17 = .ok (.goto 4, 3) := by decide +kernel
theorem dX4_isBlocked_20 : decode cX4_isBlocked 20 = .ok (.iconst 0, 1) := by decide +kernel
theorem dX4_isBlocked_21 : decode cX4_isBlocked 21 = .ok (.ireturn, 1) := by decide +kernel
theorem dX4_isOver_0 : decode cX4_isOver 0 = .ok (.aload_n 0, 1) := by decide +kernel
theorem dX4_isOver_1 : decode cX4_isOver 1 = .ok (.getfield 16, 3) := by decide +kernel
theorem dX4_isOver_4 : decode cX4_isOver 4 = .ok (.iconst 4, 1) := by decide +kernel
theorem dX4_isOver_5 : decode cX4_isOver 5 = .ok (.if_icmp .lt 7, 3) := by decide +kernel
theorem dX4_isOver_8 : decode cX4_isOver 8 = .ok (.iconst 1, 1) := by decide +kernel
theorem dX4_isOver_9 : decode cX4_isOver 9 = .ok (.goto 4, 3) := by decide +kernel
theorem dX4_isOver_12 : decode cX4_isOver 12 = .ok (.iconst 0, 1) := by decide +kernel
theorem dX4_isOver_13 : decode cX4_isOver 13 = .ok (.ireturn, 1) := by decide +kernel
set_option maxRecDepth 20000 in
theorem ggX4_lastChild_J6_numberOfLeadingZeros_0f7a4 : GoodIn wsX4_lastChild wsJ6_numberOfLeadingZeros_0f7a4 := goodIn_r _ [5, 6] (by decide +kernel) (by decide +kernel)
set_option maxRecDepth 20000 in
theorem gX4_lastChild_J6_numberOfLeadingZeros_0f7a4 : GoodIn wsX4_lastChild (va_wsS RX4 43 yJ6_numberOfLeadingZeros_0f7a4 wsJ6_numberOfLeadingZeros_0f7a4) := goodIn_app (goodIn_of _ (by decide +kernel)) ggX4_lastChild_J6_numberOfLeadingZeros_0f7a4
theorem dX4_lastChild_0 : decode cX4_lastChild 0 = .ok (.bipush 31, 2) := by decide +kernel
theorem dX4_lastChild_2 : decode cX4_lastChild 2 = .ok (.aload_n 0, 1) := by decide +kernel
theorem dX4_lastChild_3 : decode cX4_lastChild 3 = .ok (.getfield 28, 3) := by decide +kernel
theorem dX4_lastChild_6 : decode cX4_lastChild 6 = .ok (.invokestatic 43, 3) := by decide +kernel
theorem dX4_lastChild_9 : decode cX4_lastChild 9 = .ok (.isub, 1) := by decide +kernel
theorem dX4_lastChild_10 : decode cX4_lastChild 10 = .ok (.ireturn, 1) := by decide +kernel
theorem dX4_addValue_0 : decode cX4_addValue 0 = .ok (.aload_n 0, 1) := by decide +kernel
theorem dX4_addValue_1 : decode cX4_addValue 1 = .ok (.ldc 49, 2) := by decide +kernel
theorem dX4_addValue_3 : decode cX4_addValue 3 = .ok (.ldc 50, 2) := by decide +kernel
theorem dX4_addValue_5 : decode cX4_addValue 5 = .ok (.aload_n 0, 1) := by decide +kernel
theorem dX4_addValue_6 : decode cX4_addValue 6 = .ok (.getfield 22, 3) := by decide +kernel
theorem dX4_addValue_9 : decode cX4_addValue 9 = .ok (.iload_n 1, 1) := by decide +kernel
theorem dX4_addValue_10 : decode cX4_addValue 10 = .ok (.iadd, 1) := by decide +kernel
theorem dX4_addValue_11 : decode cX4_addValue 11 = .ok (.invokestatic 51, 3) := by decide +kernel
theorem dX4_addValue_14 : decode cX4_addValue 14 = .ok (.invokestatic 57, 3) := by decide +kernel
theorem dX4_addValue_17 : decode cX4_addValue 17 = .ok (.putfield 22, 3) := by decide +kernel
theorem dX4_addValue_20 : decode cX4_addValue 20 = .ok (.return_, 1) := by decide +kernel
set_option maxRecDepth 20000 in
theorem ggX5_init_X2_init : GoodIn wsX5_init wsX2_init := goodIn_r _ [12, 13, 2, 3, 9, 14, 15, 16] (by decide +kernel) (by decide +kernel)
set_option maxRecDepth 20000 in
theorem gX5_init_X2_init_n11 : GoodIn wsX5_init (wsX2_init) := ggX5_init_X2_init
theorem dX5_init_0 : decode cX5_init 0 = .ok (.aload_n 0, 1) := by decide +kernel
theorem dX5_init_1 : decode cX5_init 1 = .ok (.invokespecial 3, 3) := by decide +kernel
theorem dX5_init_4 : decode cX5_init 4 = .ok (.aload_n 0, 1) := by decide +kernel
theorem dX5_init_5 : decode cX5_init 5 = .ok (.new 9, 3) := by decide +kernel
theorem dX5_init_8 : decode cX5_init 8 = .ok (.dup, 1) := by decide +kernel
theorem dX5_init_9 : decode cX5_init 9 = .ok (.invokespecial 11, 3) := by decide +kernel
theorem dX5_init_12 : decode cX5_init 12 = .ok (.putfield 12, 3) := by decide +kernel
theorem dX5_init_15 : decode cX5_init 15 = .ok (.aload_n 0, 1) := by decide +kernel
theorem dX5_init_16 : decode cX5_init 16 = .ok (.new 9, 3) := by decide +kernel
theorem dX5_init_19 : decode cX5_init 19 = .ok (.dup, 1) := by decide +kernel
theorem dX5_init_20 : decode cX5_init 20 = .ok (.invokespecial 11, 3) := by decide +kernel
theorem dX5_init_23 : decode cX5_init 23 = .ok (.putfield 18, 3) := by decide +kernel
theorem dX5_init_26 : decode cX5_init 26 = .ok (.aload_n 0, 1) := by decide +kernel
theorem dX5_init_27 : decode cX5_init 27 = .ok (.bipush 20, 2) := by decide +kernel
theorem dX5_init_29 : decode cX5_init 29 = .ok (.newarray .int, 2) := by decide +kernel
theorem dX5_init_31 : decode cX5_init 31 = .ok (.putfield 21, 3) := by decide +kernel
theorem dX5_init_34 : decode cX5_init 34 = .ok (.return_, 1) := by decide +kernel
set_option maxRecDepth 20000 in
theorem ggX5_begin_X2_clear : GoodIn wsX5_begin wsX2_clear := goodIn_r _ [11, 12, 23, 24] (by decide +kernel) (by decide +kernel)
set_option maxRecDepth 20000 in
theorem gX5_begin_X2_clear : GoodIn wsX5_begin (wsV RX5 25 RX2 yX2_clear wsX2_clear) := goodIn_app (goodIn_of _ (by decide +kernel)) ggX5_begin_X2_clear
set_option maxRecDepth 20000 in
theorem ggX5_begin_J7_fill_53178 : GoodIn wsX5_begin wsJ7_fill_53178 := goodIn_r _ [16] (by decide +kernel) (by decide +kernel)
set_option maxRecDepth 20000 in
theorem gX5_begin_J7_fill_53178 : GoodIn wsX5_begin (va_wsS RX5 38 yJ7_fill_53178 wsJ7_fill_53178) := goodIn_app (goodIn_of _ (by decide +kernel)) ggX5_begin_J7_fill_53178
theorem dX5_begin_0 : decode cX5_begin 0 = .ok (.aload_n 0, 1) := by decide +kernel
theorem dX5_begin_1 : decode cX5_begin 1 = .ok (.getfield 12, 3) := by decide +kernel
theorem dX5_begin_4 : decode cX5_begin 4 = .ok (.invokevirtual 25, 3) := by decide +kernel
theorem dX5_begin_7 : decode cX5_begin 7 = .ok (.aload_n 0, 1) := by decide +kernel
theorem dX5_begin_8 : decode cX5_begin 8 = .ok (.getfield 18, 3) := by decide +kernel
theorem dX5_begin_11 : decode cX5_begin 11 = .ok (.invokevirtual 25, 3) := by decide +kernel
theorem dX5_begin_14 : decode cX5_begin 14 = .ok (.aload_n 0, 1) := by decide +kernel
theorem dX5_begin_15 : decode cX5_begin 15 = .ok (.iconst 0, 1) := by decide +kernel
theorem dX5_begin_16 : decode cX5_begin 16 = .ok (.putfield 28, 3) := by decide +kernel
theorem dX5_begin_19 : decode cX5_begin 19 = .ok (.aload_n 0, 1) := by decide +kernel
theorem dX5_begin_20 : decode cX5_begin 20 = .ok (.iconst 0, 1) := by decide +kernel
theorem dX5_begin_21 : decode cX5_begin 21 = .ok (.putfield 32, 3) := by decide +kernel
theorem dX5_begin_24 : decode cX5_begin 24 = .ok (.aload_n 0, 1) := by decide +kernel
theorem dX5_begin_25 : decode cX5_begin 25 = .ok (.iconst 0, 1) := by decide +kernel
theorem dX5_begin_26 : decode cX5_begin 26 = .ok (.putfield 35, 3) := by decide +kernel
theorem dX5_begin_29 : decode cX5_begin 29 = .ok (.aload_n 0, 1) := by decide +kernel
theorem dX5_begin_30 : decode cX5_begin 30 = .ok (.getfield 21, 3) := by decide +kernel
theorem dX5_begin_33 : decode cX5_begin 33 = .ok (.iconst (-1), 1) := by decide +kernel
theorem dX5_begin_34 : decode cX5_begin 34 = .ok (.invokestatic 38, 3) := by decide +kernel
theorem dX5_begin_37 : decode cX5_begin 37 = .ok (.return_, 1) := by decide +kernel
set_option maxRecDepth 20000 in
theorem ggX5_copyFrom_X2_copyFrom : GoodIn wsX5_copyFrom wsX2_copyFrom := goodIn_r _ [11, 12, 13, 20, 21] (by decide +kernel) (by decide +kernel)
set_option maxRecDepth 20000 in
theorem gX5_copyFrom_X2_copyFrom : GoodIn wsX5_copyFrom (wsV RX5 44 RX2 yX2_copyFrom wsX2_copyFrom) := goodIn_app (goodIn_of _ (by decide +kernel)) ggX5_copyFrom_X2_copyFrom
theorem dX5_copyFrom_0 : decode cX5_copyFrom 0 = .ok (.aload_n 0, 1) := by decide +kernel
theorem dX5_copyFrom_1 : decode cX5_copyFrom 1 = .ok (.getfield 12, 3) := by decide +kernel
theorem dX5_copyFrom_4 : decode cX5_copyFrom 4 = .ok (.aload_n 1, 1) := by decide +kernel
theorem dX5_copyFrom_5 : decode cX5_copyFrom 5 = .ok (.getfield 12, 3) := by decide +kernel
theorem dX5_copyFrom_8 : decode cX5_copyFrom 8 = .ok (.invokevirtual 44, 3) := by decide +kernel
theorem dX5_copyFrom_11 : decode cX5_copyFrom 11 = .ok (.aload_n 0, 1) := by decide +kernel
theorem dX5_copyFrom_12 : decode cX5_copyFrom 12 = .ok (.getfield 18, 3) := by decide +kernel
theorem dX5_copyFrom_15 : decode cX5_copyFrom 15 = .ok (.aload_n 1, 1) := by decide +kernel
theorem dX5_copyFrom_16 : decode cX5_copyFrom 16 = .ok (.getfield 18, 3) := by decide +kernel
theorem dX5_copyFrom_19 : decode cX5_copyFrom 19 = .ok (.invokevirtual 44, 3) := by decide +kernel
theorem dX5_copyFrom_22 : decode cX5_copyFrom 22 = .ok (.aload_n 0, 1) := by decide +kernel
theorem dX5_copyFrom_23 : decode cX5_copyFrom 23 = .ok (.aload_n 1, 1) := by decide +kernel
theorem dX5_copyFrom_24 : decode cX5_copyFrom 24 = .ok (.getfield 28, 3) := by decide +kernel
theorem dX5_copyFrom_27 : decode cX5_copyFrom 27 = .ok (.putfield 28, 3) := by decide +kernel
theorem dX5_copyFrom_30 : decode cX5_copyFrom 30 = .ok (.aload_n 0, 1) := by decide +kernel
theorem dX5_copyFrom_31 : decode cX5_copyFrom 31 = .ok (.aload_n 1, 1) := by decide +kernel
theorem dX5_copyFrom_32 : decode cX5_copyFrom 32 = .ok (.getfield 32, 3) := by decide +kernel
theorem dX5_copyFrom_35 : decode cX5_copyFrom 35 = .ok (.putfield 32, 3) := by decide +kernel
theorem dX5_copyFrom_38 : decode cX5_copyFrom 38 = .ok (.aload_n 0, 1) := by decide +kernel
theorem dX5_copyFrom_39 : decode cX5_copyFrom 39 = .ok (.aload_n 1, 1) := by decide +kernel
theorem dX5_copyFrom_40 : decode cX5_copyFrom 40 = .ok (.getfield 35, 3) := by decide +kernel
theorem dX5_copyFrom_43 : decode cX5_copyFrom 43 = .ok (.putfield 35, 3) := by decide +kernel
theorem dX5_copyFrom_46 : decode cX5_copyFrom 46 = .ok (.iconst 0, 1) := by decide +kernel
theorem dX5_copyFrom_47 : decode cX5_copyFrom 47 = .ok (.istore_n 2, 1) := by decide +kernel
theorem dX5_copyFrom_48 : decode cX5_copyFrom 48 = .ok (.iload_n 2, 1) := by decide +kernel
theorem dX5_copyFrom_49 : decode cX5_copyFrom 49 = .ok (.bipush 20, 2) := by decide +kernel
theorem dX5_copyFrom_51 : decode cX5_copyFrom 51 = .ok (.if_icmp .ge 21, 3) := by decide +kernel
theorem dX5_copyFrom_54 : decode cX5_copyFrom 54 = .ok (.aload_n 0, 1) := by decide +kernel
theorem dX5_copyFrom_55 : decode cX5_copyFrom 55 = .ok (.getfield 21, 3) := by decide +kernel
theorem dX5_copyFrom_58 : decode cX5_copyFrom 58 = .ok (.iload_n 2, 1) := by decide +kernel
theorem dX5_copyFrom_59 : decode cX5_copyFrom 59 = .ok (.aload_n 1, 1) := by decide +kernel
theorem dX5_copyFrom_60 : decode cX5_copyFrom 60 = .ok (.getfield 21, 3) := by decide +kernel
theorem dX5_copyFrom_63 : decode cX5_copyFrom 63 = .ok (.iload_n 2, 1) := by decide +kernel
theorem dX5_copyFrom_64 : decode cX5_copyFrom 64 = .ok (.iaload, 1) := by decide +kernel
theorem dX5_copyFrom_65 : decode cX5_copyFrom 65 = .ok (.iastore, 1) := by decide +kernel
theorem dX5_copyFrom_66 : decode cX5_copyFrom 66 = .ok (.iinc 2 1, 3) := by decide +kernel
theorem dX5_copyFrom_69 : decode cX5_copyFrom 69 = .ok (.goto (-21), 3) := by decide +kernel
theorem dX5_copyFrom_72 : decode cX5_copyFrom 72 = .ok (.return_, 1) := by decide +kernel
set_option maxRecDepth 20000 in
theorem ggX5_ranIn_J9_floorMod_7cf53 : GoodIn wsX5_ranIn wsJ9_floorMod_7cf53 := goodIn_r _ [5] (by decide +kernel) (by decide +kernel)
set_option maxRecDepth 20000 in
theorem gX5_ranIn_J9_floorMod_7cf53 : GoodIn wsX5_ranIn (va_wsS RX5 48 yJ9_floorMod_7cf53 wsJ9_floorMod_7cf53) := goodIn_app (goodIn_of _ (by decide +kernel)) ggX5_ranIn_J9_floorMod_7cf53
theorem dX5_ranIn_0 : decode cX5_ranIn 0 = .ok (.aload_n 0, 1) := by decide +kernel
theorem dX5_ranIn_1 : decode cX5_ranIn 1 = .ok (.getfield 21, 3) := by decide +kernel
theorem dX5_ranIn_4 : decode cX5_ranIn 4 = .ok (.iload_n 1, 1) := by decide +kernel
theorem dX5_ranIn_5 : decode cX5_ranIn 5 = .ok (.bipush 20, 2) := by decide +kernel
theorem dX5_ranIn_7 : decode cX5_ranIn 7 = .ok (.invokestatic 48, 3) := by decide +kernel
theorem dX5_ranIn_10 : decode cX5_ranIn 10 = .ok (.iaload, 1) := by decide +kernel
theorem dX5_ranIn_11 : decode cX5_ranIn 11 = .ok (.ireturn, 1) := by decide +kernel
set_option maxRecDepth 20000 in
theorem ggX5_noteRan_J9_floorMod_7cf53 : GoodIn wsX5_noteRan wsJ9_floorMod_7cf53 := goodIn_r _ [5] (by decide +kernel) (by decide +kernel)
set_option maxRecDepth 20000 in
theorem gX5_noteRan_J9_floorMod_7cf53 : GoodIn wsX5_noteRan (va_wsS RX5 48 yJ9_floorMod_7cf53 wsJ9_floorMod_7cf53) := goodIn_app (goodIn_of _ (by decide +kernel)) ggX5_noteRan_J9_floorMod_7cf53
theorem dX5_noteRan_0 : decode cX5_noteRan 0 = .ok (.aload_n 0, 1) := by decide +kernel
theorem dX5_noteRan_1 : decode cX5_noteRan 1 = .ok (.getfield 21, 3) := by decide +kernel
theorem dX5_noteRan_4 : decode cX5_noteRan 4 = .ok (.iload_n 1, 1) := by decide +kernel
theorem dX5_noteRan_5 : decode cX5_noteRan 5 = .ok (.bipush 20, 2) := by decide +kernel
theorem dX5_noteRan_7 : decode cX5_noteRan 7 = .ok (.invokestatic 48, 3) := by decide +kernel
theorem dX5_noteRan_10 : decode cX5_noteRan 10 = .ok (.iload_n 2, 1) := by decide +kernel
theorem dX5_noteRan_11 : decode cX5_noteRan 11 = .ok (.iastore, 1) := by decide +kernel
theorem dX5_noteRan_12 : decode cX5_noteRan 12 = .ok (.return_, 1) := by decide +kernel
set_option maxRecDepth 20000 in
theorem ggX6_init_X0_init : GoodIn wsX6_init wsX0_init := goodIn_r _ [15, 16, 2, 3, 17, 18, 19, 20, 21, 22, 23, 24, 25, 26, 27, 100, 101, 102, 118, 119, 120] (by decide +kernel) (by decide +kernel)
set_option maxRecDepth 20000 in
theorem gX6_init_X0_init : GoodIn wsX6_init (wsX0_init) := ggX6_init_X0_init
set_option maxRecDepth 20000 in
theorem ggX6_init_X1_init : GoodIn wsX6_init wsX1_init := goodIn_r _ [30, 31, 2, 3, 32, 33, 34, 35, 36, 37, 38, 39, 40, 41, 42, 43, 44, 45, 25, 46, 47, 48, 49, 50, 51, 52, 53, 54, 55, 56, 57, 58, 59, 60, 61, 62, 63, 64, 65, 66, 10, 67, 68, 69, 70, 71, 72, 73, 74, 75, 76, 77, 78, 79, 80, 81, 82, 83, 84, 85, 86, 87, 88, 89, 90, 91, 92, 93, 94, 95, 96, 97, 98, 99, 106, 107, 108, 109, 110, 111, 112, 113, 114, 115, 116, 117, 121, 122, 123, 124, 125, 126, 127, 128, 129, 130, 131, 132, 133, 134, 135, 136, 137, 138, 139] (by decide +kernel) (by decide +kernel)
set_option maxRecDepth 20000 in
theorem gX6_init_X1_init : GoodIn wsX6_init (wsX1_init) := ggX6_init_X1_init
theorem dX6_init_0 : decode cX6_init 0 = .ok (.aload_n 0, 1) := by decide +kernel
theorem dX6_init_1 : decode cX6_init 1 = .ok (.invokespecial 1, 3) := by decide +kernel
theorem dX6_init_4 : decode cX6_init 4 = .ok (.aload_n 0, 1) := by decide +kernel
theorem dX6_init_5 : decode cX6_init 5 = .ok (.new 7, 3) := by decide +kernel
theorem dX6_init_8 : decode cX6_init 8 = .ok (.dup, 1) := by decide +kernel
theorem dX6_init_9 : decode cX6_init 9 = .ok (.invokespecial 9, 3) := by decide +kernel
theorem dX6_init_12 : decode cX6_init 12 = .ok (.putfield 10, 3) := by decide +kernel
theorem dX6_init_15 : decode cX6_init 15 = .ok (.aload_n 0, 1) := by decide +kernel
theorem dX6_init_16 : decode cX6_init 16 = .ok (.new 16, 3) := by decide +kernel
theorem dX6_init_19 : decode cX6_init 19 = .ok (.dup, 1) := by decide +kernel
theorem dX6_init_20 : decode cX6_init 20 = .ok (.aload_n 0, 1) := by decide +kernel
theorem dX6_init_21 : decode cX6_init 21 = .ok (.getfield 10, 3) := by decide +kernel
theorem dX6_init_24 : decode cX6_init 24 = .ok (.invokespecial 18, 3) := by decide +kernel
theorem dX6_init_27 : decode cX6_init 27 = .ok (.putfield 21, 3) := by decide +kernel
theorem dX6_init_30 : decode cX6_init 30 = .ok (.aload_n 0, 1) := by decide +kernel
theorem dX6_init_31 : decode cX6_init 31 = .ok (.new 16, 3) := by decide +kernel
theorem dX6_init_34 : decode cX6_init 34 = .ok (.dup, 1) := by decide +kernel
theorem dX6_init_35 : decode cX6_init 35 = .ok (.aload_n 0, 1) := by decide +kernel
theorem dX6_init_36 : decode cX6_init 36 = .ok (.getfield 10, 3) := by decide +kernel
theorem dX6_init_39 : decode cX6_init 39 = .ok (.invokespecial 18, 3) := by decide +kernel
theorem dX6_init_42 : decode cX6_init 42 = .ok (.putfield 25, 3) := by decide +kernel
theorem dX6_init_45 : decode cX6_init 45 = .ok (.return_, 1) := by decide +kernel
set_option maxRecDepth 20000 in
theorem ggX6_addJob_X0_append : GoodIn wsX6_addJob wsX0_append := goodIn_r _ [8, 9, 13, 14, 15] (by decide +kernel) (by decide +kernel)
set_option maxRecDepth 20000 in
theorem gX6_addJob_X0_append : GoodIn wsX6_addJob (wsV RX6 39 RX0 yX0_append wsX0_append) := goodIn_app (goodIn_of _ (by decide +kernel)) ggX6_addJob_X0_append
theorem dX6_addJob_0 : decode cX6_addJob 0 = .ok (.aload_n 0, 1) := by decide +kernel
theorem dX6_addJob_1 : decode cX6_addJob 1 = .ok (.getfield 10, 3) := by decide +kernel
theorem dX6_addJob_4 : decode cX6_addJob 4 = .ok (.getfield 28, 3) := by decide +kernel
theorem dX6_addJob_7 : decode cX6_addJob 7 = .ok (.bipush 8, 2) := by decide +kernel
theorem dX6_addJob_9 : decode cX6_addJob 9 = .ok (.if_icmp .lt 13, 3) := by decide +kernel
theorem dX6_addJob_12 : decode cX6_addJob 12 = .ok (.new 32, 3) := by decide +kernel
theorem dX6_addJob_15 : decode cX6_addJob 15 = .ok (.dup, 1) := by decide +kernel
theorem dX6_addJob_16 : decode cX6_addJob 16 = .ok (.ldc 34, 2) := by decide +kernel
theorem dX6_addJob_18 : decode cX6_addJob 18 = .ok (.invokespecial 36, 3) := by decide +kernel
theorem dX6_addJob_21 : decode cX6_addJob 21 = .ok (.athrow, 1) := by decide +kernel
theorem dX6_addJob_22 : decode cX6_addJob 22 = .ok (.aload_n 0, 1) := by decide +kernel
theorem dX6_addJob_23 : decode cX6_addJob 23 = .ok (.getfield 10, 3) := by decide +kernel
theorem dX6_addJob_26 : decode cX6_addJob 26 = .ok (.invokevirtual 39, 3) := by decide +kernel
theorem dX6_addJob_29 : decode cX6_addJob 29 = .ok (.ireturn, 1) := by decide +kernel
set_option maxRecDepth 20000 in
theorem ggX6_addStep_X6_needJob : GoodIn wsX6_addStep wsX6_needJob := goodIn_ca (goodIn_r _ [11, 12, 13, 14, 15, 16, 10, 17, 5, 52, 53, 54, 58, 59, 60] (by decide +kernel) (by decide +kernel)) (goodIn_sub (fun _ h => List.mem_cons_of_mem _ (List.mem_append_right _ h)) (by decide +kernel))
set_option maxRecDepth 20000 in
theorem gX6_addStep_X6_needJob : GoodIn wsX6_addStep (wsV RX6 43 RX6 yX6_needJob wsX6_needJob) := goodIn_app (goodIn_of _ (by decide +kernel)) ggX6_addStep_X6_needJob
set_option maxRecDepth 20000 in
theorem ggX6_addStep_X6_isStep : GoodIn wsX6_addStep wsX6_isStep := goodIn_r _ [21, 14, 15, 16, 10, 17, 5, 22, 23, 24, 52, 53, 54, 58, 59, 60] (by decide +kernel) (by decide +kernel)
set_option maxRecDepth 20000 in
theorem gX6_addStep_X6_isStep : GoodIn wsX6_addStep (wsV RX6 47 RX6 yX6_isStep wsX6_isStep) := goodIn_app (goodIn_of _ (by decide +kernel)) ggX6_addStep_X6_isStep
set_option maxRecDepth 20000 in
theorem ggX6_addStep_X0_scriptAt : GoodIn wsX6_addStep wsX0_scriptAt := goodIn_r _ [29, 30, 31, 58, 59, 60] (by decide +kernel) (by decide +kernel)
set_option maxRecDepth 20000 in
theorem gX6_addStep_X0_scriptAt : GoodIn wsX6_addStep (wsV RX6 56 RX0 yX0_scriptAt wsX0_scriptAt) := goodIn_app (goodIn_of _ (by decide +kernel)) ggX6_addStep_X0_scriptAt
set_option maxRecDepth 20000 in
theorem ggX6_addStep_X1_hasTaskOf : GoodIn wsX6_addStep wsX1_hasTaskOf := goodIn_r _ [36, 37, 38, 39, 40, 35, 41, 42, 43, 61, 62, 63, 64, 65, 66, 67, 68, 69, 70, 71, 72, 73, 74, 75, 76, 77, 78, 79, 80, 81, 82, 83] (by decide +kernel) (by decide +kernel)
set_option maxRecDepth 20000 in
theorem gX6_addStep_X1_hasTaskOf : GoodIn wsX6_addStep (wsV RX6 67 RX1 yX1_hasTaskOf wsX1_hasTaskOf) := goodIn_app (goodIn_of _ (by decide +kernel)) ggX6_addStep_X1_hasTaskOf
set_option maxRecDepth 20000 in
theorem ggX6_addStep_X3_append : GoodIn wsX6_addStep wsX3_append := goodIn_r _ [48, 49, 50, 51, 55, 56, 57] (by decide +kernel) (by decide +kernel)
set_option maxRecDepth 20000 in
theorem gX6_addStep_X3_append : GoodIn wsX6_addStep (wsV RX6 73 RX3 yX3_append wsX3_append) := goodIn_app (goodIn_of _ (by decide +kernel)) ggX6_addStep_X3_append
theorem dX6_addStep_0 : decode cX6_addStep 0 = .ok (.aload_n 0, 1) := by decide +kernel
theorem dX6_addStep_1 : decode cX6_addStep 1 = .ok (.iload_n 1, 1) := by decide +kernel
theorem dX6_addStep_2 : decode cX6_addStep 2 = .ok (.invokevirtual 43, 3) := by decide +kernel
theorem dX6_addStep_5 : decode cX6_addStep 5 = .ok (.aload_n 0, 1) := by decide +kernel
theorem dX6_addStep_6 : decode cX6_addStep 6 = .ok (.iload_n 2, 1) := by decide +kernel
theorem dX6_addStep_7 : decode cX6_addStep 7 = .ok (.iload_n 3, 1) := by decide +kernel
theorem dX6_addStep_8 : decode cX6_addStep 8 = .ok (.invokevirtual 47, 3) := by decide +kernel
theorem dX6_addStep_11 : decode cX6_addStep 11 = .ok (.ifCond .ne 13, 3) := by decide +kernel
theorem dX6_addStep_14 : decode cX6_addStep 14 = .ok (.new 51, 3) := by decide +kernel
theorem dX6_addStep_17 : decode cX6_addStep 17 = .ok (.dup, 1) := by decide +kernel
theorem dX6_addStep_18 : decode cX6_addStep 18 = .ok (.ldc 53, 2) := by decide +kernel
theorem dX6_addStep_20 : decode cX6_addStep 20 = .ok (.invokespecial 55, 3) := by decide +kernel
theorem dX6_addStep_23 : decode cX6_addStep 23 = .ok (.athrow, 1) := by decide +kernel
theorem dX6_addStep_24 : decode cX6_addStep 24 = .ok (.aload_n 0, 1) := by decide +kernel
theorem dX6_addStep_25 : decode cX6_addStep 25 = .ok (.getfield 10, 3) := by decide +kernel
theorem dX6_addStep_28 : decode cX6_addStep 28 = .ok (.iload_n 1, 1) := by decide +kernel
theorem dX6_addStep_29 : decode cX6_addStep 29 = .ok (.invokevirtual 56, 3) := by decide +kernel
theorem dX6_addStep_32 : decode cX6_addStep 32 = .ok (.astore 4, 2) := by decide +kernel
theorem dX6_addStep_34 : decode cX6_addStep 34 = .ok (.aload 4, 2) := by decide +kernel
theorem dX6_addStep_36 : decode cX6_addStep 36 = .ok (.getfield 60, 3) := by decide +kernel
theorem dX6_addStep_39 : decode cX6_addStep 39 = .ok (.bipush 12, 2) := by decide +kernel
theorem dX6_addStep_41 : decode cX6_addStep 41 = .ok (.if_icmp .lt 13, 3) := by decide +kernel
theorem dX6_addStep_44 : decode cX6_addStep 44 = .ok (.new 32, 3) := by decide +kernel
theorem dX6_addStep_47 : decode cX6_addStep 47 = .ok (.dup, 1) := by decide +kernel
theorem dX6_addStep_48 : decode cX6_addStep 48 = .ok (.ldc 65, 2) := by decide +kernel
theorem dX6_addStep_50 : decode cX6_addStep 50 = .ok (.invokespecial 36, 3) := by decide +kernel
theorem dX6_addStep_53 : decode cX6_addStep 53 = .ok (.athrow, 1) := by decide +kernel
theorem dX6_addStep_54 : decode cX6_addStep 54 = .ok (.aload_n 0, 1) := by decide +kernel
theorem dX6_addStep_55 : decode cX6_addStep 55 = .ok (.getfield 21, 3) := by decide +kernel
theorem dX6_addStep_58 : decode cX6_addStep 58 = .ok (.iload_n 1, 1) := by decide +kernel
theorem dX6_addStep_59 : decode cX6_addStep 59 = .ok (.invokevirtual 67, 3) := by decide +kernel
theorem dX6_addStep_62 : decode cX6_addStep 62 = .ok (.ifCond .eq 13, 3) := by decide +kernel
theorem dX6_addStep_65 : decode cX6_addStep 65 = .ok (.new 32, 3) := by decide +kernel
theorem dX6_addStep_68 : decode cX6_addStep 68 = .ok (.dup, 1) := by decide +kernel
theorem dX6_addStep_69 : decode cX6_addStep 69 = .ok (.ldc 71, 2) := by decide +kernel
theorem dX6_addStep_71 : decode cX6_addStep 71 = .ok (.invokespecial 36, 3) := by decide +kernel
theorem dX6_addStep_74 : decode cX6_addStep 74 = .ok (.athrow, 1) := by decide +kernel
theorem dX6_addStep_75 : decode cX6_addStep 75 = .ok (.aload 4, 2) := by decide +kernel
theorem dX6_addStep_77 : decode cX6_addStep 77 = .ok (.iload_n 2, 1) := by decide +kernel
theorem dX6_addStep_78 : decode cX6_addStep 78 = .ok (.iload_n 3, 1) := by decide +kernel
theorem dX6_addStep_79 : decode cX6_addStep 79 = .ok (.invokevirtual 73, 3) := by decide +kernel
theorem dX6_addStep_82 : decode cX6_addStep 82 = .ok (.aload 4, 2) := by decide +kernel
theorem dX6_addStep_84 : decode cX6_addStep 84 = .ok (.getfield 60, 3) := by decide +kernel
theorem dX6_addStep_87 : decode cX6_addStep 87 = .ok (.ireturn, 1) := by decide +kernel
set_option maxRecDepth 20000 in
theorem ggX6_setWorkers_X6_needWorkerCount : GoodIn wsX6_setWorkers wsX6_needWorkerCount := goodIn_ca (goodIn_r _ [7, 8, 9] (by decide +kernel) (by decide +kernel)) (goodIn_sub (fun _ h => List.mem_cons_of_mem _ (List.mem_append_right _ h)) (by decide +kernel))
set_option maxRecDepth 20000 in
theorem gX6_setWorkers_X6_needWorkerCount : GoodIn wsX6_setWorkers (va_wsS RX6 76 yX6_needWorkerCount wsX6_needWorkerCount) := goodIn_app (goodIn_of _ (by decide +kernel)) ggX6_setWorkers_X6_needWorkerCount
set_option maxRecDepth 20000 in
theorem ggX6_setWorkers_X1_needsWorkerFrom : GoodIn wsX6_setWorkers wsX1_needsWorkerFrom := goodIn_r _ [14, 15, 16, 17, 18, 19, 13, 20, 21, 22, 23, 24, 25, 26, 27, 28, 29, 30, 31, 32, 33, 34, 63, 64, 65, 66, 67, 68, 69, 70, 71, 72, 73, 74, 75, 76, 77, 78, 79, 80, 81, 82, 83, 84, 85, 86, 87, 88, 89, 90, 91, 92, 93] (by decide +kernel) (by decide +kernel)
set_option maxRecDepth 20000 in
theorem gX6_setWorkers_X1_needsWorkerFrom : GoodIn wsX6_setWorkers (wsV RX6 79 RX1 yX1_needsWorkerFrom wsX1_needsWorkerFrom) := goodIn_app (goodIn_of _ (by decide +kernel)) ggX6_setWorkers_X1_needsWorkerFrom
set_option maxRecDepth 20000 in
theorem ggX6_setWorkers_X1_changeWorkerCount : GoodIn wsX6_setWorkers wsX1_changeWorkerCount := goodIn_r _ [38, 15, 17, 18, 19, 13, 20, 21, 22, 39, 40, 41, 42, 43, 44, 45, 46, 47, 48, 49, 50, 51, 52, 53, 54, 55, 56, 57, 58, 59, 63, 64, 65, 66, 67, 68, 69, 70, 71, 72, 73, 74, 75, 76, 77, 78, 79, 80, 81, 82] (by decide +kernel) (by decide +kernel)
set_option maxRecDepth 20000 in
theorem gX6_setWorkers_X1_changeWorkerCount : GoodIn wsX6_setWorkers (wsV RX6 87 RX1 yX1_changeWorkerCount wsX1_changeWorkerCount) := goodIn_app (goodIn_of _ (by decide +kernel)) ggX6_setWorkers_X1_changeWorkerCount
theorem dX6_setWorkers_0 : decode cX6_setWorkers 0 = .ok (.iload_n 1, 1) := by decide +kernel
theorem dX6_setWorkers_1 : decode cX6_setWorkers 1 = .ok (.invokestatic 76, 3) := by decide +kernel
theorem dX6_setWorkers_4 : decode cX6_setWorkers 4 = .ok (.aload_n 0, 1) := by decide +kernel
theorem dX6_setWorkers_5 : decode cX6_setWorkers 5 = .ok (.getfield 21, 3) := by decide +kernel
theorem dX6_setWorkers_8 : decode cX6_setWorkers 8 = .ok (.iload_n 1, 1) := by decide +kernel
theorem dX6_setWorkers_9 : decode cX6_setWorkers 9 = .ok (.invokevirtual 79, 3) := by decide +kernel
theorem dX6_setWorkers_12 : decode cX6_setWorkers 12 = .ok (.ifCond .eq 13, 3) := by decide +kernel
theorem dX6_setWorkers_15 : decode cX6_setWorkers 15 = .ok (.new 32, 3) := by decide +kernel
theorem dX6_setWorkers_18 : decode cX6_setWorkers 18 = .ok (.dup, 1) := by decide +kernel
theorem dX6_setWorkers_19 : decode cX6_setWorkers 19 = .ok (.ldc 82, 2) := by decide +kernel
theorem dX6_setWorkers_21 : decode cX6_setWorkers 21 = .ok (.invokespecial 36, 3) := by decide +kernel
theorem dX6_setWorkers_24 : decode cX6_setWorkers 24 = .ok (.athrow, 1) := by decide +kernel
theorem dX6_setWorkers_25 : decode cX6_setWorkers 25 = .ok (.aload_n 0, 1) := by decide +kernel
theorem dX6_setWorkers_26 : decode cX6_setWorkers 26 = .ok (.getfield 21, 3) := by decide +kernel
theorem dX6_setWorkers_29 : decode cX6_setWorkers 29 = .ok (.getfield 84, 3) := by decide +kernel
theorem dX6_setWorkers_32 : decode cX6_setWorkers 32 = .ok (.istore_n 2, 1) := by decide +kernel
theorem dX6_setWorkers_33 : decode cX6_setWorkers 33 = .ok (.aload_n 0, 1) := by decide +kernel
theorem dX6_setWorkers_34 : decode cX6_setWorkers 34 = .ok (.getfield 21, 3) := by decide +kernel
theorem dX6_setWorkers_37 : decode cX6_setWorkers 37 = .ok (.iload_n 1, 1) := by decide +kernel
theorem dX6_setWorkers_38 : decode cX6_setWorkers 38 = .ok (.invokevirtual 87, 3) := by decide +kernel
theorem dX6_setWorkers_41 : decode cX6_setWorkers 41 = .ok (.iload_n 2, 1) := by decide +kernel
theorem dX6_setWorkers_42 : decode cX6_setWorkers 42 = .ok (.ireturn, 1) := by decide +kernel
set_option maxRecDepth 20000 in
theorem ggX6_setWay_X6_needWay : GoodIn wsX6_setWay wsX6_needWay := goodIn_ca (goodIn_r _ [9, 1, 2] (by decide +kernel) (by decide +kernel)) (goodIn_sub (fun _ h => List.mem_cons_of_mem _ (List.mem_append_left _ (List.mem_append_right _ h))) (by decide +kernel))
set_option maxRecDepth 20000 in
theorem gX6_setWay_X6_needWay : GoodIn wsX6_setWay (va_wsS RX6 90 yX6_needWay wsX6_needWay) := goodIn_app (goodIn_of _ (by decide +kernel)) ggX6_setWay_X6_needWay
set_option maxRecDepth 20000 in
theorem ggX6_setWay_X1_hasStackedTask : GoodIn wsX6_setWay wsX1_hasStackedTask := goodIn_r _ [14, 15, 16, 17, 18, 13, 19, 20, 21, 25, 26, 27, 28, 29, 30, 31, 32, 33, 34, 35, 36, 37, 38, 39, 40, 41, 42, 43, 44] (by decide +kernel) (by decide +kernel)
set_option maxRecDepth 20000 in
theorem gX6_setWay_X1_hasStackedTask : GoodIn wsX6_setWay (wsV RX6 98 RX1 yX1_hasStackedTask wsX1_hasStackedTask) := goodIn_app (goodIn_of _ (by decide +kernel)) ggX6_setWay_X1_hasStackedTask
theorem dX6_setWay_0 : decode cX6_setWay 0 = .ok (.iload_n 1, 1) := by decide +kernel
theorem dX6_setWay_1 : decode cX6_setWay 1 = .ok (.invokestatic 90, 3) := by decide +kernel
theorem dX6_setWay_4 : decode cX6_setWay 4 = .ok (.iload_n 2, 1) := by decide +kernel
theorem dX6_setWay_5 : decode cX6_setWay 5 = .ok (.ifCond .lt 8, 3) := by decide +kernel
theorem dX6_setWay_8 : decode cX6_setWay 8 = .ok (.iload_n 2, 1) := by decide +kernel
theorem dX6_setWay_9 : decode cX6_setWay 9 = .ok (.iconst 2, 1) := by decide +kernel
theorem dX6_setWay_10 : decode cX6_setWay 10 = .ok (.if_icmp .le 13, 3) := by decide +kernel
theorem dX6_setWay_13 : decode cX6_setWay 13 = .ok (.new 51, 3) := by decide +kernel
theorem dX6_setWay_16 : decode cX6_setWay 16 = .ok (.dup, 1) := by decide +kernel
theorem dX6_setWay_17 : decode cX6_setWay 17 = .ok (.ldc 93, 2) := by decide +kernel
theorem dX6_setWay_19 : decode cX6_setWay 19 = .ok (.invokespecial 55, 3) := by decide +kernel
theorem dX6_setWay_22 : decode cX6_setWay 22 = .ok (.athrow, 1) := by decide +kernel
theorem dX6_setWay_23 : decode cX6_setWay 23 = .ok (.iload_n 1, 1) := by decide +kernel
theorem dX6_setWay_24 : decode cX6_setWay 24 = .ok (.aload_n 0, 1) := by decide +kernel
theorem dX6_setWay_25 : decode cX6_setWay 25 = .ok (.getfield 21, 3) := by decide +kernel
theorem dX6_setWay_28 : decode cX6_setWay 28 = .ok (.getfield 95, 3) := by decide +kernel
theorem dX6_setWay_31 : decode cX6_setWay 31 = .ok (.if_icmp .eq 23, 3) := by decide +kernel
theorem dX6_setWay_34 : decode cX6_setWay 34 = .ok (.aload_n 0, 1) := by decide +kernel
theorem dX6_setWay_35 : decode cX6_setWay 35 = .ok (.getfield 21, 3) := by decide +kernel
theorem dX6_setWay_38 : decode cX6_setWay 38 = .ok (.invokevirtual 98, 3) := by decide +kernel
theorem dX6_setWay_41 : decode cX6_setWay 41 = .ok (.ifCond .eq 13, 3) := by decide +kernel
theorem dX6_setWay_44 : decode cX6_setWay 44 = .ok (.new 32, 3) := by decide +kernel
theorem dX6_setWay_47 : decode cX6_setWay 47 = .ok (.dup, 1) := by decide +kernel
theorem dX6_setWay_48 : decode cX6_setWay 48 = .ok (.ldc 102, 2) := by decide +kernel
theorem dX6_setWay_50 : decode cX6_setWay 50 = .ok (.invokespecial 36, 3) := by decide +kernel
theorem dX6_setWay_53 : decode cX6_setWay 53 = .ok (.athrow, 1) := by decide +kernel
theorem dX6_setWay_54 : decode cX6_setWay 54 = .ok (.aload_n 0, 1) := by decide +kernel
theorem dX6_setWay_55 : decode cX6_setWay 55 = .ok (.getfield 21, 3) := by decide +kernel
theorem dX6_setWay_58 : decode cX6_setWay 58 = .ok (.getfield 95, 3) := by decide +kernel
theorem dX6_setWay_61 : decode cX6_setWay 61 = .ok (.istore_n 3, 1) := by decide +kernel
theorem dX6_setWay_62 : decode cX6_setWay 62 = .ok (.aload_n 0, 1) := by decide +kernel
theorem dX6_setWay_63 : decode cX6_setWay 63 = .ok (.getfield 21, 3) := by decide +kernel
theorem dX6_setWay_66 : decode cX6_setWay 66 = .ok (.iload_n 1, 1) := by decide +kernel
theorem dX6_setWay_67 : decode cX6_setWay 67 = .ok (.putfield 95, 3) := by decide +kernel
theorem dX6_setWay_70 : decode cX6_setWay 70 = .ok (.aload_n 0, 1) := by decide +kernel
theorem dX6_setWay_71 : decode cX6_setWay 71 = .ok (.getfield 21, 3) := by decide +kernel
theorem dX6_setWay_74 : decode cX6_setWay 74 = .ok (.iload_n 2, 1) := by decide +kernel
theorem dX6_setWay_75 : decode cX6_setWay 75 = .ok (.putfield 104, 3) := by decide +kernel
theorem dX6_setWay_78 : decode cX6_setWay 78 = .ok (.iload_n 3, 1) := by decide +kernel
theorem dX6_setWay_79 : decode cX6_setWay 79 = .ok (.ireturn, 1) := by decide +kernel
set_option maxRecDepth 20000 in
theorem ggX6_submit_X6_needJob : GoodIn wsX6_submit wsX6_needJob := goodIn_ca (goodIn_r _ [8, 9, 10, 11, 12, 13, 7, 14, 15, 55, 56, 57, 70, 71, 72] (by decide +kernel) (by decide +kernel)) (goodIn_sub (fun _ h => List.mem_cons_of_mem _ (List.mem_append_right _ h)) (by decide +kernel))
set_option maxRecDepth 20000 in
theorem gX6_submit_X6_needJob : GoodIn wsX6_submit (wsV RX6 43 RX6 yX6_needJob wsX6_needJob) := goodIn_app (goodIn_of _ (by decide +kernel)) ggX6_submit_X6_needJob
set_option maxRecDepth 20000 in
theorem ggX6_submit_X1_askFor : GoodIn wsX6_submit wsX1_askFor := goodIn_r _ [20, 21, 22, 23, 24, 19, 25, 26, 27, 28, 29, 30, 31, 32, 33, 34, 35, 36, 37, 38, 39, 40, 41, 42, 43, 44, 45, 46, 47, 48, 49, 50, 51, 52, 53, 54, 58, 59, 60, 61, 62, 63, 64, 65, 66, 67, 68, 69, 73, 74, 75, 76, 77, 78, 79, 80, 81, 82, 83, 84, 85] (by decide +kernel) (by decide +kernel)
set_option maxRecDepth 20000 in
theorem gX6_submit_X1_askFor : GoodIn wsX6_submit (wsV RX6 112 RX1 yX1_askFor wsX1_askFor) := goodIn_app (goodIn_of _ (by decide +kernel)) ggX6_submit_X1_askFor
theorem dX6_submit_0 : decode cX6_submit 0 = .ok (.aload_n 0, 1) := by decide +kernel
theorem dX6_submit_1 : decode cX6_submit 1 = .ok (.iload_n 1, 1) := by decide +kernel
theorem dX6_submit_2 : decode cX6_submit 2 = .ok (.invokevirtual 43, 3) := by decide +kernel
theorem dX6_submit_5 : decode cX6_submit 5 = .ok (.aload_n 0, 1) := by decide +kernel
theorem dX6_submit_6 : decode cX6_submit 6 = .ok (.getfield 21, 3) := by decide +kernel
theorem dX6_submit_9 : decode cX6_submit 9 = .ok (.getfield 107, 3) := by decide +kernel
theorem dX6_submit_12 : decode cX6_submit 12 = .ok (.bipush 24, 2) := by decide +kernel
theorem dX6_submit_14 : decode cX6_submit 14 = .ok (.if_icmp .lt 13, 3) := by decide +kernel
theorem dX6_submit_17 : decode cX6_submit 17 = .ok (.new 32, 3) := by decide +kernel
theorem dX6_submit_20 : decode cX6_submit 20 = .ok (.dup, 1) := by decide +kernel
theorem dX6_submit_21 : decode cX6_submit 21 = .ok (.ldc 110, 2) := by decide +kernel
theorem dX6_submit_23 : decode cX6_submit 23 = .ok (.invokespecial 36, 3) := by decide +kernel
theorem dX6_submit_26 : decode cX6_submit 26 = .ok (.athrow, 1) := by decide +kernel
theorem dX6_submit_27 : decode cX6_submit 27 = .ok (.aload_n 0, 1) := by decide +kernel
theorem dX6_submit_28 : decode cX6_submit 28 = .ok (.getfield 21, 3) := by decide +kernel
theorem dX6_submit_31 : decode cX6_submit 31 = .ok (.iload_n 1, 1) := by decide +kernel
theorem dX6_submit_32 : decode cX6_submit 32 = .ok (.invokevirtual 112, 3) := by decide +kernel
theorem dX6_submit_35 : decode cX6_submit 35 = .ok (.ireturn, 1) := by decide +kernel
set_option maxRecDepth 20000 in
theorem ggX6_cancel_X6_needTask : GoodIn wsX6_cancel wsX6_needTask := goodIn_ca (goodIn_r _ [8, 9, 10, 3, 77, 78, 79, 80, 81, 82, 83, 84, 85, 86, 87, 88, 89, 90, 91] (by decide +kernel) (by decide +kernel)) (goodIn_sub (fun _ h => List.mem_cons_of_mem _ (List.mem_append_right _ h)) (by decide +kernel))
set_option maxRecDepth 20000 in
theorem gX6_cancel_X6_needTask : GoodIn wsX6_cancel (wsV RX6 116 RX6 yX6_needTask wsX6_needTask) := goodIn_app (goodIn_of _ (by decide +kernel)) ggX6_cancel_X6_needTask
set_option maxRecDepth 20000 in
theorem ggX6_cancel_X1_taskAt : GoodIn wsX6_cancel wsX1_taskAt := goodIn_r _ [15, 16, 17, 80, 81, 82, 83, 84, 85, 86, 87, 88, 89, 90, 91] (by decide +kernel) (by decide +kernel)
set_option maxRecDepth 20000 in
theorem gX6_cancel_X1_taskAt : GoodIn wsX6_cancel (wsV RX6 119 RX1 yX1_taskAt wsX1_taskAt) := goodIn_app (goodIn_of _ (by decide +kernel)) ggX6_cancel_X1_taskAt
set_option maxRecDepth 20000 in
theorem ggX6_cancel_X4_isOver : GoodIn wsX6_cancel wsX4_isOver := goodIn_r _ [22, 23, 92, 93, 94, 95, 96, 97, 98, 99, 100, 101, 102] (by decide +kernel) (by decide +kernel)
set_option maxRecDepth 20000 in
theorem gX6_cancel_X4_isOver : GoodIn wsX6_cancel (wsV RX6 123 RX4 yX4_isOver wsX4_isOver) := goodIn_app (goodIn_of _ (by decide +kernel)) ggX6_cancel_X4_isOver
set_option maxRecDepth 20000 in
theorem ggX6_cancel_X1_cancelBelow : GoodIn wsX6_cancel wsX1_cancelBelow := goodIn_r _ [27, 28, 29, 12, 13, 14, 15, 16, 17, 30, 31, 32, 33, 19, 20, 21, 22, 23, 34, 35, 36, 37, 38, 39, 40, 41, 42, 43, 44, 45, 46, 47, 48, 49, 50, 51, 52, 53, 54, 55, 56, 57, 58, 59, 60, 61, 62, 63, 64, 65, 66, 67, 68, 69, 70, 71, 72, 73, 74, 75, 92, 93, 94, 95, 96, 97, 98, 99, 100, 101, 102, 80, 81, 82, 83, 84, 85, 86, 87, 88, 89, 90, 91, 103, 104, 105, 106, 107, 108, 109, 110] (by decide +kernel) (by decide +kernel)
set_option maxRecDepth 20000 in
theorem gX6_cancel_X1_cancelBelow : GoodIn wsX6_cancel (wsV RX6 130 RX1 yX1_cancelBelow wsX1_cancelBelow) := goodIn_app (goodIn_of _ (by decide +kernel)) ggX6_cancel_X1_cancelBelow
set_option maxRecDepth 20000 in
theorem ggX6_cancel_X1_end : GoodIn wsX6_cancel wsX1_end := goodIn_r _ [37, 38, 39, 40, 41, 42, 43, 44, 45, 46, 47, 48, 49, 50, 14, 51, 52, 53, 29, 12, 13, 15, 16, 17, 54, 55, 56, 21, 57, 58, 59, 60, 61, 62, 63, 64, 65, 66, 67, 68, 69, 70, 71, 72, 73, 74, 75, 92, 93, 94, 95, 96, 97, 98, 99, 100, 101, 102, 80, 81, 82, 83, 84, 85, 86, 87, 88, 89, 90, 91, 103, 104, 105, 106, 107, 108, 109, 110] (by decide +kernel) (by decide +kernel)
set_option maxRecDepth 20000 in
theorem gX6_cancel_X1_end : GoodIn wsX6_cancel (wsV RX6 134 RX1 yX1_end wsX1_end) := goodIn_app (goodIn_of _ (by decide +kernel)) ggX6_cancel_X1_end
theorem dX6_cancel_0 : decode cX6_cancel 0 = .ok (.aload_n 0, 1) := by decide +kernel
theorem dX6_cancel_1 : decode cX6_cancel 1 = .ok (.iload_n 1, 1) := by decide +kernel
theorem dX6_cancel_2 : decode cX6_cancel 2 = .ok (.invokevirtual 116, 3) := by decide +kernel
theorem dX6_cancel_5 : decode cX6_cancel 5 = .ok (.aload_n 0, 1) := by decide +kernel
theorem dX6_cancel_6 : decode cX6_cancel 6 = .ok (.getfield 21, 3) := by decide +kernel
theorem dX6_cancel_9 : decode cX6_cancel 9 = .ok (.iload_n 1, 1) := by decide +kernel
theorem dX6_cancel_10 : decode cX6_cancel 10 = .ok (.invokevirtual 119, 3) := by decide +kernel
theorem dX6_cancel_13 : decode cX6_cancel 13 = .ok (.astore_n 2, 1) := by decide +kernel
theorem dX6_cancel_14 : decode cX6_cancel 14 = .ok (.aload_n 2, 1) := by decide +kernel
theorem dX6_cancel_15 : decode cX6_cancel 15 = .ok (.invokevirtual 123, 3) := by decide +kernel
theorem dX6_cancel_18 : decode cX6_cancel 18 = .ok (.ifCond .eq 13, 3) := by decide +kernel
theorem dX6_cancel_21 : decode cX6_cancel 21 = .ok (.new 32, 3) := by decide +kernel
theorem dX6_cancel_24 : decode cX6_cancel 24 = .ok (.dup, 1) := by decide +kernel
theorem dX6_cancel_25 : decode cX6_cancel 25 = .ok (.ldc 128, 2) := by decide +kernel
theorem dX6_cancel_27 : decode cX6_cancel 27 = .ok (.invokespecial 36, 3) := by decide +kernel
theorem dX6_cancel_30 : decode cX6_cancel 30 = .ok (.athrow, 1) := by decide +kernel
theorem dX6_cancel_31 : decode cX6_cancel 31 = .ok (.aload_n 0, 1) := by decide +kernel
theorem dX6_cancel_32 : decode cX6_cancel 32 = .ok (.getfield 21, 3) := by decide +kernel
theorem dX6_cancel_35 : decode cX6_cancel 35 = .ok (.aload_n 2, 1) := by decide +kernel
theorem dX6_cancel_36 : decode cX6_cancel 36 = .ok (.invokevirtual 130, 3) := by decide +kernel
theorem dX6_cancel_39 : decode cX6_cancel 39 = .ok (.istore_n 3, 1) := by decide +kernel
theorem dX6_cancel_40 : decode cX6_cancel 40 = .ok (.aload_n 0, 1) := by decide +kernel
theorem dX6_cancel_41 : decode cX6_cancel 41 = .ok (.getfield 21, 3) := by decide +kernel
theorem dX6_cancel_44 : decode cX6_cancel 44 = .ok (.aload_n 2, 1) := by decide +kernel
theorem dX6_cancel_45 : decode cX6_cancel 45 = .ok (.bipush 6, 2) := by decide +kernel
theorem dX6_cancel_47 : decode cX6_cancel 47 = .ok (.invokevirtual 134, 3) := by decide +kernel
theorem dX6_cancel_50 : decode cX6_cancel 50 = .ok (.iload_n 3, 1) := by decide +kernel
theorem dX6_cancel_51 : decode cX6_cancel 51 = .ok (.iconst 1, 1) := by decide +kernel
theorem dX6_cancel_52 : decode cX6_cancel 52 = .ok (.iadd, 1) := by decide +kernel
theorem dX6_cancel_53 : decode cX6_cancel 53 = .ok (.ireturn, 1) := by decide +kernel
set_option maxRecDepth 20000 in
theorem ggX6_keep_X6_needPromise : GoodIn wsX6_keep wsX6_needPromise := goodIn_ca (goodIn_r _ [7, 8, 9, 10, 11, 6, 12] (by decide +kernel) (by decide +kernel)) (goodIn_sub (fun _ h => List.mem_cons_of_mem _ (List.mem_append_right _ h)) (by decide +kernel))
set_option maxRecDepth 20000 in
theorem gX6_keep_X6_needPromise : GoodIn wsX6_keep (va_wsS RX6 138 yX6_needPromise wsX6_needPromise) := goodIn_app (goodIn_of _ (by decide +kernel)) ggX6_keep_X6_needPromise
set_option maxRecDepth 20000 in
theorem ggX6_keep_X1_keepPromise : GoodIn wsX6_keep wsX1_keepPromise := goodIn_r _ [17, 18, 19, 20, 21, 22, 23, 24, 16, 25, 26, 27, 28, 29, 30, 31, 32, 33, 34, 35, 36, 37, 38, 39, 40, 41, 42, 43, 44, 45, 46, 47, 48, 49, 50, 51, 52, 53, 54, 55, 56, 57, 58, 59, 60, 61, 62, 66, 67, 68, 69, 70, 71, 72, 73, 74, 75, 76, 77, 78, 79, 80, 81, 82, 83, 84, 85, 86, 87, 88, 89, 90, 91, 92, 93, 94, 95, 96, 97, 98, 99, 100, 101, 102] (by decide +kernel) (by decide +kernel)
set_option maxRecDepth 20000 in
theorem gX6_keep_X1_keepPromise : GoodIn wsX6_keep (wsV RX6 143 RX1 yX1_keepPromise wsX1_keepPromise) := goodIn_app (goodIn_of _ (by decide +kernel)) ggX6_keep_X1_keepPromise
theorem dX6_keep_0 : decode cX6_keep 0 = .ok (.iload_n 1, 1) := by decide +kernel
theorem dX6_keep_1 : decode cX6_keep 1 = .ok (.invokestatic 138, 3) := by decide +kernel
theorem dX6_keep_4 : decode cX6_keep 4 = .ok (.iload_n 2, 1) := by decide +kernel
theorem dX6_keep_5 : decode cX6_keep 5 = .ok (.sipush (-999), 3) := by decide +kernel
theorem dX6_keep_8 : decode cX6_keep 8 = .ok (.if_icmp .lt 10, 3) := by decide +kernel
theorem dX6_keep_11 : decode cX6_keep 11 = .ok (.iload_n 2, 1) := by decide +kernel
theorem dX6_keep_12 : decode cX6_keep 12 = .ok (.sipush 999, 3) := by decide +kernel
theorem dX6_keep_15 : decode cX6_keep 15 = .ok (.if_icmp .le 13, 3) := by decide +kernel
theorem dX6_keep_18 : decode cX6_keep 18 = .ok (.new 51, 3) := by decide +kernel
theorem dX6_keep_21 : decode cX6_keep 21 = .ok (.dup, 1) := by decide +kernel
theorem dX6_keep_22 : decode cX6_keep 22 = .ok (.ldc 141, 2) := by decide +kernel
theorem dX6_keep_24 : decode cX6_keep 24 = .ok (.invokespecial 55, 3) := by decide +kernel
theorem dX6_keep_27 : decode cX6_keep 27 = .ok (.athrow, 1) := by decide +kernel
theorem dX6_keep_28 : decode cX6_keep 28 = .ok (.aload_n 0, 1) := by decide +kernel
theorem dX6_keep_29 : decode cX6_keep 29 = .ok (.getfield 21, 3) := by decide +kernel
theorem dX6_keep_32 : decode cX6_keep 32 = .ok (.iload_n 1, 1) := by decide +kernel
theorem dX6_keep_33 : decode cX6_keep 33 = .ok (.iload_n 2, 1) := by decide +kernel
theorem dX6_keep_34 : decode cX6_keep 34 = .ok (.invokevirtual 143, 3) := by decide +kernel
theorem dX6_keep_37 : decode cX6_keep 37 = .ok (.ireturn, 1) := by decide +kernel
set_option maxRecDepth 20000 in
theorem ggX6_tick_X1_passTick : GoodIn wsX6_tick wsX1_passTick := goodIn_r _ [8, 9, 10, 11, 12, 13, 14, 7, 15, 16, 17, 18, 19, 20, 21, 22, 23, 24, 25, 26, 27, 28, 29, 30, 31, 32, 33, 34, 35, 36, 37, 38, 39, 40, 41, 42, 43, 44, 45, 46, 47, 48, 49, 50, 51, 52, 53, 54, 55, 56, 57, 58, 59, 60, 61, 62, 63, 64, 65, 66, 67, 68, 69, 70, 71, 72, 73, 74, 75, 76, 77, 78, 79, 80, 81, 82, 83, 84, 85, 86, 87, 88, 89, 90, 91, 92, 93, 94, 95, 96, 97, 98, 99, 100, 101, 102, 103, 104, 105, 106, 107, 108, 109, 110, 111, 112, 113, 114, 115, 116, 117, 118, 119, 120, 121, 122, 123, 124, 125, 126, 127, 128, 129, 130, 131, 132, 133, 134, 135, 136, 137, 138, 139, 140, 141, 142, 143, 144, 145, 146, 147, 148, 149, 150, 151, 152, 153, 154, 155, 156, 157, 158, 159, 160, 161, 162, 163, 164, 165, 166, 167, 168, 169, 170, 171, 172, 173, 174, 175, 176, 177, 178, 179, 180, 181, 182, 183, 184, 185, 186, 187, 188, 189, 190, 191, 192, 193, 194, 195, 196, 197, 198, 199, 200, 201, 202, 203, 204, 205, 206, 207, 208, 209, 210, 211, 219, 220, 221, 222, 223, 224, 225, 226, 227, 228, 229, 230, 231, 232, 233, 234, 235, 236, 237, 238, 239, 240, 241, 242, 243, 244, 245, 246, 247, 248, 249, 250, 251, 252, 253, 254, 255] (by decide +kernel) (by decide +kernel)
set_option maxRecDepth 20000 in
theorem gX6_tick_X1_passTick : GoodIn wsX6_tick (wsV RX6 148 RX1 yX1_passTick wsX1_passTick) := goodIn_app (goodIn_of _ (by decide +kernel)) ggX6_tick_X1_passTick
set_option maxRecDepth 20000 in
theorem ggX6_tick_X1_countUnfinished : GoodIn wsX6_tick wsX1_countUnfinished := goodIn_r _ [215, 122, 48, 49, 50, 7, 51, 52, 53, 153, 154, 155, 57, 156, 59, 219, 220, 221, 222, 223, 224, 225, 226, 227, 228, 229, 230, 239, 240, 241, 242, 243, 244, 245, 246, 247, 248, 249] (by decide +kernel) (by decide +kernel)
set_option maxRecDepth 20000 in
theorem gX6_tick_X1_countUnfinished : GoodIn wsX6_tick (wsV RX6 151 RX1 yX1_countUnfinished wsX1_countUnfinished) := goodIn_app (goodIn_of _ (by decide +kernel)) ggX6_tick_X1_countUnfinished
theorem dX6_tick_0 : decode cX6_tick 0 = .ok (.iload_n 1, 1) := by decide +kernel
theorem dX6_tick_1 : decode cX6_tick 1 = .ok (.iconst 1, 1) := by decide +kernel
theorem dX6_tick_2 : decode cX6_tick 2 = .ok (.if_icmp .lt 9, 3) := by decide +kernel
theorem dX6_tick_5 : decode cX6_tick 5 = .ok (.iload_n 1, 1) := by decide +kernel
theorem dX6_tick_6 : decode cX6_tick 6 = .ok (.bipush 40, 2) := by decide +kernel
theorem dX6_tick_8 : decode cX6_tick 8 = .ok (.if_icmp .le 13, 3) := by decide +kernel
theorem dX6_tick_11 : decode cX6_tick 11 = .ok (.new 51, 3) := by decide +kernel
theorem dX6_tick_14 : decode cX6_tick 14 = .ok (.dup, 1) := by decide +kernel
theorem dX6_tick_15 : decode cX6_tick 15 = .ok (.ldc 146, 2) := by decide +kernel
theorem dX6_tick_17 : decode cX6_tick 17 = .ok (.invokespecial 55, 3) := by decide +kernel
theorem dX6_tick_20 : decode cX6_tick 20 = .ok (.athrow, 1) := by decide +kernel
theorem dX6_tick_21 : decode cX6_tick 21 = .ok (.iconst 0, 1) := by decide +kernel
theorem dX6_tick_22 : decode cX6_tick 22 = .ok (.istore_n 2, 1) := by decide +kernel
theorem dX6_tick_23 : decode cX6_tick 23 = .ok (.iload_n 2, 1) := by decide +kernel
theorem dX6_tick_24 : decode cX6_tick 24 = .ok (.iload_n 1, 1) := by decide +kernel
theorem dX6_tick_25 : decode cX6_tick 25 = .ok (.if_icmp .ge 16, 3) := by decide +kernel
theorem dX6_tick_28 : decode cX6_tick 28 = .ok (.aload_n 0, 1) := by decide +kernel
theorem dX6_tick_29 : decode cX6_tick 29 = .ok (.getfield 21, 3) := by decide +kernel
theorem dX6_tick_32 : decode cX6_tick 32 = .ok (.invokevirtual 148, 3) := by decide +kernel
theorem dX6_tick_35 : decode cX6_tick 35 = .ok (.iinc 2 1, 3) := by decide +kernel
theorem dX6_tick_38 : decode cX6_tick 38 = .ok (.goto (-15), 3) := by decide +kernel
theorem dX6_tick_41 : decode cX6_tick 41 = .ok (.aload_n 0, 1) := by decide +kernel
theorem dX6_tick_42 : decode cX6_tick 42 = .ok (.getfield 21, 3) := by decide +kernel
theorem dX6_tick_45 : decode cX6_tick 45 = .ok (.invokevirtual 151, 3) := by decide +kernel
theorem dX6_tick_48 : decode cX6_tick 48 = .ok (.ireturn, 1) := by decide +kernel
theorem dX6_clock_0 : decode cX6_clock 0 = .ok (.aload_n 0, 1) := by decide +kernel
theorem dX6_clock_1 : decode cX6_clock 1 = .ok (.getfield 21, 3) := by decide +kernel
theorem dX6_clock_4 : decode cX6_clock 4 = .ok (.getfield 154, 3) := by decide +kernel
theorem dX6_clock_7 : decode cX6_clock 7 = .ok (.ireturn, 1) := by decide +kernel
theorem dX6_tasks_0 : decode cX6_tasks 0 = .ok (.aload_n 0, 1) := by decide +kernel
theorem dX6_tasks_1 : decode cX6_tasks 1 = .ok (.getfield 21, 3) := by decide +kernel
theorem dX6_tasks_4 : decode cX6_tasks 4 = .ok (.getfield 107, 3) := by decide +kernel
theorem dX6_tasks_7 : decode cX6_tasks 7 = .ok (.ireturn, 1) := by decide +kernel
set_option maxRecDepth 20000 in
theorem ggX6_stateOf_X6_needTask : GoodIn wsX6_stateOf wsX6_needTask := goodIn_ca (goodIn_r _ [6, 7, 8, 1, 16, 17, 18, 30, 31, 32, 33, 34, 35, 36, 37, 38, 39, 40, 41] (by decide +kernel) (by decide +kernel)) (goodIn_sub (fun _ h => List.mem_cons_of_mem _ (List.mem_append_right _ h)) (by decide +kernel))
set_option maxRecDepth 20000 in
theorem gX6_stateOf_X6_needTask : GoodIn wsX6_stateOf (wsV RX6 116 RX6 yX6_needTask wsX6_needTask) := goodIn_app (goodIn_of _ (by decide +kernel)) ggX6_stateOf_X6_needTask
set_option maxRecDepth 20000 in
theorem ggX6_stateOf_X1_taskAt : GoodIn wsX6_stateOf wsX1_taskAt := goodIn_r _ [13, 14, 15, 30, 31, 32, 33, 34, 35, 36, 37, 38, 39, 40, 41] (by decide +kernel) (by decide +kernel)
set_option maxRecDepth 20000 in
theorem gX6_stateOf_X1_taskAt : GoodIn wsX6_stateOf (wsV RX6 119 RX1 yX1_taskAt wsX1_taskAt) := goodIn_app (goodIn_of _ (by decide +kernel)) ggX6_stateOf_X1_taskAt
theorem dX6_stateOf_0 : decode cX6_stateOf 0 = .ok (.aload_n 0, 1) := by decide +kernel
theorem dX6_stateOf_1 : decode cX6_stateOf 1 = .ok (.iload_n 1, 1) := by decide +kernel
theorem dX6_stateOf_2 : decode cX6_stateOf 2 = .ok (.invokevirtual 116, 3) := by decide +kernel
theorem dX6_stateOf_5 : decode cX6_stateOf 5 = .ok (.aload_n 0, 1) := by decide +kernel
theorem dX6_stateOf_6 : decode cX6_stateOf 6 = .ok (.getfield 21, 3) := by decide +kernel
theorem dX6_stateOf_9 : decode cX6_stateOf 9 = .ok (.iload_n 1, 1) := by decide +kernel
theorem dX6_stateOf_10 : decode cX6_stateOf 10 = .ok (.invokevirtual 119, 3) := by decide +kernel
theorem dX6_stateOf_13 : decode cX6_stateOf 13 = .ok (.getfield 157, 3) := by decide +kernel
theorem dX6_stateOf_16 : decode cX6_stateOf 16 = .ok (.ireturn, 1) := by decide +kernel
set_option maxRecDepth 20000 in
theorem ggX6_valueOf_X6_needTask : GoodIn wsX6_valueOf wsX6_needTask := goodIn_ca (goodIn_r _ [6, 7, 8, 1, 16, 17, 18, 30, 31, 32, 33, 34, 35, 36, 37, 38, 39, 40, 41] (by decide +kernel) (by decide +kernel)) (goodIn_sub (fun _ h => List.mem_cons_of_mem _ (List.mem_append_right _ h)) (by decide +kernel))
set_option maxRecDepth 20000 in
theorem gX6_valueOf_X6_needTask : GoodIn wsX6_valueOf (wsV RX6 116 RX6 yX6_needTask wsX6_needTask) := goodIn_app (goodIn_of _ (by decide +kernel)) ggX6_valueOf_X6_needTask
set_option maxRecDepth 20000 in
theorem ggX6_valueOf_X1_taskAt : GoodIn wsX6_valueOf wsX1_taskAt := goodIn_r _ [13, 14, 15, 30, 31, 32, 33, 34, 35, 36, 37, 38, 39, 40, 41] (by decide +kernel) (by decide +kernel)
set_option maxRecDepth 20000 in
theorem gX6_valueOf_X1_taskAt : GoodIn wsX6_valueOf (wsV RX6 119 RX1 yX1_taskAt wsX1_taskAt) := goodIn_app (goodIn_of _ (by decide +kernel)) ggX6_valueOf_X1_taskAt
theorem dX6_valueOf_0 : decode cX6_valueOf 0 = .ok (.aload_n 0, 1) := by decide +kernel
theorem dX6_valueOf_1 : decode cX6_valueOf 1 = .ok (.iload_n 1, 1) := by decide +kernel
theorem dX6_valueOf_2 : decode cX6_valueOf 2 = .ok (.invokevirtual 116, 3) := by decide +kernel
theorem dX6_valueOf_5 : decode cX6_valueOf 5 = .ok (.aload_n 0, 1) := by decide +kernel
theorem dX6_valueOf_6 : decode cX6_valueOf 6 = .ok (.getfield 21, 3) := by decide +kernel
theorem dX6_valueOf_9 : decode cX6_valueOf 9 = .ok (.iload_n 1, 1) := by decide +kernel
theorem dX6_valueOf_10 : decode cX6_valueOf 10 = .ok (.invokevirtual 119, 3) := by decide +kernel
theorem dX6_valueOf_13 : decode cX6_valueOf 13 = .ok (.getfield 160, 3) := by decide +kernel
theorem dX6_valueOf_16 : decode cX6_valueOf 16 = .ok (.ireturn, 1) := by decide +kernel
set_option maxRecDepth 20000 in
theorem ggX6_stepOf_X6_needTask : GoodIn wsX6_stepOf wsX6_needTask := goodIn_ca (goodIn_r _ [6, 7, 8, 1, 16, 17, 18, 30, 31, 32, 33, 34, 35, 36, 37, 38, 39, 40, 41] (by decide +kernel) (by decide +kernel)) (goodIn_sub (fun _ h => List.mem_cons_of_mem _ (List.mem_append_right _ h)) (by decide +kernel))
set_option maxRecDepth 20000 in
theorem gX6_stepOf_X6_needTask : GoodIn wsX6_stepOf (wsV RX6 116 RX6 yX6_needTask wsX6_needTask) := goodIn_app (goodIn_of _ (by decide +kernel)) ggX6_stepOf_X6_needTask
set_option maxRecDepth 20000 in
theorem ggX6_stepOf_X1_taskAt : GoodIn wsX6_stepOf wsX1_taskAt := goodIn_r _ [13, 14, 15, 30, 31, 32, 33, 34, 35, 36, 37, 38, 39, 40, 41] (by decide +kernel) (by decide +kernel)
set_option maxRecDepth 20000 in
theorem gX6_stepOf_X1_taskAt : GoodIn wsX6_stepOf (wsV RX6 119 RX1 yX1_taskAt wsX1_taskAt) := goodIn_app (goodIn_of _ (by decide +kernel)) ggX6_stepOf_X1_taskAt
theorem dX6_stepOf_0 : decode cX6_stepOf 0 = .ok (.aload_n 0, 1) := by decide +kernel
theorem dX6_stepOf_1 : decode cX6_stepOf 1 = .ok (.iload_n 1, 1) := by decide +kernel
theorem dX6_stepOf_2 : decode cX6_stepOf 2 = .ok (.invokevirtual 116, 3) := by decide +kernel
theorem dX6_stepOf_5 : decode cX6_stepOf 5 = .ok (.aload_n 0, 1) := by decide +kernel
theorem dX6_stepOf_6 : decode cX6_stepOf 6 = .ok (.getfield 21, 3) := by decide +kernel
theorem dX6_stepOf_9 : decode cX6_stepOf 9 = .ok (.iload_n 1, 1) := by decide +kernel
theorem dX6_stepOf_10 : decode cX6_stepOf 10 = .ok (.invokevirtual 119, 3) := by decide +kernel
theorem dX6_stepOf_13 : decode cX6_stepOf 13 = .ok (.getfield 163, 3) := by decide +kernel
theorem dX6_stepOf_16 : decode cX6_stepOf 16 = .ok (.ireturn, 1) := by decide +kernel
set_option maxRecDepth 20000 in
theorem ggX6_parentOf_X6_needTask : GoodIn wsX6_parentOf wsX6_needTask := goodIn_ca (goodIn_r _ [6, 7, 8, 1, 16, 17, 18, 30, 31, 32, 33, 34, 35, 36, 37, 38, 39, 40, 41] (by decide +kernel) (by decide +kernel)) (goodIn_sub (fun _ h => List.mem_cons_of_mem _ (List.mem_append_right _ h)) (by decide +kernel))
set_option maxRecDepth 20000 in
theorem gX6_parentOf_X6_needTask : GoodIn wsX6_parentOf (wsV RX6 116 RX6 yX6_needTask wsX6_needTask) := goodIn_app (goodIn_of _ (by decide +kernel)) ggX6_parentOf_X6_needTask
set_option maxRecDepth 20000 in
theorem ggX6_parentOf_X1_taskAt : GoodIn wsX6_parentOf wsX1_taskAt := goodIn_r _ [13, 14, 15, 30, 31, 32, 33, 34, 35, 36, 37, 38, 39, 40, 41] (by decide +kernel) (by decide +kernel)
set_option maxRecDepth 20000 in
theorem gX6_parentOf_X1_taskAt : GoodIn wsX6_parentOf (wsV RX6 119 RX1 yX1_taskAt wsX1_taskAt) := goodIn_app (goodIn_of _ (by decide +kernel)) ggX6_parentOf_X1_taskAt
theorem dX6_parentOf_0 : decode cX6_parentOf 0 = .ok (.aload_n 0, 1) := by decide +kernel
theorem dX6_parentOf_1 : decode cX6_parentOf 1 = .ok (.iload_n 1, 1) := by decide +kernel
theorem dX6_parentOf_2 : decode cX6_parentOf 2 = .ok (.invokevirtual 116, 3) := by decide +kernel
theorem dX6_parentOf_5 : decode cX6_parentOf 5 = .ok (.aload_n 0, 1) := by decide +kernel
theorem dX6_parentOf_6 : decode cX6_parentOf 6 = .ok (.getfield 21, 3) := by decide +kernel
theorem dX6_parentOf_9 : decode cX6_parentOf 9 = .ok (.iload_n 1, 1) := by decide +kernel
theorem dX6_parentOf_10 : decode cX6_parentOf 10 = .ok (.invokevirtual 119, 3) := by decide +kernel
theorem dX6_parentOf_13 : decode cX6_parentOf 13 = .ok (.getfield 166, 3) := by decide +kernel
theorem dX6_parentOf_16 : decode cX6_parentOf 16 = .ok (.ireturn, 1) := by decide +kernel
set_option maxRecDepth 20000 in
theorem ggX6_childrenOf_X6_needTask : GoodIn wsX6_childrenOf wsX6_needTask := goodIn_ca (goodIn_r _ [6, 7, 8, 1, 16, 17, 18, 30, 31, 32, 33, 34, 35, 36, 37, 38, 39, 40, 41] (by decide +kernel) (by decide +kernel)) (goodIn_sub (fun _ h => List.mem_cons_of_mem _ (List.mem_append_right _ h)) (by decide +kernel))
set_option maxRecDepth 20000 in
theorem gX6_childrenOf_X6_needTask : GoodIn wsX6_childrenOf (wsV RX6 116 RX6 yX6_needTask wsX6_needTask) := goodIn_app (goodIn_of _ (by decide +kernel)) ggX6_childrenOf_X6_needTask
set_option maxRecDepth 20000 in
theorem ggX6_childrenOf_X1_taskAt : GoodIn wsX6_childrenOf wsX1_taskAt := goodIn_r _ [13, 14, 15, 30, 31, 32, 33, 34, 35, 36, 37, 38, 39, 40, 41] (by decide +kernel) (by decide +kernel)
set_option maxRecDepth 20000 in
theorem gX6_childrenOf_X1_taskAt : GoodIn wsX6_childrenOf (wsV RX6 119 RX1 yX1_taskAt wsX1_taskAt) := goodIn_app (goodIn_of _ (by decide +kernel)) ggX6_childrenOf_X1_taskAt
theorem dX6_childrenOf_0 : decode cX6_childrenOf 0 = .ok (.aload_n 0, 1) := by decide +kernel
theorem dX6_childrenOf_1 : decode cX6_childrenOf 1 = .ok (.iload_n 1, 1) := by decide +kernel
theorem dX6_childrenOf_2 : decode cX6_childrenOf 2 = .ok (.invokevirtual 116, 3) := by decide +kernel
theorem dX6_childrenOf_5 : decode cX6_childrenOf 5 = .ok (.aload_n 0, 1) := by decide +kernel
theorem dX6_childrenOf_6 : decode cX6_childrenOf 6 = .ok (.getfield 21, 3) := by decide +kernel
theorem dX6_childrenOf_9 : decode cX6_childrenOf 9 = .ok (.iload_n 1, 1) := by decide +kernel
theorem dX6_childrenOf_10 : decode cX6_childrenOf 10 = .ok (.invokevirtual 119, 3) := by decide +kernel
theorem dX6_childrenOf_13 : decode cX6_childrenOf 13 = .ok (.getfield 169, 3) := by decide +kernel
theorem dX6_childrenOf_16 : decode cX6_childrenOf 16 = .ok (.ireturn, 1) := by decide +kernel
set_option maxRecDepth 20000 in
theorem ggX6_workOf_X6_needTask : GoodIn wsX6_workOf wsX6_needTask := goodIn_ca (goodIn_r _ [6, 7, 8, 1, 24, 25, 26, 27, 28, 29, 30, 31, 32, 33, 34, 35, 36, 37, 38] (by decide +kernel) (by decide +kernel)) (goodIn_sub (fun _ h => List.mem_cons_of_mem _ (List.mem_append_right _ h)) (by decide +kernel))
set_option maxRecDepth 20000 in
theorem gX6_workOf_X6_needTask : GoodIn wsX6_workOf (wsV RX6 116 RX6 yX6_needTask wsX6_needTask) := goodIn_app (goodIn_of _ (by decide +kernel)) ggX6_workOf_X6_needTask
set_option maxRecDepth 20000 in
theorem ggX6_workOf_X1_sumWork : GoodIn wsX6_workOf wsX1_sumWork := goodIn_r _ [13, 14, 15, 16, 17, 12, 18, 19, 20, 21, 22, 23, 39, 40, 41, 42, 43, 44, 45, 46, 47, 48, 49, 27, 28, 29, 30, 31, 32, 33, 34, 35, 36, 37, 38] (by decide +kernel) (by decide +kernel)
set_option maxRecDepth 20000 in
theorem gX6_workOf_X1_sumWork : GoodIn wsX6_workOf (wsV RX6 172 RX1 yX1_sumWork wsX1_sumWork) := goodIn_app (goodIn_of _ (by decide +kernel)) ggX6_workOf_X1_sumWork
theorem dX6_workOf_0 : decode cX6_workOf 0 = .ok (.aload_n 0, 1) := by decide +kernel
theorem dX6_workOf_1 : decode cX6_workOf 1 = .ok (.iload_n 1, 1) := by decide +kernel
theorem dX6_workOf_2 : decode cX6_workOf 2 = .ok (.invokevirtual 116, 3) := by decide +kernel
theorem dX6_workOf_5 : decode cX6_workOf 5 = .ok (.aload_n 0, 1) := by decide +kernel
theorem dX6_workOf_6 : decode cX6_workOf 6 = .ok (.getfield 21, 3) := by decide +kernel
theorem dX6_workOf_9 : decode cX6_workOf 9 = .ok (.iload_n 1, 1) := by decide +kernel
theorem dX6_workOf_10 : decode cX6_workOf 10 = .ok (.invokevirtual 172, 3) := by decide +kernel
theorem dX6_workOf_13 : decode cX6_workOf 13 = .ok (.ireturn, 1) := by decide +kernel
set_option maxRecDepth 20000 in
theorem ggX6_overAt_X6_needTask : GoodIn wsX6_overAt wsX6_needTask := goodIn_ca (goodIn_r _ [6, 7, 8, 1, 16, 17, 18, 30, 31, 32, 33, 34, 35, 36, 37, 38, 39, 40, 41] (by decide +kernel) (by decide +kernel)) (goodIn_sub (fun _ h => List.mem_cons_of_mem _ (List.mem_append_right _ h)) (by decide +kernel))
set_option maxRecDepth 20000 in
theorem gX6_overAt_X6_needTask : GoodIn wsX6_overAt (wsV RX6 116 RX6 yX6_needTask wsX6_needTask) := goodIn_app (goodIn_of _ (by decide +kernel)) ggX6_overAt_X6_needTask
set_option maxRecDepth 20000 in
theorem ggX6_overAt_X1_taskAt : GoodIn wsX6_overAt wsX1_taskAt := goodIn_r _ [13, 14, 15, 30, 31, 32, 33, 34, 35, 36, 37, 38, 39, 40, 41] (by decide +kernel) (by decide +kernel)
set_option maxRecDepth 20000 in
theorem gX6_overAt_X1_taskAt : GoodIn wsX6_overAt (wsV RX6 119 RX1 yX1_taskAt wsX1_taskAt) := goodIn_app (goodIn_of _ (by decide +kernel)) ggX6_overAt_X1_taskAt
theorem dX6_overAt_0 : decode cX6_overAt 0 = .ok (.aload_n 0, 1) := by decide +kernel
theorem dX6_overAt_1 : decode cX6_overAt 1 = .ok (.iload_n 1, 1) := by decide +kernel
theorem dX6_overAt_2 : decode cX6_overAt 2 = .ok (.invokevirtual 116, 3) := by decide +kernel
theorem dX6_overAt_5 : decode cX6_overAt 5 = .ok (.aload_n 0, 1) := by decide +kernel
theorem dX6_overAt_6 : decode cX6_overAt 6 = .ok (.getfield 21, 3) := by decide +kernel
theorem dX6_overAt_9 : decode cX6_overAt 9 = .ok (.iload_n 1, 1) := by decide +kernel
theorem dX6_overAt_10 : decode cX6_overAt 10 = .ok (.invokevirtual 119, 3) := by decide +kernel
theorem dX6_overAt_13 : decode cX6_overAt 13 = .ok (.getfield 175, 3) := by decide +kernel
theorem dX6_overAt_16 : decode cX6_overAt 16 = .ok (.ireturn, 1) := by decide +kernel
set_option maxRecDepth 20000 in
theorem ggX6_promise_X6_needPromise : GoodIn wsX6_promise wsX6_needPromise := goodIn_ca (goodIn_r _ [5, 6, 7, 8, 9, 4, 10] (by decide +kernel) (by decide +kernel)) (goodIn_sub (fun _ h => List.mem_cons_of_mem _ (List.mem_append_right _ h)) (by decide +kernel))
set_option maxRecDepth 20000 in
theorem gX6_promise_X6_needPromise : GoodIn wsX6_promise (va_wsS RX6 138 yX6_needPromise wsX6_needPromise) := goodIn_app (goodIn_of _ (by decide +kernel)) ggX6_promise_X6_needPromise
set_option maxRecDepth 20000 in
theorem ggX6_promise_X1_promiseAt : GoodIn wsX6_promise wsX1_promiseAt := goodIn_r _ [15, 16, 17, 21, 22, 23, 24, 25, 26, 27, 28, 29, 30, 31, 32] (by decide +kernel) (by decide +kernel)
set_option maxRecDepth 20000 in
theorem gX6_promise_X1_promiseAt : GoodIn wsX6_promise (wsV RX6 178 RX1 yX1_promiseAt wsX1_promiseAt) := goodIn_app (goodIn_of _ (by decide +kernel)) ggX6_promise_X1_promiseAt
theorem dX6_promise_0 : decode cX6_promise 0 = .ok (.iload_n 1, 1) := by decide +kernel
theorem dX6_promise_1 : decode cX6_promise 1 = .ok (.invokestatic 138, 3) := by decide +kernel
theorem dX6_promise_4 : decode cX6_promise 4 = .ok (.aload_n 0, 1) := by decide +kernel
theorem dX6_promise_5 : decode cX6_promise 5 = .ok (.getfield 21, 3) := by decide +kernel
theorem dX6_promise_8 : decode cX6_promise 8 = .ok (.iload_n 1, 1) := by decide +kernel
theorem dX6_promise_9 : decode cX6_promise 9 = .ok (.invokevirtual 178, 3) := by decide +kernel
theorem dX6_promise_12 : decode cX6_promise 12 = .ok (.ireturn, 1) := by decide +kernel
theorem dX6_workers_0 : decode cX6_workers 0 = .ok (.aload_n 0, 1) := by decide +kernel
theorem dX6_workers_1 : decode cX6_workers 1 = .ok (.getfield 21, 3) := by decide +kernel
theorem dX6_workers_4 : decode cX6_workers 4 = .ok (.getfield 84, 3) := by decide +kernel
theorem dX6_workers_7 : decode cX6_workers 7 = .ok (.ireturn, 1) := by decide +kernel
set_option maxRecDepth 20000 in
theorem ggX6_top_X6_needWorker : GoodIn wsX6_top wsX6_needWorker := goodIn_ca (goodIn_r _ [6, 7, 8, 1, 27, 28, 29, 36, 37, 38, 39, 40, 41, 42, 43, 44, 45, 46, 47] (by decide +kernel) (by decide +kernel)) (goodIn_sub (fun _ h => List.mem_cons_of_mem _ (List.mem_append_right _ h)) (by decide +kernel))
set_option maxRecDepth 20000 in
theorem gX6_top_X6_needWorker : GoodIn wsX6_top (wsV RX6 181 RX6 yX6_needWorker wsX6_needWorker) := goodIn_app (goodIn_of _ (by decide +kernel)) ggX6_top_X6_needWorker
set_option maxRecDepth 20000 in
theorem ggX6_top_X1_workerAt : GoodIn wsX6_top wsX1_workerAt := goodIn_r _ [13, 14, 15, 36, 37, 38, 39, 40, 41, 42, 43, 44, 45, 46, 47] (by decide +kernel) (by decide +kernel)
set_option maxRecDepth 20000 in
theorem gX6_top_X1_workerAt : GoodIn wsX6_top (wsV RX6 184 RX1 yX1_workerAt wsX1_workerAt) := goodIn_app (goodIn_of _ (by decide +kernel)) ggX6_top_X1_workerAt
set_option maxRecDepth 20000 in
theorem ggX6_top_X2_last : GoodIn wsX6_top wsX2_last := goodIn_r _ [20, 21, 22, 23, 24, 19, 25, 26, 48, 49] (by decide +kernel) (by decide +kernel)
set_option maxRecDepth 20000 in
theorem gX6_top_X2_last : GoodIn wsX6_top (wsV RX6 194 RX2 yX2_last wsX2_last) := goodIn_app (goodIn_of _ (by decide +kernel)) ggX6_top_X2_last
theorem dX6_top_0 : decode cX6_top 0 = .ok (.aload_n 0, 1) := by decide +kernel
theorem dX6_top_1 : decode cX6_top 1 = .ok (.iload_n 1, 1) := by decide +kernel
theorem dX6_top_2 : decode cX6_top 2 = .ok (.invokevirtual 181, 3) := by decide +kernel
theorem dX6_top_5 : decode cX6_top 5 = .ok (.aload_n 0, 1) := by decide +kernel
theorem dX6_top_6 : decode cX6_top 6 = .ok (.getfield 21, 3) := by decide +kernel
theorem dX6_top_9 : decode cX6_top 9 = .ok (.iload_n 1, 1) := by decide +kernel
theorem dX6_top_10 : decode cX6_top 10 = .ok (.invokevirtual 184, 3) := by decide +kernel
theorem dX6_top_13 : decode cX6_top 13 = .ok (.getfield 188, 3) := by decide +kernel
theorem dX6_top_16 : decode cX6_top 16 = .ok (.invokevirtual 194, 3) := by decide +kernel
theorem dX6_top_19 : decode cX6_top 19 = .ok (.ireturn, 1) := by decide +kernel
set_option maxRecDepth 20000 in
theorem ggX6_stack_X6_needWorker : GoodIn wsX6_stack wsX6_needWorker := goodIn_ca (goodIn_r _ [6, 7, 8, 1, 16, 17, 18, 27, 28, 29, 30, 31, 32, 33, 34, 35, 36, 37, 38] (by decide +kernel) (by decide +kernel)) (goodIn_sub (fun _ h => List.mem_cons_of_mem _ (List.mem_append_right _ h)) (by decide +kernel))
set_option maxRecDepth 20000 in
theorem gX6_stack_X6_needWorker : GoodIn wsX6_stack (wsV RX6 181 RX6 yX6_needWorker wsX6_needWorker) := goodIn_app (goodIn_of _ (by decide +kernel)) ggX6_stack_X6_needWorker
set_option maxRecDepth 20000 in
theorem ggX6_stack_X1_workerAt : GoodIn wsX6_stack wsX1_workerAt := goodIn_r _ [13, 14, 15, 27, 28, 29, 30, 31, 32, 33, 34, 35, 36, 37, 38] (by decide +kernel) (by decide +kernel)
set_option maxRecDepth 20000 in
theorem gX6_stack_X1_workerAt : GoodIn wsX6_stack (wsV RX6 184 RX1 yX1_workerAt wsX1_workerAt) := goodIn_app (goodIn_of _ (by decide +kernel)) ggX6_stack_X1_workerAt
theorem dX6_stack_0 : decode cX6_stack 0 = .ok (.aload_n 0, 1) := by decide +kernel
theorem dX6_stack_1 : decode cX6_stack 1 = .ok (.iload_n 1, 1) := by decide +kernel
theorem dX6_stack_2 : decode cX6_stack 2 = .ok (.invokevirtual 181, 3) := by decide +kernel
theorem dX6_stack_5 : decode cX6_stack 5 = .ok (.aload_n 0, 1) := by decide +kernel
theorem dX6_stack_6 : decode cX6_stack 6 = .ok (.getfield 21, 3) := by decide +kernel
theorem dX6_stack_9 : decode cX6_stack 9 = .ok (.iload_n 1, 1) := by decide +kernel
theorem dX6_stack_10 : decode cX6_stack 10 = .ok (.invokevirtual 184, 3) := by decide +kernel
theorem dX6_stack_13 : decode cX6_stack 13 = .ok (.getfield 188, 3) := by decide +kernel
theorem dX6_stack_16 : decode cX6_stack 16 = .ok (.getfield 199, 3) := by decide +kernel
theorem dX6_stack_19 : decode cX6_stack 19 = .ok (.ireturn, 1) := by decide +kernel
set_option maxRecDepth 20000 in
theorem ggX6_row_X6_needRow : GoodIn wsX6_row wsX6_needRow := goodIn_ca (goodIn_r _ [6, 7, 8, 9, 5, 10, 11, 12, 1, 25, 26, 27, 30, 31, 32, 33, 34, 35, 36, 37, 38, 39, 40, 41] (by decide +kernel) (by decide +kernel)) (goodIn_sub (fun _ h => List.mem_cons_of_mem _ (List.mem_append_right _ h)) (by decide +kernel))
set_option maxRecDepth 20000 in
theorem gX6_row_X6_needRow : GoodIn wsX6_row (wsV RX6 200 RX6 yX6_needRow wsX6_needRow) := goodIn_app (goodIn_of _ (by decide +kernel)) ggX6_row_X6_needRow
set_option maxRecDepth 20000 in
theorem ggX6_row_X1_rowOf : GoodIn wsX6_row wsX1_rowOf := goodIn_r _ [17, 18, 19, 20, 21, 16, 22, 23, 24, 30, 31, 32, 33, 34, 35, 36, 37, 38, 39, 40, 41, 42, 43, 44, 45, 46, 47] (by decide +kernel) (by decide +kernel)
set_option maxRecDepth 20000 in
theorem gX6_row_X1_rowOf : GoodIn wsX6_row (wsV RX6 203 RX1 yX1_rowOf wsX1_rowOf) := goodIn_app (goodIn_of _ (by decide +kernel)) ggX6_row_X1_rowOf
theorem dX6_row_0 : decode cX6_row 0 = .ok (.aload_n 0, 1) := by decide +kernel
theorem dX6_row_1 : decode cX6_row 1 = .ok (.iload_n 1, 1) := by decide +kernel
theorem dX6_row_2 : decode cX6_row 2 = .ok (.invokevirtual 200, 3) := by decide +kernel
theorem dX6_row_5 : decode cX6_row 5 = .ok (.aload_n 0, 1) := by decide +kernel
theorem dX6_row_6 : decode cX6_row 6 = .ok (.getfield 21, 3) := by decide +kernel
theorem dX6_row_9 : decode cX6_row 9 = .ok (.iload_n 1, 1) := by decide +kernel
theorem dX6_row_10 : decode cX6_row 10 = .ok (.invokevirtual 203, 3) := by decide +kernel
theorem dX6_row_13 : decode cX6_row 13 = .ok (.getfield 199, 3) := by decide +kernel
theorem dX6_row_16 : decode cX6_row 16 = .ok (.ireturn, 1) := by decide +kernel
set_option maxRecDepth 20000 in
theorem ggX6_inRow_X6_needRow : GoodIn wsX6_inRow wsX6_needRow := goodIn_ca (goodIn_r _ [8, 9, 10, 11, 7, 12, 1, 2, 3, 32, 33, 34, 37, 38, 39, 40, 41, 42, 43, 44, 45, 46, 47, 48] (by decide +kernel) (by decide +kernel)) (goodIn_sub (fun _ h => List.mem_cons_of_mem _ (List.mem_append_right _ h)) (by decide +kernel))
set_option maxRecDepth 20000 in
theorem gX6_inRow_X6_needRow : GoodIn wsX6_inRow (wsV RX6 200 RX6 yX6_needRow wsX6_needRow) := goodIn_app (goodIn_of _ (by decide +kernel)) ggX6_inRow_X6_needRow
set_option maxRecDepth 20000 in
theorem ggX6_inRow_X1_rowOf : GoodIn wsX6_inRow wsX1_rowOf := goodIn_r _ [17, 18, 19, 20, 21, 16, 22, 23, 24, 37, 38, 39, 40, 41, 42, 43, 44, 45, 46, 47, 48, 49, 50, 51, 52, 53, 54] (by decide +kernel) (by decide +kernel)
set_option maxRecDepth 20000 in
theorem gX6_inRow_X1_rowOf : GoodIn wsX6_inRow (wsV RX6 203 RX1 yX1_rowOf wsX1_rowOf) := goodIn_app (goodIn_of _ (by decide +kernel)) ggX6_inRow_X1_rowOf
set_option maxRecDepth 20000 in
theorem ggX6_inRow_X2_at : GoodIn wsX6_inRow wsX2_at := goodIn_r _ [29, 30, 31, 35, 36] (by decide +kernel) (by decide +kernel)
set_option maxRecDepth 20000 in
theorem gX6_inRow_X2_at : GoodIn wsX6_inRow (wsV RX6 212 RX2 yX2_at wsX2_at) := goodIn_app (goodIn_of _ (by decide +kernel)) ggX6_inRow_X2_at
theorem dX6_inRow_0 : decode cX6_inRow 0 = .ok (.aload_n 0, 1) := by decide +kernel
theorem dX6_inRow_1 : decode cX6_inRow 1 = .ok (.iload_n 1, 1) := by decide +kernel
theorem dX6_inRow_2 : decode cX6_inRow 2 = .ok (.invokevirtual 200, 3) := by decide +kernel
theorem dX6_inRow_5 : decode cX6_inRow 5 = .ok (.aload_n 0, 1) := by decide +kernel
theorem dX6_inRow_6 : decode cX6_inRow 6 = .ok (.getfield 21, 3) := by decide +kernel
theorem dX6_inRow_9 : decode cX6_inRow 9 = .ok (.iload_n 1, 1) := by decide +kernel
theorem dX6_inRow_10 : decode cX6_inRow 10 = .ok (.invokevirtual 203, 3) := by decide +kernel
theorem dX6_inRow_13 : decode cX6_inRow 13 = .ok (.astore_n 3, 1) := by decide +kernel
theorem dX6_inRow_14 : decode cX6_inRow 14 = .ok (.iload_n 2, 1) := by decide +kernel
theorem dX6_inRow_15 : decode cX6_inRow 15 = .ok (.ifCond .lt 11, 3) := by decide +kernel
theorem dX6_inRow_18 : decode cX6_inRow 18 = .ok (.iload_n 2, 1) := by decide +kernel
theorem dX6_inRow_19 : decode cX6_inRow 19 = .ok (.aload_n 3, 1) := by decide +kernel
theorem dX6_inRow_20 : decode cX6_inRow 20 = .ok (.getfield 199, 3) := by decide +kernel
theorem dX6_inRow_23 : decode cX6_inRow 23 = .ok (.if_icmp .lt 13, 3) := by decide +kernel
theorem dX6_inRow_26 : decode cX6_inRow 26 = .ok (.new 207, 3) := by decide +kernel
theorem dX6_inRow_29 : decode cX6_inRow 29 = .ok (.dup, 1) := by decide +kernel
theorem dX6_inRow_30 : decode cX6_inRow 30 = .ok (.ldc 209, 2) := by decide +kernel
theorem dX6_inRow_32 : decode cX6_inRow 32 = .ok (.invokespecial 211, 3) := by decide +kernel
theorem dX6_inRow_35 : decode cX6_inRow 35 = .ok (.athrow, 1) := by decide +kernel
theorem dX6_inRow_36 : decode cX6_inRow 36 = .ok (.aload_n 3, 1) := by decide +kernel
theorem dX6_inRow_37 : decode cX6_inRow 37 = .ok (.iload_n 2, 1) := by decide +kernel
theorem dX6_inRow_38 : decode cX6_inRow 38 = .ok (.invokevirtual 212, 3) := by decide +kernel
theorem dX6_inRow_41 : decode cX6_inRow 41 = .ok (.ireturn, 1) := by decide +kernel
set_option maxRecDepth 20000 in
theorem ggX6_told_X6_needWorker : GoodIn wsX6_told wsX6_needWorker := goodIn_ca (goodIn_r _ [8, 9, 10, 3, 18, 19, 20, 27, 28, 29, 30, 31, 32, 33, 34, 35, 36, 37, 38] (by decide +kernel) (by decide +kernel)) (goodIn_sub (fun _ h => List.mem_cons_of_mem _ (List.mem_append_right _ h)) (by decide +kernel))
set_option maxRecDepth 20000 in
theorem gX6_told_X6_needWorker : GoodIn wsX6_told (wsV RX6 181 RX6 yX6_needWorker wsX6_needWorker) := goodIn_app (goodIn_of _ (by decide +kernel)) ggX6_told_X6_needWorker
set_option maxRecDepth 20000 in
theorem ggX6_told_X1_workerAt : GoodIn wsX6_told wsX1_workerAt := goodIn_r _ [15, 16, 17, 27, 28, 29, 30, 31, 32, 33, 34, 35, 36, 37, 38] (by decide +kernel) (by decide +kernel)
set_option maxRecDepth 20000 in
theorem gX6_told_X1_workerAt : GoodIn wsX6_told (wsV RX6 184 RX1 yX1_workerAt wsX1_workerAt) := goodIn_app (goodIn_of _ (by decide +kernel)) ggX6_told_X1_workerAt
theorem dX6_told_0 : decode cX6_told 0 = .ok (.aload_n 0, 1) := by decide +kernel
theorem dX6_told_1 : decode cX6_told 1 = .ok (.iload_n 1, 1) := by decide +kernel
theorem dX6_told_2 : decode cX6_told 2 = .ok (.invokevirtual 181, 3) := by decide +kernel
theorem dX6_told_5 : decode cX6_told 5 = .ok (.iload_n 2, 1) := by decide +kernel
theorem dX6_told_6 : decode cX6_told 6 = .ok (.ifCond .lt 8, 3) := by decide +kernel
theorem dX6_told_9 : decode cX6_told 9 = .ok (.iload_n 2, 1) := by decide +kernel
theorem dX6_told_10 : decode cX6_told 10 = .ok (.iconst 2, 1) := by decide +kernel
theorem dX6_told_11 : decode cX6_told 11 = .ok (.if_icmp .le 13, 3) := by decide +kernel
theorem dX6_told_14 : decode cX6_told 14 = .ok (.new 51, 3) := by decide +kernel
theorem dX6_told_17 : decode cX6_told 17 = .ok (.dup, 1) := by decide +kernel
theorem dX6_told_18 : decode cX6_told 18 = .ok (.ldc 215, 2) := by decide +kernel
theorem dX6_told_20 : decode cX6_told 20 = .ok (.invokespecial 55, 3) := by decide +kernel
theorem dX6_told_23 : decode cX6_told 23 = .ok (.athrow, 1) := by decide +kernel
theorem dX6_told_24 : decode cX6_told 24 = .ok (.aload_n 0, 1) := by decide +kernel
theorem dX6_told_25 : decode cX6_told 25 = .ok (.getfield 21, 3) := by decide +kernel
theorem dX6_told_28 : decode cX6_told 28 = .ok (.iload_n 1, 1) := by decide +kernel
theorem dX6_told_29 : decode cX6_told 29 = .ok (.invokevirtual 184, 3) := by decide +kernel
theorem dX6_told_32 : decode cX6_told 32 = .ok (.astore_n 3, 1) := by decide +kernel
theorem dX6_told_33 : decode cX6_told 33 = .ok (.iload_n 2, 1) := by decide +kernel
theorem dX6_told_34 : decode cX6_told 34 = .ok (.ifCond .ne 8, 3) := by decide +kernel
theorem dX6_told_37 : decode cX6_told 37 = .ok (.aload_n 3, 1) := by decide +kernel
theorem dX6_told_38 : decode cX6_told 38 = .ok (.getfield 217, 3) := by decide +kernel
theorem dX6_told_41 : decode cX6_told 41 = .ok (.ireturn, 1) := by decide +kernel
theorem dX6_told_42 : decode cX6_told 42 = .ok (.iload_n 2, 1) := by decide +kernel
theorem dX6_told_43 : decode cX6_told 43 = .ok (.iconst 1, 1) := by decide +kernel
theorem dX6_told_44 : decode cX6_told 44 = .ok (.if_icmp .ne 10, 3) := by decide +kernel
theorem dX6_told_47 : decode cX6_told 47 = .ok (.aload_n 3, 1) := by decide +kernel
theorem dX6_told_48 : decode cX6_told 48 = .ok (.getfield 220, 3) := by decide +kernel
theorem dX6_told_51 : decode cX6_told 51 = .ok (.goto 7, 3) := by decide +kernel
theorem dX6_told_54 : decode cX6_told 54 = .ok (.aload_n 3, 1) := by decide +kernel
theorem dX6_told_55 : decode cX6_told 55 = .ok (.getfield 223, 3) := by decide +kernel
theorem dX6_told_58 : decode cX6_told 58 = .ok (.ireturn, 1) := by decide +kernel
set_option maxRecDepth 20000 in
theorem ggX6_ran_X6_needWorker : GoodIn wsX6_ran wsX6_needWorker := goodIn_ca (goodIn_r _ [8, 9, 10, 3, 28, 29, 30, 31, 32, 33, 34, 35, 36, 37, 38, 39, 40, 41, 42] (by decide +kernel) (by decide +kernel)) (goodIn_sub (fun _ h => List.mem_cons_of_mem _ (List.mem_append_right _ h)) (by decide +kernel))
set_option maxRecDepth 20000 in
theorem gX6_ran_X6_needWorker : GoodIn wsX6_ran (wsV RX6 181 RX6 yX6_needWorker wsX6_needWorker) := goodIn_app (goodIn_of _ (by decide +kernel)) ggX6_ran_X6_needWorker
set_option maxRecDepth 20000 in
theorem ggX6_ran_X1_workerAt : GoodIn wsX6_ran wsX1_workerAt := goodIn_r _ [15, 16, 17, 31, 32, 33, 34, 35, 36, 37, 38, 39, 40, 41, 42] (by decide +kernel) (by decide +kernel)
set_option maxRecDepth 20000 in
theorem gX6_ran_X1_workerAt : GoodIn wsX6_ran (wsV RX6 184 RX1 yX1_workerAt wsX1_workerAt) := goodIn_app (goodIn_of _ (by decide +kernel)) ggX6_ran_X1_workerAt
set_option maxRecDepth 20000 in
theorem ggX6_ran_X5_ranIn : GoodIn wsX6_ran wsX5_ranIn := goodIn_r _ [22, 23, 24, 25, 26, 27, 43, 44, 45, 46, 47, 48] (by decide +kernel) (by decide +kernel)
set_option maxRecDepth 20000 in
theorem gX6_ran_X5_ranIn : GoodIn wsX6_ran (wsV RX6 228 RX5 yX5_ranIn wsX5_ranIn) := goodIn_app (goodIn_of _ (by decide +kernel)) ggX6_ran_X5_ranIn
theorem dX6_ran_0 : decode cX6_ran 0 = .ok (.aload_n 0, 1) := by decide +kernel
theorem dX6_ran_1 : decode cX6_ran 1 = .ok (.iload_n 1, 1) := by decide +kernel
theorem dX6_ran_2 : decode cX6_ran 2 = .ok (.invokevirtual 181, 3) := by decide +kernel
theorem dX6_ran_5 : decode cX6_ran 5 = .ok (.iload_n 2, 1) := by decide +kernel
theorem dX6_ran_6 : decode cX6_ran 6 = .ok (.iconst 1, 1) := by decide +kernel
theorem dX6_ran_7 : decode cX6_ran 7 = .ok (.if_icmp .lt 9, 3) := by decide +kernel
theorem dX6_ran_10 : decode cX6_ran 10 = .ok (.iload_n 2, 1) := by decide +kernel
theorem dX6_ran_11 : decode cX6_ran 11 = .ok (.bipush 20, 2) := by decide +kernel
theorem dX6_ran_13 : decode cX6_ran 13 = .ok (.if_icmp .le 13, 3) := by decide +kernel
theorem dX6_ran_16 : decode cX6_ran 16 = .ok (.new 51, 3) := by decide +kernel
theorem dX6_ran_19 : decode cX6_ran 19 = .ok (.dup, 1) := by decide +kernel
theorem dX6_ran_20 : decode cX6_ran 20 = .ok (.ldc 226, 2) := by decide +kernel
theorem dX6_ran_22 : decode cX6_ran 22 = .ok (.invokespecial 55, 3) := by decide +kernel
theorem dX6_ran_25 : decode cX6_ran 25 = .ok (.athrow, 1) := by decide +kernel
theorem dX6_ran_26 : decode cX6_ran 26 = .ok (.iload_n 2, 1) := by decide +kernel
theorem dX6_ran_27 : decode cX6_ran 27 = .ok (.aload_n 0, 1) := by decide +kernel
theorem dX6_ran_28 : decode cX6_ran 28 = .ok (.getfield 21, 3) := by decide +kernel
theorem dX6_ran_31 : decode cX6_ran 31 = .ok (.getfield 154, 3) := by decide +kernel
theorem dX6_ran_34 : decode cX6_ran 34 = .ok (.if_icmp .le 8, 3) := by decide +kernel
theorem dX6_ran_37 : decode cX6_ran 37 = .ok (.bipush (-2), 2) := by decide +kernel
theorem dX6_ran_39 : decode cX6_ran 39 = .ok (.goto 23, 3) := by decide +kernel
theorem dX6_ran_42 : decode cX6_ran 42 = .ok (.aload_n 0, 1) := by decide +kernel
theorem dX6_ran_43 : decode cX6_ran 43 = .ok (.getfield 21, 3) := by decide +kernel
theorem dX6_ran_46 : decode cX6_ran 46 = .ok (.iload_n 1, 1) := by decide +kernel
theorem dX6_ran_47 : decode cX6_ran 47 = .ok (.invokevirtual 184, 3) := by decide +kernel
theorem dX6_ran_50 : decode cX6_ran 50 = .ok (.aload_n 0, 1) := by decide +kernel
theorem dX6_ran_51 : decode cX6_ran 51 = .ok (.getfield 21, 3) := by decide +kernel
theorem dX6_ran_54 : decode cX6_ran 54 = .ok (.getfield 154, 3) := by decide +kernel
theorem dX6_ran_57 : decode cX6_ran 57 = .ok (.iload_n 2, 1) := by decide +kernel
theorem dX6_ran_58 : decode cX6_ran 58 = .ok (.isub, 1) := by decide +kernel
theorem dX6_ran_59 : decode cX6_ran 59 = .ok (.invokevirtual 228, 3) := by decide +kernel
theorem dX6_ran_62 : decode cX6_ran 62 = .ok (.ireturn, 1) := by decide +kernel
set_option maxRecDepth 20000 in
theorem ggX6_halted_X1_isHalted : GoodIn wsX6_halted wsX1_isHalted := goodIn_r _ [6, 7, 8, 9, 10, 5, 11, 12, 13, 14, 15, 16, 17, 18, 19, 20, 21, 22, 23, 24, 25, 26, 27, 28, 29, 30, 31, 32, 33, 34, 35, 36, 37, 38, 39, 40, 41, 42, 43, 44, 45, 46, 47, 48, 49, 50, 51, 52, 53, 54, 55, 56, 57, 58, 59, 60, 61, 62, 63, 64, 65, 66, 67, 68, 69, 70, 71, 72, 80, 81, 82, 83, 84, 85, 86, 87, 88, 89, 90, 91, 92, 93, 94, 95, 96, 97, 98, 99, 100, 101, 102, 103, 104, 105, 106, 107, 108, 109, 110] (by decide +kernel) (by decide +kernel)
set_option maxRecDepth 20000 in
theorem gX6_halted_X1_isHalted : GoodIn wsX6_halted (wsV RX6 231 RX1 yX1_isHalted wsX1_isHalted) := goodIn_app (goodIn_of _ (by decide +kernel)) ggX6_halted_X1_isHalted
set_option maxRecDepth 20000 in
theorem ggX6_halted_X1_hasTaskIn : GoodIn wsX6_halted wsX1_hasTaskIn := goodIn_r _ [76, 12, 13, 14, 15, 5, 16, 17, 18, 80, 81, 82, 83, 84, 85, 86, 87, 88, 89, 90, 91, 92, 93, 94, 95, 96, 97, 98, 99, 100, 101, 102] (by decide +kernel) (by decide +kernel)
set_option maxRecDepth 20000 in
theorem gX6_halted_X1_hasTaskIn : GoodIn wsX6_halted (wsV RX6 234 RX1 yX1_hasTaskIn wsX1_hasTaskIn) := goodIn_app (goodIn_of _ (by decide +kernel)) ggX6_halted_X1_hasTaskIn
theorem dX6_halted_0 : decode cX6_halted 0 = .ok (.aload_n 0, 1) := by decide +kernel
theorem dX6_halted_1 : decode cX6_halted 1 = .ok (.getfield 21, 3) := by decide +kernel
theorem dX6_halted_4 : decode cX6_halted 4 = .ok (.invokevirtual 231, 3) := by decide +kernel
theorem dX6_halted_7 : decode cX6_halted 7 = .ok (.ifCond .ne 5, 3) := by decide +kernel
theorem dX6_halted_10 : decode cX6_halted 10 = .ok (.iconst 0, 1) := by decide +kernel
theorem dX6_halted_11 : decode cX6_halted 11 = .ok (.ireturn, 1) := by decide +kernel
theorem dX6_halted_12 : decode cX6_halted 12 = .ok (.aload_n 0, 1) := by decide +kernel
theorem dX6_halted_13 : decode cX6_halted 13 = .ok (.getfield 21, 3) := by decide +kernel
theorem dX6_halted_16 : decode cX6_halted 16 = .ok (.iconst 3, 1) := by decide +kernel
theorem dX6_halted_17 : decode cX6_halted 17 = .ok (.invokevirtual 234, 3) := by decide +kernel
theorem dX6_halted_20 : decode cX6_halted 20 = .ok (.ifCond .eq 7, 3) := by decide +kernel
theorem dX6_halted_23 : decode cX6_halted 23 = .ok (.iconst 1, 1) := by decide +kernel
theorem dX6_halted_24 : decode cX6_halted 24 = .ok (.goto 4, 3) := by decide +kernel
theorem dX6_halted_27 : decode cX6_halted 27 = .ok (.iconst 0, 1) := by decide +kernel
theorem dX6_halted_28 : decode cX6_halted 28 = .ok (.istore_n 1, 1) := by decide +kernel
theorem dX6_halted_29 : decode cX6_halted 29 = .ok (.aload_n 0, 1) := by decide +kernel
theorem dX6_halted_30 : decode cX6_halted 30 = .ok (.getfield 21, 3) := by decide +kernel
theorem dX6_halted_33 : decode cX6_halted 33 = .ok (.iconst 0, 1) := by decide +kernel
theorem dX6_halted_34 : decode cX6_halted 34 = .ok (.invokevirtual 234, 3) := by decide +kernel
theorem dX6_halted_37 : decode cX6_halted 37 = .ok (.ifCond .eq 7, 3) := by decide +kernel
theorem dX6_halted_40 : decode cX6_halted 40 = .ok (.iconst 2, 1) := by decide +kernel
theorem dX6_halted_41 : decode cX6_halted 41 = .ok (.goto 4, 3) := by decide +kernel
theorem dX6_halted_44 : decode cX6_halted 44 = .ok (.iconst 0, 1) := by decide +kernel
theorem dX6_halted_45 : decode cX6_halted 45 = .ok (.istore_n 2, 1) := by decide +kernel
theorem dX6_halted_46 : decode cX6_halted 46 = .ok (.iconst 4, 1) := by decide +kernel
theorem dX6_halted_47 : decode cX6_halted 47 = .ok (.iload_n 1, 1) := by decide +kernel
theorem dX6_halted_48 : decode cX6_halted 48 = .ok (.iadd, 1) := by decide +kernel
theorem dX6_halted_49 : decode cX6_halted 49 = .ok (.iload_n 2, 1) := by decide +kernel
theorem dX6_halted_50 : decode cX6_halted 50 = .ok (.iadd, 1) := by decide +kernel
theorem dX6_halted_51 : decode cX6_halted 51 = .ok (.ireturn, 1) := by decide +kernel
set_option maxRecDepth 20000 in
theorem ggX6_load_X1_workerAt : GoodIn wsX6_load wsX1_workerAt := goodIn_r _ [6, 7, 8, 12, 13, 14, 15, 16, 17, 18, 19, 20, 21, 22, 23] (by decide +kernel) (by decide +kernel)
set_option maxRecDepth 20000 in
theorem gX6_load_X1_workerAt : GoodIn wsX6_load (wsV RX6 184 RX1 yX1_workerAt wsX1_workerAt) := goodIn_app (goodIn_of _ (by decide +kernel)) ggX6_load_X1_workerAt
theorem dX6_load_0 : decode cX6_load 0 = .ok (.iconst 0, 1) := by decide +kernel
theorem dX6_load_1 : decode cX6_load 1 = .ok (.istore_n 1, 1) := by decide +kernel
theorem dX6_load_2 : decode cX6_load 2 = .ok (.iconst 0, 1) := by decide +kernel
theorem dX6_load_3 : decode cX6_load 3 = .ok (.istore_n 2, 1) := by decide +kernel
theorem dX6_load_4 : decode cX6_load 4 = .ok (.iconst 0, 1) := by decide +kernel
theorem dX6_load_5 : decode cX6_load 5 = .ok (.istore_n 3, 1) := by decide +kernel
theorem dX6_load_6 : decode cX6_load 6 = .ok (.iload_n 3, 1) := by decide +kernel
theorem dX6_load_7 : decode cX6_load 7 = .ok (.aload_n 0, 1) := by decide +kernel
theorem dX6_load_8 : decode cX6_load 8 = .ok (.getfield 21, 3) := by decide +kernel
theorem dX6_load_11 : decode cX6_load 11 = .ok (.getfield 84, 3) := by decide +kernel
theorem dX6_load_14 : decode cX6_load 14 = .ok (.if_icmp .ge 35, 3) := by decide +kernel
theorem dX6_load_17 : decode cX6_load 17 = .ok (.aload_n 0, 1) := by decide +kernel
theorem dX6_load_18 : decode cX6_load 18 = .ok (.getfield 21, 3) := by decide +kernel
theorem dX6_load_21 : decode cX6_load 21 = .ok (.iload_n 3, 1) := by decide +kernel
theorem dX6_load_22 : decode cX6_load 22 = .ok (.invokevirtual 184, 3) := by decide +kernel
theorem dX6_load_25 : decode cX6_load 25 = .ok (.astore 4, 2) := by decide +kernel
theorem dX6_load_27 : decode cX6_load 27 = .ok (.iload_n 1, 1) := by decide +kernel
theorem dX6_load_28 : decode cX6_load 28 = .ok (.aload 4, 2) := by decide +kernel
theorem dX6_load_30 : decode cX6_load 30 = .ok (.getfield 217, 3) := by decide +kernel
theorem dX6_load_33 : decode cX6_load 33 = .ok (.iadd, 1) := by decide +kernel
theorem dX6_load_34 : decode cX6_load 34 = .ok (.istore_n 1, 1) := by decide +kernel
theorem dX6_load_35 : decode cX6_load 35 = .ok (.iload_n 2, 1) := by decide +kernel
theorem dX6_load_36 : decode cX6_load 36 = .ok (.aload 4, 2) := by decide +kernel
theorem dX6_load_38 : decode cX6_load 38 = .ok (.getfield 220, 3) := by decide +kernel
theorem dX6_load_41 : decode cX6_load 41 = .ok (.iadd, 1) := by decide +kernel
theorem dX6_load_42 : decode cX6_load 42 = .ok (.istore_n 2, 1) := by decide +kernel
theorem dX6_load_43 : decode cX6_load 43 = .ok (.iinc 3 1, 3) := by decide +kernel
theorem dX6_load_46 : decode cX6_load 46 = .ok (.goto (-40), 3) := by decide +kernel
theorem dX6_load_49 : decode cX6_load 49 = .ok (.iload_n 1, 1) := by decide +kernel
theorem dX6_load_50 : decode cX6_load 50 = .ok (.iload_n 2, 1) := by decide +kernel
theorem dX6_load_51 : decode cX6_load 51 = .ok (.iadd, 1) := by decide +kernel
theorem dX6_load_52 : decode cX6_load 52 = .ok (.istore_n 3, 1) := by decide +kernel
theorem dX6_load_53 : decode cX6_load 53 = .ok (.iload_n 3, 1) := by decide +kernel
theorem dX6_load_54 : decode cX6_load 54 = .ok (.ifCond .ne 7, 3) := by decide +kernel
theorem dX6_load_57 : decode cX6_load 57 = .ok (.dconst 0, 1) := by decide +kernel
theorem dX6_load_58 : decode cX6_load 58 = .ok (.goto 8, 3) := by decide +kernel
theorem dX6_load_61 : decode cX6_load 61 = .ok (.iload_n 1, 1) := by decide +kernel
theorem dX6_load_62 : decode cX6_load 62 = .ok (.i2d, 1) := by decide +kernel
theorem dX6_load_63 : decode cX6_load 63 = .ok (.iload_n 3, 1) := by decide +kernel
theorem dX6_load_64 : decode cX6_load 64 = .ok (.i2d, 1) := by decide +kernel
theorem dX6_load_65 : decode cX6_load 65 = .ok (.ddiv, 1) := by decide +kernel
theorem dX6_load_66 : decode cX6_load 66 = .ok (.dreturn, 1) := by decide +kernel
set_option maxRecDepth 20000 in
theorem ggX6_overIn_X6_needTask : GoodIn wsX6_overIn wsX6_needTask := goodIn_ca (goodIn_r _ [7, 8, 9, 2, 247, 248, 249, 250, 251, 252, 253, 254, 255, 256, 257, 258, 259, 260, 261] (by decide +kernel) (by decide +kernel)) (goodIn_sub (fun _ h => List.mem_cons_of_mem _ (List.mem_append_left _ (List.mem_append_right _ h))) (by decide +kernel))
set_option maxRecDepth 20000 in
theorem gX6_overIn_X6_needTask : GoodIn wsX6_overIn (wsV RX6 116 RX6 yX6_needTask wsX6_needTask) := goodIn_app (goodIn_of _ (by decide +kernel)) ggX6_overIn_X6_needTask
set_option maxRecDepth 20000 in
theorem ggX6_overIn_X6_needTicksAhead : GoodIn wsX6_overIn wsX6_needTicksAhead := goodIn_ca (goodIn_r _ [12, 13, 14] (by decide +kernel) (by decide +kernel)) (goodIn_sub (fun _ h => List.mem_cons_of_mem _ (List.mem_append_right _ h)) (by decide +kernel))
set_option maxRecDepth 20000 in
theorem gX6_overIn_X6_needTicksAhead : GoodIn wsX6_overIn (va_wsS RX6 237 yX6_needTicksAhead wsX6_needTicksAhead) := goodIn_app (goodIn_of _ (by decide +kernel)) ggX6_overIn_X6_needTicksAhead
set_option maxRecDepth 20000 in
theorem ggX6_overIn_X1_copyFrom : GoodIn wsX6_overIn wsX1_copyFrom := goodIn_r _ [19, 20, 21, 22, 23, 24, 25, 26, 27, 28, 29, 30, 31, 32, 33, 34, 35, 36, 37, 38, 39, 40, 41, 42, 43, 44, 45, 46, 47, 48, 49, 50, 51, 52, 53, 54, 55, 56, 57, 58, 59, 60, 61, 62, 250, 251, 252, 253, 254, 255, 256, 257, 258, 259, 260, 261, 262, 263, 264, 265, 266, 267, 268, 269, 270, 271, 272, 273, 274, 275, 276, 277, 278, 279, 280] (by decide +kernel) (by decide +kernel)
set_option maxRecDepth 20000 in
theorem gX6_overIn_X1_copyFrom : GoodIn wsX6_overIn (wsV RX6 240 RX1 yX1_copyFrom wsX1_copyFrom) := goodIn_app (goodIn_of _ (by decide +kernel)) ggX6_overIn_X1_copyFrom
set_option maxRecDepth 20000 in
theorem ggX6_overIn_X1_taskAt : GoodIn wsX6_overIn wsX1_taskAt := goodIn_r _ [66, 21, 67, 250, 251, 252, 253, 254, 255, 256, 257, 258, 259, 260, 261] (by decide +kernel) (by decide +kernel)
set_option maxRecDepth 20000 in
theorem gX6_overIn_X1_taskAt : GoodIn wsX6_overIn (wsV RX6 119 RX1 yX1_taskAt wsX1_taskAt) := goodIn_app (goodIn_of _ (by decide +kernel)) ggX6_overIn_X1_taskAt
set_option maxRecDepth 20000 in
theorem ggX6_overIn_X4_isOver : GoodIn wsX6_overIn wsX4_isOver := goodIn_r _ [71, 35, 262, 263, 264, 265, 266, 267, 268, 269, 270, 271, 272] (by decide +kernel) (by decide +kernel)
set_option maxRecDepth 20000 in
theorem gX6_overIn_X4_isOver : GoodIn wsX6_overIn (wsV RX6 123 RX4 yX4_isOver wsX4_isOver) := goodIn_app (goodIn_of _ (by decide +kernel)) ggX6_overIn_X4_isOver
set_option maxRecDepth 20000 in
theorem ggX6_overIn_X1_passTick : GoodIn wsX6_overIn wsX1_passTick := goodIn_r _ [75, 22, 28, 76, 77, 78, 79, 18, 80, 23, 81, 82, 83, 84, 47, 85, 54, 86, 87, 88, 89, 90, 91, 92, 93, 94, 95, 96, 97, 26, 98, 99, 100, 58, 101, 60, 102, 103, 104, 105, 61, 106, 64, 65, 66, 21, 67, 107, 108, 109, 32, 110, 35, 111, 112, 113, 114, 115, 116, 117, 118, 24, 27, 119, 120, 121, 122, 123, 124, 125, 126, 127, 128, 129, 130, 131, 132, 133, 134, 135, 136, 137, 138, 139, 140, 141, 142, 143, 144, 145, 146, 147, 148, 149, 150, 151, 152, 153, 154, 155, 156, 157, 158, 159, 160, 161, 162, 163, 164, 165, 166, 167, 168, 169, 170, 20, 171, 172, 173, 174, 175, 176, 177, 178, 34, 36, 37, 38, 39, 40, 41, 42, 43, 179, 180, 181, 182, 183, 184, 185, 186, 187, 188, 189, 190, 191, 192, 69, 70, 71, 193, 194, 195, 196, 197, 198, 199, 200, 201, 202, 203, 204, 205, 206, 207, 208, 209, 210, 211, 212, 213, 214, 215, 216, 217, 218, 219, 220, 221, 222, 223, 224, 225, 226, 227, 228, 229, 230, 231, 232, 233, 234, 235, 236, 237, 25, 238, 239, 240, 241, 242, 243, 244, 245, 246, 250, 251, 252, 253, 254, 255, 256, 257, 258, 259, 260, 261, 273, 274, 275, 276, 277, 278, 279, 280, 262, 263, 264, 265, 266, 267, 268, 269, 270, 271, 272, 281, 282, 283, 284, 285, 286] (by decide +kernel) (by decide +kernel)
set_option maxRecDepth 20000 in
theorem gX6_overIn_X1_passTick : GoodIn wsX6_overIn (wsV RX6 148 RX1 yX1_passTick wsX1_passTick) := goodIn_app (goodIn_of _ (by decide +kernel)) ggX6_overIn_X1_passTick
theorem dX6_overIn_0 : decode cX6_overIn 0 = .ok (.aload_n 0, 1) := by decide +kernel
theorem dX6_overIn_1 : decode cX6_overIn 1 = .ok (.iload_n 1, 1) := by decide +kernel
theorem dX6_overIn_2 : decode cX6_overIn 2 = .ok (.invokevirtual 116, 3) := by decide +kernel
theorem dX6_overIn_5 : decode cX6_overIn 5 = .ok (.iload_n 2, 1) := by decide +kernel
theorem dX6_overIn_6 : decode cX6_overIn 6 = .ok (.invokestatic 237, 3) := by decide +kernel
theorem dX6_overIn_9 : decode cX6_overIn 9 = .ok (.aload_n 0, 1) := by decide +kernel
theorem dX6_overIn_10 : decode cX6_overIn 10 = .ok (.getfield 25, 3) := by decide +kernel
theorem dX6_overIn_13 : decode cX6_overIn 13 = .ok (.aload_n 0, 1) := by decide +kernel
theorem dX6_overIn_14 : decode cX6_overIn 14 = .ok (.getfield 21, 3) := by decide +kernel
theorem dX6_overIn_17 : decode cX6_overIn 17 = .ok (.invokevirtual 240, 3) := by decide +kernel
theorem dX6_overIn_20 : decode cX6_overIn 20 = .ok (.aload_n 0, 1) := by decide +kernel
theorem dX6_overIn_21 : decode cX6_overIn 21 = .ok (.getfield 25, 3) := by decide +kernel
theorem dX6_overIn_24 : decode cX6_overIn 24 = .ok (.iload_n 1, 1) := by decide +kernel
theorem dX6_overIn_25 : decode cX6_overIn 25 = .ok (.invokevirtual 119, 3) := by decide +kernel
theorem dX6_overIn_28 : decode cX6_overIn 28 = .ok (.astore_n 3, 1) := by decide +kernel
theorem dX6_overIn_29 : decode cX6_overIn 29 = .ok (.iconst 0, 1) := by decide +kernel
theorem dX6_overIn_30 : decode cX6_overIn 30 = .ok (.istore 4, 2) := by decide +kernel
theorem dX6_overIn_32 : decode cX6_overIn 32 = .ok (.iload 4, 2) := by decide +kernel
theorem dX6_overIn_34 : decode cX6_overIn 34 = .ok (.iload_n 2, 1) := by decide +kernel
theorem dX6_overIn_35 : decode cX6_overIn 35 = .ok (.if_icmp .ge 23, 3) := by decide +kernel
theorem dX6_overIn_38 : decode cX6_overIn 38 = .ok (.aload_n 3, 1) := by decide +kernel
theorem dX6_overIn_39 : decode cX6_overIn 39 = .ok (.invokevirtual 123, 3) := by decide +kernel
theorem dX6_overIn_42 : decode cX6_overIn 42 = .ok (.ifCond .ne 16, 3) := by decide +kernel
theorem dX6_overIn_45 : decode cX6_overIn 45 = .ok (.aload_n 0, 1) := by decide +kernel
theorem dX6_overIn_46 : decode cX6_overIn 46 = .ok (.getfield 25, 3) := by decide +kernel
theorem dX6_overIn_49 : decode cX6_overIn 49 = .ok (.invokevirtual 148, 3) := by decide +kernel
theorem dX6_overIn_52 : decode cX6_overIn 52 = .ok (.iinc 4 1, 3) := by decide +kernel
theorem dX6_overIn_55 : decode cX6_overIn 55 = .ok (.goto (-23), 3) := by decide +kernel
theorem dX6_overIn_58 : decode cX6_overIn 58 = .ok (.aload_n 3, 1) := by decide +kernel
theorem dX6_overIn_59 : decode cX6_overIn 59 = .ok (.invokevirtual 123, 3) := by decide +kernel
theorem dX6_overIn_62 : decode cX6_overIn 62 = .ok (.ifCond .eq 21, 3) := by decide +kernel
theorem dX6_overIn_65 : decode cX6_overIn 65 = .ok (.aload_n 0, 1) := by decide +kernel
theorem dX6_overIn_66 : decode cX6_overIn 66 = .ok (.getfield 25, 3) := by decide +kernel
theorem dX6_overIn_69 : decode cX6_overIn 69 = .ok (.getfield 154, 3) := by decide +kernel
theorem dX6_overIn_72 : decode cX6_overIn 72 = .ok (.aload_n 0, 1) := by decide +kernel
theorem dX6_overIn_73 : decode cX6_overIn 73 = .ok (.getfield 21, 3) := by decide +kernel
theorem dX6_overIn_76 : decode cX6_overIn 76 = .ok (.getfield 154, 3) := by decide +kernel
theorem dX6_overIn_79 : decode cX6_overIn 79 = .ok (.isub, 1) := by decide +kernel
theorem dX6_overIn_80 : decode cX6_overIn 80 = .ok (.goto 4, 3) := by decide +kernel
theorem dX6_overIn_83 : decode cX6_overIn 83 = .ok (.iconst (-1), 1) := by decide +kernel
theorem dX6_overIn_84 : decode cX6_overIn 84 = .ok (.ireturn, 1) := by decide +kernel
set_option maxRecDepth 20000 in
theorem ggX6_valueIn_X6_needTask : GoodIn wsX6_valueIn wsX6_needTask := goodIn_ca (goodIn_r _ [7, 8, 9, 2, 246, 247, 248, 260, 261, 262, 263, 264, 265, 266, 267, 268, 269, 270, 271] (by decide +kernel) (by decide +kernel)) (goodIn_sub (fun _ h => List.mem_cons_of_mem _ (List.mem_append_left _ (List.mem_append_right _ h))) (by decide +kernel))
set_option maxRecDepth 20000 in
theorem gX6_valueIn_X6_needTask : GoodIn wsX6_valueIn (wsV RX6 116 RX6 yX6_needTask wsX6_needTask) := goodIn_app (goodIn_of _ (by decide +kernel)) ggX6_valueIn_X6_needTask
set_option maxRecDepth 20000 in
theorem ggX6_valueIn_X6_needTicksAhead : GoodIn wsX6_valueIn wsX6_needTicksAhead := goodIn_ca (goodIn_r _ [12, 13, 14] (by decide +kernel) (by decide +kernel)) (goodIn_sub (fun _ h => List.mem_cons_of_mem _ (List.mem_append_right _ h)) (by decide +kernel))
set_option maxRecDepth 20000 in
theorem gX6_valueIn_X6_needTicksAhead : GoodIn wsX6_valueIn (va_wsS RX6 237 yX6_needTicksAhead wsX6_needTicksAhead) := goodIn_app (goodIn_of _ (by decide +kernel)) ggX6_valueIn_X6_needTicksAhead
set_option maxRecDepth 20000 in
theorem ggX6_valueIn_X1_copyFrom : GoodIn wsX6_valueIn wsX1_copyFrom := goodIn_r _ [19, 20, 21, 22, 23, 24, 25, 26, 27, 28, 29, 30, 31, 32, 33, 34, 35, 36, 37, 38, 39, 40, 41, 42, 43, 44, 45, 46, 47, 48, 49, 50, 51, 52, 53, 54, 55, 56, 57, 58, 59, 60, 61, 62, 260, 261, 262, 263, 264, 265, 266, 267, 268, 269, 270, 271, 249, 250, 251, 252, 253, 254, 255, 256, 257, 258, 259, 272, 273, 274, 275, 276, 277, 278, 279] (by decide +kernel) (by decide +kernel)
set_option maxRecDepth 20000 in
theorem gX6_valueIn_X1_copyFrom : GoodIn wsX6_valueIn (wsV RX6 240 RX1 yX1_copyFrom wsX1_copyFrom) := goodIn_app (goodIn_of _ (by decide +kernel)) ggX6_valueIn_X1_copyFrom
set_option maxRecDepth 20000 in
theorem ggX6_valueIn_X1_passTick : GoodIn wsX6_valueIn wsX1_passTick := goodIn_r _ [66, 22, 28, 67, 68, 69, 70, 18, 71, 23, 72, 73, 74, 75, 47, 76, 54, 77, 78, 79, 80, 81, 82, 83, 84, 85, 86, 87, 88, 26, 89, 90, 91, 58, 92, 60, 93, 94, 95, 96, 61, 97, 98, 99, 100, 21, 101, 102, 103, 104, 32, 105, 35, 106, 107, 108, 109, 110, 111, 112, 113, 24, 27, 114, 115, 116, 117, 118, 119, 120, 121, 122, 123, 124, 125, 126, 127, 128, 129, 130, 131, 132, 133, 134, 135, 136, 137, 138, 139, 140, 141, 142, 143, 144, 145, 146, 147, 148, 149, 150, 151, 152, 153, 154, 155, 156, 157, 158, 159, 160, 161, 162, 163, 164, 165, 20, 166, 167, 168, 169, 170, 171, 172, 173, 34, 36, 37, 38, 39, 40, 41, 42, 43, 174, 175, 176, 177, 178, 179, 180, 181, 182, 183, 184, 185, 186, 187, 188, 189, 190, 191, 192, 193, 194, 195, 196, 197, 198, 199, 200, 201, 202, 203, 204, 205, 206, 207, 208, 209, 210, 211, 212, 213, 214, 215, 216, 217, 218, 219, 220, 221, 222, 223, 224, 225, 226, 227, 228, 229, 230, 231, 232, 233, 234, 235, 25, 236, 237, 238, 239, 240, 241, 242, 243, 244, 260, 261, 262, 263, 264, 265, 266, 267, 268, 269, 270, 271, 272, 273, 274, 275, 276, 277, 278, 279, 249, 250, 251, 252, 253, 254, 255, 256, 257, 258, 259, 280, 281, 282, 283, 284, 285] (by decide +kernel) (by decide +kernel)
set_option maxRecDepth 20000 in
theorem gX6_valueIn_X1_passTick : GoodIn wsX6_valueIn (wsV RX6 148 RX1 yX1_passTick wsX1_passTick) := goodIn_app (goodIn_of _ (by decide +kernel)) ggX6_valueIn_X1_passTick
set_option maxRecDepth 20000 in
theorem ggX6_valueIn_X1_taskAt : GoodIn wsX6_valueIn wsX1_taskAt := goodIn_r _ [100, 21, 101, 260, 261, 262, 263, 264, 265, 266, 267, 268, 269, 270, 271] (by decide +kernel) (by decide +kernel)
set_option maxRecDepth 20000 in
theorem gX6_valueIn_X1_taskAt : GoodIn wsX6_valueIn (wsV RX6 119 RX1 yX1_taskAt wsX1_taskAt) := goodIn_app (goodIn_of _ (by decide +kernel)) ggX6_valueIn_X1_taskAt
theorem dX6_valueIn_0 : decode cX6_valueIn 0 = .ok (.aload_n 0, 1) := by decide +kernel
theorem dX6_valueIn_1 : decode cX6_valueIn 1 = .ok (.iload_n 1, 1) := by decide +kernel
theorem dX6_valueIn_2 : decode cX6_valueIn 2 = .ok (.invokevirtual 116, 3) := by decide +kernel
theorem dX6_valueIn_5 : decode cX6_valueIn 5 = .ok (.iload_n 2, 1) := by decide +kernel
theorem dX6_valueIn_6 : decode cX6_valueIn 6 = .ok (.invokestatic 237, 3) := by decide +kernel
theorem dX6_valueIn_9 : decode cX6_valueIn 9 = .ok (.aload_n 0, 1) := by decide +kernel
theorem dX6_valueIn_10 : decode cX6_valueIn 10 = .ok (.getfield 25, 3) := by decide +kernel
theorem dX6_valueIn_13 : decode cX6_valueIn 13 = .ok (.aload_n 0, 1) := by decide +kernel
theorem dX6_valueIn_14 : decode cX6_valueIn 14 = .ok (.getfield 21, 3) := by decide +kernel
theorem dX6_valueIn_17 : decode cX6_valueIn 17 = .ok (.invokevirtual 240, 3) := by decide +kernel
theorem dX6_valueIn_20 : decode cX6_valueIn 20 = .ok (.iconst 0, 1) := by decide +kernel
theorem dX6_valueIn_21 : decode cX6_valueIn 21 = .ok (.istore_n 3, 1) := by decide +kernel
theorem dX6_valueIn_22 : decode cX6_valueIn 22 = .ok (.iload_n 3, 1) := by decide +kernel
theorem dX6_valueIn_23 : decode cX6_valueIn 23 = .ok (.iload_n 2, 1) := by decide +kernel
theorem dX6_valueIn_24 : decode cX6_valueIn 24 = .ok (.if_icmp .ge 16, 3) := by decide +kernel
theorem dX6_valueIn_27 : decode cX6_valueIn 27 = .ok (.aload_n 0, 1) := by decide +kernel
theorem dX6_valueIn_28 : decode cX6_valueIn 28 = .ok (.getfield 25, 3) := by decide +kernel
theorem dX6_valueIn_31 : decode cX6_valueIn 31 = .ok (.invokevirtual 148, 3) := by decide +kernel
theorem dX6_valueIn_34 : decode cX6_valueIn 34 = .ok (.iinc 3 1, 3) := by decide +kernel
theorem dX6_valueIn_37 : decode cX6_valueIn 37 = .ok (.goto (-15), 3) := by decide +kernel
theorem dX6_valueIn_40 : decode cX6_valueIn 40 = .ok (.aload_n 0, 1) := by decide +kernel
theorem dX6_valueIn_41 : decode cX6_valueIn 41 = .ok (.getfield 25, 3) := by decide +kernel
theorem dX6_valueIn_44 : decode cX6_valueIn 44 = .ok (.iload_n 1, 1) := by decide +kernel
theorem dX6_valueIn_45 : decode cX6_valueIn 45 = .ok (.invokevirtual 119, 3) := by decide +kernel
theorem dX6_valueIn_48 : decode cX6_valueIn 48 = .ok (.getfield 160, 3) := by decide +kernel
theorem dX6_valueIn_51 : decode cX6_valueIn 51 = .ok (.ireturn, 1) := by decide +kernel
set_option maxRecDepth 20000 in
theorem ggX6_haltsIn_X6_needTicksAhead : GoodIn wsX6_haltsIn wsX6_needTicksAhead := goodIn_ca (goodIn_r _ [6, 7, 8] (by decide +kernel) (by decide +kernel)) (goodIn_sub (fun _ h => List.mem_cons_of_mem _ (List.mem_append_right _ h)) (by decide +kernel))
set_option maxRecDepth 20000 in
theorem gX6_haltsIn_X6_needTicksAhead : GoodIn wsX6_haltsIn (va_wsS RX6 237 yX6_needTicksAhead wsX6_needTicksAhead) := goodIn_app (goodIn_of _ (by decide +kernel)) ggX6_haltsIn_X6_needTicksAhead
set_option maxRecDepth 20000 in
theorem ggX6_haltsIn_X1_copyFrom : GoodIn wsX6_haltsIn wsX1_copyFrom := goodIn_r _ [13, 14, 15, 16, 17, 18, 19, 20, 21, 22, 23, 24, 25, 26, 27, 28, 29, 30, 31, 32, 33, 34, 35, 36, 37, 38, 39, 40, 41, 42, 43, 44, 45, 46, 47, 48, 49, 50, 51, 52, 53, 54, 55, 56, 254, 255, 256, 257, 258, 259, 260, 261, 262, 263, 264, 265, 266, 267, 268, 269, 270, 271, 272, 273, 274, 275, 276, 277, 278, 279, 280, 281, 282, 283, 284] (by decide +kernel) (by decide +kernel)
set_option maxRecDepth 20000 in
theorem gX6_haltsIn_X1_copyFrom : GoodIn wsX6_haltsIn (wsV RX6 240 RX1 yX1_copyFrom wsX1_copyFrom) := goodIn_app (goodIn_of _ (by decide +kernel)) ggX6_haltsIn_X1_copyFrom
set_option maxRecDepth 20000 in
theorem ggX6_haltsIn_X1_isHalted : GoodIn wsX6_haltsIn wsX1_isHalted := goodIn_r _ [60, 16, 61, 62, 63, 12, 64, 14, 65, 66, 67, 68, 15, 69, 70, 71, 72, 26, 73, 29, 74, 75, 76, 77, 78, 79, 80, 81, 17, 82, 83, 84, 85, 86, 20, 87, 88, 89, 52, 90, 54, 91, 92, 93, 94, 55, 95, 96, 97, 98, 99, 100, 101, 102, 18, 21, 103, 104, 105, 106, 107, 108, 109, 110, 111, 112, 113, 114, 254, 255, 256, 257, 258, 259, 260, 261, 262, 263, 264, 265, 266, 267, 268, 269, 270, 271, 272, 273, 274, 275, 276, 277, 278, 279, 280, 281, 282, 283, 284] (by decide +kernel) (by decide +kernel)
set_option maxRecDepth 20000 in
theorem gX6_haltsIn_X1_isHalted : GoodIn wsX6_haltsIn (wsV RX6 231 RX1 yX1_isHalted wsX1_isHalted) := goodIn_app (goodIn_of _ (by decide +kernel)) ggX6_haltsIn_X1_isHalted
set_option maxRecDepth 20000 in
theorem ggX6_haltsIn_X1_passTick : GoodIn wsX6_haltsIn wsX1_passTick := goodIn_r _ [118, 16, 22, 119, 78, 79, 80, 12, 81, 17, 82, 120, 121, 122, 41, 123, 48, 124, 125, 126, 127, 128, 129, 130, 131, 83, 84, 85, 86, 20, 87, 88, 89, 52, 90, 54, 91, 92, 93, 94, 55, 65, 66, 67, 68, 15, 69, 95, 96, 97, 26, 98, 29, 132, 133, 134, 135, 99, 100, 101, 102, 18, 21, 103, 104, 105, 106, 107, 108, 109, 110, 111, 112, 113, 114, 136, 137, 138, 139, 140, 141, 142, 143, 144, 145, 146, 147, 148, 149, 150, 151, 152, 153, 154, 155, 156, 157, 158, 159, 160, 161, 162, 163, 164, 165, 166, 167, 168, 169, 170, 171, 172, 173, 174, 175, 14, 176, 177, 178, 179, 180, 181, 182, 183, 28, 30, 31, 32, 33, 34, 35, 36, 37, 184, 185, 186, 187, 188, 189, 190, 191, 192, 193, 194, 195, 196, 70, 71, 72, 73, 197, 198, 199, 200, 201, 202, 203, 204, 205, 206, 207, 208, 209, 210, 211, 212, 213, 214, 215, 216, 217, 218, 219, 220, 221, 222, 223, 224, 225, 226, 227, 228, 229, 230, 231, 232, 233, 234, 235, 236, 237, 238, 239, 240, 241, 19, 242, 243, 244, 245, 246, 247, 248, 249, 250, 254, 255, 256, 257, 258, 259, 260, 261, 262, 263, 264, 265, 277, 278, 279, 280, 281, 282, 283, 284, 266, 267, 268, 269, 270, 271, 272, 273, 274, 275, 276, 285, 286, 287, 288, 289, 290] (by decide +kernel) (by decide +kernel)
set_option maxRecDepth 20000 in
theorem gX6_haltsIn_X1_passTick : GoodIn wsX6_haltsIn (wsV RX6 148 RX1 yX1_passTick wsX1_passTick) := goodIn_app (goodIn_of _ (by decide +kernel)) ggX6_haltsIn_X1_passTick
theorem dX6_haltsIn_0 : decode cX6_haltsIn 0 = .ok (.iload_n 1, 1) := by decide +kernel
theorem dX6_haltsIn_1 : decode cX6_haltsIn 1 = .ok (.invokestatic 237, 3) := by decide +kernel
theorem dX6_haltsIn_4 : decode cX6_haltsIn 4 = .ok (.aload_n 0, 1) := by decide +kernel
theorem dX6_haltsIn_5 : decode cX6_haltsIn 5 = .ok (.getfield 25, 3) := by decide +kernel
theorem dX6_haltsIn_8 : decode cX6_haltsIn 8 = .ok (.aload_n 0, 1) := by decide +kernel
theorem dX6_haltsIn_9 : decode cX6_haltsIn 9 = .ok (.getfield 21, 3) := by decide +kernel
theorem dX6_haltsIn_12 : decode cX6_haltsIn 12 = .ok (.invokevirtual 240, 3) := by decide +kernel
theorem dX6_haltsIn_15 : decode cX6_haltsIn 15 = .ok (.iconst 0, 1) := by decide +kernel
theorem dX6_haltsIn_16 : decode cX6_haltsIn 16 = .ok (.istore_n 2, 1) := by decide +kernel
theorem dX6_haltsIn_17 : decode cX6_haltsIn 17 = .ok (.iload_n 2, 1) := by decide +kernel
theorem dX6_haltsIn_18 : decode cX6_haltsIn 18 = .ok (.iload_n 1, 1) := by decide +kernel
theorem dX6_haltsIn_19 : decode cX6_haltsIn 19 = .ok (.if_icmp .ge 26, 3) := by decide +kernel
theorem dX6_haltsIn_22 : decode cX6_haltsIn 22 = .ok (.aload_n 0, 1) := by decide +kernel
theorem dX6_haltsIn_23 : decode cX6_haltsIn 23 = .ok (.getfield 25, 3) := by decide +kernel
theorem dX6_haltsIn_26 : decode cX6_haltsIn 26 = .ok (.invokevirtual 231, 3) := by decide +kernel
theorem dX6_haltsIn_29 : decode cX6_haltsIn 29 = .ok (.ifCond .ne 16, 3) := by decide +kernel
theorem dX6_haltsIn_32 : decode cX6_haltsIn 32 = .ok (.aload_n 0, 1) := by decide +kernel
theorem dX6_haltsIn_33 : decode cX6_haltsIn 33 = .ok (.getfield 25, 3) := by decide +kernel
theorem dX6_haltsIn_36 : decode cX6_haltsIn 36 = .ok (.invokevirtual 148, 3) := by decide +kernel
theorem dX6_haltsIn_39 : decode cX6_haltsIn 39 = .ok (.iinc 2 1, 3) := by decide +kernel
theorem dX6_haltsIn_42 : decode cX6_haltsIn 42 = .ok (.goto (-25), 3) := by decide +kernel
theorem dX6_haltsIn_45 : decode cX6_haltsIn 45 = .ok (.aload_n 0, 1) := by decide +kernel
theorem dX6_haltsIn_46 : decode cX6_haltsIn 46 = .ok (.getfield 25, 3) := by decide +kernel
theorem dX6_haltsIn_49 : decode cX6_haltsIn 49 = .ok (.invokevirtual 231, 3) := by decide +kernel
theorem dX6_haltsIn_52 : decode cX6_haltsIn 52 = .ok (.ifCond .eq 21, 3) := by decide +kernel
theorem dX6_haltsIn_55 : decode cX6_haltsIn 55 = .ok (.aload_n 0, 1) := by decide +kernel
theorem dX6_haltsIn_56 : decode cX6_haltsIn 56 = .ok (.getfield 25, 3) := by decide +kernel
theorem dX6_haltsIn_59 : decode cX6_haltsIn 59 = .ok (.getfield 154, 3) := by decide +kernel
theorem dX6_haltsIn_62 : decode cX6_haltsIn 62 = .ok (.aload_n 0, 1) := by decide +kernel
theorem dX6_haltsIn_63 : decode cX6_haltsIn 63 = .ok (.getfield 21, 3) := by decide +kernel
theorem dX6_haltsIn_66 : decode cX6_haltsIn 66 = .ok (.getfield 154, 3) := by decide +kernel
theorem dX6_haltsIn_69 : decode cX6_haltsIn 69 = .ok (.isub, 1) := by decide +kernel
theorem dX6_haltsIn_70 : decode cX6_haltsIn 70 = .ok (.goto 4, 3) := by decide +kernel
theorem dX6_haltsIn_73 : decode cX6_haltsIn 73 = .ok (.iconst (-1), 1) := by decide +kernel
theorem dX6_haltsIn_74 : decode cX6_haltsIn 74 = .ok (.ireturn, 1) := by decide +kernel
set_option maxRecDepth 20000 in
theorem ggX6_alone_X6_needJob : GoodIn wsX6_alone wsX6_needJob := goodIn_ca (goodIn_r _ [7, 8, 9, 10, 11, 12, 6, 13, 14, 267, 268, 269, 282, 283, 284] (by decide +kernel) (by decide +kernel)) (goodIn_sub (fun _ h => List.mem_cons_of_mem _ (List.mem_append_left _ (List.mem_append_right _ h))) (by decide +kernel))
set_option maxRecDepth 20000 in
theorem gX6_alone_X6_needJob : GoodIn wsX6_alone (wsV RX6 43 RX6 yX6_needJob wsX6_needJob) := goodIn_app (goodIn_of _ (by decide +kernel)) ggX6_alone_X6_needJob
set_option maxRecDepth 20000 in
theorem ggX6_alone_X6_needWorkerCount : GoodIn wsX6_alone wsX6_needWorkerCount := goodIn_ca (goodIn_r _ [17, 18, 19] (by decide +kernel) (by decide +kernel)) (goodIn_sub (fun _ h => List.mem_cons_of_mem _ (List.mem_append_right _ h)) (by decide +kernel))
set_option maxRecDepth 20000 in
theorem gX6_alone_X6_needWorkerCount : GoodIn wsX6_alone (va_wsS RX6 76 yX6_needWorkerCount wsX6_needWorkerCount) := goodIn_app (goodIn_of _ (by decide +kernel)) ggX6_alone_X6_needWorkerCount
set_option maxRecDepth 20000 in
theorem ggX6_alone_X6_needWay : GoodIn wsX6_alone wsX6_needWay := goodIn_ca (goodIn_r _ [22, 18, 19] (by decide +kernel) (by decide +kernel)) (goodIn_sub (fun _ h => List.mem_cons_of_mem _ (List.mem_append_right _ h)) (by decide +kernel))
set_option maxRecDepth 20000 in
theorem gX6_alone_X6_needWay : GoodIn wsX6_alone (va_wsS RX6 90 yX6_needWay wsX6_needWay) := goodIn_app (goodIn_of _ (by decide +kernel)) ggX6_alone_X6_needWay
set_option maxRecDepth 20000 in
theorem ggX6_alone_X1_clear : GoodIn wsX6_alone wsX1_clear := goodIn_r _ [27, 28, 29, 30, 31, 32, 33, 34, 35, 36, 37, 38, 26, 39, 40, 41, 42, 43, 44, 45, 46, 47, 48, 49, 50, 51, 52, 53, 54, 55, 56, 57, 58, 59, 60, 61, 62, 63, 64, 65, 66, 67, 68, 270, 271, 272, 273, 274, 275, 276, 277, 278, 279, 280, 281, 285, 286, 287, 288, 289, 290, 291, 292] (by decide +kernel) (by decide +kernel)
set_option maxRecDepth 20000 in
theorem gX6_alone_X1_clear : GoodIn wsX6_alone (wsV RX6 244 RX1 yX1_clear wsX1_clear) := goodIn_app (goodIn_of _ (by decide +kernel)) ggX6_alone_X1_clear
set_option maxRecDepth 20000 in
theorem ggX6_alone_X1_changeWorkerCount : GoodIn wsX6_alone wsX1_changeWorkerCount := goodIn_r _ [39, 29, 40, 41, 42, 26, 43, 44, 45, 46, 47, 48, 49, 50, 51, 52, 53, 54, 55, 56, 57, 58, 59, 60, 61, 62, 63, 64, 65, 66, 270, 271, 272, 273, 274, 275, 276, 277, 278, 279, 280, 281, 285, 286, 287, 288, 289, 290, 291, 292] (by decide +kernel) (by decide +kernel)
set_option maxRecDepth 20000 in
theorem gX6_alone_X1_changeWorkerCount : GoodIn wsX6_alone (wsV RX6 87 RX1 yX1_changeWorkerCount wsX1_changeWorkerCount) := goodIn_app (goodIn_of _ (by decide +kernel)) ggX6_alone_X1_changeWorkerCount
set_option maxRecDepth 20000 in
theorem ggX6_alone_X1_askFor : GoodIn wsX6_alone wsX1_askFor := goodIn_r _ [73, 30, 74, 75, 76, 26, 77, 28, 78, 79, 80, 81, 82, 83, 84, 85, 86, 87, 88, 89, 90, 91, 92, 93, 94, 95, 96, 97, 98, 99, 100, 101, 60, 102, 62, 103, 270, 271, 272, 273, 274, 275, 276, 277, 278, 279, 280, 281, 293, 294, 295, 296, 297, 298, 299, 300, 301, 302, 303, 291, 292] (by decide +kernel) (by decide +kernel)
set_option maxRecDepth 20000 in
theorem gX6_alone_X1_askFor : GoodIn wsX6_alone (wsV RX6 112 RX1 yX1_askFor wsX1_askFor) := goodIn_app (goodIn_of _ (by decide +kernel)) ggX6_alone_X1_askFor
set_option maxRecDepth 20000 in
theorem ggX6_alone_X1_countUnfinished : GoodIn wsX6_alone wsX1_countUnfinished := goodIn_r _ [107, 28, 78, 79, 80, 26, 81, 82, 83, 108, 109, 110, 87, 111, 90, 270, 271, 272, 273, 274, 275, 276, 277, 278, 279, 280, 281, 293, 294, 295, 296, 297, 298, 299, 300, 301, 302, 303] (by decide +kernel) (by decide +kernel)
set_option maxRecDepth 20000 in
theorem gX6_alone_X1_countUnfinished : GoodIn wsX6_alone (wsV RX6 151 RX1 yX1_countUnfinished wsX1_countUnfinished) := goodIn_app (goodIn_of _ (by decide +kernel)) ggX6_alone_X1_countUnfinished
set_option maxRecDepth 20000 in
theorem ggX6_alone_X1_passTick : GoodIn wsX6_alone wsX1_passTick := goodIn_r _ [115, 29, 35, 116, 40, 41, 42, 26, 43, 44, 45, 117, 118, 119, 49, 120, 56, 121, 122, 123, 124, 125, 126, 127, 128, 129, 130, 131, 132, 33, 133, 134, 135, 60, 136, 62, 137, 138, 139, 140, 103, 78, 79, 80, 81, 82, 83, 141, 142, 143, 87, 144, 90, 145, 146, 147, 148, 149, 150, 151, 152, 30, 34, 153, 154, 155, 156, 157, 158, 159, 160, 161, 162, 163, 164, 165, 166, 167, 168, 169, 99, 100, 101, 102, 170, 171, 172, 173, 174, 175, 176, 177, 178, 179, 180, 181, 182, 183, 184, 185, 186, 187, 188, 189, 190, 191, 192, 193, 194, 195, 196, 197, 198, 199, 200, 28, 74, 75, 76, 77, 84, 85, 86, 88, 89, 91, 92, 93, 94, 95, 96, 97, 98, 201, 202, 203, 204, 205, 206, 207, 208, 209, 210, 211, 212, 213, 108, 109, 110, 111, 214, 215, 216, 217, 218, 219, 220, 221, 222, 223, 224, 225, 226, 227, 228, 229, 230, 231, 232, 233, 234, 235, 236, 237, 238, 239, 240, 241, 242, 243, 244, 245, 246, 247, 248, 249, 250, 251, 252, 253, 32, 254, 255, 256, 257, 31, 258, 259, 260, 261, 262, 263, 264, 265, 266, 270, 271, 272, 273, 274, 275, 276, 277, 278, 279, 280, 281, 285, 286, 287, 288, 289, 290, 291, 292, 293, 294, 295, 296, 297, 298, 299, 300, 301, 302, 303, 304, 305, 306, 282, 283, 284] (by decide +kernel) (by decide +kernel)
set_option maxRecDepth 20000 in
theorem gX6_alone_X1_passTick : GoodIn wsX6_alone (wsV RX6 148 RX1 yX1_passTick wsX1_passTick) := goodIn_app (goodIn_of _ (by decide +kernel)) ggX6_alone_X1_passTick
theorem dX6_alone_0 : decode cX6_alone 0 = .ok (.aload_n 0, 1) := by decide +kernel
theorem dX6_alone_1 : decode cX6_alone 1 = .ok (.iload_n 1, 1) := by decide +kernel
theorem dX6_alone_2 : decode cX6_alone 2 = .ok (.invokevirtual 43, 3) := by decide +kernel
theorem dX6_alone_5 : decode cX6_alone 5 = .ok (.iload_n 2, 1) := by decide +kernel
theorem dX6_alone_6 : decode cX6_alone 6 = .ok (.invokestatic 76, 3) := by decide +kernel
theorem dX6_alone_9 : decode cX6_alone 9 = .ok (.iload_n 3, 1) := by decide +kernel
theorem dX6_alone_10 : decode cX6_alone 10 = .ok (.invokestatic 90, 3) := by decide +kernel
theorem dX6_alone_13 : decode cX6_alone 13 = .ok (.aload_n 0, 1) := by decide +kernel
theorem dX6_alone_14 : decode cX6_alone 14 = .ok (.getfield 25, 3) := by decide +kernel
theorem dX6_alone_17 : decode cX6_alone 17 = .ok (.invokevirtual 244, 3) := by decide +kernel
theorem dX6_alone_20 : decode cX6_alone 20 = .ok (.aload_n 0, 1) := by decide +kernel
theorem dX6_alone_21 : decode cX6_alone 21 = .ok (.getfield 25, 3) := by decide +kernel
theorem dX6_alone_24 : decode cX6_alone 24 = .ok (.iload_n 2, 1) := by decide +kernel
theorem dX6_alone_25 : decode cX6_alone 25 = .ok (.invokevirtual 87, 3) := by decide +kernel
theorem dX6_alone_28 : decode cX6_alone 28 = .ok (.aload_n 0, 1) := by decide +kernel
theorem dX6_alone_29 : decode cX6_alone 29 = .ok (.getfield 25, 3) := by decide +kernel
theorem dX6_alone_32 : decode cX6_alone 32 = .ok (.iload_n 3, 1) := by decide +kernel
theorem dX6_alone_33 : decode cX6_alone 33 = .ok (.putfield 95, 3) := by decide +kernel
theorem dX6_alone_36 : decode cX6_alone 36 = .ok (.aload_n 0, 1) := by decide +kernel
theorem dX6_alone_37 : decode cX6_alone 37 = .ok (.getfield 25, 3) := by decide +kernel
theorem dX6_alone_40 : decode cX6_alone 40 = .ok (.aload_n 0, 1) := by decide +kernel
theorem dX6_alone_41 : decode cX6_alone 41 = .ok (.getfield 21, 3) := by decide +kernel
theorem dX6_alone_44 : decode cX6_alone 44 = .ok (.getfield 104, 3) := by decide +kernel
theorem dX6_alone_47 : decode cX6_alone 47 = .ok (.putfield 104, 3) := by decide +kernel
theorem dX6_alone_50 : decode cX6_alone 50 = .ok (.aload_n 0, 1) := by decide +kernel
theorem dX6_alone_51 : decode cX6_alone 51 = .ok (.getfield 25, 3) := by decide +kernel
theorem dX6_alone_54 : decode cX6_alone 54 = .ok (.iload_n 1, 1) := by decide +kernel
theorem dX6_alone_55 : decode cX6_alone 55 = .ok (.invokevirtual 112, 3) := by decide +kernel
theorem dX6_alone_58 : decode cX6_alone 58 = .ok (.pop, 1) := by decide +kernel
theorem dX6_alone_59 : decode cX6_alone 59 = .ok (.iconst 0, 1) := by decide +kernel
theorem dX6_alone_60 : decode cX6_alone 60 = .ok (.istore 4, 2) := by decide +kernel
theorem dX6_alone_62 : decode cX6_alone 62 = .ok (.iload 4, 2) := by decide +kernel
theorem dX6_alone_64 : decode cX6_alone 64 = .ok (.bipush 60, 2) := by decide +kernel
theorem dX6_alone_66 : decode cX6_alone 66 = .ok (.if_icmp .ge 26, 3) := by decide +kernel
theorem dX6_alone_69 : decode cX6_alone 69 = .ok (.aload_n 0, 1) := by decide +kernel
theorem dX6_alone_70 : decode cX6_alone 70 = .ok (.getfield 25, 3) := by decide +kernel
theorem dX6_alone_73 : decode cX6_alone 73 = .ok (.invokevirtual 151, 3) := by decide +kernel
theorem dX6_alone_76 : decode cX6_alone 76 = .ok (.ifCond .le 16, 3) := by decide +kernel
theorem dX6_alone_79 : decode cX6_alone 79 = .ok (.aload_n 0, 1) := by decide +kernel
theorem dX6_alone_80 : decode cX6_alone 80 = .ok (.getfield 25, 3) := by decide +kernel
theorem dX6_alone_83 : decode cX6_alone 83 = .ok (.invokevirtual 148, 3) := by decide +kernel
theorem dX6_alone_86 : decode cX6_alone 86 = .ok (.iinc 4 1, 3) := by decide +kernel
theorem dX6_alone_89 : decode cX6_alone 89 = .ok (.goto (-27), 3) := by decide +kernel
theorem dX6_alone_92 : decode cX6_alone 92 = .ok (.aload_n 0, 1) := by decide +kernel
theorem dX6_alone_93 : decode cX6_alone 93 = .ok (.getfield 25, 3) := by decide +kernel
theorem dX6_alone_96 : decode cX6_alone 96 = .ok (.invokevirtual 151, 3) := by decide +kernel
theorem dX6_alone_99 : decode cX6_alone 99 = .ok (.ifCond .ne 13, 3) := by decide +kernel
theorem dX6_alone_102 : decode cX6_alone 102 = .ok (.aload_n 0, 1) := by decide +kernel
theorem dX6_alone_103 : decode cX6_alone 103 = .ok (.getfield 25, 3) := by decide +kernel
theorem dX6_alone_106 : decode cX6_alone 106 = .ok (.getfield 154, 3) := by decide +kernel
theorem dX6_alone_109 : decode cX6_alone 109 = .ok (.goto 4, 3) := by decide +kernel
theorem dX6_alone_112 : decode cX6_alone 112 = .ok (.iconst (-1), 1) := by decide +kernel
theorem dX6_alone_113 : decode cX6_alone 113 = .ok (.ireturn, 1) := by decide +kernel
set_option maxRecDepth 20000 in
theorem ggX6_digest_X6_clock : GoodIn wsX6_digest wsX6_clock := goodIn_r _ [8, 3, 214, 215, 216, 217, 218, 219, 220, 221, 222, 223, 224, 225, 226, 227, 228] (by decide +kernel) (by decide +kernel)
set_option maxRecDepth 20000 in
theorem gX6_digest_X6_clock : GoodIn wsX6_digest (wsV RX6 251 RX6 yX6_clock wsX6_clock) := goodIn_app (goodIn_of _ (by decide +kernel)) ggX6_digest_X6_clock
set_option maxRecDepth 20000 in
theorem ggX6_digest_X6_tasks : GoodIn wsX6_digest wsX6_tasks := goodIn_r _ [12, 3, 214, 215, 216, 217, 218, 219, 220, 221, 222, 223, 224, 225, 226, 227, 228] (by decide +kernel) (by decide +kernel)
set_option maxRecDepth 20000 in
theorem gX6_digest_X6_tasks : GoodIn wsX6_digest (wsV RX6 253 RX6 yX6_tasks wsX6_tasks) := goodIn_app (goodIn_of _ (by decide +kernel)) ggX6_digest_X6_tasks
set_option maxRecDepth 20000 in
theorem ggX6_digest_X6_workers : GoodIn wsX6_digest wsX6_workers := goodIn_r _ [16, 3, 214, 215, 216, 217, 218, 219, 220, 221, 222, 223, 224, 225, 226, 227, 228] (by decide +kernel) (by decide +kernel)
set_option maxRecDepth 20000 in
theorem gX6_digest_X6_workers : GoodIn wsX6_digest (wsV RX6 256 RX6 yX6_workers wsX6_workers) := goodIn_app (goodIn_of _ (by decide +kernel)) ggX6_digest_X6_workers
set_option maxRecDepth 20000 in
theorem ggX6_digest_X6_halted : GoodIn wsX6_digest wsX6_halted := goodIn_r _ [20, 3, 21, 22, 23, 24, 25, 26, 27, 28, 29, 30, 31, 32, 33, 34, 35, 36, 37, 38, 39, 40, 41, 42, 43, 44, 45, 46, 47, 48, 49, 50, 51, 52, 53, 54, 55, 56, 57, 58, 59, 60, 61, 62, 63, 64, 65, 66, 67, 68, 69, 70, 71, 72, 73, 74, 75, 76, 77, 78, 79, 80, 81, 82, 83, 84, 85, 86, 87, 88, 89, 90, 91, 92, 93, 94, 95, 214, 215, 216, 217, 218, 219, 220, 221, 222, 223, 224, 225, 226, 227, 228, 229, 230, 231, 232, 233, 234, 235, 236, 237, 238, 239, 240, 241, 242, 243, 244, 245, 246, 247] (by decide +kernel) (by decide +kernel)
set_option maxRecDepth 20000 in
theorem gX6_digest_X6_halted : GoodIn wsX6_digest (wsV RX6 259 RX6 yX6_halted wsX6_halted) := goodIn_app (goodIn_of _ (by decide +kernel)) ggX6_digest_X6_halted
set_option maxRecDepth 20000 in
theorem ggX6_digest_X6_withTask : GoodIn wsX6_digest wsX6_withTask := goodIn_ca (goodIn_r _ [99, 2, 100, 101, 102, 7, 103, 3, 104, 105, 106, 107, 108, 109, 110, 33, 34, 24, 35, 36, 37, 111, 112, 113, 114, 115, 116, 117, 118, 119, 120, 121, 122, 123, 124, 125, 126, 127, 128, 129, 130, 131, 132, 133, 134, 31, 32, 135, 136, 137, 138, 139, 140, 141, 214, 215, 216, 229, 230, 231, 232, 233, 234, 235, 236, 237, 238, 239, 217, 218, 219, 220, 221, 222, 223, 224, 225, 226, 227, 228] (by decide +kernel) (by decide +kernel)) (goodIn_sub (fun _ h => List.mem_cons_of_mem _ (List.mem_append_left _ (List.mem_append_right _ h))) (by decide +kernel))
set_option maxRecDepth 20000 in
theorem gX6_digest_X6_withTask : GoodIn wsX6_digest (wsV RX6 262 RX6 yX6_withTask wsX6_withTask) := goodIn_app (goodIn_of _ (by decide +kernel)) ggX6_digest_X6_withTask
set_option maxRecDepth 20000 in
theorem ggX6_digest_X6_promise : GoodIn wsX6_digest wsX6_promise := goodIn_ca (goodIn_r _ [145, 3, 146, 147, 7, 148, 108, 109, 149, 150, 151, 152, 153, 154, 24, 155, 156, 157, 214, 215, 216, 217, 218, 219, 220, 221, 222, 223, 224, 225, 226, 227, 228] (by decide +kernel) (by decide +kernel)) (goodIn_sub (fun _ h => List.mem_cons_of_mem _ (List.mem_append_left _ (List.mem_append_right _ h))) (by decide +kernel))
set_option maxRecDepth 20000 in
theorem gX6_digest_X6_promise : GoodIn wsX6_digest (wsV RX6 266 RX6 yX6_promise wsX6_promise) := goodIn_app (goodIn_of _ (by decide +kernel)) ggX6_digest_X6_promise
set_option maxRecDepth 20000 in
theorem ggX6_digest_X6_withRow : GoodIn wsX6_digest wsX6_withRow := goodIn_ca (goodIn_r _ [161, 2, 162, 163, 164, 7, 165, 3, 166, 167, 168, 169, 170, 171, 172, 173, 108, 109, 174, 81, 82, 24, 83, 78, 48, 49, 50, 51, 52, 53, 175, 176, 177, 178, 179, 66, 67, 62, 68, 64, 69, 214, 215, 216, 246, 247, 217, 218, 219, 220, 221, 222, 223, 224, 225, 226, 227, 228, 240, 241, 242, 243, 244, 245] (by decide +kernel) (by decide +kernel)) (goodIn_sub (fun _ h => List.mem_cons_of_mem _ (List.mem_append_left _ (List.mem_append_right _ h))) (by decide +kernel))
set_option maxRecDepth 20000 in
theorem gX6_digest_X6_withRow : GoodIn wsX6_digest (wsV RX6 269 RX6 yX6_withRow wsX6_withRow) := goodIn_app (goodIn_of _ (by decide +kernel)) ggX6_digest_X6_withRow
set_option maxRecDepth 20000 in
theorem ggX6_digest_X6_withWorker : GoodIn wsX6_digest wsX6_withWorker := goodIn_ca (goodIn_ca (goodIn_r _ [183, 2, 184, 185, 186, 7, 187, 3, 170, 171, 172, 173, 108, 109, 188, 49, 50, 24, 51, 52, 53, 189, 60, 61, 62, 63, 64, 65, 66, 67, 68, 69, 190, 191, 192, 193, 194, 195, 196, 197, 198, 199, 200, 201, 202, 203, 204, 205, 206, 207, 208, 209, 210, 211, 212, 213, 214, 215, 216, 240, 241, 242, 243, 244, 245, 217, 218, 219, 220, 221, 222, 223, 224, 225, 226, 227, 228, 246, 247] (by decide +kernel) (by decide +kernel)) (goodIn_sub (fun _ h => List.mem_cons_of_mem _ (List.mem_append_left _ (List.mem_append_right _ h))) (by decide +kernel))) (goodIn_sub (fun _ h => List.mem_cons_of_mem _ (List.mem_append_right _ h)) (by decide +kernel))
set_option maxRecDepth 20000 in
theorem gX6_digest_X6_withWorker : GoodIn wsX6_digest (wsV RX6 272 RX6 yX6_withWorker wsX6_withWorker) := goodIn_app (goodIn_of _ (by decide +kernel)) ggX6_digest_X6_withWorker
theorem dX6_digest_0 : decode cX6_digest 0 = .ok (.ldc2_w 247, 3) := by decide +kernel
theorem dX6_digest_3 : decode cX6_digest 3 = .ok (.lstore_n 1, 1) := by decide +kernel
theorem dX6_digest_4 : decode cX6_digest 4 = .ok (.lload_n 1, 1) := by decide +kernel
theorem dX6_digest_5 : decode cX6_digest 5 = .ok (.ldc2_w 249, 3) := by decide +kernel
theorem dX6_digest_8 : decode cX6_digest 8 = .ok (.lmul, 1) := by decide +kernel
theorem dX6_digest_9 : decode cX6_digest 9 = .ok (.aload_n 0, 1) := by decide +kernel
theorem dX6_digest_10 : decode cX6_digest 10 = .ok (.invokevirtual 251, 3) := by decide +kernel
theorem dX6_digest_13 : decode cX6_digest 13 = .ok (.i2l, 1) := by decide +kernel
theorem dX6_digest_14 : decode cX6_digest 14 = .ok (.ladd, 1) := by decide +kernel
theorem dX6_digest_15 : decode cX6_digest 15 = .ok (.lstore_n 1, 1) := by decide +kernel
theorem dX6_digest_16 : decode cX6_digest 16 = .ok (.lload_n 1, 1) := by decide +kernel
theorem dX6_digest_17 : decode cX6_digest 17 = .ok (.ldc2_w 249, 3) := by decide +kernel
theorem dX6_digest_20 : decode cX6_digest 20 = .ok (.lmul, 1) := by decide +kernel
theorem dX6_digest_21 : decode cX6_digest 21 = .ok (.aload_n 0, 1) := by decide +kernel
theorem dX6_digest_22 : decode cX6_digest 22 = .ok (.invokevirtual 253, 3) := by decide +kernel
theorem dX6_digest_25 : decode cX6_digest 25 = .ok (.i2l, 1) := by decide +kernel
theorem dX6_digest_26 : decode cX6_digest 26 = .ok (.ladd, 1) := by decide +kernel
theorem dX6_digest_27 : decode cX6_digest 27 = .ok (.lstore_n 1, 1) := by decide +kernel
theorem dX6_digest_28 : decode cX6_digest 28 = .ok (.lload_n 1, 1) := by decide +kernel
theorem dX6_digest_29 : decode cX6_digest 29 = .ok (.ldc2_w 249, 3) := by decide +kernel
theorem dX6_digest_32 : decode cX6_digest 32 = .ok (.lmul, 1) := by decide +kernel
theorem dX6_digest_33 : decode cX6_digest 33 = .ok (.aload_n 0, 1) := by decide +kernel
theorem dX6_digest_34 : decode cX6_digest 34 = .ok (.invokevirtual 256, 3) := by decide +kernel
theorem dX6_digest_37 : decode cX6_digest 37 = .ok (.i2l, 1) := by decide +kernel
theorem dX6_digest_38 : decode cX6_digest 38 = .ok (.ladd, 1) := by decide +kernel
theorem dX6_digest_39 : decode cX6_digest 39 = .ok (.lstore_n 1, 1) := by decide +kernel
theorem dX6_digest_40 : decode cX6_digest 40 = .ok (.lload_n 1, 1) := by decide +kernel
theorem dX6_digest_41 : decode cX6_digest 41 = .ok (.ldc2_w 249, 3) := by decide +kernel
theorem dX6_digest_44 : decode cX6_digest 44 = .ok (.lmul, 1) := by decide +kernel
theorem dX6_digest_45 : decode cX6_digest 45 = .ok (.aload_n 0, 1) := by decide +kernel
theorem dX6_digest_46 : decode cX6_digest 46 = .ok (.invokevirtual 259, 3) := by decide +kernel
theorem dX6_digest_49 : decode cX6_digest 49 = .ok (.i2l, 1) := by decide +kernel
theorem dX6_digest_50 : decode cX6_digest 50 = .ok (.ladd, 1) := by decide +kernel
theorem dX6_digest_51 : decode cX6_digest 51 = .ok (.lstore_n 1, 1) := by decide +kernel
theorem dX6_digest_52 : decode cX6_digest 52 = .ok (.iconst 0, 1) := by decide +kernel
theorem dX6_digest_53 : decode cX6_digest 53 = .ok (.istore_n 3, 1) := by decide +kernel
theorem dX6_digest_54 : decode cX6_digest 54 = .ok (.iload_n 3, 1) := by decide +kernel
theorem dX6_digest_55 : decode cX6_digest 55 = .ok (.aload_n 0, 1) := by decide +kernel
theorem dX6_digest_56 : decode cX6_digest 56 = .ok (.getfield 21, 3) := by decide +kernel
theorem dX6_digest_59 : decode cX6_digest 59 = .ok (.getfield 107, 3) := by decide +kernel
theorem dX6_digest_62 : decode cX6_digest 62 = .ok (.if_icmp .ge 16, 3) := by decide +kernel
theorem dX6_digest_65 : decode cX6_digest 65 = .ok (.aload_n 0, 1) := by decide +kernel
theorem dX6_digest_66 : decode cX6_digest 66 = .ok (.lload_n 1, 1) := by decide +kernel
theorem dX6_digest_67 : decode cX6_digest 67 = .ok (.iload_n 3, 1) := by decide +kernel
theorem dX6_digest_68 : decode cX6_digest 68 = .ok (.invokevirtual 262, 3) := by decide +kernel
theorem dX6_digest_71 : decode cX6_digest 71 = .ok (.lstore_n 1, 1) := by decide +kernel
theorem dX6_digest_72 : decode cX6_digest 72 = .ok (.iinc 3 1, 3) := by decide +kernel
theorem dX6_digest_75 : decode cX6_digest 75 = .ok (.goto (-21), 3) := by decide +kernel
theorem dX6_digest_78 : decode cX6_digest 78 = .ok (.iconst 0, 1) := by decide +kernel
theorem dX6_digest_79 : decode cX6_digest 79 = .ok (.istore_n 3, 1) := by decide +kernel
theorem dX6_digest_80 : decode cX6_digest 80 = .ok (.iload_n 3, 1) := by decide +kernel
theorem dX6_digest_81 : decode cX6_digest 81 = .ok (.bipush 6, 2) := by decide +kernel
theorem dX6_digest_83 : decode cX6_digest 83 = .ok (.if_icmp .ge 22, 3) := by decide +kernel
theorem dX6_digest_86 : decode cX6_digest 86 = .ok (.lload_n 1, 1) := by decide +kernel
theorem dX6_digest_87 : decode cX6_digest 87 = .ok (.ldc2_w 249, 3) := by decide +kernel
theorem dX6_digest_90 : decode cX6_digest 90 = .ok (.lmul, 1) := by decide +kernel
theorem dX6_digest_91 : decode cX6_digest 91 = .ok (.aload_n 0, 1) := by decide +kernel
theorem dX6_digest_92 : decode cX6_digest 92 = .ok (.iload_n 3, 1) := by decide +kernel
theorem dX6_digest_93 : decode cX6_digest 93 = .ok (.invokevirtual 266, 3) := by decide +kernel
theorem dX6_digest_96 : decode cX6_digest 96 = .ok (.i2l, 1) := by decide +kernel
theorem dX6_digest_97 : decode cX6_digest 97 = .ok (.ladd, 1) := by decide +kernel
theorem dX6_digest_98 : decode cX6_digest 98 = .ok (.lstore_n 1, 1) := by decide +kernel
theorem dX6_digest_99 : decode cX6_digest 99 = .ok (.iinc 3 1, 3) := by decide +kernel
theorem dX6_digest_102 : decode cX6_digest 102 = .ok (.goto (-22), 3) := by decide +kernel
theorem dX6_digest_105 : decode cX6_digest 105 = .ok (.iconst (-1), 1) := by decide +kernel
theorem dX6_digest_106 : decode cX6_digest 106 = .ok (.istore_n 3, 1) := by decide +kernel
theorem dX6_digest_107 : decode cX6_digest 107 = .ok (.iload_n 3, 1) := by decide +kernel
theorem dX6_digest_108 : decode cX6_digest 108 = .ok (.aload_n 0, 1) := by decide +kernel
theorem dX6_digest_109 : decode cX6_digest 109 = .ok (.getfield 21, 3) := by decide +kernel
theorem dX6_digest_112 : decode cX6_digest 112 = .ok (.getfield 84, 3) := by decide +kernel
theorem dX6_digest_115 : decode cX6_digest 115 = .ok (.if_icmp .ge 16, 3) := by decide +kernel
theorem dX6_digest_118 : decode cX6_digest 118 = .ok (.aload_n 0, 1) := by decide +kernel
theorem dX6_digest_119 : decode cX6_digest 119 = .ok (.lload_n 1, 1) := by decide +kernel
theorem dX6_digest_120 : decode cX6_digest 120 = .ok (.iload_n 3, 1) := by decide +kernel
theorem dX6_digest_121 : decode cX6_digest 121 = .ok (.invokevirtual 269, 3) := by decide +kernel
theorem dX6_digest_124 : decode cX6_digest 124 = .ok (.lstore_n 1, 1) := by decide +kernel
theorem dX6_digest_125 : decode cX6_digest 125 = .ok (.iinc 3 1, 3) := by decide +kernel
theorem dX6_digest_128 : decode cX6_digest 128 = .ok (.goto (-21), 3) := by decide +kernel
theorem dX6_digest_131 : decode cX6_digest 131 = .ok (.iconst 0, 1) := by decide +kernel
theorem dX6_digest_132 : decode cX6_digest 132 = .ok (.istore_n 3, 1) := by decide +kernel
theorem dX6_digest_133 : decode cX6_digest 133 = .ok (.iload_n 3, 1) := by decide +kernel
theorem dX6_digest_134 : decode cX6_digest 134 = .ok (.aload_n 0, 1) := by decide +kernel
theorem dX6_digest_135 : decode cX6_digest 135 = .ok (.getfield 21, 3) := by decide +kernel
theorem dX6_digest_138 : decode cX6_digest 138 = .ok (.getfield 84, 3) := by decide +kernel
theorem dX6_digest_141 : decode cX6_digest 141 = .ok (.if_icmp .ge 16, 3) := by decide +kernel
theorem dX6_digest_144 : decode cX6_digest 144 = .ok (.aload_n 0, 1) := by decide +kernel
theorem dX6_digest_145 : decode cX6_digest 145 = .ok (.lload_n 1, 1) := by decide +kernel
theorem dX6_digest_146 : decode cX6_digest 146 = .ok (.iload_n 3, 1) := by decide +kernel
theorem dX6_digest_147 : decode cX6_digest 147 = .ok (.invokevirtual 272, 3) := by decide +kernel
theorem dX6_digest_150 : decode cX6_digest 150 = .ok (.lstore_n 1, 1) := by decide +kernel
theorem dX6_digest_151 : decode cX6_digest 151 = .ok (.iinc 3 1, 3) := by decide +kernel
theorem dX6_digest_154 : decode cX6_digest 154 = .ok (.goto (-21), 3) := by decide +kernel
theorem dX6_digest_157 : decode cX6_digest 157 = .ok (.lload_n 1, 1) := by decide +kernel
theorem dX6_digest_158 : decode cX6_digest 158 = .ok (.lreturn, 1) := by decide +kernel
set_option maxRecDepth 20000 in
theorem ggX6_withTask_X6_stateOf : GoodIn wsX6_withTask wsX6_stateOf := goodIn_ca (goodIn_r _ [6, 7, 8, 9, 10, 5, 11, 12, 13, 14, 15, 16, 17, 18, 19, 20, 54, 55, 56, 57, 58, 59, 60, 61, 62, 63, 64, 65, 66, 67, 68, 69, 70, 71, 72, 73, 74, 75, 76, 77, 78, 79] (by decide +kernel) (by decide +kernel)) (goodIn_sub (fun _ h => List.mem_cons_of_mem _ (List.mem_append_right _ h)) (by decide +kernel))
set_option maxRecDepth 20000 in
theorem gX6_withTask_X6_stateOf : GoodIn wsX6_withTask (wsV RX6 275 RX6 yX6_stateOf wsX6_stateOf) := goodIn_app (goodIn_of _ (by decide +kernel)) ggX6_withTask_X6_stateOf
set_option maxRecDepth 20000 in
theorem ggX6_withTask_X6_valueOf : GoodIn wsX6_withTask wsX6_valueOf := goodIn_ca (goodIn_r _ [24, 7, 8, 9, 10, 5, 11, 12, 13, 14, 15, 16, 17, 18, 19, 20, 54, 55, 56, 57, 58, 59, 60, 61, 62, 63, 64, 65, 66, 67, 68, 69, 70, 71, 72, 73, 74, 75, 76, 77, 78, 79] (by decide +kernel) (by decide +kernel)) (goodIn_sub (fun _ h => List.mem_cons_of_mem _ (List.mem_append_right _ h)) (by decide +kernel))
set_option maxRecDepth 20000 in
theorem gX6_withTask_X6_valueOf : GoodIn wsX6_withTask (wsV RX6 278 RX6 yX6_valueOf wsX6_valueOf) := goodIn_app (goodIn_of _ (by decide +kernel)) ggX6_withTask_X6_valueOf
set_option maxRecDepth 20000 in
theorem ggX6_withTask_X6_stepOf : GoodIn wsX6_withTask wsX6_stepOf := goodIn_ca (goodIn_r _ [28, 7, 8, 9, 10, 5, 11, 12, 13, 14, 15, 16, 17, 18, 19, 20, 54, 55, 56, 57, 58, 59, 60, 61, 62, 63, 64, 65, 66, 67, 68, 69, 70, 71, 72, 73, 74, 75, 76, 77, 78, 79] (by decide +kernel) (by decide +kernel)) (goodIn_sub (fun _ h => List.mem_cons_of_mem _ (List.mem_append_right _ h)) (by decide +kernel))
set_option maxRecDepth 20000 in
theorem gX6_withTask_X6_stepOf : GoodIn wsX6_withTask (wsV RX6 281 RX6 yX6_stepOf wsX6_stepOf) := goodIn_app (goodIn_of _ (by decide +kernel)) ggX6_withTask_X6_stepOf
set_option maxRecDepth 20000 in
theorem ggX6_withTask_X6_parentOf : GoodIn wsX6_withTask wsX6_parentOf := goodIn_ca (goodIn_r _ [32, 7, 8, 9, 10, 5, 11, 12, 13, 14, 15, 16, 17, 18, 19, 20, 54, 55, 56, 57, 58, 59, 60, 61, 62, 63, 64, 65, 66, 67, 68, 69, 70, 71, 72, 73, 74, 75, 76, 77, 78, 79] (by decide +kernel) (by decide +kernel)) (goodIn_sub (fun _ h => List.mem_cons_of_mem _ (List.mem_append_right _ h)) (by decide +kernel))
set_option maxRecDepth 20000 in
theorem gX6_withTask_X6_parentOf : GoodIn wsX6_withTask (wsV RX6 284 RX6 yX6_parentOf wsX6_parentOf) := goodIn_app (goodIn_of _ (by decide +kernel)) ggX6_withTask_X6_parentOf
set_option maxRecDepth 20000 in
theorem ggX6_withTask_X6_childrenOf : GoodIn wsX6_withTask wsX6_childrenOf := goodIn_ca (goodIn_r _ [36, 7, 8, 9, 10, 5, 11, 12, 13, 14, 15, 16, 17, 18, 19, 20, 54, 55, 56, 57, 58, 59, 60, 61, 62, 63, 64, 65, 66, 67, 68, 69, 70, 71, 72, 73, 74, 75, 76, 77, 78, 79] (by decide +kernel) (by decide +kernel)) (goodIn_sub (fun _ h => List.mem_cons_of_mem _ (List.mem_append_right _ h)) (by decide +kernel))
set_option maxRecDepth 20000 in
theorem gX6_withTask_X6_childrenOf : GoodIn wsX6_withTask (wsV RX6 287 RX6 yX6_childrenOf wsX6_childrenOf) := goodIn_app (goodIn_of _ (by decide +kernel)) ggX6_withTask_X6_childrenOf
set_option maxRecDepth 20000 in
theorem ggX6_withTask_X6_workOf : GoodIn wsX6_withTask wsX6_workOf := goodIn_ca (goodIn_r _ [40, 7, 8, 9, 10, 5, 11, 12, 13, 41, 42, 43, 17, 44, 45, 46, 15, 16, 18, 19, 20, 47, 48, 49, 54, 55, 56, 68, 69, 70, 71, 72, 73, 74, 75, 76, 77, 78, 79, 57, 58, 59, 60, 61, 62, 63, 64, 65, 66, 67] (by decide +kernel) (by decide +kernel)) (goodIn_sub (fun _ h => List.mem_cons_of_mem _ (List.mem_append_right _ h)) (by decide +kernel))
set_option maxRecDepth 20000 in
theorem gX6_withTask_X6_workOf : GoodIn wsX6_withTask (wsV RX6 290 RX6 yX6_workOf wsX6_workOf) := goodIn_app (goodIn_of _ (by decide +kernel)) ggX6_withTask_X6_workOf
set_option maxRecDepth 20000 in
theorem ggX6_withTask_X6_overAt : GoodIn wsX6_withTask wsX6_overAt := goodIn_ca (goodIn_r _ [53, 7, 8, 9, 10, 5, 11, 12, 13, 14, 15, 16, 17, 18, 19, 20, 54, 55, 56, 57, 58, 59, 60, 61, 62, 63, 64, 65, 66, 67, 68, 69, 70, 71, 72, 73, 74, 75, 76, 77, 78, 79] (by decide +kernel) (by decide +kernel)) (goodIn_sub (fun _ h => List.mem_cons_of_mem _ (List.mem_append_right _ h)) (by decide +kernel))
set_option maxRecDepth 20000 in
theorem gX6_withTask_X6_overAt : GoodIn wsX6_withTask (wsV RX6 293 RX6 yX6_overAt wsX6_overAt) := goodIn_app (goodIn_of _ (by decide +kernel)) ggX6_withTask_X6_overAt
theorem dX6_withTask_0 : decode cX6_withTask 0 = .ok (.lload_n 1, 1) := by decide +kernel
theorem dX6_withTask_1 : decode cX6_withTask 1 = .ok (.lstore 4, 2) := by decide +kernel
theorem dX6_withTask_3 : decode cX6_withTask 3 = .ok (.lload 4, 2) := by decide +kernel
theorem dX6_withTask_5 : decode cX6_withTask 5 = .ok (.ldc2_w 249, 3) := by decide +kernel
theorem dX6_withTask_8 : decode cX6_withTask 8 = .ok (.lmul, 1) := by decide +kernel
theorem dX6_withTask_9 : decode cX6_withTask 9 = .ok (.aload_n 0, 1) := by decide +kernel
theorem dX6_withTask_10 : decode cX6_withTask 10 = .ok (.iload_n 3, 1) := by decide +kernel
theorem dX6_withTask_11 : decode cX6_withTask 11 = .ok (.invokevirtual 275, 3) := by decide +kernel
theorem dX6_withTask_14 : decode cX6_withTask 14 = .ok (.i2l, 1) := by decide +kernel
theorem dX6_withTask_15 : decode cX6_withTask 15 = .ok (.ladd, 1) := by decide +kernel
theorem dX6_withTask_16 : decode cX6_withTask 16 = .ok (.lstore 4, 2) := by decide +kernel
theorem dX6_withTask_18 : decode cX6_withTask 18 = .ok (.lload 4, 2) := by decide +kernel
theorem dX6_withTask_20 : decode cX6_withTask 20 = .ok (.ldc2_w 249, 3) := by decide +kernel
theorem dX6_withTask_23 : decode cX6_withTask 23 = .ok (.lmul, 1) := by decide +kernel
theorem dX6_withTask_24 : decode cX6_withTask 24 = .ok (.aload_n 0, 1) := by decide +kernel
theorem dX6_withTask_25 : decode cX6_withTask 25 = .ok (.iload_n 3, 1) := by decide +kernel
theorem dX6_withTask_26 : decode cX6_withTask 26 = .ok (.invokevirtual 278, 3) := by decide +kernel
theorem dX6_withTask_29 : decode cX6_withTask 29 = .ok (.i2l, 1) := by decide +kernel
theorem dX6_withTask_30 : decode cX6_withTask 30 = .ok (.ladd, 1) := by decide +kernel
theorem dX6_withTask_31 : decode cX6_withTask 31 = .ok (.lstore 4, 2) := by decide +kernel
theorem dX6_withTask_33 : decode cX6_withTask 33 = .ok (.lload 4, 2) := by decide +kernel
theorem dX6_withTask_35 : decode cX6_withTask 35 = .ok (.ldc2_w 249, 3) := by decide +kernel
theorem dX6_withTask_38 : decode cX6_withTask 38 = .ok (.lmul, 1) := by decide +kernel
theorem dX6_withTask_39 : decode cX6_withTask 39 = .ok (.aload_n 0, 1) := by decide +kernel
theorem dX6_withTask_40 : decode cX6_withTask 40 = .ok (.iload_n 3, 1) := by decide +kernel
theorem dX6_withTask_41 : decode cX6_withTask 41 = .ok (.invokevirtual 281, 3) := by decide +kernel
theorem dX6_withTask_44 : decode cX6_withTask 44 = .ok (.i2l, 1) := by decide +kernel
theorem dX6_withTask_45 : decode cX6_withTask 45 = .ok (.ladd, 1) := by decide +kernel
theorem dX6_withTask_46 : decode cX6_withTask 46 = .ok (.lstore 4, 2) := by decide +kernel
theorem dX6_withTask_48 : decode cX6_withTask 48 = .ok (.lload 4, 2) := by decide +kernel
theorem dX6_withTask_50 : decode cX6_withTask 50 = .ok (.ldc2_w 249, 3) := by decide +kernel
theorem dX6_withTask_53 : decode cX6_withTask 53 = .ok (.lmul, 1) := by decide +kernel
theorem dX6_withTask_54 : decode cX6_withTask 54 = .ok (.aload_n 0, 1) := by decide +kernel
theorem dX6_withTask_55 : decode cX6_withTask 55 = .ok (.iload_n 3, 1) := by decide +kernel
theorem dX6_withTask_56 : decode cX6_withTask 56 = .ok (.invokevirtual 284, 3) := by decide +kernel
theorem dX6_withTask_59 : decode cX6_withTask 59 = .ok (.i2l, 1) := by decide +kernel
theorem dX6_withTask_60 : decode cX6_withTask 60 = .ok (.ladd, 1) := by decide +kernel
theorem dX6_withTask_61 : decode cX6_withTask 61 = .ok (.lstore 4, 2) := by decide +kernel
theorem dX6_withTask_63 : decode cX6_withTask 63 = .ok (.lload 4, 2) := by decide +kernel
theorem dX6_withTask_65 : decode cX6_withTask 65 = .ok (.ldc2_w 249, 3) := by decide +kernel
theorem dX6_withTask_68 : decode cX6_withTask 68 = .ok (.lmul, 1) := by decide +kernel
theorem dX6_withTask_69 : decode cX6_withTask 69 = .ok (.aload_n 0, 1) := by decide +kernel
theorem dX6_withTask_70 : decode cX6_withTask 70 = .ok (.iload_n 3, 1) := by decide +kernel
theorem dX6_withTask_71 : decode cX6_withTask 71 = .ok (.invokevirtual 287, 3) := by decide +kernel
theorem dX6_withTask_74 : decode cX6_withTask 74 = .ok (.i2l, 1) := by decide +kernel
theorem dX6_withTask_75 : decode cX6_withTask 75 = .ok (.ladd, 1) := by decide +kernel
theorem dX6_withTask_76 : decode cX6_withTask 76 = .ok (.lstore 4, 2) := by decide +kernel
theorem dX6_withTask_78 : decode cX6_withTask 78 = .ok (.lload 4, 2) := by decide +kernel
theorem dX6_withTask_80 : decode cX6_withTask 80 = .ok (.ldc2_w 249, 3) := by decide +kernel
theorem dX6_withTask_83 : decode cX6_withTask 83 = .ok (.lmul, 1) := by decide +kernel
theorem dX6_withTask_84 : decode cX6_withTask 84 = .ok (.aload_n 0, 1) := by decide +kernel
theorem dX6_withTask_85 : decode cX6_withTask 85 = .ok (.iload_n 3, 1) := by decide +kernel
theorem dX6_withTask_86 : decode cX6_withTask 86 = .ok (.invokevirtual 290, 3) := by decide +kernel
theorem dX6_withTask_89 : decode cX6_withTask 89 = .ok (.i2l, 1) := by decide +kernel
theorem dX6_withTask_90 : decode cX6_withTask 90 = .ok (.ladd, 1) := by decide +kernel
theorem dX6_withTask_91 : decode cX6_withTask 91 = .ok (.lstore 4, 2) := by decide +kernel
theorem dX6_withTask_93 : decode cX6_withTask 93 = .ok (.lload 4, 2) := by decide +kernel
theorem dX6_withTask_95 : decode cX6_withTask 95 = .ok (.ldc2_w 249, 3) := by decide +kernel
theorem dX6_withTask_98 : decode cX6_withTask 98 = .ok (.lmul, 1) := by decide +kernel
theorem dX6_withTask_99 : decode cX6_withTask 99 = .ok (.aload_n 0, 1) := by decide +kernel
theorem dX6_withTask_100 : decode cX6_withTask 100 = .ok (.iload_n 3, 1) := by decide +kernel
theorem dX6_withTask_101 : decode cX6_withTask 101 = .ok (.invokevirtual 293, 3) := by decide +kernel
theorem dX6_withTask_104 : decode cX6_withTask 104 = .ok (.i2l, 1) := by decide +kernel
theorem dX6_withTask_105 : decode cX6_withTask 105 = .ok (.ladd, 1) := by decide +kernel
theorem dX6_withTask_106 : decode cX6_withTask 106 = .ok (.lreturn, 1) := by decide +kernel
set_option maxRecDepth 20000 in
theorem ggX6_withRow_X6_row : GoodIn wsX6_withRow wsX6_row := goodIn_ca (goodIn_r _ [6, 7, 8, 9, 10, 5, 11, 12, 13, 14, 15, 16, 17, 18, 19, 20, 21, 22, 23, 24, 25, 26, 27, 28, 29, 41, 42, 43, 44, 45, 46, 47, 48, 49, 50, 51, 52, 53, 54, 55, 56, 57, 58, 59, 60, 61, 62, 63] (by decide +kernel) (by decide +kernel)) (goodIn_sub (fun _ h => List.mem_cons_of_mem _ (List.mem_append_right _ h)) (by decide +kernel))
set_option maxRecDepth 20000 in
theorem gX6_withRow_X6_row : GoodIn wsX6_withRow (wsV RX6 295 RX6 yX6_row wsX6_row) := goodIn_app (goodIn_of _ (by decide +kernel)) ggX6_withRow_X6_row
set_option maxRecDepth 20000 in
theorem ggX6_withRow_X6_inRow : GoodIn wsX6_withRow wsX6_inRow := goodIn_ca (goodIn_r _ [33, 16, 17, 7, 8, 9, 10, 5, 11, 12, 13, 14, 15, 18, 19, 20, 21, 22, 23, 24, 25, 26, 27, 28, 29, 34, 35, 36, 37, 38, 39, 40, 41, 42, 43, 44, 45, 46, 47, 48, 49, 50, 51, 52, 53, 54, 55, 56, 57, 58, 59, 60, 61, 62, 63] (by decide +kernel) (by decide +kernel)) (goodIn_sub (fun _ h => List.mem_cons_of_mem _ (List.mem_append_right _ h)) (by decide +kernel))
set_option maxRecDepth 20000 in
theorem gX6_withRow_X6_inRow : GoodIn wsX6_withRow (wsV RX6 298 RX6 yX6_inRow wsX6_inRow) := goodIn_app (goodIn_of _ (by decide +kernel)) ggX6_withRow_X6_inRow
theorem dX6_withRow_0 : decode cX6_withRow 0 = .ok (.aload_n 0, 1) := by decide +kernel
theorem dX6_withRow_1 : decode cX6_withRow 1 = .ok (.iload_n 3, 1) := by decide +kernel
theorem dX6_withRow_2 : decode cX6_withRow 2 = .ok (.invokevirtual 295, 3) := by decide +kernel
theorem dX6_withRow_5 : decode cX6_withRow 5 = .ok (.istore 4, 2) := by decide +kernel
theorem dX6_withRow_7 : decode cX6_withRow 7 = .ok (.lload_n 1, 1) := by decide +kernel
theorem dX6_withRow_8 : decode cX6_withRow 8 = .ok (.ldc2_w 249, 3) := by decide +kernel
theorem dX6_withRow_11 : decode cX6_withRow 11 = .ok (.lmul, 1) := by decide +kernel
theorem dX6_withRow_12 : decode cX6_withRow 12 = .ok (.iload 4, 2) := by decide +kernel
theorem dX6_withRow_14 : decode cX6_withRow 14 = .ok (.i2l, 1) := by decide +kernel
theorem dX6_withRow_15 : decode cX6_withRow 15 = .ok (.ladd, 1) := by decide +kernel
theorem dX6_withRow_16 : decode cX6_withRow 16 = .ok (.lstore 5, 2) := by decide +kernel
theorem dX6_withRow_18 : decode cX6_withRow 18 = .ok (.iconst 0, 1) := by decide +kernel
theorem dX6_withRow_19 : decode cX6_withRow 19 = .ok (.istore 7, 2) := by decide +kernel
theorem dX6_withRow_21 : decode cX6_withRow 21 = .ok (.iload 7, 2) := by decide +kernel
theorem dX6_withRow_23 : decode cX6_withRow 23 = .ok (.iload 4, 2) := by decide +kernel
theorem dX6_withRow_25 : decode cX6_withRow 25 = .ok (.if_icmp .ge 26, 3) := by decide +kernel
theorem dX6_withRow_28 : decode cX6_withRow 28 = .ok (.lload 5, 2) := by decide +kernel
theorem dX6_withRow_30 : decode cX6_withRow 30 = .ok (.ldc2_w 249, 3) := by decide +kernel
theorem dX6_withRow_33 : decode cX6_withRow 33 = .ok (.lmul, 1) := by decide +kernel
theorem dX6_withRow_34 : decode cX6_withRow 34 = .ok (.aload_n 0, 1) := by decide +kernel
theorem dX6_withRow_35 : decode cX6_withRow 35 = .ok (.iload_n 3, 1) := by decide +kernel
theorem dX6_withRow_36 : decode cX6_withRow 36 = .ok (.iload 7, 2) := by decide +kernel
theorem dX6_withRow_38 : decode cX6_withRow 38 = .ok (.invokevirtual 298, 3) := by decide +kernel
theorem dX6_withRow_41 : decode cX6_withRow 41 = .ok (.i2l, 1) := by decide +kernel
theorem dX6_withRow_42 : decode cX6_withRow 42 = .ok (.ladd, 1) := by decide +kernel
theorem dX6_withRow_43 : decode cX6_withRow 43 = .ok (.lstore 5, 2) := by decide +kernel
theorem dX6_withRow_45 : decode cX6_withRow 45 = .ok (.iinc 7 1, 3) := by decide +kernel
theorem dX6_withRow_48 : decode cX6_withRow 48 = .ok (.goto (-27), 3) := by decide +kernel
theorem dX6_withRow_51 : decode cX6_withRow 51 = .ok (.lload 5, 2) := by decide +kernel
theorem dX6_withRow_53 : decode cX6_withRow 53 = .ok (.lreturn, 1) := by decide +kernel
set_option maxRecDepth 20000 in
theorem ggX6_withWorker_X6_top : GoodIn wsX6_withWorker wsX6_top := goodIn_ca (goodIn_r _ [6, 7, 8, 9, 10, 5, 11, 12, 13, 14, 15, 16, 17, 18, 19, 20, 21, 22, 23, 24, 25, 26, 27, 28, 29, 30, 31, 56, 57, 58, 59, 60, 61, 62, 63, 64, 65, 66, 67, 68, 69, 70, 71, 72, 73, 74, 75, 76, 77, 78] (by decide +kernel) (by decide +kernel)) (goodIn_sub (fun _ h => List.mem_cons_of_mem _ (List.mem_append_left _ (List.mem_append_right _ h))) (by decide +kernel))
set_option maxRecDepth 20000 in
theorem gX6_withWorker_X6_top : GoodIn wsX6_withWorker (wsV RX6 302 RX6 yX6_top wsX6_top) := goodIn_app (goodIn_of _ (by decide +kernel)) ggX6_withWorker_X6_top
set_option maxRecDepth 20000 in
theorem ggX6_withWorker_X6_stack : GoodIn wsX6_withWorker wsX6_stack := goodIn_ca (goodIn_r _ [35, 7, 8, 9, 10, 5, 11, 12, 13, 14, 15, 16, 17, 18, 19, 20, 56, 57, 58, 59, 60, 61, 62, 63, 64, 77, 78, 65, 66, 67, 68, 69, 70, 71, 72, 73, 74, 75, 76] (by decide +kernel) (by decide +kernel)) (goodIn_sub (fun _ h => List.mem_cons_of_mem _ (List.mem_append_left _ (List.mem_append_right _ h))) (by decide +kernel))
set_option maxRecDepth 20000 in
theorem gX6_withWorker_X6_stack : GoodIn wsX6_withWorker (wsV RX6 305 RX6 yX6_stack wsX6_stack) := goodIn_app (goodIn_of _ (by decide +kernel)) ggX6_withWorker_X6_stack
set_option maxRecDepth 20000 in
theorem ggX6_withWorker_X6_told : GoodIn wsX6_withWorker wsX6_told := goodIn_ca (goodIn_ca (goodIn_r _ [39, 40, 41, 7, 8, 9, 10, 5, 11, 12, 13, 14, 15, 16, 17, 18, 19, 20, 56, 57, 58, 59, 60, 61, 62, 63, 64, 65, 66, 67, 68, 69, 70, 71, 72, 73, 74, 75, 76] (by decide +kernel) (by decide +kernel)) (goodIn_sub (fun _ h => List.mem_cons_of_mem _ (List.mem_append_right _ h)) (by decide +kernel))) (goodIn_sub (fun _ h => List.mem_cons_of_mem _ (List.mem_append_left _ (List.mem_append_right _ h))) (by decide +kernel))
set_option maxRecDepth 20000 in
theorem gX6_withWorker_X6_told : GoodIn wsX6_withWorker (wsV RX6 307 RX6 yX6_told wsX6_told) := goodIn_app (goodIn_of _ (by decide +kernel)) ggX6_withWorker_X6_told
set_option maxRecDepth 20000 in
theorem ggX6_withWorker_X6_ran : GoodIn wsX6_withWorker wsX6_ran := goodIn_ca (goodIn_ca (goodIn_r _ [45, 40, 41, 7, 8, 9, 10, 5, 11, 12, 13, 14, 15, 16, 17, 18, 19, 20, 46, 47, 48, 49, 50, 51, 52, 53, 54, 55, 56, 57, 58, 65, 66, 67, 68, 69, 70, 71, 72, 73, 74, 75, 76, 59, 60, 61, 62, 63, 64] (by decide +kernel) (by decide +kernel)) (goodIn_sub (fun _ h => List.mem_cons_of_mem _ (List.mem_append_right _ h)) (by decide +kernel))) (goodIn_sub (fun _ h => List.mem_cons_of_mem _ (List.mem_append_left _ (List.mem_append_right _ h))) (by decide +kernel))
set_option maxRecDepth 20000 in
theorem gX6_withWorker_X6_ran : GoodIn wsX6_withWorker (wsV RX6 310 RX6 yX6_ran wsX6_ran) := goodIn_app (goodIn_of _ (by decide +kernel)) ggX6_withWorker_X6_ran
theorem dX6_withWorker_0 : decode cX6_withWorker 0 = .ok (.lload_n 1, 1) := by decide +kernel
theorem dX6_withWorker_1 : decode cX6_withWorker 1 = .ok (.lstore 4, 2) := by decide +kernel
theorem dX6_withWorker_3 : decode cX6_withWorker 3 = .ok (.lload 4, 2) := by decide +kernel
theorem dX6_withWorker_5 : decode cX6_withWorker 5 = .ok (.ldc2_w 249, 3) := by decide +kernel
theorem dX6_withWorker_8 : decode cX6_withWorker 8 = .ok (.lmul, 1) := by decide +kernel
theorem dX6_withWorker_9 : decode cX6_withWorker 9 = .ok (.aload_n 0, 1) := by decide +kernel
theorem dX6_withWorker_10 : decode cX6_withWorker 10 = .ok (.iload_n 3, 1) := by decide +kernel
theorem dX6_withWorker_11 : decode cX6_withWorker 11 = .ok (.invokevirtual 302, 3) := by decide +kernel
theorem dX6_withWorker_14 : decode cX6_withWorker 14 = .ok (.i2l, 1) := by decide +kernel
theorem dX6_withWorker_15 : decode cX6_withWorker 15 = .ok (.ladd, 1) := by decide +kernel
theorem dX6_withWorker_16 : decode cX6_withWorker 16 = .ok (.lstore 4, 2) := by decide +kernel
theorem dX6_withWorker_18 : decode cX6_withWorker 18 = .ok (.lload 4, 2) := by decide +kernel
theorem dX6_withWorker_20 : decode cX6_withWorker 20 = .ok (.ldc2_w 249, 3) := by decide +kernel
theorem dX6_withWorker_23 : decode cX6_withWorker 23 = .ok (.lmul, 1) := by decide +kernel
theorem dX6_withWorker_24 : decode cX6_withWorker 24 = .ok (.aload_n 0, 1) := by decide +kernel
theorem dX6_withWorker_25 : decode cX6_withWorker 25 = .ok (.iload_n 3, 1) := by decide +kernel
theorem dX6_withWorker_26 : decode cX6_withWorker 26 = .ok (.invokevirtual 305, 3) := by decide +kernel
theorem dX6_withWorker_29 : decode cX6_withWorker 29 = .ok (.i2l, 1) := by decide +kernel
theorem dX6_withWorker_30 : decode cX6_withWorker 30 = .ok (.ladd, 1) := by decide +kernel
theorem dX6_withWorker_31 : decode cX6_withWorker 31 = .ok (.lstore 4, 2) := by decide +kernel
theorem dX6_withWorker_33 : decode cX6_withWorker 33 = .ok (.iconst 0, 1) := by decide +kernel
theorem dX6_withWorker_34 : decode cX6_withWorker 34 = .ok (.istore 6, 2) := by decide +kernel
theorem dX6_withWorker_36 : decode cX6_withWorker 36 = .ok (.iload 6, 2) := by decide +kernel
theorem dX6_withWorker_38 : decode cX6_withWorker 38 = .ok (.iconst 2, 1) := by decide +kernel
theorem dX6_withWorker_39 : decode cX6_withWorker 39 = .ok (.if_icmp .gt 26, 3) := by decide +kernel
theorem dX6_withWorker_42 : decode cX6_withWorker 42 = .ok (.lload 4, 2) := by decide +kernel
theorem dX6_withWorker_44 : decode cX6_withWorker 44 = .ok (.ldc2_w 249, 3) := by decide +kernel
theorem dX6_withWorker_47 : decode cX6_withWorker 47 = .ok (.lmul, 1) := by decide +kernel
theorem dX6_withWorker_48 : decode cX6_withWorker 48 = .ok (.aload_n 0, 1) := by decide +kernel
theorem dX6_withWorker_49 : decode cX6_withWorker 49 = .ok (.iload_n 3, 1) := by decide +kernel
theorem dX6_withWorker_50 : decode cX6_withWorker 50 = .ok (.iload 6, 2) := by decide +kernel
theorem dX6_withWorker_52 : decode cX6_withWorker 52 = .ok (.invokevirtual 307, 3) := by decide +kernel
theorem dX6_withWorker_55 : decode cX6_withWorker 55 = .ok (.i2l, 1) := by decide +kernel
theorem dX6_withWorker_56 : decode cX6_withWorker 56 = .ok (.ladd, 1) := by decide +kernel
theorem dX6_withWorker_57 : decode cX6_withWorker 57 = .ok (.lstore 4, 2) := by decide +kernel
theorem dX6_withWorker_59 : decode cX6_withWorker 59 = .ok (.iinc 6 1, 3) := by decide +kernel
theorem dX6_withWorker_62 : decode cX6_withWorker 62 = .ok (.goto (-26), 3) := by decide +kernel
theorem dX6_withWorker_65 : decode cX6_withWorker 65 = .ok (.iconst 1, 1) := by decide +kernel
theorem dX6_withWorker_66 : decode cX6_withWorker 66 = .ok (.istore 6, 2) := by decide +kernel
theorem dX6_withWorker_68 : decode cX6_withWorker 68 = .ok (.iload 6, 2) := by decide +kernel
theorem dX6_withWorker_70 : decode cX6_withWorker 70 = .ok (.iconst 3, 1) := by decide +kernel
theorem dX6_withWorker_71 : decode cX6_withWorker 71 = .ok (.if_icmp .gt 26, 3) := by decide +kernel
theorem dX6_withWorker_74 : decode cX6_withWorker 74 = .ok (.lload 4, 2) := by decide +kernel
theorem dX6_withWorker_76 : decode cX6_withWorker 76 = .ok (.ldc2_w 249, 3) := by decide +kernel
theorem dX6_withWorker_79 : decode cX6_withWorker 79 = .ok (.lmul, 1) := by decide +kernel
theorem dX6_withWorker_80 : decode cX6_withWorker 80 = .ok (.aload_n 0, 1) := by decide +kernel
theorem dX6_withWorker_81 : decode cX6_withWorker 81 = .ok (.iload_n 3, 1) := by decide +kernel
theorem dX6_withWorker_82 : decode cX6_withWorker 82 = .ok (.iload 6, 2) := by decide +kernel
theorem dX6_withWorker_84 : decode cX6_withWorker 84 = .ok (.invokevirtual 310, 3) := by decide +kernel
theorem dX6_withWorker_87 : decode cX6_withWorker 87 = .ok (.i2l, 1) := by decide +kernel
theorem dX6_withWorker_88 : decode cX6_withWorker 88 = .ok (.ladd, 1) := by decide +kernel
theorem dX6_withWorker_89 : decode cX6_withWorker 89 = .ok (.lstore 4, 2) := by decide +kernel
theorem dX6_withWorker_91 : decode cX6_withWorker 91 = .ok (.iinc 6 1, 3) := by decide +kernel
theorem dX6_withWorker_94 : decode cX6_withWorker 94 = .ok (.goto (-26), 3) := by decide +kernel
theorem dX6_withWorker_97 : decode cX6_withWorker 97 = .ok (.lload 4, 2) := by decide +kernel
theorem dX6_withWorker_99 : decode cX6_withWorker 99 = .ok (.lreturn, 1) := by decide +kernel
set_option maxRecDepth 20000 in
theorem ggX6_needJob_X6_isJob : GoodIn wsX6_needJob wsX6_isJob := goodIn_r _ [7, 8, 9, 10, 11, 12, 13, 14] (by decide +kernel) (by decide +kernel)
set_option maxRecDepth 20000 in
theorem gX6_needJob_X6_isJob : GoodIn wsX6_needJob (wsV RX6 313 RX6 yX6_isJob wsX6_isJob) := goodIn_app (goodIn_of _ (by decide +kernel)) ggX6_needJob_X6_isJob
theorem dX6_needJob_0 : decode cX6_needJob 0 = .ok (.aload_n 0, 1) := by decide +kernel
theorem dX6_needJob_1 : decode cX6_needJob 1 = .ok (.iload_n 1, 1) := by decide +kernel
theorem dX6_needJob_2 : decode cX6_needJob 2 = .ok (.invokevirtual 313, 3) := by decide +kernel
theorem dX6_needJob_5 : decode cX6_needJob 5 = .ok (.ifCond .ne 14, 3) := by decide +kernel
theorem dX6_needJob_8 : decode cX6_needJob 8 = .ok (.new 207, 3) := by decide +kernel
theorem dX6_needJob_11 : decode cX6_needJob 11 = .ok (.dup, 1) := by decide +kernel
theorem dX6_needJob_12 : decode cX6_needJob 12 = .ok (.ldc_w 316, 3) := by decide +kernel
theorem dX6_needJob_15 : decode cX6_needJob 15 = .ok (.invokespecial 211, 3) := by decide +kernel
theorem dX6_needJob_18 : decode cX6_needJob 18 = .ok (.athrow, 1) := by decide +kernel
theorem dX6_needJob_19 : decode cX6_needJob 19 = .ok (.return_, 1) := by decide +kernel
theorem dX6_needTask_0 : decode cX6_needTask 0 = .ok (.iload_n 1, 1) := by decide +kernel
theorem dX6_needTask_1 : decode cX6_needTask 1 = .ok (.ifCond .lt 14, 3) := by decide +kernel
theorem dX6_needTask_4 : decode cX6_needTask 4 = .ok (.iload_n 1, 1) := by decide +kernel
theorem dX6_needTask_5 : decode cX6_needTask 5 = .ok (.aload_n 0, 1) := by decide +kernel
theorem dX6_needTask_6 : decode cX6_needTask 6 = .ok (.getfield 21, 3) := by decide +kernel
theorem dX6_needTask_9 : decode cX6_needTask 9 = .ok (.getfield 107, 3) := by decide +kernel
theorem dX6_needTask_12 : decode cX6_needTask 12 = .ok (.if_icmp .lt 14, 3) := by decide +kernel
theorem dX6_needTask_15 : decode cX6_needTask 15 = .ok (.new 207, 3) := by decide +kernel
theorem dX6_needTask_18 : decode cX6_needTask 18 = .ok (.dup, 1) := by decide +kernel
theorem dX6_needTask_19 : decode cX6_needTask 19 = .ok (.ldc_w 318, 3) := by decide +kernel
theorem dX6_needTask_22 : decode cX6_needTask 22 = .ok (.invokespecial 211, 3) := by decide +kernel
theorem dX6_needTask_25 : decode cX6_needTask 25 = .ok (.athrow, 1) := by decide +kernel
theorem dX6_needTask_26 : decode cX6_needTask 26 = .ok (.return_, 1) := by decide +kernel
theorem dX6_needWorker_0 : decode cX6_needWorker 0 = .ok (.iload_n 1, 1) := by decide +kernel
theorem dX6_needWorker_1 : decode cX6_needWorker 1 = .ok (.ifCond .lt 14, 3) := by decide +kernel
theorem dX6_needWorker_4 : decode cX6_needWorker 4 = .ok (.iload_n 1, 1) := by decide +kernel
theorem dX6_needWorker_5 : decode cX6_needWorker 5 = .ok (.aload_n 0, 1) := by decide +kernel
theorem dX6_needWorker_6 : decode cX6_needWorker 6 = .ok (.getfield 21, 3) := by decide +kernel
theorem dX6_needWorker_9 : decode cX6_needWorker 9 = .ok (.getfield 84, 3) := by decide +kernel
theorem dX6_needWorker_12 : decode cX6_needWorker 12 = .ok (.if_icmp .lt 14, 3) := by decide +kernel
theorem dX6_needWorker_15 : decode cX6_needWorker 15 = .ok (.new 207, 3) := by decide +kernel
theorem dX6_needWorker_18 : decode cX6_needWorker 18 = .ok (.dup, 1) := by decide +kernel
theorem dX6_needWorker_19 : decode cX6_needWorker 19 = .ok (.ldc_w 320, 3) := by decide +kernel
theorem dX6_needWorker_22 : decode cX6_needWorker 22 = .ok (.invokespecial 211, 3) := by decide +kernel
theorem dX6_needWorker_25 : decode cX6_needWorker 25 = .ok (.athrow, 1) := by decide +kernel
theorem dX6_needWorker_26 : decode cX6_needWorker 26 = .ok (.return_, 1) := by decide +kernel
set_option maxRecDepth 20000 in
theorem ggX6_needRow_X6_needWorker : GoodIn wsX6_needRow wsX6_needWorker := goodIn_ca (goodIn_r _ [5, 6, 7, 8, 9, 10, 11, 12, 13, 14, 15, 16, 17, 18, 19, 20, 21, 22, 23] (by decide +kernel) (by decide +kernel)) (goodIn_sub (fun _ h => List.mem_cons_of_mem _ (List.mem_append_right _ h)) (by decide +kernel))
set_option maxRecDepth 20000 in
theorem gX6_needRow_X6_needWorker : GoodIn wsX6_needRow (wsV RX6 181 RX6 yX6_needWorker wsX6_needWorker) := goodIn_app (goodIn_of _ (by decide +kernel)) ggX6_needRow_X6_needWorker
theorem dX6_needRow_0 : decode cX6_needRow 0 = .ok (.iload_n 1, 1) := by decide +kernel
theorem dX6_needRow_1 : decode cX6_needRow 1 = .ok (.iconst (-1), 1) := by decide +kernel
theorem dX6_needRow_2 : decode cX6_needRow 2 = .ok (.if_icmp .eq 8, 3) := by decide +kernel
theorem dX6_needRow_5 : decode cX6_needRow 5 = .ok (.aload_n 0, 1) := by decide +kernel
theorem dX6_needRow_6 : decode cX6_needRow 6 = .ok (.iload_n 1, 1) := by decide +kernel
theorem dX6_needRow_7 : decode cX6_needRow 7 = .ok (.invokevirtual 181, 3) := by decide +kernel
theorem dX6_needRow_10 : decode cX6_needRow 10 = .ok (.return_, 1) := by decide +kernel
set_option maxRecDepth 20000 in
theorem ggX6_needPromise_X6_isPromise : GoodIn wsX6_needPromise wsX6_isPromise := goodIn_r _ [6] (by decide +kernel) (by decide +kernel)
set_option maxRecDepth 20000 in
theorem gX6_needPromise_X6_isPromise : GoodIn wsX6_needPromise (va_wsS RX6 322 yX6_isPromise wsX6_isPromise) := goodIn_app (goodIn_of _ (by decide +kernel)) ggX6_needPromise_X6_isPromise
theorem dX6_needPromise_0 : decode cX6_needPromise 0 = .ok (.iload_n 0, 1) := by decide +kernel
theorem dX6_needPromise_1 : decode cX6_needPromise 1 = .ok (.invokestatic 322, 3) := by decide +kernel
theorem dX6_needPromise_4 : decode cX6_needPromise 4 = .ok (.ifCond .ne 14, 3) := by decide +kernel
theorem dX6_needPromise_7 : decode cX6_needPromise 7 = .ok (.new 207, 3) := by decide +kernel
theorem dX6_needPromise_10 : decode cX6_needPromise 10 = .ok (.dup, 1) := by decide +kernel
theorem dX6_needPromise_11 : decode cX6_needPromise 11 = .ok (.ldc_w 325, 3) := by decide +kernel
theorem dX6_needPromise_14 : decode cX6_needPromise 14 = .ok (.invokespecial 211, 3) := by decide +kernel
theorem dX6_needPromise_17 : decode cX6_needPromise 17 = .ok (.athrow, 1) := by decide +kernel
theorem dX6_needPromise_18 : decode cX6_needPromise 18 = .ok (.return_, 1) := by decide +kernel
theorem dX6_needWorkerCount_0 : decode cX6_needWorkerCount 0 = .ok (.iload_n 0, 1) := by decide +kernel
theorem dX6_needWorkerCount_1 : decode cX6_needWorkerCount 1 = .ok (.iconst 1, 1) := by decide +kernel
theorem dX6_needWorkerCount_2 : decode cX6_needWorkerCount 2 = .ok (.if_icmp .lt 8, 3) := by decide +kernel
theorem dX6_needWorkerCount_5 : decode cX6_needWorkerCount 5 = .ok (.iload_n 0, 1) := by decide +kernel
theorem dX6_needWorkerCount_6 : decode cX6_needWorkerCount 6 = .ok (.iconst 5, 1) := by decide +kernel
theorem dX6_needWorkerCount_7 : decode cX6_needWorkerCount 7 = .ok (.if_icmp .le 14, 3) := by decide +kernel
theorem dX6_needWorkerCount_10 : decode cX6_needWorkerCount 10 = .ok (.new 51, 3) := by decide +kernel
theorem dX6_needWorkerCount_13 : decode cX6_needWorkerCount 13 = .ok (.dup, 1) := by decide +kernel
theorem dX6_needWorkerCount_14 : decode cX6_needWorkerCount 14 = .ok (.ldc_w 327, 3) := by decide +kernel
theorem dX6_needWorkerCount_17 : decode cX6_needWorkerCount 17 = .ok (.invokespecial 55, 3) := by decide +kernel
theorem dX6_needWorkerCount_20 : decode cX6_needWorkerCount 20 = .ok (.athrow, 1) := by decide +kernel
theorem dX6_needWorkerCount_21 : decode cX6_needWorkerCount 21 = .ok (.return_, 1) := by decide +kernel
theorem dX6_needWay_0 : decode cX6_needWay 0 = .ok (.iload_n 0, 1) := by decide +kernel
theorem dX6_needWay_1 : decode cX6_needWay 1 = .ok (.ifCond .lt 8, 3) := by decide +kernel
theorem dX6_needWay_4 : decode cX6_needWay 4 = .ok (.iload_n 0, 1) := by decide +kernel
theorem dX6_needWay_5 : decode cX6_needWay 5 = .ok (.iconst 2, 1) := by decide +kernel
theorem dX6_needWay_6 : decode cX6_needWay 6 = .ok (.if_icmp .le 14, 3) := by decide +kernel
theorem dX6_needWay_9 : decode cX6_needWay 9 = .ok (.new 51, 3) := by decide +kernel
theorem dX6_needWay_12 : decode cX6_needWay 12 = .ok (.dup, 1) := by decide +kernel
theorem dX6_needWay_13 : decode cX6_needWay 13 = .ok (.ldc_w 329, 3) := by decide +kernel
theorem dX6_needWay_16 : decode cX6_needWay 16 = .ok (.invokespecial 55, 3) := by decide +kernel
theorem dX6_needWay_19 : decode cX6_needWay 19 = .ok (.athrow, 1) := by decide +kernel
theorem dX6_needWay_20 : decode cX6_needWay 20 = .ok (.return_, 1) := by decide +kernel
theorem dX6_needTicksAhead_0 : decode cX6_needTicksAhead 0 = .ok (.iload_n 0, 1) := by decide +kernel
theorem dX6_needTicksAhead_1 : decode cX6_needTicksAhead 1 = .ok (.iconst 1, 1) := by decide +kernel
theorem dX6_needTicksAhead_2 : decode cX6_needTicksAhead 2 = .ok (.if_icmp .lt 9, 3) := by decide +kernel
theorem dX6_needTicksAhead_5 : decode cX6_needTicksAhead 5 = .ok (.iload_n 0, 1) := by decide +kernel
theorem dX6_needTicksAhead_6 : decode cX6_needTicksAhead 6 = .ok (.bipush 60, 2) := by decide +kernel
theorem dX6_needTicksAhead_8 : decode cX6_needTicksAhead 8 = .ok (.if_icmp .le 14, 3) := by decide +kernel
theorem dX6_needTicksAhead_11 : decode cX6_needTicksAhead 11 = .ok (.new 51, 3) := by decide +kernel
theorem dX6_needTicksAhead_14 : decode cX6_needTicksAhead 14 = .ok (.dup, 1) := by decide +kernel
theorem dX6_needTicksAhead_15 : decode cX6_needTicksAhead 15 = .ok (.ldc_w 331, 3) := by decide +kernel
theorem dX6_needTicksAhead_18 : decode cX6_needTicksAhead 18 = .ok (.invokespecial 55, 3) := by decide +kernel
theorem dX6_needTicksAhead_21 : decode cX6_needTicksAhead 21 = .ok (.athrow, 1) := by decide +kernel
theorem dX6_needTicksAhead_22 : decode cX6_needTicksAhead 22 = .ok (.return_, 1) := by decide +kernel
theorem dX6_isJob_0 : decode cX6_isJob 0 = .ok (.iload_n 1, 1) := by decide +kernel
theorem dX6_isJob_1 : decode cX6_isJob 1 = .ok (.ifCond .lt 18, 3) := by decide +kernel
theorem dX6_isJob_4 : decode cX6_isJob 4 = .ok (.iload_n 1, 1) := by decide +kernel
theorem dX6_isJob_5 : decode cX6_isJob 5 = .ok (.aload_n 0, 1) := by decide +kernel
theorem dX6_isJob_6 : decode cX6_isJob 6 = .ok (.getfield 10, 3) := by decide +kernel
theorem dX6_isJob_9 : decode cX6_isJob 9 = .ok (.getfield 28, 3) := by decide +kernel
theorem dX6_isJob_12 : decode cX6_isJob 12 = .ok (.if_icmp .ge 7, 3) := by decide +kernel
theorem dX6_isJob_15 : decode cX6_isJob 15 = .ok (.iconst 1, 1) := by decide +kernel
theorem dX6_isJob_16 : decode cX6_isJob 16 = .ok (.goto 4, 3) := by decide +kernel
theorem dX6_isJob_19 : decode cX6_isJob 19 = .ok (.iconst 0, 1) := by decide +kernel
theorem dX6_isJob_20 : decode cX6_isJob 20 = .ok (.ireturn, 1) := by decide +kernel
theorem dX6_isPromise_0 : decode cX6_isPromise 0 = .ok (.iload_n 0, 1) := by decide +kernel
theorem dX6_isPromise_1 : decode cX6_isPromise 1 = .ok (.ifCond .lt 13, 3) := by decide +kernel
theorem dX6_isPromise_4 : decode cX6_isPromise 4 = .ok (.iload_n 0, 1) := by decide +kernel
theorem dX6_isPromise_5 : decode cX6_isPromise 5 = .ok (.bipush 6, 2) := by decide +kernel
theorem dX6_isPromise_7 : decode cX6_isPromise 7 = .ok (.if_icmp .ge 7, 3) := by decide +kernel
theorem dX6_isPromise_10 : decode cX6_isPromise 10 = .ok (.iconst 1, 1) := by decide +kernel
theorem dX6_isPromise_11 : decode cX6_isPromise 11 = .ok (.goto 4, 3) := by decide +kernel
theorem dX6_isPromise_14 : decode cX6_isPromise 14 = .ok (.iconst 0, 1) := by decide +kernel
theorem dX6_isPromise_15 : decode cX6_isPromise 15 = .ok (.ireturn, 1) := by decide +kernel
set_option maxRecDepth 20000 in
theorem ggX6_isStep_X6_isJob : GoodIn wsX6_isStep wsX6_isJob := goodIn_r _ [5, 6, 10, 11, 12, 13, 14, 15] (by decide +kernel) (by decide +kernel)
set_option maxRecDepth 20000 in
theorem gX6_isStep_X6_isJob : GoodIn wsX6_isStep (wsV RX6 313 RX6 yX6_isJob wsX6_isJob) := goodIn_app (goodIn_of _ (by decide +kernel)) ggX6_isStep_X6_isJob
set_option maxRecDepth 20000 in
theorem ggX6_isStep_X6_isPromise : GoodIn wsX6_isStep wsX6_isPromise := goodIn_r _ [9] (by decide +kernel) (by decide +kernel)
set_option maxRecDepth 20000 in
theorem gX6_isStep_X6_isPromise : GoodIn wsX6_isStep (va_wsS RX6 322 yX6_isPromise wsX6_isPromise) := goodIn_app (goodIn_of _ (by decide +kernel)) ggX6_isStep_X6_isPromise
theorem dX6_isStep_0 : decode cX6_isStep 0 = .ok (.iload_n 1, 1) := by decide +kernel
theorem dX6_isStep_1 : decode cX6_isStep 1 = .ok (.tableswitch 101 0 9 #[55, 72, 101, 101, 101, 78, 101, 101, 96, 96], 55) := by decide +kernel
theorem dX6_isStep_56 : decode cX6_isStep 56 = .ok (.iload_n 2, 1) := by decide +kernel
theorem dX6_isStep_57 : decode cX6_isStep 57 = .ok (.iconst 1, 1) := by decide +kernel
theorem dX6_isStep_58 : decode cX6_isStep 58 = .ok (.if_icmp .lt 13, 3) := by decide +kernel
theorem dX6_isStep_61 : decode cX6_isStep 61 = .ok (.iload_n 2, 1) := by decide +kernel
theorem dX6_isStep_62 : decode cX6_isStep 62 = .ok (.bipush 20, 2) := by decide +kernel
theorem dX6_isStep_64 : decode cX6_isStep 64 = .ok (.if_icmp .gt 7, 3) := by decide +kernel
theorem dX6_isStep_67 : decode cX6_isStep 67 = .ok (.iconst 1, 1) := by decide +kernel
theorem dX6_isStep_68 : decode cX6_isStep 68 = .ok (.goto 4, 3) := by decide +kernel
theorem dX6_isStep_71 : decode cX6_isStep 71 = .ok (.iconst 0, 1) := by decide +kernel
theorem dX6_isStep_72 : decode cX6_isStep 72 = .ok (.ireturn, 1) := by decide +kernel
theorem dX6_isStep_73 : decode cX6_isStep 73 = .ok (.aload_n 0, 1) := by decide +kernel
theorem dX6_isStep_74 : decode cX6_isStep 74 = .ok (.iload_n 2, 1) := by decide +kernel
theorem dX6_isStep_75 : decode cX6_isStep 75 = .ok (.invokevirtual 313, 3) := by decide +kernel
theorem dX6_isStep_78 : decode cX6_isStep 78 = .ok (.ireturn, 1) := by decide +kernel
theorem dX6_isStep_79 : decode cX6_isStep 79 = .ok (.iload_n 2, 1) := by decide +kernel
theorem dX6_isStep_80 : decode cX6_isStep 80 = .ok (.bipush (-100), 2) := by decide +kernel
theorem dX6_isStep_82 : decode cX6_isStep 82 = .ok (.if_icmp .lt 13, 3) := by decide +kernel
theorem dX6_isStep_85 : decode cX6_isStep 85 = .ok (.iload_n 2, 1) := by decide +kernel
theorem dX6_isStep_86 : decode cX6_isStep 86 = .ok (.bipush 100, 2) := by decide +kernel
theorem dX6_isStep_88 : decode cX6_isStep 88 = .ok (.if_icmp .gt 7, 3) := by decide +kernel
theorem dX6_isStep_91 : decode cX6_isStep 91 = .ok (.iconst 1, 1) := by decide +kernel
theorem dX6_isStep_92 : decode cX6_isStep 92 = .ok (.goto 4, 3) := by decide +kernel
theorem dX6_isStep_95 : decode cX6_isStep 95 = .ok (.iconst 0, 1) := by decide +kernel
theorem dX6_isStep_96 : decode cX6_isStep 96 = .ok (.ireturn, 1) := by decide +kernel
theorem dX6_isStep_97 : decode cX6_isStep 97 = .ok (.iload_n 2, 1) := by decide +kernel
theorem dX6_isStep_98 : decode cX6_isStep 98 = .ok (.invokestatic 322, 3) := by decide +kernel
theorem dX6_isStep_101 : decode cX6_isStep 101 = .ok (.ireturn, 1) := by decide +kernel
theorem dX6_isStep_102 : decode cX6_isStep 102 = .ok (.iload_n 1, 1) := by decide +kernel
theorem dX6_isStep_103 : decode cX6_isStep 103 = .ok (.ifCond .lt 13, 3) := by decide +kernel
theorem dX6_isStep_106 : decode cX6_isStep 106 = .ok (.iload_n 1, 1) := by decide +kernel
theorem dX6_isStep_107 : decode cX6_isStep 107 = .ok (.bipush 9, 2) := by decide +kernel
theorem dX6_isStep_109 : decode cX6_isStep 109 = .ok (.if_icmp .gt 7, 3) := by decide +kernel
theorem dX6_isStep_112 : decode cX6_isStep 112 = .ok (.iconst 1, 1) := by decide +kernel
theorem dX6_isStep_113 : decode cX6_isStep 113 = .ok (.goto 4, 3) := by decide +kernel
theorem dX6_isStep_116 : decode cX6_isStep 116 = .ok (.iconst 0, 1) := by decide +kernel
theorem dX6_isStep_117 : decode cX6_isStep 117 = .ok (.ireturn, 1) := by decide +kernel
