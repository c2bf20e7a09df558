set_option maxRecDepth 20000 in
theorem ggX10_addStep_X10_isNoJob : GoodIn wsX10_addStep wsX10_isNoJob := goodIn_r _ [8, 1, 9, 10, 11, 12, 13, 14, 15, 16, 7, 17, 109, 110, 111, 112, 113, 114] (by decide +kernel) (by decide +kernel)
set_option maxRecDepth 20000 in
theorem gX10_addStep_X10_isNoJob : GoodIn wsX10_addStep (wsV RX10 68 RX10 yX10_isNoJob wsX10_isNoJob) := goodIn_app (goodIn_of _ (by decide +kernel)) ggX10_addStep_X10_isNoJob
set_option maxRecDepth 20000 in
theorem ggX10_addStep_X10_start : GoodIn wsX10_addStep wsX10_start := goodIn_r _ [21, 22, 23, 24, 25, 7, 26, 109, 110, 111] (by decide +kernel) (by decide +kernel)
set_option maxRecDepth 20000 in
theorem gX10_addStep_X10_start : GoodIn wsX10_addStep (wsV RX10 49 RX10 yX10_start wsX10_start) := goodIn_app (goodIn_of _ (by decide +kernel)) ggX10_addStep_X10_start
set_option maxRecDepth 20000 in
theorem ggX10_addStep_X10_refuse : GoodIn wsX10_addStep wsX10_refuse := goodIn_r _ [26, 22, 109, 110, 111] (by decide +kernel) (by decide +kernel)
set_option maxRecDepth 20000 in
theorem gX10_addStep_X10_refuse : GoodIn wsX10_addStep (wsV RX10 45 RX10 yX10_refuse wsX10_refuse) := goodIn_app (goodIn_of _ (by decide +kernel)) ggX10_addStep_X10_refuse
set_option maxRecDepth 20000 in
theorem ggX10_addStep_Jx4a65c_get_915e3 : GoodIn wsX10_addStep wsJx4a65c_get_915e3 := goodIn_r _ [34, 14, 35, 36, 37, 38, 39, 40, 41, 42, 43, 44, 45, 12, 46, 47, 112, 113, 114] (by decide +kernel) (by decide +kernel)
set_option maxRecDepth 20000 in
theorem gX10_addStep_Jx4a65c_get_915e3 : GoodIn wsX10_addStep (wsV RX10 7 RJx4a65c yJx4a65c_get_915e3 wsJx4a65c_get_915e3) := goodIn_app (goodIn_of _ (by decide +kernel)) ggX10_addStep_Jx4a65c_get_915e3
set_option maxRecDepth 20000 in
theorem ggX10_addStep_Jx4a65c_size_8abf5 : GoodIn wsX10_addStep wsJx4a65c_size_8abf5 := goodIn_r _ [13, 14, 112, 113, 114] (by decide +kernel) (by decide +kernel)
set_option maxRecDepth 20000 in
theorem gX10_addStep_Jx4a65c_size_8abf5 : GoodIn wsX10_addStep (wsV RX10 1 RJx4a65c yJx4a65c_size_8abf5 wsJx4a65c_size_8abf5) := goodIn_app (goodIn_of _ (by decide +kernel)) ggX10_addStep_Jx4a65c_size_8abf5
set_option maxRecDepth 20000 in
theorem ggX10_addStep_Jx4a65c_add_9ea2d : GoodIn wsX10_addStep wsJx4a65c_add_9ea2d := goodIn_r _ [59, 60, 61, 47, 14, 62, 63, 64, 12, 65, 66, 67, 68, 69, 70, 71, 72, 73, 74, 75, 76, 77, 78, 79, 80, 81, 82, 83, 84, 85, 86, 87, 88, 89, 90, 91, 92, 93, 94, 95, 96, 97, 98, 99, 100, 101, 102, 103, 104, 105, 106, 107, 108, 112, 113, 114] (by decide +kernel) (by decide +kernel)
set_option maxRecDepth 20000 in
theorem gX10_addStep_Jx4a65c_add_9ea2d : GoodIn wsX10_addStep (wsV RX10 52 RJx4a65c yJx4a65c_add_9ea2d wsJx4a65c_add_9ea2d) := goodIn_app (goodIn_of _ (by decide +kernel)) ggX10_addStep_Jx4a65c_add_9ea2d
theorem dX10_addStep_0 : decode cX10_addStep 0 = .ok (.aload_n 0, 1) := by decide +kernel
theorem dX10_addStep_1 : decode cX10_addStep 1 = .ok (.aload_n 0, 1) := by decide +kernel
theorem dX10_addStep_2 : decode cX10_addStep 2 = .ok (.iload_n 1, 1) := by decide +kernel
theorem dX10_addStep_3 : decode cX10_addStep 3 = .ok (.invokevirtual 68, 3) := by decide +kernel
theorem dX10_addStep_6 : decode cX10_addStep 6 = .ok (.iconst 1, 1) := by decide +kernel
theorem dX10_addStep_7 : decode cX10_addStep 7 = .ok (.invokevirtual 49, 3) := by decide +kernel
theorem dX10_addStep_10 : decode cX10_addStep 10 = .ok (.ifCond .ne 57, 3) := by decide +kernel
theorem dX10_addStep_13 : decode cX10_addStep 13 = .ok (.aload_n 0, 1) := by decide +kernel
theorem dX10_addStep_14 : decode cX10_addStep 14 = .ok (.aload_n 0, 1) := by decide +kernel
theorem dX10_addStep_15 : decode cX10_addStep 15 = .ok (.iload_n 2, 1) := by decide +kernel
theorem dX10_addStep_16 : decode cX10_addStep 16 = .ok (.iload_n 3, 1) := by decide +kernel
theorem dX10_addStep_17 : decode cX10_addStep 17 = .ok (.invokevirtual 72, 3) := by decide +kernel
theorem dX10_addStep_20 : decode cX10_addStep 20 = .ok (.iconst 2, 1) := by decide +kernel
theorem dX10_addStep_21 : decode cX10_addStep 21 = .ok (.invokevirtual 45, 3) := by decide +kernel
theorem dX10_addStep_24 : decode cX10_addStep 24 = .ok (.ifCond .ne 43, 3) := by decide +kernel
theorem dX10_addStep_27 : decode cX10_addStep 27 = .ok (.aload_n 0, 1) := by decide +kernel
theorem dX10_addStep_28 : decode cX10_addStep 28 = .ok (.aload_n 0, 1) := by decide +kernel
theorem dX10_addStep_29 : decode cX10_addStep 29 = .ok (.getfield 26, 3) := by decide +kernel
theorem dX10_addStep_32 : decode cX10_addStep 32 = .ok (.iload_n 1, 1) := by decide +kernel
theorem dX10_addStep_33 : decode cX10_addStep 33 = .ok (.invokevirtual 7, 3) := by decide +kernel
theorem dX10_addStep_36 : decode cX10_addStep 36 = .ok (.checkcast 2, 3) := by decide +kernel
theorem dX10_addStep_39 : decode cX10_addStep 39 = .ok (.invokevirtual 1, 3) := by decide +kernel
theorem dX10_addStep_42 : decode cX10_addStep 42 = .ok (.bipush 12, 2) := by decide +kernel
theorem dX10_addStep_44 : decode cX10_addStep 44 = .ok (.if_icmp .eq 11, 3) := by decide +kernel
theorem dX10_addStep_47 : decode cX10_addStep 47 = .ok (.aload_n 0, 1) := by decide +kernel
theorem dX10_addStep_48 : decode cX10_addStep 48 = .ok (.iload_n 1, 1) := by decide +kernel
theorem dX10_addStep_49 : decode cX10_addStep 49 = .ok (.invokevirtual 76, 3) := by decide +kernel
theorem dX10_addStep_52 : decode cX10_addStep 52 = .ok (.ifCond .eq 7, 3) := by decide +kernel
theorem dX10_addStep_55 : decode cX10_addStep 55 = .ok (.iconst 1, 1) := by decide +kernel
theorem dX10_addStep_56 : decode cX10_addStep 56 = .ok (.goto 4, 3) := by decide +kernel
theorem dX10_addStep_59 : decode cX10_addStep 59 = .ok (.iconst 0, 1) := by decide +kernel
theorem dX10_addStep_60 : decode cX10_addStep 60 = .ok (.iconst 3, 1) := by decide +kernel
theorem dX10_addStep_61 : decode cX10_addStep 61 = .ok (.invokevirtual 45, 3) := by decide +kernel
theorem dX10_addStep_64 : decode cX10_addStep 64 = .ok (.ifCond .eq 5, 3) := by decide +kernel
theorem dX10_addStep_67 : decode cX10_addStep 67 = .ok (.iconst 0, 1) := by decide +kernel
theorem dX10_addStep_68 : decode cX10_addStep 68 = .ok (.ireturn, 1) := by decide +kernel
theorem dX10_addStep_69 : decode cX10_addStep 69 = .ok (.aload_n 0, 1) := by decide +kernel
theorem dX10_addStep_70 : decode cX10_addStep 70 = .ok (.getfield 26, 3) := by decide +kernel
theorem dX10_addStep_73 : decode cX10_addStep 73 = .ok (.iload_n 1, 1) := by decide +kernel
theorem dX10_addStep_74 : decode cX10_addStep 74 = .ok (.invokevirtual 7, 3) := by decide +kernel
theorem dX10_addStep_77 : decode cX10_addStep 77 = .ok (.checkcast 2, 3) := by decide +kernel
theorem dX10_addStep_80 : decode cX10_addStep 80 = .ok (.iconst 2, 1) := by decide +kernel
theorem dX10_addStep_81 : decode cX10_addStep 81 = .ok (.newarray .int, 2) := by decide +kernel
theorem dX10_addStep_83 : decode cX10_addStep 83 = .ok (.dup, 1) := by decide +kernel
theorem dX10_addStep_84 : decode cX10_addStep 84 = .ok (.iconst 0, 1) := by decide +kernel
theorem dX10_addStep_85 : decode cX10_addStep 85 = .ok (.iload_n 2, 1) := by decide +kernel
theorem dX10_addStep_86 : decode cX10_addStep 86 = .ok (.iastore, 1) := by decide +kernel
theorem dX10_addStep_87 : decode cX10_addStep 87 = .ok (.dup, 1) := by decide +kernel
theorem dX10_addStep_88 : decode cX10_addStep 88 = .ok (.iconst 1, 1) := by decide +kernel
theorem dX10_addStep_89 : decode cX10_addStep 89 = .ok (.iload_n 3, 1) := by decide +kernel
theorem dX10_addStep_90 : decode cX10_addStep 90 = .ok (.iastore, 1) := by decide +kernel
theorem dX10_addStep_91 : decode cX10_addStep 91 = .ok (.invokevirtual 52, 3) := by decide +kernel
theorem dX10_addStep_94 : decode cX10_addStep 94 = .ok (.pop, 1) := by decide +kernel
theorem dX10_addStep_95 : decode cX10_addStep 95 = .ok (.aload_n 0, 1) := by decide +kernel
theorem dX10_addStep_96 : decode cX10_addStep 96 = .ok (.getfield 26, 3) := by decide +kernel
theorem dX10_addStep_99 : decode cX10_addStep 99 = .ok (.iload_n 1, 1) := by decide +kernel
theorem dX10_addStep_100 : decode cX10_addStep 100 = .ok (.invokevirtual 7, 3) := by decide +kernel
theorem dX10_addStep_103 : decode cX10_addStep 103 = .ok (.checkcast 2, 3) := by decide +kernel
theorem dX10_addStep_106 : decode cX10_addStep 106 = .ok (.invokevirtual 1, 3) := by decide +kernel
theorem dX10_addStep_109 : decode cX10_addStep 109 = .ok (.ireturn, 1) := by decide +kernel
set_option maxRecDepth 20000 in
theorem ggX10_setWorkers_X10_isIn : GoodIn wsX10_setWorkers wsX10_isIn := goodIn_r _ [9] (by decide +kernel) (by decide +kernel)
set_option maxRecDepth 20000 in
theorem gX10_setWorkers_X10_isIn : GoodIn wsX10_setWorkers (va_wsS RX10 56 yX10_isIn wsX10_isIn) := goodIn_app (goodIn_of _ (by decide +kernel)) ggX10_setWorkers_X10_isIn
set_option maxRecDepth 20000 in
theorem ggX10_setWorkers_X10_start : GoodIn wsX10_setWorkers wsX10_start := goodIn_r _ [13, 14, 15, 16, 17, 8, 18, 149, 150, 151] (by decide +kernel) (by decide +kernel)
set_option maxRecDepth 20000 in
theorem gX10_setWorkers_X10_start : GoodIn wsX10_setWorkers (wsV RX10 49 RX10 yX10_start wsX10_start) := goodIn_app (goodIn_of _ (by decide +kernel)) ggX10_setWorkers_X10_start
set_option maxRecDepth 20000 in
theorem ggX10_setWorkers_Jx4a65c_size_8abf5 : GoodIn wsX10_setWorkers wsJx4a65c_size_8abf5 := goodIn_r _ [23, 24, 164, 165, 166] (by decide +kernel) (by decide +kernel)
set_option maxRecDepth 20000 in
theorem gX10_setWorkers_Jx4a65c_size_8abf5 : GoodIn wsX10_setWorkers (wsV RX10 1 RJx4a65c yJx4a65c_size_8abf5 wsJx4a65c_size_8abf5) := goodIn_app (goodIn_of _ (by decide +kernel)) ggX10_setWorkers_Jx4a65c_size_8abf5
set_option maxRecDepth 20000 in
theorem ggX10_setWorkers_X10_refuse : GoodIn wsX10_setWorkers wsX10_refuse := goodIn_r _ [18, 14, 149, 150, 151] (by decide +kernel) (by decide +kernel)
set_option maxRecDepth 20000 in
theorem gX10_setWorkers_X10_refuse : GoodIn wsX10_setWorkers (wsV RX10 45 RX10 yX10_refuse wsX10_refuse) := goodIn_app (goodIn_of _ (by decide +kernel)) ggX10_setWorkers_X10_refuse
set_option maxRecDepth 20000 in
theorem ggX10_setWorkers_Jx4a65c_remove_915e3 : GoodIn wsX10_setWorkers wsJx4a65c_remove_915e3 := goodIn_r _ [65, 24, 51, 39, 40, 41, 42, 43, 44, 45, 46, 66, 67, 68, 22, 69, 70, 71, 72, 73, 74, 75, 164, 165, 166] (by decide +kernel) (by decide +kernel)
set_option maxRecDepth 20000 in
theorem gX10_setWorkers_Jx4a65c_remove_915e3 : GoodIn wsX10_setWorkers (wsV RX10 16 RJx4a65c yJx4a65c_remove_915e3 wsJx4a65c_remove_915e3) := goodIn_app (goodIn_of _ (by decide +kernel)) ggX10_setWorkers_Jx4a65c_remove_915e3
set_option maxRecDepth 20000 in
theorem ggX10_setWorkers_X9_init : GoodIn wsX10_setWorkers wsX9_init := goodIn_r _ [77, 78, 79, 80, 81, 82, 22, 83, 84, 85, 86, 87, 88, 89, 90, 91, 51, 92, 93, 94, 95, 96, 97, 98, 99, 100, 101, 164, 165, 166, 160, 161, 162, 163] (by decide +kernel) (by decide +kernel)
set_option maxRecDepth 20000 in
theorem gX10_setWorkers_X9_init_n103 : GoodIn wsX10_setWorkers (wsX9_init) := ggX10_setWorkers_X9_init
set_option maxRecDepth 20000 in
theorem ggX10_setWorkers_Jx4a65c_add_9ea2d : GoodIn wsX10_setWorkers wsJx4a65c_add_9ea2d := goodIn_r _ [105, 70, 71, 51, 24, 106, 107, 108, 22, 109, 110, 111, 112, 113, 114, 115, 116, 117, 91, 118, 119, 120, 121, 122, 123, 124, 125, 126, 127, 128, 129, 130, 131, 132, 133, 134, 135, 136, 137, 138, 139, 140, 141, 142, 143, 144, 145, 146, 147, 148, 73, 74, 75, 164, 165, 166] (by decide +kernel) (by decide +kernel)
set_option maxRecDepth 20000 in
theorem gX10_setWorkers_Jx4a65c_add_9ea2d : GoodIn wsX10_setWorkers (wsV RX10 52 RJx4a65c yJx4a65c_add_9ea2d wsJx4a65c_add_9ea2d) := goodIn_app (goodIn_of _ (by decide +kernel)) ggX10_setWorkers_Jx4a65c_add_9ea2d
theorem dX10_setWorkers_0 : decode cX10_setWorkers 0 = .ok (.aload_n 0, 1) := by decide +kernel
theorem dX10_setWorkers_1 : decode cX10_setWorkers 1 = .ok (.iload_n 1, 1) := by decide +kernel
theorem dX10_setWorkers_2 : decode cX10_setWorkers 2 = .ok (.iconst 1, 1) := by decide +kernel
theorem dX10_setWorkers_3 : decode cX10_setWorkers 3 = .ok (.iconst 5, 1) := by decide +kernel
theorem dX10_setWorkers_4 : decode cX10_setWorkers 4 = .ok (.invokestatic 56, 3) := by decide +kernel
theorem dX10_setWorkers_7 : decode cX10_setWorkers 7 = .ok (.ifCond .ne 7, 3) := by decide +kernel
theorem dX10_setWorkers_10 : decode cX10_setWorkers 10 = .ok (.iconst 1, 1) := by decide +kernel
theorem dX10_setWorkers_11 : decode cX10_setWorkers 11 = .ok (.goto 4, 3) := by decide +kernel
theorem dX10_setWorkers_14 : decode cX10_setWorkers 14 = .ok (.iconst 0, 1) := by decide +kernel
theorem dX10_setWorkers_15 : decode cX10_setWorkers 15 = .ok (.iconst 1, 1) := by decide +kernel
theorem dX10_setWorkers_16 : decode cX10_setWorkers 16 = .ok (.invokevirtual 49, 3) := by decide +kernel
theorem dX10_setWorkers_19 : decode cX10_setWorkers 19 = .ok (.ifCond .eq 5, 3) := by decide +kernel
theorem dX10_setWorkers_22 : decode cX10_setWorkers 22 = .ok (.iconst 0, 1) := by decide +kernel
theorem dX10_setWorkers_23 : decode cX10_setWorkers 23 = .ok (.ireturn, 1) := by decide +kernel
theorem dX10_setWorkers_24 : decode cX10_setWorkers 24 = .ok (.aload_n 0, 1) := by decide +kernel
theorem dX10_setWorkers_25 : decode cX10_setWorkers 25 = .ok (.getfield 37, 3) := by decide +kernel
theorem dX10_setWorkers_28 : decode cX10_setWorkers 28 = .ok (.getfield 79, 3) := by decide +kernel
theorem dX10_setWorkers_31 : decode cX10_setWorkers 31 = .ok (.invokevirtual 1, 3) := by decide +kernel
theorem dX10_setWorkers_34 : decode cX10_setWorkers 34 = .ok (.istore_n 2, 1) := by decide +kernel
theorem dX10_setWorkers_35 : decode cX10_setWorkers 35 = .ok (.iload_n 1, 1) := by decide +kernel
theorem dX10_setWorkers_36 : decode cX10_setWorkers 36 = .ok (.istore_n 3, 1) := by decide +kernel
theorem dX10_setWorkers_37 : decode cX10_setWorkers 37 = .ok (.iload_n 3, 1) := by decide +kernel
theorem dX10_setWorkers_38 : decode cX10_setWorkers 38 = .ok (.iload_n 2, 1) := by decide +kernel
theorem dX10_setWorkers_39 : decode cX10_setWorkers 39 = .ok (.if_icmp .ge 24, 3) := by decide +kernel
theorem dX10_setWorkers_42 : decode cX10_setWorkers 42 = .ok (.aload_n 0, 1) := by decide +kernel
theorem dX10_setWorkers_43 : decode cX10_setWorkers 43 = .ok (.aload_n 0, 1) := by decide +kernel
theorem dX10_setWorkers_44 : decode cX10_setWorkers 44 = .ok (.iload_n 3, 1) := by decide +kernel
theorem dX10_setWorkers_45 : decode cX10_setWorkers 45 = .ok (.invokevirtual 100, 3) := by decide +kernel
theorem dX10_setWorkers_48 : decode cX10_setWorkers 48 = .ok (.iconst 2, 1) := by decide +kernel
theorem dX10_setWorkers_49 : decode cX10_setWorkers 49 = .ok (.invokevirtual 45, 3) := by decide +kernel
theorem dX10_setWorkers_52 : decode cX10_setWorkers 52 = .ok (.ifCond .eq 5, 3) := by decide +kernel
theorem dX10_setWorkers_55 : decode cX10_setWorkers 55 = .ok (.iconst 0, 1) := by decide +kernel
theorem dX10_setWorkers_56 : decode cX10_setWorkers 56 = .ok (.ireturn, 1) := by decide +kernel
theorem dX10_setWorkers_57 : decode cX10_setWorkers 57 = .ok (.iinc 3 1, 3) := by decide +kernel
theorem dX10_setWorkers_60 : decode cX10_setWorkers 60 = .ok (.goto (-23), 3) := by decide +kernel
theorem dX10_setWorkers_63 : decode cX10_setWorkers 63 = .ok (.aload_n 0, 1) := by decide +kernel
theorem dX10_setWorkers_64 : decode cX10_setWorkers 64 = .ok (.getfield 37, 3) := by decide +kernel
theorem dX10_setWorkers_67 : decode cX10_setWorkers 67 = .ok (.getfield 79, 3) := by decide +kernel
theorem dX10_setWorkers_70 : decode cX10_setWorkers 70 = .ok (.invokevirtual 1, 3) := by decide +kernel
theorem dX10_setWorkers_73 : decode cX10_setWorkers 73 = .ok (.iload_n 1, 1) := by decide +kernel
theorem dX10_setWorkers_74 : decode cX10_setWorkers 74 = .ok (.if_icmp .le 29, 3) := by decide +kernel
theorem dX10_setWorkers_77 : decode cX10_setWorkers 77 = .ok (.aload_n 0, 1) := by decide +kernel
theorem dX10_setWorkers_78 : decode cX10_setWorkers 78 = .ok (.getfield 37, 3) := by decide +kernel
theorem dX10_setWorkers_81 : decode cX10_setWorkers 81 = .ok (.getfield 79, 3) := by decide +kernel
theorem dX10_setWorkers_84 : decode cX10_setWorkers 84 = .ok (.aload_n 0, 1) := by decide +kernel
theorem dX10_setWorkers_85 : decode cX10_setWorkers 85 = .ok (.getfield 37, 3) := by decide +kernel
theorem dX10_setWorkers_88 : decode cX10_setWorkers 88 = .ok (.getfield 79, 3) := by decide +kernel
theorem dX10_setWorkers_91 : decode cX10_setWorkers 91 = .ok (.invokevirtual 1, 3) := by decide +kernel
theorem dX10_setWorkers_94 : decode cX10_setWorkers 94 = .ok (.iconst 1, 1) := by decide +kernel
theorem dX10_setWorkers_95 : decode cX10_setWorkers 95 = .ok (.isub, 1) := by decide +kernel
theorem dX10_setWorkers_96 : decode cX10_setWorkers 96 = .ok (.invokevirtual 16, 3) := by decide +kernel
theorem dX10_setWorkers_99 : decode cX10_setWorkers 99 = .ok (.pop, 1) := by decide +kernel
theorem dX10_setWorkers_100 : decode cX10_setWorkers 100 = .ok (.goto (-37), 3) := by decide +kernel
theorem dX10_setWorkers_103 : decode cX10_setWorkers 103 = .ok (.aload_n 0, 1) := by decide +kernel
theorem dX10_setWorkers_104 : decode cX10_setWorkers 104 = .ok (.getfield 37, 3) := by decide +kernel
theorem dX10_setWorkers_107 : decode cX10_setWorkers 107 = .ok (.getfield 79, 3) := by decide +kernel
theorem dX10_setWorkers_110 : decode cX10_setWorkers 110 = .ok (.invokevirtual 1, 3) := by decide +kernel
theorem dX10_setWorkers_113 : decode cX10_setWorkers 113 = .ok (.iload_n 1, 1) := by decide +kernel
theorem dX10_setWorkers_114 : decode cX10_setWorkers 114 = .ok (.if_icmp .ge 24, 3) := by decide +kernel
theorem dX10_setWorkers_117 : decode cX10_setWorkers 117 = .ok (.aload_n 0, 1) := by decide +kernel
theorem dX10_setWorkers_118 : decode cX10_setWorkers 118 = .ok (.getfield 37, 3) := by decide +kernel
theorem dX10_setWorkers_121 : decode cX10_setWorkers 121 = .ok (.getfield 79, 3) := by decide +kernel
theorem dX10_setWorkers_124 : decode cX10_setWorkers 124 = .ok (.new 82, 3) := by decide +kernel
theorem dX10_setWorkers_127 : decode cX10_setWorkers 127 = .ok (.dup, 1) := by decide +kernel
theorem dX10_setWorkers_128 : decode cX10_setWorkers 128 = .ok (.invokespecial 103, 3) := by decide +kernel
theorem dX10_setWorkers_131 : decode cX10_setWorkers 131 = .ok (.invokevirtual 52, 3) := by decide +kernel
theorem dX10_setWorkers_134 : decode cX10_setWorkers 134 = .ok (.pop, 1) := by decide +kernel
theorem dX10_setWorkers_135 : decode cX10_setWorkers 135 = .ok (.goto (-32), 3) := by decide +kernel
theorem dX10_setWorkers_138 : decode cX10_setWorkers 138 = .ok (.iload_n 2, 1) := by decide +kernel
theorem dX10_setWorkers_139 : decode cX10_setWorkers 139 = .ok (.ireturn, 1) := by decide +kernel
set_option maxRecDepth 20000 in
theorem ggX10_setWay_Jx4a65c_size_8abf5 : GoodIn wsX10_setWay wsJx4a65c_size_8abf5 := goodIn_r _ [11, 12, 62, 63, 64] (by decide +kernel) (by decide +kernel)
set_option maxRecDepth 20000 in
theorem gX10_setWay_Jx4a65c_size_8abf5 : GoodIn wsX10_setWay (wsV RX10 1 RJx4a65c yJx4a65c_size_8abf5 wsJx4a65c_size_8abf5) := goodIn_app (goodIn_of _ (by decide +kernel)) ggX10_setWay_Jx4a65c_size_8abf5
set_option maxRecDepth 20000 in
theorem ggX10_setWay_Jx4a65c_get_915e3 : GoodIn wsX10_setWay wsJx4a65c_get_915e3 := goodIn_r _ [16, 12, 17, 18, 19, 20, 21, 22, 23, 24, 25, 26, 27, 10, 28, 29, 62, 63, 64] (by decide +kernel) (by decide +kernel)
set_option maxRecDepth 20000 in
theorem gX10_setWay_Jx4a65c_get_915e3 : GoodIn wsX10_setWay (wsV RX10 7 RJx4a65c yJx4a65c_get_915e3 wsJx4a65c_get_915e3) := goodIn_app (goodIn_of _ (by decide +kernel)) ggX10_setWay_Jx4a65c_get_915e3
set_option maxRecDepth 20000 in
theorem ggX10_setWay_Jx4a65c_isEmpty_aae02 : GoodIn wsX10_setWay wsJx4a65c_isEmpty_aae02 := goodIn_r _ [33, 12, 62, 63, 64] (by decide +kernel) (by decide +kernel)
set_option maxRecDepth 20000 in
theorem gX10_setWay_Jx4a65c_isEmpty_aae02 : GoodIn wsX10_setWay (wsV RX10 87 RJx4a65c yJx4a65c_isEmpty_aae02 wsJx4a65c_isEmpty_aae02) := goodIn_app (goodIn_of _ (by decide +kernel)) ggX10_setWay_Jx4a65c_isEmpty_aae02
set_option maxRecDepth 20000 in
theorem ggX10_setWay_X10_isIn : GoodIn wsX10_setWay wsX10_isIn := goodIn_r _ [37] (by decide +kernel) (by decide +kernel)
set_option maxRecDepth 20000 in
theorem gX10_setWay_X10_isIn : GoodIn wsX10_setWay (va_wsS RX10 56 yX10_isIn wsX10_isIn) := goodIn_app (goodIn_of _ (by decide +kernel)) ggX10_setWay_X10_isIn
set_option maxRecDepth 20000 in
theorem ggX10_setWay_X10_start : GoodIn wsX10_setWay wsX10_start := goodIn_r _ [41, 42, 43, 44, 45, 36, 46, 47, 48, 49] (by decide +kernel) (by decide +kernel)
set_option maxRecDepth 20000 in
theorem gX10_setWay_X10_start : GoodIn wsX10_setWay (wsV RX10 49 RX10 yX10_start wsX10_start) := goodIn_app (goodIn_of _ (by decide +kernel)) ggX10_setWay_X10_start
set_option maxRecDepth 20000 in
theorem ggX10_setWay_X10_refuse : GoodIn wsX10_setWay wsX10_refuse := goodIn_r _ [46, 42, 47, 48, 49] (by decide +kernel) (by decide +kernel)
set_option maxRecDepth 20000 in
theorem gX10_setWay_X10_refuse : GoodIn wsX10_setWay (wsV RX10 45 RX10 yX10_refuse wsX10_refuse) := goodIn_app (goodIn_of _ (by decide +kernel)) ggX10_setWay_X10_refuse
theorem dX10_setWay_0 : decode cX10_setWay 0 = .ok (.iconst 0, 1) := by decide +kernel
theorem dX10_setWay_1 : decode cX10_setWay 1 = .ok (.istore_n 3, 1) := by decide +kernel
theorem dX10_setWay_2 : decode cX10_setWay 2 = .ok (.iconst 0, 1) := by decide +kernel
theorem dX10_setWay_3 : decode cX10_setWay 3 = .ok (.istore 4, 2) := by decide +kernel
theorem dX10_setWay_5 : decode cX10_setWay 5 = .ok (.iload 4, 2) := by decide +kernel
theorem dX10_setWay_7 : decode cX10_setWay 7 = .ok (.aload_n 0, 1) := by decide +kernel
theorem dX10_setWay_8 : decode cX10_setWay 8 = .ok (.getfield 37, 3) := by decide +kernel
theorem dX10_setWay_11 : decode cX10_setWay 11 = .ok (.getfield 79, 3) := by decide +kernel
theorem dX10_setWay_14 : decode cX10_setWay 14 = .ok (.invokevirtual 1, 3) := by decide +kernel
theorem dX10_setWay_17 : decode cX10_setWay 17 = .ok (.if_icmp .ge 41, 3) := by decide +kernel
theorem dX10_setWay_20 : decode cX10_setWay 20 = .ok (.iload_n 3, 1) := by decide +kernel
theorem dX10_setWay_21 : decode cX10_setWay 21 = .ok (.aload_n 0, 1) := by decide +kernel
theorem dX10_setWay_22 : decode cX10_setWay 22 = .ok (.getfield 37, 3) := by decide +kernel
theorem dX10_setWay_25 : decode cX10_setWay 25 = .ok (.getfield 79, 3) := by decide +kernel
theorem dX10_setWay_28 : decode cX10_setWay 28 = .ok (.iload 4, 2) := by decide +kernel
theorem dX10_setWay_30 : decode cX10_setWay 30 = .ok (.invokevirtual 7, 3) := by decide +kernel
theorem dX10_setWay_33 : decode cX10_setWay 33 = .ok (.checkcast 82, 3) := by decide +kernel
theorem dX10_setWay_36 : decode cX10_setWay 36 = .ok (.getfield 91, 3) := by decide +kernel
theorem dX10_setWay_39 : decode cX10_setWay 39 = .ok (.invokevirtual 87, 3) := by decide +kernel
theorem dX10_setWay_42 : decode cX10_setWay 42 = .ok (.ifCond .ne 7, 3) := by decide +kernel
theorem dX10_setWay_45 : decode cX10_setWay 45 = .ok (.iconst 1, 1) := by decide +kernel
theorem dX10_setWay_46 : decode cX10_setWay 46 = .ok (.goto 4, 3) := by decide +kernel
theorem dX10_setWay_49 : decode cX10_setWay 49 = .ok (.iconst 0, 1) := by decide +kernel
theorem dX10_setWay_50 : decode cX10_setWay 50 = .ok (.ior, 1) := by decide +kernel
theorem dX10_setWay_51 : decode cX10_setWay 51 = .ok (.istore_n 3, 1) := by decide +kernel
theorem dX10_setWay_52 : decode cX10_setWay 52 = .ok (.iinc 4 1, 3) := by decide +kernel
theorem dX10_setWay_55 : decode cX10_setWay 55 = .ok (.goto (-50), 3) := by decide +kernel
theorem dX10_setWay_58 : decode cX10_setWay 58 = .ok (.aload_n 0, 1) := by decide +kernel
theorem dX10_setWay_59 : decode cX10_setWay 59 = .ok (.iload_n 1, 1) := by decide +kernel
theorem dX10_setWay_60 : decode cX10_setWay 60 = .ok (.iconst 0, 1) := by decide +kernel
theorem dX10_setWay_61 : decode cX10_setWay 61 = .ok (.iconst 2, 1) := by decide +kernel
theorem dX10_setWay_62 : decode cX10_setWay 62 = .ok (.invokestatic 56, 3) := by decide +kernel
theorem dX10_setWay_65 : decode cX10_setWay 65 = .ok (.ifCond .eq 12, 3) := by decide +kernel
theorem dX10_setWay_68 : decode cX10_setWay 68 = .ok (.iload_n 2, 1) := by decide +kernel
theorem dX10_setWay_69 : decode cX10_setWay 69 = .ok (.iconst 0, 1) := by decide +kernel
theorem dX10_setWay_70 : decode cX10_setWay 70 = .ok (.iconst 2, 1) := by decide +kernel
theorem dX10_setWay_71 : decode cX10_setWay 71 = .ok (.invokestatic 56, 3) := by decide +kernel
theorem dX10_setWay_74 : decode cX10_setWay 74 = .ok (.ifCond .ne 7, 3) := by decide +kernel
theorem dX10_setWay_77 : decode cX10_setWay 77 = .ok (.iconst 1, 1) := by decide +kernel
theorem dX10_setWay_78 : decode cX10_setWay 78 = .ok (.goto 4, 3) := by decide +kernel
theorem dX10_setWay_81 : decode cX10_setWay 81 = .ok (.iconst 0, 1) := by decide +kernel
theorem dX10_setWay_82 : decode cX10_setWay 82 = .ok (.iconst 1, 1) := by decide +kernel
theorem dX10_setWay_83 : decode cX10_setWay 83 = .ok (.invokevirtual 49, 3) := by decide +kernel
theorem dX10_setWay_86 : decode cX10_setWay 86 = .ok (.ifCond .ne 31, 3) := by decide +kernel
theorem dX10_setWay_89 : decode cX10_setWay 89 = .ok (.aload_n 0, 1) := by decide +kernel
theorem dX10_setWay_90 : decode cX10_setWay 90 = .ok (.iload_n 3, 1) := by decide +kernel
theorem dX10_setWay_91 : decode cX10_setWay 91 = .ok (.ifCond .eq 18, 3) := by decide +kernel
theorem dX10_setWay_94 : decode cX10_setWay 94 = .ok (.iload_n 1, 1) := by decide +kernel
theorem dX10_setWay_95 : decode cX10_setWay 95 = .ok (.aload_n 0, 1) := by decide +kernel
theorem dX10_setWay_96 : decode cX10_setWay 96 = .ok (.getfield 37, 3) := by decide +kernel
theorem dX10_setWay_99 : decode cX10_setWay 99 = .ok (.getfield 104, 3) := by decide +kernel
theorem dX10_setWay_102 : decode cX10_setWay 102 = .ok (.if_icmp .eq 7, 3) := by decide +kernel
theorem dX10_setWay_105 : decode cX10_setWay 105 = .ok (.iconst 1, 1) := by decide +kernel
theorem dX10_setWay_106 : decode cX10_setWay 106 = .ok (.goto 4, 3) := by decide +kernel
theorem dX10_setWay_109 : decode cX10_setWay 109 = .ok (.iconst 0, 1) := by decide +kernel
theorem dX10_setWay_110 : decode cX10_setWay 110 = .ok (.iconst 2, 1) := by decide +kernel
theorem dX10_setWay_111 : decode cX10_setWay 111 = .ok (.invokevirtual 45, 3) := by decide +kernel
theorem dX10_setWay_114 : decode cX10_setWay 114 = .ok (.ifCond .eq 5, 3) := by decide +kernel
theorem dX10_setWay_117 : decode cX10_setWay 117 = .ok (.iconst 0, 1) := by decide +kernel
theorem dX10_setWay_118 : decode cX10_setWay 118 = .ok (.ireturn, 1) := by decide +kernel
theorem dX10_setWay_119 : decode cX10_setWay 119 = .ok (.aload_n 0, 1) := by decide +kernel
theorem dX10_setWay_120 : decode cX10_setWay 120 = .ok (.getfield 37, 3) := by decide +kernel
theorem dX10_setWay_123 : decode cX10_setWay 123 = .ok (.getfield 104, 3) := by decide +kernel
theorem dX10_setWay_126 : decode cX10_setWay 126 = .ok (.istore 4, 2) := by decide +kernel
theorem dX10_setWay_128 : decode cX10_setWay 128 = .ok (.aload_n 0, 1) := by decide +kernel
theorem dX10_setWay_129 : decode cX10_setWay 129 = .ok (.getfield 37, 3) := by decide +kernel
theorem dX10_setWay_132 : decode cX10_setWay 132 = .ok (.iload_n 1, 1) := by decide +kernel
theorem dX10_setWay_133 : decode cX10_setWay 133 = .ok (.putfield 104, 3) := by decide +kernel
theorem dX10_setWay_136 : decode cX10_setWay 136 = .ok (.aload_n 0, 1) := by decide +kernel
theorem dX10_setWay_137 : decode cX10_setWay 137 = .ok (.getfield 37, 3) := by decide +kernel
theorem dX10_setWay_140 : decode cX10_setWay 140 = .ok (.iload_n 2, 1) := by decide +kernel
theorem dX10_setWay_141 : decode cX10_setWay 141 = .ok (.putfield 107, 3) := by decide +kernel
theorem dX10_setWay_144 : decode cX10_setWay 144 = .ok (.iload 4, 2) := by decide +kernel
theorem dX10_setWay_146 : decode cX10_setWay 146 = .ok (.ireturn, 1) := by decide +kernel
set_option maxRecDepth 20000 in
theorem ggX10_keep_X10_isNoPromise : GoodIn wsX10_keep wsX10_isNoPromise := goodIn_r _ [6, 7, 8, 5, 9, 10, 11, 12, 13, 14, 15, 16, 17, 18, 151, 152, 153] (by decide +kernel) (by decide +kernel)
set_option maxRecDepth 20000 in
theorem gX10_keep_X10_isNoPromise : GoodIn wsX10_keep (wsV RX10 131 RX10 yX10_isNoPromise wsX10_isNoPromise) := goodIn_app (goodIn_of _ (by decide +kernel)) ggX10_keep_X10_isNoPromise
set_option maxRecDepth 20000 in
theorem ggX10_keep_X10_isIn : GoodIn wsX10_keep wsX10_isIn := goodIn_r _ [9] (by decide +kernel) (by decide +kernel)
set_option maxRecDepth 20000 in
theorem gX10_keep_X10_isIn : GoodIn wsX10_keep (va_wsS RX10 56 yX10_isIn wsX10_isIn) := goodIn_app (goodIn_of _ (by decide +kernel)) ggX10_keep_X10_isIn
set_option maxRecDepth 20000 in
theorem ggX10_keep_X10_refuse : GoodIn wsX10_keep wsX10_refuse := goodIn_r _ [18, 14, 151, 152, 153] (by decide +kernel) (by decide +kernel)
set_option maxRecDepth 20000 in
theorem gX10_keep_X10_refuse : GoodIn wsX10_keep (wsV RX10 45 RX10 yX10_refuse wsX10_refuse) := goodIn_app (goodIn_of _ (by decide +kernel)) ggX10_keep_X10_refuse
set_option maxRecDepth 20000 in
theorem ggX10_keep_X7_keep : GoodIn wsX10_keep wsX7_keep := goodIn_r _ [23, 24, 25, 26, 27, 28, 29, 30, 31, 32, 33, 34, 35, 36, 37, 38, 39, 40, 41, 42, 43, 44, 45, 46, 47, 48, 49, 50, 51, 52, 53, 54, 55, 56, 22, 57, 58, 59, 60, 61, 62, 63, 64, 65, 66, 67, 68, 69, 70, 5, 71, 72, 73, 74, 75, 76, 77, 78, 79, 80, 81, 82, 83, 84, 85, 86, 87, 88, 89, 90, 91, 92, 93, 94, 95, 96, 97, 98, 99, 100, 101, 102, 103, 104, 105, 106, 107, 108, 109, 110, 111, 112, 113, 114, 115, 116, 117, 118, 119, 120, 121, 122, 123, 124, 125, 126, 127, 128, 129, 130, 131, 132, 133, 134, 135, 136, 137, 138, 139, 140, 141, 142, 143, 144, 145, 146, 147, 148, 149, 150, 154, 155, 156, 157, 158, 159, 160, 161, 162, 163, 164, 165, 166, 167, 168, 169, 170, 171, 172, 173, 174, 175, 176, 177, 178, 179] (by decide +kernel) (by decide +kernel)
set_option maxRecDepth 20000 in
theorem gX10_keep_X7_keep : GoodIn wsX10_keep (wsV RX10 134 RX7 yX7_keep wsX7_keep) := goodIn_app (goodIn_of _ (by decide +kernel)) ggX10_keep_X7_keep
theorem dX10_keep_0 : decode cX10_keep 0 = .ok (.aload_n 0, 1) := by decide +kernel
theorem dX10_keep_1 : decode cX10_keep 1 = .ok (.iload_n 1, 1) := by decide +kernel
theorem dX10_keep_2 : decode cX10_keep 2 = .ok (.invokevirtual 131, 3) := by decide +kernel
theorem dX10_keep_5 : decode cX10_keep 5 = .ok (.ifCond .ne 45, 3) := by decide +kernel
theorem dX10_keep_8 : decode cX10_keep 8 = .ok (.aload_n 0, 1) := by decide +kernel
theorem dX10_keep_9 : decode cX10_keep 9 = .ok (.iload_n 2, 1) := by decide +kernel
theorem dX10_keep_10 : decode cX10_keep 10 = .ok (.sipush (-999), 3) := by decide +kernel
theorem dX10_keep_13 : decode cX10_keep 13 = .ok (.sipush 999, 3) := by decide +kernel
theorem dX10_keep_16 : decode cX10_keep 16 = .ok (.invokestatic 56, 3) := by decide +kernel
theorem dX10_keep_19 : decode cX10_keep 19 = .ok (.ifCond .ne 7, 3) := by decide +kernel
theorem dX10_keep_22 : decode cX10_keep 22 = .ok (.iconst 1, 1) := by decide +kernel
theorem dX10_keep_23 : decode cX10_keep 23 = .ok (.goto 4, 3) := by decide +kernel
theorem dX10_keep_26 : decode cX10_keep 26 = .ok (.iconst 0, 1) := by decide +kernel
theorem dX10_keep_27 : decode cX10_keep 27 = .ok (.iconst 2, 1) := by decide +kernel
theorem dX10_keep_28 : decode cX10_keep 28 = .ok (.invokevirtual 45, 3) := by decide +kernel
theorem dX10_keep_31 : decode cX10_keep 31 = .ok (.ifCond .ne 19, 3) := by decide +kernel
theorem dX10_keep_34 : decode cX10_keep 34 = .ok (.aload_n 0, 1) := by decide +kernel
theorem dX10_keep_35 : decode cX10_keep 35 = .ok (.getfield 37, 3) := by decide +kernel
theorem dX10_keep_38 : decode cX10_keep 38 = .ok (.iload_n 1, 1) := by decide +kernel
theorem dX10_keep_39 : decode cX10_keep 39 = .ok (.iload_n 2, 1) := by decide +kernel
theorem dX10_keep_40 : decode cX10_keep 40 = .ok (.invokevirtual 134, 3) := by decide +kernel
theorem dX10_keep_43 : decode cX10_keep 43 = .ok (.ifCond .eq 7, 3) := by decide +kernel
theorem dX10_keep_46 : decode cX10_keep 46 = .ok (.iconst 1, 1) := by decide +kernel
theorem dX10_keep_47 : decode cX10_keep 47 = .ok (.goto 4, 3) := by decide +kernel
theorem dX10_keep_50 : decode cX10_keep 50 = .ok (.iconst 0, 1) := by decide +kernel
theorem dX10_keep_51 : decode cX10_keep 51 = .ok (.ireturn, 1) := by decide +kernel
set_option maxRecDepth 20000 in
theorem ggX10_tick_X10_isIn : GoodIn wsX10_tick wsX10_isIn := goodIn_r _ [5] (by decide +kernel) (by decide +kernel)
set_option maxRecDepth 20000 in
theorem gX10_tick_X10_isIn : GoodIn wsX10_tick (va_wsS RX10 56 yX10_isIn wsX10_isIn) := goodIn_app (goodIn_of _ (by decide +kernel)) ggX10_tick_X10_isIn
set_option maxRecDepth 20000 in
theorem ggX10_tick_X10_start : GoodIn wsX10_tick wsX10_start := goodIn_r _ [9, 10, 11, 12, 13, 4, 14, 296, 297, 298] (by decide +kernel) (by decide +kernel)
set_option maxRecDepth 20000 in
theorem gX10_tick_X10_start : GoodIn wsX10_tick (wsV RX10 49 RX10 yX10_start wsX10_start) := goodIn_app (goodIn_of _ (by decide +kernel)) ggX10_tick_X10_start
set_option maxRecDepth 20000 in
theorem ggX10_tick_X7_tick : GoodIn wsX10_tick wsX7_tick := goodIn_r _ [19, 20, 21, 22, 23, 24, 25, 26, 27, 28, 29, 30, 31, 32, 18, 33, 34, 35, 36, 37, 38, 39, 40, 41, 42, 43, 44, 45, 46, 47, 48, 49, 50, 51, 52, 53, 54, 55, 56, 57, 58, 59, 60, 61, 62, 63, 64, 65, 66, 67, 68, 69, 70, 71, 72, 73, 74, 75, 76, 77, 78, 79, 80, 81, 82, 83, 84, 85, 86, 87, 88, 89, 90, 91, 92, 93, 94, 95, 96, 97, 98, 99, 100, 101, 102, 103, 104, 105, 106, 107, 108, 109, 110, 111, 112, 113, 114, 115, 116, 117, 118, 119, 120, 121, 122, 123, 124, 125, 126, 127, 128, 129, 130, 131, 132, 133, 134, 135, 136, 137, 138, 139, 140, 141, 142, 143, 144, 145, 146, 147, 148, 149, 150, 151, 152, 153, 154, 155, 156, 157, 158, 159, 160, 161, 162, 163, 164, 165, 166, 167, 168, 169, 170, 171, 172, 173, 174, 175, 176, 177, 178, 179, 180, 181, 182, 183, 184, 185, 186, 187, 188, 189, 190, 191, 192, 193, 194, 195, 196, 197, 198, 199, 200, 201, 202, 203, 204, 205, 206, 207, 208, 4, 209, 210, 211, 212, 213, 214, 215, 216, 217, 218, 219, 220, 221, 222, 223, 224, 225, 226, 227, 228, 229, 230, 231, 232, 233, 234, 235, 236, 237, 238, 239, 240, 241, 242, 243, 244, 245, 246, 247, 248, 249, 250, 251, 252, 253, 254, 255, 256, 257, 258, 259, 260, 261, 262, 263, 264, 265, 266, 267, 268, 269, 270, 271, 272, 273, 274, 275, 276, 277, 278, 279, 280, 281, 282, 283, 284, 285, 286, 287, 288, 289, 290, 291, 299, 300, 301, 302, 303, 304, 305, 306, 307, 308, 309, 310, 311, 312, 313, 314, 315, 316, 317, 318, 319, 320, 321, 322, 323, 324] (by decide +kernel) (by decide +kernel)
set_option maxRecDepth 20000 in
theorem gX10_tick_X7_tick : GoodIn wsX10_tick (wsV RX10 137 RX7 yX7_tick wsX7_tick) := goodIn_app (goodIn_of _ (by decide +kernel)) ggX10_tick_X7_tick
set_option maxRecDepth 20000 in
theorem ggX10_tick_X7_open : GoodIn wsX10_tick wsX7_open := goodIn_r _ [295, 34, 35, 24, 25, 26, 27, 28, 29, 41, 42, 43, 44, 45, 46, 47, 48, 49, 50, 51, 52, 53, 54, 55, 56, 57, 263, 264, 265, 85, 266, 87, 299, 300, 301, 302, 303, 304, 305, 306, 311, 312, 313, 314, 315, 316, 317, 318, 319, 320, 321, 322, 323] (by decide +kernel) (by decide +kernel)
set_option maxRecDepth 20000 in
theorem gX10_tick_X7_open : GoodIn wsX10_tick (wsV RX10 140 RX7 yX7_open wsX7_open) := goodIn_app (goodIn_of _ (by decide +kernel)) ggX10_tick_X7_open
theorem dX10_tick_0 : decode cX10_tick 0 = .ok (.aload_n 0, 1) := by decide +kernel
theorem dX10_tick_1 : decode cX10_tick 1 = .ok (.iload_n 1, 1) := by decide +kernel
theorem dX10_tick_2 : decode cX10_tick 2 = .ok (.iconst 1, 1) := by decide +kernel
theorem dX10_tick_3 : decode cX10_tick 3 = .ok (.bipush 40, 2) := by decide +kernel
theorem dX10_tick_5 : decode cX10_tick 5 = .ok (.invokestatic 56, 3) := by decide +kernel
theorem dX10_tick_8 : decode cX10_tick 8 = .ok (.ifCond .ne 7, 3) := by decide +kernel
theorem dX10_tick_11 : decode cX10_tick 11 = .ok (.iconst 1, 1) := by decide +kernel
theorem dX10_tick_12 : decode cX10_tick 12 = .ok (.goto 4, 3) := by decide +kernel
theorem dX10_tick_15 : decode cX10_tick 15 = .ok (.iconst 0, 1) := by decide +kernel
theorem dX10_tick_16 : decode cX10_tick 16 = .ok (.iconst 1, 1) := by decide +kernel
theorem dX10_tick_17 : decode cX10_tick 17 = .ok (.invokevirtual 49, 3) := by decide +kernel
theorem dX10_tick_20 : decode cX10_tick 20 = .ok (.ifCond .eq 5, 3) := by decide +kernel
theorem dX10_tick_23 : decode cX10_tick 23 = .ok (.iconst 0, 1) := by decide +kernel
theorem dX10_tick_24 : decode cX10_tick 24 = .ok (.ireturn, 1) := by decide +kernel
theorem dX10_tick_25 : decode cX10_tick 25 = .ok (.iconst 0, 1) := by decide +kernel
theorem dX10_tick_26 : decode cX10_tick 26 = .ok (.istore_n 2, 1) := by decide +kernel
theorem dX10_tick_27 : decode cX10_tick 27 = .ok (.iload_n 2, 1) := by decide +kernel
theorem dX10_tick_28 : decode cX10_tick 28 = .ok (.iload_n 1, 1) := by decide +kernel
theorem dX10_tick_29 : decode cX10_tick 29 = .ok (.if_icmp .ge 16, 3) := by decide +kernel
theorem dX10_tick_32 : decode cX10_tick 32 = .ok (.aload_n 0, 1) := by decide +kernel
theorem dX10_tick_33 : decode cX10_tick 33 = .ok (.getfield 37, 3) := by decide +kernel
theorem dX10_tick_36 : decode cX10_tick 36 = .ok (.invokevirtual 137, 3) := by decide +kernel
theorem dX10_tick_39 : decode cX10_tick 39 = .ok (.iinc 2 1, 3) := by decide +kernel
theorem dX10_tick_42 : decode cX10_tick 42 = .ok (.goto (-15), 3) := by decide +kernel
theorem dX10_tick_45 : decode cX10_tick 45 = .ok (.aload_n 0, 1) := by decide +kernel
theorem dX10_tick_46 : decode cX10_tick 46 = .ok (.getfield 37, 3) := by decide +kernel
theorem dX10_tick_49 : decode cX10_tick 49 = .ok (.invokevirtual 140, 3) := by decide +kernel
theorem dX10_tick_52 : decode cX10_tick 52 = .ok (.ireturn, 1) := by decide +kernel
set_option maxRecDepth 20000 in
theorem ggX10_inRow_Jx4a65c_size_8abf5 : GoodIn wsX10_inRow wsJx4a65c_size_8abf5 := goodIn_r _ [8, 9, 68, 69, 70] (by decide +kernel) (by decide +kernel)
set_option maxRecDepth 20000 in
theorem gX10_inRow_Jx4a65c_size_8abf5 : GoodIn wsX10_inRow (wsV RX10 1 RJx4a65c yJx4a65c_size_8abf5 wsJx4a65c_size_8abf5) := goodIn_app (goodIn_of _ (by decide +kernel)) ggX10_inRow_Jx4a65c_size_8abf5
set_option maxRecDepth 20000 in
theorem ggX10_inRow_X10_isIn : GoodIn wsX10_inRow wsX10_isIn := goodIn_r _ [13] (by decide +kernel) (by decide +kernel)
set_option maxRecDepth 20000 in
theorem gX10_inRow_X10_isIn : GoodIn wsX10_inRow (va_wsS RX10 56 yX10_isIn wsX10_isIn) := goodIn_app (goodIn_of _ (by decide +kernel)) ggX10_inRow_X10_isIn
set_option maxRecDepth 20000 in
theorem ggX10_inRow_X10_start : GoodIn wsX10_inRow wsX10_start := goodIn_r _ [17, 18, 19, 20, 21, 12, 22, 57, 58, 59] (by decide +kernel) (by decide +kernel)
set_option maxRecDepth 20000 in
theorem gX10_inRow_X10_start : GoodIn wsX10_inRow (wsV RX10 49 RX10 yX10_start wsX10_start) := goodIn_app (goodIn_of _ (by decide +kernel)) ggX10_inRow_X10_start
set_option maxRecDepth 20000 in
theorem ggX10_inRow_X10_rowOf : GoodIn wsX10_inRow wsX10_rowOf := goodIn_r _ [26, 1, 27, 28, 29, 30, 31, 12, 32, 2, 33, 34, 35, 36, 7, 37, 9, 38, 39, 40, 41, 42, 43, 44, 45, 46, 47, 48, 49, 50, 57, 58, 59, 60, 61, 62, 63, 64, 65, 66, 67, 71, 72, 73, 74, 68, 69, 70] (by decide +kernel) (by decide +kernel)
set_option maxRecDepth 20000 in
theorem gX10_inRow_X10_rowOf : GoodIn wsX10_inRow (wsV RX10 189 RX10 yX10_rowOf wsX10_rowOf) := goodIn_app (goodIn_of _ (by decide +kernel)) ggX10_inRow_X10_rowOf
set_option maxRecDepth 20000 in
theorem ggX10_inRow_X10_refuse : GoodIn wsX10_inRow wsX10_refuse := goodIn_r _ [22, 18, 57, 58, 59] (by decide +kernel) (by decide +kernel)
set_option maxRecDepth 20000 in
theorem gX10_inRow_X10_refuse : GoodIn wsX10_inRow (wsV RX10 45 RX10 yX10_refuse wsX10_refuse) := goodIn_app (goodIn_of _ (by decide +kernel)) ggX10_inRow_X10_refuse
set_option maxRecDepth 20000 in
theorem ggX10_inRow_Jx4a65c_get_915e3 : GoodIn wsX10_inRow wsJx4a65c_get_915e3 := goodIn_r _ [37, 9, 38, 39, 40, 41, 42, 43, 44, 45, 46, 47, 48, 7, 49, 50, 68, 69, 70] (by decide +kernel) (by decide +kernel)
set_option maxRecDepth 20000 in
theorem gX10_inRow_Jx4a65c_get_915e3 : GoodIn wsX10_inRow (wsV RX10 7 RJx4a65c yJx4a65c_get_915e3 wsJx4a65c_get_915e3) := goodIn_app (goodIn_of _ (by decide +kernel)) ggX10_inRow_Jx4a65c_get_915e3
set_option maxRecDepth 20000 in
theorem ggX10_inRow_J6_intValue_8abf5 : GoodIn wsX10_inRow wsJ6_intValue_8abf5 := goodIn_r _ [55, 56, 75] (by decide +kernel) (by decide +kernel)
set_option maxRecDepth 20000 in
theorem gX10_inRow_J6_intValue_8abf5 : GoodIn wsX10_inRow (wsV RX10 13 RJ6 yJ6_intValue_8abf5 wsJ6_intValue_8abf5) := goodIn_app (goodIn_of _ (by decide +kernel)) ggX10_inRow_J6_intValue_8abf5
theorem dX10_inRow_0 : decode cX10_inRow 0 = .ok (.aload_n 0, 1) := by decide +kernel
theorem dX10_inRow_1 : decode cX10_inRow 1 = .ok (.iload_n 1, 1) := by decide +kernel
theorem dX10_inRow_2 : decode cX10_inRow 2 = .ok (.iconst (-1), 1) := by decide +kernel
theorem dX10_inRow_3 : decode cX10_inRow 3 = .ok (.aload_n 0, 1) := by decide +kernel
theorem dX10_inRow_4 : decode cX10_inRow 4 = .ok (.getfield 37, 3) := by decide +kernel
theorem dX10_inRow_7 : decode cX10_inRow 7 = .ok (.getfield 79, 3) := by decide +kernel
theorem dX10_inRow_10 : decode cX10_inRow 10 = .ok (.invokevirtual 1, 3) := by decide +kernel
theorem dX10_inRow_13 : decode cX10_inRow 13 = .ok (.iconst 1, 1) := by decide +kernel
theorem dX10_inRow_14 : decode cX10_inRow 14 = .ok (.isub, 1) := by decide +kernel
theorem dX10_inRow_15 : decode cX10_inRow 15 = .ok (.invokestatic 56, 3) := by decide +kernel
theorem dX10_inRow_18 : decode cX10_inRow 18 = .ok (.ifCond .ne 7, 3) := by decide +kernel
theorem dX10_inRow_21 : decode cX10_inRow 21 = .ok (.iconst 1, 1) := by decide +kernel
theorem dX10_inRow_22 : decode cX10_inRow 22 = .ok (.goto 4, 3) := by decide +kernel
theorem dX10_inRow_25 : decode cX10_inRow 25 = .ok (.iconst 0, 1) := by decide +kernel
theorem dX10_inRow_26 : decode cX10_inRow 26 = .ok (.iconst 1, 1) := by decide +kernel
theorem dX10_inRow_27 : decode cX10_inRow 27 = .ok (.invokevirtual 49, 3) := by decide +kernel
theorem dX10_inRow_30 : decode cX10_inRow 30 = .ok (.ifCond .ne 34, 3) := by decide +kernel
theorem dX10_inRow_33 : decode cX10_inRow 33 = .ok (.aload_n 0, 1) := by decide +kernel
theorem dX10_inRow_34 : decode cX10_inRow 34 = .ok (.iload_n 2, 1) := by decide +kernel
theorem dX10_inRow_35 : decode cX10_inRow 35 = .ok (.iconst 0, 1) := by decide +kernel
theorem dX10_inRow_36 : decode cX10_inRow 36 = .ok (.aload_n 0, 1) := by decide +kernel
theorem dX10_inRow_37 : decode cX10_inRow 37 = .ok (.iload_n 1, 1) := by decide +kernel
theorem dX10_inRow_38 : decode cX10_inRow 38 = .ok (.invokevirtual 189, 3) := by decide +kernel
theorem dX10_inRow_41 : decode cX10_inRow 41 = .ok (.invokevirtual 1, 3) := by decide +kernel
theorem dX10_inRow_44 : decode cX10_inRow 44 = .ok (.iconst 1, 1) := by decide +kernel
theorem dX10_inRow_45 : decode cX10_inRow 45 = .ok (.isub, 1) := by decide +kernel
theorem dX10_inRow_46 : decode cX10_inRow 46 = .ok (.invokestatic 56, 3) := by decide +kernel
theorem dX10_inRow_49 : decode cX10_inRow 49 = .ok (.ifCond .ne 7, 3) := by decide +kernel
theorem dX10_inRow_52 : decode cX10_inRow 52 = .ok (.iconst 1, 1) := by decide +kernel
theorem dX10_inRow_53 : decode cX10_inRow 53 = .ok (.goto 4, 3) := by decide +kernel
theorem dX10_inRow_56 : decode cX10_inRow 56 = .ok (.iconst 0, 1) := by decide +kernel
theorem dX10_inRow_57 : decode cX10_inRow 57 = .ok (.iconst 1, 1) := by decide +kernel
theorem dX10_inRow_58 : decode cX10_inRow 58 = .ok (.invokevirtual 45, 3) := by decide +kernel
theorem dX10_inRow_61 : decode cX10_inRow 61 = .ok (.ifCond .eq 7, 3) := by decide +kernel
theorem dX10_inRow_64 : decode cX10_inRow 64 = .ok (.iconst 0, 1) := by decide +kernel
theorem dX10_inRow_65 : decode cX10_inRow 65 = .ok (.goto 18, 3) := by decide +kernel
theorem dX10_inRow_68 : decode cX10_inRow 68 = .ok (.aload_n 0, 1) := by decide +kernel
theorem dX10_inRow_69 : decode cX10_inRow 69 = .ok (.iload_n 1, 1) := by decide +kernel
theorem dX10_inRow_70 : decode cX10_inRow 70 = .ok (.invokevirtual 189, 3) := by decide +kernel
theorem dX10_inRow_73 : decode cX10_inRow 73 = .ok (.iload_n 2, 1) := by decide +kernel
theorem dX10_inRow_74 : decode cX10_inRow 74 = .ok (.invokevirtual 7, 3) := by decide +kernel
theorem dX10_inRow_77 : decode cX10_inRow 77 = .ok (.checkcast 11, 3) := by decide +kernel
theorem dX10_inRow_80 : decode cX10_inRow 80 = .ok (.invokevirtual 13, 3) := by decide +kernel
theorem dX10_inRow_83 : decode cX10_inRow 83 = .ok (.ireturn, 1) := by decide +kernel
set_option maxRecDepth 20000 in
theorem ggX10_haltedNow_X7_isHalted : GoodIn wsX10_haltedNow wsX7_isHalted := goodIn_r _ [8, 9, 10, 11, 12, 13, 14, 15, 16, 17, 18, 7, 19, 20, 21, 22, 23, 24, 25, 26, 27, 28, 29, 30, 31, 32, 33, 34, 35, 36, 37, 38, 39, 40, 41, 42, 43, 44, 45, 46, 47, 48, 49, 50, 51, 52, 53, 54, 55, 56, 57, 58, 59, 60, 61, 62, 63, 64, 65, 66, 67, 68, 69, 70, 71, 72, 73, 74, 75, 76, 77, 78, 79, 80, 81, 82, 83, 84, 85, 97, 98, 99, 100, 101, 102, 103, 104, 115, 116, 117, 118, 119, 120, 121, 122, 105, 106, 107, 108, 109, 110, 111, 112, 113, 114] (by decide +kernel) (by decide +kernel)
set_option maxRecDepth 20000 in
theorem gX10_haltedNow_X7_isHalted : GoodIn wsX10_haltedNow (wsV RX10 203 RX7 yX7_isHalted wsX7_isHalted) := goodIn_app (goodIn_of _ (by decide +kernel)) ggX10_haltedNow_X7_isHalted
set_option maxRecDepth 20000 in
theorem ggX10_haltedNow_Jx4a65c_size_8abf5 : GoodIn wsX10_haltedNow wsJx4a65c_size_8abf5 := goodIn_r _ [14, 15, 115, 116, 117] (by decide +kernel) (by decide +kernel)
set_option maxRecDepth 20000 in
theorem gX10_haltedNow_Jx4a65c_size_8abf5 : GoodIn wsX10_haltedNow (wsV RX10 1 RJx4a65c yJx4a65c_size_8abf5 wsJx4a65c_size_8abf5) := goodIn_app (goodIn_of _ (by decide +kernel)) ggX10_haltedNow_Jx4a65c_size_8abf5
set_option maxRecDepth 20000 in
theorem ggX10_haltedNow_X10_task : GoodIn wsX10_haltedNow wsX10_task := goodIn_r _ [91, 1, 2, 92, 93, 31, 32, 13, 33, 15, 34, 35, 36, 37, 38, 39, 40, 41, 42, 43, 44, 45, 46, 94, 95, 96, 97, 98, 99, 100, 101, 102, 103, 104, 115, 116, 117] (by decide +kernel) (by decide +kernel)
set_option maxRecDepth 20000 in
theorem gX10_haltedNow_X10_task : GoodIn wsX10_haltedNow (wsV RX10 120 RX10 yX10_task wsX10_task) := goodIn_app (goodIn_of _ (by decide +kernel)) ggX10_haltedNow_X10_task
theorem dX10_haltedNow_0 : decode cX10_haltedNow 0 = .ok (.aload_n 0, 1) := by decide +kernel
theorem dX10_haltedNow_1 : decode cX10_haltedNow 1 = .ok (.getfield 37, 3) := by decide +kernel
theorem dX10_haltedNow_4 : decode cX10_haltedNow 4 = .ok (.invokevirtual 203, 3) := by decide +kernel
theorem dX10_haltedNow_7 : decode cX10_haltedNow 7 = .ok (.ifCond .ne 5, 3) := by decide +kernel
theorem dX10_haltedNow_10 : decode cX10_haltedNow 10 = .ok (.iconst 0, 1) := by decide +kernel
theorem dX10_haltedNow_11 : decode cX10_haltedNow 11 = .ok (.ireturn, 1) := by decide +kernel
theorem dX10_haltedNow_12 : decode cX10_haltedNow 12 = .ok (.iconst 4, 1) := by decide +kernel
theorem dX10_haltedNow_13 : decode cX10_haltedNow 13 = .ok (.istore_n 1, 1) := by decide +kernel
theorem dX10_haltedNow_14 : decode cX10_haltedNow 14 = .ok (.iconst 0, 1) := by decide +kernel
theorem dX10_haltedNow_15 : decode cX10_haltedNow 15 = .ok (.istore_n 2, 1) := by decide +kernel
theorem dX10_haltedNow_16 : decode cX10_haltedNow 16 = .ok (.iload_n 2, 1) := by decide +kernel
theorem dX10_haltedNow_17 : decode cX10_haltedNow 17 = .ok (.aload_n 0, 1) := by decide +kernel
theorem dX10_haltedNow_18 : decode cX10_haltedNow 18 = .ok (.getfield 37, 3) := by decide +kernel
theorem dX10_haltedNow_21 : decode cX10_haltedNow 21 = .ok (.getfield 60, 3) := by decide +kernel
theorem dX10_haltedNow_24 : decode cX10_haltedNow 24 = .ok (.invokevirtual 1, 3) := by decide +kernel
theorem dX10_haltedNow_27 : decode cX10_haltedNow 27 = .ok (.if_icmp .ge 44, 3) := by decide +kernel
theorem dX10_haltedNow_30 : decode cX10_haltedNow 30 = .ok (.iload_n 1, 1) := by decide +kernel
theorem dX10_haltedNow_31 : decode cX10_haltedNow 31 = .ok (.aload_n 0, 1) := by decide +kernel
theorem dX10_haltedNow_32 : decode cX10_haltedNow 32 = .ok (.iload_n 2, 1) := by decide +kernel
theorem dX10_haltedNow_33 : decode cX10_haltedNow 33 = .ok (.invokevirtual 120, 3) := by decide +kernel
theorem dX10_haltedNow_36 : decode cX10_haltedNow 36 = .ok (.getfield 149, 3) := by decide +kernel
theorem dX10_haltedNow_39 : decode cX10_haltedNow 39 = .ok (.iconst 3, 1) := by decide +kernel
theorem dX10_haltedNow_40 : decode cX10_haltedNow 40 = .ok (.if_icmp .ne 7, 3) := by decide +kernel
theorem dX10_haltedNow_43 : decode cX10_haltedNow 43 = .ok (.iconst 1, 1) := by decide +kernel
theorem dX10_haltedNow_44 : decode cX10_haltedNow 44 = .ok (.goto 19, 3) := by decide +kernel
theorem dX10_haltedNow_47 : decode cX10_haltedNow 47 = .ok (.aload_n 0, 1) := by decide +kernel
theorem dX10_haltedNow_48 : decode cX10_haltedNow 48 = .ok (.iload_n 2, 1) := by decide +kernel
theorem dX10_haltedNow_49 : decode cX10_haltedNow 49 = .ok (.invokevirtual 120, 3) := by decide +kernel
theorem dX10_haltedNow_52 : decode cX10_haltedNow 52 = .ok (.getfield 149, 3) := by decide +kernel
theorem dX10_haltedNow_55 : decode cX10_haltedNow 55 = .ok (.ifCond .ne 7, 3) := by decide +kernel
theorem dX10_haltedNow_58 : decode cX10_haltedNow 58 = .ok (.iconst 2, 1) := by decide +kernel
theorem dX10_haltedNow_59 : decode cX10_haltedNow 59 = .ok (.goto 4, 3) := by decide +kernel
theorem dX10_haltedNow_62 : decode cX10_haltedNow 62 = .ok (.iconst 0, 1) := by decide +kernel
theorem dX10_haltedNow_63 : decode cX10_haltedNow 63 = .ok (.ior, 1) := by decide +kernel
theorem dX10_haltedNow_64 : decode cX10_haltedNow 64 = .ok (.istore_n 1, 1) := by decide +kernel
theorem dX10_haltedNow_65 : decode cX10_haltedNow 65 = .ok (.iinc 2 1, 3) := by decide +kernel
theorem dX10_haltedNow_68 : decode cX10_haltedNow 68 = .ok (.goto (-52), 3) := by decide +kernel
theorem dX10_haltedNow_71 : decode cX10_haltedNow 71 = .ok (.iload_n 1, 1) := by decide +kernel
theorem dX10_haltedNow_72 : decode cX10_haltedNow 72 = .ok (.ireturn, 1) := by decide +kernel
set_option maxRecDepth 20000 in
theorem ggX10_load_Jx4a65c_size_8abf5 : GoodIn wsX10_load wsJx4a65c_size_8abf5 := goodIn_r _ [9, 10, 49, 50, 51] (by decide +kernel) (by decide +kernel)
set_option maxRecDepth 20000 in
theorem gX10_load_Jx4a65c_size_8abf5 : GoodIn wsX10_load (wsV RX10 1 RJx4a65c yJx4a65c_size_8abf5 wsJx4a65c_size_8abf5) := goodIn_app (goodIn_of _ (by decide +kernel)) ggX10_load_Jx4a65c_size_8abf5
set_option maxRecDepth 20000 in
theorem ggX10_load_X10_worker : GoodIn wsX10_load wsX10_worker := goodIn_r _ [15, 2, 3, 16, 17, 18, 19, 8, 20, 10, 21, 22, 23, 24, 25, 26, 27, 28, 29, 30, 31, 32, 33, 34, 35, 36, 37, 38, 39, 40, 41, 42, 43, 44, 49, 50, 51] (by decide +kernel) (by decide +kernel)
set_option maxRecDepth 20000 in
theorem gX10_load_X10_worker : GoodIn wsX10_load (wsV RX10 183 RX10 yX10_worker wsX10_worker) := goodIn_app (goodIn_of _ (by decide +kernel)) ggX10_load_X10_worker
theorem dX10_load_0 : decode cX10_load 0 = .ok (.aload_n 0, 1) := by decide +kernel
theorem dX10_load_1 : decode cX10_load 1 = .ok (.iconst 0, 1) := by decide +kernel
theorem dX10_load_2 : decode cX10_load 2 = .ok (.putfield 41, 3) := by decide +kernel
theorem dX10_load_5 : decode cX10_load 5 = .ok (.iconst 0, 1) := by decide +kernel
theorem dX10_load_6 : decode cX10_load 6 = .ok (.istore_n 1, 1) := by decide +kernel
theorem dX10_load_7 : decode cX10_load 7 = .ok (.iconst 0, 1) := by decide +kernel
theorem dX10_load_8 : decode cX10_load 8 = .ok (.istore_n 2, 1) := by decide +kernel
theorem dX10_load_9 : decode cX10_load 9 = .ok (.iconst 0, 1) := by decide +kernel
theorem dX10_load_10 : decode cX10_load 10 = .ok (.istore_n 3, 1) := by decide +kernel
theorem dX10_load_11 : decode cX10_load 11 = .ok (.iload_n 3, 1) := by decide +kernel
theorem dX10_load_12 : decode cX10_load 12 = .ok (.aload_n 0, 1) := by decide +kernel
theorem dX10_load_13 : decode cX10_load 13 = .ok (.getfield 37, 3) := by decide +kernel
theorem dX10_load_16 : decode cX10_load 16 = .ok (.getfield 79, 3) := by decide +kernel
theorem dX10_load_19 : decode cX10_load 19 = .ok (.invokevirtual 1, 3) := by decide +kernel
theorem dX10_load_22 : decode cX10_load 22 = .ok (.if_icmp .ge 46, 3) := by decide +kernel
theorem dX10_load_25 : decode cX10_load 25 = .ok (.iload_n 1, 1) := by decide +kernel
theorem dX10_load_26 : decode cX10_load 26 = .ok (.aload_n 0, 1) := by decide +kernel
theorem dX10_load_27 : decode cX10_load 27 = .ok (.iload_n 3, 1) := by decide +kernel
theorem dX10_load_28 : decode cX10_load 28 = .ok (.invokevirtual 183, 3) := by decide +kernel
theorem dX10_load_31 : decode cX10_load 31 = .ok (.getfield 193, 3) := by decide +kernel
theorem dX10_load_34 : decode cX10_load 34 = .ok (.iconst 0, 1) := by decide +kernel
theorem dX10_load_35 : decode cX10_load 35 = .ok (.iaload, 1) := by decide +kernel
theorem dX10_load_36 : decode cX10_load 36 = .ok (.iadd, 1) := by decide +kernel
theorem dX10_load_37 : decode cX10_load 37 = .ok (.istore_n 1, 1) := by decide +kernel
theorem dX10_load_38 : decode cX10_load 38 = .ok (.iload_n 2, 1) := by decide +kernel
theorem dX10_load_39 : decode cX10_load 39 = .ok (.aload_n 0, 1) := by decide +kernel
theorem dX10_load_40 : decode cX10_load 40 = .ok (.iload_n 3, 1) := by decide +kernel
theorem dX10_load_41 : decode cX10_load 41 = .ok (.invokevirtual 183, 3) := by decide +kernel
theorem dX10_load_44 : decode cX10_load 44 = .ok (.getfield 193, 3) := by decide +kernel
theorem dX10_load_47 : decode cX10_load 47 = .ok (.iconst 0, 1) := by decide +kernel
theorem dX10_load_48 : decode cX10_load 48 = .ok (.iaload, 1) := by decide +kernel
theorem dX10_load_49 : decode cX10_load 49 = .ok (.aload_n 0, 1) := by decide +kernel
theorem dX10_load_50 : decode cX10_load 50 = .ok (.iload_n 3, 1) := by decide +kernel
theorem dX10_load_51 : decode cX10_load 51 = .ok (.invokevirtual 183, 3) := by decide +kernel
theorem dX10_load_54 : decode cX10_load 54 = .ok (.getfield 193, 3) := by decide +kernel
theorem dX10_load_57 : decode cX10_load 57 = .ok (.iconst 1, 1) := by decide +kernel
theorem dX10_load_58 : decode cX10_load 58 = .ok (.iaload, 1) := by decide +kernel
theorem dX10_load_59 : decode cX10_load 59 = .ok (.iadd, 1) := by decide +kernel
theorem dX10_load_60 : decode cX10_load 60 = .ok (.iadd, 1) := by decide +kernel
theorem dX10_load_61 : decode cX10_load 61 = .ok (.istore_n 2, 1) := by decide +kernel
theorem dX10_load_62 : decode cX10_load 62 = .ok (.iinc 3 1, 3) := by decide +kernel
theorem dX10_load_65 : decode cX10_load 65 = .ok (.goto (-54), 3) := by decide +kernel
theorem dX10_load_68 : decode cX10_load 68 = .ok (.iload_n 2, 1) := by decide +kernel
theorem dX10_load_69 : decode cX10_load 69 = .ok (.ifCond .ne 7, 3) := by decide +kernel
theorem dX10_load_72 : decode cX10_load 72 = .ok (.dconst 0, 1) := by decide +kernel
theorem dX10_load_73 : decode cX10_load 73 = .ok (.goto 8, 3) := by decide +kernel
theorem dX10_load_76 : decode cX10_load 76 = .ok (.iload_n 1, 1) := by decide +kernel
theorem dX10_load_77 : decode cX10_load 77 = .ok (.i2d, 1) := by decide +kernel
theorem dX10_load_78 : decode cX10_load 78 = .ok (.iload_n 2, 1) := by decide +kernel
theorem dX10_load_79 : decode cX10_load 79 = .ok (.i2d, 1) := by decide +kernel
theorem dX10_load_80 : decode cX10_load 80 = .ok (.ddiv, 1) := by decide +kernel
theorem dX10_load_81 : decode cX10_load 81 = .ok (.dreturn, 1) := by decide +kernel
set_option maxRecDepth 20000 in
theorem ggX10_overIn_X10_isNoTask : GoodIn wsX10_overIn wsX10_isNoTask := goodIn_r _ [8, 1, 2, 9, 10, 11, 12, 13, 14, 15, 16, 7, 17, 18, 19, 20, 21, 22, 23, 24, 25, 26, 357, 358, 359, 360, 361, 362, 363, 364, 365, 366, 367, 368, 369, 370] (by decide +kernel) (by decide +kernel)
set_option maxRecDepth 20000 in
theorem gX10_overIn_X10_isNoTask : GoodIn wsX10_overIn (wsV RX10 117 RX10 yX10_isNoTask wsX10_isNoTask) := goodIn_app (goodIn_of _ (by decide +kernel)) ggX10_overIn_X10_isNoTask
set_option maxRecDepth 20000 in
theorem ggX10_overIn_X10_isIn : GoodIn wsX10_overIn wsX10_isIn := goodIn_r _ [17] (by decide +kernel) (by decide +kernel)
set_option maxRecDepth 20000 in
theorem gX10_overIn_X10_isIn : GoodIn wsX10_overIn (va_wsS RX10 56 yX10_isIn wsX10_isIn) := goodIn_app (goodIn_of _ (by decide +kernel)) ggX10_overIn_X10_isIn
set_option maxRecDepth 20000 in
theorem ggX10_overIn_X10_refuse : GoodIn wsX10_overIn wsX10_refuse := goodIn_r _ [26, 22, 357, 358, 359] (by decide +kernel) (by decide +kernel)
set_option maxRecDepth 20000 in
theorem gX10_overIn_X10_refuse : GoodIn wsX10_overIn (wsV RX10 45 RX10 yX10_refuse wsX10_refuse) := goodIn_app (goodIn_of _ (by decide +kernel)) ggX10_overIn_X10_refuse
set_option maxRecDepth 20000 in
theorem ggX10_overIn_X7_copy : GoodIn wsX10_overIn wsX7_copy := goodIn_r _ [31, 32, 33, 30, 34, 35, 36, 37, 38, 39, 40, 12, 41, 42, 43, 44, 45, 46, 47, 48, 49, 50, 51, 52, 53, 54, 55, 56, 57, 58, 59, 60, 61, 62, 63, 64, 65, 66, 67, 68, 69, 70, 71, 72, 73, 74, 75, 76, 77, 78, 79, 80, 81, 82, 83, 84, 85, 86, 87, 88, 89, 90, 91, 92, 14, 93, 94, 95, 96, 97, 98, 99, 100, 101, 102, 103, 104, 105, 106, 107, 108, 109, 110, 111, 112, 113, 114, 115, 116, 117, 118, 119, 120, 121, 122, 123, 124, 125, 126, 127, 128, 129, 130, 131, 132, 133, 134, 135, 136, 137, 138, 139, 10, 11, 13, 140, 141, 142, 143, 144, 145, 146, 147, 148, 149, 150, 151, 152, 153, 154, 155, 156, 157, 158, 159, 160, 161, 162, 163, 164, 165, 166, 167, 168, 169, 170, 171, 172, 173, 174, 175, 176, 177, 178, 179, 180, 181, 182, 183, 184, 185, 186, 187, 188, 189, 190, 191, 192, 193, 194, 195, 196, 197, 198, 360, 361, 362, 363, 364, 365, 366, 367, 368, 369, 370, 371, 372, 373, 374, 375, 376, 377, 378, 379, 380, 381, 382, 383, 384] (by decide +kernel) (by decide +kernel)
set_option maxRecDepth 20000 in
theorem gX10_overIn_X7_copy : GoodIn wsX10_overIn (wsV RX10 209 RX7 yX7_copy wsX7_copy) := goodIn_app (goodIn_of _ (by decide +kernel)) ggX10_overIn_X7_copy
set_option maxRecDepth 20000 in
theorem ggX10_overIn_Jx4a65c_get_915e3 : GoodIn wsX10_overIn wsJx4a65c_get_915e3 := goodIn_r _ [143, 14, 144, 145, 146, 147, 148, 149, 150, 151, 152, 153, 154, 12, 155, 67, 368, 369, 370] (by decide +kernel) (by decide +kernel)
set_option maxRecDepth 20000 in
theorem gX10_overIn_Jx4a65c_get_915e3 : GoodIn wsX10_overIn (wsV RX10 7 RJx4a65c yJx4a65c_get_915e3 wsJx4a65c_get_915e3) := goodIn_app (goodIn_of _ (by decide +kernel)) ggX10_overIn_Jx4a65c_get_915e3
set_option maxRecDepth 20000 in
theorem ggX10_overIn_X7_tick : GoodIn wsX10_overIn wsX7_tick := goodIn_r _ [207, 37, 38, 208, 51, 139, 10, 11, 12, 13, 14, 209, 210, 211, 30, 212, 35, 36, 213, 214, 215, 216, 48, 140, 141, 142, 143, 144, 145, 146, 147, 148, 149, 150, 151, 152, 153, 154, 155, 67, 217, 218, 219, 220, 49, 221, 222, 223, 62, 224, 83, 225, 226, 227, 228, 229, 230, 231, 232, 233, 234, 235, 236, 237, 238, 239, 240, 159, 241, 167, 242, 243, 244, 245, 246, 247, 41, 248, 249, 250, 251, 252, 253, 50, 254, 255, 256, 257, 258, 259, 260, 261, 262, 91, 92, 263, 136, 137, 138, 264, 265, 266, 267, 268, 269, 270, 271, 272, 273, 274, 275, 276, 277, 278, 279, 56, 57, 87, 88, 89, 90, 93, 94, 95, 96, 97, 98, 99, 100, 101, 102, 103, 104, 66, 105, 106, 107, 108, 109, 110, 111, 112, 113, 114, 115, 116, 117, 118, 119, 120, 121, 122, 123, 124, 125, 126, 127, 128, 129, 130, 131, 132, 133, 134, 135, 280, 281, 282, 283, 284, 285, 286, 287, 34, 288, 289, 290, 291, 292, 293, 294, 42, 59, 295, 296, 297, 298, 299, 300, 301, 302, 7, 303, 304, 9, 199, 305, 306, 307, 308, 309, 310, 311, 312, 313, 314, 315, 316, 317, 318, 319, 320, 321, 322, 162, 323, 175, 176, 177, 165, 40, 166, 172, 163, 164, 178, 64, 65, 68, 69, 70, 71, 72, 73, 74, 75, 76, 77, 324, 325, 326, 327, 328, 329, 330, 331, 332, 201, 202, 203, 333, 334, 335, 336, 337, 338, 339, 340, 341, 342, 168, 343, 344, 345, 346, 347, 348, 349, 350, 351, 352, 353, 354, 355, 356, 360, 361, 362, 363, 364, 365, 366, 367, 371, 372, 373, 374, 368, 369, 370, 375, 376, 377, 378, 379, 380, 381, 382, 383, 384, 385] (by decide +kernel) (by decide +kernel)
set_option maxRecDepth 20000 in
theorem gX10_overIn_X7_tick : GoodIn wsX10_overIn (wsV RX10 137 RX7 yX7_tick wsX7_tick) := goodIn_app (goodIn_of _ (by decide +kernel)) ggX10_overIn_X7_tick
theorem dX10_overIn_0 : decode cX10_overIn 0 = .ok (.aload_n 0, 1) := by decide +kernel
theorem dX10_overIn_1 : decode cX10_overIn 1 = .ok (.iload_n 1, 1) := by decide +kernel
theorem dX10_overIn_2 : decode cX10_overIn 2 = .ok (.invokevirtual 117, 3) := by decide +kernel
theorem dX10_overIn_5 : decode cX10_overIn 5 = .ok (.ifCond .ne 26, 3) := by decide +kernel
theorem dX10_overIn_8 : decode cX10_overIn 8 = .ok (.aload_n 0, 1) := by decide +kernel
theorem dX10_overIn_9 : decode cX10_overIn 9 = .ok (.iload_n 2, 1) := by decide +kernel
theorem dX10_overIn_10 : decode cX10_overIn 10 = .ok (.iconst 1, 1) := by decide +kernel
theorem dX10_overIn_11 : decode cX10_overIn 11 = .ok (.bipush 60, 2) := by decide +kernel
theorem dX10_overIn_13 : decode cX10_overIn 13 = .ok (.invokestatic 56, 3) := by decide +kernel
theorem dX10_overIn_16 : decode cX10_overIn 16 = .ok (.ifCond .ne 7, 3) := by decide +kernel
theorem dX10_overIn_19 : decode cX10_overIn 19 = .ok (.iconst 1, 1) := by decide +kernel
theorem dX10_overIn_20 : decode cX10_overIn 20 = .ok (.goto 4, 3) := by decide +kernel
theorem dX10_overIn_23 : decode cX10_overIn 23 = .ok (.iconst 0, 1) := by decide +kernel
theorem dX10_overIn_24 : decode cX10_overIn 24 = .ok (.iconst 2, 1) := by decide +kernel
theorem dX10_overIn_25 : decode cX10_overIn 25 = .ok (.invokevirtual 45, 3) := by decide +kernel
theorem dX10_overIn_28 : decode cX10_overIn 28 = .ok (.ifCond .eq 5, 3) := by decide +kernel
theorem dX10_overIn_31 : decode cX10_overIn 31 = .ok (.iconst 0, 1) := by decide +kernel
theorem dX10_overIn_32 : decode cX10_overIn 32 = .ok (.ireturn, 1) := by decide +kernel
theorem dX10_overIn_33 : decode cX10_overIn 33 = .ok (.aload_n 0, 1) := by decide +kernel
theorem dX10_overIn_34 : decode cX10_overIn 34 = .ok (.getfield 37, 3) := by decide +kernel
theorem dX10_overIn_37 : decode cX10_overIn 37 = .ok (.invokevirtual 209, 3) := by decide +kernel
theorem dX10_overIn_40 : decode cX10_overIn 40 = .ok (.astore_n 3, 1) := by decide +kernel
theorem dX10_overIn_41 : decode cX10_overIn 41 = .ok (.iconst 0, 1) := by decide +kernel
theorem dX10_overIn_42 : decode cX10_overIn 42 = .ok (.istore 4, 2) := by decide +kernel
theorem dX10_overIn_44 : decode cX10_overIn 44 = .ok (.iload 4, 2) := by decide +kernel
theorem dX10_overIn_46 : decode cX10_overIn 46 = .ok (.iload_n 2, 1) := by decide +kernel
theorem dX10_overIn_47 : decode cX10_overIn 47 = .ok (.if_icmp .gt 39, 3) := by decide +kernel
theorem dX10_overIn_50 : decode cX10_overIn 50 = .ok (.aload_n 3, 1) := by decide +kernel
theorem dX10_overIn_51 : decode cX10_overIn 51 = .ok (.getfield 60, 3) := by decide +kernel
theorem dX10_overIn_54 : decode cX10_overIn 54 = .ok (.iload_n 1, 1) := by decide +kernel
theorem dX10_overIn_55 : decode cX10_overIn 55 = .ok (.invokevirtual 7, 3) := by decide +kernel
theorem dX10_overIn_58 : decode cX10_overIn 58 = .ok (.checkcast 63, 3) := by decide +kernel
theorem dX10_overIn_61 : decode cX10_overIn 61 = .ok (.invokevirtual 124, 3) := by decide +kernel
theorem dX10_overIn_64 : decode cX10_overIn 64 = .ok (.ifCond .eq 6, 3) := by decide +kernel
theorem dX10_overIn_67 : decode cX10_overIn 67 = .ok (.iload 4, 2) := by decide +kernel
theorem dX10_overIn_69 : decode cX10_overIn 69 = .ok (.ireturn, 1) := by decide +kernel
theorem dX10_overIn_70 : decode cX10_overIn 70 = .ok (.iload 4, 2) := by decide +kernel
theorem dX10_overIn_72 : decode cX10_overIn 72 = .ok (.iload_n 2, 1) := by decide +kernel
theorem dX10_overIn_73 : decode cX10_overIn 73 = .ok (.if_icmp .ge 7, 3) := by decide +kernel
theorem dX10_overIn_76 : decode cX10_overIn 76 = .ok (.aload_n 3, 1) := by decide +kernel
theorem dX10_overIn_77 : decode cX10_overIn 77 = .ok (.invokevirtual 137, 3) := by decide +kernel
theorem dX10_overIn_80 : decode cX10_overIn 80 = .ok (.iinc 4 1, 3) := by decide +kernel
theorem dX10_overIn_83 : decode cX10_overIn 83 = .ok (.goto (-39), 3) := by decide +kernel
theorem dX10_overIn_86 : decode cX10_overIn 86 = .ok (.iconst (-1), 1) := by decide +kernel
theorem dX10_overIn_87 : decode cX10_overIn 87 = .ok (.ireturn, 1) := by decide +kernel
set_option maxRecDepth 20000 in
theorem ggX10_valueIn_X10_isNoTask : GoodIn wsX10_valueIn wsX10_isNoTask := goodIn_r _ [9, 1, 2, 10, 11, 12, 13, 14, 15, 16, 17, 8, 18, 19, 20, 21, 22, 23, 24, 25, 26, 27, 357, 358, 359, 360, 361, 362, 363, 364, 365, 366, 367, 378, 379, 380] (by decide +kernel) (by decide +kernel)
set_option maxRecDepth 20000 in
theorem gX10_valueIn_X10_isNoTask : GoodIn wsX10_valueIn (wsV RX10 117 RX10 yX10_isNoTask wsX10_isNoTask) := goodIn_app (goodIn_of _ (by decide +kernel)) ggX10_valueIn_X10_isNoTask
set_option maxRecDepth 20000 in
theorem ggX10_valueIn_X10_isIn : GoodIn wsX10_valueIn wsX10_isIn := goodIn_r _ [18] (by decide +kernel) (by decide +kernel)
set_option maxRecDepth 20000 in
theorem gX10_valueIn_X10_isIn : GoodIn wsX10_valueIn (va_wsS RX10 56 yX10_isIn wsX10_isIn) := goodIn_app (goodIn_of _ (by decide +kernel)) ggX10_valueIn_X10_isIn
set_option maxRecDepth 20000 in
theorem ggX10_valueIn_X10_refuse : GoodIn wsX10_valueIn wsX10_refuse := goodIn_r _ [27, 23, 357, 358, 359] (by decide +kernel) (by decide +kernel)
set_option maxRecDepth 20000 in
theorem gX10_valueIn_X10_refuse : GoodIn wsX10_valueIn (wsV RX10 45 RX10 yX10_refuse wsX10_refuse) := goodIn_app (goodIn_of _ (by decide +kernel)) ggX10_valueIn_X10_refuse
set_option maxRecDepth 20000 in
theorem ggX10_valueIn_X7_copy : GoodIn wsX10_valueIn wsX7_copy := goodIn_r _ [32, 33, 34, 31, 35, 36, 37, 38, 39, 40, 41, 13, 42, 43, 44, 45, 46, 47, 48, 49, 50, 51, 52, 53, 54, 55, 56, 57, 58, 59, 60, 61, 62, 63, 64, 65, 66, 67, 68, 69, 70, 71, 72, 73, 74, 75, 76, 77, 78, 79, 80, 81, 82, 83, 84, 85, 86, 87, 88, 89, 90, 91, 92, 93, 15, 94, 95, 96, 97, 98, 99, 100, 101, 102, 103, 104, 105, 106, 107, 108, 109, 110, 111, 112, 113, 114, 115, 116, 117, 118, 119, 120, 121, 122, 123, 124, 125, 126, 127, 128, 129, 130, 131, 132, 133, 134, 135, 136, 137, 138, 139, 140, 11, 12, 14, 141, 142, 143, 144, 145, 146, 147, 148, 149, 150, 151, 152, 153, 154, 155, 156, 157, 158, 159, 160, 161, 162, 163, 164, 165, 166, 167, 168, 169, 170, 171, 172, 173, 174, 175, 176, 177, 178, 179, 180, 181, 182, 183, 184, 185, 186, 187, 188, 189, 190, 191, 192, 193, 194, 195, 196, 197, 198, 199, 360, 361, 362, 363, 364, 365, 366, 367, 378, 379, 380, 381, 382, 383, 384, 368, 369, 370, 371, 372, 373, 374, 375, 376, 377] (by decide +kernel) (by decide +kernel)
set_option maxRecDepth 20000 in
theorem gX10_valueIn_X7_copy : GoodIn wsX10_valueIn (wsV RX10 209 RX7 yX7_copy wsX7_copy) := goodIn_app (goodIn_of _ (by decide +kernel)) ggX10_valueIn_X7_copy
set_option maxRecDepth 20000 in
theorem ggX10_valueIn_X7_tick : GoodIn wsX10_valueIn wsX7_tick := goodIn_r _ [203, 38, 39, 204, 52, 140, 11, 12, 13, 14, 15, 205, 206, 207, 31, 208, 36, 37, 209, 210, 211, 212, 49, 141, 142, 143, 144, 145, 146, 147, 148, 149, 150, 151, 152, 153, 154, 155, 156, 68, 213, 214, 215, 216, 50, 217, 218, 219, 63, 220, 84, 221, 222, 223, 224, 225, 226, 227, 228, 229, 230, 231, 232, 233, 234, 235, 236, 160, 237, 168, 238, 239, 240, 241, 242, 243, 42, 244, 245, 246, 247, 248, 249, 51, 250, 251, 252, 253, 254, 255, 256, 257, 258, 92, 93, 259, 137, 138, 139, 260, 261, 262, 263, 264, 265, 266, 267, 268, 269, 270, 271, 272, 273, 274, 275, 57, 58, 88, 89, 90, 91, 94, 95, 96, 97, 98, 99, 100, 101, 102, 103, 104, 105, 67, 106, 107, 108, 109, 110, 111, 112, 113, 114, 115, 116, 117, 118, 119, 120, 121, 122, 123, 124, 125, 126, 127, 128, 129, 130, 131, 132, 133, 134, 135, 136, 276, 277, 278, 279, 280, 281, 282, 283, 35, 284, 285, 286, 287, 288, 289, 290, 43, 60, 291, 292, 293, 294, 295, 296, 297, 298, 8, 299, 300, 10, 301, 302, 303, 304, 305, 306, 307, 308, 309, 310, 311, 312, 313, 314, 315, 316, 317, 318, 319, 163, 320, 176, 177, 178, 166, 41, 167, 173, 164, 165, 179, 65, 66, 69, 70, 71, 72, 73, 74, 75, 76, 77, 78, 321, 322, 323, 324, 325, 326, 327, 328, 329, 330, 331, 332, 333, 334, 335, 336, 337, 338, 339, 340, 341, 342, 169, 343, 344, 345, 346, 347, 348, 349, 350, 351, 352, 353, 354, 355, 356, 360, 361, 362, 363, 364, 365, 366, 367, 381, 382, 383, 384, 378, 379, 380, 368, 369, 370, 371, 372, 373, 374, 375, 376, 377, 385] (by decide +kernel) (by decide +kernel)
set_option maxRecDepth 20000 in
theorem gX10_valueIn_X7_tick : GoodIn wsX10_valueIn (wsV RX10 137 RX7 yX7_tick wsX7_tick) := goodIn_app (goodIn_of _ (by decide +kernel)) ggX10_valueIn_X7_tick
set_option maxRecDepth 20000 in
theorem ggX10_valueIn_Jx4a65c_get_915e3 : GoodIn wsX10_valueIn wsJx4a65c_get_915e3 := goodIn_r _ [144, 15, 145, 146, 147, 148, 149, 150, 151, 152, 153, 154, 155, 13, 156, 68, 378, 379, 380] (by decide +kernel) (by decide +kernel)
set_option maxRecDepth 20000 in
theorem gX10_valueIn_Jx4a65c_get_915e3 : GoodIn wsX10_valueIn (wsV RX10 7 RJx4a65c yJx4a65c_get_915e3 wsJx4a65c_get_915e3) := goodIn_app (goodIn_of _ (by decide +kernel)) ggX10_valueIn_Jx4a65c_get_915e3
theorem dX10_valueIn_0 : decode cX10_valueIn 0 = .ok (.aload_n 0, 1) := by decide +kernel
theorem dX10_valueIn_1 : decode cX10_valueIn 1 = .ok (.iload_n 1, 1) := by decide +kernel
theorem dX10_valueIn_2 : decode cX10_valueIn 2 = .ok (.invokevirtual 117, 3) := by decide +kernel
theorem dX10_valueIn_5 : decode cX10_valueIn 5 = .ok (.ifCond .ne 26, 3) := by decide +kernel
theorem dX10_valueIn_8 : decode cX10_valueIn 8 = .ok (.aload_n 0, 1) := by decide +kernel
theorem dX10_valueIn_9 : decode cX10_valueIn 9 = .ok (.iload_n 2, 1) := by decide +kernel
theorem dX10_valueIn_10 : decode cX10_valueIn 10 = .ok (.iconst 1, 1) := by decide +kernel
theorem dX10_valueIn_11 : decode cX10_valueIn 11 = .ok (.bipush 60, 2) := by decide +kernel
theorem dX10_valueIn_13 : decode cX10_valueIn 13 = .ok (.invokestatic 56, 3) := by decide +kernel
theorem dX10_valueIn_16 : decode cX10_valueIn 16 = .ok (.ifCond .ne 7, 3) := by decide +kernel
theorem dX10_valueIn_19 : decode cX10_valueIn 19 = .ok (.iconst 1, 1) := by decide +kernel
theorem dX10_valueIn_20 : decode cX10_valueIn 20 = .ok (.goto 4, 3) := by decide +kernel
theorem dX10_valueIn_23 : decode cX10_valueIn 23 = .ok (.iconst 0, 1) := by decide +kernel
theorem dX10_valueIn_24 : decode cX10_valueIn 24 = .ok (.iconst 2, 1) := by decide +kernel
theorem dX10_valueIn_25 : decode cX10_valueIn 25 = .ok (.invokevirtual 45, 3) := by decide +kernel
theorem dX10_valueIn_28 : decode cX10_valueIn 28 = .ok (.ifCond .eq 5, 3) := by decide +kernel
theorem dX10_valueIn_31 : decode cX10_valueIn 31 = .ok (.iconst 0, 1) := by decide +kernel
theorem dX10_valueIn_32 : decode cX10_valueIn 32 = .ok (.ireturn, 1) := by decide +kernel
theorem dX10_valueIn_33 : decode cX10_valueIn 33 = .ok (.aload_n 0, 1) := by decide +kernel
theorem dX10_valueIn_34 : decode cX10_valueIn 34 = .ok (.getfield 37, 3) := by decide +kernel
theorem dX10_valueIn_37 : decode cX10_valueIn 37 = .ok (.invokevirtual 209, 3) := by decide +kernel
theorem dX10_valueIn_40 : decode cX10_valueIn 40 = .ok (.astore_n 3, 1) := by decide +kernel
theorem dX10_valueIn_41 : decode cX10_valueIn 41 = .ok (.iconst 0, 1) := by decide +kernel
theorem dX10_valueIn_42 : decode cX10_valueIn 42 = .ok (.istore 4, 2) := by decide +kernel
theorem dX10_valueIn_44 : decode cX10_valueIn 44 = .ok (.iload 4, 2) := by decide +kernel
theorem dX10_valueIn_46 : decode cX10_valueIn 46 = .ok (.iload_n 2, 1) := by decide +kernel
theorem dX10_valueIn_47 : decode cX10_valueIn 47 = .ok (.if_icmp .ge 13, 3) := by decide +kernel
theorem dX10_valueIn_50 : decode cX10_valueIn 50 = .ok (.aload_n 3, 1) := by decide +kernel
theorem dX10_valueIn_51 : decode cX10_valueIn 51 = .ok (.invokevirtual 137, 3) := by decide +kernel
theorem dX10_valueIn_54 : decode cX10_valueIn 54 = .ok (.iinc 4 1, 3) := by decide +kernel
theorem dX10_valueIn_57 : decode cX10_valueIn 57 = .ok (.goto (-13), 3) := by decide +kernel
theorem dX10_valueIn_60 : decode cX10_valueIn 60 = .ok (.aload_n 3, 1) := by decide +kernel
theorem dX10_valueIn_61 : decode cX10_valueIn 61 = .ok (.getfield 60, 3) := by decide +kernel
theorem dX10_valueIn_64 : decode cX10_valueIn 64 = .ok (.iload_n 1, 1) := by decide +kernel
theorem dX10_valueIn_65 : decode cX10_valueIn 65 = .ok (.invokevirtual 7, 3) := by decide +kernel
theorem dX10_valueIn_68 : decode cX10_valueIn 68 = .ok (.checkcast 63, 3) := by decide +kernel
theorem dX10_valueIn_71 : decode cX10_valueIn 71 = .ok (.getfield 152, 3) := by decide +kernel
theorem dX10_valueIn_74 : decode cX10_valueIn 74 = .ok (.ireturn, 1) := by decide +kernel
set_option maxRecDepth 20000 in
theorem ggX10_haltsIn_X10_isIn : GoodIn wsX10_haltsIn wsX10_isIn := goodIn_r _ [5] (by decide +kernel) (by decide +kernel)
set_option maxRecDepth 20000 in
theorem gX10_haltsIn_X10_isIn : GoodIn wsX10_haltsIn (va_wsS RX10 56 yX10_isIn wsX10_isIn) := goodIn_app (goodIn_of _ (by decide +kernel)) ggX10_haltsIn_X10_isIn
set_option maxRecDepth 20000 in
theorem ggX10_haltsIn_X10_start : GoodIn wsX10_haltsIn wsX10_start := goodIn_r _ [9, 10, 11, 12, 13, 4, 14, 362, 363, 364] (by decide +kernel) (by decide +kernel)
set_option maxRecDepth 20000 in
theorem gX10_haltsIn_X10_start : GoodIn wsX10_haltsIn (wsV RX10 49 RX10 yX10_start wsX10_start) := goodIn_app (goodIn_of _ (by decide +kernel)) ggX10_haltsIn_X10_start
set_option maxRecDepth 20000 in
theorem ggX10_haltsIn_X7_copy : GoodIn wsX10_haltsIn wsX7_copy := goodIn_r _ [19, 20, 21, 18, 22, 23, 24, 25, 26, 27, 28, 29, 30, 31, 32, 33, 34, 35, 36, 37, 38, 39, 40, 41, 42, 43, 44, 45, 46, 47, 48, 49, 50, 51, 52, 53, 54, 55, 56, 57, 58, 59, 60, 61, 62, 63, 64, 65, 66, 67, 68, 69, 70, 71, 72, 73, 74, 75, 76, 77, 78, 79, 80, 81, 82, 83, 84, 85, 86, 87, 88, 89, 90, 91, 92, 93, 94, 95, 96, 97, 98, 99, 100, 101, 102, 103, 104, 105, 106, 107, 108, 109, 110, 111, 112, 113, 114, 115, 116, 117, 118, 119, 120, 121, 122, 123, 124, 125, 126, 127, 128, 129, 130, 131, 132, 133, 134, 135, 136, 137, 138, 139, 140, 141, 142, 143, 144, 145, 146, 147, 148, 149, 150, 151, 152, 153, 154, 155, 156, 157, 158, 159, 160, 161, 162, 163, 164, 165, 166, 167, 168, 169, 170, 171, 172, 173, 174, 175, 176, 177, 178, 179, 180, 181, 182, 183, 184, 185, 186, 187, 188, 189, 190, 191, 365, 366, 367, 368, 369, 370, 371, 372, 373, 374, 375, 376, 377, 378, 379, 380, 381, 382, 383, 384, 385, 386, 387, 388, 389] (by decide +kernel) (by decide +kernel)
set_option maxRecDepth 20000 in
theorem gX10_haltsIn_X7_copy : GoodIn wsX10_haltsIn (wsV RX10 209 RX7 yX7_copy wsX7_copy) := goodIn_app (goodIn_of _ (by decide +kernel)) ggX10_haltsIn_X7_copy
set_option maxRecDepth 20000 in
theorem ggX10_haltsIn_X7_isHalted : GoodIn wsX10_haltsIn wsX7_isHalted := goodIn_r _ [195, 25, 129, 130, 131, 29, 132, 82, 196, 197, 198, 18, 199, 26, 200, 30, 23, 24, 201, 202, 203, 204, 38, 133, 134, 135, 136, 137, 138, 139, 140, 141, 142, 143, 144, 145, 146, 147, 148, 56, 205, 206, 207, 51, 208, 72, 209, 210, 211, 212, 213, 214, 215, 216, 217, 218, 219, 220, 221, 222, 223, 224, 152, 225, 160, 226, 227, 228, 229, 230, 39, 231, 232, 233, 234, 235, 236, 237, 238, 365, 366, 367, 368, 369, 370, 371, 372, 373, 374, 375, 376, 377, 378, 379, 390, 380, 381, 382, 383, 384, 385, 386, 387, 388, 389] (by decide +kernel) (by decide +kernel)
set_option maxRecDepth 20000 in
theorem gX10_haltsIn_X7_isHalted : GoodIn wsX10_haltsIn (wsV RX10 203 RX7 yX7_isHalted wsX7_isHalted) := goodIn_app (goodIn_of _ (by decide +kernel)) ggX10_haltsIn_X7_isHalted
set_option maxRecDepth 20000 in
theorem ggX10_haltsIn_X7_tick : GoodIn wsX10_haltsIn wsX7_tick := goodIn_r _ [242, 25, 26, 243, 40, 129, 130, 131, 29, 132, 82, 244, 245, 246, 18, 247, 23, 24, 248, 249, 250, 251, 37, 133, 134, 135, 136, 137, 138, 139, 140, 141, 142, 143, 144, 145, 146, 147, 148, 56, 201, 202, 203, 204, 38, 205, 206, 207, 51, 208, 72, 209, 210, 211, 212, 213, 214, 215, 216, 217, 218, 219, 220, 221, 222, 223, 224, 152, 225, 160, 252, 253, 254, 255, 200, 256, 30, 257, 258, 227, 228, 229, 230, 39, 226, 259, 260, 261, 262, 263, 264, 265, 266, 80, 81, 267, 126, 127, 128, 268, 269, 270, 271, 272, 273, 274, 275, 276, 277, 278, 279, 280, 281, 282, 283, 45, 46, 76, 77, 78, 79, 83, 84, 85, 86, 87, 88, 89, 90, 91, 92, 93, 94, 55, 95, 96, 97, 98, 99, 100, 101, 102, 103, 104, 105, 106, 107, 108, 109, 110, 111, 112, 113, 114, 115, 116, 117, 118, 119, 120, 121, 122, 123, 124, 125, 284, 285, 286, 287, 288, 289, 290, 291, 22, 292, 293, 294, 295, 296, 297, 298, 31, 48, 299, 300, 301, 302, 303, 304, 305, 306, 4, 307, 308, 309, 310, 311, 312, 313, 314, 315, 316, 317, 318, 319, 320, 321, 322, 323, 324, 325, 326, 327, 328, 155, 329, 168, 169, 170, 158, 28, 159, 165, 156, 157, 171, 53, 54, 57, 58, 59, 60, 61, 62, 63, 64, 65, 66, 330, 331, 332, 333, 334, 335, 336, 337, 235, 236, 237, 238, 338, 339, 340, 341, 342, 343, 344, 345, 346, 347, 161, 348, 349, 350, 351, 352, 353, 354, 355, 356, 357, 358, 359, 360, 361, 365, 366, 367, 368, 369, 370, 371, 372, 376, 377, 378, 379, 373, 374, 375, 380, 381, 382, 383, 384, 385, 386, 387, 388, 389, 390] (by decide +kernel) (by decide +kernel)
set_option maxRecDepth 20000 in
theorem gX10_haltsIn_X7_tick : GoodIn wsX10_haltsIn (wsV RX10 137 RX7 yX7_tick wsX7_tick) := goodIn_app (goodIn_of _ (by decide +kernel)) ggX10_haltsIn_X7_tick
theorem dX10_haltsIn_0 : decode cX10_haltsIn 0 = .ok (.aload_n 0, 1) := by decide +kernel
theorem dX10_haltsIn_1 : decode cX10_haltsIn 1 = .ok (.iload_n 1, 1) := by decide +kernel
theorem dX10_haltsIn_2 : decode cX10_haltsIn 2 = .ok (.iconst 1, 1) := by decide +kernel
theorem dX10_haltsIn_3 : decode cX10_haltsIn 3 = .ok (.bipush 60, 2) := by decide +kernel
theorem dX10_haltsIn_5 : decode cX10_haltsIn 5 = .ok (.invokestatic 56, 3) := by decide +kernel
theorem dX10_haltsIn_8 : decode cX10_haltsIn 8 = .ok (.ifCond .ne 7, 3) := by decide +kernel
theorem dX10_haltsIn_11 : decode cX10_haltsIn 11 = .ok (.iconst 1, 1) := by decide +kernel
theorem dX10_haltsIn_12 : decode cX10_haltsIn 12 = .ok (.goto 4, 3) := by decide +kernel
theorem dX10_haltsIn_15 : decode cX10_haltsIn 15 = .ok (.iconst 0, 1) := by decide +kernel
theorem dX10_haltsIn_16 : decode cX10_haltsIn 16 = .ok (.iconst 1, 1) := by decide +kernel
theorem dX10_haltsIn_17 : decode cX10_haltsIn 17 = .ok (.invokevirtual 49, 3) := by decide +kernel
theorem dX10_haltsIn_20 : decode cX10_haltsIn 20 = .ok (.ifCond .eq 5, 3) := by decide +kernel
theorem dX10_haltsIn_23 : decode cX10_haltsIn 23 = .ok (.iconst 0, 1) := by decide +kernel
theorem dX10_haltsIn_24 : decode cX10_haltsIn 24 = .ok (.ireturn, 1) := by decide +kernel
theorem dX10_haltsIn_25 : decode cX10_haltsIn 25 = .ok (.aload_n 0, 1) := by decide +kernel
theorem dX10_haltsIn_26 : decode cX10_haltsIn 26 = .ok (.getfield 37, 3) := by decide +kernel
theorem dX10_haltsIn_29 : decode cX10_haltsIn 29 = .ok (.invokevirtual 209, 3) := by decide +kernel
theorem dX10_haltsIn_32 : decode cX10_haltsIn 32 = .ok (.astore_n 2, 1) := by decide +kernel
theorem dX10_haltsIn_33 : decode cX10_haltsIn 33 = .ok (.iconst 0, 1) := by decide +kernel
theorem dX10_haltsIn_34 : decode cX10_haltsIn 34 = .ok (.istore_n 3, 1) := by decide +kernel
theorem dX10_haltsIn_35 : decode cX10_haltsIn 35 = .ok (.iload_n 3, 1) := by decide +kernel
theorem dX10_haltsIn_36 : decode cX10_haltsIn 36 = .ok (.iload_n 1, 1) := by decide +kernel
theorem dX10_haltsIn_37 : decode cX10_haltsIn 37 = .ok (.if_icmp .gt 27, 3) := by decide +kernel
theorem dX10_haltsIn_40 : decode cX10_haltsIn 40 = .ok (.aload_n 2, 1) := by decide +kernel
theorem dX10_haltsIn_41 : decode cX10_haltsIn 41 = .ok (.invokevirtual 203, 3) := by decide +kernel
theorem dX10_haltsIn_44 : decode cX10_haltsIn 44 = .ok (.ifCond .eq 5, 3) := by decide +kernel
theorem dX10_haltsIn_47 : decode cX10_haltsIn 47 = .ok (.iload_n 3, 1) := by decide +kernel
theorem dX10_haltsIn_48 : decode cX10_haltsIn 48 = .ok (.ireturn, 1) := by decide +kernel
theorem dX10_haltsIn_49 : decode cX10_haltsIn 49 = .ok (.iload_n 3, 1) := by decide +kernel
theorem dX10_haltsIn_50 : decode cX10_haltsIn 50 = .ok (.iload_n 1, 1) := by decide +kernel
theorem dX10_haltsIn_51 : decode cX10_haltsIn 51 = .ok (.if_icmp .ge 7, 3) := by decide +kernel
theorem dX10_haltsIn_54 : decode cX10_haltsIn 54 = .ok (.aload_n 2, 1) := by decide +kernel
theorem dX10_haltsIn_55 : decode cX10_haltsIn 55 = .ok (.invokevirtual 137, 3) := by decide +kernel
theorem dX10_haltsIn_58 : decode cX10_haltsIn 58 = .ok (.iinc 3 1, 3) := by decide +kernel
theorem dX10_haltsIn_61 : decode cX10_haltsIn 61 = .ok (.goto (-26), 3) := by decide +kernel
theorem dX10_haltsIn_64 : decode cX10_haltsIn 64 = .ok (.iconst (-1), 1) := by decide +kernel
theorem dX10_haltsIn_65 : decode cX10_haltsIn 65 = .ok (.ireturn, 1) := by decide +kernel
set_option maxRecDepth 20000 in
theorem ggX10_alone_X10_isNoJob : GoodIn wsX10_alone wsX10_isNoJob := goodIn_r _ [13, 4, 14, 15, 16, 17, 18, 19, 20, 21, 12, 22, 332, 333, 334, 335, 336, 337] (by decide +kernel) (by decide +kernel)
set_option maxRecDepth 20000 in
theorem gX10_alone_X10_isNoJob : GoodIn wsX10_alone (wsV RX10 68 RX10 yX10_isNoJob wsX10_isNoJob) := goodIn_app (goodIn_of _ (by decide +kernel)) ggX10_alone_X10_isNoJob
set_option maxRecDepth 20000 in
theorem ggX10_alone_X10_start : GoodIn wsX10_alone wsX10_start := goodIn_r _ [26, 27, 28, 29, 30, 12, 31, 332, 333, 334] (by decide +kernel) (by decide +kernel)
set_option maxRecDepth 20000 in
theorem gX10_alone_X10_start : GoodIn wsX10_alone (wsV RX10 49 RX10 yX10_start wsX10_start) := goodIn_app (goodIn_of _ (by decide +kernel)) ggX10_alone_X10_start
set_option maxRecDepth 20000 in
theorem ggX10_alone_X10_isIn : GoodIn wsX10_alone wsX10_isIn := goodIn_r _ [22] (by decide +kernel) (by decide +kernel)
set_option maxRecDepth 20000 in
theorem gX10_alone_X10_isIn : GoodIn wsX10_alone (va_wsS RX10 56 yX10_isIn wsX10_isIn) := goodIn_app (goodIn_of _ (by decide +kernel)) ggX10_alone_X10_isIn
set_option maxRecDepth 20000 in
theorem ggX10_alone_X10_refuse : GoodIn wsX10_alone wsX10_refuse := goodIn_r _ [31, 27, 332, 333, 334] (by decide +kernel) (by decide +kernel)
set_option maxRecDepth 20000 in
theorem gX10_alone_X10_refuse : GoodIn wsX10_alone (wsV RX10 45 RX10 yX10_refuse wsX10_refuse) := goodIn_app (goodIn_of _ (by decide +kernel)) ggX10_alone_X10_refuse
set_option maxRecDepth 20000 in
theorem ggX10_alone_X7_init : GoodIn wsX10_alone wsX7_init := goodIn_r _ [34, 35, 36, 37, 38, 39, 17, 40, 41, 42, 43, 44, 45, 46, 47, 48, 49, 50, 51, 52, 53, 54, 55, 56, 57, 58, 59, 60, 61, 62, 63, 64, 65, 66, 67, 68, 69, 70, 71, 72, 73, 74, 75, 76, 77, 78, 79, 19, 80, 81, 82, 83, 84, 85, 86, 87, 88, 89, 90, 91, 92, 93, 94, 95, 96, 97, 98, 99, 100, 101, 102, 103, 104, 105, 106, 107, 108, 109, 110, 111, 112, 113, 114, 115, 116, 117, 118, 119, 120, 121, 122, 123, 124, 125, 335, 336, 337, 324, 325, 326, 327, 328, 329, 330, 331, 338, 339, 340, 341] (by decide +kernel) (by decide +kernel)
set_option maxRecDepth 20000 in
theorem gX10_alone_X7_init : GoodIn wsX10_alone (wsX7_init) := ggX10_alone_X7_init
set_option maxRecDepth 20000 in
theorem ggX10_alone_X7_tick : GoodIn wsX10_alone wsX7_tick := goodIn_r _ [164, 41, 165, 166, 167, 133, 15, 16, 17, 18, 19, 168, 169, 170, 3, 171, 40, 172, 173, 174, 175, 176, 177, 178, 179, 180, 181, 182, 183, 184, 185, 186, 187, 188, 189, 190, 191, 192, 193, 54, 194, 195, 196, 197, 198, 199, 200, 201, 49, 202, 70, 203, 204, 205, 206, 207, 208, 209, 210, 211, 212, 146, 213, 155, 214, 215, 216, 132, 217, 218, 219, 220, 221, 222, 223, 224, 42, 225, 226, 227, 228, 229, 230, 231, 232, 233, 234, 235, 236, 237, 238, 239, 240, 78, 79, 241, 123, 124, 125, 242, 144, 145, 147, 148, 149, 150, 151, 152, 153, 154, 156, 157, 158, 159, 160, 36, 37, 74, 75, 76, 77, 80, 81, 82, 83, 84, 85, 86, 87, 88, 89, 90, 91, 53, 92, 93, 94, 95, 96, 97, 98, 99, 100, 101, 102, 103, 104, 105, 106, 107, 108, 109, 110, 111, 112, 113, 114, 115, 116, 117, 118, 119, 120, 121, 122, 243, 244, 245, 246, 247, 248, 249, 250, 45, 251, 252, 253, 254, 255, 256, 257, 44, 46, 258, 259, 260, 261, 262, 263, 264, 265, 12, 266, 267, 14, 268, 269, 270, 271, 272, 273, 274, 275, 276, 277, 278, 279, 280, 281, 282, 127, 128, 129, 130, 131, 134, 135, 136, 137, 138, 39, 139, 140, 141, 142, 143, 51, 52, 55, 56, 57, 58, 59, 60, 61, 62, 63, 64, 283, 284, 285, 286, 287, 288, 289, 290, 291, 292, 293, 294, 295, 296, 297, 298, 299, 300, 301, 302, 303, 304, 305, 306, 307, 308, 309, 310, 311, 312, 313, 314, 315, 316, 317, 318, 319, 324, 325, 326, 327, 328, 329, 330, 331, 338, 339, 340, 341, 335, 336, 337, 342, 343, 344, 345, 346, 347, 348, 349, 350, 351, 352] (by decide +kernel) (by decide +kernel)
set_option maxRecDepth 20000 in
theorem gX10_alone_X7_tick : GoodIn wsX10_alone (wsV RX10 137 RX7 yX7_tick wsX7_tick) := goodIn_app (goodIn_of _ (by decide +kernel)) ggX10_alone_X7_tick
set_option maxRecDepth 20000 in
theorem ggX10_alone_X7_open : GoodIn wsX10_alone wsX7_open := goodIn_r _ [323, 40, 172, 133, 15, 16, 17, 18, 19, 178, 179, 180, 181, 182, 183, 184, 185, 186, 187, 188, 189, 190, 191, 192, 193, 54, 291, 292, 293, 132, 294, 218, 324, 325, 326, 327, 328, 329, 330, 331, 335, 336, 337, 342, 343, 344, 345, 346, 347, 348, 349, 350, 351] (by decide +kernel) (by decide +kernel)
set_option maxRecDepth 20000 in
theorem gX10_alone_X7_open : GoodIn wsX10_alone (wsV RX10 140 RX7 yX7_open wsX7_open) := goodIn_app (goodIn_of _ (by decide +kernel)) ggX10_alone_X7_open
theorem dX10_alone_0 : decode cX10_alone 0 = .ok (.aload_n 0, 1) := by decide +kernel
theorem dX10_alone_1 : decode cX10_alone 1 = .ok (.aload_n 0, 1) := by decide +kernel
theorem dX10_alone_2 : decode cX10_alone 2 = .ok (.iload_n 1, 1) := by decide +kernel
theorem dX10_alone_3 : decode cX10_alone 3 = .ok (.invokevirtual 68, 3) := by decide +kernel
theorem dX10_alone_6 : decode cX10_alone 6 = .ok (.iconst 1, 1) := by decide +kernel
theorem dX10_alone_7 : decode cX10_alone 7 = .ok (.invokevirtual 49, 3) := by decide +kernel
theorem dX10_alone_10 : decode cX10_alone 10 = .ok (.ifCond .ne 34, 3) := by decide +kernel
theorem dX10_alone_13 : decode cX10_alone 13 = .ok (.aload_n 0, 1) := by decide +kernel
theorem dX10_alone_14 : decode cX10_alone 14 = .ok (.iload_n 2, 1) := by decide +kernel
theorem dX10_alone_15 : decode cX10_alone 15 = .ok (.iconst 1, 1) := by decide +kernel
theorem dX10_alone_16 : decode cX10_alone 16 = .ok (.iconst 5, 1) := by decide +kernel
theorem dX10_alone_17 : decode cX10_alone 17 = .ok (.invokestatic 56, 3) := by decide +kernel
theorem dX10_alone_20 : decode cX10_alone 20 = .ok (.ifCond .eq 12, 3) := by decide +kernel
theorem dX10_alone_23 : decode cX10_alone 23 = .ok (.iload_n 3, 1) := by decide +kernel
theorem dX10_alone_24 : decode cX10_alone 24 = .ok (.iconst 0, 1) := by decide +kernel
theorem dX10_alone_25 : decode cX10_alone 25 = .ok (.iconst 2, 1) := by decide +kernel
theorem dX10_alone_26 : decode cX10_alone 26 = .ok (.invokestatic 56, 3) := by decide +kernel
theorem dX10_alone_29 : decode cX10_alone 29 = .ok (.ifCond .ne 7, 3) := by decide +kernel
theorem dX10_alone_32 : decode cX10_alone 32 = .ok (.iconst 1, 1) := by decide +kernel
theorem dX10_alone_33 : decode cX10_alone 33 = .ok (.goto 4, 3) := by decide +kernel
theorem dX10_alone_36 : decode cX10_alone 36 = .ok (.iconst 0, 1) := by decide +kernel
theorem dX10_alone_37 : decode cX10_alone 37 = .ok (.iconst 2, 1) := by decide +kernel
theorem dX10_alone_38 : decode cX10_alone 38 = .ok (.invokevirtual 45, 3) := by decide +kernel
theorem dX10_alone_41 : decode cX10_alone 41 = .ok (.ifCond .eq 5, 3) := by decide +kernel
theorem dX10_alone_44 : decode cX10_alone 44 = .ok (.iconst 0, 1) := by decide +kernel
theorem dX10_alone_45 : decode cX10_alone 45 = .ok (.ireturn, 1) := by decide +kernel
theorem dX10_alone_46 : decode cX10_alone 46 = .ok (.new 32, 3) := by decide +kernel
theorem dX10_alone_49 : decode cX10_alone 49 = .ok (.dup, 1) := by decide +kernel
theorem dX10_alone_50 : decode cX10_alone 50 = .ok (.aload_n 0, 1) := by decide +kernel
theorem dX10_alone_51 : decode cX10_alone 51 = .ok (.getfield 26, 3) := by decide +kernel
theorem dX10_alone_54 : decode cX10_alone 54 = .ok (.iload_n 2, 1) := by decide +kernel
theorem dX10_alone_55 : decode cX10_alone 55 = .ok (.invokespecial 34, 3) := by decide +kernel
theorem dX10_alone_58 : decode cX10_alone 58 = .ok (.astore 4, 2) := by decide +kernel
theorem dX10_alone_60 : decode cX10_alone 60 = .ok (.aload 4, 2) := by decide +kernel
theorem dX10_alone_62 : decode cX10_alone 62 = .ok (.iload_n 3, 1) := by decide +kernel
theorem dX10_alone_63 : decode cX10_alone 63 = .ok (.putfield 104, 3) := by decide +kernel
theorem dX10_alone_66 : decode cX10_alone 66 = .ok (.aload 4, 2) := by decide +kernel
theorem dX10_alone_68 : decode cX10_alone 68 = .ok (.aload_n 0, 1) := by decide +kernel
theorem dX10_alone_69 : decode cX10_alone 69 = .ok (.getfield 37, 3) := by decide +kernel
theorem dX10_alone_72 : decode cX10_alone 72 = .ok (.getfield 107, 3) := by decide +kernel
theorem dX10_alone_75 : decode cX10_alone 75 = .ok (.putfield 107, 3) := by decide +kernel
theorem dX10_alone_78 : decode cX10_alone 78 = .ok (.aload 4, 2) := by decide +kernel
theorem dX10_alone_80 : decode cX10_alone 80 = .ok (.iload_n 1, 1) := by decide +kernel
theorem dX10_alone_81 : decode cX10_alone 81 = .ok (.iconst (-1), 1) := by decide +kernel
theorem dX10_alone_82 : decode cX10_alone 82 = .ok (.aload 4, 2) := by decide +kernel
theorem dX10_alone_84 : decode cX10_alone 84 = .ok (.getfield 110, 3) := by decide +kernel
theorem dX10_alone_87 : decode cX10_alone 87 = .ok (.invokevirtual 113, 3) := by decide +kernel
theorem dX10_alone_90 : decode cX10_alone 90 = .ok (.pop, 1) := by decide +kernel
theorem dX10_alone_91 : decode cX10_alone 91 = .ok (.iconst 1, 1) := by decide +kernel
theorem dX10_alone_92 : decode cX10_alone 92 = .ok (.istore 5, 2) := by decide +kernel
theorem dX10_alone_94 : decode cX10_alone 94 = .ok (.iload 5, 2) := by decide +kernel
theorem dX10_alone_96 : decode cX10_alone 96 = .ok (.bipush 60, 2) := by decide +kernel
theorem dX10_alone_98 : decode cX10_alone 98 = .ok (.if_icmp .gt 25, 3) := by decide +kernel
theorem dX10_alone_101 : decode cX10_alone 101 = .ok (.aload 4, 2) := by decide +kernel
theorem dX10_alone_103 : decode cX10_alone 103 = .ok (.invokevirtual 137, 3) := by decide +kernel
theorem dX10_alone_106 : decode cX10_alone 106 = .ok (.aload 4, 2) := by decide +kernel
theorem dX10_alone_108 : decode cX10_alone 108 = .ok (.invokevirtual 140, 3) := by decide +kernel
theorem dX10_alone_111 : decode cX10_alone 111 = .ok (.ifCond .ne 6, 3) := by decide +kernel
theorem dX10_alone_114 : decode cX10_alone 114 = .ok (.iload 5, 2) := by decide +kernel
theorem dX10_alone_116 : decode cX10_alone 116 = .ok (.ireturn, 1) := by decide +kernel
theorem dX10_alone_117 : decode cX10_alone 117 = .ok (.iinc 5 1, 3) := by decide +kernel
theorem dX10_alone_120 : decode cX10_alone 120 = .ok (.goto (-26), 3) := by decide +kernel
theorem dX10_alone_123 : decode cX10_alone 123 = .ok (.iconst (-1), 1) := by decide +kernel
theorem dX10_alone_124 : decode cX10_alone 124 = .ok (.ireturn, 1) := by decide +kernel
set_option maxRecDepth 20000 in
theorem ggX10_addRow_Jx4a65c_size_8abf5 : GoodIn wsX10_addRow wsJx4a65c_size_8abf5 := goodIn_r _ [6, 7, 36, 37, 38] (by decide +kernel) (by decide +kernel)
set_option maxRecDepth 20000 in
theorem gX10_addRow_Jx4a65c_size_8abf5 : GoodIn wsX10_addRow (wsV RX10 1 RJx4a65c yJx4a65c_size_8abf5 wsJx4a65c_size_8abf5) := goodIn_app (goodIn_of _ (by decide +kernel)) ggX10_addRow_Jx4a65c_size_8abf5
set_option maxRecDepth 20000 in
theorem ggX10_addRow_X10_add : GoodIn wsX10_addRow wsX10_add := goodIn_r _ [11, 12] (by decide +kernel) (by decide +kernel)
set_option maxRecDepth 20000 in
theorem gX10_addRow_X10_add : GoodIn wsX10_addRow (va_wsS RX10 215 yX10_add wsX10_add) := goodIn_app (goodIn_of _ (by decide +kernel)) ggX10_addRow_X10_add
set_option maxRecDepth 20000 in
theorem ggX10_addRow_Jx4a65c_get_915e3 : GoodIn wsX10_addRow wsJx4a65c_get_915e3 := goodIn_r _ [16, 7, 17, 18, 19, 20, 21, 22, 23, 24, 25, 26, 27, 5, 28, 29, 36, 37, 38] (by decide +kernel) (by decide +kernel)
set_option maxRecDepth 20000 in
theorem gX10_addRow_Jx4a65c_get_915e3 : GoodIn wsX10_addRow (wsV RX10 7 RJx4a65c yJx4a65c_get_915e3 wsJx4a65c_get_915e3) := goodIn_app (goodIn_of _ (by decide +kernel)) ggX10_addRow_Jx4a65c_get_915e3
set_option maxRecDepth 20000 in
theorem ggX10_addRow_J6_intValue_8abf5 : GoodIn wsX10_addRow wsJ6_intValue_8abf5 := goodIn_r _ [34, 35, 39] (by decide +kernel) (by decide +kernel)
set_option maxRecDepth 20000 in
theorem gX10_addRow_J6_intValue_8abf5 : GoodIn wsX10_addRow (wsV RX10 13 RJ6 yJ6_intValue_8abf5 wsJ6_intValue_8abf5) := goodIn_app (goodIn_of _ (by decide +kernel)) ggX10_addRow_J6_intValue_8abf5
theorem dX10_addRow_0 : decode cX10_addRow 0 = .ok (.lload_n 0, 1) := by decide +kernel
theorem dX10_addRow_1 : decode cX10_addRow 1 = .ok (.aload_n 2, 1) := by decide +kernel
theorem dX10_addRow_2 : decode cX10_addRow 2 = .ok (.invokevirtual 1, 3) := by decide +kernel
theorem dX10_addRow_5 : decode cX10_addRow 5 = .ok (.i2l, 1) := by decide +kernel
theorem dX10_addRow_6 : decode cX10_addRow 6 = .ok (.invokestatic 215, 3) := by decide +kernel
theorem dX10_addRow_9 : decode cX10_addRow 9 = .ok (.lstore_n 3, 1) := by decide +kernel
theorem dX10_addRow_10 : decode cX10_addRow 10 = .ok (.iconst 0, 1) := by decide +kernel
theorem dX10_addRow_11 : decode cX10_addRow 11 = .ok (.istore 5, 2) := by decide +kernel
theorem dX10_addRow_13 : decode cX10_addRow 13 = .ok (.iload 5, 2) := by decide +kernel
theorem dX10_addRow_15 : decode cX10_addRow 15 = .ok (.aload_n 2, 1) := by decide +kernel
theorem dX10_addRow_16 : decode cX10_addRow 16 = .ok (.invokevirtual 1, 3) := by decide +kernel
theorem dX10_addRow_19 : decode cX10_addRow 19 = .ok (.if_icmp .ge 27, 3) := by decide +kernel
theorem dX10_addRow_22 : decode cX10_addRow 22 = .ok (.lload_n 3, 1) := by decide +kernel
theorem dX10_addRow_23 : decode cX10_addRow 23 = .ok (.aload_n 2, 1) := by decide +kernel
theorem dX10_addRow_24 : decode cX10_addRow 24 = .ok (.iload 5, 2) := by decide +kernel
theorem dX10_addRow_26 : decode cX10_addRow 26 = .ok (.invokevirtual 7, 3) := by decide +kernel
theorem dX10_addRow_29 : decode cX10_addRow 29 = .ok (.checkcast 11, 3) := by decide +kernel
theorem dX10_addRow_32 : decode cX10_addRow 32 = .ok (.invokevirtual 13, 3) := by decide +kernel
theorem dX10_addRow_35 : decode cX10_addRow 35 = .ok (.i2l, 1) := by decide +kernel
theorem dX10_addRow_36 : decode cX10_addRow 36 = .ok (.invokestatic 215, 3) := by decide +kernel
theorem dX10_addRow_39 : decode cX10_addRow 39 = .ok (.lstore_n 3, 1) := by decide +kernel
theorem dX10_addRow_40 : decode cX10_addRow 40 = .ok (.iinc 5 1, 3) := by decide +kernel
theorem dX10_addRow_43 : decode cX10_addRow 43 = .ok (.goto (-30), 3) := by decide +kernel
theorem dX10_addRow_46 : decode cX10_addRow 46 = .ok (.lload_n 3, 1) := by decide +kernel
theorem dX10_addRow_47 : decode cX10_addRow 47 = .ok (.lreturn, 1) := by decide +kernel
set_option maxRecDepth 20000 in
theorem ggX10_digest_X10_add : GoodIn wsX10_digest wsX10_add := goodIn_r _ [20, 21] (by decide +kernel) (by decide +kernel)
set_option maxRecDepth 20000 in
theorem gX10_digest_X10_add : GoodIn wsX10_digest (va_wsS RX10 215 yX10_add wsX10_add) := goodIn_app (goodIn_of _ (by decide +kernel)) ggX10_digest_X10_add
set_option maxRecDepth 20000 in
theorem ggX10_digest_Jx4a65c_size_8abf5 : GoodIn wsX10_digest wsJx4a65c_size_8abf5 := goodIn_r _ [26, 27, 165, 166, 167] (by decide +kernel) (by decide +kernel)
set_option maxRecDepth 20000 in
theorem gX10_digest_Jx4a65c_size_8abf5 : GoodIn wsX10_digest (wsV RX10 1 RJx4a65c yJx4a65c_size_8abf5 wsJx4a65c_size_8abf5) := goodIn_app (goodIn_of _ (by decide +kernel)) ggX10_digest_Jx4a65c_size_8abf5
set_option maxRecDepth 20000 in
theorem ggX10_digest_X10_haltedNow : GoodIn wsX10_digest wsX10_haltedNow := goodIn_r _ [31, 3, 5, 7, 32, 33, 34, 35, 36, 37, 38, 23, 24, 25, 26, 27, 39, 40, 41, 42, 43, 44, 45, 46, 47, 48, 49, 50, 51, 52, 53, 54, 55, 56, 57, 58, 59, 60, 61, 62, 63, 64, 65, 66, 67, 68, 69, 70, 71, 72, 73, 74, 75, 76, 77, 78, 79, 80, 81, 82, 83, 84, 85, 86, 87, 88, 89, 90, 91, 92, 93, 94, 95, 96, 97, 98, 99, 100, 101, 102, 103, 104, 105, 106, 107, 108, 22, 109, 110, 111, 19, 112, 113, 114, 140, 141, 142, 143, 144, 145, 146, 147, 148, 149, 150, 151, 152, 153, 154, 155, 156, 157, 158, 159, 160, 165, 166, 167, 161, 162, 163, 164, 168] (by decide +kernel) (by decide +kernel)
set_option maxRecDepth 20000 in
theorem gX10_digest_X10_haltedNow : GoodIn wsX10_digest (wsV RX10 206 RX10 yX10_haltedNow wsX10_haltedNow) := goodIn_app (goodIn_of _ (by decide +kernel)) ggX10_digest_X10_haltedNow
set_option maxRecDepth 20000 in
theorem ggX10_digest_X10_task : GoodIn wsX10_digest wsX10_task := goodIn_r _ [112, 3, 5, 113, 114, 54, 55, 25, 56, 27, 57, 58, 59, 60, 61, 62, 63, 64, 65, 66, 67, 68, 69, 140, 141, 142, 143, 144, 145, 146, 147, 148, 149, 150, 165, 166, 167] (by decide +kernel) (by decide +kernel)
set_option maxRecDepth 20000 in
theorem gX10_digest_X10_task : GoodIn wsX10_digest (wsV RX10 120 RX10 yX10_task wsX10_task) := goodIn_app (goodIn_of _ (by decide +kernel)) ggX10_digest_X10_task
set_option maxRecDepth 20000 in
theorem ggX10_digest_X10_addRow : GoodIn wsX10_digest wsX10_addRow := goodIn_r _ [128, 119, 22, 23, 24, 25, 26, 27, 17, 18, 19, 20, 21, 114, 54, 55, 56, 57, 58, 59, 60, 61, 62, 63, 64, 65, 66, 67, 68, 69, 120, 84, 85, 86, 87, 88, 165, 166, 167, 168] (by decide +kernel) (by decide +kernel)
set_option maxRecDepth 20000 in
theorem gX10_digest_X10_addRow : GoodIn wsX10_digest (va_wsS RX10 220 yX10_addRow wsX10_addRow) := goodIn_app (goodIn_of _ (by decide +kernel)) ggX10_digest_X10_addRow
set_option maxRecDepth 20000 in
theorem ggX10_digest_X10_worker : GoodIn wsX10_digest wsX10_worker := goodIn_r _ [132, 3, 6, 133, 114, 54, 55, 25, 56, 27, 57, 58, 59, 60, 61, 62, 63, 64, 65, 66, 67, 68, 69, 140, 141, 142, 143, 144, 145, 146, 147, 148, 149, 150, 165, 166, 167] (by decide +kernel) (by decide +kernel)
set_option maxRecDepth 20000 in
theorem gX10_digest_X10_worker : GoodIn wsX10_digest (wsV RX10 183 RX10 yX10_worker wsX10_worker) := goodIn_app (goodIn_of _ (by decide +kernel)) ggX10_digest_X10_worker
set_option maxRecDepth 20000 in
theorem ggX10_digest_X9_top : GoodIn wsX10_digest wsX9_top := goodIn_r _ [74, 75, 76, 77, 78, 79, 25, 80, 27, 81, 23, 24, 26, 82, 54, 55, 56, 57, 58, 59, 60, 61, 62, 63, 64, 65, 66, 67, 68, 69, 83, 84, 85, 86, 87, 88, 161, 162, 163, 164, 165, 166, 167, 168] (by decide +kernel) (by decide +kernel)
set_option maxRecDepth 20000 in
theorem gX10_digest_X9_top : GoodIn wsX10_digest (wsV RX10 186 RX9 yX9_top wsX9_top) := goodIn_app (goodIn_of _ (by decide +kernel)) ggX10_digest_X9_top
set_option maxRecDepth 20000 in
theorem ggX10_digest_X10_ranBack : GoodIn wsX10_digest wsX10_ranBack := goodIn_r _ [138, 3, 4, 139, 119, 129, 130, 131, 19, 132, 6, 133, 114, 54, 55, 25, 56, 27, 57, 58, 59, 60, 61, 62, 63, 64, 65, 66, 67, 68, 69, 22, 23, 24, 26, 120, 84, 85, 86, 87, 88, 140, 141, 142, 143, 144, 145, 146, 147, 148, 149, 150, 161, 162, 163, 164, 165, 166, 167, 168] (by decide +kernel) (by decide +kernel)
set_option maxRecDepth 20000 in
theorem gX10_digest_X10_ranBack : GoodIn wsX10_digest (wsV RX10 199 RX10 yX10_ranBack wsX10_ranBack) := goodIn_app (goodIn_of _ (by decide +kernel)) ggX10_digest_X10_ranBack
theorem dX10_digest_0 : decode cX10_digest 0 = .ok (.aload_n 0, 1) := by decide +kernel
theorem dX10_digest_1 : decode cX10_digest 1 = .ok (.iconst 0, 1) := by decide +kernel
theorem dX10_digest_2 : decode cX10_digest 2 = .ok (.putfield 41, 3) := by decide +kernel
theorem dX10_digest_5 : decode cX10_digest 5 = .ok (.ldc2_w 218, 3) := by decide +kernel
theorem dX10_digest_8 : decode cX10_digest 8 = .ok (.aload_n 0, 1) := by decide +kernel
theorem dX10_digest_9 : decode cX10_digest 9 = .ok (.getfield 37, 3) := by decide +kernel
theorem dX10_digest_12 : decode cX10_digest 12 = .ok (.getfield 143, 3) := by decide +kernel
theorem dX10_digest_15 : decode cX10_digest 15 = .ok (.i2l, 1) := by decide +kernel
theorem dX10_digest_16 : decode cX10_digest 16 = .ok (.invokestatic 215, 3) := by decide +kernel
theorem dX10_digest_19 : decode cX10_digest 19 = .ok (.aload_n 0, 1) := by decide +kernel
theorem dX10_digest_20 : decode cX10_digest 20 = .ok (.getfield 37, 3) := by decide +kernel
theorem dX10_digest_23 : decode cX10_digest 23 = .ok (.getfield 60, 3) := by decide +kernel
theorem dX10_digest_26 : decode cX10_digest 26 = .ok (.invokevirtual 1, 3) := by decide +kernel
theorem dX10_digest_29 : decode cX10_digest 29 = .ok (.i2l, 1) := by decide +kernel
theorem dX10_digest_30 : decode cX10_digest 30 = .ok (.invokestatic 215, 3) := by decide +kernel
theorem dX10_digest_33 : decode cX10_digest 33 = .ok (.aload_n 0, 1) := by decide +kernel
theorem dX10_digest_34 : decode cX10_digest 34 = .ok (.getfield 37, 3) := by decide +kernel
theorem dX10_digest_37 : decode cX10_digest 37 = .ok (.getfield 79, 3) := by decide +kernel
theorem dX10_digest_40 : decode cX10_digest 40 = .ok (.invokevirtual 1, 3) := by decide +kernel
theorem dX10_digest_43 : decode cX10_digest 43 = .ok (.i2l, 1) := by decide +kernel
theorem dX10_digest_44 : decode cX10_digest 44 = .ok (.invokestatic 215, 3) := by decide +kernel
theorem dX10_digest_47 : decode cX10_digest 47 = .ok (.aload_n 0, 1) := by decide +kernel
theorem dX10_digest_48 : decode cX10_digest 48 = .ok (.invokevirtual 206, 3) := by decide +kernel
theorem dX10_digest_51 : decode cX10_digest 51 = .ok (.i2l, 1) := by decide +kernel
theorem dX10_digest_52 : decode cX10_digest 52 = .ok (.invokestatic 215, 3) := by decide +kernel
theorem dX10_digest_55 : decode cX10_digest 55 = .ok (.lstore_n 1, 1) := by decide +kernel
theorem dX10_digest_56 : decode cX10_digest 56 = .ok (.iconst 0, 1) := by decide +kernel
theorem dX10_digest_57 : decode cX10_digest 57 = .ok (.istore_n 3, 1) := by decide +kernel
theorem dX10_digest_58 : decode cX10_digest 58 = .ok (.iload_n 3, 1) := by decide +kernel
theorem dX10_digest_59 : decode cX10_digest 59 = .ok (.aload_n 0, 1) := by decide +kernel
theorem dX10_digest_60 : decode cX10_digest 60 = .ok (.getfield 37, 3) := by decide +kernel
theorem dX10_digest_63 : decode cX10_digest 63 = .ok (.getfield 60, 3) := by decide +kernel
theorem dX10_digest_66 : decode cX10_digest 66 = .ok (.invokevirtual 1, 3) := by decide +kernel
theorem dX10_digest_69 : decode cX10_digest 69 = .ok (.if_icmp .ge 83, 3) := by decide +kernel
theorem dX10_digest_72 : decode cX10_digest 72 = .ok (.aload_n 0, 1) := by decide +kernel
theorem dX10_digest_73 : decode cX10_digest 73 = .ok (.iload_n 3, 1) := by decide +kernel
theorem dX10_digest_74 : decode cX10_digest 74 = .ok (.invokevirtual 120, 3) := by decide +kernel
theorem dX10_digest_77 : decode cX10_digest 77 = .ok (.astore 4, 2) := by decide +kernel
theorem dX10_digest_79 : decode cX10_digest 79 = .ok (.lload_n 1, 1) := by decide +kernel
theorem dX10_digest_80 : decode cX10_digest 80 = .ok (.aload 4, 2) := by decide +kernel
theorem dX10_digest_82 : decode cX10_digest 82 = .ok (.getfield 149, 3) := by decide +kernel
theorem dX10_digest_85 : decode cX10_digest 85 = .ok (.i2l, 1) := by decide +kernel
theorem dX10_digest_86 : decode cX10_digest 86 = .ok (.invokestatic 215, 3) := by decide +kernel
theorem dX10_digest_89 : decode cX10_digest 89 = .ok (.aload 4, 2) := by decide +kernel
theorem dX10_digest_91 : decode cX10_digest 91 = .ok (.getfield 152, 3) := by decide +kernel
theorem dX10_digest_94 : decode cX10_digest 94 = .ok (.i2l, 1) := by decide +kernel
theorem dX10_digest_95 : decode cX10_digest 95 = .ok (.invokestatic 215, 3) := by decide +kernel
theorem dX10_digest_98 : decode cX10_digest 98 = .ok (.aload 4, 2) := by decide +kernel
theorem dX10_digest_100 : decode cX10_digest 100 = .ok (.getfield 155, 3) := by decide +kernel
theorem dX10_digest_103 : decode cX10_digest 103 = .ok (.i2l, 1) := by decide +kernel
theorem dX10_digest_104 : decode cX10_digest 104 = .ok (.invokestatic 215, 3) := by decide +kernel
theorem dX10_digest_107 : decode cX10_digest 107 = .ok (.aload 4, 2) := by decide +kernel
theorem dX10_digest_109 : decode cX10_digest 109 = .ok (.getfield 158, 3) := by decide +kernel
theorem dX10_digest_112 : decode cX10_digest 112 = .ok (.i2l, 1) := by decide +kernel
theorem dX10_digest_113 : decode cX10_digest 113 = .ok (.invokestatic 215, 3) := by decide +kernel
theorem dX10_digest_116 : decode cX10_digest 116 = .ok (.lstore_n 1, 1) := by decide +kernel
theorem dX10_digest_117 : decode cX10_digest 117 = .ok (.lload_n 1, 1) := by decide +kernel
theorem dX10_digest_118 : decode cX10_digest 118 = .ok (.aload 4, 2) := by decide +kernel
theorem dX10_digest_120 : decode cX10_digest 120 = .ok (.invokestatic 164, 3) := by decide +kernel
theorem dX10_digest_123 : decode cX10_digest 123 = .ok (.i2l, 1) := by decide +kernel
theorem dX10_digest_124 : decode cX10_digest 124 = .ok (.invokestatic 215, 3) := by decide +kernel
theorem dX10_digest_127 : decode cX10_digest 127 = .ok (.aload_n 0, 1) := by decide +kernel
theorem dX10_digest_128 : decode cX10_digest 128 = .ok (.iload_n 3, 1) := by decide +kernel
theorem dX10_digest_129 : decode cX10_digest 129 = .ok (.invokevirtual 171, 3) := by decide +kernel
theorem dX10_digest_132 : decode cX10_digest 132 = .ok (.i2l, 1) := by decide +kernel
theorem dX10_digest_133 : decode cX10_digest 133 = .ok (.invokestatic 215, 3) := by decide +kernel
theorem dX10_digest_136 : decode cX10_digest 136 = .ok (.aload 4, 2) := by decide +kernel
theorem dX10_digest_138 : decode cX10_digest 138 = .ok (.getfield 173, 3) := by decide +kernel
theorem dX10_digest_141 : decode cX10_digest 141 = .ok (.i2l, 1) := by decide +kernel
theorem dX10_digest_142 : decode cX10_digest 142 = .ok (.invokestatic 215, 3) := by decide +kernel
theorem dX10_digest_145 : decode cX10_digest 145 = .ok (.lstore_n 1, 1) := by decide +kernel
theorem dX10_digest_146 : decode cX10_digest 146 = .ok (.iinc 3 1, 3) := by decide +kernel
theorem dX10_digest_149 : decode cX10_digest 149 = .ok (.goto (-91), 3) := by decide +kernel
theorem dX10_digest_152 : decode cX10_digest 152 = .ok (.iconst 0, 1) := by decide +kernel
theorem dX10_digest_153 : decode cX10_digest 153 = .ok (.istore_n 3, 1) := by decide +kernel
theorem dX10_digest_154 : decode cX10_digest 154 = .ok (.iload_n 3, 1) := by decide +kernel
theorem dX10_digest_155 : decode cX10_digest 155 = .ok (.bipush 6, 2) := by decide +kernel
theorem dX10_digest_157 : decode cX10_digest 157 = .ok (.if_icmp .ge 24, 3) := by decide +kernel
theorem dX10_digest_160 : decode cX10_digest 160 = .ok (.lload_n 1, 1) := by decide +kernel
theorem dX10_digest_161 : decode cX10_digest 161 = .ok (.aload_n 0, 1) := by decide +kernel
theorem dX10_digest_162 : decode cX10_digest 162 = .ok (.getfield 37, 3) := by decide +kernel
theorem dX10_digest_165 : decode cX10_digest 165 = .ok (.getfield 176, 3) := by decide +kernel
theorem dX10_digest_168 : decode cX10_digest 168 = .ok (.iload_n 3, 1) := by decide +kernel
theorem dX10_digest_169 : decode cX10_digest 169 = .ok (.iaload, 1) := by decide +kernel
theorem dX10_digest_170 : decode cX10_digest 170 = .ok (.i2l, 1) := by decide +kernel
theorem dX10_digest_171 : decode cX10_digest 171 = .ok (.invokestatic 215, 3) := by decide +kernel
theorem dX10_digest_174 : decode cX10_digest 174 = .ok (.lstore_n 1, 1) := by decide +kernel
theorem dX10_digest_175 : decode cX10_digest 175 = .ok (.iinc 3 1, 3) := by decide +kernel
theorem dX10_digest_178 : decode cX10_digest 178 = .ok (.goto (-24), 3) := by decide +kernel
theorem dX10_digest_181 : decode cX10_digest 181 = .ok (.lload_n 1, 1) := by decide +kernel
theorem dX10_digest_182 : decode cX10_digest 182 = .ok (.aload_n 0, 1) := by decide +kernel
theorem dX10_digest_183 : decode cX10_digest 183 = .ok (.getfield 37, 3) := by decide +kernel
theorem dX10_digest_186 : decode cX10_digest 186 = .ok (.getfield 110, 3) := by decide +kernel
theorem dX10_digest_189 : decode cX10_digest 189 = .ok (.invokestatic 220, 3) := by decide +kernel
theorem dX10_digest_192 : decode cX10_digest 192 = .ok (.lstore_n 1, 1) := by decide +kernel
theorem dX10_digest_193 : decode cX10_digest 193 = .ok (.iconst 0, 1) := by decide +kernel
theorem dX10_digest_194 : decode cX10_digest 194 = .ok (.istore_n 3, 1) := by decide +kernel
theorem dX10_digest_195 : decode cX10_digest 195 = .ok (.iload_n 3, 1) := by decide +kernel
theorem dX10_digest_196 : decode cX10_digest 196 = .ok (.aload_n 0, 1) := by decide +kernel
theorem dX10_digest_197 : decode cX10_digest 197 = .ok (.getfield 37, 3) := by decide +kernel
theorem dX10_digest_200 : decode cX10_digest 200 = .ok (.getfield 79, 3) := by decide +kernel
theorem dX10_digest_203 : decode cX10_digest 203 = .ok (.invokevirtual 1, 3) := by decide +kernel
theorem dX10_digest_206 : decode cX10_digest 206 = .ok (.if_icmp .ge 22, 3) := by decide +kernel
theorem dX10_digest_209 : decode cX10_digest 209 = .ok (.lload_n 1, 1) := by decide +kernel
theorem dX10_digest_210 : decode cX10_digest 210 = .ok (.aload_n 0, 1) := by decide +kernel
theorem dX10_digest_211 : decode cX10_digest 211 = .ok (.iload_n 3, 1) := by decide +kernel
theorem dX10_digest_212 : decode cX10_digest 212 = .ok (.invokevirtual 183, 3) := by decide +kernel
theorem dX10_digest_215 : decode cX10_digest 215 = .ok (.getfield 84, 3) := by decide +kernel
theorem dX10_digest_218 : decode cX10_digest 218 = .ok (.invokestatic 220, 3) := by decide +kernel
theorem dX10_digest_221 : decode cX10_digest 221 = .ok (.lstore_n 1, 1) := by decide +kernel
theorem dX10_digest_222 : decode cX10_digest 222 = .ok (.iinc 3 1, 3) := by decide +kernel
theorem dX10_digest_225 : decode cX10_digest 225 = .ok (.goto (-30), 3) := by decide +kernel
theorem dX10_digest_228 : decode cX10_digest 228 = .ok (.iconst 0, 1) := by decide +kernel
theorem dX10_digest_229 : decode cX10_digest 229 = .ok (.istore_n 3, 1) := by decide +kernel
theorem dX10_digest_230 : decode cX10_digest 230 = .ok (.iload_n 3, 1) := by decide +kernel
theorem dX10_digest_231 : decode cX10_digest 231 = .ok (.aload_n 0, 1) := by decide +kernel
theorem dX10_digest_232 : decode cX10_digest 232 = .ok (.getfield 37, 3) := by decide +kernel
theorem dX10_digest_235 : decode cX10_digest 235 = .ok (.getfield 79, 3) := by decide +kernel
theorem dX10_digest_238 : decode cX10_digest 238 = .ok (.invokevirtual 1, 3) := by decide +kernel
theorem dX10_digest_241 : decode cX10_digest 241 = .ok (.if_icmp .ge 98, 3) := by decide +kernel
theorem dX10_digest_244 : decode cX10_digest 244 = .ok (.lload_n 1, 1) := by decide +kernel
theorem dX10_digest_245 : decode cX10_digest 245 = .ok (.aload_n 0, 1) := by decide +kernel
theorem dX10_digest_246 : decode cX10_digest 246 = .ok (.iload_n 3, 1) := by decide +kernel
theorem dX10_digest_247 : decode cX10_digest 247 = .ok (.invokevirtual 183, 3) := by decide +kernel
theorem dX10_digest_250 : decode cX10_digest 250 = .ok (.invokevirtual 186, 3) := by decide +kernel
theorem dX10_digest_253 : decode cX10_digest 253 = .ok (.i2l, 1) := by decide +kernel
theorem dX10_digest_254 : decode cX10_digest 254 = .ok (.invokestatic 215, 3) := by decide +kernel
theorem dX10_digest_257 : decode cX10_digest 257 = .ok (.aload_n 0, 1) := by decide +kernel
theorem dX10_digest_258 : decode cX10_digest 258 = .ok (.iload_n 3, 1) := by decide +kernel
theorem dX10_digest_259 : decode cX10_digest 259 = .ok (.invokevirtual 183, 3) := by decide +kernel
theorem dX10_digest_262 : decode cX10_digest 262 = .ok (.getfield 91, 3) := by decide +kernel
theorem dX10_digest_265 : decode cX10_digest 265 = .ok (.invokevirtual 1, 3) := by decide +kernel
theorem dX10_digest_268 : decode cX10_digest 268 = .ok (.i2l, 1) := by decide +kernel
theorem dX10_digest_269 : decode cX10_digest 269 = .ok (.invokestatic 215, 3) := by decide +kernel
theorem dX10_digest_272 : decode cX10_digest 272 = .ok (.lstore_n 1, 1) := by decide +kernel
theorem dX10_digest_273 : decode cX10_digest 273 = .ok (.iconst 0, 1) := by decide +kernel
theorem dX10_digest_274 : decode cX10_digest 274 = .ok (.istore 4, 2) := by decide +kernel
theorem dX10_digest_276 : decode cX10_digest 276 = .ok (.iload 4, 2) := by decide +kernel
theorem dX10_digest_278 : decode cX10_digest 278 = .ok (.iconst 3, 1) := by decide +kernel
theorem dX10_digest_279 : decode cX10_digest 279 = .ok (.if_icmp .ge 26, 3) := by decide +kernel
theorem dX10_digest_282 : decode cX10_digest 282 = .ok (.lload_n 1, 1) := by decide +kernel
theorem dX10_digest_283 : decode cX10_digest 283 = .ok (.aload_n 0, 1) := by decide +kernel
theorem dX10_digest_284 : decode cX10_digest 284 = .ok (.iload_n 3, 1) := by decide +kernel
theorem dX10_digest_285 : decode cX10_digest 285 = .ok (.invokevirtual 183, 3) := by decide +kernel
theorem dX10_digest_288 : decode cX10_digest 288 = .ok (.getfield 193, 3) := by decide +kernel
theorem dX10_digest_291 : decode cX10_digest 291 = .ok (.iload 4, 2) := by decide +kernel
theorem dX10_digest_293 : decode cX10_digest 293 = .ok (.iaload, 1) := by decide +kernel
theorem dX10_digest_294 : decode cX10_digest 294 = .ok (.i2l, 1) := by decide +kernel
theorem dX10_digest_295 : decode cX10_digest 295 = .ok (.invokestatic 215, 3) := by decide +kernel
theorem dX10_digest_298 : decode cX10_digest 298 = .ok (.lstore_n 1, 1) := by decide +kernel
theorem dX10_digest_299 : decode cX10_digest 299 = .ok (.iinc 4 1, 3) := by decide +kernel
theorem dX10_digest_302 : decode cX10_digest 302 = .ok (.goto (-26), 3) := by decide +kernel
theorem dX10_digest_305 : decode cX10_digest 305 = .ok (.iconst 1, 1) := by decide +kernel
theorem dX10_digest_306 : decode cX10_digest 306 = .ok (.istore 4, 2) := by decide +kernel
theorem dX10_digest_308 : decode cX10_digest 308 = .ok (.iload 4, 2) := by decide +kernel
theorem dX10_digest_310 : decode cX10_digest 310 = .ok (.iconst 3, 1) := by decide +kernel
theorem dX10_digest_311 : decode cX10_digest 311 = .ok (.if_icmp .gt 22, 3) := by decide +kernel
theorem dX10_digest_314 : decode cX10_digest 314 = .ok (.lload_n 1, 1) := by decide +kernel
theorem dX10_digest_315 : decode cX10_digest 315 = .ok (.aload_n 0, 1) := by decide +kernel
theorem dX10_digest_316 : decode cX10_digest 316 = .ok (.iload_n 3, 1) := by decide +kernel
theorem dX10_digest_317 : decode cX10_digest 317 = .ok (.iload 4, 2) := by decide +kernel
theorem dX10_digest_319 : decode cX10_digest 319 = .ok (.invokevirtual 199, 3) := by decide +kernel
theorem dX10_digest_322 : decode cX10_digest 322 = .ok (.i2l, 1) := by decide +kernel
theorem dX10_digest_323 : decode cX10_digest 323 = .ok (.invokestatic 215, 3) := by decide +kernel
theorem dX10_digest_326 : decode cX10_digest 326 = .ok (.lstore_n 1, 1) := by decide +kernel
theorem dX10_digest_327 : decode cX10_digest 327 = .ok (.iinc 4 1, 3) := by decide +kernel
theorem dX10_digest_330 : decode cX10_digest 330 = .ok (.goto (-22), 3) := by decide +kernel
theorem dX10_digest_333 : decode cX10_digest 333 = .ok (.iinc 3 1, 3) := by decide +kernel
theorem dX10_digest_336 : decode cX10_digest 336 = .ok (.goto (-106), 3) := by decide +kernel
theorem dX10_digest_339 : decode cX10_digest 339 = .ok (.lload_n 1, 1) := by decide +kernel
theorem dX10_digest_340 : decode cX10_digest 340 = .ok (.lreturn, 1) := by decide +kernel
