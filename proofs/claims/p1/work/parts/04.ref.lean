set_option maxRecDepth 20000 in
theorem ggX7_init_Jx4a65c_init_da8c8 : GoodIn wsX7_init wsJx4a65c_init_da8c8 := goodIn_r _ [19, 20, 21, 22, 23, 24, 25, 26, 27, 28, 29, 30, 31, 2, 3, 94, 95, 96] (by decide +kernel) (by decide +kernel)
set_option maxRecDepth 20000 in
theorem gX7_init_Jx4a65c_init_da8c8 : GoodIn wsX7_init (wsJx4a65c_init_da8c8) := ggX7_init_Jx4a65c_init_da8c8
set_option maxRecDepth 20000 in
theorem ggX7_init_X9_init : GoodIn wsX7_init wsX9_init := goodIn_r _ [33, 34, 2, 3, 35, 5, 6, 36, 37, 10, 38, 39, 40, 18, 19, 20, 21, 22, 23, 24, 25, 26, 27, 28, 29, 30, 31, 94, 95, 96, 105, 106, 107, 108] (by decide +kernel) (by decide +kernel)
set_option maxRecDepth 20000 in
theorem gX7_init_X9_init_n34 : GoodIn wsX7_init (wsX9_init) := ggX7_init_X9_init
set_option maxRecDepth 20000 in
theorem ggX7_init_Jx4a65c_add_9ea2d : GoodIn wsX7_init wsJx4a65c_add_9ea2d := goodIn_r _ [44, 45, 46, 21, 47, 48, 49, 50, 6, 51, 52, 53, 54, 55, 56, 57, 58, 59, 20, 60, 61, 62, 63, 64, 65, 66, 67, 68, 69, 70, 71, 72, 73, 74, 75, 76, 77, 78, 79, 80, 81, 82, 83, 84, 85, 86, 87, 88, 89, 90, 91, 92, 93, 94, 95, 96] (by decide +kernel) (by decide +kernel)
set_option maxRecDepth 20000 in
theorem gX7_init_Jx4a65c_add_9ea2d : GoodIn wsX7_init (wsV RX7 35 RJx4a65c yJx4a65c_add_9ea2d wsJx4a65c_add_9ea2d) := goodIn_app (goodIn_of _ (by decide +kernel)) ggX7_init_Jx4a65c_add_9ea2d
theorem dX7_init_0 : decode cX7_init 0 = .ok (.aload_n 0, 1) := by decide +kernel
theorem dX7_init_1 : decode cX7_init 1 = .ok (.invokespecial 3, 3) := by decide +kernel
theorem dX7_init_4 : decode cX7_init 4 = .ok (.aload_n 0, 1) := by decide +kernel
theorem dX7_init_5 : decode cX7_init 5 = .ok (.new 9, 3) := by decide +kernel
theorem dX7_init_8 : decode cX7_init 8 = .ok (.dup, 1) := by decide +kernel
theorem dX7_init_9 : decode cX7_init 9 = .ok (.invokespecial 11, 3) := by decide +kernel
theorem dX7_init_12 : decode cX7_init 12 = .ok (.putfield 12, 3) := by decide +kernel
theorem dX7_init_15 : decode cX7_init 15 = .ok (.aload_n 0, 1) := by decide +kernel
theorem dX7_init_16 : decode cX7_init 16 = .ok (.new 9, 3) := by decide +kernel
theorem dX7_init_19 : decode cX7_init 19 = .ok (.dup, 1) := by decide +kernel
theorem dX7_init_20 : decode cX7_init 20 = .ok (.invokespecial 11, 3) := by decide +kernel
theorem dX7_init_23 : decode cX7_init 23 = .ok (.putfield 18, 3) := by decide +kernel
theorem dX7_init_26 : decode cX7_init 26 = .ok (.aload_n 0, 1) := by decide +kernel
theorem dX7_init_27 : decode cX7_init 27 = .ok (.new 9, 3) := by decide +kernel
theorem dX7_init_30 : decode cX7_init 30 = .ok (.dup, 1) := by decide +kernel
theorem dX7_init_31 : decode cX7_init 31 = .ok (.invokespecial 11, 3) := by decide +kernel
theorem dX7_init_34 : decode cX7_init 34 = .ok (.putfield 21, 3) := by decide +kernel
theorem dX7_init_37 : decode cX7_init 37 = .ok (.aload_n 0, 1) := by decide +kernel
theorem dX7_init_38 : decode cX7_init 38 = .ok (.bipush 6, 2) := by decide +kernel
theorem dX7_init_40 : decode cX7_init 40 = .ok (.newarray .int, 2) := by decide +kernel
theorem dX7_init_42 : decode cX7_init 42 = .ok (.putfield 24, 3) := by decide +kernel
theorem dX7_init_45 : decode cX7_init 45 = .ok (.aload_n 0, 1) := by decide +kernel
theorem dX7_init_46 : decode cX7_init 46 = .ok (.aload_n 1, 1) := by decide +kernel
theorem dX7_init_47 : decode cX7_init 47 = .ok (.putfield 28, 3) := by decide +kernel
theorem dX7_init_50 : decode cX7_init 50 = .ok (.iconst 0, 1) := by decide +kernel
theorem dX7_init_51 : decode cX7_init 51 = .ok (.istore_n 3, 1) := by decide +kernel
theorem dX7_init_52 : decode cX7_init 52 = .ok (.iload_n 3, 1) := by decide +kernel
theorem dX7_init_53 : decode cX7_init 53 = .ok (.bipush 6, 2) := by decide +kernel
theorem dX7_init_55 : decode cX7_init 55 = .ok (.if_icmp .ge 17, 3) := by decide +kernel
theorem dX7_init_58 : decode cX7_init 58 = .ok (.aload_n 0, 1) := by decide +kernel
theorem dX7_init_59 : decode cX7_init 59 = .ok (.getfield 24, 3) := by decide +kernel
theorem dX7_init_62 : decode cX7_init 62 = .ok (.iload_n 3, 1) := by decide +kernel
theorem dX7_init_63 : decode cX7_init 63 = .ok (.ldc 31, 2) := by decide +kernel
theorem dX7_init_65 : decode cX7_init 65 = .ok (.iastore, 1) := by decide +kernel
theorem dX7_init_66 : decode cX7_init 66 = .ok (.iinc 3 1, 3) := by decide +kernel
theorem dX7_init_69 : decode cX7_init 69 = .ok (.goto (-17), 3) := by decide +kernel
theorem dX7_init_72 : decode cX7_init 72 = .ok (.iconst 0, 1) := by decide +kernel
theorem dX7_init_73 : decode cX7_init 73 = .ok (.istore_n 3, 1) := by decide +kernel
theorem dX7_init_74 : decode cX7_init 74 = .ok (.iload_n 3, 1) := by decide +kernel
theorem dX7_init_75 : decode cX7_init 75 = .ok (.iload_n 2, 1) := by decide +kernel
theorem dX7_init_76 : decode cX7_init 76 = .ok (.if_icmp .ge 24, 3) := by decide +kernel
theorem dX7_init_79 : decode cX7_init 79 = .ok (.aload_n 0, 1) := by decide +kernel
theorem dX7_init_80 : decode cX7_init 80 = .ok (.getfield 18, 3) := by decide +kernel
theorem dX7_init_83 : decode cX7_init 83 = .ok (.new 32, 3) := by decide +kernel
theorem dX7_init_86 : decode cX7_init 86 = .ok (.dup, 1) := by decide +kernel
theorem dX7_init_87 : decode cX7_init 87 = .ok (.invokespecial 34, 3) := by decide +kernel
theorem dX7_init_90 : decode cX7_init 90 = .ok (.invokevirtual 35, 3) := by decide +kernel
theorem dX7_init_93 : decode cX7_init 93 = .ok (.pop, 1) := by decide +kernel
theorem dX7_init_94 : decode cX7_init 94 = .ok (.iinc 3 1, 3) := by decide +kernel
theorem dX7_init_97 : decode cX7_init 97 = .ok (.goto (-23), 3) := by decide +kernel
theorem dX7_init_100 : decode cX7_init 100 = .ok (.return_, 1) := by decide +kernel
set_option maxRecDepth 20000 in
theorem ggX7_copy_X7_init : GoodIn wsX7_copy wsX7_init := goodIn_r _ [25, 26, 27, 28, 9, 10, 11, 5, 7, 12, 29, 13, 4, 30, 31, 32, 33, 34, 35, 36, 37, 38, 39, 40, 41, 42, 43, 44, 45, 46, 47, 48, 49, 50, 51, 52, 53, 54, 55, 56, 57, 58, 59, 60, 61, 62, 63, 64, 65, 66, 67, 68, 69, 70, 71, 72, 73, 74, 75, 76, 77, 78, 79, 80, 81, 82, 83, 84, 85, 86, 87, 88, 89, 90, 91, 92, 93, 94, 95, 96, 97, 98, 99, 100, 101, 102, 103, 104, 105, 106, 107, 108, 109, 110, 182, 183, 184, 174, 175, 176, 177, 178, 179, 180, 181, 185, 186, 187, 188] (by decide +kernel) (by decide +kernel)
set_option maxRecDepth 20000 in
theorem gX7_copy_X7_init : GoodIn wsX7_copy (wsX7_init) := ggX7_copy_X7_init
set_option maxRecDepth 20000 in
theorem ggX7_copy_Jx4a65c_size_8abf5 : GoodIn wsX7_copy wsJx4a65c_size_8abf5 := goodIn_r _ [114, 64, 182, 183, 184] (by decide +kernel) (by decide +kernel)
set_option maxRecDepth 20000 in
theorem gX7_copy_Jx4a65c_size_8abf5 : GoodIn wsX7_copy (wsV RX7 42 RJx4a65c yJx4a65c_size_8abf5 wsJx4a65c_size_8abf5) := goodIn_app (goodIn_of _ (by decide +kernel)) ggX7_copy_Jx4a65c_size_8abf5
set_option maxRecDepth 20000 in
theorem ggX7_copy_Jx4a65c_get_915e3 : GoodIn wsX7_copy wsJx4a65c_get_915e3 := goodIn_r _ [118, 64, 119, 120, 121, 122, 123, 124, 125, 126, 127, 128, 129, 11, 130, 38, 182, 183, 184] (by decide +kernel) (by decide +kernel)
set_option maxRecDepth 20000 in
theorem gX7_copy_Jx4a65c_get_915e3 : GoodIn wsX7_copy (wsV RX7 46 RJx4a65c yJx4a65c_get_915e3 wsJx4a65c_get_915e3) := goodIn_app (goodIn_of _ (by decide +kernel)) ggX7_copy_Jx4a65c_get_915e3
set_option maxRecDepth 20000 in
theorem ggX7_copy_Jx4a65c_add_9ea2d : GoodIn wsX7_copy wsJx4a65c_add_9ea2d := goodIn_r _ [61, 62, 63, 38, 64, 65, 66, 67, 11, 68, 69, 70, 71, 72, 73, 74, 75, 76, 37, 77, 78, 79, 80, 81, 82, 83, 84, 85, 86, 87, 88, 89, 90, 91, 92, 93, 94, 95, 96, 97, 98, 99, 100, 101, 102, 103, 104, 105, 106, 107, 108, 109, 110, 182, 183, 184] (by decide +kernel) (by decide +kernel)
set_option maxRecDepth 20000 in
theorem gX7_copy_Jx4a65c_add_9ea2d : GoodIn wsX7_copy (wsV RX7 35 RJx4a65c yJx4a65c_add_9ea2d wsJx4a65c_add_9ea2d) := goodIn_app (goodIn_of _ (by decide +kernel)) ggX7_copy_Jx4a65c_add_9ea2d
set_option maxRecDepth 20000 in
theorem ggX7_copy_X9_copy : GoodIn wsX7_copy wsX9_copy := goodIn_r _ [167, 168, 32, 33, 52, 10, 11, 53, 54, 55, 169, 15, 16, 17, 18, 170, 56, 171, 49, 50, 51, 27, 28, 29, 57, 35, 36, 37, 38, 39, 40, 41, 42, 43, 44, 45, 46, 47, 48, 172, 155, 156, 64, 157, 158, 159, 160, 161, 162, 91, 92, 93, 94, 95, 96, 97, 98, 99, 100, 101, 102, 103, 104, 105, 79, 106, 107, 108, 109, 110, 163, 185, 186, 187, 188, 182, 183, 184] (by decide +kernel) (by decide +kernel)
set_option maxRecDepth 20000 in
theorem gX7_copy_X9_copy : GoodIn wsX7_copy (wsV RX7 56 RX9 yX9_copy wsX9_copy) := goodIn_app (goodIn_of _ (by decide +kernel)) ggX7_copy_X9_copy
set_option maxRecDepth 20000 in
theorem ggX7_copy_Jx4a65c_init_4bcb3 : GoodIn wsX7_copy wsJx4a65c_init_4bcb3 := goodIn_r _ [156, 64, 38, 157, 158, 39, 40, 41, 42, 43, 44, 45, 46, 47, 48, 27, 28, 159, 160, 161, 11, 162, 91, 92, 93, 94, 95, 96, 97, 98, 99, 100, 101, 102, 103, 104, 105, 79, 106, 107, 108, 109, 110, 163, 182, 183, 184] (by decide +kernel) (by decide +kernel)
set_option maxRecDepth 20000 in
theorem gX7_copy_Jx4a65c_init_4bcb3 : GoodIn wsX7_copy (wsJx4a65c_init_4bcb3) := ggX7_copy_Jx4a65c_init_4bcb3
theorem dX7_copy_0 : decode cX7_copy 0 = .ok (.new 13, 3) := by decide +kernel
theorem dX7_copy_3 : decode cX7_copy 3 = .ok (.dup, 1) := by decide +kernel
theorem dX7_copy_4 : decode cX7_copy 4 = .ok (.aload_n 0, 1) := by decide +kernel
theorem dX7_copy_5 : decode cX7_copy 5 = .ok (.getfield 28, 3) := by decide +kernel
theorem dX7_copy_8 : decode cX7_copy 8 = .ok (.iconst 0, 1) := by decide +kernel
theorem dX7_copy_9 : decode cX7_copy 9 = .ok (.invokespecial 39, 3) := by decide +kernel
theorem dX7_copy_12 : decode cX7_copy 12 = .ok (.astore_n 1, 1) := by decide +kernel
theorem dX7_copy_13 : decode cX7_copy 13 = .ok (.iconst 0, 1) := by decide +kernel
theorem dX7_copy_14 : decode cX7_copy 14 = .ok (.istore_n 2, 1) := by decide +kernel
theorem dX7_copy_15 : decode cX7_copy 15 = .ok (.iload_n 2, 1) := by decide +kernel
theorem dX7_copy_16 : decode cX7_copy 16 = .ok (.aload_n 0, 1) := by decide +kernel
theorem dX7_copy_17 : decode cX7_copy 17 = .ok (.getfield 12, 3) := by decide +kernel
theorem dX7_copy_20 : decode cX7_copy 20 = .ok (.invokevirtual 42, 3) := by decide +kernel
theorem dX7_copy_23 : decode cX7_copy 23 = .ok (.if_icmp .ge 31, 3) := by decide +kernel
theorem dX7_copy_26 : decode cX7_copy 26 = .ok (.aload_n 1, 1) := by decide +kernel
theorem dX7_copy_27 : decode cX7_copy 27 = .ok (.getfield 12, 3) := by decide +kernel
theorem dX7_copy_30 : decode cX7_copy 30 = .ok (.aload_n 0, 1) := by decide +kernel
theorem dX7_copy_31 : decode cX7_copy 31 = .ok (.getfield 12, 3) := by decide +kernel
theorem dX7_copy_34 : decode cX7_copy 34 = .ok (.iload_n 2, 1) := by decide +kernel
theorem dX7_copy_35 : decode cX7_copy 35 = .ok (.invokevirtual 46, 3) := by decide +kernel
theorem dX7_copy_38 : decode cX7_copy 38 = .ok (.checkcast 50, 3) := by decide +kernel
theorem dX7_copy_41 : decode cX7_copy 41 = .ok (.invokevirtual 52, 3) := by decide +kernel
theorem dX7_copy_44 : decode cX7_copy 44 = .ok (.invokevirtual 35, 3) := by decide +kernel
theorem dX7_copy_47 : decode cX7_copy 47 = .ok (.pop, 1) := by decide +kernel
theorem dX7_copy_48 : decode cX7_copy 48 = .ok (.iinc 2 1, 3) := by decide +kernel
theorem dX7_copy_51 : decode cX7_copy 51 = .ok (.goto (-36), 3) := by decide +kernel
theorem dX7_copy_54 : decode cX7_copy 54 = .ok (.iconst 0, 1) := by decide +kernel
theorem dX7_copy_55 : decode cX7_copy 55 = .ok (.istore_n 2, 1) := by decide +kernel
theorem dX7_copy_56 : decode cX7_copy 56 = .ok (.iload_n 2, 1) := by decide +kernel
theorem dX7_copy_57 : decode cX7_copy 57 = .ok (.aload_n 0, 1) := by decide +kernel
theorem dX7_copy_58 : decode cX7_copy 58 = .ok (.getfield 18, 3) := by decide +kernel
theorem dX7_copy_61 : decode cX7_copy 61 = .ok (.invokevirtual 42, 3) := by decide +kernel
theorem dX7_copy_64 : decode cX7_copy 64 = .ok (.if_icmp .ge 31, 3) := by decide +kernel
theorem dX7_copy_67 : decode cX7_copy 67 = .ok (.aload_n 1, 1) := by decide +kernel
theorem dX7_copy_68 : decode cX7_copy 68 = .ok (.getfield 18, 3) := by decide +kernel
theorem dX7_copy_71 : decode cX7_copy 71 = .ok (.aload_n 0, 1) := by decide +kernel
theorem dX7_copy_72 : decode cX7_copy 72 = .ok (.getfield 18, 3) := by decide +kernel
theorem dX7_copy_75 : decode cX7_copy 75 = .ok (.iload_n 2, 1) := by decide +kernel
theorem dX7_copy_76 : decode cX7_copy 76 = .ok (.invokevirtual 46, 3) := by decide +kernel
theorem dX7_copy_79 : decode cX7_copy 79 = .ok (.checkcast 32, 3) := by decide +kernel
theorem dX7_copy_82 : decode cX7_copy 82 = .ok (.invokevirtual 56, 3) := by decide +kernel
theorem dX7_copy_85 : decode cX7_copy 85 = .ok (.invokevirtual 35, 3) := by decide +kernel
theorem dX7_copy_88 : decode cX7_copy 88 = .ok (.pop, 1) := by decide +kernel
theorem dX7_copy_89 : decode cX7_copy 89 = .ok (.iinc 2 1, 3) := by decide +kernel
theorem dX7_copy_92 : decode cX7_copy 92 = .ok (.goto (-36), 3) := by decide +kernel
theorem dX7_copy_95 : decode cX7_copy 95 = .ok (.aload_n 1, 1) := by decide +kernel
theorem dX7_copy_96 : decode cX7_copy 96 = .ok (.new 9, 3) := by decide +kernel
theorem dX7_copy_99 : decode cX7_copy 99 = .ok (.dup, 1) := by decide +kernel
theorem dX7_copy_100 : decode cX7_copy 100 = .ok (.aload_n 0, 1) := by decide +kernel
theorem dX7_copy_101 : decode cX7_copy 101 = .ok (.getfield 21, 3) := by decide +kernel
theorem dX7_copy_104 : decode cX7_copy 104 = .ok (.invokespecial 59, 3) := by decide +kernel
theorem dX7_copy_107 : decode cX7_copy 107 = .ok (.putfield 21, 3) := by decide +kernel
theorem dX7_copy_110 : decode cX7_copy 110 = .ok (.aload_n 1, 1) := by decide +kernel
theorem dX7_copy_111 : decode cX7_copy 111 = .ok (.aload_n 0, 1) := by decide +kernel
theorem dX7_copy_112 : decode cX7_copy 112 = .ok (.getfield 24, 3) := by decide +kernel
theorem dX7_copy_115 : decode cX7_copy 115 = .ok (.invokevirtual 62, 3) := by decide +kernel
theorem dX7_copy_118 : decode cX7_copy 118 = .ok (.checkcast 63, 3) := by decide +kernel
theorem dX7_copy_121 : decode cX7_copy 121 = .ok (.putfield 24, 3) := by decide +kernel
theorem dX7_copy_124 : decode cX7_copy 124 = .ok (.aload_n 1, 1) := by decide +kernel
theorem dX7_copy_125 : decode cX7_copy 125 = .ok (.aload_n 0, 1) := by decide +kernel
theorem dX7_copy_126 : decode cX7_copy 126 = .ok (.getfield 67, 3) := by decide +kernel
theorem dX7_copy_129 : decode cX7_copy 129 = .ok (.putfield 67, 3) := by decide +kernel
theorem dX7_copy_132 : decode cX7_copy 132 = .ok (.aload_n 1, 1) := by decide +kernel
theorem dX7_copy_133 : decode cX7_copy 133 = .ok (.aload_n 0, 1) := by decide +kernel
theorem dX7_copy_134 : decode cX7_copy 134 = .ok (.getfield 71, 3) := by decide +kernel
theorem dX7_copy_137 : decode cX7_copy 137 = .ok (.putfield 71, 3) := by decide +kernel
theorem dX7_copy_140 : decode cX7_copy 140 = .ok (.aload_n 1, 1) := by decide +kernel
theorem dX7_copy_141 : decode cX7_copy 141 = .ok (.aload_n 0, 1) := by decide +kernel
theorem dX7_copy_142 : decode cX7_copy 142 = .ok (.getfield 74, 3) := by decide +kernel
theorem dX7_copy_145 : decode cX7_copy 145 = .ok (.putfield 74, 3) := by decide +kernel
theorem dX7_copy_148 : decode cX7_copy 148 = .ok (.aload_n 1, 1) := by decide +kernel
theorem dX7_copy_149 : decode cX7_copy 149 = .ok (.areturn, 1) := by decide +kernel
set_option maxRecDepth 20000 in
theorem ggX7_keep_Jx4a65c_size_8abf5 : GoodIn wsX7_keep wsJx4a65c_size_8abf5 := goodIn_r _ [12, 13, 148, 149, 150] (by decide +kernel) (by decide +kernel)
set_option maxRecDepth 20000 in
theorem gX7_keep_Jx4a65c_size_8abf5 : GoodIn wsX7_keep (wsV RX7 42 RJx4a65c yJx4a65c_size_8abf5 wsJx4a65c_size_8abf5) := goodIn_app (goodIn_of _ (by decide +kernel)) ggX7_keep_Jx4a65c_size_8abf5
set_option maxRecDepth 20000 in
theorem ggX7_keep_Jx4a65c_get_915e3 : GoodIn wsX7_keep wsJx4a65c_get_915e3 := goodIn_r _ [17, 13, 18, 19, 20, 21, 22, 23, 24, 25, 26, 27, 28, 11, 29, 30, 148, 149, 150] (by decide +kernel) (by decide +kernel)
set_option maxRecDepth 20000 in
theorem gX7_keep_Jx4a65c_get_915e3 : GoodIn wsX7_keep (wsV RX7 46 RJx4a65c yJx4a65c_get_915e3 wsJx4a65c_get_915e3) := goodIn_app (goodIn_of _ (by decide +kernel)) ggX7_keep_Jx4a65c_get_915e3
theorem dX7_keep_0 : decode cX7_keep 0 = .ok (.aload_n 0, 1) := by decide +kernel
theorem dX7_keep_1 : decode cX7_keep 1 = .ok (.getfield 24, 3) := by decide +kernel
theorem dX7_keep_4 : decode cX7_keep 4 = .ok (.iload_n 1, 1) := by decide +kernel
theorem dX7_keep_5 : decode cX7_keep 5 = .ok (.iaload, 1) := by decide +kernel
theorem dX7_keep_6 : decode cX7_keep 6 = .ok (.ldc 31, 2) := by decide +kernel
theorem dX7_keep_8 : decode cX7_keep 8 = .ok (.if_icmp .eq 5, 3) := by decide +kernel
theorem dX7_keep_11 : decode cX7_keep 11 = .ok (.iconst 0, 1) := by decide +kernel
theorem dX7_keep_12 : decode cX7_keep 12 = .ok (.ireturn, 1) := by decide +kernel
theorem dX7_keep_13 : decode cX7_keep 13 = .ok (.aload_n 0, 1) := by decide +kernel
theorem dX7_keep_14 : decode cX7_keep 14 = .ok (.getfield 24, 3) := by decide +kernel
theorem dX7_keep_17 : decode cX7_keep 17 = .ok (.iload_n 1, 1) := by decide +kernel
theorem dX7_keep_18 : decode cX7_keep 18 = .ok (.iload_n 2, 1) := by decide +kernel
theorem dX7_keep_19 : decode cX7_keep 19 = .ok (.iastore, 1) := by decide +kernel
theorem dX7_keep_20 : decode cX7_keep 20 = .ok (.iconst 0, 1) := by decide +kernel
theorem dX7_keep_21 : decode cX7_keep 21 = .ok (.istore_n 3, 1) := by decide +kernel
theorem dX7_keep_22 : decode cX7_keep 22 = .ok (.iload_n 3, 1) := by decide +kernel
theorem dX7_keep_23 : decode cX7_keep 23 = .ok (.aload_n 0, 1) := by decide +kernel
theorem dX7_keep_24 : decode cX7_keep 24 = .ok (.getfield 12, 3) := by decide +kernel
theorem dX7_keep_27 : decode cX7_keep 27 = .ok (.invokevirtual 42, 3) := by decide +kernel
theorem dX7_keep_30 : decode cX7_keep 30 = .ok (.if_icmp .ge 59, 3) := by decide +kernel
theorem dX7_keep_33 : decode cX7_keep 33 = .ok (.aload_n 0, 1) := by decide +kernel
theorem dX7_keep_34 : decode cX7_keep 34 = .ok (.getfield 12, 3) := by decide +kernel
theorem dX7_keep_37 : decode cX7_keep 37 = .ok (.iload_n 3, 1) := by decide +kernel
theorem dX7_keep_38 : decode cX7_keep 38 = .ok (.invokevirtual 46, 3) := by decide +kernel
theorem dX7_keep_41 : decode cX7_keep 41 = .ok (.checkcast 50, 3) := by decide +kernel
theorem dX7_keep_44 : decode cX7_keep 44 = .ok (.astore 4, 2) := by decide +kernel
theorem dX7_keep_46 : decode cX7_keep 46 = .ok (.aload 4, 2) := by decide +kernel
theorem dX7_keep_48 : decode cX7_keep 48 = .ok (.getfield 89, 3) := by decide +kernel
theorem dX7_keep_51 : decode cX7_keep 51 = .ok (.iconst 3, 1) := by decide +kernel
theorem dX7_keep_52 : decode cX7_keep 52 = .ok (.if_icmp .ne 31, 3) := by decide +kernel
theorem dX7_keep_55 : decode cX7_keep 55 = .ok (.aload_n 0, 1) := by decide +kernel
theorem dX7_keep_56 : decode cX7_keep 56 = .ok (.aload 4, 2) := by decide +kernel
theorem dX7_keep_58 : decode cX7_keep 58 = .ok (.invokevirtual 142, 3) := by decide +kernel
theorem dX7_keep_61 : decode cX7_keep 61 = .ok (.aload 4, 2) := by decide +kernel
theorem dX7_keep_63 : decode cX7_keep 63 = .ok (.getfield 146, 3) := by decide +kernel
theorem dX7_keep_66 : decode cX7_keep 66 = .ok (.invokevirtual 46, 3) := by decide +kernel
theorem dX7_keep_69 : decode cX7_keep 69 = .ok (.checkcast 63, 3) := by decide +kernel
theorem dX7_keep_72 : decode cX7_keep 72 = .ok (.iconst 1, 1) := by decide +kernel
theorem dX7_keep_73 : decode cX7_keep 73 = .ok (.iaload, 1) := by decide +kernel
theorem dX7_keep_74 : decode cX7_keep 74 = .ok (.iload_n 1, 1) := by decide +kernel
theorem dX7_keep_75 : decode cX7_keep 75 = .ok (.if_icmp .ne 8, 3) := by decide +kernel
theorem dX7_keep_78 : decode cX7_keep 78 = .ok (.aload_n 0, 1) := by decide +kernel
theorem dX7_keep_79 : decode cX7_keep 79 = .ok (.iload_n 3, 1) := by decide +kernel
theorem dX7_keep_80 : decode cX7_keep 80 = .ok (.invokevirtual 111, 3) := by decide +kernel
theorem dX7_keep_83 : decode cX7_keep 83 = .ok (.iinc 3 1, 3) := by decide +kernel
theorem dX7_keep_86 : decode cX7_keep 86 = .ok (.goto (-64), 3) := by decide +kernel
theorem dX7_keep_89 : decode cX7_keep 89 = .ok (.iconst 1, 1) := by decide +kernel
theorem dX7_keep_90 : decode cX7_keep 90 = .ok (.ireturn, 1) := by decide +kernel
set_option maxRecDepth 20000 in
theorem ggX7_wants_Jx4a65c_get_915e3 : GoodIn wsX7_wants wsJx4a65c_get_915e3 := goodIn_r _ [10, 11, 12, 13, 14, 15, 16, 17, 18, 19, 20, 21, 22, 9, 23, 24, 61, 62, 63] (by decide +kernel) (by decide +kernel)
set_option maxRecDepth 20000 in
theorem gX7_wants_Jx4a65c_get_915e3 : GoodIn wsX7_wants (wsV RX7 46 RJx4a65c yJx4a65c_get_915e3 wsJx4a65c_get_915e3) := goodIn_app (goodIn_of _ (by decide +kernel)) ggX7_wants_Jx4a65c_get_915e3
set_option maxRecDepth 20000 in
theorem ggX7_wants_X9_top : GoodIn wsX7_wants wsX9_top := goodIn_r _ [29, 30, 31, 32, 33, 34, 9, 35, 11, 36, 37, 38, 39, 40, 7, 8, 10, 12, 13, 14, 15, 16, 17, 18, 19, 20, 21, 22, 23, 24, 41, 42, 43, 44, 45, 46, 64, 65, 66, 67, 61, 62, 63, 68] (by decide +kernel) (by decide +kernel)
set_option maxRecDepth 20000 in
theorem gX7_wants_X9_top : GoodIn wsX7_wants (wsV RX7 183 RX9 yX9_top wsX9_top) := goodIn_app (goodIn_of _ (by decide +kernel)) ggX7_wants_X9_top
theorem dX7_wants_0 : decode cX7_wants 0 = .ok (.aload_n 0, 1) := by decide +kernel
theorem dX7_wants_1 : decode cX7_wants 1 = .ok (.getfield 18, 3) := by decide +kernel
theorem dX7_wants_4 : decode cX7_wants 4 = .ok (.iload_n 1, 1) := by decide +kernel
theorem dX7_wants_5 : decode cX7_wants 5 = .ok (.invokevirtual 46, 3) := by decide +kernel
theorem dX7_wants_8 : decode cX7_wants 8 = .ok (.checkcast 32, 3) := by decide +kernel
theorem dX7_wants_11 : decode cX7_wants 11 = .ok (.invokevirtual 183, 3) := by decide +kernel
theorem dX7_wants_14 : decode cX7_wants 14 = .ok (.istore_n 2, 1) := by decide +kernel
theorem dX7_wants_15 : decode cX7_wants 15 = .ok (.iload_n 2, 1) := by decide +kernel
theorem dX7_wants_16 : decode cX7_wants 16 = .ok (.iconst (-1), 1) := by decide +kernel
theorem dX7_wants_17 : decode cX7_wants 17 = .ok (.if_icmp .eq 28, 3) := by decide +kernel
theorem dX7_wants_20 : decode cX7_wants 20 = .ok (.aload_n 0, 1) := by decide +kernel
theorem dX7_wants_21 : decode cX7_wants 21 = .ok (.getfield 67, 3) := by decide +kernel
theorem dX7_wants_24 : decode cX7_wants 24 = .ok (.iconst 2, 1) := by decide +kernel
theorem dX7_wants_25 : decode cX7_wants 25 = .ok (.if_icmp .ne 24, 3) := by decide +kernel
theorem dX7_wants_28 : decode cX7_wants 28 = .ok (.aload_n 0, 1) := by decide +kernel
theorem dX7_wants_29 : decode cX7_wants 29 = .ok (.getfield 12, 3) := by decide +kernel
theorem dX7_wants_32 : decode cX7_wants 32 = .ok (.iload_n 2, 1) := by decide +kernel
theorem dX7_wants_33 : decode cX7_wants 33 = .ok (.invokevirtual 46, 3) := by decide +kernel
theorem dX7_wants_36 : decode cX7_wants 36 = .ok (.checkcast 50, 3) := by decide +kernel
theorem dX7_wants_39 : decode cX7_wants 39 = .ok (.invokevirtual 186, 3) := by decide +kernel
theorem dX7_wants_42 : decode cX7_wants 42 = .ok (.ifCond .eq 7, 3) := by decide +kernel
theorem dX7_wants_45 : decode cX7_wants 45 = .ok (.iconst 1, 1) := by decide +kernel
theorem dX7_wants_46 : decode cX7_wants 46 = .ok (.goto 4, 3) := by decide +kernel
theorem dX7_wants_49 : decode cX7_wants 49 = .ok (.iconst 0, 1) := by decide +kernel
theorem dX7_wants_50 : decode cX7_wants 50 = .ok (.ireturn, 1) := by decide +kernel
set_option maxRecDepth 20000 in
theorem ggX7_victim_Jx4a65c_size_8abf5 : GoodIn wsX7_victim wsJx4a65c_size_8abf5 := goodIn_r _ [9, 10, 44, 45, 46] (by decide +kernel) (by decide +kernel)
set_option maxRecDepth 20000 in
theorem gX7_victim_Jx4a65c_size_8abf5 : GoodIn wsX7_victim (wsV RX7 42 RJx4a65c yJx4a65c_size_8abf5 wsJx4a65c_size_8abf5) := goodIn_app (goodIn_of _ (by decide +kernel)) ggX7_victim_Jx4a65c_size_8abf5
set_option maxRecDepth 20000 in
theorem ggX7_victim_Jx4a65c_get_915e3 : GoodIn wsX7_victim wsJx4a65c_get_915e3 := goodIn_r _ [14, 10, 15, 16, 17, 18, 19, 20, 21, 22, 23, 24, 25, 8, 26, 27, 44, 45, 46] (by decide +kernel) (by decide +kernel)
set_option maxRecDepth 20000 in
theorem gX7_victim_Jx4a65c_get_915e3 : GoodIn wsX7_victim (wsV RX7 46 RJx4a65c yJx4a65c_get_915e3 wsJx4a65c_get_915e3) := goodIn_app (goodIn_of _ (by decide +kernel)) ggX7_victim_Jx4a65c_get_915e3
set_option maxRecDepth 20000 in
theorem ggX7_victim_Jx4a65c_isEmpty_aae02 : GoodIn wsX7_victim wsJx4a65c_isEmpty_aae02 := goodIn_r _ [31, 10, 44, 45, 46] (by decide +kernel) (by decide +kernel)
set_option maxRecDepth 20000 in
theorem gX7_victim_Jx4a65c_isEmpty_aae02 : GoodIn wsX7_victim (wsV RX7 118 RJx4a65c yJx4a65c_isEmpty_aae02 wsJx4a65c_isEmpty_aae02) := goodIn_app (goodIn_of _ (by decide +kernel)) ggX7_victim_Jx4a65c_isEmpty_aae02
theorem dX7_victim_0 : decode cX7_victim 0 = .ok (.iconst (-1), 1) := by decide +kernel
theorem dX7_victim_1 : decode cX7_victim 1 = .ok (.istore_n 2, 1) := by decide +kernel
theorem dX7_victim_2 : decode cX7_victim 2 = .ok (.iconst 1, 1) := by decide +kernel
theorem dX7_victim_3 : decode cX7_victim 3 = .ok (.istore_n 3, 1) := by decide +kernel
theorem dX7_victim_4 : decode cX7_victim 4 = .ok (.iload_n 3, 1) := by decide +kernel
theorem dX7_victim_5 : decode cX7_victim 5 = .ok (.aload_n 0, 1) := by decide +kernel
theorem dX7_victim_6 : decode cX7_victim 6 = .ok (.getfield 18, 3) := by decide +kernel
theorem dX7_victim_9 : decode cX7_victim 9 = .ok (.invokevirtual 42, 3) := by decide +kernel
theorem dX7_victim_12 : decode cX7_victim 12 = .ok (.if_icmp .ge 58, 3) := by decide +kernel
theorem dX7_victim_15 : decode cX7_victim 15 = .ok (.iload_n 1, 1) := by decide +kernel
theorem dX7_victim_16 : decode cX7_victim 16 = .ok (.iload_n 3, 1) := by decide +kernel
theorem dX7_victim_17 : decode cX7_victim 17 = .ok (.iadd, 1) := by decide +kernel
theorem dX7_victim_18 : decode cX7_victim 18 = .ok (.aload_n 0, 1) := by decide +kernel
theorem dX7_victim_19 : decode cX7_victim 19 = .ok (.getfield 18, 3) := by decide +kernel
theorem dX7_victim_22 : decode cX7_victim 22 = .ok (.invokevirtual 42, 3) := by decide +kernel
theorem dX7_victim_25 : decode cX7_victim 25 = .ok (.irem, 1) := by decide +kernel
theorem dX7_victim_26 : decode cX7_victim 26 = .ok (.istore 4, 2) := by decide +kernel
theorem dX7_victim_28 : decode cX7_victim 28 = .ok (.aload_n 0, 1) := by decide +kernel
theorem dX7_victim_29 : decode cX7_victim 29 = .ok (.getfield 71, 3) := by decide +kernel
theorem dX7_victim_32 : decode cX7_victim 32 = .ok (.ifCond .ne 32, 3) := by decide +kernel
theorem dX7_victim_35 : decode cX7_victim 35 = .ok (.iload_n 2, 1) := by decide +kernel
theorem dX7_victim_36 : decode cX7_victim 36 = .ok (.iconst (-1), 1) := by decide +kernel
theorem dX7_victim_37 : decode cX7_victim 37 = .ok (.if_icmp .ne 27, 3) := by decide +kernel
theorem dX7_victim_40 : decode cX7_victim 40 = .ok (.aload_n 0, 1) := by decide +kernel
theorem dX7_victim_41 : decode cX7_victim 41 = .ok (.getfield 18, 3) := by decide +kernel
theorem dX7_victim_44 : decode cX7_victim 44 = .ok (.iload 4, 2) := by decide +kernel
theorem dX7_victim_46 : decode cX7_victim 46 = .ok (.invokevirtual 46, 3) := by decide +kernel
theorem dX7_victim_49 : decode cX7_victim 49 = .ok (.checkcast 32, 3) := by decide +kernel
theorem dX7_victim_52 : decode cX7_victim 52 = .ok (.getfield 98, 3) := by decide +kernel
theorem dX7_victim_55 : decode cX7_victim 55 = .ok (.invokevirtual 118, 3) := by decide +kernel
theorem dX7_victim_58 : decode cX7_victim 58 = .ok (.ifCond .ne 6, 3) := by decide +kernel
theorem dX7_victim_61 : decode cX7_victim 61 = .ok (.iload 4, 2) := by decide +kernel
theorem dX7_victim_63 : decode cX7_victim 63 = .ok (.istore_n 2, 1) := by decide +kernel
theorem dX7_victim_64 : decode cX7_victim 64 = .ok (.iinc 3 1, 3) := by decide +kernel
theorem dX7_victim_67 : decode cX7_victim 67 = .ok (.goto (-63), 3) := by decide +kernel
theorem dX7_victim_70 : decode cX7_victim 70 = .ok (.iconst 0, 1) := by decide +kernel
theorem dX7_victim_71 : decode cX7_victim 71 = .ok (.istore_n 3, 1) := by decide +kernel
theorem dX7_victim_72 : decode cX7_victim 72 = .ok (.aload_n 0, 1) := by decide +kernel
theorem dX7_victim_73 : decode cX7_victim 73 = .ok (.getfield 71, 3) := by decide +kernel
theorem dX7_victim_76 : decode cX7_victim 76 = .ok (.iconst 1, 1) := by decide +kernel
theorem dX7_victim_77 : decode cX7_victim 77 = .ok (.if_icmp .ne 73, 3) := by decide +kernel
theorem dX7_victim_80 : decode cX7_victim 80 = .ok (.iload_n 3, 1) := by decide +kernel
theorem dX7_victim_81 : decode cX7_victim 81 = .ok (.aload_n 0, 1) := by decide +kernel
theorem dX7_victim_82 : decode cX7_victim 82 = .ok (.getfield 18, 3) := by decide +kernel
theorem dX7_victim_85 : decode cX7_victim 85 = .ok (.invokevirtual 42, 3) := by decide +kernel
theorem dX7_victim_88 : decode cX7_victim 88 = .ok (.if_icmp .ge 62, 3) := by decide +kernel
theorem dX7_victim_91 : decode cX7_victim 91 = .ok (.iload_n 3, 1) := by decide +kernel
theorem dX7_victim_92 : decode cX7_victim 92 = .ok (.iload_n 1, 1) := by decide +kernel
theorem dX7_victim_93 : decode cX7_victim 93 = .ok (.if_icmp .eq 51, 3) := by decide +kernel
theorem dX7_victim_96 : decode cX7_victim 96 = .ok (.aload_n 0, 1) := by decide +kernel
theorem dX7_victim_97 : decode cX7_victim 97 = .ok (.getfield 18, 3) := by decide +kernel
theorem dX7_victim_100 : decode cX7_victim 100 = .ok (.iload_n 3, 1) := by decide +kernel
theorem dX7_victim_101 : decode cX7_victim 101 = .ok (.invokevirtual 46, 3) := by decide +kernel
theorem dX7_victim_104 : decode cX7_victim 104 = .ok (.checkcast 32, 3) := by decide +kernel
theorem dX7_victim_107 : decode cX7_victim 107 = .ok (.getfield 98, 3) := by decide +kernel
theorem dX7_victim_110 : decode cX7_victim 110 = .ok (.invokevirtual 42, 3) := by decide +kernel
theorem dX7_victim_113 : decode cX7_victim 113 = .ok (.iload_n 2, 1) := by decide +kernel
theorem dX7_victim_114 : decode cX7_victim 114 = .ok (.iconst (-1), 1) := by decide +kernel
theorem dX7_victim_115 : decode cX7_victim 115 = .ok (.if_icmp .ne 7, 3) := by decide +kernel
theorem dX7_victim_118 : decode cX7_victim 118 = .ok (.iconst 0, 1) := by decide +kernel
theorem dX7_victim_119 : decode cX7_victim 119 = .ok (.goto 20, 3) := by decide +kernel
theorem dX7_victim_122 : decode cX7_victim 122 = .ok (.aload_n 0, 1) := by decide +kernel
theorem dX7_victim_123 : decode cX7_victim 123 = .ok (.getfield 18, 3) := by decide +kernel
theorem dX7_victim_126 : decode cX7_victim 126 = .ok (.iload_n 2, 1) := by decide +kernel
theorem dX7_victim_127 : decode cX7_victim 127 = .ok (.invokevirtual 46, 3) := by decide +kernel
theorem dX7_victim_130 : decode cX7_victim 130 = .ok (.checkcast 32, 3) := by decide +kernel
theorem dX7_victim_133 : decode cX7_victim 133 = .ok (.getfield 98, 3) := by decide +kernel
theorem dX7_victim_136 : decode cX7_victim 136 = .ok (.invokevirtual 42, 3) := by decide +kernel
theorem dX7_victim_139 : decode cX7_victim 139 = .ok (.if_icmp .le 5, 3) := by decide +kernel
theorem dX7_victim_142 : decode cX7_victim 142 = .ok (.iload_n 3, 1) := by decide +kernel
theorem dX7_victim_143 : decode cX7_victim 143 = .ok (.istore_n 2, 1) := by decide +kernel
theorem dX7_victim_144 : decode cX7_victim 144 = .ok (.iinc 3 1, 3) := by decide +kernel
theorem dX7_victim_147 : decode cX7_victim 147 = .ok (.goto (-75), 3) := by decide +kernel
theorem dX7_victim_150 : decode cX7_victim 150 = .ok (.iload_n 2, 1) := by decide +kernel
theorem dX7_victim_151 : decode cX7_victim 151 = .ok (.ireturn, 1) := by decide +kernel
set_option maxRecDepth 20000 in
theorem ggX7_isBusy_X7_wants : GoodIn wsX7_isBusy wsX7_wants := goodIn_r _ [11, 1, 2, 12, 5, 6, 13, 14, 15, 16, 17, 18, 19, 20, 21, 22, 23, 24, 25, 26, 27, 28, 29, 30, 31, 32, 33, 34, 35, 36, 37, 38, 39, 40, 41, 42, 43, 44, 45, 46, 47, 48, 49, 50, 51, 52, 53, 54, 55, 56, 57, 58, 59, 67, 68, 69, 70, 71, 72, 73, 74, 79, 80, 81, 75, 76, 77, 78, 82, 83, 84, 85, 86, 87, 88, 89, 90, 91, 92] (by decide +kernel) (by decide +kernel)
set_option maxRecDepth 20000 in
theorem gX7_isBusy_X7_wants : GoodIn wsX7_isBusy (wsV RX7 189 RX7 yX7_wants wsX7_wants) := goodIn_app (goodIn_of _ (by decide +kernel)) ggX7_isBusy_X7_wants
set_option maxRecDepth 20000 in
theorem ggX7_isBusy_Jx4a65c_get_915e3 : GoodIn wsX7_isBusy wsJx4a65c_get_915e3 := goodIn_r _ [17, 18, 19, 20, 21, 22, 23, 24, 25, 26, 27, 28, 29, 16, 30, 31, 79, 80, 81] (by decide +kernel) (by decide +kernel)
set_option maxRecDepth 20000 in
theorem gX7_isBusy_Jx4a65c_get_915e3 : GoodIn wsX7_isBusy (wsV RX7 46 RJx4a65c yJx4a65c_get_915e3 wsJx4a65c_get_915e3) := goodIn_app (goodIn_of _ (by decide +kernel)) ggX7_isBusy_Jx4a65c_get_915e3
set_option maxRecDepth 20000 in
theorem ggX7_isBusy_Jx4a65c_isEmpty_aae02 : GoodIn wsX7_isBusy wsJx4a65c_isEmpty_aae02 := goodIn_r _ [42, 18, 79, 80, 81] (by decide +kernel) (by decide +kernel)
set_option maxRecDepth 20000 in
theorem gX7_isBusy_Jx4a65c_isEmpty_aae02 : GoodIn wsX7_isBusy (wsV RX7 118 RJx4a65c yJx4a65c_isEmpty_aae02 wsJx4a65c_isEmpty_aae02) := goodIn_app (goodIn_of _ (by decide +kernel)) ggX7_isBusy_Jx4a65c_isEmpty_aae02
set_option maxRecDepth 20000 in
theorem ggX7_isBusy_X7_victim : GoodIn wsX7_isBusy wsX7_victim := goodIn_r _ [64, 1, 65, 2, 3, 66, 44, 45, 16, 46, 18, 13, 14, 15, 17, 19, 20, 21, 22, 23, 24, 25, 26, 27, 28, 29, 30, 31, 60, 40, 41, 42, 67, 68, 69, 70, 71, 72, 73, 74, 75, 76, 77, 78, 79, 80, 81] (by decide +kernel) (by decide +kernel)
set_option maxRecDepth 20000 in
theorem gX7_isBusy_X7_victim : GoodIn wsX7_isBusy (wsV RX7 193 RX7 yX7_victim wsX7_victim) := goodIn_app (goodIn_of _ (by decide +kernel)) ggX7_isBusy_X7_victim
set_option maxRecDepth 20000 in
theorem ggX7_isBusy_X9_top : GoodIn wsX7_isBusy wsX9_top := goodIn_r _ [36, 37, 38, 39, 40, 41, 16, 42, 18, 43, 44, 45, 46, 47, 14, 15, 17, 19, 20, 21, 22, 23, 24, 25, 26, 27, 28, 29, 30, 31, 48, 49, 50, 51, 52, 53, 75, 76, 77, 78, 79, 80, 81, 82] (by decide +kernel) (by decide +kernel)
set_option maxRecDepth 20000 in
theorem gX7_isBusy_X9_top : GoodIn wsX7_isBusy (wsV RX7 183 RX9 yX9_top wsX9_top) := goodIn_app (goodIn_of _ (by decide +kernel)) ggX7_isBusy_X9_top
theorem dX7_isBusy_0 : decode cX7_isBusy 0 = .ok (.aload_n 0, 1) := by decide +kernel
theorem dX7_isBusy_1 : decode cX7_isBusy 1 = .ok (.iload_n 1, 1) := by decide +kernel
theorem dX7_isBusy_2 : decode cX7_isBusy 2 = .ok (.invokevirtual 189, 3) := by decide +kernel
theorem dX7_isBusy_5 : decode cX7_isBusy 5 = .ok (.ifCond .eq 48, 3) := by decide +kernel
theorem dX7_isBusy_8 : decode cX7_isBusy 8 = .ok (.aload_n 0, 1) := by decide +kernel
theorem dX7_isBusy_9 : decode cX7_isBusy 9 = .ok (.getfield 18, 3) := by decide +kernel
theorem dX7_isBusy_12 : decode cX7_isBusy 12 = .ok (.iload_n 1, 1) := by decide +kernel
theorem dX7_isBusy_13 : decode cX7_isBusy 13 = .ok (.invokevirtual 46, 3) := by decide +kernel
theorem dX7_isBusy_16 : decode cX7_isBusy 16 = .ok (.checkcast 32, 3) := by decide +kernel
theorem dX7_isBusy_19 : decode cX7_isBusy 19 = .ok (.getfield 98, 3) := by decide +kernel
theorem dX7_isBusy_22 : decode cX7_isBusy 22 = .ok (.invokevirtual 118, 3) := by decide +kernel
theorem dX7_isBusy_25 : decode cX7_isBusy 25 = .ok (.ifCond .eq 22, 3) := by decide +kernel
theorem dX7_isBusy_28 : decode cX7_isBusy 28 = .ok (.aload_n 0, 1) := by decide +kernel
theorem dX7_isBusy_29 : decode cX7_isBusy 29 = .ok (.getfield 21, 3) := by decide +kernel
theorem dX7_isBusy_32 : decode cX7_isBusy 32 = .ok (.invokevirtual 118, 3) := by decide +kernel
theorem dX7_isBusy_35 : decode cX7_isBusy 35 = .ok (.ifCond .eq 12, 3) := by decide +kernel
theorem dX7_isBusy_38 : decode cX7_isBusy 38 = .ok (.aload_n 0, 1) := by decide +kernel
theorem dX7_isBusy_39 : decode cX7_isBusy 39 = .ok (.iload_n 1, 1) := by decide +kernel
theorem dX7_isBusy_40 : decode cX7_isBusy 40 = .ok (.invokevirtual 193, 3) := by decide +kernel
theorem dX7_isBusy_43 : decode cX7_isBusy 43 = .ok (.iconst (-1), 1) := by decide +kernel
theorem dX7_isBusy_44 : decode cX7_isBusy 44 = .ok (.if_icmp .eq 7, 3) := by decide +kernel
theorem dX7_isBusy_47 : decode cX7_isBusy 47 = .ok (.iconst 1, 1) := by decide +kernel
theorem dX7_isBusy_48 : decode cX7_isBusy 48 = .ok (.goto 4, 3) := by decide +kernel
theorem dX7_isBusy_51 : decode cX7_isBusy 51 = .ok (.iconst 0, 1) := by decide +kernel
theorem dX7_isBusy_52 : decode cX7_isBusy 52 = .ok (.ireturn, 1) := by decide +kernel
theorem dX7_isBusy_53 : decode cX7_isBusy 53 = .ok (.aload_n 0, 1) := by decide +kernel
theorem dX7_isBusy_54 : decode cX7_isBusy 54 = .ok (.getfield 12, 3) := by decide +kernel
theorem dX7_isBusy_57 : decode cX7_isBusy 57 = .ok (.aload_n 0, 1) := by decide +kernel
theorem dX7_isBusy_58 : decode cX7_isBusy 58 = .ok (.getfield 18, 3) := by decide +kernel
theorem dX7_isBusy_61 : decode cX7_isBusy 61 = .ok (.iload_n 1, 1) := by decide +kernel
theorem dX7_isBusy_62 : decode cX7_isBusy 62 = .ok (.invokevirtual 46, 3) := by decide +kernel
theorem dX7_isBusy_65 : decode cX7_isBusy 65 = .ok (.checkcast 32, 3) := by decide +kernel
theorem dX7_isBusy_68 : decode cX7_isBusy 68 = .ok (.invokevirtual 183, 3) := by decide +kernel
theorem dX7_isBusy_71 : decode cX7_isBusy 71 = .ok (.invokevirtual 46, 3) := by decide +kernel
theorem dX7_isBusy_74 : decode cX7_isBusy 74 = .ok (.checkcast 50, 3) := by decide +kernel
theorem dX7_isBusy_77 : decode cX7_isBusy 77 = .ok (.invokevirtual 186, 3) := by decide +kernel
theorem dX7_isBusy_80 : decode cX7_isBusy 80 = .ok (.ifCond .ne 7, 3) := by decide +kernel
theorem dX7_isBusy_83 : decode cX7_isBusy 83 = .ok (.iconst 1, 1) := by decide +kernel
theorem dX7_isBusy_84 : decode cX7_isBusy 84 = .ok (.goto 4, 3) := by decide +kernel
theorem dX7_isBusy_87 : decode cX7_isBusy 87 = .ok (.iconst 0, 1) := by decide +kernel
theorem dX7_isBusy_88 : decode cX7_isBusy 88 = .ok (.ireturn, 1) := by decide +kernel
set_option maxRecDepth 20000 in
theorem ggX7_take_Jx4a65c_get_915e3 : GoodIn wsX7_take wsJx4a65c_get_915e3 := goodIn_r _ [15, 16, 17, 18, 19, 20, 21, 22, 23, 24, 25, 26, 27, 14, 28, 29, 151, 152, 153] (by decide +kernel) (by decide +kernel)
set_option maxRecDepth 20000 in
theorem gX7_take_Jx4a65c_get_915e3 : GoodIn wsX7_take (wsV RX7 46 RJx4a65c yJx4a65c_get_915e3 wsJx4a65c_get_915e3) := goodIn_app (goodIn_of _ (by decide +kernel)) ggX7_take_Jx4a65c_get_915e3
set_option maxRecDepth 20000 in
theorem ggX7_take_X7_victim : GoodIn wsX7_take wsX7_victim := goodIn_r _ [34, 1, 35, 2, 3, 36, 37, 38, 14, 39, 16, 11, 12, 13, 15, 17, 18, 19, 20, 21, 22, 23, 24, 25, 26, 27, 28, 29, 40, 41, 42, 43, 129, 130, 131, 132, 133, 134, 135, 136, 137, 138, 139, 140, 151, 152, 153] (by decide +kernel) (by decide +kernel)
set_option maxRecDepth 20000 in
theorem gX7_take_X7_victim : GoodIn wsX7_take (wsV RX7 193 RX7 yX7_victim wsX7_victim) := goodIn_app (goodIn_of _ (by decide +kernel)) ggX7_take_X7_victim
set_option maxRecDepth 20000 in
theorem ggX7_take_Jx4a65c_isEmpty_aae02 : GoodIn wsX7_take wsJx4a65c_isEmpty_aae02 := goodIn_r _ [43, 16, 151, 152, 153] (by decide +kernel) (by decide +kernel)
set_option maxRecDepth 20000 in
theorem gX7_take_Jx4a65c_isEmpty_aae02 : GoodIn wsX7_take (wsV RX7 118 RJx4a65c yJx4a65c_isEmpty_aae02 wsJx4a65c_isEmpty_aae02) := goodIn_app (goodIn_of _ (by decide +kernel)) ggX7_take_Jx4a65c_isEmpty_aae02
set_option maxRecDepth 20000 in
theorem ggX7_take_Jx4a65c_size_8abf5 : GoodIn wsX7_take wsJx4a65c_size_8abf5 := goodIn_r _ [39, 16, 151, 152, 153] (by decide +kernel) (by decide +kernel)
set_option maxRecDepth 20000 in
theorem gX7_take_Jx4a65c_size_8abf5 : GoodIn wsX7_take (wsV RX7 42 RJx4a65c yJx4a65c_size_8abf5 wsJx4a65c_size_8abf5) := goodIn_app (goodIn_of _ (by decide +kernel)) ggX7_take_Jx4a65c_size_8abf5
set_option maxRecDepth 20000 in
theorem ggX7_take_Jx4a65c_remove_915e3 : GoodIn wsX7_take wsJx4a65c_remove_915e3 := goodIn_r _ [47, 16, 29, 17, 18, 19, 20, 21, 22, 23, 24, 48, 49, 50, 14, 51, 52, 53, 54, 55, 56, 57, 151, 152, 153] (by decide +kernel) (by decide +kernel)
set_option maxRecDepth 20000 in
theorem gX7_take_Jx4a65c_remove_915e3 : GoodIn wsX7_take (wsV RX7 156 RJx4a65c yJx4a65c_remove_915e3 wsJx4a65c_remove_915e3) := goodIn_app (goodIn_of _ (by decide +kernel)) ggX7_take_Jx4a65c_remove_915e3
set_option maxRecDepth 20000 in
theorem ggX7_take_J6_intValue_8abf5 : GoodIn wsX7_take wsJ6_intValue_8abf5 := goodIn_r _ [62, 63, 154] (by decide +kernel) (by decide +kernel)
set_option maxRecDepth 20000 in
theorem gX7_take_J6_intValue_8abf5 : GoodIn wsX7_take (wsV RX7 122 RJ6 yJ6_intValue_8abf5 wsJ6_intValue_8abf5) := goodIn_app (goodIn_of _ (by decide +kernel)) ggX7_take_J6_intValue_8abf5
set_option maxRecDepth 20000 in
theorem ggX7_take_J6_valueOf_2dffe : GoodIn wsX7_take wsJ6_valueOf_2dffe := goodIn_r _ [66, 67, 68, 69, 70, 61, 71, 72, 73, 63, 74, 75, 76, 77, 78, 79, 80, 154] (by decide +kernel) (by decide +kernel)
set_option maxRecDepth 20000 in
theorem gX7_take_J6_valueOf_2dffe : GoodIn wsX7_take (va_wsS RX7 80 yJ6_valueOf_2dffe wsJ6_valueOf_2dffe) := goodIn_app (goodIn_of _ (by decide +kernel)) ggX7_take_J6_valueOf_2dffe
set_option maxRecDepth 20000 in
theorem ggX7_take_Jx4a65c_add_9ea2d : GoodIn wsX7_take wsJx4a65c_add_9ea2d := goodIn_r _ [84, 52, 53, 29, 16, 85, 86, 87, 14, 88, 89, 90, 91, 92, 93, 94, 95, 96, 97, 98, 99, 100, 101, 102, 103, 104, 105, 106, 107, 108, 109, 110, 111, 112, 113, 114, 115, 116, 117, 118, 119, 120, 121, 122, 123, 124, 125, 126, 127, 128, 55, 56, 57, 151, 152, 153] (by decide +kernel) (by decide +kernel)
set_option maxRecDepth 20000 in
theorem gX7_take_Jx4a65c_add_9ea2d : GoodIn wsX7_take (wsV RX7 35 RJx4a65c yJx4a65c_add_9ea2d wsJx4a65c_add_9ea2d) := goodIn_app (goodIn_of _ (by decide +kernel)) ggX7_take_Jx4a65c_add_9ea2d
theorem dX7_take_0 : decode cX7_take 0 = .ok (.aload_n 0, 1) := by decide +kernel
theorem dX7_take_1 : decode cX7_take 1 = .ok (.getfield 18, 3) := by decide +kernel
theorem dX7_take_4 : decode cX7_take 4 = .ok (.iload_n 1, 1) := by decide +kernel
theorem dX7_take_5 : decode cX7_take 5 = .ok (.invokevirtual 46, 3) := by decide +kernel
theorem dX7_take_8 : decode cX7_take 8 = .ok (.checkcast 32, 3) := by decide +kernel
theorem dX7_take_11 : decode cX7_take 11 = .ok (.astore_n 2, 1) := by decide +kernel
theorem dX7_take_12 : decode cX7_take 12 = .ok (.aload_n 0, 1) := by decide +kernel
theorem dX7_take_13 : decode cX7_take 13 = .ok (.iload_n 1, 1) := by decide +kernel
theorem dX7_take_14 : decode cX7_take 14 = .ok (.invokevirtual 193, 3) := by decide +kernel
theorem dX7_take_17 : decode cX7_take 17 = .ok (.istore_n 3, 1) := by decide +kernel
theorem dX7_take_18 : decode cX7_take 18 = .ok (.iconst 1, 1) := by decide +kernel
theorem dX7_take_19 : decode cX7_take 19 = .ok (.istore 5, 2) := by decide +kernel
theorem dX7_take_21 : decode cX7_take 21 = .ok (.aload_n 2, 1) := by decide +kernel
theorem dX7_take_22 : decode cX7_take 22 = .ok (.getfield 98, 3) := by decide +kernel
theorem dX7_take_25 : decode cX7_take 25 = .ok (.invokevirtual 118, 3) := by decide +kernel
theorem dX7_take_28 : decode cX7_take 28 = .ok (.ifCond .ne 30, 3) := by decide +kernel
theorem dX7_take_31 : decode cX7_take 31 = .ok (.aload_n 2, 1) := by decide +kernel
theorem dX7_take_32 : decode cX7_take 32 = .ok (.getfield 98, 3) := by decide +kernel
theorem dX7_take_35 : decode cX7_take 35 = .ok (.aload_n 2, 1) := by decide +kernel
theorem dX7_take_36 : decode cX7_take 36 = .ok (.getfield 98, 3) := by decide +kernel
theorem dX7_take_39 : decode cX7_take 39 = .ok (.invokevirtual 42, 3) := by decide +kernel
theorem dX7_take_42 : decode cX7_take 42 = .ok (.iconst 1, 1) := by decide +kernel
theorem dX7_take_43 : decode cX7_take 43 = .ok (.isub, 1) := by decide +kernel
theorem dX7_take_44 : decode cX7_take 44 = .ok (.invokevirtual 156, 3) := by decide +kernel
theorem dX7_take_47 : decode cX7_take 47 = .ok (.checkcast 81, 3) := by decide +kernel
theorem dX7_take_50 : decode cX7_take 50 = .ok (.invokevirtual 122, 3) := by decide +kernel
theorem dX7_take_53 : decode cX7_take 53 = .ok (.istore 4, 2) := by decide +kernel
theorem dX7_take_55 : decode cX7_take 55 = .ok (.goto 81, 3) := by decide +kernel
theorem dX7_take_58 : decode cX7_take 58 = .ok (.aload_n 0, 1) := by decide +kernel
theorem dX7_take_59 : decode cX7_take 59 = .ok (.getfield 21, 3) := by decide +kernel
theorem dX7_take_62 : decode cX7_take 62 = .ok (.invokevirtual 118, 3) := by decide +kernel
theorem dX7_take_65 : decode cX7_take 65 = .ok (.ifCond .ne 22, 3) := by decide +kernel
theorem dX7_take_68 : decode cX7_take 68 = .ok (.aload_n 0, 1) := by decide +kernel
theorem dX7_take_69 : decode cX7_take 69 = .ok (.getfield 21, 3) := by decide +kernel
theorem dX7_take_72 : decode cX7_take 72 = .ok (.iconst 0, 1) := by decide +kernel
theorem dX7_take_73 : decode cX7_take 73 = .ok (.invokevirtual 156, 3) := by decide +kernel
theorem dX7_take_76 : decode cX7_take 76 = .ok (.checkcast 81, 3) := by decide +kernel
theorem dX7_take_79 : decode cX7_take 79 = .ok (.invokevirtual 122, 3) := by decide +kernel
theorem dX7_take_82 : decode cX7_take 82 = .ok (.istore 4, 2) := by decide +kernel
theorem dX7_take_84 : decode cX7_take 84 = .ok (.goto 52, 3) := by decide +kernel
theorem dX7_take_87 : decode cX7_take 87 = .ok (.iload_n 3, 1) := by decide +kernel
theorem dX7_take_88 : decode cX7_take 88 = .ok (.iconst (-1), 1) := by decide +kernel
theorem dX7_take_89 : decode cX7_take 89 = .ok (.if_icmp .eq 45, 3) := by decide +kernel
theorem dX7_take_92 : decode cX7_take 92 = .ok (.aload_n 0, 1) := by decide +kernel
theorem dX7_take_93 : decode cX7_take 93 = .ok (.getfield 18, 3) := by decide +kernel
theorem dX7_take_96 : decode cX7_take 96 = .ok (.iload_n 3, 1) := by decide +kernel
theorem dX7_take_97 : decode cX7_take 97 = .ok (.invokevirtual 46, 3) := by decide +kernel
theorem dX7_take_100 : decode cX7_take 100 = .ok (.checkcast 32, 3) := by decide +kernel
theorem dX7_take_103 : decode cX7_take 103 = .ok (.getfield 98, 3) := by decide +kernel
theorem dX7_take_106 : decode cX7_take 106 = .ok (.iconst 0, 1) := by decide +kernel
theorem dX7_take_107 : decode cX7_take 107 = .ok (.invokevirtual 156, 3) := by decide +kernel
theorem dX7_take_110 : decode cX7_take 110 = .ok (.checkcast 81, 3) := by decide +kernel
theorem dX7_take_113 : decode cX7_take 113 = .ok (.invokevirtual 122, 3) := by decide +kernel
theorem dX7_take_116 : decode cX7_take 116 = .ok (.istore 4, 2) := by decide +kernel
theorem dX7_take_118 : decode cX7_take 118 = .ok (.aload_n 2, 1) := by decide +kernel
theorem dX7_take_119 : decode cX7_take 119 = .ok (.getfield 196, 3) := by decide +kernel
theorem dX7_take_122 : decode cX7_take 122 = .ok (.iconst 2, 1) := by decide +kernel
theorem dX7_take_123 : decode cX7_take 123 = .ok (.dup2, 1) := by decide +kernel
theorem dX7_take_124 : decode cX7_take 124 = .ok (.iaload, 1) := by decide +kernel
theorem dX7_take_125 : decode cX7_take 125 = .ok (.iconst 1, 1) := by decide +kernel
theorem dX7_take_126 : decode cX7_take 126 = .ok (.iadd, 1) := by decide +kernel
theorem dX7_take_127 : decode cX7_take 127 = .ok (.iastore, 1) := by decide +kernel
theorem dX7_take_128 : decode cX7_take 128 = .ok (.iconst 2, 1) := by decide +kernel
theorem dX7_take_129 : decode cX7_take 129 = .ok (.istore 5, 2) := by decide +kernel
theorem dX7_take_131 : decode cX7_take 131 = .ok (.goto 5, 3) := by decide +kernel
theorem dX7_take_134 : decode cX7_take 134 = .ok (.iconst 0, 1) := by decide +kernel
theorem dX7_take_135 : decode cX7_take 135 = .ok (.ireturn, 1) := by decide +kernel
theorem dX7_take_136 : decode cX7_take 136 = .ok (.aload_n 2, 1) := by decide +kernel
theorem dX7_take_137 : decode cX7_take 137 = .ok (.getfield 101, 3) := by decide +kernel
theorem dX7_take_140 : decode cX7_take 140 = .ok (.iload 4, 2) := by decide +kernel
theorem dX7_take_142 : decode cX7_take 142 = .ok (.invokestatic 80, 3) := by decide +kernel
theorem dX7_take_145 : decode cX7_take 145 = .ok (.invokevirtual 35, 3) := by decide +kernel
theorem dX7_take_148 : decode cX7_take 148 = .ok (.pop, 1) := by decide +kernel
theorem dX7_take_149 : decode cX7_take 149 = .ok (.aload_n 0, 1) := by decide +kernel
theorem dX7_take_150 : decode cX7_take 150 = .ok (.getfield 12, 3) := by decide +kernel
theorem dX7_take_153 : decode cX7_take 153 = .ok (.iload 4, 2) := by decide +kernel
theorem dX7_take_155 : decode cX7_take 155 = .ok (.invokevirtual 46, 3) := by decide +kernel
theorem dX7_take_158 : decode cX7_take 158 = .ok (.checkcast 50, 3) := by decide +kernel
theorem dX7_take_161 : decode cX7_take 161 = .ok (.iconst 1, 1) := by decide +kernel
theorem dX7_take_162 : decode cX7_take 162 = .ok (.putfield 89, 3) := by decide +kernel
theorem dX7_take_165 : decode cX7_take 165 = .ok (.iload 5, 2) := by decide +kernel
theorem dX7_take_167 : decode cX7_take 167 = .ok (.ireturn, 1) := by decide +kernel
set_option maxRecDepth 20000 in
theorem ggX7_turn_Jx4a65c_get_915e3 : GoodIn wsX7_turn wsJx4a65c_get_915e3 := goodIn_r _ [14, 15, 16, 17, 18, 19, 20, 21, 22, 23, 24, 25, 26, 13, 27, 28, 292, 293, 294] (by decide +kernel) (by decide +kernel)
set_option maxRecDepth 20000 in
theorem gX7_turn_Jx4a65c_get_915e3 : GoodIn wsX7_turn (wsV RX7 46 RJx4a65c yJx4a65c_get_915e3 wsJx4a65c_get_915e3) := goodIn_app (goodIn_of _ (by decide +kernel)) ggX7_turn_Jx4a65c_get_915e3
set_option maxRecDepth 20000 in
theorem ggX7_turn_X7_wants : GoodIn wsX7_turn wsX7_wants := goodIn_r _ [33, 1, 2, 34, 3, 4, 10, 11, 12, 13, 14, 15, 16, 17, 18, 19, 20, 21, 22, 23, 24, 25, 26, 27, 28, 35, 36, 37, 38, 39, 40, 41, 42, 43, 44, 45, 46, 47, 48, 49, 50, 51, 52, 53, 54, 55, 56, 57, 58, 59, 60, 61, 62, 270, 271, 272, 273, 274, 275, 276, 277, 292, 293, 294, 288, 289, 290, 291, 295, 278, 279, 280, 281, 282, 283, 284, 285, 286, 287] (by decide +kernel) (by decide +kernel)
set_option maxRecDepth 20000 in
theorem gX7_turn_X7_wants : GoodIn wsX7_turn (wsV RX7 189 RX7 yX7_wants wsX7_wants) := goodIn_app (goodIn_of _ (by decide +kernel)) ggX7_turn_X7_wants
set_option maxRecDepth 20000 in
theorem ggX7_turn_X7_take : GoodIn wsX7_turn wsX7_take := goodIn_r _ [66, 1, 2, 67, 68, 69, 7, 70, 3, 4, 71, 10, 11, 12, 13, 14, 15, 16, 17, 18, 19, 20, 21, 22, 23, 24, 25, 26, 27, 28, 72, 73, 74, 32, 75, 76, 77, 47, 48, 49, 78, 43, 44, 45, 79, 80, 81, 82, 83, 84, 85, 86, 87, 88, 89, 90, 91, 92, 93, 52, 53, 54, 55, 56, 94, 95, 96, 97, 98, 99, 100, 101, 102, 103, 104, 105, 106, 107, 108, 109, 110, 111, 112, 113, 114, 115, 116, 117, 118, 119, 120, 121, 122, 123, 124, 125, 126, 127, 128, 129, 130, 131, 132, 133, 134, 135, 136, 137, 138, 139, 140, 141, 142, 143, 144, 145, 146, 147, 148, 149, 150, 151, 152, 153, 154, 155, 156, 157, 158, 270, 271, 272, 273, 274, 275, 276, 277, 288, 289, 290, 291, 278, 279, 280, 281, 282, 283, 284, 285, 286, 287, 292, 293, 294, 295] (by decide +kernel) (by decide +kernel)
set_option maxRecDepth 20000 in
theorem gX7_turn_X7_take : GoodIn wsX7_turn (wsV RX7 199 RX7 yX7_take wsX7_take) := goodIn_app (goodIn_of _ (by decide +kernel)) ggX7_turn_X7_take
set_option maxRecDepth 20000 in
theorem ggX7_turn_X9_top : GoodIn wsX7_turn wsX9_top := goodIn_r _ [39, 40, 41, 42, 43, 44, 13, 45, 15, 46, 47, 48, 49, 50, 11, 12, 14, 16, 17, 18, 19, 20, 21, 22, 23, 24, 25, 26, 27, 28, 51, 52, 53, 54, 55, 56, 288, 289, 290, 291, 292, 293, 294, 295] (by decide +kernel) (by decide +kernel)
set_option maxRecDepth 20000 in
theorem gX7_turn_X9_top : GoodIn wsX7_turn (wsV RX7 183 RX9 yX9_top wsX9_top) := goodIn_app (goodIn_of _ (by decide +kernel)) ggX7_turn_X9_top
theorem dX7_turn_0 : decode cX7_turn 0 = .ok (.aload_n 0, 1) := by decide +kernel
theorem dX7_turn_1 : decode cX7_turn 1 = .ok (.getfield 18, 3) := by decide +kernel
theorem dX7_turn_4 : decode cX7_turn 4 = .ok (.iload_n 1, 1) := by decide +kernel
theorem dX7_turn_5 : decode cX7_turn 5 = .ok (.invokevirtual 46, 3) := by decide +kernel
theorem dX7_turn_8 : decode cX7_turn 8 = .ok (.checkcast 32, 3) := by decide +kernel
theorem dX7_turn_11 : decode cX7_turn 11 = .ok (.astore_n 2, 1) := by decide +kernel
theorem dX7_turn_12 : decode cX7_turn 12 = .ok (.aload_n 0, 1) := by decide +kernel
theorem dX7_turn_13 : decode cX7_turn 13 = .ok (.iload_n 1, 1) := by decide +kernel
theorem dX7_turn_14 : decode cX7_turn 14 = .ok (.invokevirtual 189, 3) := by decide +kernel
theorem dX7_turn_17 : decode cX7_turn 17 = .ok (.ifCond .eq 23, 3) := by decide +kernel
theorem dX7_turn_20 : decode cX7_turn 20 = .ok (.aload_n 0, 1) := by decide +kernel
theorem dX7_turn_21 : decode cX7_turn 21 = .ok (.iload_n 1, 1) := by decide +kernel
theorem dX7_turn_22 : decode cX7_turn 22 = .ok (.invokevirtual 199, 3) := by decide +kernel
theorem dX7_turn_25 : decode cX7_turn 25 = .ok (.istore_n 3, 1) := by decide +kernel
theorem dX7_turn_26 : decode cX7_turn 26 = .ok (.iload_n 3, 1) := by decide +kernel
theorem dX7_turn_27 : decode cX7_turn 27 = .ok (.iconst 2, 1) := by decide +kernel
theorem dX7_turn_28 : decode cX7_turn 28 = .ok (.if_icmp .ne 5, 3) := by decide +kernel
theorem dX7_turn_31 : decode cX7_turn 31 = .ok (.iconst (-1), 1) := by decide +kernel
theorem dX7_turn_32 : decode cX7_turn 32 = .ok (.ireturn, 1) := by decide +kernel
theorem dX7_turn_33 : decode cX7_turn 33 = .ok (.iload_n 3, 1) := by decide +kernel
theorem dX7_turn_34 : decode cX7_turn 34 = .ok (.ifCond .ne 6, 3) := by decide +kernel
theorem dX7_turn_37 : decode cX7_turn 37 = .ok (.goto 134, 3) := by decide +kernel
theorem dX7_turn_40 : decode cX7_turn 40 = .ok (.aload_n 2, 1) := by decide +kernel
theorem dX7_turn_41 : decode cX7_turn 41 = .ok (.invokevirtual 183, 3) := by decide +kernel
theorem dX7_turn_44 : decode cX7_turn 44 = .ok (.istore_n 3, 1) := by decide +kernel
theorem dX7_turn_45 : decode cX7_turn 45 = .ok (.aload_n 0, 1) := by decide +kernel
theorem dX7_turn_46 : decode cX7_turn 46 = .ok (.getfield 12, 3) := by decide +kernel
theorem dX7_turn_49 : decode cX7_turn 49 = .ok (.iload_n 3, 1) := by decide +kernel
theorem dX7_turn_50 : decode cX7_turn 50 = .ok (.invokevirtual 46, 3) := by decide +kernel
theorem dX7_turn_53 : decode cX7_turn 53 = .ok (.checkcast 50, 3) := by decide +kernel
theorem dX7_turn_56 : decode cX7_turn 56 = .ok (.invokevirtual 186, 3) := by decide +kernel
theorem dX7_turn_59 : decode cX7_turn 59 = .ok (.ifCond .eq 6, 3) := by decide +kernel
theorem dX7_turn_62 : decode cX7_turn 62 = .ok (.goto 109, 3) := by decide +kernel
theorem dX7_turn_65 : decode cX7_turn 65 = .ok (.aload_n 0, 1) := by decide +kernel
theorem dX7_turn_66 : decode cX7_turn 66 = .ok (.aload_n 0, 1) := by decide +kernel
theorem dX7_turn_67 : decode cX7_turn 67 = .ok (.getfield 12, 3) := by decide +kernel
theorem dX7_turn_70 : decode cX7_turn 70 = .ok (.iload_n 3, 1) := by decide +kernel
theorem dX7_turn_71 : decode cX7_turn 71 = .ok (.invokevirtual 46, 3) := by decide +kernel
theorem dX7_turn_74 : decode cX7_turn 74 = .ok (.checkcast 50, 3) := by decide +kernel
theorem dX7_turn_77 : decode cX7_turn 77 = .ok (.invokevirtual 202, 3) := by decide +kernel
theorem dX7_turn_80 : decode cX7_turn 80 = .ok (.ifCond .ne 12, 3) := by decide +kernel
theorem dX7_turn_83 : decode cX7_turn 83 = .ok (.aload_n 0, 1) := by decide +kernel
theorem dX7_turn_84 : decode cX7_turn 84 = .ok (.iload_n 3, 1) := by decide +kernel
theorem dX7_turn_85 : decode cX7_turn 85 = .ok (.iload_n 1, 1) := by decide +kernel
theorem dX7_turn_86 : decode cX7_turn 86 = .ok (.invokevirtual 206, 3) := by decide +kernel
theorem dX7_turn_89 : decode cX7_turn 89 = .ok (.goto (-77), 3) := by decide +kernel
theorem dX7_turn_92 : decode cX7_turn 92 = .ok (.aload_n 0, 1) := by decide +kernel
theorem dX7_turn_93 : decode cX7_turn 93 = .ok (.getfield 12, 3) := by decide +kernel
theorem dX7_turn_96 : decode cX7_turn 96 = .ok (.iload_n 3, 1) := by decide +kernel
theorem dX7_turn_97 : decode cX7_turn 97 = .ok (.invokevirtual 46, 3) := by decide +kernel
theorem dX7_turn_100 : decode cX7_turn 100 = .ok (.checkcast 50, 3) := by decide +kernel
theorem dX7_turn_103 : decode cX7_turn 103 = .ok (.astore 4, 2) := by decide +kernel
theorem dX7_turn_105 : decode cX7_turn 105 = .ok (.aload 4, 2) := by decide +kernel
theorem dX7_turn_107 : decode cX7_turn 107 = .ok (.dup, 1) := by decide +kernel
theorem dX7_turn_108 : decode cX7_turn 108 = .ok (.getfield 149, 3) := by decide +kernel
theorem dX7_turn_111 : decode cX7_turn 111 = .ok (.iconst 1, 1) := by decide +kernel
theorem dX7_turn_112 : decode cX7_turn 112 = .ok (.iadd, 1) := by decide +kernel
theorem dX7_turn_113 : decode cX7_turn 113 = .ok (.putfield 149, 3) := by decide +kernel
theorem dX7_turn_116 : decode cX7_turn 116 = .ok (.aload 4, 2) := by decide +kernel
theorem dX7_turn_118 : decode cX7_turn 118 = .ok (.dup, 1) := by decide +kernel
theorem dX7_turn_119 : decode cX7_turn 119 = .ok (.getfield 208, 3) := by decide +kernel
theorem dX7_turn_122 : decode cX7_turn 122 = .ok (.iconst 1, 1) := by decide +kernel
theorem dX7_turn_123 : decode cX7_turn 123 = .ok (.iadd, 1) := by decide +kernel
theorem dX7_turn_124 : decode cX7_turn 124 = .ok (.putfield 208, 3) := by decide +kernel
theorem dX7_turn_127 : decode cX7_turn 127 = .ok (.aload_n 2, 1) := by decide +kernel
theorem dX7_turn_128 : decode cX7_turn 128 = .ok (.getfield 196, 3) := by decide +kernel
theorem dX7_turn_131 : decode cX7_turn 131 = .ok (.iconst 0, 1) := by decide +kernel
theorem dX7_turn_132 : decode cX7_turn 132 = .ok (.dup2, 1) := by decide +kernel
theorem dX7_turn_133 : decode cX7_turn 133 = .ok (.iaload, 1) := by decide +kernel
theorem dX7_turn_134 : decode cX7_turn 134 = .ok (.iconst 1, 1) := by decide +kernel
theorem dX7_turn_135 : decode cX7_turn 135 = .ok (.iadd, 1) := by decide +kernel
theorem dX7_turn_136 : decode cX7_turn 136 = .ok (.iastore, 1) := by decide +kernel
theorem dX7_turn_137 : decode cX7_turn 137 = .ok (.aload 4, 2) := by decide +kernel
theorem dX7_turn_139 : decode cX7_turn 139 = .ok (.getfield 149, 3) := by decide +kernel
theorem dX7_turn_142 : decode cX7_turn 142 = .ok (.aload_n 0, 1) := by decide +kernel
theorem dX7_turn_143 : decode cX7_turn 143 = .ok (.aload 4, 2) := by decide +kernel
theorem dX7_turn_145 : decode cX7_turn 145 = .ok (.invokevirtual 142, 3) := by decide +kernel
theorem dX7_turn_148 : decode cX7_turn 148 = .ok (.aload 4, 2) := by decide +kernel
theorem dX7_turn_150 : decode cX7_turn 150 = .ok (.getfield 146, 3) := by decide +kernel
theorem dX7_turn_153 : decode cX7_turn 153 = .ok (.invokevirtual 46, 3) := by decide +kernel
theorem dX7_turn_156 : decode cX7_turn 156 = .ok (.checkcast 63, 3) := by decide +kernel
theorem dX7_turn_159 : decode cX7_turn 159 = .ok (.iconst 1, 1) := by decide +kernel
theorem dX7_turn_160 : decode cX7_turn 160 = .ok (.iaload, 1) := by decide +kernel
theorem dX7_turn_161 : decode cX7_turn 161 = .ok (.if_icmp .ne 8, 3) := by decide +kernel
theorem dX7_turn_164 : decode cX7_turn 164 = .ok (.aload_n 0, 1) := by decide +kernel
theorem dX7_turn_165 : decode cX7_turn 165 = .ok (.iload_n 3, 1) := by decide +kernel
theorem dX7_turn_166 : decode cX7_turn 166 = .ok (.invokevirtual 164, 3) := by decide +kernel
theorem dX7_turn_169 : decode cX7_turn 169 = .ok (.iload_n 3, 1) := by decide +kernel
theorem dX7_turn_170 : decode cX7_turn 170 = .ok (.ireturn, 1) := by decide +kernel
theorem dX7_turn_171 : decode cX7_turn 171 = .ok (.aload_n 2, 1) := by decide +kernel
theorem dX7_turn_172 : decode cX7_turn 172 = .ok (.getfield 196, 3) := by decide +kernel
theorem dX7_turn_175 : decode cX7_turn 175 = .ok (.iconst 1, 1) := by decide +kernel
theorem dX7_turn_176 : decode cX7_turn 176 = .ok (.dup2, 1) := by decide +kernel
theorem dX7_turn_177 : decode cX7_turn 177 = .ok (.iaload, 1) := by decide +kernel
theorem dX7_turn_178 : decode cX7_turn 178 = .ok (.iconst 1, 1) := by decide +kernel
theorem dX7_turn_179 : decode cX7_turn 179 = .ok (.iadd, 1) := by decide +kernel
theorem dX7_turn_180 : decode cX7_turn 180 = .ok (.iastore, 1) := by decide +kernel
theorem dX7_turn_181 : decode cX7_turn 181 = .ok (.iconst (-1), 1) := by decide +kernel
theorem dX7_turn_182 : decode cX7_turn 182 = .ok (.ireturn, 1) := by decide +kernel
set_option maxRecDepth 20000 in
theorem ggX7_tick_Jx4a65c_size_8abf5 : GoodIn wsX7_tick wsJx4a65c_size_8abf5 := goodIn_r _ [9, 10, 287, 288, 289] (by decide +kernel) (by decide +kernel)
set_option maxRecDepth 20000 in
theorem gX7_tick_Jx4a65c_size_8abf5 : GoodIn wsX7_tick (wsV RX7 42 RJx4a65c yJx4a65c_size_8abf5 wsJx4a65c_size_8abf5) := goodIn_app (goodIn_of _ (by decide +kernel)) ggX7_tick_Jx4a65c_size_8abf5
set_option maxRecDepth 20000 in
theorem ggX7_tick_X7_turn : GoodIn wsX7_tick wsX7_turn := goodIn_r _ [15, 1, 2, 16, 17, 18, 19, 20, 21, 22, 23, 24, 25, 8, 26, 10, 27, 28, 29, 30, 31, 32, 33, 34, 35, 36, 37, 38, 39, 40, 41, 42, 14, 43, 44, 45, 46, 47, 48, 49, 50, 51, 52, 53, 54, 55, 56, 6, 7, 9, 57, 58, 59, 60, 61, 62, 63, 64, 65, 66, 67, 68, 69, 70, 71, 72, 73, 74, 75, 76, 77, 78, 79, 80, 81, 82, 83, 5, 84, 85, 86, 87, 88, 89, 90, 91, 92, 93, 94, 95, 96, 97, 98, 99, 100, 101, 102, 103, 104, 105, 106, 107, 108, 109, 110, 111, 112, 113, 114, 115, 116, 117, 118, 119, 120, 121, 122, 123, 124, 125, 126, 127, 128, 129, 130, 131, 132, 133, 134, 135, 136, 137, 138, 139, 140, 141, 142, 143, 144, 145, 146, 147, 148, 149, 150, 151, 152, 153, 154, 155, 156, 157, 158, 159, 160, 161, 162, 163, 164, 165, 166, 167, 168, 169, 170, 171, 172, 173, 174, 175, 176, 177, 178, 179, 180, 181, 182, 183, 184, 185, 186, 187, 4, 188, 189, 190, 191, 192, 193, 194, 195, 196, 197, 198, 199, 200, 201, 202, 203, 204, 205, 206, 207, 208, 209, 210, 211, 212, 213, 214, 215, 216, 217, 218, 219, 220, 221, 222, 223, 224, 225, 226, 227, 228, 229, 230, 231, 232, 233, 234, 235, 236, 237, 238, 239, 240, 241, 242, 243, 244, 245, 246, 247, 248, 249, 250, 251, 252, 253, 254, 255, 256, 257, 258, 259, 260, 261, 262, 263, 264, 265, 266, 267, 268, 269, 270, 271, 272, 273, 274, 275, 276, 277, 278, 279, 280, 281, 282, 290, 291, 292, 293, 294, 295, 296, 297, 298, 299, 283, 284, 285, 286, 287, 288, 289, 300] (by decide +kernel) (by decide +kernel)
set_option maxRecDepth 20000 in
theorem gX7_tick_X7_turn : GoodIn wsX7_tick (wsV RX7 211 RX7 yX7_turn wsX7_turn) := goodIn_app (goodIn_of _ (by decide +kernel)) ggX7_tick_X7_turn
set_option maxRecDepth 20000 in
theorem ggX7_tick_Jx4a65c_get_915e3 : GoodIn wsX7_tick wsJx4a65c_get_915e3 := goodIn_r _ [26, 10, 27, 28, 29, 30, 31, 32, 33, 34, 35, 36, 37, 8, 38, 39, 287, 288, 289] (by decide +kernel) (by decide +kernel)
set_option maxRecDepth 20000 in
theorem gX7_tick_Jx4a65c_get_915e3 : GoodIn wsX7_tick (wsV RX7 46 RJx4a65c yJx4a65c_get_915e3 wsJx4a65c_get_915e3) := goodIn_app (goodIn_of _ (by decide +kernel)) ggX7_tick_Jx4a65c_get_915e3
set_option maxRecDepth 20000 in
theorem ggX7_tick_J6_valueOf_2dffe : GoodIn wsX7_tick wsJ6_valueOf_2dffe := goodIn_r _ [102, 103, 104, 105, 106, 61, 107, 108, 109, 63, 110, 111, 112, 113, 114, 115, 116, 300] (by decide +kernel) (by decide +kernel)
set_option maxRecDepth 20000 in
theorem gX7_tick_J6_valueOf_2dffe : GoodIn wsX7_tick (va_wsS RX7 80 yJ6_valueOf_2dffe wsJ6_valueOf_2dffe) := goodIn_app (goodIn_of _ (by decide +kernel)) ggX7_tick_J6_valueOf_2dffe
set_option maxRecDepth 20000 in
theorem ggX7_tick_Jx4a65c_add_9ea2d : GoodIn wsX7_tick wsJx4a65c_add_9ea2d := goodIn_r _ [120, 93, 94, 39, 10, 121, 122, 123, 8, 124, 125, 126, 127, 128, 129, 130, 131, 132, 133, 134, 135, 136, 137, 138, 139, 140, 141, 142, 143, 144, 145, 146, 147, 148, 149, 150, 151, 152, 153, 154, 155, 156, 157, 158, 159, 160, 161, 162, 163, 164, 96, 97, 98, 287, 288, 289] (by decide +kernel) (by decide +kernel)
set_option maxRecDepth 20000 in
theorem gX7_tick_Jx4a65c_add_9ea2d : GoodIn wsX7_tick (wsV RX7 35 RJx4a65c yJx4a65c_add_9ea2d wsJx4a65c_add_9ea2d) := goodIn_app (goodIn_of _ (by decide +kernel)) ggX7_tick_Jx4a65c_add_9ea2d
theorem dX7_tick_0 : decode cX7_tick 0 = .ok (.iconst 0, 1) := by decide +kernel
theorem dX7_tick_1 : decode cX7_tick 1 = .ok (.istore_n 1, 1) := by decide +kernel
theorem dX7_tick_2 : decode cX7_tick 2 = .ok (.iload_n 1, 1) := by decide +kernel
theorem dX7_tick_3 : decode cX7_tick 3 = .ok (.aload_n 0, 1) := by decide +kernel
theorem dX7_tick_4 : decode cX7_tick 4 = .ok (.getfield 18, 3) := by decide +kernel
theorem dX7_tick_7 : decode cX7_tick 7 = .ok (.invokevirtual 42, 3) := by decide +kernel
theorem dX7_tick_10 : decode cX7_tick 10 = .ok (.if_icmp .ge 37, 3) := by decide +kernel
theorem dX7_tick_13 : decode cX7_tick 13 = .ok (.aload_n 0, 1) := by decide +kernel
theorem dX7_tick_14 : decode cX7_tick 14 = .ok (.iload_n 1, 1) := by decide +kernel
theorem dX7_tick_15 : decode cX7_tick 15 = .ok (.invokevirtual 211, 3) := by decide +kernel
theorem dX7_tick_18 : decode cX7_tick 18 = .ok (.istore_n 2, 1) := by decide +kernel
theorem dX7_tick_19 : decode cX7_tick 19 = .ok (.aload_n 0, 1) := by decide +kernel
theorem dX7_tick_20 : decode cX7_tick 20 = .ok (.getfield 18, 3) := by decide +kernel
theorem dX7_tick_23 : decode cX7_tick 23 = .ok (.iload_n 1, 1) := by decide +kernel
theorem dX7_tick_24 : decode cX7_tick 24 = .ok (.invokevirtual 46, 3) := by decide +kernel
theorem dX7_tick_27 : decode cX7_tick 27 = .ok (.checkcast 32, 3) := by decide +kernel
theorem dX7_tick_30 : decode cX7_tick 30 = .ok (.getfield 214, 3) := by decide +kernel
theorem dX7_tick_33 : decode cX7_tick 33 = .ok (.iload_n 2, 1) := by decide +kernel
theorem dX7_tick_34 : decode cX7_tick 34 = .ok (.invokestatic 80, 3) := by decide +kernel
theorem dX7_tick_37 : decode cX7_tick 37 = .ok (.invokevirtual 35, 3) := by decide +kernel
theorem dX7_tick_40 : decode cX7_tick 40 = .ok (.pop, 1) := by decide +kernel
theorem dX7_tick_41 : decode cX7_tick 41 = .ok (.iinc 1 1, 3) := by decide +kernel
theorem dX7_tick_44 : decode cX7_tick 44 = .ok (.goto (-42), 3) := by decide +kernel
theorem dX7_tick_47 : decode cX7_tick 47 = .ok (.aload_n 0, 1) := by decide +kernel
theorem dX7_tick_48 : decode cX7_tick 48 = .ok (.dup, 1) := by decide +kernel
theorem dX7_tick_49 : decode cX7_tick 49 = .ok (.getfield 74, 3) := by decide +kernel
theorem dX7_tick_52 : decode cX7_tick 52 = .ok (.iconst 1, 1) := by decide +kernel
theorem dX7_tick_53 : decode cX7_tick 53 = .ok (.iadd, 1) := by decide +kernel
theorem dX7_tick_54 : decode cX7_tick 54 = .ok (.putfield 74, 3) := by decide +kernel
theorem dX7_tick_57 : decode cX7_tick 57 = .ok (.return_, 1) := by decide +kernel
set_option maxRecDepth 20000 in
theorem ggX7_open_Jx4a65c_size_8abf5 : GoodIn wsX7_open wsJx4a65c_size_8abf5 := goodIn_r _ [7, 8, 40, 41, 42] (by decide +kernel) (by decide +kernel)
set_option maxRecDepth 20000 in
theorem gX7_open_Jx4a65c_size_8abf5 : GoodIn wsX7_open (wsV RX7 42 RJx4a65c yJx4a65c_size_8abf5 wsJx4a65c_size_8abf5) := goodIn_app (goodIn_of _ (by decide +kernel)) ggX7_open_Jx4a65c_size_8abf5
set_option maxRecDepth 20000 in
theorem ggX7_open_Jx4a65c_get_915e3 : GoodIn wsX7_open wsJx4a65c_get_915e3 := goodIn_r _ [12, 8, 13, 14, 15, 16, 17, 18, 19, 20, 21, 22, 23, 6, 24, 25, 40, 41, 42] (by decide +kernel) (by decide +kernel)
set_option maxRecDepth 20000 in
theorem gX7_open_Jx4a65c_get_915e3 : GoodIn wsX7_open (wsV RX7 46 RJx4a65c yJx4a65c_get_915e3 wsJx4a65c_get_915e3) := goodIn_app (goodIn_of _ (by decide +kernel)) ggX7_open_Jx4a65c_get_915e3
theorem dX7_open_0 : decode cX7_open 0 = .ok (.iconst 0, 1) := by decide +kernel
theorem dX7_open_1 : decode cX7_open 1 = .ok (.istore_n 1, 1) := by decide +kernel
theorem dX7_open_2 : decode cX7_open 2 = .ok (.iconst 0, 1) := by decide +kernel
theorem dX7_open_3 : decode cX7_open 3 = .ok (.istore_n 2, 1) := by decide +kernel
theorem dX7_open_4 : decode cX7_open 4 = .ok (.iload_n 2, 1) := by decide +kernel
theorem dX7_open_5 : decode cX7_open 5 = .ok (.aload_n 0, 1) := by decide +kernel
theorem dX7_open_6 : decode cX7_open 6 = .ok (.getfield 12, 3) := by decide +kernel
theorem dX7_open_9 : decode cX7_open 9 = .ok (.invokevirtual 42, 3) := by decide +kernel
theorem dX7_open_12 : decode cX7_open 12 = .ok (.if_icmp .ge 34, 3) := by decide +kernel
theorem dX7_open_15 : decode cX7_open 15 = .ok (.iload_n 1, 1) := by decide +kernel
theorem dX7_open_16 : decode cX7_open 16 = .ok (.aload_n 0, 1) := by decide +kernel
theorem dX7_open_17 : decode cX7_open 17 = .ok (.getfield 12, 3) := by decide +kernel
theorem dX7_open_20 : decode cX7_open 20 = .ok (.iload_n 2, 1) := by decide +kernel
theorem dX7_open_21 : decode cX7_open 21 = .ok (.invokevirtual 46, 3) := by decide +kernel
theorem dX7_open_24 : decode cX7_open 24 = .ok (.checkcast 50, 3) := by decide +kernel
theorem dX7_open_27 : decode cX7_open 27 = .ok (.invokevirtual 132, 3) := by decide +kernel
theorem dX7_open_30 : decode cX7_open 30 = .ok (.ifCond .eq 7, 3) := by decide +kernel
theorem dX7_open_33 : decode cX7_open 33 = .ok (.iconst 0, 1) := by decide +kernel
theorem dX7_open_34 : decode cX7_open 34 = .ok (.goto 4, 3) := by decide +kernel
theorem dX7_open_37 : decode cX7_open 37 = .ok (.iconst 1, 1) := by decide +kernel
theorem dX7_open_38 : decode cX7_open 38 = .ok (.iadd, 1) := by decide +kernel
theorem dX7_open_39 : decode cX7_open 39 = .ok (.istore_n 1, 1) := by decide +kernel
theorem dX7_open_40 : decode cX7_open 40 = .ok (.iinc 2 1, 3) := by decide +kernel
theorem dX7_open_43 : decode cX7_open 43 = .ok (.goto (-39), 3) := by decide +kernel
theorem dX7_open_46 : decode cX7_open 46 = .ok (.iload_n 1, 1) := by decide +kernel
theorem dX7_open_47 : decode cX7_open 47 = .ok (.ireturn, 1) := by decide +kernel
set_option maxRecDepth 20000 in
theorem ggX7_isHalted_Jx4a65c_size_8abf5 : GoodIn wsX7_isHalted wsJx4a65c_size_8abf5 := goodIn_r _ [6, 7, 87, 88, 89] (by decide +kernel) (by decide +kernel)
set_option maxRecDepth 20000 in
theorem gX7_isHalted_Jx4a65c_size_8abf5 : GoodIn wsX7_isHalted (wsV RX7 42 RJx4a65c yJx4a65c_size_8abf5 wsJx4a65c_size_8abf5) := goodIn_app (goodIn_of _ (by decide +kernel)) ggX7_isHalted_Jx4a65c_size_8abf5
set_option maxRecDepth 20000 in
theorem ggX7_isHalted_X7_isBusy : GoodIn wsX7_isHalted wsX7_isBusy := goodIn_r _ [12, 1, 13, 14, 15, 16, 17, 18, 19, 20, 11, 21, 22, 23, 24, 25, 5, 26, 7, 27, 28, 29, 30, 31, 32, 33, 34, 35, 36, 37, 38, 39, 40, 41, 42, 43, 44, 45, 46, 47, 48, 49, 50, 51, 3, 4, 6, 52, 53, 54, 55, 56, 57, 58, 59, 60, 61, 62, 63, 64, 65, 66, 67, 68, 69, 70, 2, 79, 80, 81, 82, 83, 84, 85, 86, 90, 91, 92, 93, 87, 88, 89, 94, 95, 96, 97, 98, 99, 100, 101, 102, 103, 104] (by decide +kernel) (by decide +kernel)
set_option maxRecDepth 20000 in
theorem gX7_isHalted_X7_isBusy : GoodIn wsX7_isHalted (wsV RX7 216 RX7 yX7_isBusy wsX7_isBusy) := goodIn_app (goodIn_of _ (by decide +kernel)) ggX7_isHalted_X7_isBusy
set_option maxRecDepth 20000 in
theorem ggX7_isHalted_X7_open : GoodIn wsX7_isHalted wsX7_open := goodIn_r _ [74, 16, 17, 2, 3, 4, 5, 6, 7, 23, 24, 25, 26, 27, 28, 29, 30, 31, 32, 33, 34, 35, 36, 37, 38, 39, 75, 76, 77, 62, 78, 64, 79, 80, 81, 82, 83, 84, 85, 86, 87, 88, 89, 95, 96, 97, 98, 99, 100, 101, 102, 103, 104] (by decide +kernel) (by decide +kernel)
set_option maxRecDepth 20000 in
theorem gX7_isHalted_X7_open : GoodIn wsX7_isHalted (wsV RX7 219 RX7 yX7_open wsX7_open) := goodIn_app (goodIn_of _ (by decide +kernel)) ggX7_isHalted_X7_open
theorem dX7_isHalted_0 : decode cX7_isHalted 0 = .ok (.iconst 0, 1) := by decide +kernel
theorem dX7_isHalted_1 : decode cX7_isHalted 1 = .ok (.istore_n 1, 1) := by decide +kernel
theorem dX7_isHalted_2 : decode cX7_isHalted 2 = .ok (.iconst 0, 1) := by decide +kernel
theorem dX7_isHalted_3 : decode cX7_isHalted 3 = .ok (.istore_n 2, 1) := by decide +kernel
theorem dX7_isHalted_4 : decode cX7_isHalted 4 = .ok (.iload_n 2, 1) := by decide +kernel
theorem dX7_isHalted_5 : decode cX7_isHalted 5 = .ok (.aload_n 0, 1) := by decide +kernel
theorem dX7_isHalted_6 : decode cX7_isHalted 6 = .ok (.getfield 18, 3) := by decide +kernel
theorem dX7_isHalted_9 : decode cX7_isHalted 9 = .ok (.invokevirtual 42, 3) := by decide +kernel
theorem dX7_isHalted_12 : decode cX7_isHalted 12 = .ok (.if_icmp .ge 17, 3) := by decide +kernel
theorem dX7_isHalted_15 : decode cX7_isHalted 15 = .ok (.iload_n 1, 1) := by decide +kernel
theorem dX7_isHalted_16 : decode cX7_isHalted 16 = .ok (.aload_n 0, 1) := by decide +kernel
theorem dX7_isHalted_17 : decode cX7_isHalted 17 = .ok (.iload_n 2, 1) := by decide +kernel
theorem dX7_isHalted_18 : decode cX7_isHalted 18 = .ok (.invokevirtual 216, 3) := by decide +kernel
theorem dX7_isHalted_21 : decode cX7_isHalted 21 = .ok (.ior, 1) := by decide +kernel
theorem dX7_isHalted_22 : decode cX7_isHalted 22 = .ok (.istore_n 1, 1) := by decide +kernel
theorem dX7_isHalted_23 : decode cX7_isHalted 23 = .ok (.iinc 2 1, 3) := by decide +kernel
theorem dX7_isHalted_26 : decode cX7_isHalted 26 = .ok (.goto (-22), 3) := by decide +kernel
theorem dX7_isHalted_29 : decode cX7_isHalted 29 = .ok (.iload_n 1, 1) := by decide +kernel
theorem dX7_isHalted_30 : decode cX7_isHalted 30 = .ok (.ifCond .ne 14, 3) := by decide +kernel
theorem dX7_isHalted_33 : decode cX7_isHalted 33 = .ok (.aload_n 0, 1) := by decide +kernel
theorem dX7_isHalted_34 : decode cX7_isHalted 34 = .ok (.invokevirtual 219, 3) := by decide +kernel
theorem dX7_isHalted_37 : decode cX7_isHalted 37 = .ok (.ifCond .le 7, 3) := by decide +kernel
theorem dX7_isHalted_40 : decode cX7_isHalted 40 = .ok (.iconst 1, 1) := by decide +kernel
theorem dX7_isHalted_41 : decode cX7_isHalted 41 = .ok (.goto 4, 3) := by decide +kernel
theorem dX7_isHalted_44 : decode cX7_isHalted 44 = .ok (.iconst 0, 1) := by decide +kernel
theorem dX7_isHalted_45 : decode cX7_isHalted 45 = .ok (.ireturn, 1) := by decide +kernel
set_option maxRecDepth 20000 in
theorem ggX9_init_Jx4a65c_init_da8c8 : GoodIn wsX9_init wsJx4a65c_init_da8c8 := goodIn_r _ [14, 15, 16, 17, 18, 19, 20, 21, 22, 23, 24, 25, 26, 2, 3, 27, 28, 29] (by decide +kernel) (by decide +kernel)
set_option maxRecDepth 20000 in
theorem gX9_init_Jx4a65c_init_da8c8 : GoodIn wsX9_init (wsJx4a65c_init_da8c8) := ggX9_init_Jx4a65c_init_da8c8
theorem dX9_init_0 : decode cX9_init 0 = .ok (.aload_n 0, 1) := by decide +kernel
theorem dX9_init_1 : decode cX9_init 1 = .ok (.invokespecial 3, 3) := by decide +kernel
theorem dX9_init_4 : decode cX9_init 4 = .ok (.aload_n 0, 1) := by decide +kernel
theorem dX9_init_5 : decode cX9_init 5 = .ok (.new 9, 3) := by decide +kernel
theorem dX9_init_8 : decode cX9_init 8 = .ok (.dup, 1) := by decide +kernel
theorem dX9_init_9 : decode cX9_init 9 = .ok (.invokespecial 11, 3) := by decide +kernel
theorem dX9_init_12 : decode cX9_init 12 = .ok (.putfield 12, 3) := by decide +kernel
theorem dX9_init_15 : decode cX9_init 15 = .ok (.aload_n 0, 1) := by decide +kernel
theorem dX9_init_16 : decode cX9_init 16 = .ok (.new 9, 3) := by decide +kernel
theorem dX9_init_19 : decode cX9_init 19 = .ok (.dup, 1) := by decide +kernel
theorem dX9_init_20 : decode cX9_init 20 = .ok (.invokespecial 11, 3) := by decide +kernel
theorem dX9_init_23 : decode cX9_init 23 = .ok (.putfield 18, 3) := by decide +kernel
theorem dX9_init_26 : decode cX9_init 26 = .ok (.aload_n 0, 1) := by decide +kernel
theorem dX9_init_27 : decode cX9_init 27 = .ok (.iconst 3, 1) := by decide +kernel
theorem dX9_init_28 : decode cX9_init 28 = .ok (.newarray .int, 2) := by decide +kernel
theorem dX9_init_30 : decode cX9_init 30 = .ok (.putfield 21, 3) := by decide +kernel
theorem dX9_init_33 : decode cX9_init 33 = .ok (.aload_n 0, 1) := by decide +kernel
theorem dX9_init_34 : decode cX9_init 34 = .ok (.new 9, 3) := by decide +kernel
theorem dX9_init_37 : decode cX9_init 37 = .ok (.dup, 1) := by decide +kernel
theorem dX9_init_38 : decode cX9_init 38 = .ok (.invokespecial 11, 3) := by decide +kernel
theorem dX9_init_41 : decode cX9_init 41 = .ok (.putfield 25, 3) := by decide +kernel
theorem dX9_init_44 : decode cX9_init 44 = .ok (.return_, 1) := by decide +kernel
set_option maxRecDepth 20000 in
theorem ggX9_copy_X9_init : GoodIn wsX9_copy wsX9_init := goodIn_r _ [19, 20, 21, 22, 4, 5, 6, 7, 8, 23, 9, 16, 24, 25, 26, 27, 28, 29, 30, 31, 32, 33, 34, 35, 36, 37, 38, 75, 76, 77, 71, 72, 73, 74] (by decide +kernel) (by decide +kernel)
set_option maxRecDepth 20000 in
theorem gX9_copy_X9_init : GoodIn wsX9_copy (wsX9_init) := ggX9_copy_X9_init
set_option maxRecDepth 20000 in
theorem ggX9_copy_Jx4a65c_init_4bcb3 : GoodIn wsX9_copy wsJx4a65c_init_4bcb3 := goodIn_r _ [41, 42, 28, 43, 44, 29, 30, 31, 32, 33, 34, 35, 36, 37, 38, 21, 22, 45, 46, 47, 6, 48, 49, 50, 51, 52, 53, 54, 55, 56, 57, 58, 59, 60, 61, 62, 63, 64, 65, 66, 67, 68, 69, 70, 75, 76, 77] (by decide +kernel) (by decide +kernel)
set_option maxRecDepth 20000 in
theorem gX9_copy_Jx4a65c_init_4bcb3 : GoodIn wsX9_copy (wsJx4a65c_init_4bcb3) := ggX9_copy_Jx4a65c_init_4bcb3
theorem dX9_copy_0 : decode cX9_copy 0 = .ok (.new 13, 3) := by decide +kernel
theorem dX9_copy_3 : decode cX9_copy 3 = .ok (.dup, 1) := by decide +kernel
theorem dX9_copy_4 : decode cX9_copy 4 = .ok (.invokespecial 28, 3) := by decide +kernel
theorem dX9_copy_7 : decode cX9_copy 7 = .ok (.astore_n 1, 1) := by decide +kernel
theorem dX9_copy_8 : decode cX9_copy 8 = .ok (.aload_n 1, 1) := by decide +kernel
theorem dX9_copy_9 : decode cX9_copy 9 = .ok (.new 9, 3) := by decide +kernel
theorem dX9_copy_12 : decode cX9_copy 12 = .ok (.dup, 1) := by decide +kernel
theorem dX9_copy_13 : decode cX9_copy 13 = .ok (.aload_n 0, 1) := by decide +kernel
theorem dX9_copy_14 : decode cX9_copy 14 = .ok (.getfield 12, 3) := by decide +kernel
theorem dX9_copy_17 : decode cX9_copy 17 = .ok (.invokespecial 29, 3) := by decide +kernel
theorem dX9_copy_20 : decode cX9_copy 20 = .ok (.putfield 12, 3) := by decide +kernel
theorem dX9_copy_23 : decode cX9_copy 23 = .ok (.aload_n 1, 1) := by decide +kernel
theorem dX9_copy_24 : decode cX9_copy 24 = .ok (.new 9, 3) := by decide +kernel
theorem dX9_copy_27 : decode cX9_copy 27 = .ok (.dup, 1) := by decide +kernel
theorem dX9_copy_28 : decode cX9_copy 28 = .ok (.aload_n 0, 1) := by decide +kernel
theorem dX9_copy_29 : decode cX9_copy 29 = .ok (.getfield 18, 3) := by decide +kernel
theorem dX9_copy_32 : decode cX9_copy 32 = .ok (.invokespecial 29, 3) := by decide +kernel
theorem dX9_copy_35 : decode cX9_copy 35 = .ok (.putfield 18, 3) := by decide +kernel
theorem dX9_copy_38 : decode cX9_copy 38 = .ok (.aload_n 1, 1) := by decide +kernel
theorem dX9_copy_39 : decode cX9_copy 39 = .ok (.aload_n 0, 1) := by decide +kernel
theorem dX9_copy_40 : decode cX9_copy 40 = .ok (.getfield 21, 3) := by decide +kernel
theorem dX9_copy_43 : decode cX9_copy 43 = .ok (.invokevirtual 32, 3) := by decide +kernel
theorem dX9_copy_46 : decode cX9_copy 46 = .ok (.checkcast 33, 3) := by decide +kernel
theorem dX9_copy_49 : decode cX9_copy 49 = .ok (.putfield 21, 3) := by decide +kernel
theorem dX9_copy_52 : decode cX9_copy 52 = .ok (.aload_n 1, 1) := by decide +kernel
theorem dX9_copy_53 : decode cX9_copy 53 = .ok (.new 9, 3) := by decide +kernel
theorem dX9_copy_56 : decode cX9_copy 56 = .ok (.dup, 1) := by decide +kernel
theorem dX9_copy_57 : decode cX9_copy 57 = .ok (.aload_n 0, 1) := by decide +kernel
theorem dX9_copy_58 : decode cX9_copy 58 = .ok (.getfield 25, 3) := by decide +kernel
theorem dX9_copy_61 : decode cX9_copy 61 = .ok (.invokespecial 29, 3) := by decide +kernel
theorem dX9_copy_64 : decode cX9_copy 64 = .ok (.putfield 25, 3) := by decide +kernel
theorem dX9_copy_67 : decode cX9_copy 67 = .ok (.aload_n 1, 1) := by decide +kernel
theorem dX9_copy_68 : decode cX9_copy 68 = .ok (.areturn, 1) := by decide +kernel
set_option maxRecDepth 20000 in
theorem ggX9_top_Jx4a65c_isEmpty_aae02 : GoodIn wsX9_top wsJx4a65c_isEmpty_aae02 := goodIn_r _ [7, 8, 40, 41, 42] (by decide +kernel) (by decide +kernel)
set_option maxRecDepth 20000 in
theorem gX9_top_Jx4a65c_isEmpty_aae02 : GoodIn wsX9_top (wsV RX9 37 RJx4a65c yJx4a65c_isEmpty_aae02 wsJx4a65c_isEmpty_aae02) := goodIn_app (goodIn_of _ (by decide +kernel)) ggX9_top_Jx4a65c_isEmpty_aae02
set_option maxRecDepth 20000 in
theorem ggX9_top_Jx4a65c_size_8abf5 : GoodIn wsX9_top wsJx4a65c_size_8abf5 := goodIn_r _ [12, 8, 40, 41, 42] (by decide +kernel) (by decide +kernel)
set_option maxRecDepth 20000 in
theorem gX9_top_Jx4a65c_size_8abf5 : GoodIn wsX9_top (wsV RX9 41 RJx4a65c yJx4a65c_size_8abf5 wsJx4a65c_size_8abf5) := goodIn_app (goodIn_of _ (by decide +kernel)) ggX9_top_Jx4a65c_size_8abf5
set_option maxRecDepth 20000 in
theorem ggX9_top_Jx4a65c_get_915e3 : GoodIn wsX9_top wsJx4a65c_get_915e3 := goodIn_r _ [16, 8, 17, 18, 19, 20, 21, 22, 23, 24, 25, 26, 27, 6, 28, 29, 40, 41, 42] (by decide +kernel) (by decide +kernel)
set_option maxRecDepth 20000 in
theorem gX9_top_Jx4a65c_get_915e3 : GoodIn wsX9_top (wsV RX9 45 RJx4a65c yJx4a65c_get_915e3 wsJx4a65c_get_915e3) := goodIn_app (goodIn_of _ (by decide +kernel)) ggX9_top_Jx4a65c_get_915e3
set_option maxRecDepth 20000 in
theorem ggX9_top_J6_intValue_8abf5 : GoodIn wsX9_top wsJ6_intValue_8abf5 := goodIn_r _ [34, 35, 43] (by decide +kernel) (by decide +kernel)
set_option maxRecDepth 20000 in
theorem gX9_top_J6_intValue_8abf5 : GoodIn wsX9_top (wsV RX9 51 RJ6 yJ6_intValue_8abf5 wsJ6_intValue_8abf5) := goodIn_app (goodIn_of _ (by decide +kernel)) ggX9_top_J6_intValue_8abf5
theorem dX9_top_0 : decode cX9_top 0 = .ok (.aload_n 0, 1) := by decide +kernel
theorem dX9_top_1 : decode cX9_top 1 = .ok (.getfield 18, 3) := by decide +kernel
theorem dX9_top_4 : decode cX9_top 4 = .ok (.invokevirtual 37, 3) := by decide +kernel
theorem dX9_top_7 : decode cX9_top 7 = .ok (.ifCond .eq 7, 3) := by decide +kernel
theorem dX9_top_10 : decode cX9_top 10 = .ok (.iconst (-1), 1) := by decide +kernel
theorem dX9_top_11 : decode cX9_top 11 = .ok (.goto 25, 3) := by decide +kernel
theorem dX9_top_14 : decode cX9_top 14 = .ok (.aload_n 0, 1) := by decide +kernel
theorem dX9_top_15 : decode cX9_top 15 = .ok (.getfield 18, 3) := by decide +kernel
theorem dX9_top_18 : decode cX9_top 18 = .ok (.aload_n 0, 1) := by decide +kernel
theorem dX9_top_19 : decode cX9_top 19 = .ok (.getfield 18, 3) := by decide +kernel
theorem dX9_top_22 : decode cX9_top 22 = .ok (.invokevirtual 41, 3) := by decide +kernel
theorem dX9_top_25 : decode cX9_top 25 = .ok (.iconst 1, 1) := by decide +kernel
theorem dX9_top_26 : decode cX9_top 26 = .ok (.isub, 1) := by decide +kernel
theorem dX9_top_27 : decode cX9_top 27 = .ok (.invokevirtual 45, 3) := by decide +kernel
theorem dX9_top_30 : decode cX9_top 30 = .ok (.checkcast 49, 3) := by decide +kernel
theorem dX9_top_33 : decode cX9_top 33 = .ok (.invokevirtual 51, 3) := by decide +kernel
theorem dX9_top_36 : decode cX9_top 36 = .ok (.ireturn, 1) := by decide +kernel
set_option maxRecDepth 20000 in
theorem ggX10_init_Jx4a65c_init_da8c8 : GoodIn wsX10_init wsJx4a65c_init_da8c8 := goodIn_r _ [14, 15, 16, 17, 18, 19, 20, 21, 22, 23, 24, 25, 26, 2, 3, 105, 106, 107] (by decide +kernel) (by decide +kernel)
set_option maxRecDepth 20000 in
theorem gX10_init_Jx4a65c_init_da8c8 : GoodIn wsX10_init (wsJx4a65c_init_da8c8) := ggX10_init_Jx4a65c_init_da8c8
set_option maxRecDepth 20000 in
theorem ggX10_init_X7_init : GoodIn wsX10_init wsX7_init := goodIn_r _ [29, 30, 2, 3, 31, 5, 6, 32, 33, 34, 35, 36, 37, 38, 39, 40, 41, 42, 13, 14, 15, 16, 17, 18, 19, 20, 21, 22, 23, 24, 25, 26, 43, 44, 45, 46, 47, 48, 49, 50, 51, 52, 53, 54, 55, 56, 57, 58, 59, 60, 61, 62, 63, 64, 65, 66, 67, 68, 69, 70, 71, 72, 73, 74, 75, 76, 77, 78, 79, 80, 81, 82, 83, 84, 85, 86, 87, 88, 89, 90, 91, 92, 93, 94, 95, 96, 97, 98, 99, 100, 101, 102, 103, 104, 105, 106, 107, 111, 112, 113, 114, 115, 116, 117, 118, 119, 120, 121, 122] (by decide +kernel) (by decide +kernel)
set_option maxRecDepth 20000 in
theorem gX10_init_X7_init : GoodIn wsX10_init (wsX7_init) := ggX10_init_X7_init
theorem dX10_init_0 : decode cX10_init 0 = .ok (.aload_n 0, 1) := by decide +kernel
theorem dX10_init_1 : decode cX10_init 1 = .ok (.invokespecial 19, 3) := by decide +kernel
theorem dX10_init_4 : decode cX10_init 4 = .ok (.aload_n 0, 1) := by decide +kernel
theorem dX10_init_5 : decode cX10_init 5 = .ok (.new 2, 3) := by decide +kernel
theorem dX10_init_8 : decode cX10_init 8 = .ok (.dup, 1) := by decide +kernel
theorem dX10_init_9 : decode cX10_init 9 = .ok (.invokespecial 25, 3) := by decide +kernel
theorem dX10_init_12 : decode cX10_init 12 = .ok (.putfield 26, 3) := by decide +kernel
theorem dX10_init_15 : decode cX10_init 15 = .ok (.aload_n 0, 1) := by decide +kernel
theorem dX10_init_16 : decode cX10_init 16 = .ok (.new 32, 3) := by decide +kernel
theorem dX10_init_19 : decode cX10_init 19 = .ok (.dup, 1) := by decide +kernel
theorem dX10_init_20 : decode cX10_init 20 = .ok (.aload_n 0, 1) := by decide +kernel
theorem dX10_init_21 : decode cX10_init 21 = .ok (.getfield 26, 3) := by decide +kernel
theorem dX10_init_24 : decode cX10_init 24 = .ok (.iconst 1, 1) := by decide +kernel
theorem dX10_init_25 : decode cX10_init 25 = .ok (.invokespecial 34, 3) := by decide +kernel
theorem dX10_init_28 : decode cX10_init 28 = .ok (.putfield 37, 3) := by decide +kernel
theorem dX10_init_31 : decode cX10_init 31 = .ok (.return_, 1) := by decide +kernel
theorem dX10_thrown_0 : decode cX10_thrown 0 = .ok (.aload_n 0, 1) := by decide +kernel
theorem dX10_thrown_1 : decode cX10_thrown 1 = .ok (.getfield 41, 3) := by decide +kernel
theorem dX10_thrown_4 : decode cX10_thrown 4 = .ok (.ireturn, 1) := by decide +kernel
theorem dX10_isIn_0 : decode cX10_isIn 0 = .ok (.iload_n 0, 1) := by decide +kernel
theorem dX10_isIn_1 : decode cX10_isIn 1 = .ok (.iload_n 1, 1) := by decide +kernel
theorem dX10_isIn_2 : decode cX10_isIn 2 = .ok (.if_icmp .lt 12, 3) := by decide +kernel
theorem dX10_isIn_5 : decode cX10_isIn 5 = .ok (.iload_n 0, 1) := by decide +kernel
theorem dX10_isIn_6 : decode cX10_isIn 6 = .ok (.iload_n 2, 1) := by decide +kernel
theorem dX10_isIn_7 : decode cX10_isIn 7 = .ok (.if_icmp .gt 7, 3) := by decide +kernel
theorem dX10_isIn_10 : decode cX10_isIn 10 = .ok (.iconst 1, 1) := by decide +kernel
theorem dX10_isIn_11 : decode cX10_isIn 11 = .ok (.goto 4, 3) := by decide +kernel
theorem dX10_isIn_14 : decode cX10_isIn 14 = .ok (.iconst 0, 1) := by decide +kernel
theorem dX10_isIn_15 : decode cX10_isIn 15 = .ok (.ireturn, 1) := by decide +kernel
theorem dX10_refuse_0 : decode cX10_refuse 0 = .ok (.iload_n 1, 1) := by decide +kernel
theorem dX10_refuse_1 : decode cX10_refuse 1 = .ok (.ifCond .eq 15, 3) := by decide +kernel
theorem dX10_refuse_4 : decode cX10_refuse 4 = .ok (.aload_n 0, 1) := by decide +kernel
theorem dX10_refuse_5 : decode cX10_refuse 5 = .ok (.getfield 41, 3) := by decide +kernel
theorem dX10_refuse_8 : decode cX10_refuse 8 = .ok (.ifCond .ne 8, 3) := by decide +kernel
theorem dX10_refuse_11 : decode cX10_refuse 11 = .ok (.aload_n 0, 1) := by decide +kernel
theorem dX10_refuse_12 : decode cX10_refuse 12 = .ok (.iload_n 2, 1) := by decide +kernel
theorem dX10_refuse_13 : decode cX10_refuse 13 = .ok (.putfield 41, 3) := by decide +kernel
theorem dX10_refuse_16 : decode cX10_refuse 16 = .ok (.aload_n 0, 1) := by decide +kernel
theorem dX10_refuse_17 : decode cX10_refuse 17 = .ok (.getfield 41, 3) := by decide +kernel
theorem dX10_refuse_20 : decode cX10_refuse 20 = .ok (.ifCond .le 7, 3) := by decide +kernel
theorem dX10_refuse_23 : decode cX10_refuse 23 = .ok (.iconst 1, 1) := by decide +kernel
theorem dX10_refuse_24 : decode cX10_refuse 24 = .ok (.goto 4, 3) := by decide +kernel
theorem dX10_refuse_27 : decode cX10_refuse 27 = .ok (.iconst 0, 1) := by decide +kernel
theorem dX10_refuse_28 : decode cX10_refuse 28 = .ok (.ireturn, 1) := by decide +kernel
set_option maxRecDepth 20000 in
theorem ggX10_start_X10_refuse : GoodIn wsX10_start wsX10_refuse := goodIn_r _ [6, 1, 7, 8, 9] (by decide +kernel) (by decide +kernel)
set_option maxRecDepth 20000 in
theorem gX10_start_X10_refuse : GoodIn wsX10_start (wsV RX10 45 RX10 yX10_refuse wsX10_refuse) := goodIn_app (goodIn_of _ (by decide +kernel)) ggX10_start_X10_refuse
theorem dX10_start_0 : decode cX10_start 0 = .ok (.aload_n 0, 1) := by decide +kernel
theorem dX10_start_1 : decode cX10_start 1 = .ok (.iconst 0, 1) := by decide +kernel
theorem dX10_start_2 : decode cX10_start 2 = .ok (.putfield 41, 3) := by decide +kernel
theorem dX10_start_5 : decode cX10_start 5 = .ok (.aload_n 0, 1) := by decide +kernel
theorem dX10_start_6 : decode cX10_start 6 = .ok (.iload_n 1, 1) := by decide +kernel
theorem dX10_start_7 : decode cX10_start 7 = .ok (.iload_n 2, 1) := by decide +kernel
theorem dX10_start_8 : decode cX10_start 8 = .ok (.invokevirtual 45, 3) := by decide +kernel
theorem dX10_start_11 : decode cX10_start 11 = .ok (.ireturn, 1) := by decide +kernel
theorem dX10_plain_0 : decode cX10_plain 0 = .ok (.aload_n 0, 1) := by decide +kernel
theorem dX10_plain_1 : decode cX10_plain 1 = .ok (.iconst 0, 1) := by decide +kernel
theorem dX10_plain_2 : decode cX10_plain 2 = .ok (.putfield 41, 3) := by decide +kernel
theorem dX10_plain_5 : decode cX10_plain 5 = .ok (.iload_n 1, 1) := by decide +kernel
theorem dX10_plain_6 : decode cX10_plain 6 = .ok (.ireturn, 1) := by decide +kernel
set_option maxRecDepth 20000 in
theorem ggX10_addJob_Jx4a65c_size_8abf5 : GoodIn wsX10_addJob wsJx4a65c_size_8abf5 := goodIn_r _ [8, 9, 92, 93, 94] (by decide +kernel) (by decide +kernel)
set_option maxRecDepth 20000 in
theorem gX10_addJob_Jx4a65c_size_8abf5 : GoodIn wsX10_addJob (wsV RX10 1 RJx4a65c yJx4a65c_size_8abf5 wsJx4a65c_size_8abf5) := goodIn_app (goodIn_of _ (by decide +kernel)) ggX10_addJob_Jx4a65c_size_8abf5
set_option maxRecDepth 20000 in
theorem ggX10_addJob_X10_start : GoodIn wsX10_addJob wsX10_start := goodIn_r _ [14, 15, 16, 17, 18, 13, 19, 89, 90, 91] (by decide +kernel) (by decide +kernel)
set_option maxRecDepth 20000 in
theorem gX10_addJob_X10_start : GoodIn wsX10_addJob (wsV RX10 49 RX10 yX10_start wsX10_start) := goodIn_app (goodIn_of _ (by decide +kernel)) ggX10_addJob_X10_start
set_option maxRecDepth 20000 in
theorem ggX10_addJob_Jx4a65c_init_da8c8 : GoodIn wsX10_addJob wsJx4a65c_init_da8c8 := goodIn_r _ [22, 23, 24, 25, 26, 27, 28, 29, 30, 31, 32, 33, 34, 35, 36, 92, 93, 94] (by decide +kernel) (by decide +kernel)
set_option maxRecDepth 20000 in
theorem gX10_addJob_Jx4a65c_init_da8c8 : GoodIn wsX10_addJob (wsJx4a65c_init_da8c8) := ggX10_addJob_Jx4a65c_init_da8c8
set_option maxRecDepth 20000 in
theorem ggX10_addJob_Jx4a65c_add_9ea2d : GoodIn wsX10_addJob wsJx4a65c_add_9ea2d := goodIn_r _ [40, 41, 42, 24, 9, 43, 44, 45, 4, 46, 47, 48, 49, 50, 51, 52, 53, 54, 23, 55, 56, 57, 58, 59, 60, 61, 62, 63, 64, 65, 66, 67, 68, 69, 70, 71, 72, 73, 74, 75, 76, 77, 78, 79, 80, 81, 82, 83, 84, 85, 86, 87, 88, 92, 93, 94] (by decide +kernel) (by decide +kernel)
set_option maxRecDepth 20000 in
theorem gX10_addJob_Jx4a65c_add_9ea2d : GoodIn wsX10_addJob (wsV RX10 52 RJx4a65c yJx4a65c_add_9ea2d wsJx4a65c_add_9ea2d) := goodIn_app (goodIn_of _ (by decide +kernel)) ggX10_addJob_Jx4a65c_add_9ea2d
theorem dX10_addJob_0 : decode cX10_addJob 0 = .ok (.aload_n 0, 1) := by decide +kernel
theorem dX10_addJob_1 : decode cX10_addJob 1 = .ok (.aload_n 0, 1) := by decide +kernel
theorem dX10_addJob_2 : decode cX10_addJob 2 = .ok (.getfield 26, 3) := by decide +kernel
theorem dX10_addJob_5 : decode cX10_addJob 5 = .ok (.invokevirtual 1, 3) := by decide +kernel
theorem dX10_addJob_8 : decode cX10_addJob 8 = .ok (.bipush 8, 2) := by decide +kernel
theorem dX10_addJob_10 : decode cX10_addJob 10 = .ok (.if_icmp .ne 7, 3) := by decide +kernel
theorem dX10_addJob_13 : decode cX10_addJob 13 = .ok (.iconst 1, 1) := by decide +kernel
theorem dX10_addJob_14 : decode cX10_addJob 14 = .ok (.goto 4, 3) := by decide +kernel
theorem dX10_addJob_17 : decode cX10_addJob 17 = .ok (.iconst 0, 1) := by decide +kernel
theorem dX10_addJob_18 : decode cX10_addJob 18 = .ok (.iconst 1, 1) := by decide +kernel
theorem dX10_addJob_19 : decode cX10_addJob 19 = .ok (.invokevirtual 49, 3) := by decide +kernel
theorem dX10_addJob_22 : decode cX10_addJob 22 = .ok (.ifCond .eq 5, 3) := by decide +kernel
theorem dX10_addJob_25 : decode cX10_addJob 25 = .ok (.iconst 0, 1) := by decide +kernel
theorem dX10_addJob_26 : decode cX10_addJob 26 = .ok (.ireturn, 1) := by decide +kernel
theorem dX10_addJob_27 : decode cX10_addJob 27 = .ok (.aload_n 0, 1) := by decide +kernel
theorem dX10_addJob_28 : decode cX10_addJob 28 = .ok (.getfield 26, 3) := by decide +kernel
theorem dX10_addJob_31 : decode cX10_addJob 31 = .ok (.new 2, 3) := by decide +kernel
theorem dX10_addJob_34 : decode cX10_addJob 34 = .ok (.dup, 1) := by decide +kernel
theorem dX10_addJob_35 : decode cX10_addJob 35 = .ok (.invokespecial 25, 3) := by decide +kernel
theorem dX10_addJob_38 : decode cX10_addJob 38 = .ok (.invokevirtual 52, 3) := by decide +kernel
theorem dX10_addJob_41 : decode cX10_addJob 41 = .ok (.pop, 1) := by decide +kernel
theorem dX10_addJob_42 : decode cX10_addJob 42 = .ok (.aload_n 0, 1) := by decide +kernel
theorem dX10_addJob_43 : decode cX10_addJob 43 = .ok (.getfield 26, 3) := by decide +kernel
theorem dX10_addJob_46 : decode cX10_addJob 46 = .ok (.invokevirtual 1, 3) := by decide +kernel
theorem dX10_addJob_49 : decode cX10_addJob 49 = .ok (.iconst 1, 1) := by decide +kernel
theorem dX10_addJob_50 : decode cX10_addJob 50 = .ok (.isub, 1) := by decide +kernel
theorem dX10_addJob_51 : decode cX10_addJob 51 = .ok (.ireturn, 1) := by decide +kernel
set_option maxRecDepth 20000 in
theorem ggX10_isNoJob_Jx4a65c_size_8abf5 : GoodIn wsX10_isNoJob wsJx4a65c_size_8abf5 := goodIn_r _ [6, 7, 15, 16, 17] (by decide +kernel) (by decide +kernel)
set_option maxRecDepth 20000 in
theorem gX10_isNoJob_Jx4a65c_size_8abf5 : GoodIn wsX10_isNoJob (wsV RX10 1 RJx4a65c yJx4a65c_size_8abf5 wsJx4a65c_size_8abf5) := goodIn_app (goodIn_of _ (by decide +kernel)) ggX10_isNoJob_Jx4a65c_size_8abf5
set_option maxRecDepth 20000 in
theorem ggX10_isNoJob_X10_isIn : GoodIn wsX10_isNoJob wsX10_isIn := goodIn_r _ [11] (by decide +kernel) (by decide +kernel)
set_option maxRecDepth 20000 in
theorem gX10_isNoJob_X10_isIn : GoodIn wsX10_isNoJob (va_wsS RX10 56 yX10_isIn wsX10_isIn) := goodIn_app (goodIn_of _ (by decide +kernel)) ggX10_isNoJob_X10_isIn
theorem dX10_isNoJob_0 : decode cX10_isNoJob 0 = .ok (.iload_n 1, 1) := by decide +kernel
theorem dX10_isNoJob_1 : decode cX10_isNoJob 1 = .ok (.iconst 0, 1) := by decide +kernel
theorem dX10_isNoJob_2 : decode cX10_isNoJob 2 = .ok (.aload_n 0, 1) := by decide +kernel
theorem dX10_isNoJob_3 : decode cX10_isNoJob 3 = .ok (.getfield 26, 3) := by decide +kernel
theorem dX10_isNoJob_6 : decode cX10_isNoJob 6 = .ok (.invokevirtual 1, 3) := by decide +kernel
theorem dX10_isNoJob_9 : decode cX10_isNoJob 9 = .ok (.iconst 1, 1) := by decide +kernel
theorem dX10_isNoJob_10 : decode cX10_isNoJob 10 = .ok (.isub, 1) := by decide +kernel
theorem dX10_isNoJob_11 : decode cX10_isNoJob 11 = .ok (.invokestatic 56, 3) := by decide +kernel
theorem dX10_isNoJob_14 : decode cX10_isNoJob 14 = .ok (.ifCond .ne 7, 3) := by decide +kernel
theorem dX10_isNoJob_17 : decode cX10_isNoJob 17 = .ok (.iconst 1, 1) := by decide +kernel
theorem dX10_isNoJob_18 : decode cX10_isNoJob 18 = .ok (.goto 4, 3) := by decide +kernel
theorem dX10_isNoJob_21 : decode cX10_isNoJob 21 = .ok (.iconst 0, 1) := by decide +kernel
theorem dX10_isNoJob_22 : decode cX10_isNoJob 22 = .ok (.ireturn, 1) := by decide +kernel
set_option maxRecDepth 20000 in
theorem ggX10_addStep_X10_isNoJob : GoodIn wsX10_addStep wsX10_isNoJob := goodIn_r _ [8, 1, 9, 10, 11, 12, 13, 14, 15, 16, 7, 17, 109, 110, 111, 112, 113, 114] (by decide +kernel) (by decide +kernel)
set_option maxRecDepth 20000 in
theorem gX10_addStep_X10_isNoJob : GoodIn wsX10_addStep (wsV RX10 68 RX10 yX10_isNoJob wsX10_isNoJob) := goodIn_app (goodIn_of _ (by decide +kernel)) ggX10_addStep_X10_isNoJob
set_option maxRecDepth 20000 in
theorem ggX10_addStep_X10_start : GoodIn wsX10_addStep wsX10_start := goodIn_r _ [21, 22, 23, 24, 25, 7, 26, 109, 110, 111] (by decide +kernel) (by decide +kernel)
set_option maxRecDepth 20000 in
theorem gX10_addStep_X10_start : GoodIn wsX10_addStep (wsV RX10 49 RX10 yX10_start wsX10_start) := goodIn_app (goodIn_of _ (by decide +kernel)) ggX10_addStep_X10_start
set_option maxRecDepth 20000 in
theorem ggX10_addStep_X10_refuse : GoodIn wsX10_addStep wsX10_refuse := goodIn_r _ [26, 22, 109, 110, 111] (by decide +kernel) (by decide +kernel)
set_option maxRecDepth 20000 in
theorem gX10_addStep_X10_refuse : GoodIn wsX10_addStep (wsV RX10 45 RX10 yX10_refuse wsX10_refuse) := goodIn_app (goodIn_of _ (by decide +kernel)) ggX10_addStep_X10_refuse
set_option maxRecDepth 20000 in
theorem ggX10_addStep_Jx4a65c_get_915e3 : GoodIn wsX10_addStep wsJx4a65c_get_915e3 := goodIn_r _ [34, 14, 35, 36, 37, 38, 39, 40, 41, 42, 43, 44, 45, 12, 46, 47, 112, 113, 114] (by decide +kernel) (by decide +kernel)
set_option maxRecDepth 20000 in
theorem gX10_addStep_Jx4a65c_get_915e3 : GoodIn wsX10_addStep (wsV RX10 7 RJx4a65c yJx4a65c_get_915e3 wsJx4a65c_get_915e3) := goodIn_app (goodIn_of _ (by decide +kernel)) ggX10_addStep_Jx4a65c_get_915e3
set_option maxRecDepth 20000 in
theorem ggX10_addStep_Jx4a65c_size_8abf5 : GoodIn wsX10_addStep wsJx4a65c_size_8abf5 := goodIn_r _ [13, 14, 112, 113, 114] (by decide +kernel) (by decide +kernel)
set_option maxRecDepth 20000 in
theorem gX10_addStep_Jx4a65c_size_8abf5 : GoodIn wsX10_addStep (wsV RX10 1 RJx4a65c yJx4a65c_size_8abf5 wsJx4a65c_size_8abf5) := goodIn_app (goodIn_of _ (by decide +kernel)) ggX10_addStep_Jx4a65c_size_8abf5
set_option maxRecDepth 20000 in
theorem ggX10_addStep_Jx4a65c_add_9ea2d : GoodIn wsX10_addStep wsJx4a65c_add_9ea2d := goodIn_r _ [59, 60, 61, 47, 14, 62, 63, 64, 12, 65, 66, 67, 68, 69, 70, 71, 72, 73, 74, 75, 76, 77, 78, 79, 80, 81, 82, 83, 84, 85, 86, 87, 88, 89, 90, 91, 92, 93, 94, 95, 96, 97, 98, 99, 100, 101, 102, 103, 104, 105, 106, 107, 108, 112, 113, 114] (by decide +kernel) (by decide +kernel)
set_option maxRecDepth 20000 in
theorem gX10_addStep_Jx4a65c_add_9ea2d : GoodIn wsX10_addStep (wsV RX10 52 RJx4a65c yJx4a65c_add_9ea2d wsJx4a65c_add_9ea2d) := goodIn_app (goodIn_of _ (by decide +kernel)) ggX10_addStep_Jx4a65c_add_9ea2d
theorem dX10_addStep_0 : decode cX10_addStep 0 = .ok (.aload_n 0, 1) := by decide +kernel
theorem dX10_addStep_1 : decode cX10_addStep 1 = .ok (.aload_n 0, 1) := by decide +kernel
theorem dX10_addStep_2 : decode cX10_addStep 2 = .ok (.iload_n 1, 1) := by decide +kernel
theorem dX10_addStep_3 : decode cX10_addStep 3 = .ok (.invokevirtual 68, 3) := by decide +kernel
theorem dX10_addStep_6 : decode cX10_addStep 6 = .ok (.iconst 1, 1) := by decide +kernel
theorem dX10_addStep_7 : decode cX10_addStep 7 = .ok (.invokevirtual 49, 3) := by decide +kernel
theorem dX10_addStep_10 : decode cX10_addStep 10 = .ok (.ifCond .ne 57, 3) := by decide +kernel
theorem dX10_addStep_13 : decode cX10_addStep 13 = .ok (.aload_n 0, 1) := by decide +kernel
theorem dX10_addStep_14 : decode cX10_addStep 14 = .ok (.aload_n 0, 1) := by decide +kernel
theorem dX10_addStep_15 : decode cX10_addStep 15 = .ok (.iload_n 2, 1) := by decide +kernel
theorem dX10_addStep_16 : decode cX10_addStep 16 = .ok (.iload_n 3, 1) := by decide +kernel
theorem dX10_addStep_17 : decode cX10_addStep 17 = .ok (.invokevirtual 72, 3) := by decide +kernel
theorem dX10_addStep_20 : decode cX10_addStep 20 = .ok (.iconst 2, 1) := by decide +kernel
theorem dX10_addStep_21 : decode cX10_addStep 21 = .ok (.invokevirtual 45, 3) := by decide +kernel
theorem dX10_addStep_24 : decode cX10_addStep 24 = .ok (.ifCond .ne 43, 3) := by decide +kernel
theorem dX10_addStep_27 : decode cX10_addStep 27 = .ok (.aload_n 0, 1) := by decide +kernel
theorem dX10_addStep_28 : decode cX10_addStep 28 = .ok (.aload_n 0, 1) := by decide +kernel
theorem dX10_addStep_29 : decode cX10_addStep 29 = .ok (.getfield 26, 3) := by decide +kernel
theorem dX10_addStep_32 : decode cX10_addStep 32 = .ok (.iload_n 1, 1) := by decide +kernel
theorem dX10_addStep_33 : decode cX10_addStep 33 = .ok (.invokevirtual 7, 3) := by decide +kernel
theorem dX10_addStep_36 : decode cX10_addStep 36 = .ok (.checkcast 2, 3) := by decide +kernel
theorem dX10_addStep_39 : decode cX10_addStep 39 = .ok (.invokevirtual 1, 3) := by decide +kernel
theorem dX10_addStep_42 : decode cX10_addStep 42 = .ok (.bipush 12, 2) := by decide +kernel
theorem dX10_addStep_44 : decode cX10_addStep 44 = .ok (.if_icmp .eq 11, 3) := by decide +kernel
theorem dX10_addStep_47 : decode cX10_addStep 47 = .ok (.aload_n 0, 1) := by decide +kernel
theorem dX10_addStep_48 : decode cX10_addStep 48 = .ok (.iload_n 1, 1) := by decide +kernel
theorem dX10_addStep_49 : decode cX10_addStep 49 = .ok (.invokevirtual 76, 3) := by decide +kernel
theorem dX10_addStep_52 : decode cX10_addStep 52 = .ok (.ifCond .eq 7, 3) := by decide +kernel
theorem dX10_addStep_55 : decode cX10_addStep 55 = .ok (.iconst 1, 1) := by decide +kernel
theorem dX10_addStep_56 : decode cX10_addStep 56 = .ok (.goto 4, 3) := by decide +kernel
theorem dX10_addStep_59 : decode cX10_addStep 59 = .ok (.iconst 0, 1) := by decide +kernel
theorem dX10_addStep_60 : decode cX10_addStep 60 = .ok (.iconst 3, 1) := by decide +kernel
theorem dX10_addStep_61 : decode cX10_addStep 61 = .ok (.invokevirtual 45, 3) := by decide +kernel
theorem dX10_addStep_64 : decode cX10_addStep 64 = .ok (.ifCond .eq 5, 3) := by decide +kernel
theorem dX10_addStep_67 : decode cX10_addStep 67 = .ok (.iconst 0, 1) := by decide +kernel
theorem dX10_addStep_68 : decode cX10_addStep 68 = .ok (.ireturn, 1) := by decide +kernel
theorem dX10_addStep_69 : decode cX10_addStep 69 = .ok (.aload_n 0, 1) := by decide +kernel
theorem dX10_addStep_70 : decode cX10_addStep 70 = .ok (.getfield 26, 3) := by decide +kernel
theorem dX10_addStep_73 : decode cX10_addStep 73 = .ok (.iload_n 1, 1) := by decide +kernel
theorem dX10_addStep_74 : decode cX10_addStep 74 = .ok (.invokevirtual 7, 3) := by decide +kernel
theorem dX10_addStep_77 : decode cX10_addStep 77 = .ok (.checkcast 2, 3) := by decide +kernel
theorem dX10_addStep_80 : decode cX10_addStep 80 = .ok (.iconst 2, 1) := by decide +kernel
theorem dX10_addStep_81 : decode cX10_addStep 81 = .ok (.newarray .int, 2) := by decide +kernel
theorem dX10_addStep_83 : decode cX10_addStep 83 = .ok (.dup, 1) := by decide +kernel
theorem dX10_addStep_84 : decode cX10_addStep 84 = .ok (.iconst 0, 1) := by decide +kernel
theorem dX10_addStep_85 : decode cX10_addStep 85 = .ok (.iload_n 2, 1) := by decide +kernel
theorem dX10_addStep_86 : decode cX10_addStep 86 = .ok (.iastore, 1) := by decide +kernel
theorem dX10_addStep_87 : decode cX10_addStep 87 = .ok (.dup, 1) := by decide +kernel
theorem dX10_addStep_88 : decode cX10_addStep 88 = .ok (.iconst 1, 1) := by decide +kernel
theorem dX10_addStep_89 : decode cX10_addStep 89 = .ok (.iload_n 3, 1) := by decide +kernel
theorem dX10_addStep_90 : decode cX10_addStep 90 = .ok (.iastore, 1) := by decide +kernel
theorem dX10_addStep_91 : decode cX10_addStep 91 = .ok (.invokevirtual 52, 3) := by decide +kernel
theorem dX10_addStep_94 : decode cX10_addStep 94 = .ok (.pop, 1) := by decide +kernel
theorem dX10_addStep_95 : decode cX10_addStep 95 = .ok (.aload_n 0, 1) := by decide +kernel
theorem dX10_addStep_96 : decode cX10_addStep 96 = .ok (.getfield 26, 3) := by decide +kernel
theorem dX10_addStep_99 : decode cX10_addStep 99 = .ok (.iload_n 1, 1) := by decide +kernel
theorem dX10_addStep_100 : decode cX10_addStep 100 = .ok (.invokevirtual 7, 3) := by decide +kernel
theorem dX10_addStep_103 : decode cX10_addStep 103 = .ok (.checkcast 2, 3) := by decide +kernel
theorem dX10_addStep_106 : decode cX10_addStep 106 = .ok (.invokevirtual 1, 3) := by decide +kernel
theorem dX10_addStep_109 : decode cX10_addStep 109 = .ok (.ireturn, 1) := by decide +kernel
set_option maxRecDepth 20000 in
theorem ggX10_setWorkers_X10_isIn : GoodIn wsX10_setWorkers wsX10_isIn := goodIn_r _ [9] (by decide +kernel) (by decide +kernel)
set_option maxRecDepth 20000 in
theorem gX10_setWorkers_X10_isIn : GoodIn wsX10_setWorkers (va_wsS RX10 56 yX10_isIn wsX10_isIn) := goodIn_app (goodIn_of _ (by decide +kernel)) ggX10_setWorkers_X10_isIn
set_option maxRecDepth 20000 in
theorem ggX10_setWorkers_X10_start : GoodIn wsX10_setWorkers wsX10_start := goodIn_r _ [13, 14, 15, 16, 17, 8, 18, 149, 150, 151] (by decide +kernel) (by decide +kernel)
set_option maxRecDepth 20000 in
theorem gX10_setWorkers_X10_start : GoodIn wsX10_setWorkers (wsV RX10 49 RX10 yX10_start wsX10_start) := goodIn_app (goodIn_of _ (by decide +kernel)) ggX10_setWorkers_X10_start
set_option maxRecDepth 20000 in
theorem ggX10_setWorkers_Jx4a65c_size_8abf5 : GoodIn wsX10_setWorkers wsJx4a65c_size_8abf5 := goodIn_r _ [23, 24, 164, 165, 166] (by decide +kernel) (by decide +kernel)
set_option maxRecDepth 20000 in
theorem gX10_setWorkers_Jx4a65c_size_8abf5 : GoodIn wsX10_setWorkers (wsV RX10 1 RJx4a65c yJx4a65c_size_8abf5 wsJx4a65c_size_8abf5) := goodIn_app (goodIn_of _ (by decide +kernel)) ggX10_setWorkers_Jx4a65c_size_8abf5
set_option maxRecDepth 20000 in
theorem ggX10_setWorkers_X10_refuse : GoodIn wsX10_setWorkers wsX10_refuse := goodIn_r _ [18, 14, 149, 150, 151] (by decide +kernel) (by decide +kernel)
set_option maxRecDepth 20000 in
theorem gX10_setWorkers_X10_refuse : GoodIn wsX10_setWorkers (wsV RX10 45 RX10 yX10_refuse wsX10_refuse) := goodIn_app (goodIn_of _ (by decide +kernel)) ggX10_setWorkers_X10_refuse
set_option maxRecDepth 20000 in
theorem ggX10_setWorkers_Jx4a65c_remove_915e3 : GoodIn wsX10_setWorkers wsJx4a65c_remove_915e3 := goodIn_r _ [65, 24, 51, 39, 40, 41, 42, 43, 44, 45, 46, 66, 67, 68, 22, 69, 70, 71, 72, 73, 74, 75, 164, 165, 166] (by decide +kernel) (by decide +kernel)
set_option maxRecDepth 20000 in
theorem gX10_setWorkers_Jx4a65c_remove_915e3 : GoodIn wsX10_setWorkers (wsV RX10 16 RJx4a65c yJx4a65c_remove_915e3 wsJx4a65c_remove_915e3) := goodIn_app (goodIn_of _ (by decide +kernel)) ggX10_setWorkers_Jx4a65c_remove_915e3
set_option maxRecDepth 20000 in
theorem ggX10_setWorkers_X9_init : GoodIn wsX10_setWorkers wsX9_init := goodIn_r _ [77, 78, 79, 80, 81, 82, 22, 83, 84, 85, 86, 87, 88, 89, 90, 91, 51, 92, 93, 94, 95, 96, 97, 98, 99, 100, 101, 164, 165, 166, 160, 161, 162, 163] (by decide +kernel) (by decide +kernel)
set_option maxRecDepth 20000 in
theorem gX10_setWorkers_X9_init_n103 : GoodIn wsX10_setWorkers (wsX9_init) := ggX10_setWorkers_X9_init
set_option maxRecDepth 20000 in
theorem ggX10_setWorkers_Jx4a65c_add_9ea2d : GoodIn wsX10_setWorkers wsJx4a65c_add_9ea2d := goodIn_r _ [105, 70, 71, 51, 24, 106, 107, 108, 22, 109, 110, 111, 112, 113, 114, 115, 116, 117, 91, 118, 119, 120, 121, 122, 123, 124, 125, 126, 127, 128, 129, 130, 131, 132, 133, 134, 135, 136, 137, 138, 139, 140, 141, 142, 143, 144, 145, 146, 147, 148, 73, 74, 75, 164, 165, 166] (by decide +kernel) (by decide +kernel)
set_option maxRecDepth 20000 in
theorem gX10_setWorkers_Jx4a65c_add_9ea2d : GoodIn wsX10_setWorkers (wsV RX10 52 RJx4a65c yJx4a65c_add_9ea2d wsJx4a65c_add_9ea2d) := goodIn_app (goodIn_of _ (by decide +kernel)) ggX10_setWorkers_Jx4a65c_add_9ea2d
theorem dX10_setWorkers_0 : decode cX10_setWorkers 0 = .ok (.aload_n 0, 1) := by decide +kernel
theorem dX10_setWorkers_1 : decode cX10_setWorkers 1 = .ok (.iload_n 1, 1) := by decide +kernel
theorem dX10_setWorkers_2 : decode cX10_setWorkers 2 = .ok (.iconst 1, 1) := by decide +kernel
theorem dX10_setWorkers_3 : decode cX10_setWorkers 3 = .ok (.iconst 5, 1) := by decide +kernel
theorem dX10_setWorkers_4 : decode cX10_setWorkers 4 = .ok (.invokestatic 56, 3) := by decide +kernel
theorem dX10_setWorkers_7 : decode cX10_setWorkers 7 = .ok (.ifCond .ne 7, 3) := by decide +kernel
theorem dX10_setWorkers_10 : decode cX10_setWorkers 10 = .ok (.iconst 1, 1) := by decide +kernel
theorem dX10_setWorkers_11 : decode cX10_setWorkers 11 = .ok (.goto 4, 3) := by decide +kernel
theorem dX10_setWorkers_14 : decode cX10_setWorkers 14 = .ok (.iconst 0, 1) := by decide +kernel
theorem dX10_setWorkers_15 : decode cX10_setWorkers 15 = .ok (.iconst 1, 1) := by decide +kernel
theorem dX10_setWorkers_16 : decode cX10_setWorkers 16 = .ok (.invokevirtual 49, 3) := by decide +kernel
theorem dX10_setWorkers_19 : decode cX10_setWorkers 19 = .ok (.ifCond .eq 5, 3) := by decide +kernel
theorem dX10_setWorkers_22 : decode cX10_setWorkers 22 = .ok (.iconst 0, 1) := by decide +kernel
theorem dX10_setWorkers_23 : decode cX10_setWorkers 23 = .ok (.ireturn, 1) := by decide +kernel
theorem dX10_setWorkers_24 : decode cX10_setWorkers 24 = .ok (.aload_n 0, 1) := by decide +kernel
theorem dX10_setWorkers_25 : decode cX10_setWorkers 25 = .ok (.getfield 37, 3) := by decide +kernel
theorem dX10_setWorkers_28 : decode cX10_setWorkers 28 = .ok (.getfield 79, 3) := by decide +kernel
theorem dX10_setWorkers_31 : decode cX10_setWorkers 31 = .ok (.invokevirtual 1, 3) := by decide +kernel
theorem dX10_setWorkers_34 : decode cX10_setWorkers 34 = .ok (.istore_n 2, 1) := by decide +kernel
theorem dX10_setWorkers_35 : decode cX10_setWorkers 35 = .ok (.iload_n 1, 1) := by decide +kernel
theorem dX10_setWorkers_36 : decode cX10_setWorkers 36 = .ok (.istore_n 3, 1) := by decide +kernel
theorem dX10_setWorkers_37 : decode cX10_setWorkers 37 = .ok (.iload_n 3, 1) := by decide +kernel
theorem dX10_setWorkers_38 : decode cX10_setWorkers 38 = .ok (.iload_n 2, 1) := by decide +kernel
theorem dX10_setWorkers_39 : decode cX10_setWorkers 39 = .ok (.if_icmp .ge 24, 3) := by decide +kernel
theorem dX10_setWorkers_42 : decode cX10_setWorkers 42 = .ok (.aload_n 0, 1) := by decide +kernel
theorem dX10_setWorkers_43 : decode cX10_setWorkers 43 = .ok (.aload_n 0, 1) := by decide +kernel
theorem dX10_setWorkers_44 : decode cX10_setWorkers 44 = .ok (.iload_n 3, 1) := by decide +kernel
theorem dX10_setWorkers_45 : decode cX10_setWorkers 45 = .ok (.invokevirtual 100, 3) := by decide +kernel
theorem dX10_setWorkers_48 : decode cX10_setWorkers 48 = .ok (.iconst 2, 1) := by decide +kernel
theorem dX10_setWorkers_49 : decode cX10_setWorkers 49 = .ok (.invokevirtual 45, 3) := by decide +kernel
theorem dX10_setWorkers_52 : decode cX10_setWorkers 52 = .ok (.ifCond .eq 5, 3) := by decide +kernel
theorem dX10_setWorkers_55 : decode cX10_setWorkers 55 = .ok (.iconst 0, 1) := by decide +kernel
theorem dX10_setWorkers_56 : decode cX10_setWorkers 56 = .ok (.ireturn, 1) := by decide +kernel
theorem dX10_setWorkers_57 : decode cX10_setWorkers 57 = .ok (.iinc 3 1, 3) := by decide +kernel
theorem dX10_setWorkers_60 : decode cX10_setWorkers 60 = .ok (.goto (-23), 3) := by decide +kernel
theorem dX10_setWorkers_63 : decode cX10_setWorkers 63 = .ok (.aload_n 0, 1) := by decide +kernel
theorem dX10_setWorkers_64 : decode cX10_setWorkers 64 = .ok (.getfield 37, 3) := by decide +kernel
theorem dX10_setWorkers_67 : decode cX10_setWorkers 67 = .ok (.getfield 79, 3) := by decide +kernel
theorem dX10_setWorkers_70 : decode cX10_setWorkers 70 = .ok (.invokevirtual 1, 3) := by decide +kernel
theorem dX10_setWorkers_73 : decode cX10_setWorkers 73 = .ok (.iload_n 1, 1) := by decide +kernel
theorem dX10_setWorkers_74 : decode cX10_setWorkers 74 = .ok (.if_icmp .le 29, 3) := by decide +kernel
theorem dX10_setWorkers_77 : decode cX10_setWorkers 77 = .ok (.aload_n 0, 1) := by decide +kernel
theorem dX10_setWorkers_78 : decode cX10_setWorkers 78 = .ok (.getfield 37, 3) := by decide +kernel
theorem dX10_setWorkers_81 : decode cX10_setWorkers 81 = .ok (.getfield 79, 3) := by decide +kernel
theorem dX10_setWorkers_84 : decode cX10_setWorkers 84 = .ok (.aload_n 0, 1) := by decide +kernel
theorem dX10_setWorkers_85 : decode cX10_setWorkers 85 = .ok (.getfield 37, 3) := by decide +kernel
theorem dX10_setWorkers_88 : decode cX10_setWorkers 88 = .ok (.getfield 79, 3) := by decide +kernel
theorem dX10_setWorkers_91 : decode cX10_setWorkers 91 = .ok (.invokevirtual 1, 3) := by decide +kernel
theorem dX10_setWorkers_94 : decode cX10_setWorkers 94 = .ok (.iconst 1, 1) := by decide +kernel
theorem dX10_setWorkers_95 : decode cX10_setWorkers 95 = .ok (.isub, 1) := by decide +kernel
theorem dX10_setWorkers_96 : decode cX10_setWorkers 96 = .ok (.invokevirtual 16, 3) := by decide +kernel
theorem dX10_setWorkers_99 : decode cX10_setWorkers 99 = .ok (.pop, 1) := by decide +kernel
theorem dX10_setWorkers_100 : decode cX10_setWorkers 100 = .ok (.goto (-37), 3) := by decide +kernel
theorem dX10_setWorkers_103 : decode cX10_setWorkers 103 = .ok (.aload_n 0, 1) := by decide +kernel
theorem dX10_setWorkers_104 : decode cX10_setWorkers 104 = .ok (.getfield 37, 3) := by decide +kernel
theorem dX10_setWorkers_107 : decode cX10_setWorkers 107 = .ok (.getfield 79, 3) := by decide +kernel
theorem dX10_setWorkers_110 : decode cX10_setWorkers 110 = .ok (.invokevirtual 1, 3) := by decide +kernel
theorem dX10_setWorkers_113 : decode cX10_setWorkers 113 = .ok (.iload_n 1, 1) := by decide +kernel
theorem dX10_setWorkers_114 : decode cX10_setWorkers 114 = .ok (.if_icmp .ge 24, 3) := by decide +kernel
theorem dX10_setWorkers_117 : decode cX10_setWorkers 117 = .ok (.aload_n 0, 1) := by decide +kernel
theorem dX10_setWorkers_118 : decode cX10_setWorkers 118 = .ok (.getfield 37, 3) := by decide +kernel
theorem dX10_setWorkers_121 : decode cX10_setWorkers 121 = .ok (.getfield 79, 3) := by decide +kernel
theorem dX10_setWorkers_124 : decode cX10_setWorkers 124 = .ok (.new 82, 3) := by decide +kernel
theorem dX10_setWorkers_127 : decode cX10_setWorkers 127 = .ok (.dup, 1) := by decide +kernel
theorem dX10_setWorkers_128 : decode cX10_setWorkers 128 = .ok (.invokespecial 103, 3) := by decide +kernel
theorem dX10_setWorkers_131 : decode cX10_setWorkers 131 = .ok (.invokevirtual 52, 3) := by decide +kernel
theorem dX10_setWorkers_134 : decode cX10_setWorkers 134 = .ok (.pop, 1) := by decide +kernel
theorem dX10_setWorkers_135 : decode cX10_setWorkers 135 = .ok (.goto (-32), 3) := by decide +kernel
theorem dX10_setWorkers_138 : decode cX10_setWorkers 138 = .ok (.iload_n 2, 1) := by decide +kernel
theorem dX10_setWorkers_139 : decode cX10_setWorkers 139 = .ok (.ireturn, 1) := by decide +kernel
set_option maxRecDepth 20000 in
theorem ggX10_setWay_Jx4a65c_size_8abf5 : GoodIn wsX10_setWay wsJx4a65c_size_8abf5 := goodIn_r _ [11, 12, 62, 63, 64] (by decide +kernel) (by decide +kernel)
set_option maxRecDepth 20000 in
theorem gX10_setWay_Jx4a65c_size_8abf5 : GoodIn wsX10_setWay (wsV RX10 1 RJx4a65c yJx4a65c_size_8abf5 wsJx4a65c_size_8abf5) := goodIn_app (goodIn_of _ (by decide +kernel)) ggX10_setWay_Jx4a65c_size_8abf5
set_option maxRecDepth 20000 in
theorem ggX10_setWay_Jx4a65c_get_915e3 : GoodIn wsX10_setWay wsJx4a65c_get_915e3 := goodIn_r _ [16, 12, 17, 18, 19, 20, 21, 22, 23, 24, 25, 26, 27, 10, 28, 29, 62, 63, 64] (by decide +kernel) (by decide +kernel)
set_option maxRecDepth 20000 in
theorem gX10_setWay_Jx4a65c_get_915e3 : GoodIn wsX10_setWay (wsV RX10 7 RJx4a65c yJx4a65c_get_915e3 wsJx4a65c_get_915e3) := goodIn_app (goodIn_of _ (by decide +kernel)) ggX10_setWay_Jx4a65c_get_915e3
set_option maxRecDepth 20000 in
theorem ggX10_setWay_Jx4a65c_isEmpty_aae02 : GoodIn wsX10_setWay wsJx4a65c_isEmpty_aae02 := goodIn_r _ [33, 12, 62, 63, 64] (by decide +kernel) (by decide +kernel)
set_option maxRecDepth 20000 in
theorem gX10_setWay_Jx4a65c_isEmpty_aae02 : GoodIn wsX10_setWay (wsV RX10 87 RJx4a65c yJx4a65c_isEmpty_aae02 wsJx4a65c_isEmpty_aae02) := goodIn_app (goodIn_of _ (by decide +kernel)) ggX10_setWay_Jx4a65c_isEmpty_aae02
set_option maxRecDepth 20000 in
theorem ggX10_setWay_X10_isIn : GoodIn wsX10_setWay wsX10_isIn := goodIn_r _ [37] (by decide +kernel) (by decide +kernel)
set_option maxRecDepth 20000 in
theorem gX10_setWay_X10_isIn : GoodIn wsX10_setWay (va_wsS RX10 56 yX10_isIn wsX10_isIn) := goodIn_app (goodIn_of _ (by decide +kernel)) ggX10_setWay_X10_isIn
set_option maxRecDepth 20000 in
theorem ggX10_setWay_X10_start : GoodIn wsX10_setWay wsX10_start := goodIn_r _ [41, 42, 43, 44, 45, 36, 46, 47, 48, 49] (by decide +kernel) (by decide +kernel)
set_option maxRecDepth 20000 in
theorem gX10_setWay_X10_start : GoodIn wsX10_setWay (wsV RX10 49 RX10 yX10_start wsX10_start) := goodIn_app (goodIn_of _ (by decide +kernel)) ggX10_setWay_X10_start
set_option maxRecDepth 20000 in
theorem ggX10_setWay_X10_refuse : GoodIn wsX10_setWay wsX10_refuse := goodIn_r _ [46, 42, 47, 48, 49] (by decide +kernel) (by decide +kernel)
set_option maxRecDepth 20000 in
theorem gX10_setWay_X10_refuse : GoodIn wsX10_setWay (wsV RX10 45 RX10 yX10_refuse wsX10_refuse) := goodIn_app (goodIn_of _ (by decide +kernel)) ggX10_setWay_X10_refuse
theorem dX10_setWay_0 : decode cX10_setWay 0 = .ok (.iconst 0, 1) := by decide +kernel
theorem dX10_setWay_1 : decode cX10_setWay 1 = .ok (.istore_n 3, 1) := by decide +kernel
theorem dX10_setWay_2 : decode cX10_setWay 2 = .ok (.iconst 0, 1) := by decide +kernel
theorem dX10_setWay_3 : decode cX10_setWay 3 = .ok (.istore 4, 2) := by decide +kernel
theorem dX10_setWay_5 : decode cX10_setWay 5 = .ok (.iload 4, 2) := by decide +kernel
theorem dX10_setWay_7 : decode cX10_setWay 7 = .ok (.aload_n 0, 1) := by decide +kernel
theorem dX10_setWay_8 : decode cX10_setWay 8 = .ok (.getfield 37, 3) := by decide +kernel
theorem dX10_setWay_11 : decode cX10_setWay 11 = .ok (.getfield 79, 3) := by decide +kernel
theorem dX10_setWay_14 : decode cX10_setWay 14 = .ok (.invokevirtual 1, 3) := by decide +kernel
theorem dX10_setWay_17 : decode cX10_setWay 17 = .ok (.if_icmp .ge 41, 3) := by decide +kernel
theorem dX10_setWay_20 : decode cX10_setWay 20 = .ok (.iload_n 3, 1) := by decide +kernel
theorem dX10_setWay_21 : decode cX10_setWay 21 = .ok (.aload_n 0, 1) := by decide +kernel
theorem dX10_setWay_22 : decode cX10_setWay 22 = .ok (.getfield 37, 3) := by decide +kernel
theorem dX10_setWay_25 : decode cX10_setWay 25 = .ok (.getfield 79, 3) := by decide +kernel
theorem dX10_setWay_28 : decode cX10_setWay 28 = .ok (.iload 4, 2) := by decide +kernel
theorem dX10_setWay_30 : decode cX10_setWay 30 = .ok (.invokevirtual 7, 3) := by decide +kernel
theorem dX10_setWay_33 : decode cX10_setWay 33 = .ok (.checkcast 82, 3) := by decide +kernel
theorem dX10_setWay_36 : decode cX10_setWay 36 = .ok (.getfield 91, 3) := by decide +kernel
theorem dX10_setWay_39 : decode cX10_setWay 39 = .ok (.invokevirtual 87, 3) := by decide +kernel
theorem dX10_setWay_42 : decode cX10_setWay 42 = .ok (.ifCond .ne 7, 3) := by decide +kernel
theorem dX10_setWay_45 : decode cX10_setWay 45 = .ok (.iconst 1, 1) := by decide +kernel
theorem dX10_setWay_46 : decode cX10_setWay 46 = .ok (.goto 4, 3) := by decide +kernel
theorem dX10_setWay_49 : decode cX10_setWay 49 = .ok (.iconst 0, 1) := by decide +kernel
theorem dX10_setWay_50 : decode cX10_setWay 50 = .ok (.ior, 1) := by decide +kernel
theorem dX10_setWay_51 : decode cX10_setWay 51 = .ok (.istore_n 3, 1) := by decide +kernel
theorem dX10_setWay_52 : decode cX10_setWay 52 = .ok (.iinc 4 1, 3) := by decide +kernel
theorem dX10_setWay_55 : decode cX10_setWay 55 = .ok (.goto (-50), 3) := by decide +kernel
theorem dX10_setWay_58 : decode cX10_setWay 58 = .ok (.aload_n 0, 1) := by decide +kernel
theorem dX10_setWay_59 : decode cX10_setWay 59 = .ok (.iload_n 1, 1) := by decide +kernel
theorem dX10_setWay_60 : decode cX10_setWay 60 = .ok (.iconst 0, 1) := by decide +kernel
theorem dX10_setWay_61 : decode cX10_setWay 61 = .ok (.iconst 2, 1) := by decide +kernel
theorem dX10_setWay_62 : decode cX10_setWay 62 = .ok (.invokestatic 56, 3) := by decide +kernel
theorem dX10_setWay_65 : decode cX10_setWay 65 = .ok (.ifCond .eq 12, 3) := by decide +kernel
theorem dX10_setWay_68 : decode cX10_setWay 68 = .ok (.iload_n 2, 1) := by decide +kernel
theorem dX10_setWay_69 : decode cX10_setWay 69 = .ok (.iconst 0, 1) := by decide +kernel
theorem dX10_setWay_70 : decode cX10_setWay 70 = .ok (.iconst 2, 1) := by decide +kernel
theorem dX10_setWay_71 : decode cX10_setWay 71 = .ok (.invokestatic 56, 3) := by decide +kernel
theorem dX10_setWay_74 : decode cX10_setWay 74 = .ok (.ifCond .ne 7, 3) := by decide +kernel
theorem dX10_setWay_77 : decode cX10_setWay 77 = .ok (.iconst 1, 1) := by decide +kernel
theorem dX10_setWay_78 : decode cX10_setWay 78 = .ok (.goto 4, 3) := by decide +kernel
theorem dX10_setWay_81 : decode cX10_setWay 81 = .ok (.iconst 0, 1) := by decide +kernel
theorem dX10_setWay_82 : decode cX10_setWay 82 = .ok (.iconst 1, 1) := by decide +kernel
theorem dX10_setWay_83 : decode cX10_setWay 83 = .ok (.invokevirtual 49, 3) := by decide +kernel
theorem dX10_setWay_86 : decode cX10_setWay 86 = .ok (.ifCond .ne 31, 3) := by decide +kernel
theorem dX10_setWay_89 : decode cX10_setWay 89 = .ok (.aload_n 0, 1) := by decide +kernel
theorem dX10_setWay_90 : decode cX10_setWay 90 = .ok (.iload_n 3, 1) := by decide +kernel
theorem dX10_setWay_91 : decode cX10_setWay 91 = .ok (.ifCond .eq 18, 3) := by decide +kernel
theorem dX10_setWay_94 : decode cX10_setWay 94 = .ok (.iload_n 1, 1) := by decide +kernel
theorem dX10_setWay_95 : decode cX10_setWay 95 = .ok (.aload_n 0, 1) := by decide +kernel
theorem dX10_setWay_96 : decode cX10_setWay 96 = .ok (.getfield 37, 3) := by decide +kernel
theorem dX10_setWay_99 : decode cX10_setWay 99 = .ok (.getfield 104, 3) := by decide +kernel
theorem dX10_setWay_102 : decode cX10_setWay 102 = .ok (.if_icmp .eq 7, 3) := by decide +kernel
theorem dX10_setWay_105 : decode cX10_setWay 105 = .ok (.iconst 1, 1) := by decide +kernel
theorem dX10_setWay_106 : decode cX10_setWay 106 = .ok (.goto 4, 3) := by decide +kernel
theorem dX10_setWay_109 : decode cX10_setWay 109 = .ok (.iconst 0, 1) := by decide +kernel
theorem dX10_setWay_110 : decode cX10_setWay 110 = .ok (.iconst 2, 1) := by decide +kernel
theorem dX10_setWay_111 : decode cX10_setWay 111 = .ok (.invokevirtual 45, 3) := by decide +kernel
theorem dX10_setWay_114 : decode cX10_setWay 114 = .ok (.ifCond .eq 5, 3) := by decide +kernel
theorem dX10_setWay_117 : decode cX10_setWay 117 = .ok (.iconst 0, 1) := by decide +kernel
theorem dX10_setWay_118 : decode cX10_setWay 118 = .ok (.ireturn, 1) := by decide +kernel
theorem dX10_setWay_119 : decode cX10_setWay 119 = .ok (.aload_n 0, 1) := by decide +kernel
theorem dX10_setWay_120 : decode cX10_setWay 120 = .ok (.getfield 37, 3) := by decide +kernel
theorem dX10_setWay_123 : decode cX10_setWay 123 = .ok (.getfield 104, 3) := by decide +kernel
theorem dX10_setWay_126 : decode cX10_setWay 126 = .ok (.istore 4, 2) := by decide +kernel
theorem dX10_setWay_128 : decode cX10_setWay 128 = .ok (.aload_n 0, 1) := by decide +kernel
theorem dX10_setWay_129 : decode cX10_setWay 129 = .ok (.getfield 37, 3) := by decide +kernel
theorem dX10_setWay_132 : decode cX10_setWay 132 = .ok (.iload_n 1, 1) := by decide +kernel
theorem dX10_setWay_133 : decode cX10_setWay 133 = .ok (.putfield 104, 3) := by decide +kernel
theorem dX10_setWay_136 : decode cX10_setWay 136 = .ok (.aload_n 0, 1) := by decide +kernel
theorem dX10_setWay_137 : decode cX10_setWay 137 = .ok (.getfield 37, 3) := by decide +kernel
theorem dX10_setWay_140 : decode cX10_setWay 140 = .ok (.iload_n 2, 1) := by decide +kernel
theorem dX10_setWay_141 : decode cX10_setWay 141 = .ok (.putfield 107, 3) := by decide +kernel
theorem dX10_setWay_144 : decode cX10_setWay 144 = .ok (.iload 4, 2) := by decide +kernel
theorem dX10_setWay_146 : decode cX10_setWay 146 = .ok (.ireturn, 1) := by decide +kernel
set_option maxRecDepth 20000 in
theorem ggX10_submit_X10_isNoJob : GoodIn wsX10_submit wsX10_isNoJob := goodIn_r _ [8, 9, 10, 11, 12, 13, 14, 15, 16, 17, 7, 18, 134, 135, 136, 145, 146, 147] (by decide +kernel) (by decide +kernel)
set_option maxRecDepth 20000 in
theorem gX10_submit_X10_isNoJob : GoodIn wsX10_submit (wsV RX10 68 RX10 yX10_isNoJob wsX10_isNoJob) := goodIn_app (goodIn_of _ (by decide +kernel)) ggX10_submit_X10_isNoJob
set_option maxRecDepth 20000 in
theorem ggX10_submit_X10_start : GoodIn wsX10_submit wsX10_start := goodIn_r _ [22, 23, 24, 25, 26, 7, 27, 134, 135, 136] (by decide +kernel) (by decide +kernel)
set_option maxRecDepth 20000 in
theorem gX10_submit_X10_start : GoodIn wsX10_submit (wsV RX10 49 RX10 yX10_start wsX10_start) := goodIn_app (goodIn_of _ (by decide +kernel)) ggX10_submit_X10_start
set_option maxRecDepth 20000 in
theorem ggX10_submit_Jx4a65c_size_8abf5 : GoodIn wsX10_submit wsJx4a65c_size_8abf5 := goodIn_r _ [14, 15, 145, 146, 147] (by decide +kernel) (by decide +kernel)
set_option maxRecDepth 20000 in
theorem gX10_submit_Jx4a65c_size_8abf5 : GoodIn wsX10_submit (wsV RX10 1 RJx4a65c yJx4a65c_size_8abf5 wsJx4a65c_size_8abf5) := goodIn_app (goodIn_of _ (by decide +kernel)) ggX10_submit_Jx4a65c_size_8abf5
set_option maxRecDepth 20000 in
theorem ggX10_submit_X10_refuse : GoodIn wsX10_submit wsX10_refuse := goodIn_r _ [27, 23, 134, 135, 136] (by decide +kernel) (by decide +kernel)
set_option maxRecDepth 20000 in
theorem gX10_submit_X10_refuse : GoodIn wsX10_submit (wsV RX10 45 RX10 yX10_refuse wsX10_refuse) := goodIn_app (goodIn_of _ (by decide +kernel)) ggX10_submit_X10_refuse
theorem dX10_submit_0 : decode cX10_submit 0 = .ok (.aload_n 0, 1) := by decide +kernel
theorem dX10_submit_1 : decode cX10_submit 1 = .ok (.aload_n 0, 1) := by decide +kernel
theorem dX10_submit_2 : decode cX10_submit 2 = .ok (.iload_n 1, 1) := by decide +kernel
theorem dX10_submit_3 : decode cX10_submit 3 = .ok (.invokevirtual 68, 3) := by decide +kernel
theorem dX10_submit_6 : decode cX10_submit 6 = .ok (.iconst 1, 1) := by decide +kernel
theorem dX10_submit_7 : decode cX10_submit 7 = .ok (.invokevirtual 49, 3) := by decide +kernel
theorem dX10_submit_10 : decode cX10_submit 10 = .ok (.ifCond .ne 31, 3) := by decide +kernel
theorem dX10_submit_13 : decode cX10_submit 13 = .ok (.aload_n 0, 1) := by decide +kernel
theorem dX10_submit_14 : decode cX10_submit 14 = .ok (.aload_n 0, 1) := by decide +kernel
theorem dX10_submit_15 : decode cX10_submit 15 = .ok (.getfield 37, 3) := by decide +kernel
theorem dX10_submit_18 : decode cX10_submit 18 = .ok (.getfield 60, 3) := by decide +kernel
theorem dX10_submit_21 : decode cX10_submit 21 = .ok (.invokevirtual 1, 3) := by decide +kernel
theorem dX10_submit_24 : decode cX10_submit 24 = .ok (.bipush 24, 2) := by decide +kernel
theorem dX10_submit_26 : decode cX10_submit 26 = .ok (.if_icmp .ne 7, 3) := by decide +kernel
theorem dX10_submit_29 : decode cX10_submit 29 = .ok (.iconst 1, 1) := by decide +kernel
theorem dX10_submit_30 : decode cX10_submit 30 = .ok (.goto 4, 3) := by decide +kernel
theorem dX10_submit_33 : decode cX10_submit 33 = .ok (.iconst 0, 1) := by decide +kernel
theorem dX10_submit_34 : decode cX10_submit 34 = .ok (.iconst 2, 1) := by decide +kernel
theorem dX10_submit_35 : decode cX10_submit 35 = .ok (.invokevirtual 45, 3) := by decide +kernel
theorem dX10_submit_38 : decode cX10_submit 38 = .ok (.ifCond .eq 7, 3) := by decide +kernel
theorem dX10_submit_41 : decode cX10_submit 41 = .ok (.iconst 0, 1) := by decide +kernel
theorem dX10_submit_42 : decode cX10_submit 42 = .ok (.goto 19, 3) := by decide +kernel
theorem dX10_submit_45 : decode cX10_submit 45 = .ok (.aload_n 0, 1) := by decide +kernel
theorem dX10_submit_46 : decode cX10_submit 46 = .ok (.getfield 37, 3) := by decide +kernel
theorem dX10_submit_49 : decode cX10_submit 49 = .ok (.iload_n 1, 1) := by decide +kernel
theorem dX10_submit_50 : decode cX10_submit 50 = .ok (.iconst (-1), 1) := by decide +kernel
theorem dX10_submit_51 : decode cX10_submit 51 = .ok (.aload_n 0, 1) := by decide +kernel
theorem dX10_submit_52 : decode cX10_submit 52 = .ok (.getfield 37, 3) := by decide +kernel
theorem dX10_submit_55 : decode cX10_submit 55 = .ok (.getfield 110, 3) := by decide +kernel
theorem dX10_submit_58 : decode cX10_submit 58 = .ok (.invokevirtual 113, 3) := by decide +kernel
theorem dX10_submit_61 : decode cX10_submit 61 = .ok (.ireturn, 1) := by decide +kernel
set_option maxRecDepth 20000 in
theorem ggX10_isNoTask_Jx4a65c_size_8abf5 : GoodIn wsX10_isNoTask wsJx4a65c_size_8abf5 := goodIn_r _ [7, 8, 33, 34, 35] (by decide +kernel) (by decide +kernel)
set_option maxRecDepth 20000 in
theorem gX10_isNoTask_Jx4a65c_size_8abf5 : GoodIn wsX10_isNoTask (wsV RX10 1 RJx4a65c yJx4a65c_size_8abf5 wsJx4a65c_size_8abf5) := goodIn_app (goodIn_of _ (by decide +kernel)) ggX10_isNoTask_Jx4a65c_size_8abf5
set_option maxRecDepth 20000 in
theorem ggX10_isNoTask_X10_isIn : GoodIn wsX10_isNoTask wsX10_isIn := goodIn_r _ [12] (by decide +kernel) (by decide +kernel)
set_option maxRecDepth 20000 in
theorem gX10_isNoTask_X10_isIn : GoodIn wsX10_isNoTask (va_wsS RX10 56 yX10_isIn wsX10_isIn) := goodIn_app (goodIn_of _ (by decide +kernel)) ggX10_isNoTask_X10_isIn
set_option maxRecDepth 20000 in
theorem ggX10_isNoTask_X10_start : GoodIn wsX10_isNoTask wsX10_start := goodIn_r _ [16, 17, 18, 19, 20, 11, 21, 22, 23, 24] (by decide +kernel) (by decide +kernel)
set_option maxRecDepth 20000 in
theorem gX10_isNoTask_X10_start : GoodIn wsX10_isNoTask (wsV RX10 49 RX10 yX10_start wsX10_start) := goodIn_app (goodIn_of _ (by decide +kernel)) ggX10_isNoTask_X10_start
theorem dX10_isNoTask_0 : decode cX10_isNoTask 0 = .ok (.aload_n 0, 1) := by decide +kernel
theorem dX10_isNoTask_1 : decode cX10_isNoTask 1 = .ok (.iload_n 1, 1) := by decide +kernel
theorem dX10_isNoTask_2 : decode cX10_isNoTask 2 = .ok (.iconst 0, 1) := by decide +kernel
theorem dX10_isNoTask_3 : decode cX10_isNoTask 3 = .ok (.aload_n 0, 1) := by decide +kernel
theorem dX10_isNoTask_4 : decode cX10_isNoTask 4 = .ok (.getfield 37, 3) := by decide +kernel
theorem dX10_isNoTask_7 : decode cX10_isNoTask 7 = .ok (.getfield 60, 3) := by decide +kernel
theorem dX10_isNoTask_10 : decode cX10_isNoTask 10 = .ok (.invokevirtual 1, 3) := by decide +kernel
theorem dX10_isNoTask_13 : decode cX10_isNoTask 13 = .ok (.iconst 1, 1) := by decide +kernel
theorem dX10_isNoTask_14 : decode cX10_isNoTask 14 = .ok (.isub, 1) := by decide +kernel
theorem dX10_isNoTask_15 : decode cX10_isNoTask 15 = .ok (.invokestatic 56, 3) := by decide +kernel
theorem dX10_isNoTask_18 : decode cX10_isNoTask 18 = .ok (.ifCond .ne 7, 3) := by decide +kernel
theorem dX10_isNoTask_21 : decode cX10_isNoTask 21 = .ok (.iconst 1, 1) := by decide +kernel
theorem dX10_isNoTask_22 : decode cX10_isNoTask 22 = .ok (.goto 4, 3) := by decide +kernel
theorem dX10_isNoTask_25 : decode cX10_isNoTask 25 = .ok (.iconst 0, 1) := by decide +kernel
theorem dX10_isNoTask_26 : decode cX10_isNoTask 26 = .ok (.iconst 1, 1) := by decide +kernel
theorem dX10_isNoTask_27 : decode cX10_isNoTask 27 = .ok (.invokevirtual 49, 3) := by decide +kernel
theorem dX10_isNoTask_30 : decode cX10_isNoTask 30 = .ok (.ireturn, 1) := by decide +kernel
set_option maxRecDepth 20000 in
theorem ggX10_task_Jx4a65c_get_915e3 : GoodIn wsX10_task wsJx4a65c_get_915e3 := goodIn_r _ [8, 9, 10, 11, 12, 13, 14, 15, 16, 17, 18, 19, 20, 7, 21, 22, 34, 35, 36] (by decide +kernel) (by decide +kernel)
set_option maxRecDepth 20000 in
theorem gX10_task_Jx4a65c_get_915e3 : GoodIn wsX10_task (wsV RX10 7 RJx4a65c yJx4a65c_get_915e3 wsJx4a65c_get_915e3) := goodIn_app (goodIn_of _ (by decide +kernel)) ggX10_task_Jx4a65c_get_915e3
theorem dX10_task_0 : decode cX10_task 0 = .ok (.aload_n 0, 1) := by decide +kernel
theorem dX10_task_1 : decode cX10_task 1 = .ok (.getfield 37, 3) := by decide +kernel
theorem dX10_task_4 : decode cX10_task 4 = .ok (.getfield 60, 3) := by decide +kernel
theorem dX10_task_7 : decode cX10_task 7 = .ok (.iload_n 1, 1) := by decide +kernel
theorem dX10_task_8 : decode cX10_task 8 = .ok (.invokevirtual 7, 3) := by decide +kernel
theorem dX10_task_11 : decode cX10_task 11 = .ok (.checkcast 63, 3) := by decide +kernel
theorem dX10_task_14 : decode cX10_task 14 = .ok (.areturn, 1) := by decide +kernel
set_option maxRecDepth 20000 in
theorem ggX10_cancel_X10_isNoTask : GoodIn wsX10_cancel wsX10_isNoTask := goodIn_r _ [6, 1, 7, 8, 9, 10, 11, 12, 13, 14, 15, 5, 16, 17, 18, 19, 20, 21, 22, 23, 24, 25, 184, 185, 186, 187, 188, 189, 190, 191, 192, 193, 194, 195, 196, 197] (by decide +kernel) (by decide +kernel)
set_option maxRecDepth 20000 in
theorem gX10_cancel_X10_isNoTask : GoodIn wsX10_cancel (wsV RX10 117 RX10 yX10_isNoTask wsX10_isNoTask) := goodIn_app (goodIn_of _ (by decide +kernel)) ggX10_cancel_X10_isNoTask
set_option maxRecDepth 20000 in
theorem ggX10_cancel_X10_task : GoodIn wsX10_cancel wsX10_task := goodIn_r _ [29, 1, 7, 30, 31, 32, 33, 11, 34, 13, 35, 36, 37, 38, 39, 40, 41, 42, 43, 44, 45, 46, 47, 184, 185, 186, 187, 188, 189, 190, 191, 192, 193, 194, 195, 196, 197] (by decide +kernel) (by decide +kernel)
set_option maxRecDepth 20000 in
theorem gX10_cancel_X10_task : GoodIn wsX10_cancel (wsV RX10 120 RX10 yX10_task wsX10_task) := goodIn_app (goodIn_of _ (by decide +kernel)) ggX10_cancel_X10_task
set_option maxRecDepth 20000 in
theorem ggX10_cancel_X10_refuse : GoodIn wsX10_cancel wsX10_refuse := goodIn_r _ [25, 21, 184, 185, 186] (by decide +kernel) (by decide +kernel)
set_option maxRecDepth 20000 in
theorem gX10_cancel_X10_refuse : GoodIn wsX10_cancel (wsV RX10 45 RX10 yX10_refuse wsX10_refuse) := goodIn_app (goodIn_of _ (by decide +kernel)) ggX10_cancel_X10_refuse
theorem dX10_cancel_0 : decode cX10_cancel 0 = .ok (.aload_n 0, 1) := by decide +kernel
theorem dX10_cancel_1 : decode cX10_cancel 1 = .ok (.iload_n 1, 1) := by decide +kernel
theorem dX10_cancel_2 : decode cX10_cancel 2 = .ok (.invokevirtual 117, 3) := by decide +kernel
theorem dX10_cancel_5 : decode cX10_cancel 5 = .ok (.ifCond .ne 19, 3) := by decide +kernel
theorem dX10_cancel_8 : decode cX10_cancel 8 = .ok (.aload_n 0, 1) := by decide +kernel
theorem dX10_cancel_9 : decode cX10_cancel 9 = .ok (.aload_n 0, 1) := by decide +kernel
theorem dX10_cancel_10 : decode cX10_cancel 10 = .ok (.iload_n 1, 1) := by decide +kernel
theorem dX10_cancel_11 : decode cX10_cancel 11 = .ok (.invokevirtual 120, 3) := by decide +kernel
theorem dX10_cancel_14 : decode cX10_cancel 14 = .ok (.invokevirtual 124, 3) := by decide +kernel
theorem dX10_cancel_17 : decode cX10_cancel 17 = .ok (.iconst 2, 1) := by decide +kernel
theorem dX10_cancel_18 : decode cX10_cancel 18 = .ok (.invokevirtual 45, 3) := by decide +kernel
theorem dX10_cancel_21 : decode cX10_cancel 21 = .ok (.ifCond .eq 7, 3) := by decide +kernel
theorem dX10_cancel_24 : decode cX10_cancel 24 = .ok (.iconst 0, 1) := by decide +kernel
theorem dX10_cancel_25 : decode cX10_cancel 25 = .ok (.goto 11, 3) := by decide +kernel
theorem dX10_cancel_28 : decode cX10_cancel 28 = .ok (.aload_n 0, 1) := by decide +kernel
theorem dX10_cancel_29 : decode cX10_cancel 29 = .ok (.getfield 37, 3) := by decide +kernel
theorem dX10_cancel_32 : decode cX10_cancel 32 = .ok (.iload_n 1, 1) := by decide +kernel
theorem dX10_cancel_33 : decode cX10_cancel 33 = .ok (.invokevirtual 127, 3) := by decide +kernel
theorem dX10_cancel_36 : decode cX10_cancel 36 = .ok (.ireturn, 1) := by decide +kernel
set_option maxRecDepth 20000 in
theorem ggX10_isNoPromise_X10_isIn : GoodIn wsX10_isNoPromise wsX10_isIn := goodIn_r _ [4] (by decide +kernel) (by decide +kernel)
set_option maxRecDepth 20000 in
theorem gX10_isNoPromise_X10_isIn : GoodIn wsX10_isNoPromise (va_wsS RX10 56 yX10_isIn wsX10_isIn) := goodIn_app (goodIn_of _ (by decide +kernel)) ggX10_isNoPromise_X10_isIn
set_option maxRecDepth 20000 in
theorem ggX10_isNoPromise_X10_start : GoodIn wsX10_isNoPromise wsX10_start := goodIn_r _ [8, 9, 10, 11, 12, 3, 13, 14, 15, 16] (by decide +kernel) (by decide +kernel)
set_option maxRecDepth 20000 in
theorem gX10_isNoPromise_X10_start : GoodIn wsX10_isNoPromise (wsV RX10 49 RX10 yX10_start wsX10_start) := goodIn_app (goodIn_of _ (by decide +kernel)) ggX10_isNoPromise_X10_start
theorem dX10_isNoPromise_0 : decode cX10_isNoPromise 0 = .ok (.aload_n 0, 1) := by decide +kernel
theorem dX10_isNoPromise_1 : decode cX10_isNoPromise 1 = .ok (.iload_n 1, 1) := by decide +kernel
theorem dX10_isNoPromise_2 : decode cX10_isNoPromise 2 = .ok (.iconst 0, 1) := by decide +kernel
theorem dX10_isNoPromise_3 : decode cX10_isNoPromise 3 = .ok (.iconst 5, 1) := by decide +kernel
theorem dX10_isNoPromise_4 : decode cX10_isNoPromise 4 = .ok (.invokestatic 56, 3) := by decide +kernel
theorem dX10_isNoPromise_7 : decode cX10_isNoPromise 7 = .ok (.ifCond .ne 7, 3) := by decide +kernel
theorem dX10_isNoPromise_10 : decode cX10_isNoPromise 10 = .ok (.iconst 1, 1) := by decide +kernel
theorem dX10_isNoPromise_11 : decode cX10_isNoPromise 11 = .ok (.goto 4, 3) := by decide +kernel
theorem dX10_isNoPromise_14 : decode cX10_isNoPromise 14 = .ok (.iconst 0, 1) := by decide +kernel
theorem dX10_isNoPromise_15 : decode cX10_isNoPromise 15 = .ok (.iconst 1, 1) := by decide +kernel
theorem dX10_isNoPromise_16 : decode cX10_isNoPromise 16 = .ok (.invokevirtual 49, 3) := by decide +kernel
theorem dX10_isNoPromise_19 : decode cX10_isNoPromise 19 = .ok (.ireturn, 1) := by decide +kernel
set_option maxRecDepth 20000 in
theorem ggX10_keep_X10_isNoPromise : GoodIn wsX10_keep wsX10_isNoPromise := goodIn_r _ [6, 7, 8, 5, 9, 10, 11, 12, 13, 14, 15, 16, 17, 18, 151, 152, 153] (by decide +kernel) (by decide +kernel)
set_option maxRecDepth 20000 in
theorem gX10_keep_X10_isNoPromise : GoodIn wsX10_keep (wsV RX10 131 RX10 yX10_isNoPromise wsX10_isNoPromise) := goodIn_app (goodIn_of _ (by decide +kernel)) ggX10_keep_X10_isNoPromise
set_option maxRecDepth 20000 in
theorem ggX10_keep_X10_isIn : GoodIn wsX10_keep wsX10_isIn := goodIn_r _ [9] (by decide +kernel) (by decide +kernel)
set_option maxRecDepth 20000 in
theorem gX10_keep_X10_isIn : GoodIn wsX10_keep (va_wsS RX10 56 yX10_isIn wsX10_isIn) := goodIn_app (goodIn_of _ (by decide +kernel)) ggX10_keep_X10_isIn
set_option maxRecDepth 20000 in
theorem ggX10_keep_X10_refuse : GoodIn wsX10_keep wsX10_refuse := goodIn_r _ [18, 14, 151, 152, 153] (by decide +kernel) (by decide +kernel)
set_option maxRecDepth 20000 in
theorem gX10_keep_X10_refuse : GoodIn wsX10_keep (wsV RX10 45 RX10 yX10_refuse wsX10_refuse) := goodIn_app (goodIn_of _ (by decide +kernel)) ggX10_keep_X10_refuse
set_option maxRecDepth 20000 in
theorem ggX10_keep_X7_keep : GoodIn wsX10_keep wsX7_keep := goodIn_r _ [23, 24, 25, 26, 27, 28, 29, 30, 31, 32, 33, 34, 35, 36, 37, 38, 39, 40, 41, 42, 43, 44, 45, 46, 47, 48, 49, 50, 51, 52, 53, 54, 55, 56, 22, 57, 58, 59, 60, 61, 62, 63, 64, 65, 66, 67, 68, 69, 70, 5, 71, 72, 73, 74, 75, 76, 77, 78, 79, 80, 81, 82, 83, 84, 85, 86, 87, 88, 89, 90, 91, 92, 93, 94, 95, 96, 97, 98, 99, 100, 101, 102, 103, 104, 105, 106, 107, 108, 109, 110, 111, 112, 113, 114, 115, 116, 117, 118, 119, 120, 121, 122, 123, 124, 125, 126, 127, 128, 129, 130, 131, 132, 133, 134, 135, 136, 137, 138, 139, 140, 141, 142, 143, 144, 145, 146, 147, 148, 149, 150, 154, 155, 156, 157, 158, 159, 160, 161, 162, 163, 164, 165, 166, 167, 168, 169, 170, 171, 172, 173, 174, 175, 176, 177, 178, 179] (by decide +kernel) (by decide +kernel)
set_option maxRecDepth 20000 in
theorem gX10_keep_X7_keep : GoodIn wsX10_keep (wsV RX10 134 RX7 yX7_keep wsX7_keep) := goodIn_app (goodIn_of _ (by decide +kernel)) ggX10_keep_X7_keep
theorem dX10_keep_0 : decode cX10_keep 0 = .ok (.aload_n 0, 1) := by decide +kernel
theorem dX10_keep_1 : decode cX10_keep 1 = .ok (.iload_n 1, 1) := by decide +kernel
theorem dX10_keep_2 : decode cX10_keep 2 = .ok (.invokevirtual 131, 3) := by decide +kernel
theorem dX10_keep_5 : decode cX10_keep 5 = .ok (.ifCond .ne 45, 3) := by decide +kernel
theorem dX10_keep_8 : decode cX10_keep 8 = .ok (.aload_n 0, 1) := by decide +kernel
theorem dX10_keep_9 : decode cX10_keep 9 = .ok (.iload_n 2, 1) := by decide +kernel
theorem dX10_keep_10 : decode cX10_keep 10 = .ok (.sipush (-999), 3) := by decide +kernel
theorem dX10_keep_13 : decode cX10_keep 13 = .ok (.sipush 999, 3) := by decide +kernel
theorem dX10_keep_16 : decode cX10_keep 16 = .ok (.invokestatic 56, 3) := by decide +kernel
theorem dX10_keep_19 : decode cX10_keep 19 = .ok (.ifCond .ne 7, 3) := by decide +kernel
theorem dX10_keep_22 : decode cX10_keep 22 = .ok (.iconst 1, 1) := by decide +kernel
theorem dX10_keep_23 : decode cX10_keep 23 = .ok (.goto 4, 3) := by decide +kernel
theorem dX10_keep_26 : decode cX10_keep 26 = .ok (.iconst 0, 1) := by decide +kernel
theorem dX10_keep_27 : decode cX10_keep 27 = .ok (.iconst 2, 1) := by decide +kernel
theorem dX10_keep_28 : decode cX10_keep 28 = .ok (.invokevirtual 45, 3) := by decide +kernel
theorem dX10_keep_31 : decode cX10_keep 31 = .ok (.ifCond .ne 19, 3) := by decide +kernel
theorem dX10_keep_34 : decode cX10_keep 34 = .ok (.aload_n 0, 1) := by decide +kernel
theorem dX10_keep_35 : decode cX10_keep 35 = .ok (.getfield 37, 3) := by decide +kernel
theorem dX10_keep_38 : decode cX10_keep 38 = .ok (.iload_n 1, 1) := by decide +kernel
theorem dX10_keep_39 : decode cX10_keep 39 = .ok (.iload_n 2, 1) := by decide +kernel
theorem dX10_keep_40 : decode cX10_keep 40 = .ok (.invokevirtual 134, 3) := by decide +kernel
theorem dX10_keep_43 : decode cX10_keep 43 = .ok (.ifCond .eq 7, 3) := by decide +kernel
theorem dX10_keep_46 : decode cX10_keep 46 = .ok (.iconst 1, 1) := by decide +kernel
theorem dX10_keep_47 : decode cX10_keep 47 = .ok (.goto 4, 3) := by decide +kernel
theorem dX10_keep_50 : decode cX10_keep 50 = .ok (.iconst 0, 1) := by decide +kernel
theorem dX10_keep_51 : decode cX10_keep 51 = .ok (.ireturn, 1) := by decide +kernel
set_option maxRecDepth 20000 in
theorem ggX10_tick_X10_isIn : GoodIn wsX10_tick wsX10_isIn := goodIn_r _ [5] (by decide +kernel) (by decide +kernel)
set_option maxRecDepth 20000 in
theorem gX10_tick_X10_isIn : GoodIn wsX10_tick (va_wsS RX10 56 yX10_isIn wsX10_isIn) := goodIn_app (goodIn_of _ (by decide +kernel)) ggX10_tick_X10_isIn
set_option maxRecDepth 20000 in
theorem ggX10_tick_X10_start : GoodIn wsX10_tick wsX10_start := goodIn_r _ [9, 10, 11, 12, 13, 4, 14, 296, 297, 298] (by decide +kernel) (by decide +kernel)
set_option maxRecDepth 20000 in
theorem gX10_tick_X10_start : GoodIn wsX10_tick (wsV RX10 49 RX10 yX10_start wsX10_start) := goodIn_app (goodIn_of _ (by decide +kernel)) ggX10_tick_X10_start
set_option maxRecDepth 20000 in
theorem ggX10_tick_X7_tick : GoodIn wsX10_tick wsX7_tick := goodIn_r _ [19, 20, 21, 22, 23, 24, 25, 26, 27, 28, 29, 30, 31, 32, 18, 33, 34, 35, 36, 37, 38, 39, 40, 41, 42, 43, 44, 45, 46, 47, 48, 49, 50, 51, 52, 53, 54, 55, 56, 57, 58, 59, 60, 61, 62, 63, 64, 65, 66, 67, 68, 69, 70, 71, 72, 73, 74, 75, 76, 77, 78, 79, 80, 81, 82, 83, 84, 85, 86, 87, 88, 89, 90, 91, 92, 93, 94, 95, 96, 97, 98, 99, 100, 101, 102, 103, 104, 105, 106, 107, 108, 109, 110, 111, 112, 113, 114, 115, 116, 117, 118, 119, 120, 121, 122, 123, 124, 125, 126, 127, 128, 129, 130, 131, 132, 133, 134, 135, 136, 137, 138, 139, 140, 141, 142, 143, 144, 145, 146, 147, 148, 149, 150, 151, 152, 153, 154, 155, 156, 157, 158, 159, 160, 161, 162, 163, 164, 165, 166, 167, 168, 169, 170, 171, 172, 173, 174, 175, 176, 177, 178, 179, 180, 181, 182, 183, 184, 185, 186, 187, 188, 189, 190, 191, 192, 193, 194, 195, 196, 197, 198, 199, 200, 201, 202, 203, 204, 205, 206, 207, 208, 4, 209, 210, 211, 212, 213, 214, 215, 216, 217, 218, 219, 220, 221, 222, 223, 224, 225, 226, 227, 228, 229, 230, 231, 232, 233, 234, 235, 236, 237, 238, 239, 240, 241, 242, 243, 244, 245, 246, 247, 248, 249, 250, 251, 252, 253, 254, 255, 256, 257, 258, 259, 260, 261, 262, 263, 264, 265, 266, 267, 268, 269, 270, 271, 272, 273, 274, 275, 276, 277, 278, 279, 280, 281, 282, 283, 284, 285, 286, 287, 288, 289, 290, 291, 299, 300, 301, 302, 303, 304, 305, 306, 307, 308, 309, 310, 311, 312, 313, 314, 315, 316, 317, 318, 319, 320, 321, 322, 323, 324] (by decide +kernel) (by decide +kernel)
set_option maxRecDepth 20000 in
theorem gX10_tick_X7_tick : GoodIn wsX10_tick (wsV RX10 137 RX7 yX7_tick wsX7_tick) := goodIn_app (goodIn_of _ (by decide +kernel)) ggX10_tick_X7_tick
set_option maxRecDepth 20000 in
theorem ggX10_tick_X7_open : GoodIn wsX10_tick wsX7_open := goodIn_r _ [295, 34, 35, 24, 25, 26, 27, 28, 29, 41, 42, 43, 44, 45, 46, 47, 48, 49, 50, 51, 52, 53, 54, 55, 56, 57, 263, 264, 265, 85, 266, 87, 299, 300, 301, 302, 303, 304, 305, 306, 311, 312, 313, 314, 315, 316, 317, 318, 319, 320, 321, 322, 323] (by decide +kernel) (by decide +kernel)
set_option maxRecDepth 20000 in
theorem gX10_tick_X7_open : GoodIn wsX10_tick (wsV RX10 140 RX7 yX7_open wsX7_open) := goodIn_app (goodIn_of _ (by decide +kernel)) ggX10_tick_X7_open
theorem dX10_tick_0 : decode cX10_tick 0 = .ok (.aload_n 0, 1) := by decide +kernel
theorem dX10_tick_1 : decode cX10_tick 1 = .ok (.iload_n 1, 1) := by decide +kernel
theorem dX10_tick_2 : decode cX10_tick 2 = .ok (.iconst 1, 1) := by decide +kernel
theorem dX10_tick_3 : decode cX10_tick 3 = .ok (.bipush 40, 2) := by decide +kernel
theorem dX10_tick_5 : decode cX10_tick 5 = .ok (.invokestatic 56, 3) := by decide +kernel
theorem dX10_tick_8 : decode cX10_tick 8 = .ok (.ifCond .ne 7, 3) := by decide +kernel
theorem dX10_tick_11 : decode cX10_tick 11 = .ok (.iconst 1, 1) := by decide +kernel
theorem dX10_tick_12 : decode cX10_tick 12 = .ok (.goto 4, 3) := by decide +kernel
theorem dX10_tick_15 : decode cX10_tick 15 = .ok (.iconst 0, 1) := by decide +kernel
theorem dX10_tick_16 : decode cX10_tick 16 = .ok (.iconst 1, 1) := by decide +kernel
theorem dX10_tick_17 : decode cX10_tick 17 = .ok (.invokevirtual 49, 3) := by decide +kernel
theorem dX10_tick_20 : decode cX10_tick 20 = .ok (.ifCond .eq 5, 3) := by decide +kernel
theorem dX10_tick_23 : decode cX10_tick 23 = .ok (.iconst 0, 1) := by decide +kernel
theorem dX10_tick_24 : decode cX10_tick 24 = .ok (.ireturn, 1) := by decide +kernel
theorem dX10_tick_25 : decode cX10_tick 25 = .ok (.iconst 0, 1) := by decide +kernel
theorem dX10_tick_26 : decode cX10_tick 26 = .ok (.istore_n 2, 1) := by decide +kernel
theorem dX10_tick_27 : decode cX10_tick 27 = .ok (.iload_n 2, 1) := by decide +kernel
theorem dX10_tick_28 : decode cX10_tick 28 = .ok (.iload_n 1, 1) := by decide +kernel
theorem dX10_tick_29 : decode cX10_tick 29 = .ok (.if_icmp .ge 16, 3) := by decide +kernel
theorem dX10_tick_32 : decode cX10_tick 32 = .ok (.aload_n 0, 1) := by decide +kernel
theorem dX10_tick_33 : decode cX10_tick 33 = .ok (.getfield 37, 3) := by decide +kernel
theorem dX10_tick_36 : decode cX10_tick 36 = .ok (.invokevirtual 137, 3) := by decide +kernel
theorem dX10_tick_39 : decode cX10_tick 39 = .ok (.iinc 2 1, 3) := by decide +kernel
theorem dX10_tick_42 : decode cX10_tick 42 = .ok (.goto (-15), 3) := by decide +kernel
theorem dX10_tick_45 : decode cX10_tick 45 = .ok (.aload_n 0, 1) := by decide +kernel
theorem dX10_tick_46 : decode cX10_tick 46 = .ok (.getfield 37, 3) := by decide +kernel
theorem dX10_tick_49 : decode cX10_tick 49 = .ok (.invokevirtual 140, 3) := by decide +kernel
theorem dX10_tick_52 : decode cX10_tick 52 = .ok (.ireturn, 1) := by decide +kernel
set_option maxRecDepth 20000 in
theorem ggX10_clock_X10_plain : GoodIn wsX10_clock wsX10_plain := goodIn_r _ [7, 8, 9, 10, 11] (by decide +kernel) (by decide +kernel)
set_option maxRecDepth 20000 in
theorem gX10_clock_X10_plain : GoodIn wsX10_clock (wsV RX10 146 RX10 yX10_plain wsX10_plain) := goodIn_app (goodIn_of _ (by decide +kernel)) ggX10_clock_X10_plain
theorem dX10_clock_0 : decode cX10_clock 0 = .ok (.aload_n 0, 1) := by decide +kernel
theorem dX10_clock_1 : decode cX10_clock 1 = .ok (.aload_n 0, 1) := by decide +kernel
theorem dX10_clock_2 : decode cX10_clock 2 = .ok (.getfield 37, 3) := by decide +kernel
theorem dX10_clock_5 : decode cX10_clock 5 = .ok (.getfield 143, 3) := by decide +kernel
theorem dX10_clock_8 : decode cX10_clock 8 = .ok (.invokevirtual 146, 3) := by decide +kernel
theorem dX10_clock_11 : decode cX10_clock 11 = .ok (.ireturn, 1) := by decide +kernel
set_option maxRecDepth 20000 in
theorem ggX10_tasks_Jx4a65c_size_8abf5 : GoodIn wsX10_tasks wsJx4a65c_size_8abf5 := goodIn_r _ [7, 8, 26, 27, 28] (by decide +kernel) (by decide +kernel)
set_option maxRecDepth 20000 in
theorem gX10_tasks_Jx4a65c_size_8abf5 : GoodIn wsX10_tasks (wsV RX10 1 RJx4a65c yJx4a65c_size_8abf5 wsJx4a65c_size_8abf5) := goodIn_app (goodIn_of _ (by decide +kernel)) ggX10_tasks_Jx4a65c_size_8abf5
set_option maxRecDepth 20000 in
theorem ggX10_tasks_X10_plain : GoodIn wsX10_tasks wsX10_plain := goodIn_r _ [13, 14, 15, 16, 17] (by decide +kernel) (by decide +kernel)
set_option maxRecDepth 20000 in
theorem gX10_tasks_X10_plain : GoodIn wsX10_tasks (wsV RX10 146 RX10 yX10_plain wsX10_plain) := goodIn_app (goodIn_of _ (by decide +kernel)) ggX10_tasks_X10_plain
theorem dX10_tasks_0 : decode cX10_tasks 0 = .ok (.aload_n 0, 1) := by decide +kernel
theorem dX10_tasks_1 : decode cX10_tasks 1 = .ok (.aload_n 0, 1) := by decide +kernel
theorem dX10_tasks_2 : decode cX10_tasks 2 = .ok (.getfield 37, 3) := by decide +kernel
theorem dX10_tasks_5 : decode cX10_tasks 5 = .ok (.getfield 60, 3) := by decide +kernel
theorem dX10_tasks_8 : decode cX10_tasks 8 = .ok (.invokevirtual 1, 3) := by decide +kernel
theorem dX10_tasks_11 : decode cX10_tasks 11 = .ok (.invokevirtual 146, 3) := by decide +kernel
theorem dX10_tasks_14 : decode cX10_tasks 14 = .ok (.ireturn, 1) := by decide +kernel
set_option maxRecDepth 20000 in
theorem ggX10_stateOf_X10_isNoTask : GoodIn wsX10_stateOf wsX10_isNoTask := goodIn_r _ [6, 7, 8, 9, 10, 11, 12, 13, 14, 15, 16, 5, 17, 18, 19, 20, 21, 22, 23, 24, 25, 26, 59, 60, 61, 62, 63, 64, 65, 66, 67, 68, 69, 70, 71, 72] (by decide +kernel) (by decide +kernel)
set_option maxRecDepth 20000 in
theorem gX10_stateOf_X10_isNoTask : GoodIn wsX10_stateOf (wsV RX10 117 RX10 yX10_isNoTask wsX10_isNoTask) := goodIn_app (goodIn_of _ (by decide +kernel)) ggX10_stateOf_X10_isNoTask
set_option maxRecDepth 20000 in
theorem ggX10_stateOf_X10_task : GoodIn wsX10_stateOf wsX10_task := goodIn_r _ [30, 7, 8, 31, 32, 33, 34, 12, 35, 14, 36, 37, 38, 39, 40, 41, 42, 43, 44, 45, 46, 47, 48, 59, 60, 61, 62, 63, 64, 65, 66, 67, 68, 69, 70, 71, 72] (by decide +kernel) (by decide +kernel)
set_option maxRecDepth 20000 in
theorem gX10_stateOf_X10_task : GoodIn wsX10_stateOf (wsV RX10 120 RX10 yX10_task wsX10_task) := goodIn_app (goodIn_of _ (by decide +kernel)) ggX10_stateOf_X10_task
theorem dX10_stateOf_0 : decode cX10_stateOf 0 = .ok (.aload_n 0, 1) := by decide +kernel
theorem dX10_stateOf_1 : decode cX10_stateOf 1 = .ok (.iload_n 1, 1) := by decide +kernel
theorem dX10_stateOf_2 : decode cX10_stateOf 2 = .ok (.invokevirtual 117, 3) := by decide +kernel
theorem dX10_stateOf_5 : decode cX10_stateOf 5 = .ok (.ifCond .eq 7, 3) := by decide +kernel
theorem dX10_stateOf_8 : decode cX10_stateOf 8 = .ok (.iconst 0, 1) := by decide +kernel
theorem dX10_stateOf_9 : decode cX10_stateOf 9 = .ok (.goto 11, 3) := by decide +kernel
theorem dX10_stateOf_12 : decode cX10_stateOf 12 = .ok (.aload_n 0, 1) := by decide +kernel
theorem dX10_stateOf_13 : decode cX10_stateOf 13 = .ok (.iload_n 1, 1) := by decide +kernel
theorem dX10_stateOf_14 : decode cX10_stateOf 14 = .ok (.invokevirtual 120, 3) := by decide +kernel
theorem dX10_stateOf_17 : decode cX10_stateOf 17 = .ok (.getfield 149, 3) := by decide +kernel
theorem dX10_stateOf_20 : decode cX10_stateOf 20 = .ok (.ireturn, 1) := by decide +kernel
set_option maxRecDepth 20000 in
theorem ggX10_valueOf_X10_isNoTask : GoodIn wsX10_valueOf wsX10_isNoTask := goodIn_r _ [6, 7, 8, 9, 10, 11, 12, 13, 14, 15, 16, 5, 17, 18, 19, 20, 21, 22, 23, 24, 25, 26, 59, 60, 61, 62, 63, 64, 65, 66, 67, 68, 69, 70, 71, 72] (by decide +kernel) (by decide +kernel)
set_option maxRecDepth 20000 in
theorem gX10_valueOf_X10_isNoTask : GoodIn wsX10_valueOf (wsV RX10 117 RX10 yX10_isNoTask wsX10_isNoTask) := goodIn_app (goodIn_of _ (by decide +kernel)) ggX10_valueOf_X10_isNoTask
set_option maxRecDepth 20000 in
theorem ggX10_valueOf_X10_task : GoodIn wsX10_valueOf wsX10_task := goodIn_r _ [30, 7, 8, 31, 32, 33, 34, 12, 35, 14, 36, 37, 38, 39, 40, 41, 42, 43, 44, 45, 46, 47, 48, 59, 60, 61, 62, 63, 64, 65, 66, 67, 68, 69, 70, 71, 72] (by decide +kernel) (by decide +kernel)
set_option maxRecDepth 20000 in
theorem gX10_valueOf_X10_task : GoodIn wsX10_valueOf (wsV RX10 120 RX10 yX10_task wsX10_task) := goodIn_app (goodIn_of _ (by decide +kernel)) ggX10_valueOf_X10_task
theorem dX10_valueOf_0 : decode cX10_valueOf 0 = .ok (.aload_n 0, 1) := by decide +kernel
theorem dX10_valueOf_1 : decode cX10_valueOf 1 = .ok (.iload_n 1, 1) := by decide +kernel
theorem dX10_valueOf_2 : decode cX10_valueOf 2 = .ok (.invokevirtual 117, 3) := by decide +kernel
theorem dX10_valueOf_5 : decode cX10_valueOf 5 = .ok (.ifCond .eq 7, 3) := by decide +kernel
theorem dX10_valueOf_8 : decode cX10_valueOf 8 = .ok (.iconst 0, 1) := by decide +kernel
theorem dX10_valueOf_9 : decode cX10_valueOf 9 = .ok (.goto 11, 3) := by decide +kernel
theorem dX10_valueOf_12 : decode cX10_valueOf 12 = .ok (.aload_n 0, 1) := by decide +kernel
theorem dX10_valueOf_13 : decode cX10_valueOf 13 = .ok (.iload_n 1, 1) := by decide +kernel
theorem dX10_valueOf_14 : decode cX10_valueOf 14 = .ok (.invokevirtual 120, 3) := by decide +kernel
theorem dX10_valueOf_17 : decode cX10_valueOf 17 = .ok (.getfield 152, 3) := by decide +kernel
theorem dX10_valueOf_20 : decode cX10_valueOf 20 = .ok (.ireturn, 1) := by decide +kernel
set_option maxRecDepth 20000 in
theorem ggX10_stepOf_X10_isNoTask : GoodIn wsX10_stepOf wsX10_isNoTask := goodIn_r _ [6, 7, 8, 9, 10, 11, 12, 13, 14, 15, 16, 5, 17, 18, 19, 20, 21, 22, 23, 24, 25, 26, 59, 60, 61, 62, 63, 64, 65, 66, 67, 68, 69, 70, 71, 72] (by decide +kernel) (by decide +kernel)
set_option maxRecDepth 20000 in
theorem gX10_stepOf_X10_isNoTask : GoodIn wsX10_stepOf (wsV RX10 117 RX10 yX10_isNoTask wsX10_isNoTask) := goodIn_app (goodIn_of _ (by decide +kernel)) ggX10_stepOf_X10_isNoTask
set_option maxRecDepth 20000 in
theorem ggX10_stepOf_X10_task : GoodIn wsX10_stepOf wsX10_task := goodIn_r _ [30, 7, 8, 31, 32, 33, 34, 12, 35, 14, 36, 37, 38, 39, 40, 41, 42, 43, 44, 45, 46, 47, 48, 59, 60, 61, 62, 63, 64, 65, 66, 67, 68, 69, 70, 71, 72] (by decide +kernel) (by decide +kernel)
set_option maxRecDepth 20000 in
theorem gX10_stepOf_X10_task : GoodIn wsX10_stepOf (wsV RX10 120 RX10 yX10_task wsX10_task) := goodIn_app (goodIn_of _ (by decide +kernel)) ggX10_stepOf_X10_task
theorem dX10_stepOf_0 : decode cX10_stepOf 0 = .ok (.aload_n 0, 1) := by decide +kernel
theorem dX10_stepOf_1 : decode cX10_stepOf 1 = .ok (.iload_n 1, 1) := by decide +kernel
theorem dX10_stepOf_2 : decode cX10_stepOf 2 = .ok (.invokevirtual 117, 3) := by decide +kernel
theorem dX10_stepOf_5 : decode cX10_stepOf 5 = .ok (.ifCond .eq 7, 3) := by decide +kernel
theorem dX10_stepOf_8 : decode cX10_stepOf 8 = .ok (.iconst 0, 1) := by decide +kernel
theorem dX10_stepOf_9 : decode cX10_stepOf 9 = .ok (.goto 11, 3) := by decide +kernel
theorem dX10_stepOf_12 : decode cX10_stepOf 12 = .ok (.aload_n 0, 1) := by decide +kernel
theorem dX10_stepOf_13 : decode cX10_stepOf 13 = .ok (.iload_n 1, 1) := by decide +kernel
theorem dX10_stepOf_14 : decode cX10_stepOf 14 = .ok (.invokevirtual 120, 3) := by decide +kernel
theorem dX10_stepOf_17 : decode cX10_stepOf 17 = .ok (.getfield 155, 3) := by decide +kernel
theorem dX10_stepOf_20 : decode cX10_stepOf 20 = .ok (.ireturn, 1) := by decide +kernel
set_option maxRecDepth 20000 in
theorem ggX10_parentOf_X10_isNoTask : GoodIn wsX10_parentOf wsX10_isNoTask := goodIn_r _ [6, 7, 8, 9, 10, 11, 12, 13, 14, 15, 16, 5, 17, 18, 19, 20, 21, 22, 23, 24, 25, 26, 59, 60, 61, 62, 63, 64, 65, 66, 67, 68, 69, 70, 71, 72] (by decide +kernel) (by decide +kernel)
set_option maxRecDepth 20000 in
theorem gX10_parentOf_X10_isNoTask : GoodIn wsX10_parentOf (wsV RX10 117 RX10 yX10_isNoTask wsX10_isNoTask) := goodIn_app (goodIn_of _ (by decide +kernel)) ggX10_parentOf_X10_isNoTask
set_option maxRecDepth 20000 in
theorem ggX10_parentOf_X10_task : GoodIn wsX10_parentOf wsX10_task := goodIn_r _ [30, 7, 8, 31, 32, 33, 34, 12, 35, 14, 36, 37, 38, 39, 40, 41, 42, 43, 44, 45, 46, 47, 48, 59, 60, 61, 62, 63, 64, 65, 66, 67, 68, 69, 70, 71, 72] (by decide +kernel) (by decide +kernel)
set_option maxRecDepth 20000 in
theorem gX10_parentOf_X10_task : GoodIn wsX10_parentOf (wsV RX10 120 RX10 yX10_task wsX10_task) := goodIn_app (goodIn_of _ (by decide +kernel)) ggX10_parentOf_X10_task
theorem dX10_parentOf_0 : decode cX10_parentOf 0 = .ok (.aload_n 0, 1) := by decide +kernel
theorem dX10_parentOf_1 : decode cX10_parentOf 1 = .ok (.iload_n 1, 1) := by decide +kernel
theorem dX10_parentOf_2 : decode cX10_parentOf 2 = .ok (.invokevirtual 117, 3) := by decide +kernel
theorem dX10_parentOf_5 : decode cX10_parentOf 5 = .ok (.ifCond .eq 7, 3) := by decide +kernel
theorem dX10_parentOf_8 : decode cX10_parentOf 8 = .ok (.iconst 0, 1) := by decide +kernel
theorem dX10_parentOf_9 : decode cX10_parentOf 9 = .ok (.goto 11, 3) := by decide +kernel
theorem dX10_parentOf_12 : decode cX10_parentOf 12 = .ok (.aload_n 0, 1) := by decide +kernel
theorem dX10_parentOf_13 : decode cX10_parentOf 13 = .ok (.iload_n 1, 1) := by decide +kernel
theorem dX10_parentOf_14 : decode cX10_parentOf 14 = .ok (.invokevirtual 120, 3) := by decide +kernel
theorem dX10_parentOf_17 : decode cX10_parentOf 17 = .ok (.getfield 158, 3) := by decide +kernel
theorem dX10_parentOf_20 : decode cX10_parentOf 20 = .ok (.ireturn, 1) := by decide +kernel
set_option maxRecDepth 20000 in
theorem ggX10_childrenOf_X10_isNoTask : GoodIn wsX10_childrenOf wsX10_isNoTask := goodIn_r _ [5, 6, 7, 8, 9, 10, 11, 12, 13, 14, 15, 4, 16, 17, 18, 19, 20, 21, 22, 23, 24, 25, 59, 60, 61, 62, 63, 64, 65, 66, 67, 68, 69, 70, 71, 72] (by decide +kernel) (by decide +kernel)
set_option maxRecDepth 20000 in
theorem gX10_childrenOf_X10_isNoTask : GoodIn wsX10_childrenOf (wsV RX10 117 RX10 yX10_isNoTask wsX10_isNoTask) := goodIn_app (goodIn_of _ (by decide +kernel)) ggX10_childrenOf_X10_isNoTask
set_option maxRecDepth 20000 in
theorem ggX10_childrenOf_X10_task : GoodIn wsX10_childrenOf wsX10_task := goodIn_r _ [29, 6, 7, 30, 31, 32, 33, 11, 34, 13, 35, 36, 37, 38, 39, 40, 41, 42, 43, 44, 45, 46, 47, 59, 60, 61, 62, 63, 64, 65, 66, 67, 68, 69, 70, 71, 72] (by decide +kernel) (by decide +kernel)
set_option maxRecDepth 20000 in
theorem gX10_childrenOf_X10_task : GoodIn wsX10_childrenOf (wsV RX10 120 RX10 yX10_task wsX10_task) := goodIn_app (goodIn_of _ (by decide +kernel)) ggX10_childrenOf_X10_task
theorem dX10_childrenOf_0 : decode cX10_childrenOf 0 = .ok (.aload_n 0, 1) := by decide +kernel
theorem dX10_childrenOf_1 : decode cX10_childrenOf 1 = .ok (.iload_n 1, 1) := by decide +kernel
theorem dX10_childrenOf_2 : decode cX10_childrenOf 2 = .ok (.invokevirtual 117, 3) := by decide +kernel
theorem dX10_childrenOf_5 : decode cX10_childrenOf 5 = .ok (.ifCond .eq 7, 3) := by decide +kernel
theorem dX10_childrenOf_8 : decode cX10_childrenOf 8 = .ok (.iconst 0, 1) := by decide +kernel
theorem dX10_childrenOf_9 : decode cX10_childrenOf 9 = .ok (.goto 11, 3) := by decide +kernel
theorem dX10_childrenOf_12 : decode cX10_childrenOf 12 = .ok (.aload_n 0, 1) := by decide +kernel
theorem dX10_childrenOf_13 : decode cX10_childrenOf 13 = .ok (.iload_n 1, 1) := by decide +kernel
theorem dX10_childrenOf_14 : decode cX10_childrenOf 14 = .ok (.invokevirtual 120, 3) := by decide +kernel
theorem dX10_childrenOf_17 : decode cX10_childrenOf 17 = .ok (.invokestatic 164, 3) := by decide +kernel
theorem dX10_childrenOf_20 : decode cX10_childrenOf 20 = .ok (.ireturn, 1) := by decide +kernel
set_option maxRecDepth 20000 in
theorem ggX10_workOf_X10_isNoTask : GoodIn wsX10_workOf wsX10_isNoTask := goodIn_r _ [5, 6, 7, 8, 9, 10, 11, 12, 13, 14, 15, 4, 16, 17, 18, 19, 20, 21, 22, 23, 24, 25, 54, 55, 56, 57, 58, 59, 60, 61, 62, 63, 64, 65, 66, 67] (by decide +kernel) (by decide +kernel)
set_option maxRecDepth 20000 in
theorem gX10_workOf_X10_isNoTask : GoodIn wsX10_workOf (wsV RX10 117 RX10 yX10_isNoTask wsX10_isNoTask) := goodIn_app (goodIn_of _ (by decide +kernel)) ggX10_workOf_X10_isNoTask
theorem dX10_workOf_0 : decode cX10_workOf 0 = .ok (.aload_n 0, 1) := by decide +kernel
theorem dX10_workOf_1 : decode cX10_workOf 1 = .ok (.iload_n 1, 1) := by decide +kernel
theorem dX10_workOf_2 : decode cX10_workOf 2 = .ok (.invokevirtual 117, 3) := by decide +kernel
theorem dX10_workOf_5 : decode cX10_workOf 5 = .ok (.ifCond .eq 7, 3) := by decide +kernel
theorem dX10_workOf_8 : decode cX10_workOf 8 = .ok (.iconst 0, 1) := by decide +kernel
theorem dX10_workOf_9 : decode cX10_workOf 9 = .ok (.goto 8, 3) := by decide +kernel
theorem dX10_workOf_12 : decode cX10_workOf 12 = .ok (.aload_n 0, 1) := by decide +kernel
theorem dX10_workOf_13 : decode cX10_workOf 13 = .ok (.iload_n 1, 1) := by decide +kernel
theorem dX10_workOf_14 : decode cX10_workOf 14 = .ok (.invokevirtual 171, 3) := by decide +kernel
theorem dX10_workOf_17 : decode cX10_workOf 17 = .ok (.ireturn, 1) := by decide +kernel
set_option maxRecDepth 20000 in
theorem ggX10_overAt_X10_isNoTask : GoodIn wsX10_overAt wsX10_isNoTask := goodIn_r _ [6, 7, 8, 9, 10, 11, 12, 13, 14, 15, 16, 5, 17, 18, 19, 20, 21, 22, 23, 24, 25, 26, 59, 60, 61, 62, 63, 64, 65, 66, 67, 68, 69, 70, 71, 72] (by decide +kernel) (by decide +kernel)
set_option maxRecDepth 20000 in
theorem gX10_overAt_X10_isNoTask : GoodIn wsX10_overAt (wsV RX10 117 RX10 yX10_isNoTask wsX10_isNoTask) := goodIn_app (goodIn_of _ (by decide +kernel)) ggX10_overAt_X10_isNoTask
set_option maxRecDepth 20000 in
theorem ggX10_overAt_X10_task : GoodIn wsX10_overAt wsX10_task := goodIn_r _ [30, 7, 8, 31, 32, 33, 34, 12, 35, 14, 36, 37, 38, 39, 40, 41, 42, 43, 44, 45, 46, 47, 48, 59, 60, 61, 62, 63, 64, 65, 66, 67, 68, 69, 70, 71, 72] (by decide +kernel) (by decide +kernel)
set_option maxRecDepth 20000 in
theorem gX10_overAt_X10_task : GoodIn wsX10_overAt (wsV RX10 120 RX10 yX10_task wsX10_task) := goodIn_app (goodIn_of _ (by decide +kernel)) ggX10_overAt_X10_task
theorem dX10_overAt_0 : decode cX10_overAt 0 = .ok (.aload_n 0, 1) := by decide +kernel
theorem dX10_overAt_1 : decode cX10_overAt 1 = .ok (.iload_n 1, 1) := by decide +kernel
theorem dX10_overAt_2 : decode cX10_overAt 2 = .ok (.invokevirtual 117, 3) := by decide +kernel
theorem dX10_overAt_5 : decode cX10_overAt 5 = .ok (.ifCond .eq 7, 3) := by decide +kernel
theorem dX10_overAt_8 : decode cX10_overAt 8 = .ok (.iconst 0, 1) := by decide +kernel
theorem dX10_overAt_9 : decode cX10_overAt 9 = .ok (.goto 11, 3) := by decide +kernel
theorem dX10_overAt_12 : decode cX10_overAt 12 = .ok (.aload_n 0, 1) := by decide +kernel
theorem dX10_overAt_13 : decode cX10_overAt 13 = .ok (.iload_n 1, 1) := by decide +kernel
theorem dX10_overAt_14 : decode cX10_overAt 14 = .ok (.invokevirtual 120, 3) := by decide +kernel
theorem dX10_overAt_17 : decode cX10_overAt 17 = .ok (.getfield 173, 3) := by decide +kernel
theorem dX10_overAt_20 : decode cX10_overAt 20 = .ok (.ireturn, 1) := by decide +kernel
set_option maxRecDepth 20000 in
theorem ggX10_promise_X10_isNoPromise : GoodIn wsX10_promise wsX10_isNoPromise := goodIn_r _ [7, 8, 9, 6, 10, 11, 12, 13, 14, 15, 16, 17, 18, 19, 20, 21, 22] (by decide +kernel) (by decide +kernel)
set_option maxRecDepth 20000 in
theorem gX10_promise_X10_isNoPromise : GoodIn wsX10_promise (wsV RX10 131 RX10 yX10_isNoPromise wsX10_isNoPromise) := goodIn_app (goodIn_of _ (by decide +kernel)) ggX10_promise_X10_isNoPromise
theorem dX10_promise_0 : decode cX10_promise 0 = .ok (.aload_n 0, 1) := by decide +kernel
theorem dX10_promise_1 : decode cX10_promise 1 = .ok (.iload_n 1, 1) := by decide +kernel
theorem dX10_promise_2 : decode cX10_promise 2 = .ok (.invokevirtual 131, 3) := by decide +kernel
theorem dX10_promise_5 : decode cX10_promise 5 = .ok (.ifCond .eq 7, 3) := by decide +kernel
theorem dX10_promise_8 : decode cX10_promise 8 = .ok (.iconst 0, 1) := by decide +kernel
theorem dX10_promise_9 : decode cX10_promise 9 = .ok (.goto 12, 3) := by decide +kernel
theorem dX10_promise_12 : decode cX10_promise 12 = .ok (.aload_n 0, 1) := by decide +kernel
theorem dX10_promise_13 : decode cX10_promise 13 = .ok (.getfield 37, 3) := by decide +kernel
theorem dX10_promise_16 : decode cX10_promise 16 = .ok (.getfield 176, 3) := by decide +kernel
theorem dX10_promise_19 : decode cX10_promise 19 = .ok (.iload_n 1, 1) := by decide +kernel
theorem dX10_promise_20 : decode cX10_promise 20 = .ok (.iaload, 1) := by decide +kernel
theorem dX10_promise_21 : decode cX10_promise 21 = .ok (.ireturn, 1) := by decide +kernel
set_option maxRecDepth 20000 in
theorem ggX10_isNoWorker_Jx4a65c_size_8abf5 : GoodIn wsX10_isNoWorker wsJx4a65c_size_8abf5 := goodIn_r _ [7, 8, 33, 34, 35] (by decide +kernel) (by decide +kernel)
set_option maxRecDepth 20000 in
theorem gX10_isNoWorker_Jx4a65c_size_8abf5 : GoodIn wsX10_isNoWorker (wsV RX10 1 RJx4a65c yJx4a65c_size_8abf5 wsJx4a65c_size_8abf5) := goodIn_app (goodIn_of _ (by decide +kernel)) ggX10_isNoWorker_Jx4a65c_size_8abf5
set_option maxRecDepth 20000 in
theorem ggX10_isNoWorker_X10_isIn : GoodIn wsX10_isNoWorker wsX10_isIn := goodIn_r _ [12] (by decide +kernel) (by decide +kernel)
set_option maxRecDepth 20000 in
theorem gX10_isNoWorker_X10_isIn : GoodIn wsX10_isNoWorker (va_wsS RX10 56 yX10_isIn wsX10_isIn) := goodIn_app (goodIn_of _ (by decide +kernel)) ggX10_isNoWorker_X10_isIn
set_option maxRecDepth 20000 in
theorem ggX10_isNoWorker_X10_start : GoodIn wsX10_isNoWorker wsX10_start := goodIn_r _ [16, 17, 18, 19, 20, 11, 21, 22, 23, 24] (by decide +kernel) (by decide +kernel)
set_option maxRecDepth 20000 in
theorem gX10_isNoWorker_X10_start : GoodIn wsX10_isNoWorker (wsV RX10 49 RX10 yX10_start wsX10_start) := goodIn_app (goodIn_of _ (by decide +kernel)) ggX10_isNoWorker_X10_start
theorem dX10_isNoWorker_0 : decode cX10_isNoWorker 0 = .ok (.aload_n 0, 1) := by decide +kernel
theorem dX10_isNoWorker_1 : decode cX10_isNoWorker 1 = .ok (.iload_n 1, 1) := by decide +kernel
theorem dX10_isNoWorker_2 : decode cX10_isNoWorker 2 = .ok (.iconst 0, 1) := by decide +kernel
theorem dX10_isNoWorker_3 : decode cX10_isNoWorker 3 = .ok (.aload_n 0, 1) := by decide +kernel
theorem dX10_isNoWorker_4 : decode cX10_isNoWorker 4 = .ok (.getfield 37, 3) := by decide +kernel
theorem dX10_isNoWorker_7 : decode cX10_isNoWorker 7 = .ok (.getfield 79, 3) := by decide +kernel
theorem dX10_isNoWorker_10 : decode cX10_isNoWorker 10 = .ok (.invokevirtual 1, 3) := by decide +kernel
theorem dX10_isNoWorker_13 : decode cX10_isNoWorker 13 = .ok (.iconst 1, 1) := by decide +kernel
theorem dX10_isNoWorker_14 : decode cX10_isNoWorker 14 = .ok (.isub, 1) := by decide +kernel
theorem dX10_isNoWorker_15 : decode cX10_isNoWorker 15 = .ok (.invokestatic 56, 3) := by decide +kernel
theorem dX10_isNoWorker_18 : decode cX10_isNoWorker 18 = .ok (.ifCond .ne 7, 3) := by decide +kernel
theorem dX10_isNoWorker_21 : decode cX10_isNoWorker 21 = .ok (.iconst 1, 1) := by decide +kernel
theorem dX10_isNoWorker_22 : decode cX10_isNoWorker 22 = .ok (.goto 4, 3) := by decide +kernel
theorem dX10_isNoWorker_25 : decode cX10_isNoWorker 25 = .ok (.iconst 0, 1) := by decide +kernel
theorem dX10_isNoWorker_26 : decode cX10_isNoWorker 26 = .ok (.iconst 1, 1) := by decide +kernel
theorem dX10_isNoWorker_27 : decode cX10_isNoWorker 27 = .ok (.invokevirtual 49, 3) := by decide +kernel
theorem dX10_isNoWorker_30 : decode cX10_isNoWorker 30 = .ok (.ireturn, 1) := by decide +kernel
set_option maxRecDepth 20000 in
theorem ggX10_worker_Jx4a65c_get_915e3 : GoodIn wsX10_worker wsJx4a65c_get_915e3 := goodIn_r _ [8, 9, 10, 11, 12, 13, 14, 15, 16, 17, 18, 19, 20, 7, 21, 22, 34, 35, 36] (by decide +kernel) (by decide +kernel)
set_option maxRecDepth 20000 in
theorem gX10_worker_Jx4a65c_get_915e3 : GoodIn wsX10_worker (wsV RX10 7 RJx4a65c yJx4a65c_get_915e3 wsJx4a65c_get_915e3) := goodIn_app (goodIn_of _ (by decide +kernel)) ggX10_worker_Jx4a65c_get_915e3
theorem dX10_worker_0 : decode cX10_worker 0 = .ok (.aload_n 0, 1) := by decide +kernel
theorem dX10_worker_1 : decode cX10_worker 1 = .ok (.getfield 37, 3) := by decide +kernel
theorem dX10_worker_4 : decode cX10_worker 4 = .ok (.getfield 79, 3) := by decide +kernel
theorem dX10_worker_7 : decode cX10_worker 7 = .ok (.iload_n 1, 1) := by decide +kernel
theorem dX10_worker_8 : decode cX10_worker 8 = .ok (.invokevirtual 7, 3) := by decide +kernel
theorem dX10_worker_11 : decode cX10_worker 11 = .ok (.checkcast 82, 3) := by decide +kernel
theorem dX10_worker_14 : decode cX10_worker 14 = .ok (.areturn, 1) := by decide +kernel
set_option maxRecDepth 20000 in
theorem ggX10_workers_Jx4a65c_size_8abf5 : GoodIn wsX10_workers wsJx4a65c_size_8abf5 := goodIn_r _ [7, 8, 26, 27, 28] (by decide +kernel) (by decide +kernel)
set_option maxRecDepth 20000 in
theorem gX10_workers_Jx4a65c_size_8abf5 : GoodIn wsX10_workers (wsV RX10 1 RJx4a65c yJx4a65c_size_8abf5 wsJx4a65c_size_8abf5) := goodIn_app (goodIn_of _ (by decide +kernel)) ggX10_workers_Jx4a65c_size_8abf5
set_option maxRecDepth 20000 in
theorem ggX10_workers_X10_plain : GoodIn wsX10_workers wsX10_plain := goodIn_r _ [13, 14, 15, 16, 17] (by decide +kernel) (by decide +kernel)
set_option maxRecDepth 20000 in
theorem gX10_workers_X10_plain : GoodIn wsX10_workers (wsV RX10 146 RX10 yX10_plain wsX10_plain) := goodIn_app (goodIn_of _ (by decide +kernel)) ggX10_workers_X10_plain
theorem dX10_workers_0 : decode cX10_workers 0 = .ok (.aload_n 0, 1) := by decide +kernel
theorem dX10_workers_1 : decode cX10_workers 1 = .ok (.aload_n 0, 1) := by decide +kernel
theorem dX10_workers_2 : decode cX10_workers 2 = .ok (.getfield 37, 3) := by decide +kernel
theorem dX10_workers_5 : decode cX10_workers 5 = .ok (.getfield 79, 3) := by decide +kernel
theorem dX10_workers_8 : decode cX10_workers 8 = .ok (.invokevirtual 1, 3) := by decide +kernel
theorem dX10_workers_11 : decode cX10_workers 11 = .ok (.invokevirtual 146, 3) := by decide +kernel
theorem dX10_workers_14 : decode cX10_workers 14 = .ok (.ireturn, 1) := by decide +kernel
set_option maxRecDepth 20000 in
theorem ggX10_top_X10_isNoWorker : GoodIn wsX10_top wsX10_isNoWorker := goodIn_r _ [5, 6, 7, 8, 9, 10, 11, 12, 13, 14, 15, 4, 16, 17, 18, 19, 20, 21, 22, 23, 24, 25, 67, 68, 69, 70, 71, 72, 73, 74, 75, 76, 77, 78, 79, 80] (by decide +kernel) (by decide +kernel)
set_option maxRecDepth 20000 in
theorem gX10_top_X10_isNoWorker : GoodIn wsX10_top (wsV RX10 180 RX10 yX10_isNoWorker wsX10_isNoWorker) := goodIn_app (goodIn_of _ (by decide +kernel)) ggX10_top_X10_isNoWorker
set_option maxRecDepth 20000 in
theorem ggX10_top_X10_worker : GoodIn wsX10_top wsX10_worker := goodIn_r _ [29, 6, 7, 30, 31, 32, 33, 11, 34, 13, 35, 36, 37, 38, 39, 40, 41, 42, 43, 44, 45, 46, 47, 67, 68, 69, 70, 71, 72, 73, 74, 75, 76, 77, 78, 79, 80] (by decide +kernel) (by decide +kernel)
set_option maxRecDepth 20000 in
theorem gX10_top_X10_worker : GoodIn wsX10_top (wsV RX10 183 RX10 yX10_worker wsX10_worker) := goodIn_app (goodIn_of _ (by decide +kernel)) ggX10_top_X10_worker
set_option maxRecDepth 20000 in
theorem ggX10_top_X9_top : GoodIn wsX10_top wsX9_top := goodIn_r _ [52, 53, 54, 55, 56, 57, 11, 58, 13, 59, 9, 10, 12, 60, 32, 33, 34, 35, 36, 37, 38, 39, 40, 41, 42, 43, 44, 45, 46, 47, 61, 62, 63, 64, 65, 66, 81, 82, 83, 84, 78, 79, 80, 85] (by decide +kernel) (by decide +kernel)
set_option maxRecDepth 20000 in
theorem gX10_top_X9_top : GoodIn wsX10_top (wsV RX10 186 RX9 yX9_top wsX9_top) := goodIn_app (goodIn_of _ (by decide +kernel)) ggX10_top_X9_top
theorem dX10_top_0 : decode cX10_top 0 = .ok (.aload_n 0, 1) := by decide +kernel
theorem dX10_top_1 : decode cX10_top 1 = .ok (.iload_n 1, 1) := by decide +kernel
theorem dX10_top_2 : decode cX10_top 2 = .ok (.invokevirtual 180, 3) := by decide +kernel
theorem dX10_top_5 : decode cX10_top 5 = .ok (.ifCond .eq 7, 3) := by decide +kernel
theorem dX10_top_8 : decode cX10_top 8 = .ok (.iconst 0, 1) := by decide +kernel
theorem dX10_top_9 : decode cX10_top 9 = .ok (.goto 11, 3) := by decide +kernel
theorem dX10_top_12 : decode cX10_top 12 = .ok (.aload_n 0, 1) := by decide +kernel
theorem dX10_top_13 : decode cX10_top 13 = .ok (.iload_n 1, 1) := by decide +kernel
theorem dX10_top_14 : decode cX10_top 14 = .ok (.invokevirtual 183, 3) := by decide +kernel
theorem dX10_top_17 : decode cX10_top 17 = .ok (.invokevirtual 186, 3) := by decide +kernel
theorem dX10_top_20 : decode cX10_top 20 = .ok (.ireturn, 1) := by decide +kernel
set_option maxRecDepth 20000 in
theorem ggX10_stack_X10_isNoWorker : GoodIn wsX10_stack wsX10_isNoWorker := goodIn_r _ [6, 7, 8, 9, 10, 11, 12, 13, 14, 15, 16, 5, 17, 18, 19, 20, 21, 22, 23, 24, 25, 26, 53, 54, 55, 56, 57, 58, 59, 60, 61, 62, 63, 64, 65, 66] (by decide +kernel) (by decide +kernel)
set_option maxRecDepth 20000 in
theorem gX10_stack_X10_isNoWorker : GoodIn wsX10_stack (wsV RX10 180 RX10 yX10_isNoWorker wsX10_isNoWorker) := goodIn_app (goodIn_of _ (by decide +kernel)) ggX10_stack_X10_isNoWorker
set_option maxRecDepth 20000 in
theorem ggX10_stack_X10_worker : GoodIn wsX10_stack wsX10_worker := goodIn_r _ [30, 7, 8, 31, 32, 33, 34, 12, 35, 14, 36, 37, 38, 39, 40, 41, 42, 43, 44, 45, 46, 47, 48, 53, 54, 55, 56, 57, 58, 59, 60, 61, 62, 63, 64, 65, 66] (by decide +kernel) (by decide +kernel)
set_option maxRecDepth 20000 in
theorem gX10_stack_X10_worker : GoodIn wsX10_stack (wsV RX10 183 RX10 yX10_worker wsX10_worker) := goodIn_app (goodIn_of _ (by decide +kernel)) ggX10_stack_X10_worker
set_option maxRecDepth 20000 in
theorem ggX10_stack_Jx4a65c_size_8abf5 : GoodIn wsX10_stack wsJx4a65c_size_8abf5 := goodIn_r _ [13, 14, 64, 65, 66] (by decide +kernel) (by decide +kernel)
set_option maxRecDepth 20000 in
theorem gX10_stack_Jx4a65c_size_8abf5 : GoodIn wsX10_stack (wsV RX10 1 RJx4a65c yJx4a65c_size_8abf5 wsJx4a65c_size_8abf5) := goodIn_app (goodIn_of _ (by decide +kernel)) ggX10_stack_Jx4a65c_size_8abf5
theorem dX10_stack_0 : decode cX10_stack 0 = .ok (.aload_n 0, 1) := by decide +kernel
theorem dX10_stack_1 : decode cX10_stack 1 = .ok (.iload_n 1, 1) := by decide +kernel
theorem dX10_stack_2 : decode cX10_stack 2 = .ok (.invokevirtual 180, 3) := by decide +kernel
theorem dX10_stack_5 : decode cX10_stack 5 = .ok (.ifCond .eq 7, 3) := by decide +kernel
theorem dX10_stack_8 : decode cX10_stack 8 = .ok (.iconst 0, 1) := by decide +kernel
theorem dX10_stack_9 : decode cX10_stack 9 = .ok (.goto 14, 3) := by decide +kernel
theorem dX10_stack_12 : decode cX10_stack 12 = .ok (.aload_n 0, 1) := by decide +kernel
theorem dX10_stack_13 : decode cX10_stack 13 = .ok (.iload_n 1, 1) := by decide +kernel
theorem dX10_stack_14 : decode cX10_stack 14 = .ok (.invokevirtual 183, 3) := by decide +kernel
theorem dX10_stack_17 : decode cX10_stack 17 = .ok (.getfield 91, 3) := by decide +kernel
theorem dX10_stack_20 : decode cX10_stack 20 = .ok (.invokevirtual 1, 3) := by decide +kernel
theorem dX10_stack_23 : decode cX10_stack 23 = .ok (.ireturn, 1) := by decide +kernel
set_option maxRecDepth 20000 in
theorem ggX10_rowOf_X10_worker : GoodIn wsX10_rowOf wsX10_worker := goodIn_r _ [8, 1, 9, 10, 11, 12, 13, 14, 15, 16, 17, 18, 19, 20, 21, 22, 23, 24, 25, 26, 27, 28, 29, 30, 31, 32, 33, 34, 35, 36, 37, 38, 39, 40, 45, 46, 47] (by decide +kernel) (by decide +kernel)
set_option maxRecDepth 20000 in
theorem gX10_rowOf_X10_worker : GoodIn wsX10_rowOf (wsV RX10 183 RX10 yX10_worker wsX10_worker) := goodIn_app (goodIn_of _ (by decide +kernel)) ggX10_rowOf_X10_worker
theorem dX10_rowOf_0 : decode cX10_rowOf 0 = .ok (.iload_n 1, 1) := by decide +kernel
theorem dX10_rowOf_1 : decode cX10_rowOf 1 = .ok (.iconst (-1), 1) := by decide +kernel
theorem dX10_rowOf_2 : decode cX10_rowOf 2 = .ok (.if_icmp .ne 13, 3) := by decide +kernel
theorem dX10_rowOf_5 : decode cX10_rowOf 5 = .ok (.aload_n 0, 1) := by decide +kernel
theorem dX10_rowOf_6 : decode cX10_rowOf 6 = .ok (.getfield 37, 3) := by decide +kernel
theorem dX10_rowOf_9 : decode cX10_rowOf 9 = .ok (.getfield 110, 3) := by decide +kernel
theorem dX10_rowOf_12 : decode cX10_rowOf 12 = .ok (.goto 11, 3) := by decide +kernel
theorem dX10_rowOf_15 : decode cX10_rowOf 15 = .ok (.aload_n 0, 1) := by decide +kernel
theorem dX10_rowOf_16 : decode cX10_rowOf 16 = .ok (.iload_n 1, 1) := by decide +kernel
theorem dX10_rowOf_17 : decode cX10_rowOf 17 = .ok (.invokevirtual 183, 3) := by decide +kernel
theorem dX10_rowOf_20 : decode cX10_rowOf 20 = .ok (.getfield 84, 3) := by decide +kernel
theorem dX10_rowOf_23 : decode cX10_rowOf 23 = .ok (.areturn, 1) := by decide +kernel
set_option maxRecDepth 20000 in
theorem ggX10_row_Jx4a65c_size_8abf5 : GoodIn wsX10_row wsJx4a65c_size_8abf5 := goodIn_r _ [7, 8, 61, 62, 63] (by decide +kernel) (by decide +kernel)
set_option maxRecDepth 20000 in
theorem gX10_row_Jx4a65c_size_8abf5 : GoodIn wsX10_row (wsV RX10 1 RJx4a65c yJx4a65c_size_8abf5 wsJx4a65c_size_8abf5) := goodIn_app (goodIn_of _ (by decide +kernel)) ggX10_row_Jx4a65c_size_8abf5
set_option maxRecDepth 20000 in
theorem ggX10_row_X10_isIn : GoodIn wsX10_row wsX10_isIn := goodIn_r _ [12] (by decide +kernel) (by decide +kernel)
set_option maxRecDepth 20000 in
theorem gX10_row_X10_isIn : GoodIn wsX10_row (va_wsS RX10 56 yX10_isIn wsX10_isIn) := goodIn_app (goodIn_of _ (by decide +kernel)) ggX10_row_X10_isIn
set_option maxRecDepth 20000 in
theorem ggX10_row_X10_start : GoodIn wsX10_row wsX10_start := goodIn_r _ [16, 17, 18, 19, 20, 11, 21, 50, 51, 52] (by decide +kernel) (by decide +kernel)
set_option maxRecDepth 20000 in
theorem gX10_row_X10_start : GoodIn wsX10_row (wsV RX10 49 RX10 yX10_start wsX10_start) := goodIn_app (goodIn_of _ (by decide +kernel)) ggX10_row_X10_start
set_option maxRecDepth 20000 in
theorem ggX10_row_X10_rowOf : GoodIn wsX10_row wsX10_rowOf := goodIn_r _ [25, 1, 26, 27, 28, 29, 30, 11, 31, 2, 32, 33, 34, 35, 6, 36, 8, 37, 38, 39, 40, 41, 42, 43, 44, 45, 46, 47, 48, 49, 50, 51, 52, 53, 54, 55, 56, 57, 58, 59, 60, 64, 65, 66, 67, 61, 62, 63] (by decide +kernel) (by decide +kernel)
set_option maxRecDepth 20000 in
theorem gX10_row_X10_rowOf : GoodIn wsX10_row (wsV RX10 189 RX10 yX10_rowOf wsX10_rowOf) := goodIn_app (goodIn_of _ (by decide +kernel)) ggX10_row_X10_rowOf
theorem dX10_row_0 : decode cX10_row 0 = .ok (.aload_n 0, 1) := by decide +kernel
theorem dX10_row_1 : decode cX10_row 1 = .ok (.iload_n 1, 1) := by decide +kernel
theorem dX10_row_2 : decode cX10_row 2 = .ok (.iconst (-1), 1) := by decide +kernel
theorem dX10_row_3 : decode cX10_row 3 = .ok (.aload_n 0, 1) := by decide +kernel
theorem dX10_row_4 : decode cX10_row 4 = .ok (.getfield 37, 3) := by decide +kernel
theorem dX10_row_7 : decode cX10_row 7 = .ok (.getfield 79, 3) := by decide +kernel
theorem dX10_row_10 : decode cX10_row 10 = .ok (.invokevirtual 1, 3) := by decide +kernel
theorem dX10_row_13 : decode cX10_row 13 = .ok (.iconst 1, 1) := by decide +kernel
theorem dX10_row_14 : decode cX10_row 14 = .ok (.isub, 1) := by decide +kernel
theorem dX10_row_15 : decode cX10_row 15 = .ok (.invokestatic 56, 3) := by decide +kernel
theorem dX10_row_18 : decode cX10_row 18 = .ok (.ifCond .ne 7, 3) := by decide +kernel
theorem dX10_row_21 : decode cX10_row 21 = .ok (.iconst 1, 1) := by decide +kernel
theorem dX10_row_22 : decode cX10_row 22 = .ok (.goto 4, 3) := by decide +kernel
theorem dX10_row_25 : decode cX10_row 25 = .ok (.iconst 0, 1) := by decide +kernel
theorem dX10_row_26 : decode cX10_row 26 = .ok (.iconst 1, 1) := by decide +kernel
theorem dX10_row_27 : decode cX10_row 27 = .ok (.invokevirtual 49, 3) := by decide +kernel
theorem dX10_row_30 : decode cX10_row 30 = .ok (.ifCond .eq 7, 3) := by decide +kernel
theorem dX10_row_33 : decode cX10_row 33 = .ok (.iconst 0, 1) := by decide +kernel
theorem dX10_row_34 : decode cX10_row 34 = .ok (.goto 11, 3) := by decide +kernel
theorem dX10_row_37 : decode cX10_row 37 = .ok (.aload_n 0, 1) := by decide +kernel
theorem dX10_row_38 : decode cX10_row 38 = .ok (.iload_n 1, 1) := by decide +kernel
theorem dX10_row_39 : decode cX10_row 39 = .ok (.invokevirtual 189, 3) := by decide +kernel
theorem dX10_row_42 : decode cX10_row 42 = .ok (.invokevirtual 1, 3) := by decide +kernel
theorem dX10_row_45 : decode cX10_row 45 = .ok (.ireturn, 1) := by decide +kernel
set_option maxRecDepth 20000 in
theorem ggX10_inRow_Jx4a65c_size_8abf5 : GoodIn wsX10_inRow wsJx4a65c_size_8abf5 := goodIn_r _ [8, 9, 68, 69, 70] (by decide +kernel) (by decide +kernel)
set_option maxRecDepth 20000 in
theorem gX10_inRow_Jx4a65c_size_8abf5 : GoodIn wsX10_inRow (wsV RX10 1 RJx4a65c yJx4a65c_size_8abf5 wsJx4a65c_size_8abf5) := goodIn_app (goodIn_of _ (by decide +kernel)) ggX10_inRow_Jx4a65c_size_8abf5
set_option maxRecDepth 20000 in
theorem ggX10_inRow_X10_isIn : GoodIn wsX10_inRow wsX10_isIn := goodIn_r _ [13] (by decide +kernel) (by decide +kernel)
set_option maxRecDepth 20000 in
theorem gX10_inRow_X10_isIn : GoodIn wsX10_inRow (va_wsS RX10 56 yX10_isIn wsX10_isIn) := goodIn_app (goodIn_of _ (by decide +kernel)) ggX10_inRow_X10_isIn
set_option maxRecDepth 20000 in
theorem ggX10_inRow_X10_start : GoodIn wsX10_inRow wsX10_start := goodIn_r _ [17, 18, 19, 20, 21, 12, 22, 57, 58, 59] (by decide +kernel) (by decide +kernel)
set_option maxRecDepth 20000 in
theorem gX10_inRow_X10_start : GoodIn wsX10_inRow (wsV RX10 49 RX10 yX10_start wsX10_start) := goodIn_app (goodIn_of _ (by decide +kernel)) ggX10_inRow_X10_start
set_option maxRecDepth 20000 in
theorem ggX10_inRow_X10_rowOf : GoodIn wsX10_inRow wsX10_rowOf := goodIn_r _ [26, 1, 27, 28, 29, 30, 31, 12, 32, 2, 33, 34, 35, 36, 7, 37, 9, 38, 39, 40, 41, 42, 43, 44, 45, 46, 47, 48, 49, 50, 57, 58, 59, 60, 61, 62, 63, 64, 65, 66, 67, 71, 72, 73, 74, 68, 69, 70] (by decide +kernel) (by decide +kernel)
set_option maxRecDepth 20000 in
theorem gX10_inRow_X10_rowOf : GoodIn wsX10_inRow (wsV RX10 189 RX10 yX10_rowOf wsX10_rowOf) := goodIn_app (goodIn_of _ (by decide +kernel)) ggX10_inRow_X10_rowOf
set_option maxRecDepth 20000 in
theorem ggX10_inRow_X10_refuse : GoodIn wsX10_inRow wsX10_refuse := goodIn_r _ [22, 18, 57, 58, 59] (by decide +kernel) (by decide +kernel)
set_option maxRecDepth 20000 in
theorem gX10_inRow_X10_refuse : GoodIn wsX10_inRow (wsV RX10 45 RX10 yX10_refuse wsX10_refuse) := goodIn_app (goodIn_of _ (by decide +kernel)) ggX10_inRow_X10_refuse
set_option maxRecDepth 20000 in
theorem ggX10_inRow_Jx4a65c_get_915e3 : GoodIn wsX10_inRow wsJx4a65c_get_915e3 := goodIn_r _ [37, 9, 38, 39, 40, 41, 42, 43, 44, 45, 46, 47, 48, 7, 49, 50, 68, 69, 70] (by decide +kernel) (by decide +kernel)
set_option maxRecDepth 20000 in
theorem gX10_inRow_Jx4a65c_get_915e3 : GoodIn wsX10_inRow (wsV RX10 7 RJx4a65c yJx4a65c_get_915e3 wsJx4a65c_get_915e3) := goodIn_app (goodIn_of _ (by decide +kernel)) ggX10_inRow_Jx4a65c_get_915e3
set_option maxRecDepth 20000 in
theorem ggX10_inRow_J6_intValue_8abf5 : GoodIn wsX10_inRow wsJ6_intValue_8abf5 := goodIn_r _ [55, 56, 75] (by decide +kernel) (by decide +kernel)
set_option maxRecDepth 20000 in
theorem gX10_inRow_J6_intValue_8abf5 : GoodIn wsX10_inRow (wsV RX10 13 RJ6 yJ6_intValue_8abf5 wsJ6_intValue_8abf5) := goodIn_app (goodIn_of _ (by decide +kernel)) ggX10_inRow_J6_intValue_8abf5
theorem dX10_inRow_0 : decode cX10_inRow 0 = .ok (.aload_n 0, 1) := by decide +kernel
theorem dX10_inRow_1 : decode cX10_inRow 1 = .ok (.iload_n 1, 1) := by decide +kernel
theorem dX10_inRow_2 : decode cX10_inRow 2 = .ok (.iconst (-1), 1) := by decide +kernel
theorem dX10_inRow_3 : decode cX10_inRow 3 = .ok (.aload_n 0, 1) := by decide +kernel
theorem dX10_inRow_4 : decode cX10_inRow 4 = .ok (.getfield 37, 3) := by decide +kernel
theorem dX10_inRow_7 : decode cX10_inRow 7 = .ok (.getfield 79, 3) := by decide +kernel
theorem dX10_inRow_10 : decode cX10_inRow 10 = .ok (.invokevirtual 1, 3) := by decide +kernel
theorem dX10_inRow_13 : decode cX10_inRow 13 = .ok (.iconst 1, 1) := by decide +kernel
theorem dX10_inRow_14 : decode cX10_inRow 14 = .ok (.isub, 1) := by decide +kernel
theorem dX10_inRow_15 : decode cX10_inRow 15 = .ok (.invokestatic 56, 3) := by decide +kernel
theorem dX10_inRow_18 : decode cX10_inRow 18 = .ok (.ifCond .ne 7, 3) := by decide +kernel
theorem dX10_inRow_21 : decode cX10_inRow 21 = .ok (.iconst 1, 1) := by decide +kernel
theorem dX10_inRow_22 : decode cX10_inRow 22 = .ok (.goto 4, 3) := by decide +kernel
theorem dX10_inRow_25 : decode cX10_inRow 25 = .ok (.iconst 0, 1) := by decide +kernel
theorem dX10_inRow_26 : decode cX10_inRow 26 = .ok (.iconst 1, 1) := by decide +kernel
theorem dX10_inRow_27 : decode cX10_inRow 27 = .ok (.invokevirtual 49, 3) := by decide +kernel
theorem dX10_inRow_30 : decode cX10_inRow 30 = .ok (.ifCond .ne 34, 3) := by decide +kernel
theorem dX10_inRow_33 : decode cX10_inRow 33 = .ok (.aload_n 0, 1) := by decide +kernel
theorem dX10_inRow_34 : decode cX10_inRow 34 = .ok (.iload_n 2, 1) := by decide +kernel
theorem dX10_inRow_35 : decode cX10_inRow 35 = .ok (.iconst 0, 1) := by decide +kernel
theorem dX10_inRow_36 : decode cX10_inRow 36 = .ok (.aload_n 0, 1) := by decide +kernel
theorem dX10_inRow_37 : decode cX10_inRow 37 = .ok (.iload_n 1, 1) := by decide +kernel
theorem dX10_inRow_38 : decode cX10_inRow 38 = .ok (.invokevirtual 189, 3) := by decide +kernel
theorem dX10_inRow_41 : decode cX10_inRow 41 = .ok (.invokevirtual 1, 3) := by decide +kernel
theorem dX10_inRow_44 : decode cX10_inRow 44 = .ok (.iconst 1, 1) := by decide +kernel
theorem dX10_inRow_45 : decode cX10_inRow 45 = .ok (.isub, 1) := by decide +kernel
theorem dX10_inRow_46 : decode cX10_inRow 46 = .ok (.invokestatic 56, 3) := by decide +kernel
theorem dX10_inRow_49 : decode cX10_inRow 49 = .ok (.ifCond .ne 7, 3) := by decide +kernel
theorem dX10_inRow_52 : decode cX10_inRow 52 = .ok (.iconst 1, 1) := by decide +kernel
theorem dX10_inRow_53 : decode cX10_inRow 53 = .ok (.goto 4, 3) := by decide +kernel
theorem dX10_inRow_56 : decode cX10_inRow 56 = .ok (.iconst 0, 1) := by decide +kernel
theorem dX10_inRow_57 : decode cX10_inRow 57 = .ok (.iconst 1, 1) := by decide +kernel
theorem dX10_inRow_58 : decode cX10_inRow 58 = .ok (.invokevirtual 45, 3) := by decide +kernel
theorem dX10_inRow_61 : decode cX10_inRow 61 = .ok (.ifCond .eq 7, 3) := by decide +kernel
theorem dX10_inRow_64 : decode cX10_inRow 64 = .ok (.iconst 0, 1) := by decide +kernel
theorem dX10_inRow_65 : decode cX10_inRow 65 = .ok (.goto 18, 3) := by decide +kernel
theorem dX10_inRow_68 : decode cX10_inRow 68 = .ok (.aload_n 0, 1) := by decide +kernel
theorem dX10_inRow_69 : decode cX10_inRow 69 = .ok (.iload_n 1, 1) := by decide +kernel
theorem dX10_inRow_70 : decode cX10_inRow 70 = .ok (.invokevirtual 189, 3) := by decide +kernel
theorem dX10_inRow_73 : decode cX10_inRow 73 = .ok (.iload_n 2, 1) := by decide +kernel
theorem dX10_inRow_74 : decode cX10_inRow 74 = .ok (.invokevirtual 7, 3) := by decide +kernel
theorem dX10_inRow_77 : decode cX10_inRow 77 = .ok (.checkcast 11, 3) := by decide +kernel
theorem dX10_inRow_80 : decode cX10_inRow 80 = .ok (.invokevirtual 13, 3) := by decide +kernel
theorem dX10_inRow_83 : decode cX10_inRow 83 = .ok (.ireturn, 1) := by decide +kernel
set_option maxRecDepth 20000 in
theorem ggX10_told_X10_isNoWorker : GoodIn wsX10_told wsX10_isNoWorker := goodIn_r _ [6, 7, 8, 9, 10, 11, 12, 13, 14, 15, 16, 5, 17, 18, 19, 20, 21, 22, 23, 24, 25, 26, 53, 54, 55, 56, 57, 58, 59, 60, 61, 62, 63, 64, 65, 66] (by decide +kernel) (by decide +kernel)
set_option maxRecDepth 20000 in
theorem gX10_told_X10_isNoWorker : GoodIn wsX10_told (wsV RX10 180 RX10 yX10_isNoWorker wsX10_isNoWorker) := goodIn_app (goodIn_of _ (by decide +kernel)) ggX10_told_X10_isNoWorker
set_option maxRecDepth 20000 in
theorem ggX10_told_X10_isIn : GoodIn wsX10_told wsX10_isIn := goodIn_r _ [17] (by decide +kernel) (by decide +kernel)
set_option maxRecDepth 20000 in
theorem gX10_told_X10_isIn : GoodIn wsX10_told (va_wsS RX10 56 yX10_isIn wsX10_isIn) := goodIn_app (goodIn_of _ (by decide +kernel)) ggX10_told_X10_isIn
set_option maxRecDepth 20000 in
theorem ggX10_told_X10_refuse : GoodIn wsX10_told wsX10_refuse := goodIn_r _ [26, 22, 53, 54, 55] (by decide +kernel) (by decide +kernel)
set_option maxRecDepth 20000 in
theorem gX10_told_X10_refuse : GoodIn wsX10_told (wsV RX10 45 RX10 yX10_refuse wsX10_refuse) := goodIn_app (goodIn_of _ (by decide +kernel)) ggX10_told_X10_refuse
set_option maxRecDepth 20000 in
theorem ggX10_told_X10_worker : GoodIn wsX10_told wsX10_worker := goodIn_r _ [30, 7, 8, 31, 32, 33, 34, 12, 35, 14, 36, 37, 38, 39, 40, 41, 42, 43, 44, 45, 46, 47, 48, 53, 54, 55, 56, 57, 58, 59, 60, 61, 62, 63, 64, 65, 66] (by decide +kernel) (by decide +kernel)
set_option maxRecDepth 20000 in
theorem gX10_told_X10_worker : GoodIn wsX10_told (wsV RX10 183 RX10 yX10_worker wsX10_worker) := goodIn_app (goodIn_of _ (by decide +kernel)) ggX10_told_X10_worker
theorem dX10_told_0 : decode cX10_told 0 = .ok (.aload_n 0, 1) := by decide +kernel
theorem dX10_told_1 : decode cX10_told 1 = .ok (.iload_n 1, 1) := by decide +kernel
theorem dX10_told_2 : decode cX10_told 2 = .ok (.invokevirtual 180, 3) := by decide +kernel
theorem dX10_told_5 : decode cX10_told 5 = .ok (.ifCond .ne 25, 3) := by decide +kernel
theorem dX10_told_8 : decode cX10_told 8 = .ok (.aload_n 0, 1) := by decide +kernel
theorem dX10_told_9 : decode cX10_told 9 = .ok (.iload_n 2, 1) := by decide +kernel
theorem dX10_told_10 : decode cX10_told 10 = .ok (.iconst 0, 1) := by decide +kernel
theorem dX10_told_11 : decode cX10_told 11 = .ok (.iconst 2, 1) := by decide +kernel
theorem dX10_told_12 : decode cX10_told 12 = .ok (.invokestatic 56, 3) := by decide +kernel
theorem dX10_told_15 : decode cX10_told 15 = .ok (.ifCond .ne 7, 3) := by decide +kernel
theorem dX10_told_18 : decode cX10_told 18 = .ok (.iconst 1, 1) := by decide +kernel
theorem dX10_told_19 : decode cX10_told 19 = .ok (.goto 4, 3) := by decide +kernel
theorem dX10_told_22 : decode cX10_told 22 = .ok (.iconst 0, 1) := by decide +kernel
theorem dX10_told_23 : decode cX10_told 23 = .ok (.iconst 2, 1) := by decide +kernel
theorem dX10_told_24 : decode cX10_told 24 = .ok (.invokevirtual 45, 3) := by decide +kernel
theorem dX10_told_27 : decode cX10_told 27 = .ok (.ifCond .eq 7, 3) := by decide +kernel
theorem dX10_told_30 : decode cX10_told 30 = .ok (.iconst 0, 1) := by decide +kernel
theorem dX10_told_31 : decode cX10_told 31 = .ok (.goto 13, 3) := by decide +kernel
theorem dX10_told_34 : decode cX10_told 34 = .ok (.aload_n 0, 1) := by decide +kernel
theorem dX10_told_35 : decode cX10_told 35 = .ok (.iload_n 1, 1) := by decide +kernel
theorem dX10_told_36 : decode cX10_told 36 = .ok (.invokevirtual 183, 3) := by decide +kernel
theorem dX10_told_39 : decode cX10_told 39 = .ok (.getfield 193, 3) := by decide +kernel
theorem dX10_told_42 : decode cX10_told 42 = .ok (.iload_n 2, 1) := by decide +kernel
theorem dX10_told_43 : decode cX10_told 43 = .ok (.iaload, 1) := by decide +kernel
theorem dX10_told_44 : decode cX10_told 44 = .ok (.ireturn, 1) := by decide +kernel
set_option maxRecDepth 20000 in
theorem ggX10_ranBack_X10_worker : GoodIn wsX10_ranBack wsX10_worker := goodIn_r _ [9, 1, 10, 11, 12, 13, 14, 15, 16, 17, 18, 19, 20, 21, 22, 23, 24, 25, 26, 27, 28, 29, 30, 41, 42, 43, 44, 45, 46, 47, 48, 49, 50, 51, 56, 57, 58] (by decide +kernel) (by decide +kernel)
set_option maxRecDepth 20000 in
theorem gX10_ranBack_X10_worker : GoodIn wsX10_ranBack (wsV RX10 183 RX10 yX10_worker wsX10_worker) := goodIn_app (goodIn_of _ (by decide +kernel)) ggX10_ranBack_X10_worker
set_option maxRecDepth 20000 in
theorem ggX10_ranBack_Jx4a65c_size_8abf5 : GoodIn wsX10_ranBack wsJx4a65c_size_8abf5 := goodIn_r _ [34, 17, 56, 57, 58] (by decide +kernel) (by decide +kernel)
set_option maxRecDepth 20000 in
theorem gX10_ranBack_Jx4a65c_size_8abf5 : GoodIn wsX10_ranBack (wsV RX10 1 RJx4a65c yJx4a65c_size_8abf5 wsJx4a65c_size_8abf5) := goodIn_app (goodIn_of _ (by decide +kernel)) ggX10_ranBack_Jx4a65c_size_8abf5
set_option maxRecDepth 20000 in
theorem ggX10_ranBack_Jx4a65c_get_915e3 : GoodIn wsX10_ranBack wsJx4a65c_get_915e3 := goodIn_r _ [16, 17, 18, 19, 20, 21, 22, 23, 24, 25, 26, 27, 28, 15, 29, 30, 56, 57, 58] (by decide +kernel) (by decide +kernel)
set_option maxRecDepth 20000 in
theorem gX10_ranBack_Jx4a65c_get_915e3 : GoodIn wsX10_ranBack (wsV RX10 7 RJx4a65c yJx4a65c_get_915e3 wsJx4a65c_get_915e3) := goodIn_app (goodIn_of _ (by decide +kernel)) ggX10_ranBack_Jx4a65c_get_915e3
set_option maxRecDepth 20000 in
theorem ggX10_ranBack_J6_intValue_8abf5 : GoodIn wsX10_ranBack wsJ6_intValue_8abf5 := goodIn_r _ [39, 40, 59] (by decide +kernel) (by decide +kernel)
set_option maxRecDepth 20000 in
theorem gX10_ranBack_J6_intValue_8abf5 : GoodIn wsX10_ranBack (wsV RX10 13 RJ6 yJ6_intValue_8abf5 wsJ6_intValue_8abf5) := goodIn_app (goodIn_of _ (by decide +kernel)) ggX10_ranBack_J6_intValue_8abf5
theorem dX10_ranBack_0 : decode cX10_ranBack 0 = .ok (.iload_n 2, 1) := by decide +kernel
theorem dX10_ranBack_1 : decode cX10_ranBack 1 = .ok (.aload_n 0, 1) := by decide +kernel
theorem dX10_ranBack_2 : decode cX10_ranBack 2 = .ok (.getfield 37, 3) := by decide +kernel
theorem dX10_ranBack_5 : decode cX10_ranBack 5 = .ok (.getfield 143, 3) := by decide +kernel
theorem dX10_ranBack_8 : decode cX10_ranBack 8 = .ok (.if_icmp .le 6, 3) := by decide +kernel
theorem dX10_ranBack_11 : decode cX10_ranBack 11 = .ok (.bipush (-2), 2) := by decide +kernel
theorem dX10_ranBack_13 : decode cX10_ranBack 13 = .ok (.ireturn, 1) := by decide +kernel
theorem dX10_ranBack_14 : decode cX10_ranBack 14 = .ok (.aload_n 0, 1) := by decide +kernel
theorem dX10_ranBack_15 : decode cX10_ranBack 15 = .ok (.iload_n 1, 1) := by decide +kernel
theorem dX10_ranBack_16 : decode cX10_ranBack 16 = .ok (.invokevirtual 183, 3) := by decide +kernel
theorem dX10_ranBack_19 : decode cX10_ranBack 19 = .ok (.getfield 196, 3) := by decide +kernel
theorem dX10_ranBack_22 : decode cX10_ranBack 22 = .ok (.astore_n 3, 1) := by decide +kernel
theorem dX10_ranBack_23 : decode cX10_ranBack 23 = .ok (.iload_n 2, 1) := by decide +kernel
theorem dX10_ranBack_24 : decode cX10_ranBack 24 = .ok (.aload_n 3, 1) := by decide +kernel
theorem dX10_ranBack_25 : decode cX10_ranBack 25 = .ok (.invokevirtual 1, 3) := by decide +kernel
theorem dX10_ranBack_28 : decode cX10_ranBack 28 = .ok (.if_icmp .le 7, 3) := by decide +kernel
theorem dX10_ranBack_31 : decode cX10_ranBack 31 = .ok (.iconst (-1), 1) := by decide +kernel
theorem dX10_ranBack_32 : decode cX10_ranBack 32 = .ok (.goto 19, 3) := by decide +kernel
theorem dX10_ranBack_35 : decode cX10_ranBack 35 = .ok (.aload_n 3, 1) := by decide +kernel
theorem dX10_ranBack_36 : decode cX10_ranBack 36 = .ok (.aload_n 3, 1) := by decide +kernel
theorem dX10_ranBack_37 : decode cX10_ranBack 37 = .ok (.invokevirtual 1, 3) := by decide +kernel
theorem dX10_ranBack_40 : decode cX10_ranBack 40 = .ok (.iload_n 2, 1) := by decide +kernel
theorem dX10_ranBack_41 : decode cX10_ranBack 41 = .ok (.isub, 1) := by decide +kernel
theorem dX10_ranBack_42 : decode cX10_ranBack 42 = .ok (.invokevirtual 7, 3) := by decide +kernel
theorem dX10_ranBack_45 : decode cX10_ranBack 45 = .ok (.checkcast 11, 3) := by decide +kernel
theorem dX10_ranBack_48 : decode cX10_ranBack 48 = .ok (.invokevirtual 13, 3) := by decide +kernel
theorem dX10_ranBack_51 : decode cX10_ranBack 51 = .ok (.ireturn, 1) := by decide +kernel
set_option maxRecDepth 20000 in
theorem ggX10_ran_X10_isNoWorker : GoodIn wsX10_ran wsX10_isNoWorker := goodIn_r _ [5, 6, 7, 8, 9, 10, 11, 12, 13, 14, 15, 4, 16, 17, 18, 19, 20, 21, 22, 23, 24, 25, 61, 62, 63, 64, 65, 66, 67, 68, 69, 70, 71, 72, 73, 74] (by decide +kernel) (by decide +kernel)
set_option maxRecDepth 20000 in
theorem gX10_ran_X10_isNoWorker : GoodIn wsX10_ran (wsV RX10 180 RX10 yX10_isNoWorker wsX10_isNoWorker) := goodIn_app (goodIn_of _ (by decide +kernel)) ggX10_ran_X10_isNoWorker
set_option maxRecDepth 20000 in
theorem ggX10_ran_X10_isIn : GoodIn wsX10_ran wsX10_isIn := goodIn_r _ [16] (by decide +kernel) (by decide +kernel)
set_option maxRecDepth 20000 in
theorem gX10_ran_X10_isIn : GoodIn wsX10_ran (va_wsS RX10 56 yX10_isIn wsX10_isIn) := goodIn_app (goodIn_of _ (by decide +kernel)) ggX10_ran_X10_isIn
set_option maxRecDepth 20000 in
theorem ggX10_ran_X10_refuse : GoodIn wsX10_ran wsX10_refuse := goodIn_r _ [25, 21, 61, 62, 63] (by decide +kernel) (by decide +kernel)
set_option maxRecDepth 20000 in
theorem gX10_ran_X10_refuse : GoodIn wsX10_ran (wsV RX10 45 RX10 yX10_refuse wsX10_refuse) := goodIn_app (goodIn_of _ (by decide +kernel)) ggX10_ran_X10_refuse
set_option maxRecDepth 20000 in
theorem ggX10_ran_X10_ranBack : GoodIn wsX10_ran wsX10_ranBack := goodIn_r _ [29, 6, 30, 31, 32, 33, 34, 35, 4, 36, 7, 37, 38, 39, 40, 11, 41, 13, 42, 43, 44, 45, 46, 47, 48, 49, 50, 51, 52, 53, 54, 8, 9, 10, 12, 55, 56, 57, 58, 59, 60, 61, 62, 63, 64, 65, 66, 67, 68, 69, 70, 71, 75, 76, 77, 78, 72, 73, 74, 79] (by decide +kernel) (by decide +kernel)
set_option maxRecDepth 20000 in
theorem gX10_ran_X10_ranBack : GoodIn wsX10_ran (wsV RX10 199 RX10 yX10_ranBack wsX10_ranBack) := goodIn_app (goodIn_of _ (by decide +kernel)) ggX10_ran_X10_ranBack
theorem dX10_ran_0 : decode cX10_ran 0 = .ok (.aload_n 0, 1) := by decide +kernel
theorem dX10_ran_1 : decode cX10_ran 1 = .ok (.iload_n 1, 1) := by decide +kernel
theorem dX10_ran_2 : decode cX10_ran 2 = .ok (.invokevirtual 180, 3) := by decide +kernel
theorem dX10_ran_5 : decode cX10_ran 5 = .ok (.ifCond .ne 26, 3) := by decide +kernel
theorem dX10_ran_8 : decode cX10_ran 8 = .ok (.aload_n 0, 1) := by decide +kernel
theorem dX10_ran_9 : decode cX10_ran 9 = .ok (.iload_n 2, 1) := by decide +kernel
theorem dX10_ran_10 : decode cX10_ran 10 = .ok (.iconst 1, 1) := by decide +kernel
theorem dX10_ran_11 : decode cX10_ran 11 = .ok (.bipush 20, 2) := by decide +kernel
theorem dX10_ran_13 : decode cX10_ran 13 = .ok (.invokestatic 56, 3) := by decide +kernel
theorem dX10_ran_16 : decode cX10_ran 16 = .ok (.ifCond .ne 7, 3) := by decide +kernel
theorem dX10_ran_19 : decode cX10_ran 19 = .ok (.iconst 1, 1) := by decide +kernel
theorem dX10_ran_20 : decode cX10_ran 20 = .ok (.goto 4, 3) := by decide +kernel
theorem dX10_ran_23 : decode cX10_ran 23 = .ok (.iconst 0, 1) := by decide +kernel
theorem dX10_ran_24 : decode cX10_ran 24 = .ok (.iconst 2, 1) := by decide +kernel
theorem dX10_ran_25 : decode cX10_ran 25 = .ok (.invokevirtual 45, 3) := by decide +kernel
theorem dX10_ran_28 : decode cX10_ran 28 = .ok (.ifCond .eq 7, 3) := by decide +kernel
theorem dX10_ran_31 : decode cX10_ran 31 = .ok (.iconst 0, 1) := by decide +kernel
theorem dX10_ran_32 : decode cX10_ran 32 = .ok (.goto 9, 3) := by decide +kernel
theorem dX10_ran_35 : decode cX10_ran 35 = .ok (.aload_n 0, 1) := by decide +kernel
theorem dX10_ran_36 : decode cX10_ran 36 = .ok (.iload_n 1, 1) := by decide +kernel
theorem dX10_ran_37 : decode cX10_ran 37 = .ok (.iload_n 2, 1) := by decide +kernel
theorem dX10_ran_38 : decode cX10_ran 38 = .ok (.invokevirtual 199, 3) := by decide +kernel
theorem dX10_ran_41 : decode cX10_ran 41 = .ok (.ireturn, 1) := by decide +kernel
set_option maxRecDepth 20000 in
theorem ggX10_haltedNow_X7_isHalted : GoodIn wsX10_haltedNow wsX7_isHalted := goodIn_r _ [8, 9, 10, 11, 12, 13, 14, 15, 16, 17, 18, 7, 19, 20, 21, 22, 23, 24, 25, 26, 27, 28, 29, 30, 31, 32, 33, 34, 35, 36, 37, 38, 39, 40, 41, 42, 43, 44, 45, 46, 47, 48, 49, 50, 51, 52, 53, 54, 55, 56, 57, 58, 59, 60, 61, 62, 63, 64, 65, 66, 67, 68, 69, 70, 71, 72, 73, 74, 75, 76, 77, 78, 79, 80, 81, 82, 83, 84, 85, 97, 98, 99, 100, 101, 102, 103, 104, 115, 116, 117, 118, 119, 120, 121, 122, 105, 106, 107, 108, 109, 110, 111, 112, 113, 114] (by decide +kernel) (by decide +kernel)
set_option maxRecDepth 20000 in
theorem gX10_haltedNow_X7_isHalted : GoodIn wsX10_haltedNow (wsV RX10 203 RX7 yX7_isHalted wsX7_isHalted) := goodIn_app (goodIn_of _ (by decide +kernel)) ggX10_haltedNow_X7_isHalted
set_option maxRecDepth 20000 in
theorem ggX10_haltedNow_Jx4a65c_size_8abf5 : GoodIn wsX10_haltedNow wsJx4a65c_size_8abf5 := goodIn_r _ [14, 15, 115, 116, 117] (by decide +kernel) (by decide +kernel)
set_option maxRecDepth 20000 in
theorem gX10_haltedNow_Jx4a65c_size_8abf5 : GoodIn wsX10_haltedNow (wsV RX10 1 RJx4a65c yJx4a65c_size_8abf5 wsJx4a65c_size_8abf5) := goodIn_app (goodIn_of _ (by decide +kernel)) ggX10_haltedNow_Jx4a65c_size_8abf5
set_option maxRecDepth 20000 in
theorem ggX10_haltedNow_X10_task : GoodIn wsX10_haltedNow wsX10_task := goodIn_r _ [91, 1, 2, 92, 93, 31, 32, 13, 33, 15, 34, 35, 36, 37, 38, 39, 40, 41, 42, 43, 44, 45, 46, 94, 95, 96, 97, 98, 99, 100, 101, 102, 103, 104, 115, 116, 117] (by decide +kernel) (by decide +kernel)
set_option maxRecDepth 20000 in
theorem gX10_haltedNow_X10_task : GoodIn wsX10_haltedNow (wsV RX10 120 RX10 yX10_task wsX10_task) := goodIn_app (goodIn_of _ (by decide +kernel)) ggX10_haltedNow_X10_task
theorem dX10_haltedNow_0 : decode cX10_haltedNow 0 = .ok (.aload_n 0, 1) := by decide +kernel
theorem dX10_haltedNow_1 : decode cX10_haltedNow 1 = .ok (.getfield 37, 3) := by decide +kernel
theorem dX10_haltedNow_4 : decode cX10_haltedNow 4 = .ok (.invokevirtual 203, 3) := by decide +kernel
theorem dX10_haltedNow_7 : decode cX10_haltedNow 7 = .ok (.ifCond .ne 5, 3) := by decide +kernel
theorem dX10_haltedNow_10 : decode cX10_haltedNow 10 = .ok (.iconst 0, 1) := by decide +kernel
theorem dX10_haltedNow_11 : decode cX10_haltedNow 11 = .ok (.ireturn, 1) := by decide +kernel
theorem dX10_haltedNow_12 : decode cX10_haltedNow 12 = .ok (.iconst 4, 1) := by decide +kernel
theorem dX10_haltedNow_13 : decode cX10_haltedNow 13 = .ok (.istore_n 1, 1) := by decide +kernel
theorem dX10_haltedNow_14 : decode cX10_haltedNow 14 = .ok (.iconst 0, 1) := by decide +kernel
theorem dX10_haltedNow_15 : decode cX10_haltedNow 15 = .ok (.istore_n 2, 1) := by decide +kernel
theorem dX10_haltedNow_16 : decode cX10_haltedNow 16 = .ok (.iload_n 2, 1) := by decide +kernel
theorem dX10_haltedNow_17 : decode cX10_haltedNow 17 = .ok (.aload_n 0, 1) := by decide +kernel
theorem dX10_haltedNow_18 : decode cX10_haltedNow 18 = .ok (.getfield 37, 3) := by decide +kernel
theorem dX10_haltedNow_21 : decode cX10_haltedNow 21 = .ok (.getfield 60, 3) := by decide +kernel
theorem dX10_haltedNow_24 : decode cX10_haltedNow 24 = .ok (.invokevirtual 1, 3) := by decide +kernel
theorem dX10_haltedNow_27 : decode cX10_haltedNow 27 = .ok (.if_icmp .ge 44, 3) := by decide +kernel
theorem dX10_haltedNow_30 : decode cX10_haltedNow 30 = .ok (.iload_n 1, 1) := by decide +kernel
theorem dX10_haltedNow_31 : decode cX10_haltedNow 31 = .ok (.aload_n 0, 1) := by decide +kernel
theorem dX10_haltedNow_32 : decode cX10_haltedNow 32 = .ok (.iload_n 2, 1) := by decide +kernel
theorem dX10_haltedNow_33 : decode cX10_haltedNow 33 = .ok (.invokevirtual 120, 3) := by decide +kernel
theorem dX10_haltedNow_36 : decode cX10_haltedNow 36 = .ok (.getfield 149, 3) := by decide +kernel
theorem dX10_haltedNow_39 : decode cX10_haltedNow 39 = .ok (.iconst 3, 1) := by decide +kernel
theorem dX10_haltedNow_40 : decode cX10_haltedNow 40 = .ok (.if_icmp .ne 7, 3) := by decide +kernel
theorem dX10_haltedNow_43 : decode cX10_haltedNow 43 = .ok (.iconst 1, 1) := by decide +kernel
theorem dX10_haltedNow_44 : decode cX10_haltedNow 44 = .ok (.goto 19, 3) := by decide +kernel
theorem dX10_haltedNow_47 : decode cX10_haltedNow 47 = .ok (.aload_n 0, 1) := by decide +kernel
theorem dX10_haltedNow_48 : decode cX10_haltedNow 48 = .ok (.iload_n 2, 1) := by decide +kernel
theorem dX10_haltedNow_49 : decode cX10_haltedNow 49 = .ok (.invokevirtual 120, 3) := by decide +kernel
theorem dX10_haltedNow_52 : decode cX10_haltedNow 52 = .ok (.getfield 149, 3) := by decide +kernel
theorem dX10_haltedNow_55 : decode cX10_haltedNow 55 = .ok (.ifCond .ne 7, 3) := by decide +kernel
theorem dX10_haltedNow_58 : decode cX10_haltedNow 58 = .ok (.iconst 2, 1) := by decide +kernel
theorem dX10_haltedNow_59 : decode cX10_haltedNow 59 = .ok (.goto 4, 3) := by decide +kernel
theorem dX10_haltedNow_62 : decode cX10_haltedNow 62 = .ok (.iconst 0, 1) := by decide +kernel
theorem dX10_haltedNow_63 : decode cX10_haltedNow 63 = .ok (.ior, 1) := by decide +kernel
theorem dX10_haltedNow_64 : decode cX10_haltedNow 64 = .ok (.istore_n 1, 1) := by decide +kernel
theorem dX10_haltedNow_65 : decode cX10_haltedNow 65 = .ok (.iinc 2 1, 3) := by decide +kernel
theorem dX10_haltedNow_68 : decode cX10_haltedNow 68 = .ok (.goto (-52), 3) := by decide +kernel
theorem dX10_haltedNow_71 : decode cX10_haltedNow 71 = .ok (.iload_n 1, 1) := by decide +kernel
theorem dX10_haltedNow_72 : decode cX10_haltedNow 72 = .ok (.ireturn, 1) := by decide +kernel
set_option maxRecDepth 20000 in
theorem ggX10_halted_X10_haltedNow : GoodIn wsX10_halted wsX10_haltedNow := goodIn_r _ [5, 6, 7, 8, 9, 10, 11, 12, 13, 14, 15, 16, 17, 18, 19, 20, 21, 22, 23, 24, 25, 26, 27, 28, 29, 30, 31, 32, 33, 34, 35, 36, 37, 38, 39, 40, 41, 42, 43, 44, 45, 46, 47, 48, 49, 50, 51, 52, 53, 54, 55, 56, 57, 58, 59, 60, 61, 62, 63, 64, 65, 66, 67, 68, 69, 70, 71, 72, 73, 74, 75, 76, 77, 78, 79, 80, 81, 82, 83, 84, 85, 86, 87, 88, 89, 90, 91, 92, 93, 94, 4, 95, 96, 97, 103, 104, 105, 106, 107, 108, 109, 110, 111, 112, 113, 114, 115, 116, 117, 118, 119, 120, 121, 122, 123, 124, 125, 126, 127, 128, 129, 130, 131] (by decide +kernel) (by decide +kernel)
set_option maxRecDepth 20000 in
theorem gX10_halted_X10_haltedNow : GoodIn wsX10_halted (wsV RX10 206 RX10 yX10_haltedNow wsX10_haltedNow) := goodIn_app (goodIn_of _ (by decide +kernel)) ggX10_halted_X10_haltedNow
set_option maxRecDepth 20000 in
theorem ggX10_halted_X10_plain : GoodIn wsX10_halted wsX10_plain := goodIn_r _ [101, 102, 103, 104, 105] (by decide +kernel) (by decide +kernel)
set_option maxRecDepth 20000 in
theorem gX10_halted_X10_plain : GoodIn wsX10_halted (wsV RX10 146 RX10 yX10_plain wsX10_plain) := goodIn_app (goodIn_of _ (by decide +kernel)) ggX10_halted_X10_plain
theorem dX10_halted_0 : decode cX10_halted 0 = .ok (.aload_n 0, 1) := by decide +kernel
theorem dX10_halted_1 : decode cX10_halted 1 = .ok (.aload_n 0, 1) := by decide +kernel
theorem dX10_halted_2 : decode cX10_halted 2 = .ok (.invokevirtual 206, 3) := by decide +kernel
theorem dX10_halted_5 : decode cX10_halted 5 = .ok (.invokevirtual 146, 3) := by decide +kernel
theorem dX10_halted_8 : decode cX10_halted 8 = .ok (.ireturn, 1) := by decide +kernel
set_option maxRecDepth 20000 in
theorem ggX10_load_Jx4a65c_size_8abf5 : GoodIn wsX10_load wsJx4a65c_size_8abf5 := goodIn_r _ [9, 10, 49, 50, 51] (by decide +kernel) (by decide +kernel)
set_option maxRecDepth 20000 in
theorem gX10_load_Jx4a65c_size_8abf5 : GoodIn wsX10_load (wsV RX10 1 RJx4a65c yJx4a65c_size_8abf5 wsJx4a65c_size_8abf5) := goodIn_app (goodIn_of _ (by decide +kernel)) ggX10_load_Jx4a65c_size_8abf5
set_option maxRecDepth 20000 in
theorem ggX10_load_X10_worker : GoodIn wsX10_load wsX10_worker := goodIn_r _ [15, 2, 3, 16, 17, 18, 19, 8, 20, 10, 21, 22, 23, 24, 25, 26, 27, 28, 29, 30, 31, 32, 33, 34, 35, 36, 37, 38, 39, 40, 41, 42, 43, 44, 49, 50, 51] (by decide +kernel) (by decide +kernel)
set_option maxRecDepth 20000 in
theorem gX10_load_X10_worker : GoodIn wsX10_load (wsV RX10 183 RX10 yX10_worker wsX10_worker) := goodIn_app (goodIn_of _ (by decide +kernel)) ggX10_load_X10_worker
theorem dX10_load_0 : decode cX10_load 0 = .ok (.aload_n 0, 1) := by decide +kernel
theorem dX10_load_1 : decode cX10_load 1 = .ok (.iconst 0, 1) := by decide +kernel
theorem dX10_load_2 : decode cX10_load 2 = .ok (.putfield 41, 3) := by decide +kernel
theorem dX10_load_5 : decode cX10_load 5 = .ok (.iconst 0, 1) := by decide +kernel
theorem dX10_load_6 : decode cX10_load 6 = .ok (.istore_n 1, 1) := by decide +kernel
theorem dX10_load_7 : decode cX10_load 7 = .ok (.iconst 0, 1) := by decide +kernel
theorem dX10_load_8 : decode cX10_load 8 = .ok (.istore_n 2, 1) := by decide +kernel
theorem dX10_load_9 : decode cX10_load 9 = .ok (.iconst 0, 1) := by decide +kernel
theorem dX10_load_10 : decode cX10_load 10 = .ok (.istore_n 3, 1) := by decide +kernel
theorem dX10_load_11 : decode cX10_load 11 = .ok (.iload_n 3, 1) := by decide +kernel
theorem dX10_load_12 : decode cX10_load 12 = .ok (.aload_n 0, 1) := by decide +kernel
theorem dX10_load_13 : decode cX10_load 13 = .ok (.getfield 37, 3) := by decide +kernel
theorem dX10_load_16 : decode cX10_load 16 = .ok (.getfield 79, 3) := by decide +kernel
theorem dX10_load_19 : decode cX10_load 19 = .ok (.invokevirtual 1, 3) := by decide +kernel
theorem dX10_load_22 : decode cX10_load 22 = .ok (.if_icmp .ge 46, 3) := by decide +kernel
theorem dX10_load_25 : decode cX10_load 25 = .ok (.iload_n 1, 1) := by decide +kernel
theorem dX10_load_26 : decode cX10_load 26 = .ok (.aload_n 0, 1) := by decide +kernel
theorem dX10_load_27 : decode cX10_load 27 = .ok (.iload_n 3, 1) := by decide +kernel
theorem dX10_load_28 : decode cX10_load 28 = .ok (.invokevirtual 183, 3) := by decide +kernel
theorem dX10_load_31 : decode cX10_load 31 = .ok (.getfield 193, 3) := by decide +kernel
theorem dX10_load_34 : decode cX10_load 34 = .ok (.iconst 0, 1) := by decide +kernel
theorem dX10_load_35 : decode cX10_load 35 = .ok (.iaload, 1) := by decide +kernel
theorem dX10_load_36 : decode cX10_load 36 = .ok (.iadd, 1) := by decide +kernel
theorem dX10_load_37 : decode cX10_load 37 = .ok (.istore_n 1, 1) := by decide +kernel
theorem dX10_load_38 : decode cX10_load 38 = .ok (.iload_n 2, 1) := by decide +kernel
theorem dX10_load_39 : decode cX10_load 39 = .ok (.aload_n 0, 1) := by decide +kernel
theorem dX10_load_40 : decode cX10_load 40 = .ok (.iload_n 3, 1) := by decide +kernel
theorem dX10_load_41 : decode cX10_load 41 = .ok (.invokevirtual 183, 3) := by decide +kernel
theorem dX10_load_44 : decode cX10_load 44 = .ok (.getfield 193, 3) := by decide +kernel
theorem dX10_load_47 : decode cX10_load 47 = .ok (.iconst 0, 1) := by decide +kernel
theorem dX10_load_48 : decode cX10_load 48 = .ok (.iaload, 1) := by decide +kernel
theorem dX10_load_49 : decode cX10_load 49 = .ok (.aload_n 0, 1) := by decide +kernel
theorem dX10_load_50 : decode cX10_load 50 = .ok (.iload_n 3, 1) := by decide +kernel
theorem dX10_load_51 : decode cX10_load 51 = .ok (.invokevirtual 183, 3) := by decide +kernel
theorem dX10_load_54 : decode cX10_load 54 = .ok (.getfield 193, 3) := by decide +kernel
theorem dX10_load_57 : decode cX10_load 57 = .ok (.iconst 1, 1) := by decide +kernel
theorem dX10_load_58 : decode cX10_load 58 = .ok (.iaload, 1) := by decide +kernel
theorem dX10_load_59 : decode cX10_load 59 = .ok (.iadd, 1) := by decide +kernel
theorem dX10_load_60 : decode cX10_load 60 = .ok (.iadd, 1) := by decide +kernel
theorem dX10_load_61 : decode cX10_load 61 = .ok (.istore_n 2, 1) := by decide +kernel
theorem dX10_load_62 : decode cX10_load 62 = .ok (.iinc 3 1, 3) := by decide +kernel
theorem dX10_load_65 : decode cX10_load 65 = .ok (.goto (-54), 3) := by decide +kernel
theorem dX10_load_68 : decode cX10_load 68 = .ok (.iload_n 2, 1) := by decide +kernel
theorem dX10_load_69 : decode cX10_load 69 = .ok (.ifCond .ne 7, 3) := by decide +kernel
theorem dX10_load_72 : decode cX10_load 72 = .ok (.dconst 0, 1) := by decide +kernel
theorem dX10_load_73 : decode cX10_load 73 = .ok (.goto 8, 3) := by decide +kernel
theorem dX10_load_76 : decode cX10_load 76 = .ok (.iload_n 1, 1) := by decide +kernel
theorem dX10_load_77 : decode cX10_load 77 = .ok (.i2d, 1) := by decide +kernel
theorem dX10_load_78 : decode cX10_load 78 = .ok (.iload_n 2, 1) := by decide +kernel
theorem dX10_load_79 : decode cX10_load 79 = .ok (.i2d, 1) := by decide +kernel
theorem dX10_load_80 : decode cX10_load 80 = .ok (.ddiv, 1) := by decide +kernel
theorem dX10_load_81 : decode cX10_load 81 = .ok (.dreturn, 1) := by decide +kernel
set_option maxRecDepth 20000 in
theorem ggX10_overIn_X10_isNoTask : GoodIn wsX10_overIn wsX10_isNoTask := goodIn_r _ [8, 1, 2, 9, 10, 11, 12, 13, 14, 15, 16, 7, 17, 18, 19, 20, 21, 22, 23, 24, 25, 26, 357, 358, 359, 360, 361, 362, 363, 364, 365, 366, 367, 368, 369, 370] (by decide +kernel) (by decide +kernel)
set_option maxRecDepth 20000 in
theorem gX10_overIn_X10_isNoTask : GoodIn wsX10_overIn (wsV RX10 117 RX10 yX10_isNoTask wsX10_isNoTask) := goodIn_app (goodIn_of _ (by decide +kernel)) ggX10_overIn_X10_isNoTask
set_option maxRecDepth 20000 in
theorem ggX10_overIn_X10_isIn : GoodIn wsX10_overIn wsX10_isIn := goodIn_r _ [17] (by decide +kernel) (by decide +kernel)
set_option maxRecDepth 20000 in
theorem gX10_overIn_X10_isIn : GoodIn wsX10_overIn (va_wsS RX10 56 yX10_isIn wsX10_isIn) := goodIn_app (goodIn_of _ (by decide +kernel)) ggX10_overIn_X10_isIn
set_option maxRecDepth 20000 in
theorem ggX10_overIn_X10_refuse : GoodIn wsX10_overIn wsX10_refuse := goodIn_r _ [26, 22, 357, 358, 359] (by decide +kernel) (by decide +kernel)
set_option maxRecDepth 20000 in
theorem gX10_overIn_X10_refuse : GoodIn wsX10_overIn (wsV RX10 45 RX10 yX10_refuse wsX10_refuse) := goodIn_app (goodIn_of _ (by decide +kernel)) ggX10_overIn_X10_refuse
set_option maxRecDepth 20000 in
theorem ggX10_overIn_X7_copy : GoodIn wsX10_overIn wsX7_copy := goodIn_r _ [31, 32, 33, 30, 34, 35, 36, 37, 38, 39, 40, 12, 41, 42, 43, 44, 45, 46, 47, 48, 49, 50, 51, 52, 53, 54, 55, 56, 57, 58, 59, 60, 61, 62, 63, 64, 65, 66, 67, 68, 69, 70, 71, 72, 73, 74, 75, 76, 77, 78, 79, 80, 81, 82, 83, 84, 85, 86, 87, 88, 89, 90, 91, 92, 14, 93, 94, 95, 96, 97, 98, 99, 100, 101, 102, 103, 104, 105, 106, 107, 108, 109, 110, 111, 112, 113, 114, 115, 116, 117, 118, 119, 120, 121, 122, 123, 124, 125, 126, 127, 128, 129, 130, 131, 132, 133, 134, 135, 136, 137, 138, 139, 10, 11, 13, 140, 141, 142, 143, 144, 145, 146, 147, 148, 149, 150, 151, 152, 153, 154, 155, 156, 157, 158, 159, 160, 161, 162, 163, 164, 165, 166, 167, 168, 169, 170, 171, 172, 173, 174, 175, 176, 177, 178, 179, 180, 181, 182, 183, 184, 185, 186, 187, 188, 189, 190, 191, 192, 193, 194, 195, 196, 197, 198, 360, 361, 362, 363, 364, 365, 366, 367, 368, 369, 370, 371, 372, 373, 374, 375, 376, 377, 378, 379, 380, 381, 382, 383, 384] (by decide +kernel) (by decide +kernel)
set_option maxRecDepth 20000 in
theorem gX10_overIn_X7_copy : GoodIn wsX10_overIn (wsV RX10 209 RX7 yX7_copy wsX7_copy) := goodIn_app (goodIn_of _ (by decide +kernel)) ggX10_overIn_X7_copy
set_option maxRecDepth 20000 in
theorem ggX10_overIn_Jx4a65c_get_915e3 : GoodIn wsX10_overIn wsJx4a65c_get_915e3 := goodIn_r _ [143, 14, 144, 145, 146, 147, 148, 149, 150, 151, 152, 153, 154, 12, 155, 67, 368, 369, 370] (by decide +kernel) (by decide +kernel)
set_option maxRecDepth 20000 in
theorem gX10_overIn_Jx4a65c_get_915e3 : GoodIn wsX10_overIn (wsV RX10 7 RJx4a65c yJx4a65c_get_915e3 wsJx4a65c_get_915e3) := goodIn_app (goodIn_of _ (by decide +kernel)) ggX10_overIn_Jx4a65c_get_915e3
set_option maxRecDepth 20000 in
theorem ggX10_overIn_X7_tick : GoodIn wsX10_overIn wsX7_tick := goodIn_r _ [207, 37, 38, 208, 51, 139, 10, 11, 12, 13, 14, 209, 210, 211, 30, 212, 35, 36, 213, 214, 215, 216, 48, 140, 141, 142, 143, 144, 145, 146, 147, 148, 149, 150, 151, 152, 153, 154, 155, 67, 217, 218, 219, 220, 49, 221, 222, 223, 62, 224, 83, 225, 226, 227, 228, 229, 230, 231, 232, 233, 234, 235, 236, 237, 238, 239, 240, 159, 241, 167, 242, 243, 244, 245, 246, 247, 41, 248, 249, 250, 251, 252, 253, 50, 254, 255, 256, 257, 258, 259, 260, 261, 262, 91, 92, 263, 136, 137, 138, 264, 265, 266, 267, 268, 269, 270, 271, 272, 273, 274, 275, 276, 277, 278, 279, 56, 57, 87, 88, 89, 90, 93, 94, 95, 96, 97, 98, 99, 100, 101, 102, 103, 104, 66, 105, 106, 107, 108, 109, 110, 111, 112, 113, 114, 115, 116, 117, 118, 119, 120, 121, 122, 123, 124, 125, 126, 127, 128, 129, 130, 131, 132, 133, 134, 135, 280, 281, 282, 283, 284, 285, 286, 287, 34, 288, 289, 290, 291, 292, 293, 294, 42, 59, 295, 296, 297, 298, 299, 300, 301, 302, 7, 303, 304, 9, 199, 305, 306, 307, 308, 309, 310, 311, 312, 313, 314, 315, 316, 317, 318, 319, 320, 321, 322, 162, 323, 175, 176, 177, 165, 40, 166, 172, 163, 164, 178, 64, 65, 68, 69, 70, 71, 72, 73, 74, 75, 76, 77, 324, 325, 326, 327, 328, 329, 330, 331, 332, 201, 202, 203, 333, 334, 335, 336, 337, 338, 339, 340, 341, 342, 168, 343, 344, 345, 346, 347, 348, 349, 350, 351, 352, 353, 354, 355, 356, 360, 361, 362, 363, 364, 365, 366, 367, 371, 372, 373, 374, 368, 369, 370, 375, 376, 377, 378, 379, 380, 381, 382, 383, 384, 385] (by decide +kernel) (by decide +kernel)
set_option maxRecDepth 20000 in
theorem gX10_overIn_X7_tick : GoodIn wsX10_overIn (wsV RX10 137 RX7 yX7_tick wsX7_tick) := goodIn_app (goodIn_of _ (by decide +kernel)) ggX10_overIn_X7_tick
theorem dX10_overIn_0 : decode cX10_overIn 0 = .ok (.aload_n 0, 1) := by decide +kernel
theorem dX10_overIn_1 : decode cX10_overIn 1 = .ok (.iload_n 1, 1) := by decide +kernel
theorem dX10_overIn_2 : decode cX10_overIn 2 = .ok (.invokevirtual 117, 3) := by decide +kernel
theorem dX10_overIn_5 : decode cX10_overIn 5 = .ok (.ifCond .ne 26, 3) := by decide +kernel
theorem dX10_overIn_8 : decode cX10_overIn 8 = .ok (.aload_n 0, 1) := by decide +kernel
theorem dX10_overIn_9 : decode cX10_overIn 9 = .ok (.iload_n 2, 1) := by decide +kernel
theorem dX10_overIn_10 : decode cX10_overIn 10 = .ok (.iconst 1, 1) := by decide +kernel
theorem dX10_overIn_11 : decode cX10_overIn 11 = .ok (.bipush 60, 2) := by decide +kernel
theorem dX10_overIn_13 : decode cX10_overIn 13 = .ok (.invokestatic 56, 3) := by decide +kernel
theorem dX10_overIn_16 : decode cX10_overIn 16 = .ok (.ifCond .ne 7, 3) := by decide +kernel
theorem dX10_overIn_19 : decode cX10_overIn 19 = .ok (.iconst 1, 1) := by decide +kernel
theorem dX10_overIn_20 : decode cX10_overIn 20 = .ok (.goto 4, 3) := by decide +kernel
theorem dX10_overIn_23 : decode cX10_overIn 23 = .ok (.iconst 0, 1) := by decide +kernel
theorem dX10_overIn_24 : decode cX10_overIn 24 = .ok (.iconst 2, 1) := by decide +kernel
theorem dX10_overIn_25 : decode cX10_overIn 25 = .ok (.invokevirtual 45, 3) := by decide +kernel
theorem dX10_overIn_28 : decode cX10_overIn 28 = .ok (.ifCond .eq 5, 3) := by decide +kernel
theorem dX10_overIn_31 : decode cX10_overIn 31 = .ok (.iconst 0, 1) := by decide +kernel
theorem dX10_overIn_32 : decode cX10_overIn 32 = .ok (.ireturn, 1) := by decide +kernel
theorem dX10_overIn_33 : decode cX10_overIn 33 = .ok (.aload_n 0, 1) := by decide +kernel
theorem dX10_overIn_34 : decode cX10_overIn 34 = .ok (.getfield 37, 3) := by decide +kernel
theorem dX10_overIn_37 : decode cX10_overIn 37 = .ok (.invokevirtual 209, 3) := by decide +kernel
theorem dX10_overIn_40 : decode cX10_overIn 40 = .ok (.astore_n 3, 1) := by decide +kernel
theorem dX10_overIn_41 : decode cX10_overIn 41 = .ok (.iconst 0, 1) := by decide +kernel
theorem dX10_overIn_42 : decode cX10_overIn 42 = .ok (.istore 4, 2) := by decide +kernel
theorem dX10_overIn_44 : decode cX10_overIn 44 = .ok (.iload 4, 2) := by decide +kernel
theorem dX10_overIn_46 : decode cX10_overIn 46 = .ok (.iload_n 2, 1) := by decide +kernel
theorem dX10_overIn_47 : decode cX10_overIn 47 = .ok (.if_icmp .gt 39, 3) := by decide +kernel
theorem dX10_overIn_50 : decode cX10_overIn 50 = .ok (.aload_n 3, 1) := by decide +kernel
theorem dX10_overIn_51 : decode cX10_overIn 51 = .ok (.getfield 60, 3) := by decide +kernel
theorem dX10_overIn_54 : decode cX10_overIn 54 = .ok (.iload_n 1, 1) := by decide +kernel
theorem dX10_overIn_55 : decode cX10_overIn 55 = .ok (.invokevirtual 7, 3) := by decide +kernel
theorem dX10_overIn_58 : decode cX10_overIn 58 = .ok (.checkcast 63, 3) := by decide +kernel
theorem dX10_overIn_61 : decode cX10_overIn 61 = .ok (.invokevirtual 124, 3) := by decide +kernel
theorem dX10_overIn_64 : decode cX10_overIn 64 = .ok (.ifCond .eq 6, 3) := by decide +kernel
theorem dX10_overIn_67 : decode cX10_overIn 67 = .ok (.iload 4, 2) := by decide +kernel
theorem dX10_overIn_69 : decode cX10_overIn 69 = .ok (.ireturn, 1) := by decide +kernel
theorem dX10_overIn_70 : decode cX10_overIn 70 = .ok (.iload 4, 2) := by decide +kernel
theorem dX10_overIn_72 : decode cX10_overIn 72 = .ok (.iload_n 2, 1) := by decide +kernel
theorem dX10_overIn_73 : decode cX10_overIn 73 = .ok (.if_icmp .ge 7, 3) := by decide +kernel
theorem dX10_overIn_76 : decode cX10_overIn 76 = .ok (.aload_n 3, 1) := by decide +kernel
theorem dX10_overIn_77 : decode cX10_overIn 77 = .ok (.invokevirtual 137, 3) := by decide +kernel
theorem dX10_overIn_80 : decode cX10_overIn 80 = .ok (.iinc 4 1, 3) := by decide +kernel
theorem dX10_overIn_83 : decode cX10_overIn 83 = .ok (.goto (-39), 3) := by decide +kernel
theorem dX10_overIn_86 : decode cX10_overIn 86 = .ok (.iconst (-1), 1) := by decide +kernel
theorem dX10_overIn_87 : decode cX10_overIn 87 = .ok (.ireturn, 1) := by decide +kernel
set_option maxRecDepth 20000 in
theorem ggX10_valueIn_X10_isNoTask : GoodIn wsX10_valueIn wsX10_isNoTask := goodIn_r _ [9, 1, 2, 10, 11, 12, 13, 14, 15, 16, 17, 8, 18, 19, 20, 21, 22, 23, 24, 25, 26, 27, 357, 358, 359, 360, 361, 362, 363, 364, 365, 366, 367, 378, 379, 380] (by decide +kernel) (by decide +kernel)
set_option maxRecDepth 20000 in
theorem gX10_valueIn_X10_isNoTask : GoodIn wsX10_valueIn (wsV RX10 117 RX10 yX10_isNoTask wsX10_isNoTask) := goodIn_app (goodIn_of _ (by decide +kernel)) ggX10_valueIn_X10_isNoTask
set_option maxRecDepth 20000 in
theorem ggX10_valueIn_X10_isIn : GoodIn wsX10_valueIn wsX10_isIn := goodIn_r _ [18] (by decide +kernel) (by decide +kernel)
set_option maxRecDepth 20000 in
theorem gX10_valueIn_X10_isIn : GoodIn wsX10_valueIn (va_wsS RX10 56 yX10_isIn wsX10_isIn) := goodIn_app (goodIn_of _ (by decide +kernel)) ggX10_valueIn_X10_isIn
set_option maxRecDepth 20000 in
theorem ggX10_valueIn_X10_refuse : GoodIn wsX10_valueIn wsX10_refuse := goodIn_r _ [27, 23, 357, 358, 359] (by decide +kernel) (by decide +kernel)
set_option maxRecDepth 20000 in
theorem gX10_valueIn_X10_refuse : GoodIn wsX10_valueIn (wsV RX10 45 RX10 yX10_refuse wsX10_refuse) := goodIn_app (goodIn_of _ (by decide +kernel)) ggX10_valueIn_X10_refuse
set_option maxRecDepth 20000 in
theorem ggX10_valueIn_X7_copy : GoodIn wsX10_valueIn wsX7_copy := goodIn_r _ [32, 33, 34, 31, 35, 36, 37, 38, 39, 40, 41, 13, 42, 43, 44, 45, 46, 47, 48, 49, 50, 51, 52, 53, 54, 55, 56, 57, 58, 59, 60, 61, 62, 63, 64, 65, 66, 67, 68, 69, 70, 71, 72, 73, 74, 75, 76, 77, 78, 79, 80, 81, 82, 83, 84, 85, 86, 87, 88, 89, 90, 91, 92, 93, 15, 94, 95, 96, 97, 98, 99, 100, 101, 102, 103, 104, 105, 106, 107, 108, 109, 110, 111, 112, 113, 114, 115, 116, 117, 118, 119, 120, 121, 122, 123, 124, 125, 126, 127, 128, 129, 130, 131, 132, 133, 134, 135, 136, 137, 138, 139, 140, 11, 12, 14, 141, 142, 143, 144, 145, 146, 147, 148, 149, 150, 151, 152, 153, 154, 155, 156, 157, 158, 159, 160, 161, 162, 163, 164, 165, 166, 167, 168, 169, 170, 171, 172, 173, 174, 175, 176, 177, 178, 179, 180, 181, 182, 183, 184, 185, 186, 187, 188, 189, 190, 191, 192, 193, 194, 195, 196, 197, 198, 199, 360, 361, 362, 363, 364, 365, 366, 367, 378, 379, 380, 381, 382, 383, 384, 368, 369, 370, 371, 372, 373, 374, 375, 376, 377] (by decide +kernel) (by decide +kernel)
set_option maxRecDepth 20000 in
theorem gX10_valueIn_X7_copy : GoodIn wsX10_valueIn (wsV RX10 209 RX7 yX7_copy wsX7_copy) := goodIn_app (goodIn_of _ (by decide +kernel)) ggX10_valueIn_X7_copy
set_option maxRecDepth 20000 in
theorem ggX10_valueIn_X7_tick : GoodIn wsX10_valueIn wsX7_tick := goodIn_r _ [203, 38, 39, 204, 52, 140, 11, 12, 13, 14, 15, 205, 206, 207, 31, 208, 36, 37, 209, 210, 211, 212, 49, 141, 142, 143, 144, 145, 146, 147, 148, 149, 150, 151, 152, 153, 154, 155, 156, 68, 213, 214, 215, 216, 50, 217, 218, 219, 63, 220, 84, 221, 222, 223, 224, 225, 226, 227, 228, 229, 230, 231, 232, 233, 234, 235, 236, 160, 237, 168, 238, 239, 240, 241, 242, 243, 42, 244, 245, 246, 247, 248, 249, 51, 250, 251, 252, 253, 254, 255, 256, 257, 258, 92, 93, 259, 137, 138, 139, 260, 261, 262, 263, 264, 265, 266, 267, 268, 269, 270, 271, 272, 273, 274, 275, 57, 58, 88, 89, 90, 91, 94, 95, 96, 97, 98, 99, 100, 101, 102, 103, 104, 105, 67, 106, 107, 108, 109, 110, 111, 112, 113, 114, 115, 116, 117, 118, 119, 120, 121, 122, 123, 124, 125, 126, 127, 128, 129, 130, 131, 132, 133, 134, 135, 136, 276, 277, 278, 279, 280, 281, 282, 283, 35, 284, 285, 286, 287, 288, 289, 290, 43, 60, 291, 292, 293, 294, 295, 296, 297, 298, 8, 299, 300, 10, 301, 302, 303, 304, 305, 306, 307, 308, 309, 310, 311, 312, 313, 314, 315, 316, 317, 318, 319, 163, 320, 176, 177, 178, 166, 41, 167, 173, 164, 165, 179, 65, 66, 69, 70, 71, 72, 73, 74, 75, 76, 77, 78, 321, 322, 323, 324, 325, 326, 327, 328, 329, 330, 331, 332, 333, 334, 335, 336, 337, 338, 339, 340, 341, 342, 169, 343, 344, 345, 346, 347, 348, 349, 350, 351, 352, 353, 354, 355, 356, 360, 361, 362, 363, 364, 365, 366, 367, 381, 382, 383, 384, 378, 379, 380, 368, 369, 370, 371, 372, 373, 374, 375, 376, 377, 385] (by decide +kernel) (by decide +kernel)
set_option maxRecDepth 20000 in
theorem gX10_valueIn_X7_tick : GoodIn wsX10_valueIn (wsV RX10 137 RX7 yX7_tick wsX7_tick) := goodIn_app (goodIn_of _ (by decide +kernel)) ggX10_valueIn_X7_tick
set_option maxRecDepth 20000 in
theorem ggX10_valueIn_Jx4a65c_get_915e3 : GoodIn wsX10_valueIn wsJx4a65c_get_915e3 := goodIn_r _ [144, 15, 145, 146, 147, 148, 149, 150, 151, 152, 153, 154, 155, 13, 156, 68, 378, 379, 380] (by decide +kernel) (by decide +kernel)
set_option maxRecDepth 20000 in
theorem gX10_valueIn_Jx4a65c_get_915e3 : GoodIn wsX10_valueIn (wsV RX10 7 RJx4a65c yJx4a65c_get_915e3 wsJx4a65c_get_915e3) := goodIn_app (goodIn_of _ (by decide +kernel)) ggX10_valueIn_Jx4a65c_get_915e3
theorem dX10_valueIn_0 : decode cX10_valueIn 0 = .ok (.aload_n 0, 1) := by decide +kernel
theorem dX10_valueIn_1 : decode cX10_valueIn 1 = .ok (.iload_n 1, 1) := by decide +kernel
theorem dX10_valueIn_2 : decode cX10_valueIn 2 = .ok (.invokevirtual 117, 3) := by decide +kernel
theorem dX10_valueIn_5 : decode cX10_valueIn 5 = .ok (.ifCond .ne 26, 3) := by decide +kernel
theorem dX10_valueIn_8 : decode cX10_valueIn 8 = .ok (.aload_n 0, 1) := by decide +kernel
theorem dX10_valueIn_9 : decode cX10_valueIn 9 = .ok (.iload_n 2, 1) := by decide +kernel
theorem dX10_valueIn_10 : decode cX10_valueIn 10 = .ok (.iconst 1, 1) := by decide +kernel
theorem dX10_valueIn_11 : decode cX10_valueIn 11 = .ok (.bipush 60, 2) := by decide +kernel
theorem dX10_valueIn_13 : decode cX10_valueIn 13 = .ok (.invokestatic 56, 3) := by decide +kernel
theorem dX10_valueIn_16 : decode cX10_valueIn 16 = .ok (.ifCond .ne 7, 3) := by decide +kernel
theorem dX10_valueIn_19 : decode cX10_valueIn 19 = .ok (.iconst 1, 1) := by decide +kernel
theorem dX10_valueIn_20 : decode cX10_valueIn 20 = .ok (.goto 4, 3) := by decide +kernel
theorem dX10_valueIn_23 : decode cX10_valueIn 23 = .ok (.iconst 0, 1) := by decide +kernel
theorem dX10_valueIn_24 : decode cX10_valueIn 24 = .ok (.iconst 2, 1) := by decide +kernel
theorem dX10_valueIn_25 : decode cX10_valueIn 25 = .ok (.invokevirtual 45, 3) := by decide +kernel
theorem dX10_valueIn_28 : decode cX10_valueIn 28 = .ok (.ifCond .eq 5, 3) := by decide +kernel
theorem dX10_valueIn_31 : decode cX10_valueIn 31 = .ok (.iconst 0, 1) := by decide +kernel
theorem dX10_valueIn_32 : decode cX10_valueIn 32 = .ok (.ireturn, 1) := by decide +kernel
theorem dX10_valueIn_33 : decode cX10_valueIn 33 = .ok (.aload_n 0, 1) := by decide +kernel
theorem dX10_valueIn_34 : decode cX10_valueIn 34 = .ok (.getfield 37, 3) := by decide +kernel
theorem dX10_valueIn_37 : decode cX10_valueIn 37 = .ok (.invokevirtual 209, 3) := by decide +kernel
theorem dX10_valueIn_40 : decode cX10_valueIn 40 = .ok (.astore_n 3, 1) := by decide +kernel
theorem dX10_valueIn_41 : decode cX10_valueIn 41 = .ok (.iconst 0, 1) := by decide +kernel
theorem dX10_valueIn_42 : decode cX10_valueIn 42 = .ok (.istore 4, 2) := by decide +kernel
theorem dX10_valueIn_44 : decode cX10_valueIn 44 = .ok (.iload 4, 2) := by decide +kernel
theorem dX10_valueIn_46 : decode cX10_valueIn 46 = .ok (.iload_n 2, 1) := by decide +kernel
theorem dX10_valueIn_47 : decode cX10_valueIn 47 = .ok (.if_icmp .ge 13, 3) := by decide +kernel
theorem dX10_valueIn_50 : decode cX10_valueIn 50 = .ok (.aload_n 3, 1) := by decide +kernel
theorem dX10_valueIn_51 : decode cX10_valueIn 51 = .ok (.invokevirtual 137, 3) := by decide +kernel
theorem dX10_valueIn_54 : decode cX10_valueIn 54 = .ok (.iinc 4 1, 3) := by decide +kernel
theorem dX10_valueIn_57 : decode cX10_valueIn 57 = .ok (.goto (-13), 3) := by decide +kernel
theorem dX10_valueIn_60 : decode cX10_valueIn 60 = .ok (.aload_n 3, 1) := by decide +kernel
theorem dX10_valueIn_61 : decode cX10_valueIn 61 = .ok (.getfield 60, 3) := by decide +kernel
theorem dX10_valueIn_64 : decode cX10_valueIn 64 = .ok (.iload_n 1, 1) := by decide +kernel
theorem dX10_valueIn_65 : decode cX10_valueIn 65 = .ok (.invokevirtual 7, 3) := by decide +kernel
theorem dX10_valueIn_68 : decode cX10_valueIn 68 = .ok (.checkcast 63, 3) := by decide +kernel
theorem dX10_valueIn_71 : decode cX10_valueIn 71 = .ok (.getfield 152, 3) := by decide +kernel
theorem dX10_valueIn_74 : decode cX10_valueIn 74 = .ok (.ireturn, 1) := by decide +kernel
set_option maxRecDepth 20000 in
theorem ggX10_haltsIn_X10_isIn : GoodIn wsX10_haltsIn wsX10_isIn := goodIn_r _ [5] (by decide +kernel) (by decide +kernel)
set_option maxRecDepth 20000 in
theorem gX10_haltsIn_X10_isIn : GoodIn wsX10_haltsIn (va_wsS RX10 56 yX10_isIn wsX10_isIn) := goodIn_app (goodIn_of _ (by decide +kernel)) ggX10_haltsIn_X10_isIn
set_option maxRecDepth 20000 in
theorem ggX10_haltsIn_X10_start : GoodIn wsX10_haltsIn wsX10_start := goodIn_r _ [9, 10, 11, 12, 13, 4, 14, 362, 363, 364] (by decide +kernel) (by decide +kernel)
set_option maxRecDepth 20000 in
theorem gX10_haltsIn_X10_start : GoodIn wsX10_haltsIn (wsV RX10 49 RX10 yX10_start wsX10_start) := goodIn_app (goodIn_of _ (by decide +kernel)) ggX10_haltsIn_X10_start
set_option maxRecDepth 20000 in
theorem ggX10_haltsIn_X7_copy : GoodIn wsX10_haltsIn wsX7_copy := goodIn_r _ [19, 20, 21, 18, 22, 23, 24, 25, 26, 27, 28, 29, 30, 31, 32, 33, 34, 35, 36, 37, 38, 39, 40, 41, 42, 43, 44, 45, 46, 47, 48, 49, 50, 51, 52, 53, 54, 55, 56, 57, 58, 59, 60, 61, 62, 63, 64, 65, 66, 67, 68, 69, 70, 71, 72, 73, 74, 75, 76, 77, 78, 79, 80, 81, 82, 83, 84, 85, 86, 87, 88, 89, 90, 91, 92, 93, 94, 95, 96, 97, 98, 99, 100, 101, 102, 103, 104, 105, 106, 107, 108, 109, 110, 111, 112, 113, 114, 115, 116, 117, 118, 119, 120, 121, 122, 123, 124, 125, 126, 127, 128, 129, 130, 131, 132, 133, 134, 135, 136, 137, 138, 139, 140, 141, 142, 143, 144, 145, 146, 147, 148, 149, 150, 151, 152, 153, 154, 155, 156, 157, 158, 159, 160, 161, 162, 163, 164, 165, 166, 167, 168, 169, 170, 171, 172, 173, 174, 175, 176, 177, 178, 179, 180, 181, 182, 183, 184, 185, 186, 187, 188, 189, 190, 191, 365, 366, 367, 368, 369, 370, 371, 372, 373, 374, 375, 376, 377, 378, 379, 380, 381, 382, 383, 384, 385, 386, 387, 388, 389] (by decide +kernel) (by decide +kernel)
set_option maxRecDepth 20000 in
theorem gX10_haltsIn_X7_copy : GoodIn wsX10_haltsIn (wsV RX10 209 RX7 yX7_copy wsX7_copy) := goodIn_app (goodIn_of _ (by decide +kernel)) ggX10_haltsIn_X7_copy
set_option maxRecDepth 20000 in
theorem ggX10_haltsIn_X7_isHalted : GoodIn wsX10_haltsIn wsX7_isHalted := goodIn_r _ [195, 25, 129, 130, 131, 29, 132, 82, 196, 197, 198, 18, 199, 26, 200, 30, 23, 24, 201, 202, 203, 204, 38, 133, 134, 135, 136, 137, 138, 139, 140, 141, 142, 143, 144, 145, 146, 147, 148, 56, 205, 206, 207, 51, 208, 72, 209, 210, 211, 212, 213, 214, 215, 216, 217, 218, 219, 220, 221, 222, 223, 224, 152, 225, 160, 226, 227, 228, 229, 230, 39, 231, 232, 233, 234, 235, 236, 237, 238, 365, 366, 367, 368, 369, 370, 371, 372, 373, 374, 375, 376, 377, 378, 379, 390, 380, 381, 382, 383, 384, 385, 386, 387, 388, 389] (by decide +kernel) (by decide +kernel)
set_option maxRecDepth 20000 in
theorem gX10_haltsIn_X7_isHalted : GoodIn wsX10_haltsIn (wsV RX10 203 RX7 yX7_isHalted wsX7_isHalted) := goodIn_app (goodIn_of _ (by decide +kernel)) ggX10_haltsIn_X7_isHalted
set_option maxRecDepth 20000 in
theorem ggX10_haltsIn_X7_tick : GoodIn wsX10_haltsIn wsX7_tick := goodIn_r _ [242, 25, 26, 243, 40, 129, 130, 131, 29, 132, 82, 244, 245, 246, 18, 247, 23, 24, 248, 249, 250, 251, 37, 133, 134, 135, 136, 137, 138, 139, 140, 141, 142, 143, 144, 145, 146, 147, 148, 56, 201, 202, 203, 204, 38, 205, 206, 207, 51, 208, 72, 209, 210, 211, 212, 213, 214, 215, 216, 217, 218, 219, 220, 221, 222, 223, 224, 152, 225, 160, 252, 253, 254, 255, 200, 256, 30, 257, 258, 227, 228, 229, 230, 39, 226, 259, 260, 261, 262, 263, 264, 265, 266, 80, 81, 267, 126, 127, 128, 268, 269, 270, 271, 272, 273, 274, 275, 276, 277, 278, 279, 280, 281, 282, 283, 45, 46, 76, 77, 78, 79, 83, 84, 85, 86, 87, 88, 89, 90, 91, 92, 93, 94, 55, 95, 96, 97, 98, 99, 100, 101, 102, 103, 104, 105, 106, 107, 108, 109, 110, 111, 112, 113, 114, 115, 116, 117, 118, 119, 120, 121, 122, 123, 124, 125, 284, 285, 286, 287, 288, 289, 290, 291, 22, 292, 293, 294, 295, 296, 297, 298, 31, 48, 299, 300, 301, 302, 303, 304, 305, 306, 4, 307, 308, 309, 310, 311, 312, 313, 314, 315, 316, 317, 318, 319, 320, 321, 322, 323, 324, 325, 326, 327, 328, 155, 329, 168, 169, 170, 158, 28, 159, 165, 156, 157, 171, 53, 54, 57, 58, 59, 60, 61, 62, 63, 64, 65, 66, 330, 331, 332, 333, 334, 335, 336, 337, 235, 236, 237, 238, 338, 339, 340, 341, 342, 343, 344, 345, 346, 347, 161, 348, 349, 350, 351, 352, 353, 354, 355, 356, 357, 358, 359, 360, 361, 365, 366, 367, 368, 369, 370, 371, 372, 376, 377, 378, 379, 373, 374, 375, 380, 381, 382, 383, 384, 385, 386, 387, 388, 389, 390] (by decide +kernel) (by decide +kernel)
set_option maxRecDepth 20000 in
theorem gX10_haltsIn_X7_tick : GoodIn wsX10_haltsIn (wsV RX10 137 RX7 yX7_tick wsX7_tick) := goodIn_app (goodIn_of _ (by decide +kernel)) ggX10_haltsIn_X7_tick
theorem dX10_haltsIn_0 : decode cX10_haltsIn 0 = .ok (.aload_n 0, 1) := by decide +kernel
theorem dX10_haltsIn_1 : decode cX10_haltsIn 1 = .ok (.iload_n 1, 1) := by decide +kernel
theorem dX10_haltsIn_2 : decode cX10_haltsIn 2 = .ok (.iconst 1, 1) := by decide +kernel
theorem dX10_haltsIn_3 : decode cX10_haltsIn 3 = .ok (.bipush 60, 2) := by decide +kernel
theorem dX10_haltsIn_5 : decode cX10_haltsIn 5 = .ok (.invokestatic 56, 3) := by decide +kernel
theorem dX10_haltsIn_8 : decode cX10_haltsIn 8 = .ok (.ifCond .ne 7, 3) := by decide +kernel
theorem dX10_haltsIn_11 : decode cX10_haltsIn 11 = .ok (.iconst 1, 1) := by decide +kernel
theorem dX10_haltsIn_12 : decode cX10_haltsIn 12 = .ok (.goto 4, 3) := by decide +kernel
theorem dX10_haltsIn_15 : decode cX10_haltsIn 15 = .ok (.iconst 0, 1) := by decide +kernel
theorem dX10_haltsIn_16 : decode cX10_haltsIn 16 = .ok (.iconst 1, 1) := by decide +kernel
theorem dX10_haltsIn_17 : decode cX10_haltsIn 17 = .ok (.invokevirtual 49, 3) := by decide +kernel
theorem dX10_haltsIn_20 : decode cX10_haltsIn 20 = .ok (.ifCond .eq 5, 3) := by decide +kernel
theorem dX10_haltsIn_23 : decode cX10_haltsIn 23 = .ok (.iconst 0, 1) := by decide +kernel
theorem dX10_haltsIn_24 : decode cX10_haltsIn 24 = .ok (.ireturn, 1) := by decide +kernel
theorem dX10_haltsIn_25 : decode cX10_haltsIn 25 = .ok (.aload_n 0, 1) := by decide +kernel
theorem dX10_haltsIn_26 : decode cX10_haltsIn 26 = .ok (.getfield 37, 3) := by decide +kernel
theorem dX10_haltsIn_29 : decode cX10_haltsIn 29 = .ok (.invokevirtual 209, 3) := by decide +kernel
theorem dX10_haltsIn_32 : decode cX10_haltsIn 32 = .ok (.astore_n 2, 1) := by decide +kernel
theorem dX10_haltsIn_33 : decode cX10_haltsIn 33 = .ok (.iconst 0, 1) := by decide +kernel
theorem dX10_haltsIn_34 : decode cX10_haltsIn 34 = .ok (.istore_n 3, 1) := by decide +kernel
theorem dX10_haltsIn_35 : decode cX10_haltsIn 35 = .ok (.iload_n 3, 1) := by decide +kernel
theorem dX10_haltsIn_36 : decode cX10_haltsIn 36 = .ok (.iload_n 1, 1) := by decide +kernel
theorem dX10_haltsIn_37 : decode cX10_haltsIn 37 = .ok (.if_icmp .gt 27, 3) := by decide +kernel
theorem dX10_haltsIn_40 : decode cX10_haltsIn 40 = .ok (.aload_n 2, 1) := by decide +kernel
theorem dX10_haltsIn_41 : decode cX10_haltsIn 41 = .ok (.invokevirtual 203, 3) := by decide +kernel
theorem dX10_haltsIn_44 : decode cX10_haltsIn 44 = .ok (.ifCond .eq 5, 3) := by decide +kernel
theorem dX10_haltsIn_47 : decode cX10_haltsIn 47 = .ok (.iload_n 3, 1) := by decide +kernel
theorem dX10_haltsIn_48 : decode cX10_haltsIn 48 = .ok (.ireturn, 1) := by decide +kernel
theorem dX10_haltsIn_49 : decode cX10_haltsIn 49 = .ok (.iload_n 3, 1) := by decide +kernel
theorem dX10_haltsIn_50 : decode cX10_haltsIn 50 = .ok (.iload_n 1, 1) := by decide +kernel
theorem dX10_haltsIn_51 : decode cX10_haltsIn 51 = .ok (.if_icmp .ge 7, 3) := by decide +kernel
theorem dX10_haltsIn_54 : decode cX10_haltsIn 54 = .ok (.aload_n 2, 1) := by decide +kernel
theorem dX10_haltsIn_55 : decode cX10_haltsIn 55 = .ok (.invokevirtual 137, 3) := by decide +kernel
theorem dX10_haltsIn_58 : decode cX10_haltsIn 58 = .ok (.iinc 3 1, 3) := by decide +kernel
theorem dX10_haltsIn_61 : decode cX10_haltsIn 61 = .ok (.goto (-26), 3) := by decide +kernel
theorem dX10_haltsIn_64 : decode cX10_haltsIn 64 = .ok (.iconst (-1), 1) := by decide +kernel
theorem dX10_haltsIn_65 : decode cX10_haltsIn 65 = .ok (.ireturn, 1) := by decide +kernel
set_option maxRecDepth 20000 in
theorem ggX10_alone_X10_isNoJob : GoodIn wsX10_alone wsX10_isNoJob := goodIn_r _ [13, 4, 14, 15, 16, 17, 18, 19, 20, 21, 12, 22, 332, 333, 334, 335, 336, 337] (by decide +kernel) (by decide +kernel)
set_option maxRecDepth 20000 in
theorem gX10_alone_X10_isNoJob : GoodIn wsX10_alone (wsV RX10 68 RX10 yX10_isNoJob wsX10_isNoJob) := goodIn_app (goodIn_of _ (by decide +kernel)) ggX10_alone_X10_isNoJob
set_option maxRecDepth 20000 in
theorem ggX10_alone_X10_start : GoodIn wsX10_alone wsX10_start := goodIn_r _ [26, 27, 28, 29, 30, 12, 31, 332, 333, 334] (by decide +kernel) (by decide +kernel)
set_option maxRecDepth 20000 in
theorem gX10_alone_X10_start : GoodIn wsX10_alone (wsV RX10 49 RX10 yX10_start wsX10_start) := goodIn_app (goodIn_of _ (by decide +kernel)) ggX10_alone_X10_start
set_option maxRecDepth 20000 in
theorem ggX10_alone_X10_isIn : GoodIn wsX10_alone wsX10_isIn := goodIn_r _ [22] (by decide +kernel) (by decide +kernel)
set_option maxRecDepth 20000 in
theorem gX10_alone_X10_isIn : GoodIn wsX10_alone (va_wsS RX10 56 yX10_isIn wsX10_isIn) := goodIn_app (goodIn_of _ (by decide +kernel)) ggX10_alone_X10_isIn
set_option maxRecDepth 20000 in
theorem ggX10_alone_X10_refuse : GoodIn wsX10_alone wsX10_refuse := goodIn_r _ [31, 27, 332, 333, 334] (by decide +kernel) (by decide +kernel)
set_option maxRecDepth 20000 in
theorem gX10_alone_X10_refuse : GoodIn wsX10_alone (wsV RX10 45 RX10 yX10_refuse wsX10_refuse) := goodIn_app (goodIn_of _ (by decide +kernel)) ggX10_alone_X10_refuse
set_option maxRecDepth 20000 in
theorem ggX10_alone_X7_init : GoodIn wsX10_alone wsX7_init := goodIn_r _ [34, 35, 36, 37, 38, 39, 17, 40, 41, 42, 43, 44, 45, 46, 47, 48, 49, 50, 51, 52, 53, 54, 55, 56, 57, 58, 59, 60, 61, 62, 63, 64, 65, 66, 67, 68, 69, 70, 71, 72, 73, 74, 75, 76, 77, 78, 79, 19, 80, 81, 82, 83, 84, 85, 86, 87, 88, 89, 90, 91, 92, 93, 94, 95, 96, 97, 98, 99, 100, 101, 102, 103, 104, 105, 106, 107, 108, 109, 110, 111, 112, 113, 114, 115, 116, 117, 118, 119, 120, 121, 122, 123, 124, 125, 335, 336, 337, 324, 325, 326, 327, 328, 329, 330, 331, 338, 339, 340, 341] (by decide +kernel) (by decide +kernel)
set_option maxRecDepth 20000 in
theorem gX10_alone_X7_init : GoodIn wsX10_alone (wsX7_init) := ggX10_alone_X7_init
set_option maxRecDepth 20000 in
theorem ggX10_alone_X7_tick : GoodIn wsX10_alone wsX7_tick := goodIn_r _ [164, 41, 165, 166, 167, 133, 15, 16, 17, 18, 19, 168, 169, 170, 3, 171, 40, 172, 173, 174, 175, 176, 177, 178, 179, 180, 181, 182, 183, 184, 185, 186, 187, 188, 189, 190, 191, 192, 193, 54, 194, 195, 196, 197, 198, 199, 200, 201, 49, 202, 70, 203, 204, 205, 206, 207, 208, 209, 210, 211, 212, 146, 213, 155, 214, 215, 216, 132, 217, 218, 219, 220, 221, 222, 223, 224, 42, 225, 226, 227, 228, 229, 230, 231, 232, 233, 234, 235, 236, 237, 238, 239, 240, 78, 79, 241, 123, 124, 125, 242, 144, 145, 147, 148, 149, 150, 151, 152, 153, 154, 156, 157, 158, 159, 160, 36, 37, 74, 75, 76, 77, 80, 81, 82, 83, 84, 85, 86, 87, 88, 89, 90, 91, 53, 92, 93, 94, 95, 96, 97, 98, 99, 100, 101, 102, 103, 104, 105, 106, 107, 108, 109, 110, 111, 112, 113, 114, 115, 116, 117, 118, 119, 120, 121, 122, 243, 244, 245, 246, 247, 248, 249, 250, 45, 251, 252, 253, 254, 255, 256, 257, 44, 46, 258, 259, 260, 261, 262, 263, 264, 265, 12, 266, 267, 14, 268, 269, 270, 271, 272, 273, 274, 275, 276, 277, 278, 279, 280, 281, 282, 127, 128, 129, 130, 131, 134, 135, 136, 137, 138, 39, 139, 140, 141, 142, 143, 51, 52, 55, 56, 57, 58, 59, 60, 61, 62, 63, 64, 283, 284, 285, 286, 287, 288, 289, 290, 291, 292, 293, 294, 295, 296, 297, 298, 299, 300, 301, 302, 303, 304, 305, 306, 307, 308, 309, 310, 311, 312, 313, 314, 315, 316, 317, 318, 319, 324, 325, 326, 327, 328, 329, 330, 331, 338, 339, 340, 341, 335, 336, 337, 342, 343, 344, 345, 346, 347, 348, 349, 350, 351, 352] (by decide +kernel) (by decide +kernel)
set_option maxRecDepth 20000 in
theorem gX10_alone_X7_tick : GoodIn wsX10_alone (wsV RX10 137 RX7 yX7_tick wsX7_tick) := goodIn_app (goodIn_of _ (by decide +kernel)) ggX10_alone_X7_tick
set_option maxRecDepth 20000 in
theorem ggX10_alone_X7_open : GoodIn wsX10_alone wsX7_open := goodIn_r _ [323, 40, 172, 133, 15, 16, 17, 18, 19, 178, 179, 180, 181, 182, 183, 184, 185, 186, 187, 188, 189, 190, 191, 192, 193, 54, 291, 292, 293, 132, 294, 218, 324, 325, 326, 327, 328, 329, 330, 331, 335, 336, 337, 342, 343, 344, 345, 346, 347, 348, 349, 350, 351] (by decide +kernel) (by decide +kernel)
set_option maxRecDepth 20000 in
theorem gX10_alone_X7_open : GoodIn wsX10_alone (wsV RX10 140 RX7 yX7_open wsX7_open) := goodIn_app (goodIn_of _ (by decide +kernel)) ggX10_alone_X7_open
theorem dX10_alone_0 : decode cX10_alone 0 = .ok (.aload_n 0, 1) := by decide +kernel
theorem dX10_alone_1 : decode cX10_alone 1 = .ok (.aload_n 0, 1) := by decide +kernel
theorem dX10_alone_2 : decode cX10_alone 2 = .ok (.iload_n 1, 1) := by decide +kernel
theorem dX10_alone_3 : decode cX10_alone 3 = .ok (.invokevirtual 68, 3) := by decide +kernel
theorem dX10_alone_6 : decode cX10_alone 6 = .ok (.iconst 1, 1) := by decide +kernel
theorem dX10_alone_7 : decode cX10_alone 7 = .ok (.invokevirtual 49, 3) := by decide +kernel
theorem dX10_alone_10 : decode cX10_alone 10 = .ok (.ifCond .ne 34, 3) := by decide +kernel
theorem dX10_alone_13 : decode cX10_alone 13 = .ok (.aload_n 0, 1) := by decide +kernel
theorem dX10_alone_14 : decode cX10_alone 14 = .ok (.iload_n 2, 1) := by decide +kernel
theorem dX10_alone_15 : decode cX10_alone 15 = .ok (.iconst 1, 1) := by decide +kernel
theorem dX10_alone_16 : decode cX10_alone 16 = .ok (.iconst 5, 1) := by decide +kernel
theorem dX10_alone_17 : decode cX10_alone 17 = .ok (.invokestatic 56, 3) := by decide +kernel
theorem dX10_alone_20 : decode cX10_alone 20 = .ok (.ifCond .eq 12, 3) := by decide +kernel
theorem dX10_alone_23 : decode cX10_alone 23 = .ok (.iload_n 3, 1) := by decide +kernel
theorem dX10_alone_24 : decode cX10_alone 24 = .ok (.iconst 0, 1) := by decide +kernel
theorem dX10_alone_25 : decode cX10_alone 25 = .ok (.iconst 2, 1) := by decide +kernel
theorem dX10_alone_26 : decode cX10_alone 26 = .ok (.invokestatic 56, 3) := by decide +kernel
theorem dX10_alone_29 : decode cX10_alone 29 = .ok (.ifCond .ne 7, 3) := by decide +kernel
theorem dX10_alone_32 : decode cX10_alone 32 = .ok (.iconst 1, 1) := by decide +kernel
theorem dX10_alone_33 : decode cX10_alone 33 = .ok (.goto 4, 3) := by decide +kernel
theorem dX10_alone_36 : decode cX10_alone 36 = .ok (.iconst 0, 1) := by decide +kernel
theorem dX10_alone_37 : decode cX10_alone 37 = .ok (.iconst 2, 1) := by decide +kernel
theorem dX10_alone_38 : decode cX10_alone 38 = .ok (.invokevirtual 45, 3) := by decide +kernel
theorem dX10_alone_41 : decode cX10_alone 41 = .ok (.ifCond .eq 5, 3) := by decide +kernel
theorem dX10_alone_44 : decode cX10_alone 44 = .ok (.iconst 0, 1) := by decide +kernel
theorem dX10_alone_45 : decode cX10_alone 45 = .ok (.ireturn, 1) := by decide +kernel
theorem dX10_alone_46 : decode cX10_alone 46 = .ok (.new 32, 3) := by decide +kernel
theorem dX10_alone_49 : decode cX10_alone 49 = .ok (.dup, 1) := by decide +kernel
theorem dX10_alone_50 : decode cX10_alone 50 = .ok (.aload_n 0, 1) := by decide +kernel
theorem dX10_alone_51 : decode cX10_alone 51 = .ok (.getfield 26, 3) := by decide +kernel
theorem dX10_alone_54 : decode cX10_alone 54 = .ok (.iload_n 2, 1) := by decide +kernel
theorem dX10_alone_55 : decode cX10_alone 55 = .ok (.invokespecial 34, 3) := by decide +kernel
theorem dX10_alone_58 : decode cX10_alone 58 = .ok (.astore 4, 2) := by decide +kernel
theorem dX10_alone_60 : decode cX10_alone 60 = .ok (.aload 4, 2) := by decide +kernel
theorem dX10_alone_62 : decode cX10_alone 62 = .ok (.iload_n 3, 1) := by decide +kernel
theorem dX10_alone_63 : decode cX10_alone 63 = .ok (.putfield 104, 3) := by decide +kernel
theorem dX10_alone_66 : decode cX10_alone 66 = .ok (.aload 4, 2) := by decide +kernel
theorem dX10_alone_68 : decode cX10_alone 68 = .ok (.aload_n 0, 1) := by decide +kernel
theorem dX10_alone_69 : decode cX10_alone 69 = .ok (.getfield 37, 3) := by decide +kernel
theorem dX10_alone_72 : decode cX10_alone 72 = .ok (.getfield 107, 3) := by decide +kernel
theorem dX10_alone_75 : decode cX10_alone 75 = .ok (.putfield 107, 3) := by decide +kernel
theorem dX10_alone_78 : decode cX10_alone 78 = .ok (.aload 4, 2) := by decide +kernel
theorem dX10_alone_80 : decode cX10_alone 80 = .ok (.iload_n 1, 1) := by decide +kernel
theorem dX10_alone_81 : decode cX10_alone 81 = .ok (.iconst (-1), 1) := by decide +kernel
theorem dX10_alone_82 : decode cX10_alone 82 = .ok (.aload 4, 2) := by decide +kernel
theorem dX10_alone_84 : decode cX10_alone 84 = .ok (.getfield 110, 3) := by decide +kernel
theorem dX10_alone_87 : decode cX10_alone 87 = .ok (.invokevirtual 113, 3) := by decide +kernel
theorem dX10_alone_90 : decode cX10_alone 90 = .ok (.pop, 1) := by decide +kernel
theorem dX10_alone_91 : decode cX10_alone 91 = .ok (.iconst 1, 1) := by decide +kernel
theorem dX10_alone_92 : decode cX10_alone 92 = .ok (.istore 5, 2) := by decide +kernel
theorem dX10_alone_94 : decode cX10_alone 94 = .ok (.iload 5, 2) := by decide +kernel
theorem dX10_alone_96 : decode cX10_alone 96 = .ok (.bipush 60, 2) := by decide +kernel
theorem dX10_alone_98 : decode cX10_alone 98 = .ok (.if_icmp .gt 25, 3) := by decide +kernel
theorem dX10_alone_101 : decode cX10_alone 101 = .ok (.aload 4, 2) := by decide +kernel
theorem dX10_alone_103 : decode cX10_alone 103 = .ok (.invokevirtual 137, 3) := by decide +kernel
theorem dX10_alone_106 : decode cX10_alone 106 = .ok (.aload 4, 2) := by decide +kernel
theorem dX10_alone_108 : decode cX10_alone 108 = .ok (.invokevirtual 140, 3) := by decide +kernel
theorem dX10_alone_111 : decode cX10_alone 111 = .ok (.ifCond .ne 6, 3) := by decide +kernel
theorem dX10_alone_114 : decode cX10_alone 114 = .ok (.iload 5, 2) := by decide +kernel
theorem dX10_alone_116 : decode cX10_alone 116 = .ok (.ireturn, 1) := by decide +kernel
theorem dX10_alone_117 : decode cX10_alone 117 = .ok (.iinc 5 1, 3) := by decide +kernel
theorem dX10_alone_120 : decode cX10_alone 120 = .ok (.goto (-26), 3) := by decide +kernel
theorem dX10_alone_123 : decode cX10_alone 123 = .ok (.iconst (-1), 1) := by decide +kernel
theorem dX10_alone_124 : decode cX10_alone 124 = .ok (.ireturn, 1) := by decide +kernel
theorem dX10_add_0 : decode cX10_add 0 = .ok (.lload_n 0, 1) := by decide +kernel
theorem dX10_add_1 : decode cX10_add 1 = .ok (.ldc2_w 213, 3) := by decide +kernel
theorem dX10_add_4 : decode cX10_add 4 = .ok (.lmul, 1) := by decide +kernel
theorem dX10_add_5 : decode cX10_add 5 = .ok (.lload_n 2, 1) := by decide +kernel
theorem dX10_add_6 : decode cX10_add 6 = .ok (.ladd, 1) := by decide +kernel
theorem dX10_add_7 : decode cX10_add 7 = .ok (.lreturn, 1) := by decide +kernel
set_option maxRecDepth 20000 in
theorem ggX10_addRow_Jx4a65c_size_8abf5 : GoodIn wsX10_addRow wsJx4a65c_size_8abf5 := goodIn_r _ [6, 7, 36, 37, 38] (by decide +kernel) (by decide +kernel)
set_option maxRecDepth 20000 in
theorem gX10_addRow_Jx4a65c_size_8abf5 : GoodIn wsX10_addRow (wsV RX10 1 RJx4a65c yJx4a65c_size_8abf5 wsJx4a65c_size_8abf5) := goodIn_app (goodIn_of _ (by decide +kernel)) ggX10_addRow_Jx4a65c_size_8abf5
set_option maxRecDepth 20000 in
theorem ggX10_addRow_X10_add : GoodIn wsX10_addRow wsX10_add := goodIn_r _ [11, 12] (by decide +kernel) (by decide +kernel)
set_option maxRecDepth 20000 in
theorem gX10_addRow_X10_add : GoodIn wsX10_addRow (va_wsS RX10 215 yX10_add wsX10_add) := goodIn_app (goodIn_of _ (by decide +kernel)) ggX10_addRow_X10_add
set_option maxRecDepth 20000 in
theorem ggX10_addRow_Jx4a65c_get_915e3 : GoodIn wsX10_addRow wsJx4a65c_get_915e3 := goodIn_r _ [16, 7, 17, 18, 19, 20, 21, 22, 23, 24, 25, 26, 27, 5, 28, 29, 36, 37, 38] (by decide +kernel) (by decide +kernel)
set_option maxRecDepth 20000 in
theorem gX10_addRow_Jx4a65c_get_915e3 : GoodIn wsX10_addRow (wsV RX10 7 RJx4a65c yJx4a65c_get_915e3 wsJx4a65c_get_915e3) := goodIn_app (goodIn_of _ (by decide +kernel)) ggX10_addRow_Jx4a65c_get_915e3
set_option maxRecDepth 20000 in
theorem ggX10_addRow_J6_intValue_8abf5 : GoodIn wsX10_addRow wsJ6_intValue_8abf5 := goodIn_r _ [34, 35, 39] (by decide +kernel) (by decide +kernel)
set_option maxRecDepth 20000 in
theorem gX10_addRow_J6_intValue_8abf5 : GoodIn wsX10_addRow (wsV RX10 13 RJ6 yJ6_intValue_8abf5 wsJ6_intValue_8abf5) := goodIn_app (goodIn_of _ (by decide +kernel)) ggX10_addRow_J6_intValue_8abf5
theorem dX10_addRow_0 : decode cX10_addRow 0 = .ok (.lload_n 0, 1) := by decide +kernel
theorem dX10_addRow_1 : decode cX10_addRow 1 = .ok (.aload_n 2, 1) := by decide +kernel
theorem dX10_addRow_2 : decode cX10_addRow 2 = .ok (.invokevirtual 1, 3) := by decide +kernel
theorem dX10_addRow_5 : decode cX10_addRow 5 = .ok (.i2l, 1) := by decide +kernel
theorem dX10_addRow_6 : decode cX10_addRow 6 = .ok (.invokestatic 215, 3) := by decide +kernel
theorem dX10_addRow_9 : decode cX10_addRow 9 = .ok (.lstore_n 3, 1) := by decide +kernel
theorem dX10_addRow_10 : decode cX10_addRow 10 = .ok (.iconst 0, 1) := by decide +kernel
theorem dX10_addRow_11 : decode cX10_addRow 11 = .ok (.istore 5, 2) := by decide +kernel
theorem dX10_addRow_13 : decode cX10_addRow 13 = .ok (.iload 5, 2) := by decide +kernel
theorem dX10_addRow_15 : decode cX10_addRow 15 = .ok (.aload_n 2, 1) := by decide +kernel
theorem dX10_addRow_16 : decode cX10_addRow 16 = .ok (.invokevirtual 1, 3) := by decide +kernel
theorem dX10_addRow_19 : decode cX10_addRow 19 = .ok (.if_icmp .ge 27, 3) := by decide +kernel
theorem dX10_addRow_22 : decode cX10_addRow 22 = .ok (.lload_n 3, 1) := by decide +kernel
theorem dX10_addRow_23 : decode cX10_addRow 23 = .ok (.aload_n 2, 1) := by decide +kernel
theorem dX10_addRow_24 : decode cX10_addRow 24 = .ok (.iload 5, 2) := by decide +kernel
theorem dX10_addRow_26 : decode cX10_addRow 26 = .ok (.invokevirtual 7, 3) := by decide +kernel
theorem dX10_addRow_29 : decode cX10_addRow 29 = .ok (.checkcast 11, 3) := by decide +kernel
theorem dX10_addRow_32 : decode cX10_addRow 32 = .ok (.invokevirtual 13, 3) := by decide +kernel
theorem dX10_addRow_35 : decode cX10_addRow 35 = .ok (.i2l, 1) := by decide +kernel
theorem dX10_addRow_36 : decode cX10_addRow 36 = .ok (.invokestatic 215, 3) := by decide +kernel
theorem dX10_addRow_39 : decode cX10_addRow 39 = .ok (.lstore_n 3, 1) := by decide +kernel
theorem dX10_addRow_40 : decode cX10_addRow 40 = .ok (.iinc 5 1, 3) := by decide +kernel
theorem dX10_addRow_43 : decode cX10_addRow 43 = .ok (.goto (-30), 3) := by decide +kernel
theorem dX10_addRow_46 : decode cX10_addRow 46 = .ok (.lload_n 3, 1) := by decide +kernel
theorem dX10_addRow_47 : decode cX10_addRow 47 = .ok (.lreturn, 1) := by decide +kernel
set_option maxRecDepth 20000 in
theorem ggX10_digest_X10_add : GoodIn wsX10_digest wsX10_add := goodIn_r _ [20, 21] (by decide +kernel) (by decide +kernel)
set_option maxRecDepth 20000 in
theorem gX10_digest_X10_add : GoodIn wsX10_digest (va_wsS RX10 215 yX10_add wsX10_add) := goodIn_app (goodIn_of _ (by decide +kernel)) ggX10_digest_X10_add
set_option maxRecDepth 20000 in
theorem ggX10_digest_Jx4a65c_size_8abf5 : GoodIn wsX10_digest wsJx4a65c_size_8abf5 := goodIn_r _ [26, 27, 165, 166, 167] (by decide +kernel) (by decide +kernel)
set_option maxRecDepth 20000 in
theorem gX10_digest_Jx4a65c_size_8abf5 : GoodIn wsX10_digest (wsV RX10 1 RJx4a65c yJx4a65c_size_8abf5 wsJx4a65c_size_8abf5) := goodIn_app (goodIn_of _ (by decide +kernel)) ggX10_digest_Jx4a65c_size_8abf5
set_option maxRecDepth 20000 in
theorem ggX10_digest_X10_haltedNow : GoodIn wsX10_digest wsX10_haltedNow := goodIn_r _ [31, 3, 5, 7, 32, 33, 34, 35, 36, 37, 38, 23, 24, 25, 26, 27, 39, 40, 41, 42, 43, 44, 45, 46, 47, 48, 49, 50, 51, 52, 53, 54, 55, 56, 57, 58, 59, 60, 61, 62, 63, 64, 65, 66, 67, 68, 69, 70, 71, 72, 73, 74, 75, 76, 77, 78, 79, 80, 81, 82, 83, 84, 85, 86, 87, 88, 89, 90, 91, 92, 93, 94, 95, 96, 97, 98, 99, 100, 101, 102, 103, 104, 105, 106, 107, 108, 22, 109, 110, 111, 19, 112, 113, 114, 140, 141, 142, 143, 144, 145, 146, 147, 148, 149, 150, 151, 152, 153, 154, 155, 156, 157, 158, 159, 160, 165, 166, 167, 161, 162, 163, 164, 168] (by decide +kernel) (by decide +kernel)
set_option maxRecDepth 20000 in
theorem gX10_digest_X10_haltedNow : GoodIn wsX10_digest (wsV RX10 206 RX10 yX10_haltedNow wsX10_haltedNow) := goodIn_app (goodIn_of _ (by decide +kernel)) ggX10_digest_X10_haltedNow
set_option maxRecDepth 20000 in
theorem ggX10_digest_X10_task : GoodIn wsX10_digest wsX10_task := goodIn_r _ [112, 3, 5, 113, 114, 54, 55, 25, 56, 27, 57, 58, 59, 60, 61, 62, 63, 64, 65, 66, 67, 68, 69, 140, 141, 142, 143, 144, 145, 146, 147, 148, 149, 150, 165, 166, 167] (by decide +kernel) (by decide +kernel)
set_option maxRecDepth 20000 in
theorem gX10_digest_X10_task : GoodIn wsX10_digest (wsV RX10 120 RX10 yX10_task wsX10_task) := goodIn_app (goodIn_of _ (by decide +kernel)) ggX10_digest_X10_task
set_option maxRecDepth 20000 in
theorem ggX10_digest_X10_addRow : GoodIn wsX10_digest wsX10_addRow := goodIn_r _ [128, 119, 22, 23, 24, 25, 26, 27, 17, 18, 19, 20, 21, 114, 54, 55, 56, 57, 58, 59, 60, 61, 62, 63, 64, 65, 66, 67, 68, 69, 120, 84, 85, 86, 87, 88, 165, 166, 167, 168] (by decide +kernel) (by decide +kernel)
set_option maxRecDepth 20000 in
theorem gX10_digest_X10_addRow : GoodIn wsX10_digest (va_wsS RX10 220 yX10_addRow wsX10_addRow) := goodIn_app (goodIn_of _ (by decide +kernel)) ggX10_digest_X10_addRow
set_option maxRecDepth 20000 in
theorem ggX10_digest_X10_worker : GoodIn wsX10_digest wsX10_worker := goodIn_r _ [132, 3, 6, 133, 114, 54, 55, 25, 56, 27, 57, 58, 59, 60, 61, 62, 63, 64, 65, 66, 67, 68, 69, 140, 141, 142, 143, 144, 145, 146, 147, 148, 149, 150, 165, 166, 167] (by decide +kernel) (by decide +kernel)
set_option maxRecDepth 20000 in
theorem gX10_digest_X10_worker : GoodIn wsX10_digest (wsV RX10 183 RX10 yX10_worker wsX10_worker) := goodIn_app (goodIn_of _ (by decide +kernel)) ggX10_digest_X10_worker
set_option maxRecDepth 20000 in
theorem ggX10_digest_X9_top : GoodIn wsX10_digest wsX9_top := goodIn_r _ [74, 75, 76, 77, 78, 79, 25, 80, 27, 81, 23, 24, 26, 82, 54, 55, 56, 57, 58, 59, 60, 61, 62, 63, 64, 65, 66, 67, 68, 69, 83, 84, 85, 86, 87, 88, 161, 162, 163, 164, 165, 166, 167, 168] (by decide +kernel) (by decide +kernel)
set_option maxRecDepth 20000 in
theorem gX10_digest_X9_top : GoodIn wsX10_digest (wsV RX10 186 RX9 yX9_top wsX9_top) := goodIn_app (goodIn_of _ (by decide +kernel)) ggX10_digest_X9_top
set_option maxRecDepth 20000 in
theorem ggX10_digest_X10_ranBack : GoodIn wsX10_digest wsX10_ranBack := goodIn_r _ [138, 3, 4, 139, 119, 129, 130, 131, 19, 132, 6, 133, 114, 54, 55, 25, 56, 27, 57, 58, 59, 60, 61, 62, 63, 64, 65, 66, 67, 68, 69, 22, 23, 24, 26, 120, 84, 85, 86, 87, 88, 140, 141, 142, 143, 144, 145, 146, 147, 148, 149, 150, 161, 162, 163, 164, 165, 166, 167, 168] (by decide +kernel) (by decide +kernel)
set_option maxRecDepth 20000 in
theorem gX10_digest_X10_ranBack : GoodIn wsX10_digest (wsV RX10 199 RX10 yX10_ranBack wsX10_ranBack) := goodIn_app (goodIn_of _ (by decide +kernel)) ggX10_digest_X10_ranBack
theorem dX10_digest_0 : decode cX10_digest 0 = .ok (.aload_n 0, 1) := by decide +kernel
theorem dX10_digest_1 : decode cX10_digest 1 = .ok (.iconst 0, 1) := by decide +kernel
theorem dX10_digest_2 : decode cX10_digest 2 = .ok (.putfield 41, 3) := by decide +kernel
theorem dX10_digest_5 : decode cX10_digest 5 = .ok (.ldc2_w 218, 3) := by decide +kernel
theorem dX10_digest_8 : decode cX10_digest 8 = .ok (.aload_n 0, 1) := by decide +kernel
theorem dX10_digest_9 : decode cX10_digest 9 = .ok (.getfield 37, 3) := by decide +kernel
theorem dX10_digest_12 : decode cX10_digest 12 = .ok (.getfield 143, 3) := by decide +kernel
theorem dX10_digest_15 : decode cX10_digest 15 = .ok (.i2l, 1) := by decide +kernel
theorem dX10_digest_16 : decode cX10_digest 16 = .ok (.invokestatic 215, 3) := by decide +kernel
theorem dX10_digest_19 : decode cX10_digest 19 = .ok (.aload_n 0, 1) := by decide +kernel
theorem dX10_digest_20 : decode cX10_digest 20 = .ok (.getfield 37, 3) := by decide +kernel
theorem dX10_digest_23 : decode cX10_digest 23 = .ok (.getfield 60, 3) := by decide +kernel
theorem dX10_digest_26 : decode cX10_digest 26 = .ok (.invokevirtual 1, 3) := by decide +kernel
theorem dX10_digest_29 : decode cX10_digest 29 = .ok (.i2l, 1) := by decide +kernel
theorem dX10_digest_30 : decode cX10_digest 30 = .ok (.invokestatic 215, 3) := by decide +kernel
theorem dX10_digest_33 : decode cX10_digest 33 = .ok (.aload_n 0, 1) := by decide +kernel
theorem dX10_digest_34 : decode cX10_digest 34 = .ok (.getfield 37, 3) := by decide +kernel
theorem dX10_digest_37 : decode cX10_digest 37 = .ok (.getfield 79, 3) := by decide +kernel
theorem dX10_digest_40 : decode cX10_digest 40 = .ok (.invokevirtual 1, 3) := by decide +kernel
theorem dX10_digest_43 : decode cX10_digest 43 = .ok (.i2l, 1) := by decide +kernel
theorem dX10_digest_44 : decode cX10_digest 44 = .ok (.invokestatic 215, 3) := by decide +kernel
theorem dX10_digest_47 : decode cX10_digest 47 = .ok (.aload_n 0, 1) := by decide +kernel
theorem dX10_digest_48 : decode cX10_digest 48 = .ok (.invokevirtual 206, 3) := by decide +kernel
theorem dX10_digest_51 : decode cX10_digest 51 = .ok (.i2l, 1) := by decide +kernel
theorem dX10_digest_52 : decode cX10_digest 52 = .ok (.invokestatic 215, 3) := by decide +kernel
theorem dX10_digest_55 : decode cX10_digest 55 = .ok (.lstore_n 1, 1) := by decide +kernel
theorem dX10_digest_56 : decode cX10_digest 56 = .ok (.iconst 0, 1) := by decide +kernel
theorem dX10_digest_57 : decode cX10_digest 57 = .ok (.istore_n 3, 1) := by decide +kernel
theorem dX10_digest_58 : decode cX10_digest 58 = .ok (.iload_n 3, 1) := by decide +kernel
theorem dX10_digest_59 : decode cX10_digest 59 = .ok (.aload_n 0, 1) := by decide +kernel
theorem dX10_digest_60 : decode cX10_digest 60 = .ok (.getfield 37, 3) := by decide +kernel
theorem dX10_digest_63 : decode cX10_digest 63 = .ok (.getfield 60, 3) := by decide +kernel
theorem dX10_digest_66 : decode cX10_digest 66 = .ok (.invokevirtual 1, 3) := by decide +kernel
theorem dX10_digest_69 : decode cX10_digest 69 = .ok (.if_icmp .ge 83, 3) := by decide +kernel
theorem dX10_digest_72 : decode cX10_digest 72 = .ok (.aload_n 0, 1) := by decide +kernel
theorem dX10_digest_73 : decode cX10_digest 73 = .ok (.iload_n 3, 1) := by decide +kernel
theorem dX10_digest_74 : decode cX10_digest 74 = .ok (.invokevirtual 120, 3) := by decide +kernel
theorem dX10_digest_77 : decode cX10_digest 77 = .ok (.astore 4, 2) := by decide +kernel
theorem dX10_digest_79 : decode cX10_digest 79 = .ok (.lload_n 1, 1) := by decide +kernel
theorem dX10_digest_80 : decode cX10_digest 80 = .ok (.aload 4, 2) := by decide +kernel
theorem dX10_digest_82 : decode cX10_digest 82 = .ok (.getfield 149, 3) := by decide +kernel
theorem dX10_digest_85 : decode cX10_digest 85 = .ok (.i2l, 1) := by decide +kernel
theorem dX10_digest_86 : decode cX10_digest 86 = .ok (.invokestatic 215, 3) := by decide +kernel
theorem dX10_digest_89 : decode cX10_digest 89 = .ok (.aload 4, 2) := by decide +kernel
theorem dX10_digest_91 : decode cX10_digest 91 = .ok (.getfield 152, 3) := by decide +kernel
theorem dX10_digest_94 : decode cX10_digest 94 = .ok (.i2l, 1) := by decide +kernel
theorem dX10_digest_95 : decode cX10_digest 95 = .ok (.invokestatic 215, 3) := by decide +kernel
theorem dX10_digest_98 : decode cX10_digest 98 = .ok (.aload 4, 2) := by decide +kernel
theorem dX10_digest_100 : decode cX10_digest 100 = .ok (.getfield 155, 3) := by decide +kernel
theorem dX10_digest_103 : decode cX10_digest 103 = .ok (.i2l, 1) := by decide +kernel
theorem dX10_digest_104 : decode cX10_digest 104 = .ok (.invokestatic 215, 3) := by decide +kernel
theorem dX10_digest_107 : decode cX10_digest 107 = .ok (.aload 4, 2) := by decide +kernel
theorem dX10_digest_109 : decode cX10_digest 109 = .ok (.getfield 158, 3) := by decide +kernel
theorem dX10_digest_112 : decode cX10_digest 112 = .ok (.i2l, 1) := by decide +kernel
theorem dX10_digest_113 : decode cX10_digest 113 = .ok (.invokestatic 215, 3) := by decide +kernel
theorem dX10_digest_116 : decode cX10_digest 116 = .ok (.lstore_n 1, 1) := by decide +kernel
theorem dX10_digest_117 : decode cX10_digest 117 = .ok (.lload_n 1, 1) := by decide +kernel
theorem dX10_digest_118 : decode cX10_digest 118 = .ok (.aload 4, 2) := by decide +kernel
theorem dX10_digest_120 : decode cX10_digest 120 = .ok (.invokestatic 164, 3) := by decide +kernel
theorem dX10_digest_123 : decode cX10_digest 123 = .ok (.i2l, 1) := by decide +kernel
theorem dX10_digest_124 : decode cX10_digest 124 = .ok (.invokestatic 215, 3) := by decide +kernel
theorem dX10_digest_127 : decode cX10_digest 127 = .ok (.aload_n 0, 1) := by decide +kernel
theorem dX10_digest_128 : decode cX10_digest 128 = .ok (.iload_n 3, 1) := by decide +kernel
theorem dX10_digest_129 : decode cX10_digest 129 = .ok (.invokevirtual 171, 3) := by decide +kernel
theorem dX10_digest_132 : decode cX10_digest 132 = .ok (.i2l, 1) := by decide +kernel
theorem dX10_digest_133 : decode cX10_digest 133 = .ok (.invokestatic 215, 3) := by decide +kernel
theorem dX10_digest_136 : decode cX10_digest 136 = .ok (.aload 4, 2) := by decide +kernel
theorem dX10_digest_138 : decode cX10_digest 138 = .ok (.getfield 173, 3) := by decide +kernel
theorem dX10_digest_141 : decode cX10_digest 141 = .ok (.i2l, 1) := by decide +kernel
theorem dX10_digest_142 : decode cX10_digest 142 = .ok (.invokestatic 215, 3) := by decide +kernel
theorem dX10_digest_145 : decode cX10_digest 145 = .ok (.lstore_n 1, 1) := by decide +kernel
theorem dX10_digest_146 : decode cX10_digest 146 = .ok (.iinc 3 1, 3) := by decide +kernel
theorem dX10_digest_149 : decode cX10_digest 149 = .ok (.goto (-91), 3) := by decide +kernel
theorem dX10_digest_152 : decode cX10_digest 152 = .ok (.iconst 0, 1) := by decide +kernel
theorem dX10_digest_153 : decode cX10_digest 153 = .ok (.istore_n 3, 1) := by decide +kernel
theorem dX10_digest_154 : decode cX10_digest 154 = .ok (.iload_n 3, 1) := by decide +kernel
theorem dX10_digest_155 : decode cX10_digest 155 = .ok (.bipush 6, 2) := by decide +kernel
theorem dX10_digest_157 : decode cX10_digest 157 = .ok (.if_icmp .ge 24, 3) := by decide +kernel
theorem dX10_digest_160 : decode cX10_digest 160 = .ok (.lload_n 1, 1) := by decide +kernel
theorem dX10_digest_161 : decode cX10_digest 161 = .ok (.aload_n 0, 1) := by decide +kernel
theorem dX10_digest_162 : decode cX10_digest 162 = .ok (.getfield 37, 3) := by decide +kernel
theorem dX10_digest_165 : decode cX10_digest 165 = .ok (.getfield 176, 3) := by decide +kernel
theorem dX10_digest_168 : decode cX10_digest 168 = .ok (.iload_n 3, 1) := by decide +kernel
theorem dX10_digest_169 : decode cX10_digest 169 = .ok (.iaload, 1) := by decide +kernel
theorem dX10_digest_170 : decode cX10_digest 170 = .ok (.i2l, 1) := by decide +kernel
theorem dX10_digest_171 : decode cX10_digest 171 = .ok (.invokestatic 215, 3) := by decide +kernel
theorem dX10_digest_174 : decode cX10_digest 174 = .ok (.lstore_n 1, 1) := by decide +kernel
theorem dX10_digest_175 : decode cX10_digest 175 = .ok (.iinc 3 1, 3) := by decide +kernel
theorem dX10_digest_178 : decode cX10_digest 178 = .ok (.goto (-24), 3) := by decide +kernel
theorem dX10_digest_181 : decode cX10_digest 181 = .ok (.lload_n 1, 1) := by decide +kernel
theorem dX10_digest_182 : decode cX10_digest 182 = .ok (.aload_n 0, 1) := by decide +kernel
theorem dX10_digest_183 : decode cX10_digest 183 = .ok (.getfield 37, 3) := by decide +kernel
theorem dX10_digest_186 : decode cX10_digest 186 = .ok (.getfield 110, 3) := by decide +kernel
theorem dX10_digest_189 : decode cX10_digest 189 = .ok (.invokestatic 220, 3) := by decide +kernel
theorem dX10_digest_192 : decode cX10_digest 192 = .ok (.lstore_n 1, 1) := by decide +kernel
theorem dX10_digest_193 : decode cX10_digest 193 = .ok (.iconst 0, 1) := by decide +kernel
theorem dX10_digest_194 : decode cX10_digest 194 = .ok (.istore_n 3, 1) := by decide +kernel
theorem dX10_digest_195 : decode cX10_digest 195 = .ok (.iload_n 3, 1) := by decide +kernel
theorem dX10_digest_196 : decode cX10_digest 196 = .ok (.aload_n 0, 1) := by decide +kernel
theorem dX10_digest_197 : decode cX10_digest 197 = .ok (.getfield 37, 3) := by decide +kernel
theorem dX10_digest_200 : decode cX10_digest 200 = .ok (.getfield 79, 3) := by decide +kernel
theorem dX10_digest_203 : decode cX10_digest 203 = .ok (.invokevirtual 1, 3) := by decide +kernel
theorem dX10_digest_206 : decode cX10_digest 206 = .ok (.if_icmp .ge 22, 3) := by decide +kernel
theorem dX10_digest_209 : decode cX10_digest 209 = .ok (.lload_n 1, 1) := by decide +kernel
theorem dX10_digest_210 : decode cX10_digest 210 = .ok (.aload_n 0, 1) := by decide +kernel
theorem dX10_digest_211 : decode cX10_digest 211 = .ok (.iload_n 3, 1) := by decide +kernel
theorem dX10_digest_212 : decode cX10_digest 212 = .ok (.invokevirtual 183, 3) := by decide +kernel
theorem dX10_digest_215 : decode cX10_digest 215 = .ok (.getfield 84, 3) := by decide +kernel
theorem dX10_digest_218 : decode cX10_digest 218 = .ok (.invokestatic 220, 3) := by decide +kernel
theorem dX10_digest_221 : decode cX10_digest 221 = .ok (.lstore_n 1, 1) := by decide +kernel
theorem dX10_digest_222 : decode cX10_digest 222 = .ok (.iinc 3 1, 3) := by decide +kernel
theorem dX10_digest_225 : decode cX10_digest 225 = .ok (.goto (-30), 3) := by decide +kernel
theorem dX10_digest_228 : decode cX10_digest 228 = .ok (.iconst 0, 1) := by decide +kernel
theorem dX10_digest_229 : decode cX10_digest 229 = .ok (.istore_n 3, 1) := by decide +kernel
theorem dX10_digest_230 : decode cX10_digest 230 = .ok (.iload_n 3, 1) := by decide +kernel
theorem dX10_digest_231 : decode cX10_digest 231 = .ok (.aload_n 0, 1) := by decide +kernel
theorem dX10_digest_232 : decode cX10_digest 232 = .ok (.getfield 37, 3) := by decide +kernel
theorem dX10_digest_235 : decode cX10_digest 235 = .ok (.getfield 79, 3) := by decide +kernel
theorem dX10_digest_238 : decode cX10_digest 238 = .ok (.invokevirtual 1, 3) := by decide +kernel
theorem dX10_digest_241 : decode cX10_digest 241 = .ok (.if_icmp .ge 98, 3) := by decide +kernel
theorem dX10_digest_244 : decode cX10_digest 244 = .ok (.lload_n 1, 1) := by decide +kernel
theorem dX10_digest_245 : decode cX10_digest 245 = .ok (.aload_n 0, 1) := by decide +kernel
theorem dX10_digest_246 : decode cX10_digest 246 = .ok (.iload_n 3, 1) := by decide +kernel
theorem dX10_digest_247 : decode cX10_digest 247 = .ok (.invokevirtual 183, 3) := by decide +kernel
theorem dX10_digest_250 : decode cX10_digest 250 = .ok (.invokevirtual 186, 3) := by decide +kernel
theorem dX10_digest_253 : decode cX10_digest 253 = .ok (.i2l, 1) := by decide +kernel
theorem dX10_digest_254 : decode cX10_digest 254 = .ok (.invokestatic 215, 3) := by decide +kernel
theorem dX10_digest_257 : decode cX10_digest 257 = .ok (.aload_n 0, 1) := by decide +kernel
theorem dX10_digest_258 : decode cX10_digest 258 = .ok (.iload_n 3, 1) := by decide +kernel
theorem dX10_digest_259 : decode cX10_digest 259 = .ok (.invokevirtual 183, 3) := by decide +kernel
theorem dX10_digest_262 : decode cX10_digest 262 = .ok (.getfield 91, 3) := by decide +kernel
theorem dX10_digest_265 : decode cX10_digest 265 = .ok (.invokevirtual 1, 3) := by decide +kernel
theorem dX10_digest_268 : decode cX10_digest 268 = .ok (.i2l, 1) := by decide +kernel
theorem dX10_digest_269 : decode cX10_digest 269 = .ok (.invokestatic 215, 3) := by decide +kernel
theorem dX10_digest_272 : decode cX10_digest 272 = .ok (.lstore_n 1, 1) := by decide +kernel
theorem dX10_digest_273 : decode cX10_digest 273 = .ok (.iconst 0, 1) := by decide +kernel
theorem dX10_digest_274 : decode cX10_digest 274 = .ok (.istore 4, 2) := by decide +kernel
theorem dX10_digest_276 : decode cX10_digest 276 = .ok (.iload 4, 2) := by decide +kernel
theorem dX10_digest_278 : decode cX10_digest 278 = .ok (.iconst 3, 1) := by decide +kernel
theorem dX10_digest_279 : decode cX10_digest 279 = .ok (.if_icmp .ge 26, 3) := by decide +kernel
theorem dX10_digest_282 : decode cX10_digest 282 = .ok (.lload_n 1, 1) := by decide +kernel
theorem dX10_digest_283 : decode cX10_digest 283 = .ok (.aload_n 0, 1) := by decide +kernel
theorem dX10_digest_284 : decode cX10_digest 284 = .ok (.iload_n 3, 1) := by decide +kernel
theorem dX10_digest_285 : decode cX10_digest 285 = .ok (.invokevirtual 183, 3) := by decide +kernel
theorem dX10_digest_288 : decode cX10_digest 288 = .ok (.getfield 193, 3) := by decide +kernel
theorem dX10_digest_291 : decode cX10_digest 291 = .ok (.iload 4, 2) := by decide +kernel
theorem dX10_digest_293 : decode cX10_digest 293 = .ok (.iaload, 1) := by decide +kernel
theorem dX10_digest_294 : decode cX10_digest 294 = .ok (.i2l, 1) := by decide +kernel
theorem dX10_digest_295 : decode cX10_digest 295 = .ok (.invokestatic 215, 3) := by decide +kernel
theorem dX10_digest_298 : decode cX10_digest 298 = .ok (.lstore_n 1, 1) := by decide +kernel
theorem dX10_digest_299 : decode cX10_digest 299 = .ok (.iinc 4 1, 3) := by decide +kernel
theorem dX10_digest_302 : decode cX10_digest 302 = .ok (.goto (-26), 3) := by decide +kernel
theorem dX10_digest_305 : decode cX10_digest 305 = .ok (.iconst 1, 1) := by decide +kernel
theorem dX10_digest_306 : decode cX10_digest 306 = .ok (.istore 4, 2) := by decide +kernel
theorem dX10_digest_308 : decode cX10_digest 308 = .ok (.iload 4, 2) := by decide +kernel
theorem dX10_digest_310 : decode cX10_digest 310 = .ok (.iconst 3, 1) := by decide +kernel
theorem dX10_digest_311 : decode cX10_digest 311 = .ok (.if_icmp .gt 22, 3) := by decide +kernel
theorem dX10_digest_314 : decode cX10_digest 314 = .ok (.lload_n 1, 1) := by decide +kernel
theorem dX10_digest_315 : decode cX10_digest 315 = .ok (.aload_n 0, 1) := by decide +kernel
theorem dX10_digest_316 : decode cX10_digest 316 = .ok (.iload_n 3, 1) := by decide +kernel
theorem dX10_digest_317 : decode cX10_digest 317 = .ok (.iload 4, 2) := by decide +kernel
theorem dX10_digest_319 : decode cX10_digest 319 = .ok (.invokevirtual 199, 3) := by decide +kernel
theorem dX10_digest_322 : decode cX10_digest 322 = .ok (.i2l, 1) := by decide +kernel
theorem dX10_digest_323 : decode cX10_digest 323 = .ok (.invokestatic 215, 3) := by decide +kernel
theorem dX10_digest_326 : decode cX10_digest 326 = .ok (.lstore_n 1, 1) := by decide +kernel
theorem dX10_digest_327 : decode cX10_digest 327 = .ok (.iinc 4 1, 3) := by decide +kernel
theorem dX10_digest_330 : decode cX10_digest 330 = .ok (.goto (-22), 3) := by decide +kernel
theorem dX10_digest_333 : decode cX10_digest 333 = .ok (.iinc 3 1, 3) := by decide +kernel
theorem dX10_digest_336 : decode cX10_digest 336 = .ok (.goto (-106), 3) := by decide +kernel
theorem dX10_digest_339 : decode cX10_digest 339 = .ok (.lload_n 1, 1) := by decide +kernel
theorem dX10_digest_340 : decode cX10_digest 340 = .ok (.lreturn, 1) := by decide +kernel

