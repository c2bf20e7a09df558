set_option maxRecDepth 20000 in
theorem ggX7_init_Jx4a65c_init_da8c8 : GoodIn wsX7_init wsJx4a65c_init_da8c8 := goodIn_r _ [19, 20, 21, 22, 23, 24, 25, 26, 27, 28, 29, 30, 31, 2, 3, 94, 95, 96] (by decide +kernel) (by decide +kernel)
set_option maxRecDepth 20000 in
theorem gX7_init_Jx4a65c_init_da8c8 : GoodIn wsX7_init (wsJx4a65c_init_da8c8) := ggX7_init_Jx4a65c_init_da8c8
set_option maxRecDepth 20000 in
theorem ggX7_init_X9_init : GoodIn wsX7_init wsX9_init := goodIn_r _ [33, 34, 2, 3, 35, 5, 6, 36, 37, 10, 38, 39, 40, 18, 19, 20, 21, 22, 23, 24, 25, 26, 27, 28, 29, 30, 31, 94, 95, 96, 105, 106, 107, 108] (by decide +kernel) (by decide +kernel)
set_option maxRecDepth 20000 in
theorem gX7_init_X9_init_n34 : GoodIn wsX7_init (wsX9_init) := ggX7_init_X9_init
set_option maxRecDepth 20000 in
theorem ggX7_init_Jx4a65c_add_9ea2d : GoodIn wsX7_init wsJx4a65c_add_9ea2d := goodIn_r _ [44, 45, 46, 21, 47, 48, 49, 50, 6, 51, 52, 53, 54, 55, 56, 57, 58, 59, 20, 60, 61, 62, 63, 64, 65, 66, 67, 68, 69, 70, 71, 72, 73, 74, 75, 76, 77, 78, 79, 80, 81, 82, 83, 84, 85, 86, 87, 88, 89, 90, 91, 92, 93, 94, 95, 96] (by decide +kernel) (by decide +kernel)
set_option maxRecDepth 20000 in
theorem gX7_init_Jx4a65c_add_9ea2d : GoodIn wsX7_init (wsV RX7 35 RJx4a65c yJx4a65c_add_9ea2d wsJx4a65c_add_9ea2d) := goodIn_app (goodIn_of _ (by decide +kernel)) ggX7_init_Jx4a65c_add_9ea2d
theorem dX7_init_0 : decode cX7_init 0 = .ok (.aload_n 0, 1) := by decide +kernel
theorem dX7_init_1 : decode cX7_init 1 = .ok (.invokespecial 3, 3) := by decide +kernel
theorem dX7_init_4 : decode cX7_init 4 = .ok (.aload_n 0, 1) := by decide +kernel
theorem dX7_init_5 : decode cX7_init 5 = .ok (.new 9, 3) := by decide +kernel
theorem dX7_init_8 : decode cX7_init 8 = .ok (.dup, 1) := by decide +kernel
theorem dX7_init_9 : decode cX7_init 9 = .ok (.invokespecial 11, 3) := by decide +kernel
theorem dX7_init_12 : decode cX7_init 12 = .ok (.putfield 12, 3) := by decide +kernel
theorem dX7_init_15 : decode cX7_init 15 = .ok (.aload_n 0, 1) := by decide +kernel
theorem dX7_init_16 : decode cX7_init 16 = .ok (.new 9, 3) := by decide +kernel
theorem dX7_init_19 : decode cX7_init 19 = .ok (.dup, 1) := by decide +kernel
theorem dX7_init_20 : decode cX7_init 20 = .ok (.invokespecial 11, 3) := by decide +kernel
theorem dX7_init_23 : decode cX7_init 23 = .ok (.putfield 18, 3) := by decide +kernel
theorem dX7_init_26 : decode cX7_init 26 = .ok (.aload_n 0, 1) := by decide +kernel
theorem dX7_init_27 : decode cX7_init 27 = .ok (.new 9, 3) := by decide +kernel
theorem dX7_init_30 : decode cX7_init 30 = .ok (.dup, 1) := by decide +kernel
theorem dX7_init_31 : decode cX7_init 31 = .ok (.invokespecial 11, 3) := by decide +kernel
theorem dX7_init_34 : decode cX7_init 34 = .ok (.putfield 21, 3) := by decide +kernel
theorem dX7_init_37 : decode cX7_init 37 = .ok (.aload_n 0, 1) := by decide +kernel
theorem dX7_init_38 : decode cX7_init 38 = .ok (.bipush 6, 2) := by decide +kernel
theorem dX7_init_40 : decode cX7_init 40 = .ok (.newarray .int, 2) := by decide +kernel
theorem dX7_init_42 : decode cX7_init 42 = .ok (.putfield 24, 3) := by decide +kernel
theorem dX7_init_45 : decode cX7_init 45 = .ok (.aload_n 0, 1) := by decide +kernel
theorem dX7_init_46 : decode cX7_init 46 = .ok (.aload_n 1, 1) := by decide +kernel
theorem dX7_init_47 : decode cX7_init 47 = .ok (.putfield 28, 3) := by decide +kernel
theorem dX7_init_50 : decode cX7_init 50 = .ok (.iconst 0, 1) := by decide +kernel
theorem dX7_init_51 : decode cX7_init 51 = .ok (.istore_n 3, 1) := by decide +kernel
theorem dX7_init_52 : decode cX7_init 52 = .ok (.iload_n 3, 1) := by decide +kernel
theorem dX7_init_53 : decode cX7_init 53 = .ok (.bipush 6, 2) := by decide +kernel
theorem dX7_init_55 : decode cX7_init 55 = .ok (.if_icmp .ge 17, 3) := by decide +kernel
theorem dX7_init_58 : decode cX7_init 58 = .ok (.aload_n 0, 1) := by decide +kernel
theorem dX7_init_59 : decode cX7_init 59 = .ok (.getfield 24, 3) := by decide +kernel
theorem dX7_init_62 : decode cX7_init 62 = .ok (.iload_n 3, 1) := by decide +kernel
theorem dX7_init_63 : decode cX7_init 63 = .ok (.ldc 31, 2) := by decide +kernel
theorem dX7_init_65 : decode cX7_init 65 = .ok (.iastore, 1) := by decide +kernel
theorem dX7_init_66 : decode cX7_init 66 = .ok (.iinc 3 1, 3) := by decide +kernel
theorem dX7_init_69 : decode cX7_init 69 = .ok (.goto (-17), 3) := by decide +kernel
theorem dX7_init_72 : decode cX7_init 72 = .ok (.iconst 0, 1) := by decide +kernel
theorem dX7_init_73 : decode cX7_init 73 = .ok (.istore_n 3, 1) := by decide +kernel
theorem dX7_init_74 : decode cX7_init 74 = .ok (.iload_n 3, 1) := by decide +kernel
theorem dX7_init_75 : decode cX7_init 75 = .ok (.iload_n 2, 1) := by decide +kernel
theorem dX7_init_76 : decode cX7_init 76 = .ok (.if_icmp .ge 24, 3) := by decide +kernel
theorem dX7_init_79 : decode cX7_init 79 = .ok (.aload_n 0, 1) := by decide +kernel
theorem dX7_init_80 : decode cX7_init 80 = .ok (.getfield 18, 3) := by decide +kernel
theorem dX7_init_83 : decode cX7_init 83 = .ok (.new 32, 3) := by decide +kernel
theorem dX7_init_86 : decode cX7_init 86 = .ok (.dup, 1) := by decide +kernel
theorem dX7_init_87 : decode cX7_init 87 = .ok (.invokespecial 34, 3) := by decide +kernel
theorem dX7_init_90 : decode cX7_init 90 = .ok (.invokevirtual 35, 3) := by decide +kernel
theorem dX7_init_93 : decode cX7_init 93 = .ok (.pop, 1) := by decide +kernel
theorem dX7_init_94 : decode cX7_init 94 = .ok (.iinc 3 1, 3) := by decide +kernel
theorem dX7_init_97 : decode cX7_init 97 = .ok (.goto (-23), 3) := by decide +kernel
theorem dX7_init_100 : decode cX7_init 100 = .ok (.return_, 1) := by decide +kernel
set_option maxRecDepth 20000 in
theorem ggX7_copy_X7_init : GoodIn wsX7_copy wsX7_init := goodIn_r _ [25, 26, 27, 28, 9, 10, 11, 5, 7, 12, 29, 13, 4, 30, 31, 32, 33, 34, 35, 36, 37, 38, 39, 40, 41, 42, 43, 44, 45, 46, 47, 48, 49, 50, 51, 52, 53, 54, 55, 56, 57, 58, 59, 60, 61, 62, 63, 64, 65, 66, 67, 68, 69, 70, 71, 72, 73, 74, 75, 76, 77, 78, 79, 80, 81, 82, 83, 84, 85, 86, 87, 88, 89, 90, 91, 92, 93, 94, 95, 96, 97, 98, 99, 100, 101, 102, 103, 104, 105, 106, 107, 108, 109, 110, 182, 183, 184, 174, 175, 176, 177, 178, 179, 180, 181, 185, 186, 187, 188] (by decide +kernel) (by decide +kernel)
set_option maxRecDepth 20000 in
theorem gX7_copy_X7_init : GoodIn wsX7_copy (wsX7_init) := ggX7_copy_X7_init
set_option maxRecDepth 20000 in
theorem ggX7_copy_Jx4a65c_size_8abf5 : GoodIn wsX7_copy wsJx4a65c_size_8abf5 := goodIn_r _ [114, 64, 182, 183, 184] (by decide +kernel) (by decide +kernel)
set_option maxRecDepth 20000 in
theorem gX7_copy_Jx4a65c_size_8abf5 : GoodIn wsX7_copy (wsV RX7 42 RJx4a65c yJx4a65c_size_8abf5 wsJx4a65c_size_8abf5) := goodIn_app (goodIn_of _ (by decide +kernel)) ggX7_copy_Jx4a65c_size_8abf5
set_option maxRecDepth 20000 in
theorem ggX7_copy_Jx4a65c_get_915e3 : GoodIn wsX7_copy wsJx4a65c_get_915e3 := goodIn_r _ [118, 64, 119, 120, 121, 122, 123, 124, 125, 126, 127, 128, 129, 11, 130, 38, 182, 183, 184] (by decide +kernel) (by decide +kernel)
set_option maxRecDepth 20000 in
theorem gX7_copy_Jx4a65c_get_915e3 : GoodIn wsX7_copy (wsV RX7 46 RJx4a65c yJx4a65c_get_915e3 wsJx4a65c_get_915e3) := goodIn_app (goodIn_of _ (by decide +kernel)) ggX7_copy_Jx4a65c_get_915e3
set_option maxRecDepth 20000 in
theorem ggX7_copy_Jx4a65c_add_9ea2d : GoodIn wsX7_copy wsJx4a65c_add_9ea2d := goodIn_r _ [61, 62, 63, 38, 64, 65, 66, 67, 11, 68, 69, 70, 71, 72, 73, 74, 75, 76, 37, 77, 78, 79, 80, 81, 82, 83, 84, 85, 86, 87, 88, 89, 90, 91, 92, 93, 94, 95, 96, 97, 98, 99, 100, 101, 102, 103, 104, 105, 106, 107, 108, 109, 110, 182, 183, 184] (by decide +kernel) (by decide +kernel)
set_option maxRecDepth 20000 in
theorem gX7_copy_Jx4a65c_add_9ea2d : GoodIn wsX7_copy (wsV RX7 35 RJx4a65c yJx4a65c_add_9ea2d wsJx4a65c_add_9ea2d) := goodIn_app (goodIn_of _ (by decide +kernel)) ggX7_copy_Jx4a65c_add_9ea2d
set_option maxRecDepth 20000 in
theorem ggX7_copy_X9_copy : GoodIn wsX7_copy wsX9_copy := goodIn_r _ [167, 168, 32, 33, 52, 10, 11, 53, 54, 55, 169, 15, 16, 17, 18, 170, 56, 171, 49, 50, 51, 27, 28, 29, 57, 35, 36, 37, 38, 39, 40, 41, 42, 43, 44, 45, 46, 47, 48, 172, 155, 156, 64, 157, 158, 159, 160, 161, 162, 91, 92, 93, 94, 95, 96, 97, 98, 99, 100, 101, 102, 103, 104, 105, 79, 106, 107, 108, 109, 110, 163, 185, 186, 187, 188, 182, 183, 184] (by decide +kernel) (by decide +kernel)
set_option maxRecDepth 20000 in
theorem gX7_copy_X9_copy : GoodIn wsX7_copy (wsV RX7 56 RX9 yX9_copy wsX9_copy) := goodIn_app (goodIn_of _ (by decide +kernel)) ggX7_copy_X9_copy
set_option maxRecDepth 20000 in
theorem ggX7_copy_Jx4a65c_init_4bcb3 : GoodIn wsX7_copy wsJx4a65c_init_4bcb3 := goodIn_r _ [156, 64, 38, 157, 158, 39, 40, 41, 42, 43, 44, 45, 46, 47, 48, 27, 28, 159, 160, 161, 11, 162, 91, 92, 93, 94, 95, 96, 97, 98, 99, 100, 101, 102, 103, 104, 105, 79, 106, 107, 108, 109, 110, 163, 182, 183, 184] (by decide +kernel) (by decide +kernel)
set_option maxRecDepth 20000 in
theorem gX7_copy_Jx4a65c_init_4bcb3 : GoodIn wsX7_copy (wsJx4a65c_init_4bcb3) := ggX7_copy_Jx4a65c_init_4bcb3
theorem dX7_copy_0 : decode cX7_copy 0 = .ok (.new 13, 3) := by decide +kernel
theorem dX7_copy_3 : decode cX7_copy 3 = .ok (.dup, 1) := by decide +kernel
theorem dX7_copy_4 : decode cX7_copy 4 = .ok (.aload_n 0, 1) := by decide +kernel
theorem dX7_copy_5 : decode cX7_copy 5 = .ok (.getfield 28, 3) := by decide +kernel
theorem dX7_copy_8 : decode cX7_copy 8 = .ok (.iconst 0, 1) := by decide +kernel
theorem dX7_copy_9 : decode cX7_copy 9 = .ok (.invokespecial 39, 3) := by decide +kernel
theorem dX7_copy_12 : decode cX7_copy 12 = .ok (.astore_n 1, 1) := by decide +kernel
theorem dX7_copy_13 : decode cX7_copy 13 = .ok (.iconst 0, 1) := by decide +kernel
theorem dX7_copy_14 : decode cX7_copy 14 = .ok (.istore_n 2, 1) := by decide +kernel
theorem dX7_copy_15 : decode cX7_copy 15 = .ok (.iload_n 2, 1) := by decide +kernel
theorem dX7_copy_16 : decode cX7_copy 16 = .ok (.aload_n 0, 1) := by decide +kernel
theorem dX7_copy_17 : decode cX7_copy 17 = .ok (.getfield 12, 3) := by decide +kernel
theorem dX7_copy_20 : decode cX7_copy 20 = .ok (.invokevirtual 42, 3) := by decide +kernel
theorem dX7_copy_23 : decode cX7_copy 23 = .ok (.if_icmp .ge 31, 3) := by decide +kernel
theorem dX7_copy_26 : decode cX7_copy 26 = .ok (.aload_n 1, 1) := by decide +kernel
theorem dX7_copy_27 : decode cX7_copy 27 = .ok (.getfield 12, 3) := by decide +kernel
theorem dX7_copy_30 : decode cX7_copy 30 = .ok (.aload_n 0, 1) := by decide +kernel
theorem dX7_copy_31 : decode cX7_copy 31 = .ok (.getfield 12, 3) := by decide +kernel
theorem dX7_copy_34 : decode cX7_copy 34 = .ok (.iload_n 2, 1) := by decide +kernel
theorem dX7_copy_35 : decode cX7_copy 35 = .ok (.invokevirtual 46, 3) := by decide +kernel
theorem dX7_copy_38 : decode cX7_copy 38 = .ok (.checkcast 50, 3) := by decide +kernel
theorem dX7_copy_41 : decode cX7_copy 41 = .ok (.invokevirtual 52, 3) := by decide +kernel
theorem dX7_copy_44 : decode cX7_copy 44 = .ok (.invokevirtual 35, 3) := by decide +kernel
theorem dX7_copy_47 : decode cX7_copy 47 = .ok (.pop, 1) := by decide +kernel
theorem dX7_copy_48 : decode cX7_copy 48 = .ok (.iinc 2 1, 3) := by decide +kernel
theorem dX7_copy_51 : decode cX7_copy 51 = .ok (.goto (-36), 3) := by decide +kernel
theorem dX7_copy_54 : decode cX7_copy 54 = .ok (.iconst 0, 1) := by decide +kernel
theorem dX7_copy_55 : decode cX7_copy 55 = .ok (.istore_n 2, 1) := by decide +kernel
theorem dX7_copy_56 : decode cX7_copy 56 = .ok (.iload_n 2, 1) := by decide +kernel
theorem dX7_copy_57 : decode cX7_copy 57 = .ok (.aload_n 0, 1) := by decide +kernel
theorem dX7_copy_58 : decode cX7_copy 58 = .ok (.getfield 18, 3) := by decide +kernel
theorem dX7_copy_61 : decode cX7_copy 61 = .ok (.invokevirtual 42, 3) := by decide +kernel
theorem dX7_copy_64 : decode cX7_copy 64 = .ok (.if_icmp .ge 31, 3) := by decide +kernel
theorem dX7_copy_67 : decode cX7_copy 67 = .ok (.aload_n 1, 1) := by decide +kernel
theorem dX7_copy_68 : decode cX7_copy 68 = .ok (.getfield 18, 3) := by decide +kernel
theorem dX7_copy_71 : decode cX7_copy 71 = .ok (.aload_n 0, 1) := by decide +kernel
theorem dX7_copy_72 : decode cX7_copy 72 = .ok (.getfield 18, 3) := by decide +kernel
theorem dX7_copy_75 : decode cX7_copy 75 = .ok (.iload_n 2, 1) := by decide +kernel
theorem dX7_copy_76 : decode cX7_copy 76 = .ok (.invokevirtual 46, 3) := by decide +kernel
theorem dX7_copy_79 : decode cX7_copy 79 = .ok (.checkcast 32, 3) := by decide +kernel
theorem dX7_copy_82 : decode cX7_copy 82 = .ok (.invokevirtual 56, 3) := by decide +kernel
theorem dX7_copy_85 : decode cX7_copy 85 = .ok (.invokevirtual 35, 3) := by decide +kernel
theorem dX7_copy_88 : decode cX7_copy 88 = .ok (.pop, 1) := by decide +kernel
theorem dX7_copy_89 : decode cX7_copy 89 = .ok (.iinc 2 1, 3) := by decide +kernel
theorem dX7_copy_92 : decode cX7_copy 92 = .ok (.goto (-36), 3) := by decide +kernel
theorem dX7_copy_95 : decode cX7_copy 95 = .ok (.aload_n 1, 1) := by decide +kernel
theorem dX7_copy_96 : decode cX7_copy 96 = .ok (.new 9, 3) := by decide +kernel
theorem dX7_copy_99 : decode cX7_copy 99 = .ok (.dup, 1) := by decide +kernel
theorem dX7_copy_100 : decode cX7_copy 100 = .ok (.aload_n 0, 1) := by decide +kernel
theorem dX7_copy_101 : decode cX7_copy 101 = .ok (.getfield 21, 3) := by decide +kernel
theorem dX7_copy_104 : decode cX7_copy 104 = .ok (.invokespecial 59, 3) := by decide +kernel
theorem dX7_copy_107 : decode cX7_copy 107 = .ok (.putfield 21, 3) := by decide +kernel
theorem dX7_copy_110 : decode cX7_copy 110 = .ok (.aload_n 1, 1) := by decide +kernel
theorem dX7_copy_111 : decode cX7_copy 111 = .ok (.aload_n 0, 1) := by decide +kernel
theorem dX7_copy_112 : decode cX7_copy 112 = .ok (.getfield 24, 3) := by decide +kernel
theorem dX7_copy_115 : decode cX7_copy 115 = .ok (.invokevirtual 62, 3) := by decide +kernel
theorem dX7_copy_118 : decode cX7_copy 118 = .ok (.checkcast 63, 3) := by decide +kernel
theorem dX7_copy_121 : decode cX7_copy 121 = .ok (.putfield 24, 3) := by decide +kernel
theorem dX7_copy_124 : decode cX7_copy 124 = .ok (.aload_n 1, 1) := by decide +kernel
theorem dX7_copy_125 : decode cX7_copy 125 = .ok (.aload_n 0, 1) := by decide +kernel
theorem dX7_copy_126 : decode cX7_copy 126 = .ok (.getfield 67, 3) := by decide +kernel
theorem dX7_copy_129 : decode cX7_copy 129 = .ok (.putfield 67, 3) := by decide +kernel
theorem dX7_copy_132 : decode cX7_copy 132 = .ok (.aload_n 1, 1) := by decide +kernel
theorem dX7_copy_133 : decode cX7_copy 133 = .ok (.aload_n 0, 1) := by decide +kernel
theorem dX7_copy_134 : decode cX7_copy 134 = .ok (.getfield 71, 3) := by decide +kernel
theorem dX7_copy_137 : decode cX7_copy 137 = .ok (.putfield 71, 3) := by decide +kernel
theorem dX7_copy_140 : decode cX7_copy 140 = .ok (.aload_n 1, 1) := by decide +kernel
theorem dX7_copy_141 : decode cX7_copy 141 = .ok (.aload_n 0, 1) := by decide +kernel
theorem dX7_copy_142 : decode cX7_copy 142 = .ok (.getfield 74, 3) := by decide +kernel
theorem dX7_copy_145 : decode cX7_copy 145 = .ok (.putfield 74, 3) := by decide +kernel
theorem dX7_copy_148 : decode cX7_copy 148 = .ok (.aload_n 1, 1) := by decide +kernel
theorem dX7_copy_149 : decode cX7_copy 149 = .ok (.areturn, 1) := by decide +kernel
set_option maxRecDepth 20000 in
theorem ggX7_keep_Jx4a65c_size_8abf5 : GoodIn wsX7_keep wsJx4a65c_size_8abf5 := goodIn_r _ [12, 13, 148, 149, 150] (by decide +kernel) (by decide +kernel)
set_option maxRecDepth 20000 in
theorem gX7_keep_Jx4a65c_size_8abf5 : GoodIn wsX7_keep (wsV RX7 42 RJx4a65c yJx4a65c_size_8abf5 wsJx4a65c_size_8abf5) := goodIn_app (goodIn_of _ (by decide +kernel)) ggX7_keep_Jx4a65c_size_8abf5
set_option maxRecDepth 20000 in
theorem ggX7_keep_Jx4a65c_get_915e3 : GoodIn wsX7_keep wsJx4a65c_get_915e3 := goodIn_r _ [17, 13, 18, 19, 20, 21, 22, 23, 24, 25, 26, 27, 28, 11, 29, 30, 148, 149, 150] (by decide +kernel) (by decide +kernel)
set_option maxRecDepth 20000 in
theorem gX7_keep_Jx4a65c_get_915e3 : GoodIn wsX7_keep (wsV RX7 46 RJx4a65c yJx4a65c_get_915e3 wsJx4a65c_get_915e3) := goodIn_app (goodIn_of _ (by decide +kernel)) ggX7_keep_Jx4a65c_get_915e3
theorem dX7_keep_0 : decode cX7_keep 0 = .ok (.aload_n 0, 1) := by decide +kernel
theorem dX7_keep_1 : decode cX7_keep 1 = .ok (.getfield 24, 3) := by decide +kernel
theorem dX7_keep_4 : decode cX7_keep 4 = .ok (.iload_n 1, 1) := by decide +kernel
theorem dX7_keep_5 : decode cX7_keep 5 = .ok (.iaload, 1) := by decide +kernel
theorem dX7_keep_6 : decode cX7_keep 6 = .ok (.ldc 31, 2) := by decide +kernel
theorem dX7_keep_8 : decode cX7_keep 8 = .ok (.if_icmp .eq 5, 3) := by decide +kernel
theorem dX7_keep_11 : decode cX7_keep 11 = .ok (.iconst 0, 1) := by decide +kernel
theorem dX7_keep_12 : decode cX7_keep 12 = .ok (.ireturn, 1) := by decide +kernel
theorem dX7_keep_13 : decode cX7_keep 13 = .ok (.aload_n 0, 1) := by decide +kernel
theorem dX7_keep_14 : decode cX7_keep 14 = .ok (.getfield 24, 3) := by decide +kernel
theorem dX7_keep_17 : decode cX7_keep 17 = .ok (.iload_n 1, 1) := by decide +kernel
theorem dX7_keep_18 : decode cX7_keep 18 = .ok (.iload_n 2, 1) := by decide +kernel
theorem dX7_keep_19 : decode cX7_keep 19 = .ok (.iastore, 1) := by decide +kernel
theorem dX7_keep_20 : decode cX7_keep 20 = .ok (.iconst 0, 1) := by decide +kernel
theorem dX7_keep_21 : decode cX7_keep 21 = .ok (.istore_n 3, 1) := by decide +kernel
theorem dX7_keep_22 : decode cX7_keep 22 = .ok (.iload_n 3, 1) := by decide +kernel
theorem dX7_keep_23 : decode cX7_keep 23 = .ok (.aload_n 0, 1) := by decide +kernel
theorem dX7_keep_24 : decode cX7_keep 24 = .ok (.getfield 12, 3) := by decide +kernel
theorem dX7_keep_27 : decode cX7_keep 27 = .ok (.invokevirtual 42, 3) := by decide +kernel
theorem dX7_keep_30 : decode cX7_keep 30 = .ok (.if_icmp .ge 59, 3) := by decide +kernel
theorem dX7_keep_33 : decode cX7_keep 33 = .ok (.aload_n 0, 1) := by decide +kernel
theorem dX7_keep_34 : decode cX7_keep 34 = .ok (.getfield 12, 3) := by decide +kernel
theorem dX7_keep_37 : decode cX7_keep 37 = .ok (.iload_n 3, 1) := by decide +kernel
theorem dX7_keep_38 : decode cX7_keep 38 = .ok (.invokevirtual 46, 3) := by decide +kernel
theorem dX7_keep_41 : decode cX7_keep 41 = .ok (.checkcast 50, 3) := by decide +kernel
theorem dX7_keep_44 : decode cX7_keep 44 = .ok (.astore 4, 2) := by decide +kernel
theorem dX7_keep_46 : decode cX7_keep 46 = .ok (.aload 4, 2) := by decide +kernel
theorem dX7_keep_48 : decode cX7_keep 48 = .ok (.getfield 89, 3) := by decide +kernel
theorem dX7_keep_51 : decode cX7_keep 51 = .ok (.iconst 3, 1) := by decide +kernel
theorem dX7_keep_52 : decode cX7_keep 52 = .ok (.if_icmp .ne 31, 3) := by decide +kernel
theorem dX7_keep_55 : decode cX7_keep 55 = .ok (.aload_n 0, 1) := by decide +kernel
theorem dX7_keep_56 : decode cX7_keep 56 = .ok (.aload 4, 2) := by decide +kernel
theorem dX7_keep_58 : decode cX7_keep 58 = .ok (.invokevirtual 142, 3) := by decide +kernel
theorem dX7_keep_61 : decode cX7_keep 61 = .ok (.aload 4, 2) := by decide +kernel
theorem dX7_keep_63 : decode cX7_keep 63 = .ok (.getfield 146, 3) := by decide +kernel
theorem dX7_keep_66 : decode cX7_keep 66 = .ok (.invokevirtual 46, 3) := by decide +kernel
theorem dX7_keep_69 : decode cX7_keep 69 = .ok (.checkcast 63, 3) := by decide +kernel
theorem dX7_keep_72 : decode cX7_keep 72 = .ok (.iconst 1, 1) := by decide +kernel
theorem dX7_keep_73 : decode cX7_keep 73 = .ok (.iaload, 1) := by decide +kernel
theorem dX7_keep_74 : decode cX7_keep 74 = .ok (.iload_n 1, 1) := by decide +kernel
theorem dX7_keep_75 : decode cX7_keep 75 = .ok (.if_icmp .ne 8, 3) := by decide +kernel
theorem dX7_keep_78 : decode cX7_keep 78 = .ok (.aload_n 0, 1) := by decide +kernel
theorem dX7_keep_79 : decode cX7_keep 79 = .ok (.iload_n 3, 1) := by decide +kernel
theorem dX7_keep_80 : decode cX7_keep 80 = .ok (.invokevirtual 111, 3) := by decide +kernel
theorem dX7_keep_83 : decode cX7_keep 83 = .ok (.iinc 3 1, 3) := by decide +kernel
theorem dX7_keep_86 : decode cX7_keep 86 = .ok (.goto (-64), 3) := by decide +kernel
theorem dX7_keep_89 : decode cX7_keep 89 = .ok (.iconst 1, 1) := by decide +kernel
theorem dX7_keep_90 : decode cX7_keep 90 = .ok (.ireturn, 1) := by decide +kernel
set_option maxRecDepth 20000 in
theorem ggX7_wants_Jx4a65c_get_915e3 : GoodIn wsX7_wants wsJx4a65c_get_915e3 := goodIn_r _ [10, 11, 12, 13, 14, 15, 16, 17, 18, 19, 20, 21, 22, 9, 23, 24, 61, 62, 63] (by decide +kernel) (by decide +kernel)
set_option maxRecDepth 20000 in
theorem gX7_wants_Jx4a65c_get_915e3 : GoodIn wsX7_wants (wsV RX7 46 RJx4a65c yJx4a65c_get_915e3 wsJx4a65c_get_915e3) := goodIn_app (goodIn_of _ (by decide +kernel)) ggX7_wants_Jx4a65c_get_915e3
set_option maxRecDepth 20000 in
theorem ggX7_wants_X9_top : GoodIn wsX7_wants wsX9_top := goodIn_r _ [29, 30, 31, 32, 33, 34, 9, 35, 11, 36, 37, 38, 39, 40, 7, 8, 10, 12, 13, 14, 15, 16, 17, 18, 19, 20, 21, 22, 23, 24, 41, 42, 43, 44, 45, 46, 64, 65, 66, 67, 61, 62, 63, 68] (by decide +kernel) (by decide +kernel)
set_option maxRecDepth 20000 in
theorem gX7_wants_X9_top : GoodIn wsX7_wants (wsV RX7 183 RX9 yX9_top wsX9_top) := goodIn_app (goodIn_of _ (by decide +kernel)) ggX7_wants_X9_top
theorem dX7_wants_0 : decode cX7_wants 0 = .ok (.aload_n 0, 1) := by decide +kernel
theorem dX7_wants_1 : decode cX7_wants 1 = .ok (.getfield 18, 3) := by decide +kernel
theorem dX7_wants_4 : decode cX7_wants 4 = .ok (.iload_n 1, 1) := by decide +kernel
theorem dX7_wants_5 : decode cX7_wants 5 = .ok (.invokevirtual 46, 3) := by decide +kernel
theorem dX7_wants_8 : decode cX7_wants 8 = .ok (.checkcast 32, 3) := by decide +kernel
theorem dX7_wants_11 : decode cX7_wants 11 = .ok (.invokevirtual 183, 3) := by decide +kernel
theorem dX7_wants_14 : decode cX7_wants 14 = .ok (.istore_n 2, 1) := by decide +kernel
theorem dX7_wants_15 : decode cX7_wants 15 = .ok (.iload_n 2, 1) := by decide +kernel
theorem dX7_wants_16 : decode cX7_wants 16 = .ok (.iconst (-1), 1) := by decide +kernel
theorem dX7_wants_17 : decode cX7_wants 17 = .ok (.if_icmp .eq 28, 3) := by decide +kernel
theorem dX7_wants_20 : decode cX7_wants 20 = .ok (.aload_n 0, 1) := by decide +kernel
theorem dX7_wants_21 : decode cX7_wants 21 = .ok (.getfield 67, 3) := by decide +kernel
theorem dX7_wants_24 : decode cX7_wants 24 = .ok (.iconst 2, 1) := by decide +kernel
theorem dX7_wants_25 : decode cX7_wants 25 = .ok (.if_icmp .ne 24, 3) := by decide +kernel
theorem dX7_wants_28 : decode cX7_wants 28 = .ok (.aload_n 0, 1) := by decide +kernel
theorem dX7_wants_29 : decode cX7_wants 29 = .ok (.getfield 12, 3) := by decide +kernel
theorem dX7_wants_32 : decode cX7_wants 32 = .ok (.iload_n 2, 1) := by decide +kernel
theorem dX7_wants_33 : decode cX7_wants 33 = .ok (.invokevirtual 46, 3) := by decide +kernel
theorem dX7_wants_36 : decode cX7_wants 36 = .ok (.checkcast 50, 3) := by decide +kernel
theorem dX7_wants_39 : decode cX7_wants 39 = .ok (.invokevirtual 186, 3) := by decide +kernel
theorem dX7_wants_42 : decode cX7_wants 42 = .ok (.ifCond .eq 7, 3) := by decide +kernel
theorem dX7_wants_45 : decode cX7_wants 45 = .ok (.iconst 1, 1) := by decide +kernel
theorem dX7_wants_46 : decode cX7_wants 46 = .ok (.goto 4, 3) := by decide +kernel
theorem dX7_wants_49 : decode cX7_wants 49 = .ok (.iconst 0, 1) := by decide +kernel
theorem dX7_wants_50 : decode cX7_wants 50 = .ok (.ireturn, 1) := by decide +kernel
set_option maxRecDepth 20000 in
theorem ggX7_victim_Jx4a65c_size_8abf5 : GoodIn wsX7_victim wsJx4a65c_size_8abf5 := goodIn_r _ [9, 10, 44, 45, 46] (by decide +kernel) (by decide +kernel)
set_option maxRecDepth 20000 in
theorem gX7_victim_Jx4a65c_size_8abf5 : GoodIn wsX7_victim (wsV RX7 42 RJx4a65c yJx4a65c_size_8abf5 wsJx4a65c_size_8abf5) := goodIn_app (goodIn_of _ (by decide +kernel)) ggX7_victim_Jx4a65c_size_8abf5
set_option maxRecDepth 20000 in
theorem ggX7_victim_Jx4a65c_get_915e3 : GoodIn wsX7_victim wsJx4a65c_get_915e3 := goodIn_r _ [14, 10, 15, 16, 17, 18, 19, 20, 21, 22, 23, 24, 25, 8, 26, 27, 44, 45, 46] (by decide +kernel) (by decide +kernel)
set_option maxRecDepth 20000 in
theorem gX7_victim_Jx4a65c_get_915e3 : GoodIn wsX7_victim (wsV RX7 46 RJx4a65c yJx4a65c_get_915e3 wsJx4a65c_get_915e3) := goodIn_app (goodIn_of _ (by decide +kernel)) ggX7_victim_Jx4a65c_get_915e3
set_option maxRecDepth 20000 in
theorem ggX7_victim_Jx4a65c_isEmpty_aae02 : GoodIn wsX7_victim wsJx4a65c_isEmpty_aae02 := goodIn_r _ [31, 10, 44, 45, 46] (by decide +kernel) (by decide +kernel)
set_option maxRecDepth 20000 in
theorem gX7_victim_Jx4a65c_isEmpty_aae02 : GoodIn wsX7_victim (wsV RX7 118 RJx4a65c yJx4a65c_isEmpty_aae02 wsJx4a65c_isEmpty_aae02) := goodIn_app (goodIn_of _ (by decide +kernel)) ggX7_victim_Jx4a65c_isEmpty_aae02
theorem dX7_victim_0 : decode cX7_victim 0 = .ok (.iconst (-1), 1) := by decide +kernel
theorem dX7_victim_1 : decode cX7_victim 1 = .ok (.istore_n 2, 1) := by decide +kernel
theorem dX7_victim_2 : decode cX7_victim 2 = .ok (.iconst 1, 1) := by decide +kernel
theorem dX7_victim_3 : decode cX7_victim 3 = .ok (.istore_n 3, 1) := by decide +kernel
theorem dX7_victim_4 : decode cX7_victim 4 = .ok (.iload_n 3, 1) := by decide +kernel
theorem dX7_victim_5 : decode cX7_victim 5 = .ok (.aload_n 0, 1) := by decide +kernel
theorem dX7_victim_6 : decode cX7_victim 6 = .ok (.getfield 18, 3) := by decide +kernel
theorem dX7_victim_9 : decode cX7_victim 9 = .ok (.invokevirtual 42, 3) := by decide +kernel
theorem dX7_victim_12 : decode cX7_victim 12 = .ok (.if_icmp .ge 58, 3) := by decide +kernel
theorem dX7_victim_15 : decode cX7_victim 15 = .ok (.iload_n 1, 1) := by decide +kernel
theorem dX7_victim_16 : decode cX7_victim 16 = .ok (.iload_n 3, 1) := by decide +kernel
theorem dX7_victim_17 : decode cX7_victim 17 = .ok (.iadd, 1) := by decide +kernel
theorem dX7_victim_18 : decode cX7_victim 18 = .ok (.aload_n 0, 1) := by decide +kernel
theorem dX7_victim_19 : decode cX7_victim 19 = .ok (.getfield 18, 3) := by decide +kernel
theorem dX7_victim_22 : decode cX7_victim 22 = .ok (.invokevirtual 42, 3) := by decide +kernel
theorem dX7_victim_25 : decode cX7_victim 25 = .ok (.irem, 1) := by decide +kernel
theorem dX7_victim_26 : decode cX7_victim 26 = .ok (.istore 4, 2) := by decide +kernel
theorem dX7_victim_28 : decode cX7_victim 28 = .ok (.aload_n 0, 1) := by decide +kernel
theorem dX7_victim_29 : decode cX7_victim 29 = .ok (.getfield 71, 3) := by decide +kernel
theorem dX7_victim_32 : decode cX7_victim 32 = .ok (.ifCond .ne 32, 3) := by decide +kernel
theorem dX7_victim_35 : decode cX7_victim 35 = .ok (.iload_n 2, 1) := by decide +kernel
theorem dX7_victim_36 : decode cX7_victim 36 = .ok (.iconst (-1), 1) := by decide +kernel
theorem dX7_victim_37 : decode cX7_victim 37 = .ok (.if_icmp .ne 27, 3) := by decide +kernel
theorem dX7_victim_40 : decode cX7_victim 40 = .ok (.aload_n 0, 1) := by decide +kernel
theorem dX7_victim_41 : decode cX7_victim 41 = .ok (.getfield 18, 3) := by decide +kernel
theorem dX7_victim_44 : decode cX7_victim 44 = .ok (.iload 4, 2) := by decide +kernel
theorem dX7_victim_46 : decode cX7_victim 46 = .ok (.invokevirtual 46, 3) := by decide +kernel
theorem dX7_victim_49 : decode cX7_victim 49 = .ok (.checkcast 32, 3) := by decide +kernel
theorem dX7_victim_52 : decode cX7_victim 52 = .ok (.getfield 98, 3) := by decide +kernel
theorem dX7_victim_55 : decode cX7_victim 55 = .ok (.invokevirtual 118, 3) := by decide +kernel
theorem dX7_victim_58 : decode cX7_victim 58 = .ok (.ifCond .ne 6, 3) := by decide +kernel
theorem dX7_victim_61 : decode cX7_victim 61 = .ok (.iload 4, 2) := by decide +kernel
theorem dX7_victim_63 : decode cX7_victim 63 = .ok (.istore_n 2, 1) := by decide +kernel
theorem dX7_victim_64 : decode cX7_victim 64 = .ok (.iinc 3 1, 3) := by decide +kernel
theorem dX7_victim_67 : decode cX7_victim 67 = .ok (.goto (-63), 3) := by decide +kernel
theorem dX7_victim_70 : decode cX7_victim 70 = .ok (.iconst 0, 1) := by decide +kernel
theorem dX7_victim_71 : decode cX7_victim 71 = .ok (.istore_n 3, 1) := by decide +kernel
theorem dX7_victim_72 : decode cX7_victim 72 = .ok (.aload_n 0, 1) := by decide +kernel
theorem dX7_victim_73 : decode cX7_victim 73 = .ok (.getfield 71, 3) := by decide +kernel
theorem dX7_victim_76 : decode cX7_victim 76 = .ok (.iconst 1, 1) := by decide +kernel
theorem dX7_victim_77 : decode cX7_victim 77 = .ok (.if_icmp .ne 73, 3) := by decide +kernel
theorem dX7_victim_80 : decode cX7_victim 80 = .ok (.iload_n 3, 1) := by decide +kernel
theorem dX7_victim_81 : decode cX7_victim 81 = .ok (.aload_n 0, 1) := by decide +kernel
theorem dX7_victim_82 : decode cX7_victim 82 = .ok (.getfield 18, 3) := by decide +kernel
theorem dX7_victim_85 : decode cX7_victim 85 = .ok (.invokevirtual 42, 3) := by decide +kernel
theorem dX7_victim_88 : decode cX7_victim 88 = .ok (.if_icmp .ge 62, 3) := by decide +kernel
theorem dX7_victim_91 : decode cX7_victim 91 = .ok (.iload_n 3, 1) := by decide +kernel
theorem dX7_victim_92 : decode cX7_victim 92 = .ok (.iload_n 1, 1) := by decide +kernel
theorem dX7_victim_93 : decode cX7_victim 93 = .ok (.if_icmp .eq 51, 3) := by decide +kernel
theorem dX7_victim_96 : decode cX7_victim 96 = .ok (.aload_n 0, 1) := by decide +kernel
theorem dX7_victim_97 : decode cX7_victim 97 = .ok (.getfield 18, 3) := by decide +kernel
theorem dX7_victim_100 : decode cX7_victim 100 = .ok (.iload_n 3, 1) := by decide +kernel
theorem dX7_victim_101 : decode cX7_victim 101 = .ok (.invokevirtual 46, 3) := by decide +kernel
theorem dX7_victim_104 : decode cX7_victim 104 = .ok (.checkcast 32, 3) := by decide +kernel
theorem dX7_victim_107 : decode cX7_victim 107 = .ok (.getfield 98, 3) := by decide +kernel
theorem dX7_victim_110 : decode cX7_victim 110 = .ok (.invokevirtual 42, 3) := by decide +kernel
theorem dX7_victim_113 : decode cX7_victim 113 = .ok (.iload_n 2, 1) := by decide +kernel
theorem dX7_victim_114 : decode cX7_victim 114 = .ok (.iconst (-1), 1) := by decide +kernel
theorem dX7_victim_115 : decode cX7_victim 115 = .ok (.if_icmp .ne 7, 3) := by decide +kernel
theorem dX7_victim_118 : decode cX7_victim 118 = .ok (.iconst 0, 1) := by decide +kernel
theorem dX7_victim_119 : decode cX7_victim 119 = .ok (.goto 20, 3) := by decide +kernel
theorem dX7_victim_122 : decode cX7_victim 122 = .ok (.aload_n 0, 1) := by decide +kernel
theorem dX7_victim_123 : decode cX7_victim 123 = .ok (.getfield 18, 3) := by decide +kernel
theorem dX7_victim_126 : decode cX7_victim 126 = .ok (.iload_n 2, 1) := by decide +kernel
theorem dX7_victim_127 : decode cX7_victim 127 = .ok (.invokevirtual 46, 3) := by decide +kernel
theorem dX7_victim_130 : decode cX7_victim 130 = .ok (.checkcast 32, 3) := by decide +kernel
theorem dX7_victim_133 : decode cX7_victim 133 = .ok (.getfield 98, 3) := by decide +kernel
theorem dX7_victim_136 : decode cX7_victim 136 = .ok (.invokevirtual 42, 3) := by decide +kernel
theorem dX7_victim_139 : decode cX7_victim 139 = .ok (.if_icmp .le 5, 3) := by decide +kernel
theorem dX7_victim_142 : decode cX7_victim 142 = .ok (.iload_n 3, 1) := by decide +kernel
theorem dX7_victim_143 : decode cX7_victim 143 = .ok (.istore_n 2, 1) := by decide +kernel
theorem dX7_victim_144 : decode cX7_victim 144 = .ok (.iinc 3 1, 3) := by decide +kernel
theorem dX7_victim_147 : decode cX7_victim 147 = .ok (.goto (-75), 3) := by decide +kernel
theorem dX7_victim_150 : decode cX7_victim 150 = .ok (.iload_n 2, 1) := by decide +kernel
theorem dX7_victim_151 : decode cX7_victim 151 = .ok (.ireturn, 1) := by decide +kernel
set_option maxRecDepth 20000 in
theorem ggX7_isBusy_X7_wants : GoodIn wsX7_isBusy wsX7_wants := goodIn_r _ [11, 1, 2, 12, 5, 6, 13, 14, 15, 16, 17, 18, 19, 20, 21, 22, 23, 24, 25, 26, 27, 28, 29, 30, 31, 32, 33, 34, 35, 36, 37, 38, 39, 40, 41, 42, 43, 44, 45, 46, 47, 48, 49, 50, 51, 52, 53, 54, 55, 56, 57, 58, 59, 67, 68, 69, 70, 71, 72, 73, 74, 79, 80, 81, 75, 76, 77, 78, 82, 83, 84, 85, 86, 87, 88, 89, 90, 91, 92] (by decide +kernel) (by decide +kernel)
set_option maxRecDepth 20000 in
theorem gX7_isBusy_X7_wants : GoodIn wsX7_isBusy (wsV RX7 189 RX7 yX7_wants wsX7_wants) := goodIn_app (goodIn_of _ (by decide +kernel)) ggX7_isBusy_X7_wants
set_option maxRecDepth 20000 in
theorem ggX7_isBusy_Jx4a65c_get_915e3 : GoodIn wsX7_isBusy wsJx4a65c_get_915e3 := goodIn_r _ [17, 18, 19, 20, 21, 22, 23, 24, 25, 26, 27, 28, 29, 16, 30, 31, 79, 80, 81] (by decide +kernel) (by decide +kernel)
set_option maxRecDepth 20000 in
theorem gX7_isBusy_Jx4a65c_get_915e3 : GoodIn wsX7_isBusy (wsV RX7 46 RJx4a65c yJx4a65c_get_915e3 wsJx4a65c_get_915e3) := goodIn_app (goodIn_of _ (by decide +kernel)) ggX7_isBusy_Jx4a65c_get_915e3
set_option maxRecDepth 20000 in
theorem ggX7_isBusy_Jx4a65c_isEmpty_aae02 : GoodIn wsX7_isBusy wsJx4a65c_isEmpty_aae02 := goodIn_r _ [42, 18, 79, 80, 81] (by decide +kernel) (by decide +kernel)
set_option maxRecDepth 20000 in
theorem gX7_isBusy_Jx4a65c_isEmpty_aae02 : GoodIn wsX7_isBusy (wsV RX7 118 RJx4a65c yJx4a65c_isEmpty_aae02 wsJx4a65c_isEmpty_aae02) := goodIn_app (goodIn_of _ (by decide +kernel)) ggX7_isBusy_Jx4a65c_isEmpty_aae02
set_option maxRecDepth 20000 in
theorem ggX7_isBusy_X7_victim : GoodIn wsX7_isBusy wsX7_victim := goodIn_r _ [64, 1, 65, 2, 3, 66, 44, 45, 16, 46, 18, 13, 14, 15, 17, 19, 20, 21, 22, 23, 24, 25, 26, 27, 28, 29, 30, 31, 60, 40, 41, 42, 67, 68, 69, 70, 71, 72, 73, 74, 75, 76, 77, 78, 79, 80, 81] (by decide +kernel) (by decide +kernel)
set_option maxRecDepth 20000 in
theorem gX7_isBusy_X7_victim : GoodIn wsX7_isBusy (wsV RX7 193 RX7 yX7_victim wsX7_victim) := goodIn_app (goodIn_of _ (by decide +kernel)) ggX7_isBusy_X7_victim
set_option maxRecDepth 20000 in
theorem ggX7_isBusy_X9_top : GoodIn wsX7_isBusy wsX9_top := goodIn_r _ [36, 37, 38, 39, 40, 41, 16, 42, 18, 43, 44, 45, 46, 47, 14, 15, 17, 19, 20, 21, 22, 23, 24, 25, 26, 27, 28, 29, 30, 31, 48, 49, 50, 51, 52, 53, 75, 76, 77, 78, 79, 80, 81, 82] (by decide +kernel) (by decide +kernel)
set_option maxRecDepth 20000 in
theorem gX7_isBusy_X9_top : GoodIn wsX7_isBusy (wsV RX7 183 RX9 yX9_top wsX9_top) := goodIn_app (goodIn_of _ (by decide +kernel)) ggX7_isBusy_X9_top
theorem dX7_isBusy_0 : decode cX7_isBusy 0 = .ok (.aload_n 0, 1) := by decide +kernel
theorem dX7_isBusy_1 : decode cX7_isBusy 1 = .ok (.iload_n 1, 1) := by decide +kernel
theorem dX7_isBusy_2 : decode cX7_isBusy 2 = .ok (.invokevirtual 189, 3) := by decide +kernel
theorem dX7_isBusy_5 : decode cX7_isBusy 5 = .ok (.ifCond .eq 48, 3) := by decide +kernel
theorem dX7_isBusy_8 : decode cX7_isBusy 8 = .ok (.aload_n 0, 1) := by decide +kernel
theorem dX7_isBusy_9 : decode cX7_isBusy 9 = .ok (.getfield 18, 3) := by decide +kernel
theorem dX7_isBusy_12 : decode cX7_isBusy 12 = .ok (.iload_n 1, 1) := by decide +kernel
theorem dX7_isBusy_13 : decode cX7_isBusy 13 = .ok (.invokevirtual 46, 3) := by decide +kernel
theorem dX7_isBusy_16 : decode cX7_isBusy 16 = .ok (.checkcast 32, 3) := by decide +kernel
theorem dX7_isBusy_19 : decode cX7_isBusy 19 = .ok (.getfield 98, 3) := by decide +kernel
theorem dX7_isBusy_22 : decode cX7_isBusy 22 = .ok (.invokevirtual 118, 3) := by decide +kernel
theorem dX7_isBusy_25 : decode cX7_isBusy 25 = .ok (.ifCond .eq 22, 3) := by decide +kernel
theorem dX7_isBusy_28 : decode cX7_isBusy 28 = .ok (.aload_n 0, 1) := by decide +kernel
theorem dX7_isBusy_29 : decode cX7_isBusy 29 = .ok (.getfield 21, 3) := by decide +kernel
theorem dX7_isBusy_32 : decode cX7_isBusy 32 = .ok (.invokevirtual 118, 3) := by decide +kernel
theorem dX7_isBusy_35 : decode cX7_isBusy 35 = .ok (.ifCond .eq 12, 3) := by decide +kernel
theorem dX7_isBusy_38 : decode cX7_isBusy 38 = .ok (.aload_n 0, 1) := by decide +kernel
theorem dX7_isBusy_39 : decode cX7_isBusy 39 = .ok (.iload_n 1, 1) := by decide +kernel
theorem dX7_isBusy_40 : decode cX7_isBusy 40 = .ok (.invokevirtual 193, 3) := by decide +kernel
theorem dX7_isBusy_43 : decode cX7_isBusy 43 = .ok (.iconst (-1), 1) := by decide +kernel
theorem dX7_isBusy_44 : decode cX7_isBusy 44 = .ok (.if_icmp .eq 7, 3) := by decide +kernel
theorem dX7_isBusy_47 : decode cX7_isBusy 47 = .ok (.iconst 1, 1) := by decide +kernel
theorem dX7_isBusy_48 : decode cX7_isBusy 48 = .ok (.goto 4, 3) := by decide +kernel
theorem dX7_isBusy_51 : decode cX7_isBusy 51 = .ok (.iconst 0, 1) := by decide +kernel
theorem dX7_isBusy_52 : decode cX7_isBusy 52 = .ok (.ireturn, 1) := by decide +kernel
theorem dX7_isBusy_53 : decode cX7_isBusy 53 = .ok (.aload_n 0, 1) := by decide +kernel
theorem dX7_isBusy_54 : decode cX7_isBusy 54 = .ok (.getfield 12, 3) := by decide +kernel
theorem dX7_isBusy_57 : decode cX7_isBusy 57 = .ok (.aload_n 0, 1) := by decide +kernel
theorem dX7_isBusy_58 : decode cX7_isBusy 58 = .ok (.getfield 18, 3) := by decide +kernel
theorem dX7_isBusy_61 : decode cX7_isBusy 61 = .ok (.iload_n 1, 1) := by decide +kernel
theorem dX7_isBusy_62 : decode cX7_isBusy 62 = .ok (.invokevirtual 46, 3) := by decide +kernel
theorem dX7_isBusy_65 : decode cX7_isBusy 65 = .ok (.checkcast 32, 3) := by decide +kernel
theorem dX7_isBusy_68 : decode cX7_isBusy 68 = .ok (.invokevirtual 183, 3) := by decide +kernel
theorem dX7_isBusy_71 : decode cX7_isBusy 71 = .ok (.invokevirtual 46, 3) := by decide +kernel
theorem dX7_isBusy_74 : decode cX7_isBusy 74 = .ok (.checkcast 50, 3) := by decide +kernel
theorem dX7_isBusy_77 : decode cX7_isBusy 77 = .ok (.invokevirtual 186, 3) := by decide +kernel
theorem dX7_isBusy_80 : decode cX7_isBusy 80 = .ok (.ifCond .ne 7, 3) := by decide +kernel
theorem dX7_isBusy_83 : decode cX7_isBusy 83 = .ok (.iconst 1, 1) := by decide +kernel
theorem dX7_isBusy_84 : decode cX7_isBusy 84 = .ok (.goto 4, 3) := by decide +kernel
theorem dX7_isBusy_87 : decode cX7_isBusy 87 = .ok (.iconst 0, 1) := by decide +kernel
theorem dX7_isBusy_88 : decode cX7_isBusy 88 = .ok (.ireturn, 1) := by decide +kernel
set_option maxRecDepth 20000 in
theorem ggX7_take_Jx4a65c_get_915e3 : GoodIn wsX7_take wsJx4a65c_get_915e3 := goodIn_r _ [15, 16, 17, 18, 19, 20, 21, 22, 23, 24, 25, 26, 27, 14, 28, 29, 151, 152, 153] (by decide +kernel) (by decide +kernel)
set_option maxRecDepth 20000 in
theorem gX7_take_Jx4a65c_get_915e3 : GoodIn wsX7_take (wsV RX7 46 RJx4a65c yJx4a65c_get_915e3 wsJx4a65c_get_915e3) := goodIn_app (goodIn_of _ (by decide +kernel)) ggX7_take_Jx4a65c_get_915e3
set_option maxRecDepth 20000 in
theorem ggX7_take_X7_victim : GoodIn wsX7_take wsX7_victim := goodIn_r _ [34, 1, 35, 2, 3, 36, 37, 38, 14, 39, 16, 11, 12, 13, 15, 17, 18, 19, 20, 21, 22, 23, 24, 25, 26, 27, 28, 29, 40, 41, 42, 43, 129, 130, 131, 132, 133, 134, 135, 136, 137, 138, 139, 140, 151, 152, 153] (by decide +kernel) (by decide +kernel)
set_option maxRecDepth 20000 in
theorem gX7_take_X7_victim : GoodIn wsX7_take (wsV RX7 193 RX7 yX7_victim wsX7_victim) := goodIn_app (goodIn_of _ (by decide +kernel)) ggX7_take_X7_victim
set_option maxRecDepth 20000 in
theorem ggX7_take_Jx4a65c_isEmpty_aae02 : GoodIn wsX7_take wsJx4a65c_isEmpty_aae02 := goodIn_r _ [43, 16, 151, 152, 153] (by decide +kernel) (by decide +kernel)
set_option maxRecDepth 20000 in
theorem gX7_take_Jx4a65c_isEmpty_aae02 : GoodIn wsX7_take (wsV RX7 118 RJx4a65c yJx4a65c_isEmpty_aae02 wsJx4a65c_isEmpty_aae02) := goodIn_app (goodIn_of _ (by decide +kernel)) ggX7_take_Jx4a65c_isEmpty_aae02
set_option maxRecDepth 20000 in
theorem ggX7_take_Jx4a65c_size_8abf5 : GoodIn wsX7_take wsJx4a65c_size_8abf5 := goodIn_r _ [39, 16, 151, 152, 153] (by decide +kernel) (by decide +kernel)
set_option maxRecDepth 20000 in
theorem gX7_take_Jx4a65c_size_8abf5 : GoodIn wsX7_take (wsV RX7 42 RJx4a65c yJx4a65c_size_8abf5 wsJx4a65c_size_8abf5) := goodIn_app (goodIn_of _ (by decide +kernel)) ggX7_take_Jx4a65c_size_8abf5
set_option maxRecDepth 20000 in
theorem ggX7_take_Jx4a65c_remove_915e3 : GoodIn wsX7_take wsJx4a65c_remove_915e3 := goodIn_r _ [47, 16, 29, 17, 18, 19, 20, 21, 22, 23, 24, 48, 49, 50, 14, 51, 52, 53, 54, 55, 56, 57, 151, 152, 153] (by decide +kernel) (by decide +kernel)
set_option maxRecDepth 20000 in
theorem gX7_take_Jx4a65c_remove_915e3 : GoodIn wsX7_take (wsV RX7 156 RJx4a65c yJx4a65c_remove_915e3 wsJx4a65c_remove_915e3) := goodIn_app (goodIn_of _ (by decide +kernel)) ggX7_take_Jx4a65c_remove_915e3
set_option maxRecDepth 20000 in
theorem ggX7_take_J6_intValue_8abf5 : GoodIn wsX7_take wsJ6_intValue_8abf5 := goodIn_r _ [62, 63, 154] (by decide +kernel) (by decide +kernel)
set_option maxRecDepth 20000 in
theorem gX7_take_J6_intValue_8abf5 : GoodIn wsX7_take (wsV RX7 122 RJ6 yJ6_intValue_8abf5 wsJ6_intValue_8abf5) := goodIn_app (goodIn_of _ (by decide +kernel)) ggX7_take_J6_intValue_8abf5
set_option maxRecDepth 20000 in
theorem ggX7_take_J6_valueOf_2dffe : GoodIn wsX7_take wsJ6_valueOf_2dffe := goodIn_r _ [66, 67, 68, 69, 70, 61, 71, 72, 73, 63, 74, 75, 76, 77, 78, 79, 80, 154] (by decide +kernel) (by decide +kernel)
set_option maxRecDepth 20000 in
theorem gX7_take_J6_valueOf_2dffe : GoodIn wsX7_take (va_wsS RX7 80 yJ6_valueOf_2dffe wsJ6_valueOf_2dffe) := goodIn_app (goodIn_of _ (by decide +kernel)) ggX7_take_J6_valueOf_2dffe
set_option maxRecDepth 20000 in
theorem ggX7_take_Jx4a65c_add_9ea2d : GoodIn wsX7_take wsJx4a65c_add_9ea2d := goodIn_r _ [84, 52, 53, 29, 16, 85, 86, 87, 14, 88, 89, 90, 91, 92, 93, 94, 95, 96, 97, 98, 99, 100, 101, 102, 103, 104, 105, 106, 107, 108, 109, 110, 111, 112, 113, 114, 115, 116, 117, 118, 119, 120, 121, 122, 123, 124, 125, 126, 127, 128, 55, 56, 57, 151, 152, 153] (by decide +kernel) (by decide +kernel)
set_option maxRecDepth 20000 in
theorem gX7_take_Jx4a65c_add_9ea2d : GoodIn wsX7_take (wsV RX7 35 RJx4a65c yJx4a65c_add_9ea2d wsJx4a65c_add_9ea2d) := goodIn_app (goodIn_of _ (by decide +kernel)) ggX7_take_Jx4a65c_add_9ea2d
theorem dX7_take_0 : decode cX7_take 0 = .ok (.aload_n 0, 1) := by decide +kernel
theorem dX7_take_1 : decode cX7_take 1 = .ok (.getfield 18, 3) := by decide +kernel
theorem dX7_take_4 : decode cX7_take 4 = .ok (.iload_n 1, 1) := by decide +kernel
theorem dX7_take_5 : decode cX7_take 5 = .ok (.invokevirtual 46, 3) := by decide +kernel
theorem dX7_take_8 : decode cX7_take 8 = .ok (.checkcast 32, 3) := by decide +kernel
theorem dX7_take_11 : decode cX7_take 11 = .ok (.astore_n 2, 1) := by decide +kernel
theorem dX7_take_12 : decode cX7_take 12 = .ok (.aload_n 0, 1) := by decide +kernel
theorem dX7_take_13 : decode cX7_take 13 = .ok (.iload_n 1, 1) := by decide +kernel
theorem dX7_take_14 : decode cX7_take 14 = .ok (.invokevirtual 193, 3) := by decide +kernel
theorem dX7_take_17 : decode cX7_take 17 = .ok (.istore_n 3, 1) := by decide +kernel
theorem dX7_take_18 : decode cX7_take 18 = .ok (.iconst 1, 1) := by decide +kernel
theorem dX7_take_19 : decode cX7_take 19 = .ok (.istore 5, 2) := by decide +kernel
theorem dX7_take_21 : decode cX7_take 21 = .ok (.aload_n 2, 1) := by decide +kernel
theorem dX7_take_22 : decode cX7_take 22 = .ok (.getfield 98, 3) := by decide +kernel
theorem dX7_take_25 : decode cX7_take 25 = .ok (.invokevirtual 118, 3) := by decide +kernel
theorem dX7_take_28 : decode cX7_take 28 = .ok (.ifCond .ne 30, 3) := by decide +kernel
theorem dX7_take_31 : decode cX7_take 31 = .ok (.aload_n 2, 1) := by decide +kernel
theorem dX7_take_32 : decode cX7_take 32 = .ok (.getfield 98, 3) := by decide +kernel
theorem dX7_take_35 : decode cX7_take 35 = .ok (.aload_n 2, 1) := by decide +kernel
theorem dX7_take_36 : decode cX7_take 36 = .ok (.getfield 98, 3) := by decide +kernel
theorem dX7_take_39 : decode cX7_take 39 = .ok (.invokevirtual 42, 3) := by decide +kernel
theorem dX7_take_42 : decode cX7_take 42 = .ok (.iconst 1, 1) := by decide +kernel
theorem dX7_take_43 : decode cX7_take 43 = .ok (.isub, 1) := by decide +kernel
theorem dX7_take_44 : decode cX7_take 44 = .ok (.invokevirtual 156, 3) := by decide +kernel
theorem dX7_take_47 : decode cX7_take 47 = .ok (.checkcast 81, 3) := by decide +kernel
theorem dX7_take_50 : decode cX7_take 50 = .ok (.invokevirtual 122, 3) := by decide +kernel
theorem dX7_take_53 : decode cX7_take 53 = .ok (.istore 4, 2) := by decide +kernel
theorem dX7_take_55 : decode cX7_take 55 = .ok (.goto 81, 3) := by decide +kernel
theorem dX7_take_58 : decode cX7_take 58 = .ok (.aload_n 0, 1) := by decide +kernel
theorem dX7_take_59 : decode cX7_take 59 = .ok (.getfield 21, 3) := by decide +kernel
theorem dX7_take_62 : decode cX7_take 62 = .ok (.invokevirtual 118, 3) := by decide +kernel
theorem dX7_take_65 : decode cX7_take 65 = .ok (.ifCond .ne 22, 3) := by decide +kernel
theorem dX7_take_68 : decode cX7_take 68 = .ok (.aload_n 0, 1) := by decide +kernel
theorem dX7_take_69 : decode cX7_take 69 = .ok (.getfield 21, 3) := by decide +kernel
theorem dX7_take_72 : decode cX7_take 72 = .ok (.iconst 0, 1) := by decide +kernel
theorem dX7_take_73 : decode cX7_take 73 = .ok (.invokevirtual 156, 3) := by decide +kernel
theorem dX7_take_76 : decode cX7_take 76 = .ok (.checkcast 81, 3) := by decide +kernel
theorem dX7_take_79 : decode cX7_take 79 = .ok (.invokevirtual 122, 3) := by decide +kernel
theorem dX7_take_82 : decode cX7_take 82 = .ok (.istore 4, 2) := by decide +kernel
theorem dX7_take_84 : decode cX7_take 84 = .ok (.goto 52, 3) := by decide +kernel
theorem dX7_take_87 : decode cX7_take 87 = .ok (.iload_n 3, 1) := by decide +kernel
theorem dX7_take_88 : decode cX7_take 88 = .ok (.iconst (-1), 1) := by decide +kernel
theorem dX7_take_89 : decode cX7_take 89 = .ok (.if_icmp .eq 45, 3) := by decide +kernel
theorem dX7_take_92 : decode cX7_take 92 = .ok (.aload_n 0, 1) := by decide +kernel
theorem dX7_take_93 : decode cX7_take 93 = .ok (.getfield 18, 3) := by decide +kernel
theorem dX7_take_96 : decode cX7_take 96 = .ok (.iload_n 3, 1) := by decide +kernel
theorem dX7_take_97 : decode cX7_take 97 = .ok (.invokevirtual 46, 3) := by decide +kernel
theorem dX7_take_100 : decode cX7_take 100 = .ok (.checkcast 32, 3) := by decide +kernel
theorem dX7_take_103 : decode cX7_take 103 = .ok (.getfield 98, 3) := by decide +kernel
theorem dX7_take_106 : decode cX7_take 106 = .ok (.iconst 0, 1) := by decide +kernel
theorem dX7_take_107 : decode cX7_take 107 = .ok (.invokevirtual 156, 3) := by decide +kernel
theorem dX7_take_110 : decode cX7_take 110 = .ok (.checkcast 81, 3) := by decide +kernel
theorem dX7_take_113 : decode cX7_take 113 = .ok (.invokevirtual 122, 3) := by decide +kernel
theorem dX7_take_116 : decode cX7_take 116 = .ok (.istore 4, 2) := by decide +kernel
theorem dX7_take_118 : decode cX7_take 118 = .ok (.aload_n 2, 1) := by decide +kernel
theorem dX7_take_119 : decode cX7_take 119 = .ok (.getfield 196, 3) := by decide +kernel
theorem dX7_take_122 : decode cX7_take 122 = .ok (.iconst 2, 1) := by decide +kernel
theorem dX7_take_123 : decode cX7_take 123 = .ok (.dup2, 1) := by decide +kernel
theorem dX7_take_124 : decode cX7_take 124 = .ok (.iaload, 1) := by decide +kernel
theorem dX7_take_125 : decode cX7_take 125 = .ok (.iconst 1, 1) := by decide +kernel
theorem dX7_take_126 : decode cX7_take 126 = .ok (.iadd, 1) := by decide +kernel
theorem dX7_take_127 : decode cX7_take 127 = .ok (.iastore, 1) := by decide +kernel
theorem dX7_take_128 : decode cX7_take 128 = .ok (.iconst 2, 1) := by decide +kernel
theorem dX7_take_129 : decode cX7_take 129 = .ok (.istore 5, 2) := by decide +kernel
theorem dX7_take_131 : decode cX7_take 131 = .ok (.goto 5, 3) := by decide +kernel
theorem dX7_take_134 : decode cX7_take 134 = .ok (.iconst 0, 1) := by decide +kernel
theorem dX7_take_135 : decode cX7_take 135 = .ok (.ireturn, 1) := by decide +kernel
theorem dX7_take_136 : decode cX7_take 136 = .ok (.aload_n 2, 1) := by decide +kernel
theorem dX7_take_137 : decode cX7_take 137 = .ok (.getfield 101, 3) := by decide +kernel
theorem dX7_take_140 : decode cX7_take 140 = .ok (.iload 4, 2) := by decide +kernel
theorem dX7_take_142 : decode cX7_take 142 = .ok (.invokestatic 80, 3) := by decide +kernel
theorem dX7_take_145 : decode cX7_take 145 = .ok (.invokevirtual 35, 3) := by decide +kernel
theorem dX7_take_148 : decode cX7_take 148 = .ok (.pop, 1) := by decide +kernel
theorem dX7_take_149 : decode cX7_take 149 = .ok (.aload_n 0, 1) := by decide +kernel
theorem dX7_take_150 : decode cX7_take 150 = .ok (.getfield 12, 3) := by decide +kernel
theorem dX7_take_153 : decode cX7_take 153 = .ok (.iload 4, 2) := by decide +kernel
theorem dX7_take_155 : decode cX7_take 155 = .ok (.invokevirtual 46, 3) := by decide +kernel
theorem dX7_take_158 : decode cX7_take 158 = .ok (.checkcast 50, 3) := by decide +kernel
theorem dX7_take_161 : decode cX7_take 161 = .ok (.iconst 1, 1) := by decide +kernel
theorem dX7_take_162 : decode cX7_take 162 = .ok (.putfield 89, 3) := by decide +kernel
theorem dX7_take_165 : decode cX7_take 165 = .ok (.iload 5, 2) := by decide +kernel
theorem dX7_take_167 : decode cX7_take 167 = .ok (.ireturn, 1) := by decide +kernel
set_option maxRecDepth 20000 in
theorem ggX7_turn_Jx4a65c_get_915e3 : GoodIn wsX7_turn wsJx4a65c_get_915e3 := goodIn_r _ [14, 15, 16, 17, 18, 19, 20, 21, 22, 23, 24, 25, 26, 13, 27, 28, 292, 293, 294] (by decide +kernel) (by decide +kernel)
set_option maxRecDepth 20000 in
theorem gX7_turn_Jx4a65c_get_915e3 : GoodIn wsX7_turn (wsV RX7 46 RJx4a65c yJx4a65c_get_915e3 wsJx4a65c_get_915e3) := goodIn_app (goodIn_of _ (by decide +kernel)) ggX7_turn_Jx4a65c_get_915e3
set_option maxRecDepth 20000 in
theorem ggX7_turn_X7_wants : GoodIn wsX7_turn wsX7_wants := goodIn_r _ [33, 1, 2, 34, 3, 4, 10, 11, 12, 13, 14, 15, 16, 17, 18, 19, 20, 21, 22, 23, 24, 25, 26, 27, 28, 35, 36, 37, 38, 39, 40, 41, 42, 43, 44, 45, 46, 47, 48, 49, 50, 51, 52, 53, 54, 55, 56, 57, 58, 59, 60, 61, 62, 270, 271, 272, 273, 274, 275, 276, 277, 292, 293, 294, 288, 289, 290, 291, 295, 278, 279, 280, 281, 282, 283, 284, 285, 286, 287] (by decide +kernel) (by decide +kernel)
set_option maxRecDepth 20000 in
theorem gX7_turn_X7_wants : GoodIn wsX7_turn (wsV RX7 189 RX7 yX7_wants wsX7_wants) := goodIn_app (goodIn_of _ (by decide +kernel)) ggX7_turn_X7_wants
set_option maxRecDepth 20000 in
theorem ggX7_turn_X7_take : GoodIn wsX7_turn wsX7_take := goodIn_r _ [66, 1, 2, 67, 68, 69, 7, 70, 3, 4, 71, 10, 11, 12, 13, 14, 15, 16, 17, 18, 19, 20, 21, 22, 23, 24, 25, 26, 27, 28, 72, 73, 74, 32, 75, 76, 77, 47, 48, 49, 78, 43, 44, 45, 79, 80, 81, 82, 83, 84, 85, 86, 87, 88, 89, 90, 91, 92, 93, 52, 53, 54, 55, 56, 94, 95, 96, 97, 98, 99, 100, 101, 102, 103, 104, 105, 106, 107, 108, 109, 110, 111, 112, 113, 114, 115, 116, 117, 118, 119, 120, 121, 122, 123, 124, 125, 126, 127, 128, 129, 130, 131, 132, 133, 134, 135, 136, 137, 138, 139, 140, 141, 142, 143, 144, 145, 146, 147, 148, 149, 150, 151, 152, 153, 154, 155, 156, 157, 158, 270, 271, 272, 273, 274, 275, 276, 277, 288, 289, 290, 291, 278, 279, 280, 281, 282, 283, 284, 285, 286, 287, 292, 293, 294, 295] (by decide +kernel) (by decide +kernel)
set_option maxRecDepth 20000 in
theorem gX7_turn_X7_take : GoodIn wsX7_turn (wsV RX7 199 RX7 yX7_take wsX7_take) := goodIn_app (goodIn_of _ (by decide +kernel)) ggX7_turn_X7_take
set_option maxRecDepth 20000 in
theorem ggX7_turn_X9_top : GoodIn wsX7_turn wsX9_top := goodIn_r _ [39, 40, 41, 42, 43, 44, 13, 45, 15, 46, 47, 48, 49, 50, 11, 12, 14, 16, 17, 18, 19, 20, 21, 22, 23, 24, 25, 26, 27, 28, 51, 52, 53, 54, 55, 56, 288, 289, 290, 291, 292, 293, 294, 295] (by decide +kernel) (by decide +kernel)
set_option maxRecDepth 20000 in
theorem gX7_turn_X9_top : GoodIn wsX7_turn (wsV RX7 183 RX9 yX9_top wsX9_top) := goodIn_app (goodIn_of _ (by decide +kernel)) ggX7_turn_X9_top
theorem dX7_turn_0 : decode cX7_turn 0 = .ok (.aload_n 0, 1) := by decide +kernel
theorem dX7_turn_1 : decode cX7_turn 1 = .ok (.getfield 18, 3) := by decide +kernel
theorem dX7_turn_4 : decode cX7_turn 4 = .ok (.iload_n 1, 1) := by decide +kernel
theorem dX7_turn_5 : decode cX7_turn 5 = .ok (.invokevirtual 46, 3) := by decide +kernel
theorem dX7_turn_8 : decode cX7_turn 8 = .ok (.checkcast 32, 3) := by decide +kernel
theorem dX7_turn_11 : decode cX7_turn 11 = .ok (.astore_n 2, 1) := by decide +kernel
theorem dX7_turn_12 : decode cX7_turn 12 = .ok (.aload_n 0, 1) := by decide +kernel
theorem dX7_turn_13 : decode cX7_turn 13 = .ok (.iload_n 1, 1) := by decide +kernel
theorem dX7_turn_14 : decode cX7_turn 14 = .ok (.invokevirtual 189, 3) := by decide +kernel
theorem dX7_turn_17 : decode cX7_turn 17 = .ok (.ifCond .eq 23, 3) := by decide +kernel
theorem dX7_turn_20 : decode cX7_turn 20 = .ok (.aload_n 0, 1) := by decide +kernel
theorem dX7_turn_21 : decode cX7_turn 21 = .ok (.iload_n 1, 1) := by decide +kernel
theorem dX7_turn_22 : decode cX7_turn 22 = .ok (.invokevirtual 199, 3) := by decide +kernel
theorem dX7_turn_25 : decode cX7_turn 25 = .ok (.istore_n 3, 1) := by decide +kernel
theorem dX7_turn_26 : decode cX7_turn 26 = .ok (.iload_n 3, 1) := by decide +kernel
theorem dX7_turn_27 : decode cX7_turn 27 = .ok (.iconst 2, 1) := by decide +kernel
theorem dX7_turn_28 : decode cX7_turn 28 = .ok (.if_icmp .ne 5, 3) := by decide +kernel
theorem dX7_turn_31 : decode cX7_turn 31 = .ok (.iconst (-1), 1) := by decide +kernel
theorem dX7_turn_32 : decode cX7_turn 32 = .ok (.ireturn, 1) := by decide +kernel
theorem dX7_turn_33 : decode cX7_turn 33 = .ok (.iload_n 3, 1) := by decide +kernel
theorem dX7_turn_34 : decode cX7_turn 34 = .ok (.ifCond .ne 6, 3) := by decide +kernel
theorem dX7_turn_37 : decode cX7_turn 37 = .ok (.goto 134, 3) := by decide +kernel
theorem dX7_turn_40 : decode cX7_turn 40 = .ok (.aload_n 2, 1) := by decide +kernel
theorem dX7_turn_41 : decode cX7_turn 41 = .ok (.invokevirtual 183, 3) := by decide +kernel
theorem dX7_turn_44 : decode cX7_turn 44 = .ok (.istore_n 3, 1) := by decide +kernel
theorem dX7_turn_45 : decode cX7_turn 45 = .ok (.aload_n 0, 1) := by decide +kernel
theorem dX7_turn_46 : decode cX7_turn 46 = .ok (.getfield 12, 3) := by decide +kernel
theorem dX7_turn_49 : decode cX7_turn 49 = .ok (.iload_n 3, 1) := by decide +kernel
theorem dX7_turn_50 : decode cX7_turn 50 = .ok (.invokevirtual 46, 3) := by decide +kernel
theorem dX7_turn_53 : decode cX7_turn 53 = .ok (.checkcast 50, 3) := by decide +kernel
theorem dX7_turn_56 : decode cX7_turn 56 = .ok (.invokevirtual 186, 3) := by decide +kernel
theorem dX7_turn_59 : decode cX7_turn 59 = .ok (.ifCond .eq 6, 3) := by decide +kernel
theorem dX7_turn_62 : decode cX7_turn 62 = .ok (.goto 109, 3) := by decide +kernel
theorem dX7_turn_65 : decode cX7_turn 65 = .ok (.aload_n 0, 1) := by decide +kernel
theorem dX7_turn_66 : decode cX7_turn 66 = .ok (.aload_n 0, 1) := by decide +kernel
theorem dX7_turn_67 : decode cX7_turn 67 = .ok (.getfield 12, 3) := by decide +kernel
theorem dX7_turn_70 : decode cX7_turn 70 = .ok (.iload_n 3, 1) := by decide +kernel
theorem dX7_turn_71 : decode cX7_turn 71 = .ok (.invokevirtual 46, 3) := by decide +kernel
theorem dX7_turn_74 : decode cX7_turn 74 = .ok (.checkcast 50, 3) := by decide +kernel
theorem dX7_turn_77 : decode cX7_turn 77 = .ok (.invokevirtual 202, 3) := by decide +kernel
theorem dX7_turn_80 : decode cX7_turn 80 = .ok (.ifCond .ne 12, 3) := by decide +kernel
theorem dX7_turn_83 : decode cX7_turn 83 = .ok (.aload_n 0, 1) := by decide +kernel
theorem dX7_turn_84 : decode cX7_turn 84 = .ok (.iload_n 3, 1) := by decide +kernel
theorem dX7_turn_85 : decode cX7_turn 85 = .ok (.iload_n 1, 1) := by decide +kernel
theorem dX7_turn_86 : decode cX7_turn 86 = .ok (.invokevirtual 206, 3) := by decide +kernel
theorem dX7_turn_89 : decode cX7_turn 89 = .ok (.goto (-77), 3) := by decide +kernel
theorem dX7_turn_92 : decode cX7_turn 92 = .ok (.aload_n 0, 1) := by decide +kernel
theorem dX7_turn_93 : decode cX7_turn 93 = .ok (.getfield 12, 3) := by decide +kernel
theorem dX7_turn_96 : decode cX7_turn 96 = .ok (.iload_n 3, 1) := by decide +kernel
theorem dX7_turn_97 : decode cX7_turn 97 = .ok (.invokevirtual 46, 3) := by decide +kernel
theorem dX7_turn_100 : decode cX7_turn 100 = .ok (.checkcast 50, 3) := by decide +kernel
theorem dX7_turn_103 : decode cX7_turn 103 = .ok (.astore 4, 2) := by decide +kernel
theorem dX7_turn_105 : decode cX7_turn 105 = .ok (.aload 4, 2) := by decide +kernel
theorem dX7_turn_107 : decode cX7_turn 107 = .ok (.dup, 1) := by decide +kernel
theorem dX7_turn_108 : decode cX7_turn 108 = .ok (.getfield 149, 3) := by decide +kernel
theorem dX7_turn_111 : decode cX7_turn 111 = .ok (.iconst 1, 1) := by decide +kernel
theorem dX7_turn_112 : decode cX7_turn 112 = .ok (.iadd, 1) := by decide +kernel
theorem dX7_turn_113 : decode cX7_turn 113 = .ok (.putfield 149, 3) := by decide +kernel
theorem dX7_turn_116 : decode cX7_turn 116 = .ok (.aload 4, 2) := by decide +kernel
theorem dX7_turn_118 : decode cX7_turn 118 = .ok (.dup, 1) := by decide +kernel
theorem dX7_turn_119 : decode cX7_turn 119 = .ok (.getfield 208, 3) := by decide +kernel
theorem dX7_turn_122 : decode cX7_turn 122 = .ok (.iconst 1, 1) := by decide +kernel
theorem dX7_turn_123 : decode cX7_turn 123 = .ok (.iadd, 1) := by decide +kernel
theorem dX7_turn_124 : decode cX7_turn 124 = .ok (.putfield 208, 3) := by decide +kernel
theorem dX7_turn_127 : decode cX7_turn 127 = .ok (.aload_n 2, 1) := by decide +kernel
theorem dX7_turn_128 : decode cX7_turn 128 = .ok (.getfield 196, 3) := by decide +kernel
theorem dX7_turn_131 : decode cX7_turn 131 = .ok (.iconst 0, 1) := by decide +kernel
theorem dX7_turn_132 : decode cX7_turn 132 = .ok (.dup2, 1) := by decide +kernel
theorem dX7_turn_133 : decode cX7_turn 133 = .ok (.iaload, 1) := by decide +kernel
theorem dX7_turn_134 : decode cX7_turn 134 = .ok (.iconst 1, 1) := by decide +kernel
theorem dX7_turn_135 : decode cX7_turn 135 = .ok (.iadd, 1) := by decide +kernel
theorem dX7_turn_136 : decode cX7_turn 136 = .ok (.iastore, 1) := by decide +kernel
theorem dX7_turn_137 : decode cX7_turn 137 = .ok (.aload 4, 2) := by decide +kernel
theorem dX7_turn_139 : decode cX7_turn 139 = .ok (.getfield 149, 3) := by decide +kernel
theorem dX7_turn_142 : decode cX7_turn 142 = .ok (.aload_n 0, 1) := by decide +kernel
theorem dX7_turn_143 : decode cX7_turn 143 = .ok (.aload 4, 2) := by decide +kernel
theorem dX7_turn_145 : decode cX7_turn 145 = .ok (.invokevirtual 142, 3) := by decide +kernel
theorem dX7_turn_148 : decode cX7_turn 148 = .ok (.aload 4, 2) := by decide +kernel
theorem dX7_turn_150 : decode cX7_turn 150 = .ok (.getfield 146, 3) := by decide +kernel
theorem dX7_turn_153 : decode cX7_turn 153 = .ok (.invokevirtual 46, 3) := by decide +kernel
theorem dX7_turn_156 : decode cX7_turn 156 = .ok (.checkcast 63, 3) := by decide +kernel
theorem dX7_turn_159 : decode cX7_turn 159 = .ok (.iconst 1, 1) := by decide +kernel
theorem dX7_turn_160 : decode cX7_turn 160 = .ok (.iaload, 1) := by decide +kernel
theorem dX7_turn_161 : decode cX7_turn 161 = .ok (.if_icmp .ne 8, 3) := by decide +kernel
theorem dX7_turn_164 : decode cX7_turn 164 = .ok (.aload_n 0, 1) := by decide +kernel
theorem dX7_turn_165 : decode cX7_turn 165 = .ok (.iload_n 3, 1) := by decide +kernel
theorem dX7_turn_166 : decode cX7_turn 166 = .ok (.invokevirtual 164, 3) := by decide +kernel
theorem dX7_turn_169 : decode cX7_turn 169 = .ok (.iload_n 3, 1) := by decide +kernel
theorem dX7_turn_170 : decode cX7_turn 170 = .ok (.ireturn, 1) := by decide +kernel
theorem dX7_turn_171 : decode cX7_turn 171 = .ok (.aload_n 2, 1) := by decide +kernel
theorem dX7_turn_172 : decode cX7_turn 172 = .ok (.getfield 196, 3) := by decide +kernel
theorem dX7_turn_175 : decode cX7_turn 175 = .ok (.iconst 1, 1) := by decide +kernel
theorem dX7_turn_176 : decode cX7_turn 176 = .ok (.dup2, 1) := by decide +kernel
theorem dX7_turn_177 : decode cX7_turn 177 = .ok (.iaload, 1) := by decide +kernel
theorem dX7_turn_178 : decode cX7_turn 178 = .ok (.iconst 1, 1) := by decide +kernel
theorem dX7_turn_179 : decode cX7_turn 179 = .ok (.iadd, 1) := by decide +kernel
theorem dX7_turn_180 : decode cX7_turn 180 = .ok (.iastore, 1) := by decide +kernel
theorem dX7_turn_181 : decode cX7_turn 181 = .ok (.iconst (-1), 1) := by decide +kernel
theorem dX7_turn_182 : decode cX7_turn 182 = .ok (.ireturn, 1) := by decide +kernel
set_option maxRecDepth 20000 in
theorem ggX7_tick_Jx4a65c_size_8abf5 : GoodIn wsX7_tick wsJx4a65c_size_8abf5 := goodIn_r _ [9, 10, 287, 288, 289] (by decide +kernel) (by decide +kernel)
set_option maxRecDepth 20000 in
theorem gX7_tick_Jx4a65c_size_8abf5 : GoodIn wsX7_tick (wsV RX7 42 RJx4a65c yJx4a65c_size_8abf5 wsJx4a65c_size_8abf5) := goodIn_app (goodIn_of _ (by decide +kernel)) ggX7_tick_Jx4a65c_size_8abf5
set_option maxRecDepth 20000 in
theorem ggX7_tick_X7_turn : GoodIn wsX7_tick wsX7_turn := goodIn_r _ [15, 1, 2, 16, 17, 18, 19, 20, 21, 22, 23, 24, 25, 8, 26, 10, 27, 28, 29, 30, 31, 32, 33, 34, 35, 36, 37, 38, 39, 40, 41, 42, 14, 43, 44, 45, 46, 47, 48, 49, 50, 51, 52, 53, 54, 55, 56, 6, 7, 9, 57, 58, 59, 60, 61, 62, 63, 64, 65, 66, 67, 68, 69, 70, 71, 72, 73, 74, 75, 76, 77, 78, 79, 80, 81, 82, 83, 5, 84, 85, 86, 87, 88, 89, 90, 91, 92, 93, 94, 95, 96, 97, 98, 99, 100, 101, 102, 103, 104, 105, 106, 107, 108, 109, 110, 111, 112, 113, 114, 115, 116, 117, 118, 119, 120, 121, 122, 123, 124, 125, 126, 127, 128, 129, 130, 131, 132, 133, 134, 135, 136, 137, 138, 139, 140, 141, 142, 143, 144, 145, 146, 147, 148, 149, 150, 151, 152, 153, 154, 155, 156, 157, 158, 159, 160, 161, 162, 163, 164, 165, 166, 167, 168, 169, 170, 171, 172, 173, 174, 175, 176, 177, 178, 179, 180, 181, 182, 183, 184, 185, 186, 187, 4, 188, 189, 190, 191, 192, 193, 194, 195, 196, 197, 198, 199, 200, 201, 202, 203, 204, 205, 206, 207, 208, 209, 210, 211, 212, 213, 214, 215, 216, 217, 218, 219, 220, 221, 222, 223, 224, 225, 226, 227, 228, 229, 230, 231, 232, 233, 234, 235, 236, 237, 238, 239, 240, 241, 242, 243, 244, 245, 246, 247, 248, 249, 250, 251, 252, 253, 254, 255, 256, 257, 258, 259, 260, 261, 262, 263, 264, 265, 266, 267, 268, 269, 270, 271, 272, 273, 274, 275, 276, 277, 278, 279, 280, 281, 282, 290, 291, 292, 293, 294, 295, 296, 297, 298, 299, 283, 284, 285, 286, 287, 288, 289, 300] (by decide +kernel) (by decide +kernel)
set_option maxRecDepth 20000 in
theorem gX7_tick_X7_turn : GoodIn wsX7_tick (wsV RX7 211 RX7 yX7_turn wsX7_turn) := goodIn_app (goodIn_of _ (by decide +kernel)) ggX7_tick_X7_turn
set_option maxRecDepth 20000 in
theorem ggX7_tick_Jx4a65c_get_915e3 : GoodIn wsX7_tick wsJx4a65c_get_915e3 := goodIn_r _ [26, 10, 27, 28, 29, 30, 31, 32, 33, 34, 35, 36, 37, 8, 38, 39, 287, 288, 289] (by decide +kernel) (by decide +kernel)
set_option maxRecDepth 20000 in
theorem gX7_tick_Jx4a65c_get_915e3 : GoodIn wsX7_tick (wsV RX7 46 RJx4a65c yJx4a65c_get_915e3 wsJx4a65c_get_915e3) := goodIn_app (goodIn_of _ (by decide +kernel)) ggX7_tick_Jx4a65c_get_915e3
set_option maxRecDepth 20000 in
theorem ggX7_tick_J6_valueOf_2dffe : GoodIn wsX7_tick wsJ6_valueOf_2dffe := goodIn_r _ [102, 103, 104, 105, 106, 61, 107, 108, 109, 63, 110, 111, 112, 113, 114, 115, 116, 300] (by decide +kernel) (by decide +kernel)
set_option maxRecDepth 20000 in
theorem gX7_tick_J6_valueOf_2dffe : GoodIn wsX7_tick (va_wsS RX7 80 yJ6_valueOf_2dffe wsJ6_valueOf_2dffe) := goodIn_app (goodIn_of _ (by decide +kernel)) ggX7_tick_J6_valueOf_2dffe
set_option maxRecDepth 20000 in
theorem ggX7_tick_Jx4a65c_add_9ea2d : GoodIn wsX7_tick wsJx4a65c_add_9ea2d := goodIn_r _ [120, 93, 94, 39, 10, 121, 122, 123, 8, 124, 125, 126, 127, 128, 129, 130, 131, 132, 133, 134, 135, 136, 137, 138, 139, 140, 141, 142, 143, 144, 145, 146, 147, 148, 149, 150, 151, 152, 153, 154, 155, 156, 157, 158, 159, 160, 161, 162, 163, 164, 96, 97, 98, 287, 288, 289] (by decide +kernel) (by decide +kernel)
set_option maxRecDepth 20000 in
theorem gX7_tick_Jx4a65c_add_9ea2d : GoodIn wsX7_tick (wsV RX7 35 RJx4a65c yJx4a65c_add_9ea2d wsJx4a65c_add_9ea2d) := goodIn_app (goodIn_of _ (by decide +kernel)) ggX7_tick_Jx4a65c_add_9ea2d
theorem dX7_tick_0 : decode cX7_tick 0 = .ok (.iconst 0, 1) := by decide +kernel
theorem dX7_tick_1 : decode cX7_tick 1 = .ok (.istore_n 1, 1) := by decide +kernel
theorem dX7_tick_2 : decode cX7_tick 2 = .ok (.iload_n 1, 1) := by decide +kernel
theorem dX7_tick_3 : decode cX7_tick 3 = .ok (.aload_n 0, 1) := by decide +kernel
theorem dX7_tick_4 : decode cX7_tick 4 = .ok (.getfield 18, 3) := by decide +kernel
theorem dX7_tick_7 : decode cX7_tick 7 = .ok (.invokevirtual 42, 3) := by decide +kernel
theorem dX7_tick_10 : decode cX7_tick 10 = .ok (.if_icmp .ge 37, 3) := by decide +kernel
theorem dX7_tick_13 : decode cX7_tick 13 = .ok (.aload_n 0, 1) := by decide +kernel
theorem dX7_tick_14 : decode cX7_tick 14 = .ok (.iload_n 1, 1) := by decide +kernel
theorem dX7_tick_15 : decode cX7_tick 15 = .ok (.invokevirtual 211, 3) := by decide +kernel
theorem dX7_tick_18 : decode cX7_tick 18 = .ok (.istore_n 2, 1) := by decide +kernel
theorem dX7_tick_19 : decode cX7_tick 19 = .ok (.aload_n 0, 1) := by decide +kernel
theorem dX7_tick_20 : decode cX7_tick 20 = .ok (.getfield 18, 3) := by decide +kernel
theorem dX7_tick_23 : decode cX7_tick 23 = .ok (.iload_n 1, 1) := by decide +kernel
theorem dX7_tick_24 : decode cX7_tick 24 = .ok (.invokevirtual 46, 3) := by decide +kernel
theorem dX7_tick_27 : decode cX7_tick 27 = .ok (.checkcast 32, 3) := by decide +kernel
theorem dX7_tick_30 : decode cX7_tick 30 = .ok (.getfield 214, 3) := by decide +kernel
theorem dX7_tick_33 : decode cX7_tick 33 = .ok (.iload_n 2, 1) := by decide +kernel
theorem dX7_tick_34 : decode cX7_tick 34 = .ok (.invokestatic 80, 3) := by decide +kernel
theorem dX7_tick_37 : decode cX7_tick 37 = .ok (.invokevirtual 35, 3) := by decide +kernel
theorem dX7_tick_40 : decode cX7_tick 40 = .ok (.pop, 1) := by decide +kernel
theorem dX7_tick_41 : decode cX7_tick 41 = .ok (.iinc 1 1, 3) := by decide +kernel
theorem dX7_tick_44 : decode cX7_tick 44 = .ok (.goto (-42), 3) := by decide +kernel
theorem dX7_tick_47 : decode cX7_tick 47 = .ok (.aload_n 0, 1) := by decide +kernel
theorem dX7_tick_48 : decode cX7_tick 48 = .ok (.dup, 1) := by decide +kernel
theorem dX7_tick_49 : decode cX7_tick 49 = .ok (.getfield 74, 3) := by decide +kernel
theorem dX7_tick_52 : decode cX7_tick 52 = .ok (.iconst 1, 1) := by decide +kernel
theorem dX7_tick_53 : decode cX7_tick 53 = .ok (.iadd, 1) := by decide +kernel
theorem dX7_tick_54 : decode cX7_tick 54 = .ok (.putfield 74, 3) := by decide +kernel
theorem dX7_tick_57 : decode cX7_tick 57 = .ok (.return_, 1) := by decide +kernel
set_option maxRecDepth 20000 in
theorem ggX7_open_Jx4a65c_size_8abf5 : GoodIn wsX7_open wsJx4a65c_size_8abf5 := goodIn_r _ [7, 8, 40, 41, 42] (by decide +kernel) (by decide +kernel)
set_option maxRecDepth 20000 in
theorem gX7_open_Jx4a65c_size_8abf5 : GoodIn wsX7_open (wsV RX7 42 RJx4a65c yJx4a65c_size_8abf5 wsJx4a65c_size_8abf5) := goodIn_app (goodIn_of _ (by decide +kernel)) ggX7_open_Jx4a65c_size_8abf5
set_option maxRecDepth 20000 in
theorem ggX7_open_Jx4a65c_get_915e3 : GoodIn wsX7_open wsJx4a65c_get_915e3 := goodIn_r _ [12, 8, 13, 14, 15, 16, 17, 18, 19, 20, 21, 22, 23, 6, 24, 25, 40, 41, 42] (by decide +kernel) (by decide +kernel)
set_option maxRecDepth 20000 in
theorem gX7_open_Jx4a65c_get_915e3 : GoodIn wsX7_open (wsV RX7 46 RJx4a65c yJx4a65c_get_915e3 wsJx4a65c_get_915e3) := goodIn_app (goodIn_of _ (by decide +kernel)) ggX7_open_Jx4a65c_get_915e3
theorem dX7_open_0 : decode cX7_open 0 = .ok (.iconst 0, 1) := by decide +kernel
theorem dX7_open_1 : decode cX7_open 1 = .ok (.istore_n 1, 1) := by decide +kernel
theorem dX7_open_2 : decode cX7_open 2 = .ok (.iconst 0, 1) := by decide +kernel
theorem dX7_open_3 : decode cX7_open 3 = .ok (.istore_n 2, 1) := by decide +kernel
theorem dX7_open_4 : decode cX7_open 4 = .ok (.iload_n 2, 1) := by decide +kernel
theorem dX7_open_5 : decode cX7_open 5 = .ok (.aload_n 0, 1) := by decide +kernel
theorem dX7_open_6 : decode cX7_open 6 = .ok (.getfield 12, 3) := by decide +kernel
theorem dX7_open_9 : decode cX7_open 9 = .ok (.invokevirtual 42, 3) := by decide +kernel
theorem dX7_open_12 : decode cX7_open 12 = .ok (.if_icmp .ge 34, 3) := by decide +kernel
theorem dX7_open_15 : decode cX7_open 15 = .ok (.iload_n 1, 1) := by decide +kernel
theorem dX7_open_16 : decode cX7_open 16 = .ok (.aload_n 0, 1) := by decide +kernel
theorem dX7_open_17 : decode cX7_open 17 = .ok (.getfield 12, 3) := by decide +kernel
theorem dX7_open_20 : decode cX7_open 20 = .ok (.iload_n 2, 1) := by decide +kernel
theorem dX7_open_21 : decode cX7_open 21 = .ok (.invokevirtual 46, 3) := by decide +kernel
theorem dX7_open_24 : decode cX7_open 24 = .ok (.checkcast 50, 3) := by decide +kernel
theorem dX7_open_27 : decode cX7_open 27 = .ok (.invokevirtual 132, 3) := by decide +kernel
theorem dX7_open_30 : decode cX7_open 30 = .ok (.ifCond .eq 7, 3) := by decide +kernel
theorem dX7_open_33 : decode cX7_open 33 = .ok (.iconst 0, 1) := by decide +kernel
theorem dX7_open_34 : decode cX7_open 34 = .ok (.goto 4, 3) := by decide +kernel
theorem dX7_open_37 : decode cX7_open 37 = .ok (.iconst 1, 1) := by decide +kernel
theorem dX7_open_38 : decode cX7_open 38 = .ok (.iadd, 1) := by decide +kernel
theorem dX7_open_39 : decode cX7_open 39 = .ok (.istore_n 1, 1) := by decide +kernel
theorem dX7_open_40 : decode cX7_open 40 = .ok (.iinc 2 1, 3) := by decide +kernel
theorem dX7_open_43 : decode cX7_open 43 = .ok (.goto (-39), 3) := by decide +kernel
theorem dX7_open_46 : decode cX7_open 46 = .ok (.iload_n 1, 1) := by decide +kernel
theorem dX7_open_47 : decode cX7_open 47 = .ok (.ireturn, 1) := by decide +kernel
set_option maxRecDepth 20000 in
theorem ggX7_isHalted_Jx4a65c_size_8abf5 : GoodIn wsX7_isHalted wsJx4a65c_size_8abf5 := goodIn_r _ [6, 7, 87, 88, 89] (by decide +kernel) (by decide +kernel)
set_option maxRecDepth 20000 in
theorem gX7_isHalted_Jx4a65c_size_8abf5 : GoodIn wsX7_isHalted (wsV RX7 42 RJx4a65c yJx4a65c_size_8abf5 wsJx4a65c_size_8abf5) := goodIn_app (goodIn_of _ (by decide +kernel)) ggX7_isHalted_Jx4a65c_size_8abf5
set_option maxRecDepth 20000 in
theorem ggX7_isHalted_X7_isBusy : GoodIn wsX7_isHalted wsX7_isBusy := goodIn_r _ [12, 1, 13, 14, 15, 16, 17, 18, 19, 20, 11, 21, 22, 23, 24, 25, 5, 26, 7, 27, 28, 29, 30, 31, 32, 33, 34, 35, 36, 37, 38, 39, 40, 41, 42, 43, 44, 45, 46, 47, 48, 49, 50, 51, 3, 4, 6, 52, 53, 54, 55, 56, 57, 58, 59, 60, 61, 62, 63, 64, 65, 66, 67, 68, 69, 70, 2, 79, 80, 81, 82, 83, 84, 85, 86, 90, 91, 92, 93, 87, 88, 89, 94, 95, 96, 97, 98, 99, 100, 101, 102, 103, 104] (by decide +kernel) (by decide +kernel)
set_option maxRecDepth 20000 in
theorem gX7_isHalted_X7_isBusy : GoodIn wsX7_isHalted (wsV RX7 216 RX7 yX7_isBusy wsX7_isBusy) := goodIn_app (goodIn_of _ (by decide +kernel)) ggX7_isHalted_X7_isBusy
set_option maxRecDepth 20000 in
theorem ggX7_isHalted_X7_open : GoodIn wsX7_isHalted wsX7_open := goodIn_r _ [74, 16, 17, 2, 3, 4, 5, 6, 7, 23, 24, 25, 26, 27, 28, 29, 30, 31, 32, 33, 34, 35, 36, 37, 38, 39, 75, 76, 77, 62, 78, 64, 79, 80, 81, 82, 83, 84, 85, 86, 87, 88, 89, 95, 96, 97, 98, 99, 100, 101, 102, 103, 104] (by decide +kernel) (by decide +kernel)
set_option maxRecDepth 20000 in
theorem gX7_isHalted_X7_open : GoodIn wsX7_isHalted (wsV RX7 219 RX7 yX7_open wsX7_open) := goodIn_app (goodIn_of _ (by decide +kernel)) ggX7_isHalted_X7_open
theorem dX7_isHalted_0 : decode cX7_isHalted 0 = .ok (.iconst 0, 1) := by decide +kernel
theorem dX7_isHalted_1 : decode cX7_isHalted 1 = .ok (.istore_n 1, 1) := by decide +kernel
theorem dX7_isHalted_2 : decode cX7_isHalted 2 = .ok (.iconst 0, 1) := by decide +kernel
theorem dX7_isHalted_3 : decode cX7_isHalted 3 = .ok (.istore_n 2, 1) := by decide +kernel
theorem dX7_isHalted_4 : decode cX7_isHalted 4 = .ok (.iload_n 2, 1) := by decide +kernel
theorem dX7_isHalted_5 : decode cX7_isHalted 5 = .ok (.aload_n 0, 1) := by decide +kernel
theorem dX7_isHalted_6 : decode cX7_isHalted 6 = .ok (.getfield 18, 3) := by decide +kernel
theorem dX7_isHalted_9 : decode cX7_isHalted 9 = .ok (.invokevirtual 42, 3) := by decide +kernel
theorem dX7_isHalted_12 : decode cX7_isHalted 12 = .ok (.if_icmp .ge 17, 3) := by decide +kernel
theorem dX7_isHalted_15 : decode cX7_isHalted 15 = .ok (.iload_n 1, 1) := by decide +kernel
theorem dX7_isHalted_16 : decode cX7_isHalted 16 = .ok (.aload_n 0, 1) := by decide +kernel
theorem dX7_isHalted_17 : decode cX7_isHalted 17 = .ok (.iload_n 2, 1) := by decide +kernel
theorem dX7_isHalted_18 : decode cX7_isHalted 18 = .ok (.invokevirtual 216, 3) := by decide +kernel
theorem dX7_isHalted_21 : decode cX7_isHalted 21 = .ok (.ior, 1) := by decide +kernel
theorem dX7_isHalted_22 : decode cX7_isHalted 22 = .ok (.istore_n 1, 1) := by decide +kernel
theorem dX7_isHalted_23 : decode cX7_isHalted 23 = .ok (.iinc 2 1, 3) := by decide +kernel
theorem dX7_isHalted_26 : decode cX7_isHalted 26 = .ok (.goto (-22), 3) := by decide +kernel
theorem dX7_isHalted_29 : decode cX7_isHalted 29 = .ok (.iload_n 1, 1) := by decide +kernel
theorem dX7_isHalted_30 : decode cX7_isHalted 30 = .ok (.ifCond .ne 14, 3) := by decide +kernel
theorem dX7_isHalted_33 : decode cX7_isHalted 33 = .ok (.aload_n 0, 1) := by decide +kernel
theorem dX7_isHalted_34 : decode cX7_isHalted 34 = .ok (.invokevirtual 219, 3) := by decide +kernel
theorem dX7_isHalted_37 : decode cX7_isHalted 37 = .ok (.ifCond .le 7, 3) := by decide +kernel
theorem dX7_isHalted_40 : decode cX7_isHalted 40 = .ok (.iconst 1, 1) := by decide +kernel
theorem dX7_isHalted_41 : decode cX7_isHalted 41 = .ok (.goto 4, 3) := by decide +kernel
theorem dX7_isHalted_44 : decode cX7_isHalted 44 = .ok (.iconst 0, 1) := by decide +kernel
theorem dX7_isHalted_45 : decode cX7_isHalted 45 = .ok (.ireturn, 1) := by decide +kernel
set_option maxRecDepth 20000 in
theorem ggX9_init_Jx4a65c_init_da8c8 : GoodIn wsX9_init wsJx4a65c_init_da8c8 := goodIn_r _ [14, 15, 16, 17, 18, 19, 20, 21, 22, 23, 24, 25, 26, 2, 3, 27, 28, 29] (by decide +kernel) (by decide +kernel)
set_option maxRecDepth 20000 in
theorem gX9_init_Jx4a65c_init_da8c8 : GoodIn wsX9_init (wsJx4a65c_init_da8c8) := ggX9_init_Jx4a65c_init_da8c8
theorem dX9_init_0 : decode cX9_init 0 = .ok (.aload_n 0, 1) := by decide +kernel
theorem dX9_init_1 : decode cX9_init 1 = .ok (.invokespecial 3, 3) := by decide +kernel
theorem dX9_init_4 : decode cX9_init 4 = .ok (.aload_n 0, 1) := by decide +kernel
theorem dX9_init_5 : decode cX9_init 5 = .ok (.new 9, 3) := by decide +kernel
theorem dX9_init_8 : decode cX9_init 8 = .ok (.dup, 1) := by decide +kernel
theorem dX9_init_9 : decode cX9_init 9 = .ok (.invokespecial 11, 3) := by decide +kernel
theorem dX9_init_12 : decode cX9_init 12 = .ok (.putfield 12, 3) := by decide +kernel
theorem dX9_init_15 : decode cX9_init 15 = .ok (.aload_n 0, 1) := by decide +kernel
theorem dX9_init_16 : decode cX9_init 16 = .ok (.new 9, 3) := by decide +kernel
theorem dX9_init_19 : decode cX9_init 19 = .ok (.dup, 1) := by decide +kernel
theorem dX9_init_20 : decode cX9_init 20 = .ok (.invokespecial 11, 3) := by decide +kernel
theorem dX9_init_23 : decode cX9_init 23 = .ok (.putfield 18, 3) := by decide +kernel
theorem dX9_init_26 : decode cX9_init 26 = .ok (.aload_n 0, 1) := by decide +kernel
theorem dX9_init_27 : decode cX9_init 27 = .ok (.iconst 3, 1) := by decide +kernel
theorem dX9_init_28 : decode cX9_init 28 = .ok (.newarray .int, 2) := by decide +kernel
theorem dX9_init_30 : decode cX9_init 30 = .ok (.putfield 21, 3) := by decide +kernel
theorem dX9_init_33 : decode cX9_init 33 = .ok (.aload_n 0, 1) := by decide +kernel
theorem dX9_init_34 : decode cX9_init 34 = .ok (.new 9, 3) := by decide +kernel
theorem dX9_init_37 : decode cX9_init 37 = .ok (.dup, 1) := by decide +kernel
theorem dX9_init_38 : decode cX9_init 38 = .ok (.invokespecial 11, 3) := by decide +kernel
theorem dX9_init_41 : decode cX9_init 41 = .ok (.putfield 25, 3) := by decide +kernel
theorem dX9_init_44 : decode cX9_init 44 = .ok (.return_, 1) := by decide +kernel
set_option maxRecDepth 20000 in
theorem ggX9_copy_X9_init : GoodIn wsX9_copy wsX9_init := goodIn_r _ [19, 20, 21, 22, 4, 5, 6, 7, 8, 23, 9, 16, 24, 25, 26, 27, 28, 29, 30, 31, 32, 33, 34, 35, 36, 37, 38, 75, 76, 77, 71, 72, 73, 74] (by decide +kernel) (by decide +kernel)
set_option maxRecDepth 20000 in
theorem gX9_copy_X9_init : GoodIn wsX9_copy (wsX9_init) := ggX9_copy_X9_init
set_option maxRecDepth 20000 in
theorem ggX9_copy_Jx4a65c_init_4bcb3 : GoodIn wsX9_copy wsJx4a65c_init_4bcb3 := goodIn_r _ [41, 42, 28, 43, 44, 29, 30, 31, 32, 33, 34, 35, 36, 37, 38, 21, 22, 45, 46, 47, 6, 48, 49, 50, 51, 52, 53, 54, 55, 56, 57, 58, 59, 60, 61, 62, 63, 64, 65, 66, 67, 68, 69, 70, 75, 76, 77] (by decide +kernel) (by decide +kernel)
set_option maxRecDepth 20000 in
theorem gX9_copy_Jx4a65c_init_4bcb3 : GoodIn wsX9_copy (wsJx4a65c_init_4bcb3) := ggX9_copy_Jx4a65c_init_4bcb3
theorem dX9_copy_0 : decode cX9_copy 0 = .ok (.new 13, 3) := by decide +kernel
theorem dX9_copy_3 : decode cX9_copy 3 = .ok (.dup, 1) := by decide +kernel
theorem dX9_copy_4 : decode cX9_copy 4 = .ok (.invokespecial 28, 3) := by decide +kernel
theorem dX9_copy_7 : decode cX9_copy 7 = .ok (.astore_n 1, 1) := by decide +kernel
theorem dX9_copy_8 : decode cX9_copy 8 = .ok (.aload_n 1, 1) := by decide +kernel
theorem dX9_copy_9 : decode cX9_copy 9 = .ok (.new 9, 3) := by decide +kernel
theorem dX9_copy_12 : decode cX9_copy 12 = .ok (.dup, 1) := by decide +kernel
theorem dX9_copy_13 : decode cX9_copy 13 = .ok (.aload_n 0, 1) := by decide +kernel
theorem dX9_copy_14 : decode cX9_copy 14 = .ok (.getfield 12, 3) := by decide +kernel
theorem dX9_copy_17 : decode cX9_copy 17 = .ok (.invokespecial 29, 3) := by decide +kernel
theorem dX9_copy_20 : decode cX9_copy 20 = .ok (.putfield 12, 3) := by decide +kernel
theorem dX9_copy_23 : decode cX9_copy 23 = .ok (.aload_n 1, 1) := by decide +kernel
theorem dX9_copy_24 : decode cX9_copy 24 = .ok (.new 9, 3) := by decide +kernel
theorem dX9_copy_27 : decode cX9_copy 27 = .ok (.dup, 1) := by decide +kernel
theorem dX9_copy_28 : decode cX9_copy 28 = .ok (.aload_n 0, 1) := by decide +kernel
theorem dX9_copy_29 : decode cX9_copy 29 = .ok (.getfield 18, 3) := by decide +kernel
theorem dX9_copy_32 : decode cX9_copy 32 = .ok (.invokespecial 29, 3) := by decide +kernel
theorem dX9_copy_35 : decode cX9_copy 35 = .ok (.putfield 18, 3) := by decide +kernel
theorem dX9_copy_38 : decode cX9_copy 38 = .ok (.aload_n 1, 1) := by decide +kernel
theorem dX9_copy_39 : decode cX9_copy 39 = .ok (.aload_n 0, 1) := by decide +kernel
theorem dX9_copy_40 : decode cX9_copy 40 = .ok (.getfield 21, 3) := by decide +kernel
theorem dX9_copy_43 : decode cX9_copy 43 = .ok (.invokevirtual 32, 3) := by decide +kernel
theorem dX9_copy_46 : decode cX9_copy 46 = .ok (.checkcast 33, 3) := by decide +kernel
theorem dX9_copy_49 : decode cX9_copy 49 = .ok (.putfield 21, 3) := by decide +kernel
theorem dX9_copy_52 : decode cX9_copy 52 = .ok (.aload_n 1, 1) := by decide +kernel
theorem dX9_copy_53 : decode cX9_copy 53 = .ok (.new 9, 3) := by decide +kernel
theorem dX9_copy_56 : decode cX9_copy 56 = .ok (.dup, 1) := by decide +kernel
theorem dX9_copy_57 : decode cX9_copy 57 = .ok (.aload_n 0, 1) := by decide +kernel
theorem dX9_copy_58 : decode cX9_copy 58 = .ok (.getfield 25, 3) := by decide +kernel
theorem dX9_copy_61 : decode cX9_copy 61 = .ok (.invokespecial 29, 3) := by decide +kernel
theorem dX9_copy_64 : decode cX9_copy 64 = .ok (.putfield 25, 3) := by decide +kernel
theorem dX9_copy_67 : decode cX9_copy 67 = .ok (.aload_n 1, 1) := by decide +kernel
theorem dX9_copy_68 : decode cX9_copy 68 = .ok (.areturn, 1) := by decide +kernel
set_option maxRecDepth 20000 in
theorem ggX9_top_Jx4a65c_isEmpty_aae02 : GoodIn wsX9_top wsJx4a65c_isEmpty_aae02 := goodIn_r _ [7, 8, 40, 41, 42] (by decide +kernel) (by decide +kernel)
set_option maxRecDepth 20000 in
theorem gX9_top_Jx4a65c_isEmpty_aae02 : GoodIn wsX9_top (wsV RX9 37 RJx4a65c yJx4a65c_isEmpty_aae02 wsJx4a65c_isEmpty_aae02) := goodIn_app (goodIn_of _ (by decide +kernel)) ggX9_top_Jx4a65c_isEmpty_aae02
set_option maxRecDepth 20000 in
theorem ggX9_top_Jx4a65c_size_8abf5 : GoodIn wsX9_top wsJx4a65c_size_8abf5 := goodIn_r _ [12, 8, 40, 41, 42] (by decide +kernel) (by decide +kernel)
set_option maxRecDepth 20000 in
theorem gX9_top_Jx4a65c_size_8abf5 : GoodIn wsX9_top (wsV RX9 41 RJx4a65c yJx4a65c_size_8abf5 wsJx4a65c_size_8abf5) := goodIn_app (goodIn_of _ (by decide +kernel)) ggX9_top_Jx4a65c_size_8abf5
set_option maxRecDepth 20000 in
theorem ggX9_top_Jx4a65c_get_915e3 : GoodIn wsX9_top wsJx4a65c_get_915e3 := goodIn_r _ [16, 8, 17, 18, 19, 20, 21, 22, 23, 24, 25, 26, 27, 6, 28, 29, 40, 41, 42] (by decide +kernel) (by decide +kernel)
set_option maxRecDepth 20000 in
theorem gX9_top_Jx4a65c_get_915e3 : GoodIn wsX9_top (wsV RX9 45 RJx4a65c yJx4a65c_get_915e3 wsJx4a65c_get_915e3) := goodIn_app (goodIn_of _ (by decide +kernel)) ggX9_top_Jx4a65c_get_915e3
set_option maxRecDepth 20000 in
theorem ggX9_top_J6_intValue_8abf5 : GoodIn wsX9_top wsJ6_intValue_8abf5 := goodIn_r _ [34, 35, 43] (by decide +kernel) (by decide +kernel)
set_option maxRecDepth 20000 in
theorem gX9_top_J6_intValue_8abf5 : GoodIn wsX9_top (wsV RX9 51 RJ6 yJ6_intValue_8abf5 wsJ6_intValue_8abf5) := goodIn_app (goodIn_of _ (by decide +kernel)) ggX9_top_J6_intValue_8abf5
theorem dX9_top_0 : decode cX9_top 0 = .ok (.aload_n 0, 1) := by decide +kernel
theorem dX9_top_1 : decode cX9_top 1 = .ok (.getfield 18, 3) := by decide +kernel
theorem dX9_top_4 : decode cX9_top 4 = .ok (.invokevirtual 37, 3) := by decide +kernel
theorem dX9_top_7 : decode cX9_top 7 = .ok (.ifCond .eq 7, 3) := by decide +kernel
theorem dX9_top_10 : decode cX9_top 10 = .ok (.iconst (-1), 1) := by decide +kernel
theorem dX9_top_11 : decode cX9_top 11 = .ok (.goto 25, 3) := by decide +kernel
theorem dX9_top_14 : decode cX9_top 14 = .ok (.aload_n 0, 1) := by decide +kernel
theorem dX9_top_15 : decode cX9_top 15 = .ok (.getfield 18, 3) := by decide +kernel
theorem dX9_top_18 : decode cX9_top 18 = .ok (.aload_n 0, 1) := by decide +kernel
theorem dX9_top_19 : decode cX9_top 19 = .ok (.getfield 18, 3) := by decide +kernel
theorem dX9_top_22 : decode cX9_top 22 = .ok (.invokevirtual 41, 3) := by decide +kernel
theorem dX9_top_25 : decode cX9_top 25 = .ok (.iconst 1, 1) := by decide +kernel
theorem dX9_top_26 : decode cX9_top 26 = .ok (.isub, 1) := by decide +kernel
theorem dX9_top_27 : decode cX9_top 27 = .ok (.invokevirtual 45, 3) := by decide +kernel
theorem dX9_top_30 : decode cX9_top 30 = .ok (.checkcast 49, 3) := by decide +kernel
theorem dX9_top_33 : decode cX9_top 33 = .ok (.invokevirtual 51, 3) := by decide +kernel
theorem dX9_top_36 : decode cX9_top 36 = .ok (.ireturn, 1) := by decide +kernel
