set_option maxRecDepth 20000 in
theorem ggX1_act_X1_goOn : GoodIn wsX1_act wsX1_goOn := goodIn_r _ [71, 72, 73, 74, 75, 76, 77, 78, 79, 80, 81, 82, 83, 84, 85, 86, 87, 88, 89, 90, 91, 92, 93, 4, 94, 95, 1, 2, 3, 5, 6, 7, 96, 97, 98, 99, 100, 101, 102, 103, 104, 105, 106, 107, 108, 109, 110, 111, 112, 113, 114, 24, 25, 26, 27, 28, 29, 115, 116, 117, 33, 118, 119, 35, 120, 121, 122, 123, 124, 125, 126, 127, 46, 47, 48, 49, 44, 64, 65, 66, 16, 67, 18, 23, 128, 129, 130, 131, 132, 133, 134, 135, 136, 137, 138, 139, 140, 141, 142, 143, 144, 145, 146, 147, 148, 12, 60, 61, 62, 63, 149, 150, 151, 152, 153, 154, 155, 156, 157, 158, 159, 160, 161, 162, 163, 164, 165, 54, 166, 167, 168, 169, 170, 171, 172, 173, 174, 175, 176, 177, 178, 179, 180, 181, 182, 183, 184, 185, 186, 187, 188, 189, 190, 191, 192, 193, 194, 195, 196, 197, 198, 199, 206, 207, 208, 209, 210, 211, 212, 213, 214, 215, 216, 217, 220, 221, 222, 223, 224, 225, 226, 227, 228, 229, 230, 231, 232, 233, 234, 235, 236, 200, 201, 202, 203, 204, 205, 218, 219] (by decide +kernel) (by decide +kernel)
set_option maxRecDepth 20000 in
theorem gX1_act_X1_goOn : GoodIn wsX1_act (wsV RX1 201 RX1 yX1_goOn wsX1_goOn) := goodIn_app (goodIn_of _ (by decide +kernel)) ggX1_act_X1_goOn
theorem dX1_act_0 : decode cX1_act 0 = .ok (.aload_n 0, 1) := by decide +kernel
theorem dX1_act_1 : decode cX1_act 1 = .ok (.iload_n 1, 1) := by decide +kernel
theorem dX1_act_2 : decode cX1_act 2 = .ok (.invokevirtual 90, 3) := by decide +kernel
theorem dX1_act_5 : decode cX1_act 5 = .ok (.astore_n 2, 1) := by decide +kernel
theorem dX1_act_6 : decode cX1_act 6 = .ok (.aload_n 0, 1) := by decide +kernel
theorem dX1_act_7 : decode cX1_act 7 = .ok (.aload_n 2, 1) := by decide +kernel
theorem dX1_act_8 : decode cX1_act 8 = .ok (.invokevirtual 141, 3) := by decide +kernel
theorem dX1_act_11 : decode cX1_act 11 = .ok (.ifCond .eq 10, 3) := by decide +kernel
theorem dX1_act_14 : decode cX1_act 14 = .ok (.aload_n 0, 1) := by decide +kernel
theorem dX1_act_15 : decode cX1_act 15 = .ok (.iload_n 1, 1) := by decide +kernel
theorem dX1_act_16 : decode cX1_act 16 = .ok (.aload_n 2, 1) := by decide +kernel
theorem dX1_act_17 : decode cX1_act 17 = .ok (.invokevirtual 194, 3) := by decide +kernel
theorem dX1_act_20 : decode cX1_act 20 = .ok (.ireturn, 1) := by decide +kernel
theorem dX1_act_21 : decode cX1_act 21 = .ok (.aload_n 0, 1) := by decide +kernel
theorem dX1_act_22 : decode cX1_act 22 = .ok (.aload_n 2, 1) := by decide +kernel
theorem dX1_act_23 : decode cX1_act 23 = .ok (.getfield 107, 3) := by decide +kernel
theorem dX1_act_26 : decode cX1_act 26 = .ok (.invokevirtual 149, 3) := by decide +kernel
theorem dX1_act_29 : decode cX1_act 29 = .ok (.invokevirtual 97, 3) := by decide +kernel
theorem dX1_act_32 : decode cX1_act 32 = .ok (.astore_n 3, 1) := by decide +kernel
theorem dX1_act_33 : decode cX1_act 33 = .ok (.aload_n 3, 1) := by decide +kernel
theorem dX1_act_34 : decode cX1_act 34 = .ok (.invokevirtual 113, 3) := by decide +kernel
theorem dX1_act_37 : decode cX1_act 37 = .ok (.ifCond .eq 15, 3) := by decide +kernel
theorem dX1_act_40 : decode cX1_act 40 = .ok (.aload_n 2, 1) := by decide +kernel
theorem dX1_act_41 : decode cX1_act 41 = .ok (.dup, 1) := by decide +kernel
theorem dX1_act_42 : decode cX1_act 42 = .ok (.getfield 198, 3) := by decide +kernel
theorem dX1_act_45 : decode cX1_act 45 = .ok (.iconst 1, 1) := by decide +kernel
theorem dX1_act_46 : decode cX1_act 46 = .ok (.iadd, 1) := by decide +kernel
theorem dX1_act_47 : decode cX1_act 47 = .ok (.putfield 198, 3) := by decide +kernel
theorem dX1_act_50 : decode cX1_act 50 = .ok (.iconst 0, 1) := by decide +kernel
theorem dX1_act_51 : decode cX1_act 51 = .ok (.ireturn, 1) := by decide +kernel
theorem dX1_act_52 : decode cX1_act 52 = .ok (.aload_n 0, 1) := by decide +kernel
theorem dX1_act_53 : decode cX1_act 53 = .ok (.iload_n 1, 1) := by decide +kernel
theorem dX1_act_54 : decode cX1_act 54 = .ok (.aload_n 3, 1) := by decide +kernel
theorem dX1_act_55 : decode cX1_act 55 = .ok (.invokevirtual 201, 3) := by decide +kernel
theorem dX1_act_58 : decode cX1_act 58 = .ok (.ireturn, 1) := by decide +kernel
set_option maxRecDepth 20000 in
theorem ggX1_wantsTask_X2_last : GoodIn wsX1_wantsTask wsX2_last := goodIn_r _ [6, 7, 8, 9, 10, 5, 11, 12, 32, 33] (by decide +kernel) (by decide +kernel)
set_option maxRecDepth 20000 in
theorem gX1_wantsTask_X2_last : GoodIn wsX1_wantsTask (wsV RX1 149 RX2 yX2_last wsX2_last) := goodIn_app (goodIn_of _ (by decide +kernel)) ggX1_wantsTask_X2_last
set_option maxRecDepth 20000 in
theorem ggX1_wantsTask_X1_taskAt : GoodIn wsX1_wantsTask wsX1_taskAt := goodIn_r _ [17, 18, 19, 34, 35, 36, 37, 38, 39, 40, 41, 42, 43, 44, 45] (by decide +kernel) (by decide +kernel)
set_option maxRecDepth 20000 in
theorem gX1_wantsTask_X1_taskAt : GoodIn wsX1_wantsTask (wsV RX1 97 RX1 yX1_taskAt wsX1_taskAt) := goodIn_app (goodIn_of _ (by decide +kernel)) ggX1_wantsTask_X1_taskAt
set_option maxRecDepth 20000 in
theorem ggX1_wantsTask_X4_isBlocked : GoodIn wsX1_wantsTask wsX4_isBlocked := goodIn_r _ [24, 25, 46, 47, 48, 49, 50, 51, 52, 53, 54, 55, 56] (by decide +kernel) (by decide +kernel)
set_option maxRecDepth 20000 in
theorem gX1_wantsTask_X4_isBlocked : GoodIn wsX1_wantsTask (wsV RX1 113 RX4 yX4_isBlocked wsX4_isBlocked) := goodIn_app (goodIn_of _ (by decide +kernel)) ggX1_wantsTask_X4_isBlocked
theorem dX1_wantsTask_0 : decode cX1_wantsTask 0 = .ok (.aload_n 1, 1) := by decide +kernel
theorem dX1_wantsTask_1 : decode cX1_wantsTask 1 = .ok (.getfield 107, 3) := by decide +kernel
theorem dX1_wantsTask_4 : decode cX1_wantsTask 4 = .ok (.getfield 110, 3) := by decide +kernel
theorem dX1_wantsTask_7 : decode cX1_wantsTask 7 = .ok (.ifCond .eq 28, 3) := by decide +kernel
theorem dX1_wantsTask_10 : decode cX1_wantsTask 10 = .ok (.aload_n 0, 1) := by decide +kernel
theorem dX1_wantsTask_11 : decode cX1_wantsTask 11 = .ok (.getfield 71, 3) := by decide +kernel
theorem dX1_wantsTask_14 : decode cX1_wantsTask 14 = .ok (.iconst 2, 1) := by decide +kernel
theorem dX1_wantsTask_15 : decode cX1_wantsTask 15 = .ok (.if_icmp .ne 24, 3) := by decide +kernel
theorem dX1_wantsTask_18 : decode cX1_wantsTask 18 = .ok (.aload_n 0, 1) := by decide +kernel
theorem dX1_wantsTask_19 : decode cX1_wantsTask 19 = .ok (.aload_n 1, 1) := by decide +kernel
theorem dX1_wantsTask_20 : decode cX1_wantsTask 20 = .ok (.getfield 107, 3) := by decide +kernel
theorem dX1_wantsTask_23 : decode cX1_wantsTask 23 = .ok (.invokevirtual 149, 3) := by decide +kernel
theorem dX1_wantsTask_26 : decode cX1_wantsTask 26 = .ok (.invokevirtual 97, 3) := by decide +kernel
theorem dX1_wantsTask_29 : decode cX1_wantsTask 29 = .ok (.invokevirtual 113, 3) := by decide +kernel
theorem dX1_wantsTask_32 : decode cX1_wantsTask 32 = .ok (.ifCond .eq 7, 3) := by decide +kernel
theorem dX1_wantsTask_35 : decode cX1_wantsTask 35 = .ok (.iconst 1, 1) := by decide +kernel
theorem dX1_wantsTask_36 : decode cX1_wantsTask 36 = .ok (.goto 4, 3) := by decide +kernel
theorem dX1_wantsTask_39 : decode cX1_wantsTask 39 = .ok (.iconst 0, 1) := by decide +kernel
theorem dX1_wantsTask_40 : decode cX1_wantsTask 40 = .ok (.ireturn, 1) := by decide +kernel
set_option maxRecDepth 20000 in
theorem ggX1_take_X1_sourceFor : GoodIn wsX1_take wsX1_sourceFor := goodIn_r _ [5, 6, 7, 8, 9, 10, 4, 11, 12, 13, 14, 15, 16, 17, 18, 19, 20, 21, 22, 23, 24, 25, 26, 70, 71, 72, 73, 74, 75, 76, 77, 78, 79, 80, 81, 82, 83, 53, 54, 55, 56, 57, 58] (by decide +kernel) (by decide +kernel)
set_option maxRecDepth 20000 in
theorem gX1_take_X1_sourceFor : GoodIn wsX1_take (wsV RX1 145 RX1 yX1_sourceFor wsX1_sourceFor) := goodIn_app (goodIn_of _ (by decide +kernel)) ggX1_take_X1_sourceFor
set_option maxRecDepth 20000 in
theorem ggX1_take_X1_rowOf : GoodIn wsX1_take wsX1_rowOf := goodIn_r _ [11, 6, 12, 13, 14, 4, 15, 16, 17, 72, 73, 74, 75, 76, 77, 78, 79, 80, 81, 82, 83, 53, 54, 55, 56, 57, 58] (by decide +kernel) (by decide +kernel)
set_option maxRecDepth 20000 in
theorem gX1_take_X1_rowOf : GoodIn wsX1_take (wsV RX1 205 RX1 yX1_rowOf wsX1_rowOf) := goodIn_app (goodIn_of _ (by decide +kernel)) ggX1_take_X1_rowOf
set_option maxRecDepth 20000 in
theorem ggX1_take_X2_last : GoodIn wsX1_take wsX2_last := goodIn_r _ [31, 32, 33, 34, 35, 30, 36, 37, 70, 71] (by decide +kernel) (by decide +kernel)
set_option maxRecDepth 20000 in
theorem gX1_take_X2_last : GoodIn wsX1_take (wsV RX1 149 RX2 yX2_last wsX2_last) := goodIn_app (goodIn_of _ (by decide +kernel)) ggX1_take_X2_last
set_option maxRecDepth 20000 in
theorem ggX1_take_X2_at : GoodIn wsX1_take wsX2_at := goodIn_r _ [36, 32, 37, 70, 71] (by decide +kernel) (by decide +kernel)
set_option maxRecDepth 20000 in
theorem gX1_take_X2_at : GoodIn wsX1_take (wsV RX1 209 RX2 yX2_at wsX2_at) := goodIn_app (goodIn_of _ (by decide +kernel)) ggX1_take_X2_at
set_option maxRecDepth 20000 in
theorem ggX1_take_X2_remove : GoodIn wsX1_take wsX2_remove := goodIn_r _ [42, 32, 37, 70, 71] (by decide +kernel) (by decide +kernel)
set_option maxRecDepth 20000 in
theorem gX1_take_X2_remove : GoodIn wsX1_take (wsV RX1 212 RX2 yX2_remove wsX2_remove) := goodIn_app (goodIn_of _ (by decide +kernel)) ggX1_take_X2_remove
set_option maxRecDepth 20000 in
theorem ggX1_take_X2_append : GoodIn wsX1_take wsX2_append := goodIn_r _ [46, 32, 37, 70, 71] (by decide +kernel) (by decide +kernel)
set_option maxRecDepth 20000 in
theorem gX1_take_X2_append : GoodIn wsX1_take (wsV RX1 162 RX2 yX2_append wsX2_append) := goodIn_app (goodIn_of _ (by decide +kernel)) ggX1_take_X2_append
set_option maxRecDepth 20000 in
theorem ggX1_take_X1_taskAt : GoodIn wsX1_take wsX1_taskAt := goodIn_r _ [50, 51, 52, 72, 73, 74, 75, 76, 77, 78, 79, 80, 81, 82, 83] (by decide +kernel) (by decide +kernel)
set_option maxRecDepth 20000 in
theorem gX1_take_X1_taskAt : GoodIn wsX1_take (wsV RX1 97 RX1 yX1_taskAt wsX1_taskAt) := goodIn_app (goodIn_of _ (by decide +kernel)) ggX1_take_X1_taskAt
theorem dX1_take_0 : decode cX1_take 0 = .ok (.aload_n 0, 1) := by decide +kernel
theorem dX1_take_1 : decode cX1_take 1 = .ok (.iload_n 1, 1) := by decide +kernel
theorem dX1_take_2 : decode cX1_take 2 = .ok (.invokevirtual 145, 3) := by decide +kernel
theorem dX1_take_5 : decode cX1_take 5 = .ok (.istore_n 3, 1) := by decide +kernel
theorem dX1_take_6 : decode cX1_take 6 = .ok (.iload_n 3, 1) := by decide +kernel
theorem dX1_take_7 : decode cX1_take 7 = .ok (.bipush (-2), 2) := by decide +kernel
theorem dX1_take_9 : decode cX1_take 9 = .ok (.if_icmp .ne 15, 3) := by decide +kernel
theorem dX1_take_12 : decode cX1_take 12 = .ok (.aload_n 2, 1) := by decide +kernel
theorem dX1_take_13 : decode cX1_take 13 = .ok (.dup, 1) := by decide +kernel
theorem dX1_take_14 : decode cX1_take 14 = .ok (.getfield 198, 3) := by decide +kernel
theorem dX1_take_17 : decode cX1_take 17 = .ok (.iconst 1, 1) := by decide +kernel
theorem dX1_take_18 : decode cX1_take 18 = .ok (.iadd, 1) := by decide +kernel
theorem dX1_take_19 : decode cX1_take 19 = .ok (.putfield 198, 3) := by decide +kernel
theorem dX1_take_22 : decode cX1_take 22 = .ok (.iconst 0, 1) := by decide +kernel
theorem dX1_take_23 : decode cX1_take 23 = .ok (.ireturn, 1) := by decide +kernel
theorem dX1_take_24 : decode cX1_take 24 = .ok (.aload_n 0, 1) := by decide +kernel
theorem dX1_take_25 : decode cX1_take 25 = .ok (.iload_n 3, 1) := by decide +kernel
theorem dX1_take_26 : decode cX1_take 26 = .ok (.invokevirtual 205, 3) := by decide +kernel
theorem dX1_take_29 : decode cX1_take 29 = .ok (.astore 4, 2) := by decide +kernel
theorem dX1_take_31 : decode cX1_take 31 = .ok (.iload_n 3, 1) := by decide +kernel
theorem dX1_take_32 : decode cX1_take 32 = .ok (.iload_n 1, 1) := by decide +kernel
theorem dX1_take_33 : decode cX1_take 33 = .ok (.if_icmp .ne 11, 3) := by decide +kernel
theorem dX1_take_36 : decode cX1_take 36 = .ok (.aload 4, 2) := by decide +kernel
theorem dX1_take_38 : decode cX1_take 38 = .ok (.invokevirtual 149, 3) := by decide +kernel
theorem dX1_take_41 : decode cX1_take 41 = .ok (.goto 9, 3) := by decide +kernel
theorem dX1_take_44 : decode cX1_take 44 = .ok (.aload 4, 2) := by decide +kernel
theorem dX1_take_46 : decode cX1_take 46 = .ok (.iconst 0, 1) := by decide +kernel
theorem dX1_take_47 : decode cX1_take 47 = .ok (.invokevirtual 209, 3) := by decide +kernel
theorem dX1_take_50 : decode cX1_take 50 = .ok (.istore 5, 2) := by decide +kernel
theorem dX1_take_52 : decode cX1_take 52 = .ok (.aload 4, 2) := by decide +kernel
theorem dX1_take_54 : decode cX1_take 54 = .ok (.iload 5, 2) := by decide +kernel
theorem dX1_take_56 : decode cX1_take 56 = .ok (.invokevirtual 212, 3) := by decide +kernel
theorem dX1_take_59 : decode cX1_take 59 = .ok (.aload_n 2, 1) := by decide +kernel
theorem dX1_take_60 : decode cX1_take 60 = .ok (.getfield 107, 3) := by decide +kernel
theorem dX1_take_63 : decode cX1_take 63 = .ok (.iload 5, 2) := by decide +kernel
theorem dX1_take_65 : decode cX1_take 65 = .ok (.invokevirtual 162, 3) := by decide +kernel
theorem dX1_take_68 : decode cX1_take 68 = .ok (.aload_n 0, 1) := by decide +kernel
theorem dX1_take_69 : decode cX1_take 69 = .ok (.iload 5, 2) := by decide +kernel
theorem dX1_take_71 : decode cX1_take 71 = .ok (.invokevirtual 97, 3) := by decide +kernel
theorem dX1_take_74 : decode cX1_take 74 = .ok (.iconst 1, 1) := by decide +kernel
theorem dX1_take_75 : decode cX1_take 75 = .ok (.putfield 104, 3) := by decide +kernel
theorem dX1_take_78 : decode cX1_take 78 = .ok (.iload_n 3, 1) := by decide +kernel
theorem dX1_take_79 : decode cX1_take 79 = .ok (.iload_n 1, 1) := by decide +kernel
theorem dX1_take_80 : decode cX1_take 80 = .ok (.if_icmp .eq 8, 3) := by decide +kernel
theorem dX1_take_83 : decode cX1_take 83 = .ok (.iload_n 3, 1) := by decide +kernel
theorem dX1_take_84 : decode cX1_take 84 = .ok (.iconst (-1), 1) := by decide +kernel
theorem dX1_take_85 : decode cX1_take 85 = .ok (.if_icmp .ne 5, 3) := by decide +kernel
theorem dX1_take_88 : decode cX1_take 88 = .ok (.iconst 1, 1) := by decide +kernel
theorem dX1_take_89 : decode cX1_take 89 = .ok (.ireturn, 1) := by decide +kernel
theorem dX1_take_90 : decode cX1_take 90 = .ok (.aload_n 2, 1) := by decide +kernel
theorem dX1_take_91 : decode cX1_take 91 = .ok (.dup, 1) := by decide +kernel
theorem dX1_take_92 : decode cX1_take 92 = .ok (.getfield 215, 3) := by decide +kernel
theorem dX1_take_95 : decode cX1_take 95 = .ok (.iconst 1, 1) := by decide +kernel
theorem dX1_take_96 : decode cX1_take 96 = .ok (.iadd, 1) := by decide +kernel
theorem dX1_take_97 : decode cX1_take 97 = .ok (.putfield 215, 3) := by decide +kernel
theorem dX1_take_100 : decode cX1_take 100 = .ok (.iconst 0, 1) := by decide +kernel
theorem dX1_take_101 : decode cX1_take 101 = .ok (.ireturn, 1) := by decide +kernel
set_option maxRecDepth 20000 in
theorem ggX1_sourceFor_X1_rowOf : GoodIn wsX1_sourceFor wsX1_rowOf := goodIn_r _ [7, 1, 8, 9, 10, 6, 11, 12, 13, 25, 26, 27, 28, 29, 30, 31, 32, 33, 34, 35, 36, 37, 38, 39, 40, 41, 42] (by decide +kernel) (by decide +kernel)
set_option maxRecDepth 20000 in
theorem gX1_sourceFor_X1_rowOf : GoodIn wsX1_sourceFor (wsV RX1 205 RX1 yX1_rowOf wsX1_rowOf) := goodIn_app (goodIn_of _ (by decide +kernel)) ggX1_sourceFor_X1_rowOf
set_option maxRecDepth 20000 in
theorem ggX1_sourceFor_X1_nextWithTasks : GoodIn wsX1_sourceFor wsX1_nextWithTasks := goodIn_r _ [17, 18, 3, 4, 5, 6, 7, 1, 8, 9, 10, 11, 12, 13, 25, 26, 27, 28, 29, 30, 31, 32, 33, 34, 35, 36, 23, 24, 37, 38, 39, 40, 41, 42] (by decide +kernel) (by decide +kernel)
set_option maxRecDepth 20000 in
theorem gX1_sourceFor_X1_nextWithTasks : GoodIn wsX1_sourceFor (wsV RX1 218 RX1 yX1_nextWithTasks wsX1_nextWithTasks) := goodIn_app (goodIn_of _ (by decide +kernel)) ggX1_sourceFor_X1_nextWithTasks
set_option maxRecDepth 20000 in
theorem ggX1_sourceFor_X1_firstWithMostTasks : GoodIn wsX1_sourceFor wsX1_firstWithMostTasks := goodIn_r _ [22, 18, 3, 4, 5, 6, 7, 1, 8, 9, 10, 11, 12, 13, 25, 26, 27, 28, 29, 30, 31, 32, 33, 34, 35, 36, 23, 24, 37, 38, 39, 40, 41, 42] (by decide +kernel) (by decide +kernel)
set_option maxRecDepth 20000 in
theorem gX1_sourceFor_X1_firstWithMostTasks : GoodIn wsX1_sourceFor (wsV RX1 221 RX1 yX1_firstWithMostTasks wsX1_firstWithMostTasks) := goodIn_app (goodIn_of _ (by decide +kernel)) ggX1_sourceFor_X1_firstWithMostTasks
theorem dX1_sourceFor_0 : decode cX1_sourceFor 0 = .ok (.aload_n 0, 1) := by decide +kernel
theorem dX1_sourceFor_1 : decode cX1_sourceFor 1 = .ok (.iload_n 1, 1) := by decide +kernel
theorem dX1_sourceFor_2 : decode cX1_sourceFor 2 = .ok (.invokevirtual 205, 3) := by decide +kernel
theorem dX1_sourceFor_5 : decode cX1_sourceFor 5 = .ok (.getfield 110, 3) := by decide +kernel
theorem dX1_sourceFor_8 : decode cX1_sourceFor 8 = .ok (.ifCond .le 5, 3) := by decide +kernel
theorem dX1_sourceFor_11 : decode cX1_sourceFor 11 = .ok (.iload_n 1, 1) := by decide +kernel
theorem dX1_sourceFor_12 : decode cX1_sourceFor 12 = .ok (.ireturn, 1) := by decide +kernel
theorem dX1_sourceFor_13 : decode cX1_sourceFor 13 = .ok (.aload_n 0, 1) := by decide +kernel
theorem dX1_sourceFor_14 : decode cX1_sourceFor 14 = .ok (.getfield 38, 3) := by decide +kernel
theorem dX1_sourceFor_17 : decode cX1_sourceFor 17 = .ok (.getfield 110, 3) := by decide +kernel
theorem dX1_sourceFor_20 : decode cX1_sourceFor 20 = .ok (.ifCond .le 5, 3) := by decide +kernel
theorem dX1_sourceFor_23 : decode cX1_sourceFor 23 = .ok (.iconst (-1), 1) := by decide +kernel
theorem dX1_sourceFor_24 : decode cX1_sourceFor 24 = .ok (.ireturn, 1) := by decide +kernel
theorem dX1_sourceFor_25 : decode cX1_sourceFor 25 = .ok (.aload_n 0, 1) := by decide +kernel
theorem dX1_sourceFor_26 : decode cX1_sourceFor 26 = .ok (.getfield 74, 3) := by decide +kernel
theorem dX1_sourceFor_29 : decode cX1_sourceFor 29 = .ok (.ifCond .ne 9, 3) := by decide +kernel
theorem dX1_sourceFor_32 : decode cX1_sourceFor 32 = .ok (.aload_n 0, 1) := by decide +kernel
theorem dX1_sourceFor_33 : decode cX1_sourceFor 33 = .ok (.iload_n 1, 1) := by decide +kernel
theorem dX1_sourceFor_34 : decode cX1_sourceFor 34 = .ok (.invokevirtual 218, 3) := by decide +kernel
theorem dX1_sourceFor_37 : decode cX1_sourceFor 37 = .ok (.ireturn, 1) := by decide +kernel
theorem dX1_sourceFor_38 : decode cX1_sourceFor 38 = .ok (.aload_n 0, 1) := by decide +kernel
theorem dX1_sourceFor_39 : decode cX1_sourceFor 39 = .ok (.getfield 74, 3) := by decide +kernel
theorem dX1_sourceFor_42 : decode cX1_sourceFor 42 = .ok (.iconst 1, 1) := by decide +kernel
theorem dX1_sourceFor_43 : decode cX1_sourceFor 43 = .ok (.if_icmp .ne 10, 3) := by decide +kernel
theorem dX1_sourceFor_46 : decode cX1_sourceFor 46 = .ok (.aload_n 0, 1) := by decide +kernel
theorem dX1_sourceFor_47 : decode cX1_sourceFor 47 = .ok (.invokevirtual 221, 3) := by decide +kernel
theorem dX1_sourceFor_50 : decode cX1_sourceFor 50 = .ok (.goto 5, 3) := by decide +kernel
theorem dX1_sourceFor_53 : decode cX1_sourceFor 53 = .ok (.bipush (-2), 2) := by decide +kernel
theorem dX1_sourceFor_55 : decode cX1_sourceFor 55 = .ok (.ireturn, 1) := by decide +kernel
set_option maxRecDepth 20000 in
theorem ggX1_nextWithTasks_X1_rowOf : GoodIn wsX1_nextWithTasks wsX1_rowOf := goodIn_r _ [6, 7, 8, 9, 10, 5, 11, 12, 13, 14, 15, 16, 17, 18, 19, 20, 21, 22, 23, 24, 25, 28, 29, 30, 31, 32, 33] (by decide +kernel) (by decide +kernel)
set_option maxRecDepth 20000 in
theorem gX1_nextWithTasks_X1_rowOf : GoodIn wsX1_nextWithTasks (wsV RX1 205 RX1 yX1_rowOf wsX1_rowOf) := goodIn_app (goodIn_of _ (by decide +kernel)) ggX1_nextWithTasks_X1_rowOf
theorem dX1_nextWithTasks_0 : decode cX1_nextWithTasks 0 = .ok (.iconst 1, 1) := by decide +kernel
theorem dX1_nextWithTasks_1 : decode cX1_nextWithTasks 1 = .ok (.istore_n 2, 1) := by decide +kernel
theorem dX1_nextWithTasks_2 : decode cX1_nextWithTasks 2 = .ok (.iload_n 2, 1) := by decide +kernel
theorem dX1_nextWithTasks_3 : decode cX1_nextWithTasks 3 = .ok (.aload_n 0, 1) := by decide +kernel
theorem dX1_nextWithTasks_4 : decode cX1_nextWithTasks 4 = .ok (.getfield 57, 3) := by decide +kernel
theorem dX1_nextWithTasks_7 : decode cX1_nextWithTasks 7 = .ok (.if_icmp .ge 47, 3) := by decide +kernel
theorem dX1_nextWithTasks_10 : decode cX1_nextWithTasks 10 = .ok (.iload_n 1, 1) := by decide +kernel
theorem dX1_nextWithTasks_11 : decode cX1_nextWithTasks 11 = .ok (.iload_n 2, 1) := by decide +kernel
theorem dX1_nextWithTasks_12 : decode cX1_nextWithTasks 12 = .ok (.iadd, 1) := by decide +kernel
theorem dX1_nextWithTasks_13 : decode cX1_nextWithTasks 13 = .ok (.aload_n 0, 1) := by decide +kernel
theorem dX1_nextWithTasks_14 : decode cX1_nextWithTasks 14 = .ok (.getfield 57, 3) := by decide +kernel
theorem dX1_nextWithTasks_17 : decode cX1_nextWithTasks 17 = .ok (.if_icmp .ge 9, 3) := by decide +kernel
theorem dX1_nextWithTasks_20 : decode cX1_nextWithTasks 20 = .ok (.iload_n 1, 1) := by decide +kernel
theorem dX1_nextWithTasks_21 : decode cX1_nextWithTasks 21 = .ok (.iload_n 2, 1) := by decide +kernel
theorem dX1_nextWithTasks_22 : decode cX1_nextWithTasks 22 = .ok (.iadd, 1) := by decide +kernel
theorem dX1_nextWithTasks_23 : decode cX1_nextWithTasks 23 = .ok (.goto 11, 3) := by decide +kernel
theorem dX1_nextWithTasks_26 : decode cX1_nextWithTasks 26 = .ok (.iload_n 1, 1) := by decide +kernel
theorem dX1_nextWithTasks_27 : decode cX1_nextWithTasks 27 = .ok (.iload_n 2, 1) := by decide +kernel
theorem dX1_nextWithTasks_28 : decode cX1_nextWithTasks 28 = .ok (.iadd, 1) := by decide +kernel
theorem dX1_nextWithTasks_29 : decode cX1_nextWithTasks 29 = .ok (.aload_n 0, 1) := by decide +kernel
theorem dX1_nextWithTasks_30 : decode cX1_nextWithTasks 30 = .ok (.getfield 57, 3) := by decide +kernel
theorem dX1_nextWithTasks_33 : decode cX1_nextWithTasks 33 = .ok (.isub, 1) := by decide +kernel
theorem dX1_nextWithTasks_34 : decode cX1_nextWithTasks 34 = .ok (.istore_n 3, 1) := by decide +kernel
theorem dX1_nextWithTasks_35 : decode cX1_nextWithTasks 35 = .ok (.aload_n 0, 1) := by decide +kernel
theorem dX1_nextWithTasks_36 : decode cX1_nextWithTasks 36 = .ok (.iload_n 3, 1) := by decide +kernel
theorem dX1_nextWithTasks_37 : decode cX1_nextWithTasks 37 = .ok (.invokevirtual 205, 3) := by decide +kernel
theorem dX1_nextWithTasks_40 : decode cX1_nextWithTasks 40 = .ok (.getfield 110, 3) := by decide +kernel
theorem dX1_nextWithTasks_43 : decode cX1_nextWithTasks 43 = .ok (.ifCond .le 5, 3) := by decide +kernel
theorem dX1_nextWithTasks_46 : decode cX1_nextWithTasks 46 = .ok (.iload_n 3, 1) := by decide +kernel
theorem dX1_nextWithTasks_47 : decode cX1_nextWithTasks 47 = .ok (.ireturn, 1) := by decide +kernel
theorem dX1_nextWithTasks_48 : decode cX1_nextWithTasks 48 = .ok (.iinc 2 1, 3) := by decide +kernel
theorem dX1_nextWithTasks_51 : decode cX1_nextWithTasks 51 = .ok (.goto (-49), 3) := by decide +kernel
theorem dX1_nextWithTasks_54 : decode cX1_nextWithTasks 54 = .ok (.bipush (-2), 2) := by decide +kernel
theorem dX1_nextWithTasks_56 : decode cX1_nextWithTasks 56 = .ok (.ireturn, 1) := by decide +kernel
set_option maxRecDepth 20000 in
theorem ggX1_firstWithMostTasks_X1_rowOf : GoodIn wsX1_firstWithMostTasks wsX1_rowOf := goodIn_r _ [6, 7, 8, 9, 10, 5, 11, 12, 13, 14, 15, 16, 17, 18, 19, 20, 21, 22, 23, 24, 25, 28, 29, 30, 31, 32, 33] (by decide +kernel) (by decide +kernel)
set_option maxRecDepth 20000 in
theorem gX1_firstWithMostTasks_X1_rowOf : GoodIn wsX1_firstWithMostTasks (wsV RX1 205 RX1 yX1_rowOf wsX1_rowOf) := goodIn_app (goodIn_of _ (by decide +kernel)) ggX1_firstWithMostTasks_X1_rowOf
theorem dX1_firstWithMostTasks_0 : decode cX1_firstWithMostTasks 0 = .ok (.bipush (-2), 2) := by decide +kernel
theorem dX1_firstWithMostTasks_2 : decode cX1_firstWithMostTasks 2 = .ok (.istore_n 1, 1) := by decide +kernel
theorem dX1_firstWithMostTasks_3 : decode cX1_firstWithMostTasks 3 = .ok (.iconst 0, 1) := by decide +kernel
theorem dX1_firstWithMostTasks_4 : decode cX1_firstWithMostTasks 4 = .ok (.istore_n 2, 1) := by decide +kernel
theorem dX1_firstWithMostTasks_5 : decode cX1_firstWithMostTasks 5 = .ok (.iconst 0, 1) := by decide +kernel
theorem dX1_firstWithMostTasks_6 : decode cX1_firstWithMostTasks 6 = .ok (.istore_n 3, 1) := by decide +kernel
theorem dX1_firstWithMostTasks_7 : decode cX1_firstWithMostTasks 7 = .ok (.iload_n 3, 1) := by decide +kernel
theorem dX1_firstWithMostTasks_8 : decode cX1_firstWithMostTasks 8 = .ok (.aload_n 0, 1) := by decide +kernel
theorem dX1_firstWithMostTasks_9 : decode cX1_firstWithMostTasks 9 = .ok (.getfield 57, 3) := by decide +kernel
theorem dX1_firstWithMostTasks_12 : decode cX1_firstWithMostTasks 12 = .ok (.if_icmp .ge 30, 3) := by decide +kernel
theorem dX1_firstWithMostTasks_15 : decode cX1_firstWithMostTasks 15 = .ok (.aload_n 0, 1) := by decide +kernel
theorem dX1_firstWithMostTasks_16 : decode cX1_firstWithMostTasks 16 = .ok (.iload_n 3, 1) := by decide +kernel
theorem dX1_firstWithMostTasks_17 : decode cX1_firstWithMostTasks 17 = .ok (.invokevirtual 205, 3) := by decide +kernel
theorem dX1_firstWithMostTasks_20 : decode cX1_firstWithMostTasks 20 = .ok (.getfield 110, 3) := by decide +kernel
theorem dX1_firstWithMostTasks_23 : decode cX1_firstWithMostTasks 23 = .ok (.istore 4, 2) := by decide +kernel
theorem dX1_firstWithMostTasks_25 : decode cX1_firstWithMostTasks 25 = .ok (.iload 4, 2) := by decide +kernel
theorem dX1_firstWithMostTasks_27 : decode cX1_firstWithMostTasks 27 = .ok (.iload_n 2, 1) := by decide +kernel
theorem dX1_firstWithMostTasks_28 : decode cX1_firstWithMostTasks 28 = .ok (.if_icmp .le 8, 3) := by decide +kernel
theorem dX1_firstWithMostTasks_31 : decode cX1_firstWithMostTasks 31 = .ok (.iload 4, 2) := by decide +kernel
theorem dX1_firstWithMostTasks_33 : decode cX1_firstWithMostTasks 33 = .ok (.istore_n 2, 1) := by decide +kernel
theorem dX1_firstWithMostTasks_34 : decode cX1_firstWithMostTasks 34 = .ok (.iload_n 3, 1) := by decide +kernel
theorem dX1_firstWithMostTasks_35 : decode cX1_firstWithMostTasks 35 = .ok (.istore_n 1, 1) := by decide +kernel
theorem dX1_firstWithMostTasks_36 : decode cX1_firstWithMostTasks 36 = .ok (.iinc 3 1, 3) := by decide +kernel
theorem dX1_firstWithMostTasks_39 : decode cX1_firstWithMostTasks 39 = .ok (.goto (-32), 3) := by decide +kernel
theorem dX1_firstWithMostTasks_42 : decode cX1_firstWithMostTasks 42 = .ok (.iload_n 1, 1) := by decide +kernel
theorem dX1_firstWithMostTasks_43 : decode cX1_firstWithMostTasks 43 = .ok (.ireturn, 1) := by decide +kernel
set_option maxRecDepth 20000 in
theorem ggX1_goOn_X0_scriptAt : GoodIn wsX1_goOn wsX0_scriptAt := goodIn_r _ [6, 7, 8, 188, 189, 190] (by decide +kernel) (by decide +kernel)
set_option maxRecDepth 20000 in
theorem gX1_goOn_X0_scriptAt : GoodIn wsX1_goOn (wsV RX1 165 RX0 yX0_scriptAt wsX0_scriptAt) := goodIn_app (goodIn_of _ (by decide +kernel)) ggX1_goOn_X0_scriptAt
set_option maxRecDepth 20000 in
theorem ggX1_goOn_X3_codeAt : GoodIn wsX1_goOn wsX3_codeAt := goodIn_r _ [13, 14, 185, 186, 187] (by decide +kernel) (by decide +kernel)
set_option maxRecDepth 20000 in
theorem gX1_goOn_X3_codeAt : GoodIn wsX1_goOn (wsV RX1 225 RX3 yX3_codeAt wsX3_codeAt) := goodIn_app (goodIn_of _ (by decide +kernel)) ggX1_goOn_X3_codeAt
set_option maxRecDepth 20000 in
theorem ggX1_goOn_X3_numberAt : GoodIn wsX1_goOn wsX3_numberAt := goodIn_r _ [18, 19, 185, 186, 187] (by decide +kernel) (by decide +kernel)
set_option maxRecDepth 20000 in
theorem gX1_goOn_X3_numberAt : GoodIn wsX1_goOn (wsV RX1 174 RX3 yX3_numberAt wsX3_numberAt) := goodIn_app (goodIn_of _ (by decide +kernel)) ggX1_goOn_X3_numberAt
set_option maxRecDepth 20000 in
theorem ggX1_goOn_X1_work : GoodIn wsX1_goOn wsX1_work := goodIn_r _ [24, 25, 26, 27, 28, 23, 29, 30, 31, 32, 33, 34, 35, 36, 37, 38, 39, 40, 41, 191, 192, 193, 194, 195, 196, 162, 163, 164, 165, 166, 167, 168, 169, 170, 171, 172, 173, 174, 175, 176, 177, 178, 179, 180, 181, 182, 183, 184] (by decide +kernel) (by decide +kernel)
set_option maxRecDepth 20000 in
theorem gX1_goOn_X1_work : GoodIn wsX1_goOn (wsV RX1 228 RX1 yX1_work wsX1_work) := goodIn_app (goodIn_of _ (by decide +kernel)) ggX1_goOn_X1_work
set_option maxRecDepth 20000 in
theorem ggX1_goOn_X1_fork : GoodIn wsX1_goOn wsX1_fork := goodIn_r _ [45, 46, 47, 48, 49, 23, 50, 51, 52, 53, 54, 55, 56, 57, 58, 59, 60, 61, 62, 63, 64, 65, 66, 67, 68, 69, 70, 71, 72, 73, 74, 75, 76, 26, 27, 28, 29, 30, 31, 77, 78, 79, 80, 81, 82, 83, 162, 163, 164, 165, 166, 167, 168, 169, 170, 171, 172, 173, 174, 175, 176, 177, 178, 179, 180, 181, 182, 183, 184, 191, 192, 193, 194, 195, 196, 197, 198] (by decide +kernel) (by decide +kernel)
set_option maxRecDepth 20000 in
theorem gX1_goOn_X1_fork : GoodIn wsX1_goOn (wsV RX1 232 RX1 yX1_fork wsX1_fork) := goodIn_app (goodIn_of _ (by decide +kernel)) ggX1_goOn_X1_fork
set_option maxRecDepth 20000 in
theorem ggX1_goOn_X1_join : GoodIn wsX1_goOn wsX1_join := goodIn_r _ [87, 88, 89, 90, 60, 91, 67, 92, 93, 94, 95, 96, 51, 52, 53, 23, 54, 55, 56, 97, 98, 99, 100, 63, 101, 102, 103, 104, 105, 26, 27, 28, 29, 30, 31, 106, 107, 108, 80, 109, 82, 83, 110, 111, 112, 113, 114, 115, 65, 116, 117, 118, 119, 120, 121, 122, 123, 124, 125, 126, 25, 76, 127, 128, 129, 130, 131, 132, 133, 134, 135, 77, 78, 79, 81, 174, 175, 176, 177, 178, 179, 180, 181, 182, 183, 184, 162, 163, 164, 165, 166, 167, 168, 169, 170, 171, 172, 173, 191, 192, 193, 194, 195, 196, 197, 198] (by decide +kernel) (by decide +kernel)
set_option maxRecDepth 20000 in
theorem gX1_goOn_X1_join : GoodIn wsX1_goOn (wsV RX1 236 RX1 yX1_join wsX1_join) := goodIn_app (goodIn_of _ (by decide +kernel)) ggX1_goOn_X1_join
set_option maxRecDepth 20000 in
theorem ggX1_goOn_X4_addValue : GoodIn wsX1_goOn wsX4_addValue := goodIn_r _ [113, 114, 115, 65, 116, 117, 118, 119, 120, 121, 122, 174, 175, 176, 177, 178, 179, 180, 181, 182, 183, 184] (by decide +kernel) (by decide +kernel)
set_option maxRecDepth 20000 in
theorem gX1_goOn_X4_addValue : GoodIn wsX1_goOn (wsV RX1 239 RX4 yX4_addValue wsX4_addValue) := goodIn_app (goodIn_of _ (by decide +kernel)) ggX1_goOn_X4_addValue
set_option maxRecDepth 20000 in
theorem ggX1_goOn_X1_end : GoodIn wsX1_goOn wsX1_end := goodIn_r _ [126, 25, 76, 127, 106, 107, 108, 80, 109, 82, 83, 26, 27, 28, 23, 29, 30, 31, 51, 52, 53, 54, 55, 56, 88, 89, 90, 60, 91, 67, 92, 93, 94, 95, 96, 128, 129, 130, 131, 132, 133, 134, 135, 77, 78, 79, 81, 174, 175, 176, 177, 178, 179, 180, 181, 182, 183, 184, 162, 163, 164, 165, 166, 167, 168, 169, 170, 171, 172, 173, 191, 192, 193, 194, 195, 196, 197, 198] (by decide +kernel) (by decide +kernel)
set_option maxRecDepth 20000 in
theorem gX1_goOn_X1_end : GoodIn wsX1_goOn (wsV RX1 182 RX1 yX1_end wsX1_end) := goodIn_app (goodIn_of _ (by decide +kernel)) ggX1_goOn_X1_end
set_option maxRecDepth 20000 in
theorem ggX1_goOn_X1_cancelBelow : GoodIn wsX1_goOn wsX1_cancelBelow := goodIn_r _ [139, 46, 51, 52, 53, 23, 54, 55, 56, 140, 141, 142, 97, 98, 99, 60, 100, 63, 123, 124, 125, 126, 25, 76, 127, 106, 107, 108, 80, 109, 82, 83, 26, 27, 28, 29, 30, 31, 88, 89, 90, 91, 67, 92, 93, 94, 95, 96, 128, 129, 130, 131, 132, 133, 134, 135, 77, 78, 79, 81, 174, 175, 176, 177, 178, 179, 180, 181, 182, 183, 184, 162, 163, 164, 165, 166, 167, 168, 169, 170, 171, 172, 173, 191, 192, 193, 194, 195, 196, 197, 198] (by decide +kernel) (by decide +kernel)
set_option maxRecDepth 20000 in
theorem gX1_goOn_X1_cancelBelow : GoodIn wsX1_goOn (wsV RX1 242 RX1 yX1_cancelBelow wsX1_cancelBelow) := goodIn_app (goodIn_of _ (by decide +kernel)) ggX1_goOn_X1_cancelBelow
set_option maxRecDepth 20000 in
theorem ggX1_goOn_X1_await : GoodIn wsX1_goOn wsX1_await := goodIn_r _ [146, 147, 148, 149, 150, 23, 151, 152, 101, 102, 103, 104, 105, 26, 27, 28, 29, 30, 31, 106, 107, 108, 80, 109, 82, 83, 110, 111, 112, 60, 113, 114, 115, 65, 116, 117, 118, 119, 120, 121, 122, 162, 163, 164, 165, 166, 167, 168, 169, 170, 171, 172, 173, 174, 175, 176, 177, 178, 179, 180, 181, 182, 183, 184, 191, 192, 193, 194, 195, 196, 197, 198] (by decide +kernel) (by decide +kernel)
set_option maxRecDepth 20000 in
theorem gX1_goOn_X1_await : GoodIn wsX1_goOn (wsV RX1 246 RX1 yX1_await wsX1_await) := goodIn_app (goodIn_of _ (by decide +kernel)) ggX1_goOn_X1_await
set_option maxRecDepth 20000 in
theorem ggX1_goOn_X1_keepPromise : GoodIn wsX1_goOn wsX1_keepPromise := goodIn_r _ [156, 152, 147, 46, 1, 51, 52, 53, 23, 54, 55, 56, 2, 3, 4, 5, 6, 7, 8, 15, 16, 17, 12, 18, 19, 128, 129, 130, 131, 127, 26, 27, 28, 29, 30, 31, 132, 133, 134, 80, 135, 82, 83, 77, 78, 79, 81, 162, 163, 164, 165, 166, 167, 168, 169, 170, 171, 172, 173, 174, 175, 176, 177, 178, 179, 180, 181, 182, 183, 184, 188, 189, 190, 185, 186, 187, 191, 192, 193, 194, 195, 196, 197, 198] (by decide +kernel) (by decide +kernel)
set_option maxRecDepth 20000 in
theorem gX1_goOn_X1_keepPromise : GoodIn wsX1_goOn (wsV RX1 252 RX1 yX1_keepPromise wsX1_keepPromise) := goodIn_app (goodIn_of _ (by decide +kernel)) ggX1_goOn_X1_keepPromise
set_option maxRecDepth 20000 in
theorem ggX1_goOn_X1_advance : GoodIn wsX1_goOn wsX1_advance := goodIn_r _ [160, 161, 117, 118, 119, 123, 124, 125, 23, 126, 25, 76, 127, 106, 107, 108, 80, 109, 82, 83, 26, 27, 28, 29, 30, 31, 51, 52, 53, 54, 55, 56, 88, 89, 90, 60, 91, 67, 92, 93, 94, 95, 96, 128, 129, 130, 131, 132, 133, 134, 135, 77, 78, 79, 81, 174, 175, 176, 177, 178, 179, 180, 181, 182, 183, 184, 162, 163, 164, 165, 166, 167, 168, 169, 170, 171, 172, 173, 191, 192, 193, 194, 195, 196, 197, 198] (by decide +kernel) (by decide +kernel)
set_option maxRecDepth 20000 in
theorem gX1_goOn_X1_advance : GoodIn wsX1_goOn (wsV RX1 255 RX1 yX1_advance wsX1_advance) := goodIn_app (goodIn_of _ (by decide +kernel)) ggX1_goOn_X1_advance
theorem dX1_goOn_0 : decode cX1_goOn 0 = .ok (.aload_n 0, 1) := by decide +kernel
theorem dX1_goOn_1 : decode cX1_goOn 1 = .ok (.getfield 46, 3) := by decide +kernel
theorem dX1_goOn_4 : decode cX1_goOn 4 = .ok (.aload_n 2, 1) := by decide +kernel
theorem dX1_goOn_5 : decode cX1_goOn 5 = .ok (.getfield 101, 3) := by decide +kernel
theorem dX1_goOn_8 : decode cX1_goOn 8 = .ok (.invokevirtual 165, 3) := by decide +kernel
theorem dX1_goOn_11 : decode cX1_goOn 11 = .ok (.astore_n 3, 1) := by decide +kernel
theorem dX1_goOn_12 : decode cX1_goOn 12 = .ok (.aload_n 2, 1) := by decide +kernel
theorem dX1_goOn_13 : decode cX1_goOn 13 = .ok (.getfield 171, 3) := by decide +kernel
theorem dX1_goOn_16 : decode cX1_goOn 16 = .ok (.aload_n 3, 1) := by decide +kernel
theorem dX1_goOn_17 : decode cX1_goOn 17 = .ok (.getfield 224, 3) := by decide +kernel
theorem dX1_goOn_20 : decode cX1_goOn 20 = .ok (.if_icmp .ge 14, 3) := by decide +kernel
theorem dX1_goOn_23 : decode cX1_goOn 23 = .ok (.aload_n 3, 1) := by decide +kernel
theorem dX1_goOn_24 : decode cX1_goOn 24 = .ok (.aload_n 2, 1) := by decide +kernel
theorem dX1_goOn_25 : decode cX1_goOn 25 = .ok (.getfield 171, 3) := by decide +kernel
theorem dX1_goOn_28 : decode cX1_goOn 28 = .ok (.invokevirtual 225, 3) := by decide +kernel
theorem dX1_goOn_31 : decode cX1_goOn 31 = .ok (.goto 4, 3) := by decide +kernel
theorem dX1_goOn_34 : decode cX1_goOn 34 = .ok (.iconst (-1), 1) := by decide +kernel
theorem dX1_goOn_35 : decode cX1_goOn 35 = .ok (.istore 4, 2) := by decide +kernel
theorem dX1_goOn_37 : decode cX1_goOn 37 = .ok (.aload_n 3, 1) := by decide +kernel
theorem dX1_goOn_38 : decode cX1_goOn 38 = .ok (.aload_n 2, 1) := by decide +kernel
theorem dX1_goOn_39 : decode cX1_goOn 39 = .ok (.getfield 171, 3) := by decide +kernel
theorem dX1_goOn_42 : decode cX1_goOn 42 = .ok (.invokevirtual 174, 3) := by decide +kernel
theorem dX1_goOn_45 : decode cX1_goOn 45 = .ok (.istore 5, 2) := by decide +kernel
theorem dX1_goOn_47 : decode cX1_goOn 47 = .ok (.iconst 1, 1) := by decide +kernel
theorem dX1_goOn_48 : decode cX1_goOn 48 = .ok (.istore 6, 2) := by decide +kernel
theorem dX1_goOn_50 : decode cX1_goOn 50 = .ok (.iload 4, 2) := by decide +kernel
theorem dX1_goOn_52 : decode cX1_goOn 52 = .ok (.tableswitch 150 0 9 #[56, 69, 80, 80, 80, 93, 102, 114, 123, 136], 56) := by decide +kernel
theorem dX1_goOn_108 : decode cX1_goOn 108 = .ok (.aload_n 0, 1) := by decide +kernel
theorem dX1_goOn_109 : decode cX1_goOn 109 = .ok (.iload_n 1, 1) := by decide +kernel
theorem dX1_goOn_110 : decode cX1_goOn 110 = .ok (.aload_n 2, 1) := by decide +kernel
theorem dX1_goOn_111 : decode cX1_goOn 111 = .ok (.iload 5, 2) := by decide +kernel
theorem dX1_goOn_113 : decode cX1_goOn 113 = .ok (.invokevirtual 228, 3) := by decide +kernel
theorem dX1_goOn_116 : decode cX1_goOn 116 = .ok (.istore 6, 2) := by decide +kernel
theorem dX1_goOn_118 : decode cX1_goOn 118 = .ok (.goto 84, 3) := by decide +kernel
theorem dX1_goOn_121 : decode cX1_goOn 121 = .ok (.aload_n 0, 1) := by decide +kernel
theorem dX1_goOn_122 : decode cX1_goOn 122 = .ok (.iload_n 1, 1) := by decide +kernel
theorem dX1_goOn_123 : decode cX1_goOn 123 = .ok (.aload_n 2, 1) := by decide +kernel
theorem dX1_goOn_124 : decode cX1_goOn 124 = .ok (.iload 5, 2) := by decide +kernel
theorem dX1_goOn_126 : decode cX1_goOn 126 = .ok (.invokevirtual 232, 3) := by decide +kernel
theorem dX1_goOn_129 : decode cX1_goOn 129 = .ok (.goto 73, 3) := by decide +kernel
theorem dX1_goOn_132 : decode cX1_goOn 132 = .ok (.aload_n 0, 1) := by decide +kernel
theorem dX1_goOn_133 : decode cX1_goOn 133 = .ok (.iload_n 1, 1) := by decide +kernel
theorem dX1_goOn_134 : decode cX1_goOn 134 = .ok (.aload_n 2, 1) := by decide +kernel
theorem dX1_goOn_135 : decode cX1_goOn 135 = .ok (.iload 4, 2) := by decide +kernel
theorem dX1_goOn_137 : decode cX1_goOn 137 = .ok (.invokevirtual 236, 3) := by decide +kernel
theorem dX1_goOn_140 : decode cX1_goOn 140 = .ok (.istore 6, 2) := by decide +kernel
theorem dX1_goOn_142 : decode cX1_goOn 142 = .ok (.goto 60, 3) := by decide +kernel
theorem dX1_goOn_145 : decode cX1_goOn 145 = .ok (.aload_n 2, 1) := by decide +kernel
theorem dX1_goOn_146 : decode cX1_goOn 146 = .ok (.iload 5, 2) := by decide +kernel
theorem dX1_goOn_148 : decode cX1_goOn 148 = .ok (.invokevirtual 239, 3) := by decide +kernel
theorem dX1_goOn_151 : decode cX1_goOn 151 = .ok (.goto 51, 3) := by decide +kernel
theorem dX1_goOn_154 : decode cX1_goOn 154 = .ok (.aload_n 0, 1) := by decide +kernel
theorem dX1_goOn_155 : decode cX1_goOn 155 = .ok (.aload_n 2, 1) := by decide +kernel
theorem dX1_goOn_156 : decode cX1_goOn 156 = .ok (.iconst 5, 1) := by decide +kernel
theorem dX1_goOn_157 : decode cX1_goOn 157 = .ok (.invokevirtual 182, 3) := by decide +kernel
theorem dX1_goOn_160 : decode cX1_goOn 160 = .ok (.iconst 0, 1) := by decide +kernel
theorem dX1_goOn_161 : decode cX1_goOn 161 = .ok (.istore 6, 2) := by decide +kernel
theorem dX1_goOn_163 : decode cX1_goOn 163 = .ok (.goto 39, 3) := by decide +kernel
theorem dX1_goOn_166 : decode cX1_goOn 166 = .ok (.aload_n 0, 1) := by decide +kernel
theorem dX1_goOn_167 : decode cX1_goOn 167 = .ok (.aload_n 2, 1) := by decide +kernel
theorem dX1_goOn_168 : decode cX1_goOn 168 = .ok (.invokevirtual 242, 3) := by decide +kernel
theorem dX1_goOn_171 : decode cX1_goOn 171 = .ok (.pop, 1) := by decide +kernel
theorem dX1_goOn_172 : decode cX1_goOn 172 = .ok (.goto 30, 3) := by decide +kernel
theorem dX1_goOn_175 : decode cX1_goOn 175 = .ok (.aload_n 0, 1) := by decide +kernel
theorem dX1_goOn_176 : decode cX1_goOn 176 = .ok (.iload_n 1, 1) := by decide +kernel
theorem dX1_goOn_177 : decode cX1_goOn 177 = .ok (.aload_n 2, 1) := by decide +kernel
theorem dX1_goOn_178 : decode cX1_goOn 178 = .ok (.iload 5, 2) := by decide +kernel
theorem dX1_goOn_180 : decode cX1_goOn 180 = .ok (.invokevirtual 246, 3) := by decide +kernel
theorem dX1_goOn_183 : decode cX1_goOn 183 = .ok (.istore 6, 2) := by decide +kernel
theorem dX1_goOn_185 : decode cX1_goOn 185 = .ok (.goto 17, 3) := by decide +kernel
theorem dX1_goOn_188 : decode cX1_goOn 188 = .ok (.aload_n 0, 1) := by decide +kernel
theorem dX1_goOn_189 : decode cX1_goOn 189 = .ok (.iload 5, 2) := by decide +kernel
theorem dX1_goOn_191 : decode cX1_goOn 191 = .ok (.aload_n 2, 1) := by decide +kernel
theorem dX1_goOn_192 : decode cX1_goOn 192 = .ok (.getfield 249, 3) := by decide +kernel
theorem dX1_goOn_195 : decode cX1_goOn 195 = .ok (.invokevirtual 252, 3) := by decide +kernel
theorem dX1_goOn_198 : decode cX1_goOn 198 = .ok (.pop, 1) := by decide +kernel
theorem dX1_goOn_199 : decode cX1_goOn 199 = .ok (.goto 3, 3) := by decide +kernel
theorem dX1_goOn_202 : decode cX1_goOn 202 = .ok (.iload 6, 2) := by decide +kernel
theorem dX1_goOn_204 : decode cX1_goOn 204 = .ok (.ifCond .eq 12, 3) := by decide +kernel
theorem dX1_goOn_207 : decode cX1_goOn 207 = .ok (.aload_n 0, 1) := by decide +kernel
theorem dX1_goOn_208 : decode cX1_goOn 208 = .ok (.aload_n 2, 1) := by decide +kernel
theorem dX1_goOn_209 : decode cX1_goOn 209 = .ok (.aload_n 3, 1) := by decide +kernel
theorem dX1_goOn_210 : decode cX1_goOn 210 = .ok (.getfield 224, 3) := by decide +kernel
theorem dX1_goOn_213 : decode cX1_goOn 213 = .ok (.invokevirtual 255, 3) := by decide +kernel
theorem dX1_goOn_216 : decode cX1_goOn 216 = .ok (.iload 4, 2) := by decide +kernel
theorem dX1_goOn_218 : decode cX1_goOn 218 = .ok (.ifCond .eq 7, 3) := by decide +kernel
theorem dX1_goOn_221 : decode cX1_goOn 221 = .ok (.iconst 1, 1) := by decide +kernel
theorem dX1_goOn_222 : decode cX1_goOn 222 = .ok (.goto 4, 3) := by decide +kernel
theorem dX1_goOn_225 : decode cX1_goOn 225 = .ok (.iconst 0, 1) := by decide +kernel
theorem dX1_goOn_226 : decode cX1_goOn 226 = .ok (.ireturn, 1) := by decide +kernel
set_option maxRecDepth 20000 in
theorem ggX1_advance_X1_end : GoodIn wsX1_advance wsX1_end := goodIn_r _ [9, 10, 11, 12, 13, 14, 15, 16, 17, 18, 19, 20, 21, 22, 8, 23, 24, 25, 26, 27, 28, 29, 30, 31, 32, 33, 34, 35, 36, 37, 38, 39, 40, 41, 42, 43, 44, 45, 46, 47, 48, 49, 50, 51, 52, 53, 54, 55, 56, 57, 58, 59, 60, 61, 62, 63, 64, 65, 66, 67, 68, 69, 70, 71, 72, 73, 74, 75, 76, 77, 78, 79, 80, 81, 82, 83, 84, 85] (by decide +kernel) (by decide +kernel)
set_option maxRecDepth 20000 in
theorem gX1_advance_X1_end : GoodIn wsX1_advance (wsV RX1 182 RX1 yX1_end wsX1_end) := goodIn_app (goodIn_of _ (by decide +kernel)) ggX1_advance_X1_end
theorem dX1_advance_0 : decode cX1_advance 0 = .ok (.aload_n 1, 1) := by decide +kernel
theorem dX1_advance_1 : decode cX1_advance 1 = .ok (.aload_n 1, 1) := by decide +kernel
theorem dX1_advance_2 : decode cX1_advance 2 = .ok (.getfield 171, 3) := by decide +kernel
theorem dX1_advance_5 : decode cX1_advance 5 = .ok (.iconst 1, 1) := by decide +kernel
theorem dX1_advance_6 : decode cX1_advance 6 = .ok (.iadd, 1) := by decide +kernel
theorem dX1_advance_7 : decode cX1_advance 7 = .ok (.iload_n 2, 1) := by decide +kernel
theorem dX1_advance_8 : decode cX1_advance 8 = .ok (.invokestatic 258, 3) := by decide +kernel
theorem dX1_advance_11 : decode cX1_advance 11 = .ok (.putfield 171, 3) := by decide +kernel
theorem dX1_advance_14 : decode cX1_advance 14 = .ok (.aload_n 1, 1) := by decide +kernel
theorem dX1_advance_15 : decode cX1_advance 15 = .ok (.iconst 0, 1) := by decide +kernel
theorem dX1_advance_16 : decode cX1_advance 16 = .ok (.putfield 264, 3) := by decide +kernel
theorem dX1_advance_19 : decode cX1_advance 19 = .ok (.aload_n 1, 1) := by decide +kernel
theorem dX1_advance_20 : decode cX1_advance 20 = .ok (.getfield 171, 3) := by decide +kernel
theorem dX1_advance_23 : decode cX1_advance 23 = .ok (.iload_n 2, 1) := by decide +kernel
theorem dX1_advance_24 : decode cX1_advance 24 = .ok (.if_icmp .ne 9, 3) := by decide +kernel
theorem dX1_advance_27 : decode cX1_advance 27 = .ok (.aload_n 0, 1) := by decide +kernel
theorem dX1_advance_28 : decode cX1_advance 28 = .ok (.aload_n 1, 1) := by decide +kernel
theorem dX1_advance_29 : decode cX1_advance 29 = .ok (.iconst 4, 1) := by decide +kernel
theorem dX1_advance_30 : decode cX1_advance 30 = .ok (.invokevirtual 182, 3) := by decide +kernel
theorem dX1_advance_33 : decode cX1_advance 33 = .ok (.return_, 1) := by decide +kernel
set_option maxRecDepth 20000 in
theorem ggX1_work_X1_workerAt : GoodIn wsX1_work wsX1_workerAt := goodIn_r _ [6, 7, 8, 25, 26, 27, 28, 29, 30, 31, 32, 33, 34, 35, 36] (by decide +kernel) (by decide +kernel)
set_option maxRecDepth 20000 in
theorem gX1_work_X1_workerAt : GoodIn wsX1_work (wsV RX1 90 RX1 yX1_workerAt wsX1_workerAt) := goodIn_app (goodIn_of _ (by decide +kernel)) ggX1_work_X1_workerAt
set_option maxRecDepth 20000 in
theorem ggX1_work_X5_noteRan : GoodIn wsX1_work wsX5_noteRan := goodIn_r _ [13, 14, 15, 16, 17, 18, 19, 20, 21, 22, 23, 24] (by decide +kernel) (by decide +kernel)
set_option maxRecDepth 20000 in
theorem gX1_work_X5_noteRan : GoodIn wsX1_work (wsV RX1 186 RX5 yX5_noteRan wsX5_noteRan) := goodIn_app (goodIn_of _ (by decide +kernel)) ggX1_work_X5_noteRan
theorem dX1_work_0 : decode cX1_work 0 = .ok (.aload_n 0, 1) := by decide +kernel
theorem dX1_work_1 : decode cX1_work 1 = .ok (.iload_n 1, 1) := by decide +kernel
theorem dX1_work_2 : decode cX1_work 2 = .ok (.invokevirtual 90, 3) := by decide +kernel
theorem dX1_work_5 : decode cX1_work 5 = .ok (.astore 4, 2) := by decide +kernel
theorem dX1_work_7 : decode cX1_work 7 = .ok (.aload 4, 2) := by decide +kernel
theorem dX1_work_9 : decode cX1_work 9 = .ok (.dup, 1) := by decide +kernel
theorem dX1_work_10 : decode cX1_work 10 = .ok (.getfield 267, 3) := by decide +kernel
theorem dX1_work_13 : decode cX1_work 13 = .ok (.iconst 1, 1) := by decide +kernel
theorem dX1_work_14 : decode cX1_work 14 = .ok (.iadd, 1) := by decide +kernel
theorem dX1_work_15 : decode cX1_work 15 = .ok (.putfield 267, 3) := by decide +kernel
theorem dX1_work_18 : decode cX1_work 18 = .ok (.aload 4, 2) := by decide +kernel
theorem dX1_work_20 : decode cX1_work 20 = .ok (.aload_n 0, 1) := by decide +kernel
theorem dX1_work_21 : decode cX1_work 21 = .ok (.getfield 77, 3) := by decide +kernel
theorem dX1_work_24 : decode cX1_work 24 = .ok (.aload_n 2, 1) := by decide +kernel
theorem dX1_work_25 : decode cX1_work 25 = .ok (.getfield 159, 3) := by decide +kernel
theorem dX1_work_28 : decode cX1_work 28 = .ok (.invokevirtual 186, 3) := by decide +kernel
theorem dX1_work_31 : decode cX1_work 31 = .ok (.aload_n 2, 1) := by decide +kernel
theorem dX1_work_32 : decode cX1_work 32 = .ok (.dup, 1) := by decide +kernel
theorem dX1_work_33 : decode cX1_work 33 = .ok (.getfield 123, 3) := by decide +kernel
theorem dX1_work_36 : decode cX1_work 36 = .ok (.iconst 1, 1) := by decide +kernel
theorem dX1_work_37 : decode cX1_work 37 = .ok (.iadd, 1) := by decide +kernel
theorem dX1_work_38 : decode cX1_work 38 = .ok (.putfield 123, 3) := by decide +kernel
theorem dX1_work_41 : decode cX1_work 41 = .ok (.aload_n 2, 1) := by decide +kernel
theorem dX1_work_42 : decode cX1_work 42 = .ok (.dup, 1) := by decide +kernel
theorem dX1_work_43 : decode cX1_work 43 = .ok (.getfield 264, 3) := by decide +kernel
theorem dX1_work_46 : decode cX1_work 46 = .ok (.iconst 1, 1) := by decide +kernel
theorem dX1_work_47 : decode cX1_work 47 = .ok (.iadd, 1) := by decide +kernel
theorem dX1_work_48 : decode cX1_work 48 = .ok (.putfield 264, 3) := by decide +kernel
theorem dX1_work_51 : decode cX1_work 51 = .ok (.aload_n 2, 1) := by decide +kernel
theorem dX1_work_52 : decode cX1_work 52 = .ok (.getfield 264, 3) := by decide +kernel
theorem dX1_work_55 : decode cX1_work 55 = .ok (.iload_n 3, 1) := by decide +kernel
theorem dX1_work_56 : decode cX1_work 56 = .ok (.if_icmp .lt 7, 3) := by decide +kernel
theorem dX1_work_59 : decode cX1_work 59 = .ok (.iconst 1, 1) := by decide +kernel
theorem dX1_work_60 : decode cX1_work 60 = .ok (.goto 4, 3) := by decide +kernel
theorem dX1_work_63 : decode cX1_work 63 = .ok (.iconst 0, 1) := by decide +kernel
theorem dX1_work_64 : decode cX1_work 64 = .ok (.ireturn, 1) := by decide +kernel
set_option maxRecDepth 20000 in
theorem ggX1_fork_X1_newTask : GoodIn wsX1_fork wsX1_newTask := goodIn_r _ [6, 1, 7, 8, 9, 5, 10, 11, 12, 13, 14, 15, 16, 17, 18, 19, 20, 21, 22, 23, 24, 25, 26, 27, 46, 47, 48, 49, 50, 51, 52, 53, 54, 55, 56, 57, 58, 59, 60, 61, 62, 63, 64, 65, 66, 67, 68] (by decide +kernel) (by decide +kernel)
set_option maxRecDepth 20000 in
theorem gX1_fork_X1_newTask : GoodIn wsX1_fork (wsV RX1 155 RX1 yX1_newTask wsX1_newTask) := goodIn_app (goodIn_of _ (by decide +kernel)) ggX1_fork_X1_newTask
set_option maxRecDepth 20000 in
theorem ggX1_fork_X1_rowOf : GoodIn wsX1_fork wsX1_rowOf := goodIn_r _ [31, 32, 33, 34, 35, 5, 36, 37, 38, 46, 47, 48, 49, 50, 51, 52, 53, 54, 55, 56, 57, 69, 70, 71, 72, 73, 74] (by decide +kernel) (by decide +kernel)
set_option maxRecDepth 20000 in
theorem gX1_fork_X1_rowOf : GoodIn wsX1_fork (wsV RX1 205 RX1 yX1_rowOf wsX1_rowOf) := goodIn_app (goodIn_of _ (by decide +kernel)) ggX1_fork_X1_rowOf
set_option maxRecDepth 20000 in
theorem ggX1_fork_X2_append : GoodIn wsX1_fork wsX2_append := goodIn_r _ [43, 44, 45, 75, 76] (by decide +kernel) (by decide +kernel)
set_option maxRecDepth 20000 in
theorem gX1_fork_X2_append : GoodIn wsX1_fork (wsV RX1 162 RX2 yX2_append wsX2_append) := goodIn_app (goodIn_of _ (by decide +kernel)) ggX1_fork_X2_append
theorem dX1_fork_0 : decode cX1_fork 0 = .ok (.aload_n 0, 1) := by decide +kernel
theorem dX1_fork_1 : decode cX1_fork 1 = .ok (.getfield 53, 3) := by decide +kernel
theorem dX1_fork_4 : decode cX1_fork 4 = .ok (.bipush 24, 2) := by decide +kernel
theorem dX1_fork_6 : decode cX1_fork 6 = .ok (.if_icmp .lt 4, 3) := by decide +kernel
theorem dX1_fork_9 : decode cX1_fork 9 = .ok (.return_, 1) := by decide +kernel
theorem dX1_fork_10 : decode cX1_fork 10 = .ok (.aload_n 0, 1) := by decide +kernel
theorem dX1_fork_11 : decode cX1_fork 11 = .ok (.iload_n 3, 1) := by decide +kernel
theorem dX1_fork_12 : decode cX1_fork 12 = .ok (.aload_n 2, 1) := by decide +kernel
theorem dX1_fork_13 : decode cX1_fork 13 = .ok (.getfield 159, 3) := by decide +kernel
theorem dX1_fork_16 : decode cX1_fork 16 = .ok (.invokevirtual 155, 3) := by decide +kernel
theorem dX1_fork_19 : decode cX1_fork 19 = .ok (.astore 4, 2) := by decide +kernel
theorem dX1_fork_21 : decode cX1_fork 21 = .ok (.aload_n 2, 1) := by decide +kernel
theorem dX1_fork_22 : decode cX1_fork 22 = .ok (.dup, 1) := by decide +kernel
theorem dX1_fork_23 : decode cX1_fork 23 = .ok (.getfield 270, 3) := by decide +kernel
theorem dX1_fork_26 : decode cX1_fork 26 = .ok (.iconst 1, 1) := by decide +kernel
theorem dX1_fork_27 : decode cX1_fork 27 = .ok (.aload 4, 2) := by decide +kernel
theorem dX1_fork_29 : decode cX1_fork 29 = .ok (.getfield 159, 3) := by decide +kernel
theorem dX1_fork_32 : decode cX1_fork 32 = .ok (.ishl, 1) := by decide +kernel
theorem dX1_fork_33 : decode cX1_fork 33 = .ok (.ior, 1) := by decide +kernel
theorem dX1_fork_34 : decode cX1_fork 34 = .ok (.putfield 270, 3) := by decide +kernel
theorem dX1_fork_37 : decode cX1_fork 37 = .ok (.aload_n 0, 1) := by decide +kernel
theorem dX1_fork_38 : decode cX1_fork 38 = .ok (.iload_n 1, 1) := by decide +kernel
theorem dX1_fork_39 : decode cX1_fork 39 = .ok (.invokevirtual 205, 3) := by decide +kernel
theorem dX1_fork_42 : decode cX1_fork 42 = .ok (.aload 4, 2) := by decide +kernel
theorem dX1_fork_44 : decode cX1_fork 44 = .ok (.getfield 159, 3) := by decide +kernel
theorem dX1_fork_47 : decode cX1_fork 47 = .ok (.invokevirtual 162, 3) := by decide +kernel
theorem dX1_fork_50 : decode cX1_fork 50 = .ok (.return_, 1) := by decide +kernel
set_option maxRecDepth 20000 in
theorem ggX1_newTask_X1_taskAt : GoodIn wsX1_newTask wsX1_taskAt := goodIn_r _ [6, 7, 8, 24, 25, 26, 27, 28, 29, 30, 31, 32, 33, 34, 35] (by decide +kernel) (by decide +kernel)
set_option maxRecDepth 20000 in
theorem gX1_newTask_X1_taskAt : GoodIn wsX1_newTask (wsV RX1 97 RX1 yX1_taskAt wsX1_taskAt) := goodIn_app (goodIn_of _ (by decide +kernel)) ggX1_newTask_X1_taskAt
set_option maxRecDepth 20000 in
theorem ggX1_newTask_X4_begin : GoodIn wsX1_newTask wsX4_begin := goodIn_r _ [13, 14, 15, 16, 17, 18, 19, 20, 21, 22, 23, 36, 37, 38, 39, 40, 41, 42, 43, 44, 45, 46] (by decide +kernel) (by decide +kernel)
set_option maxRecDepth 20000 in
theorem gX1_newTask_X4_begin : GoodIn wsX1_newTask (wsV RX1 273 RX4 yX4_begin wsX4_begin) := goodIn_app (goodIn_of _ (by decide +kernel)) ggX1_newTask_X4_begin
theorem dX1_newTask_0 : decode cX1_newTask 0 = .ok (.aload_n 0, 1) := by decide +kernel
theorem dX1_newTask_1 : decode cX1_newTask 1 = .ok (.aload_n 0, 1) := by decide +kernel
theorem dX1_newTask_2 : decode cX1_newTask 2 = .ok (.getfield 53, 3) := by decide +kernel
theorem dX1_newTask_5 : decode cX1_newTask 5 = .ok (.invokevirtual 97, 3) := by decide +kernel
theorem dX1_newTask_8 : decode cX1_newTask 8 = .ok (.astore_n 3, 1) := by decide +kernel
theorem dX1_newTask_9 : decode cX1_newTask 9 = .ok (.aload_n 0, 1) := by decide +kernel
theorem dX1_newTask_10 : decode cX1_newTask 10 = .ok (.dup, 1) := by decide +kernel
theorem dX1_newTask_11 : decode cX1_newTask 11 = .ok (.getfield 53, 3) := by decide +kernel
theorem dX1_newTask_14 : decode cX1_newTask 14 = .ok (.iconst 1, 1) := by decide +kernel
theorem dX1_newTask_15 : decode cX1_newTask 15 = .ok (.iadd, 1) := by decide +kernel
theorem dX1_newTask_16 : decode cX1_newTask 16 = .ok (.putfield 53, 3) := by decide +kernel
theorem dX1_newTask_19 : decode cX1_newTask 19 = .ok (.aload_n 3, 1) := by decide +kernel
theorem dX1_newTask_20 : decode cX1_newTask 20 = .ok (.iload_n 1, 1) := by decide +kernel
theorem dX1_newTask_21 : decode cX1_newTask 21 = .ok (.iload_n 2, 1) := by decide +kernel
theorem dX1_newTask_22 : decode cX1_newTask 22 = .ok (.invokevirtual 273, 3) := by decide +kernel
theorem dX1_newTask_25 : decode cX1_newTask 25 = .ok (.aload_n 3, 1) := by decide +kernel
theorem dX1_newTask_26 : decode cX1_newTask 26 = .ok (.areturn, 1) := by decide +kernel
set_option maxRecDepth 20000 in
theorem ggX1_join_X4_lastChild : GoodIn wsX1_join wsX4_lastChild := goodIn_r _ [5, 6, 7, 8, 9, 10, 11, 75, 76, 77, 78, 79, 80, 81, 82, 83, 84, 85] (by decide +kernel) (by decide +kernel)
set_option maxRecDepth 20000 in
theorem gX1_join_X4_lastChild : GoodIn wsX1_join (wsV RX1 275 RX4 yX4_lastChild wsX4_lastChild) := goodIn_app (goodIn_of _ (by decide +kernel)) ggX1_join_X4_lastChild
set_option maxRecDepth 20000 in
theorem ggX1_join_X1_taskAt : GoodIn wsX1_join wsX1_taskAt := goodIn_r _ [16, 17, 18, 86, 87, 88, 89, 90, 91, 92, 93, 94, 95, 96, 97] (by decide +kernel) (by decide +kernel)
set_option maxRecDepth 20000 in
theorem gX1_join_X1_taskAt : GoodIn wsX1_join (wsV RX1 97 RX1 yX1_taskAt wsX1_taskAt) := goodIn_app (goodIn_of _ (by decide +kernel)) ggX1_join_X1_taskAt
set_option maxRecDepth 20000 in
theorem ggX1_join_X4_isOver : GoodIn wsX1_join wsX4_isOver := goodIn_r _ [22, 23, 75, 76, 77, 78, 79, 80, 81, 82, 83, 84, 85] (by decide +kernel) (by decide +kernel)
set_option maxRecDepth 20000 in
theorem gX1_join_X4_isOver : GoodIn wsX1_join (wsV RX1 120 RX4 yX4_isOver wsX4_isOver) := goodIn_app (goodIn_of _ (by decide +kernel)) ggX1_join_X4_isOver
set_option maxRecDepth 20000 in
theorem ggX1_join_X1_block : GoodIn wsX1_join wsX1_block := goodIn_r _ [27, 28, 29, 30, 31, 15, 32, 33, 34, 35, 36, 37, 38, 39, 40, 41, 75, 76, 77, 78, 79, 80, 81, 82, 83, 84, 85, 86, 87, 88, 89, 90, 91, 92, 93, 94, 95, 96, 97, 98, 99, 100, 101, 102, 103, 104, 105] (by decide +kernel) (by decide +kernel)
set_option maxRecDepth 20000 in
theorem gX1_join_X1_block : GoodIn wsX1_join (wsV RX1 278 RX1 yX1_block wsX1_block) := goodIn_app (goodIn_of _ (by decide +kernel)) ggX1_join_X1_block
set_option maxRecDepth 20000 in
theorem ggX1_join_X4_addValue : GoodIn wsX1_join wsX4_addValue := goodIn_r _ [45, 46, 47, 48, 49, 50, 51, 52, 53, 54, 55, 75, 76, 77, 78, 79, 80, 81, 82, 83, 84, 85] (by decide +kernel) (by decide +kernel)
set_option maxRecDepth 20000 in
theorem gX1_join_X4_addValue : GoodIn wsX1_join (wsV RX1 239 RX4 yX4_addValue wsX4_addValue) := goodIn_app (goodIn_of _ (by decide +kernel)) ggX1_join_X4_addValue
set_option maxRecDepth 20000 in
theorem ggX1_join_X1_end : GoodIn wsX1_join wsX1_end := goodIn_r _ [59, 60, 61, 62, 35, 36, 37, 38, 39, 40, 41, 29, 30, 31, 15, 32, 33, 34, 12, 13, 14, 16, 17, 18, 1, 2, 3, 4, 5, 6, 7, 8, 9, 10, 11, 63, 64, 65, 66, 67, 68, 69, 70, 71, 72, 73, 74, 75, 76, 77, 78, 79, 80, 81, 82, 83, 84, 85, 86, 87, 88, 89, 90, 91, 92, 93, 94, 95, 96, 97, 98, 99, 100, 101, 102, 103, 104, 105] (by decide +kernel) (by decide +kernel)
set_option maxRecDepth 20000 in
theorem gX1_join_X1_end : GoodIn wsX1_join (wsV RX1 182 RX1 yX1_end wsX1_end) := goodIn_app (goodIn_of _ (by decide +kernel)) ggX1_join_X1_end
theorem dX1_join_0 : decode cX1_join 0 = .ok (.iload_n 3, 1) := by decide +kernel
theorem dX1_join_1 : decode cX1_join 1 = .ok (.iconst 3, 1) := by decide +kernel
theorem dX1_join_2 : decode cX1_join 2 = .ok (.if_icmp .ne 8, 3) := by decide +kernel
theorem dX1_join_5 : decode cX1_join 5 = .ok (.bipush 24, 2) := by decide +kernel
theorem dX1_join_7 : decode cX1_join 7 = .ok (.goto 4, 3) := by decide +kernel
theorem dX1_join_10 : decode cX1_join 10 = .ok (.iconst 1, 1) := by decide +kernel
theorem dX1_join_11 : decode cX1_join 11 = .ok (.istore 4, 2) := by decide +kernel
theorem dX1_join_13 : decode cX1_join 13 = .ok (.iconst 0, 1) := by decide +kernel
theorem dX1_join_14 : decode cX1_join 14 = .ok (.istore 5, 2) := by decide +kernel
theorem dX1_join_16 : decode cX1_join 16 = .ok (.iload 5, 2) := by decide +kernel
theorem dX1_join_18 : decode cX1_join 18 = .ok (.iload 4, 2) := by decide +kernel
theorem dX1_join_20 : decode cX1_join 20 = .ok (.if_icmp .ge 104, 3) := by decide +kernel
theorem dX1_join_23 : decode cX1_join 23 = .ok (.aload_n 2, 1) := by decide +kernel
theorem dX1_join_24 : decode cX1_join 24 = .ok (.getfield 270, 3) := by decide +kernel
theorem dX1_join_27 : decode cX1_join 27 = .ok (.ifCond .eq 97, 3) := by decide +kernel
theorem dX1_join_30 : decode cX1_join 30 = .ok (.aload_n 0, 1) := by decide +kernel
theorem dX1_join_31 : decode cX1_join 31 = .ok (.aload_n 2, 1) := by decide +kernel
theorem dX1_join_32 : decode cX1_join 32 = .ok (.invokevirtual 275, 3) := by decide +kernel
theorem dX1_join_35 : decode cX1_join 35 = .ok (.invokevirtual 97, 3) := by decide +kernel
theorem dX1_join_38 : decode cX1_join 38 = .ok (.astore 6, 2) := by decide +kernel
theorem dX1_join_40 : decode cX1_join 40 = .ok (.aload 6, 2) := by decide +kernel
theorem dX1_join_42 : decode cX1_join 42 = .ok (.invokevirtual 120, 3) := by decide +kernel
theorem dX1_join_45 : decode cX1_join 45 = .ok (.ifCond .ne 12, 3) := by decide +kernel
theorem dX1_join_48 : decode cX1_join 48 = .ok (.aload_n 0, 1) := by decide +kernel
theorem dX1_join_49 : decode cX1_join 49 = .ok (.iload_n 1, 1) := by decide +kernel
theorem dX1_join_50 : decode cX1_join 50 = .ok (.aload_n 2, 1) := by decide +kernel
theorem dX1_join_51 : decode cX1_join 51 = .ok (.iconst 2, 1) := by decide +kernel
theorem dX1_join_52 : decode cX1_join 52 = .ok (.invokevirtual 278, 3) := by decide +kernel
theorem dX1_join_55 : decode cX1_join 55 = .ok (.iconst 0, 1) := by decide +kernel
theorem dX1_join_56 : decode cX1_join 56 = .ok (.ireturn, 1) := by decide +kernel
theorem dX1_join_57 : decode cX1_join 57 = .ok (.aload_n 2, 1) := by decide +kernel
theorem dX1_join_58 : decode cX1_join 58 = .ok (.dup, 1) := by decide +kernel
theorem dX1_join_59 : decode cX1_join 59 = .ok (.getfield 270, 3) := by decide +kernel
theorem dX1_join_62 : decode cX1_join 62 = .ok (.iconst 1, 1) := by decide +kernel
theorem dX1_join_63 : decode cX1_join 63 = .ok (.aload 6, 2) := by decide +kernel
theorem dX1_join_65 : decode cX1_join 65 = .ok (.getfield 159, 3) := by decide +kernel
theorem dX1_join_68 : decode cX1_join 68 = .ok (.ishl, 1) := by decide +kernel
theorem dX1_join_69 : decode cX1_join 69 = .ok (.iconst (-1), 1) := by decide +kernel
theorem dX1_join_70 : decode cX1_join 70 = .ok (.ixor, 1) := by decide +kernel
theorem dX1_join_71 : decode cX1_join 71 = .ok (.iand, 1) := by decide +kernel
theorem dX1_join_72 : decode cX1_join 72 = .ok (.putfield 270, 3) := by decide +kernel
theorem dX1_join_75 : decode cX1_join 75 = .ok (.aload 6, 2) := by decide +kernel
theorem dX1_join_77 : decode cX1_join 77 = .ok (.getfield 104, 3) := by decide +kernel
theorem dX1_join_80 : decode cX1_join 80 = .ok (.iconst 4, 1) := by decide +kernel
theorem dX1_join_81 : decode cX1_join 81 = .ok (.if_icmp .ne 15, 3) := by decide +kernel
theorem dX1_join_84 : decode cX1_join 84 = .ok (.aload_n 2, 1) := by decide +kernel
theorem dX1_join_85 : decode cX1_join 85 = .ok (.aload 6, 2) := by decide +kernel
theorem dX1_join_87 : decode cX1_join 87 = .ok (.getfield 249, 3) := by decide +kernel
theorem dX1_join_90 : decode cX1_join 90 = .ok (.invokevirtual 239, 3) := by decide +kernel
theorem dX1_join_93 : decode cX1_join 93 = .ok (.goto 25, 3) := by decide +kernel
theorem dX1_join_96 : decode cX1_join 96 = .ok (.aload 6, 2) := by decide +kernel
theorem dX1_join_98 : decode cX1_join 98 = .ok (.getfield 104, 3) := by decide +kernel
theorem dX1_join_101 : decode cX1_join 101 = .ok (.iconst 5, 1) := by decide +kernel
theorem dX1_join_102 : decode cX1_join 102 = .ok (.if_icmp .ne 16, 3) := by decide +kernel
theorem dX1_join_105 : decode cX1_join 105 = .ok (.iload_n 3, 1) := by decide +kernel
theorem dX1_join_106 : decode cX1_join 106 = .ok (.iconst 4, 1) := by decide +kernel
theorem dX1_join_107 : decode cX1_join 107 = .ok (.if_icmp .eq 11, 3) := by decide +kernel
theorem dX1_join_110 : decode cX1_join 110 = .ok (.aload_n 0, 1) := by decide +kernel
theorem dX1_join_111 : decode cX1_join 111 = .ok (.aload_n 2, 1) := by decide +kernel
theorem dX1_join_112 : decode cX1_join 112 = .ok (.iconst 5, 1) := by decide +kernel
theorem dX1_join_113 : decode cX1_join 113 = .ok (.invokevirtual 182, 3) := by decide +kernel
theorem dX1_join_116 : decode cX1_join 116 = .ok (.iconst 0, 1) := by decide +kernel
theorem dX1_join_117 : decode cX1_join 117 = .ok (.ireturn, 1) := by decide +kernel
theorem dX1_join_118 : decode cX1_join 118 = .ok (.iinc 5 1, 3) := by decide +kernel
theorem dX1_join_121 : decode cX1_join 121 = .ok (.goto (-105), 3) := by decide +kernel
theorem dX1_join_124 : decode cX1_join 124 = .ok (.iconst 1, 1) := by decide +kernel
theorem dX1_join_125 : decode cX1_join 125 = .ok (.ireturn, 1) := by decide +kernel
set_option maxRecDepth 20000 in
theorem ggX1_await_X1_promiseAt : GoodIn wsX1_await wsX1_promiseAt := goodIn_r _ [6, 7, 1, 41, 42, 43, 44, 45, 46, 47, 48, 49, 50, 51, 52] (by decide +kernel) (by decide +kernel)
set_option maxRecDepth 20000 in
theorem gX1_await_X1_promiseAt : GoodIn wsX1_await (wsV RX1 281 RX1 yX1_promiseAt wsX1_promiseAt) := goodIn_app (goodIn_of _ (by decide +kernel)) ggX1_await_X1_promiseAt
set_option maxRecDepth 20000 in
theorem ggX1_await_X1_block : GoodIn wsX1_await wsX1_block := goodIn_r _ [11, 12, 13, 14, 15, 5, 16, 17, 18, 19, 20, 21, 22, 23, 24, 25, 53, 54, 55, 56, 57, 58, 59, 60, 61, 62, 63, 41, 42, 43, 44, 45, 46, 47, 48, 49, 50, 51, 52, 64, 65, 66, 67, 68, 69, 70, 71] (by decide +kernel) (by decide +kernel)
set_option maxRecDepth 20000 in
theorem gX1_await_X1_block : GoodIn wsX1_await (wsV RX1 278 RX1 yX1_block wsX1_block) := goodIn_app (goodIn_of _ (by decide +kernel)) ggX1_await_X1_block
set_option maxRecDepth 20000 in
theorem ggX1_await_X4_addValue : GoodIn wsX1_await wsX4_addValue := goodIn_r _ [30, 31, 32, 33, 34, 35, 36, 37, 38, 39, 40, 53, 54, 55, 56, 57, 58, 59, 60, 61, 62, 63] (by decide +kernel) (by decide +kernel)
set_option maxRecDepth 20000 in
theorem gX1_await_X4_addValue : GoodIn wsX1_await (wsV RX1 239 RX4 yX4_addValue wsX4_addValue) := goodIn_app (goodIn_of _ (by decide +kernel)) ggX1_await_X4_addValue
theorem dX1_await_0 : decode cX1_await 0 = .ok (.aload_n 0, 1) := by decide +kernel
theorem dX1_await_1 : decode cX1_await 1 = .ok (.iload_n 3, 1) := by decide +kernel
theorem dX1_await_2 : decode cX1_await 2 = .ok (.invokevirtual 281, 3) := by decide +kernel
theorem dX1_await_5 : decode cX1_await 5 = .ok (.istore 4, 2) := by decide +kernel
theorem dX1_await_7 : decode cX1_await 7 = .ok (.iload 4, 2) := by decide +kernel
theorem dX1_await_9 : decode cX1_await 9 = .ok (.ldc 64, 2) := by decide +kernel
theorem dX1_await_11 : decode cX1_await 11 = .ok (.if_icmp .ne 12, 3) := by decide +kernel
theorem dX1_await_14 : decode cX1_await 14 = .ok (.aload_n 0, 1) := by decide +kernel
theorem dX1_await_15 : decode cX1_await 15 = .ok (.iload_n 1, 1) := by decide +kernel
theorem dX1_await_16 : decode cX1_await 16 = .ok (.aload_n 2, 1) := by decide +kernel
theorem dX1_await_17 : decode cX1_await 17 = .ok (.iconst 3, 1) := by decide +kernel
theorem dX1_await_18 : decode cX1_await 18 = .ok (.invokevirtual 278, 3) := by decide +kernel
theorem dX1_await_21 : decode cX1_await 21 = .ok (.iconst 0, 1) := by decide +kernel
theorem dX1_await_22 : decode cX1_await 22 = .ok (.ireturn, 1) := by decide +kernel
theorem dX1_await_23 : decode cX1_await 23 = .ok (.aload_n 2, 1) := by decide +kernel
theorem dX1_await_24 : decode cX1_await 24 = .ok (.iload 4, 2) := by decide +kernel
theorem dX1_await_26 : decode cX1_await 26 = .ok (.invokevirtual 239, 3) := by decide +kernel
theorem dX1_await_29 : decode cX1_await 29 = .ok (.iconst 1, 1) := by decide +kernel
theorem dX1_await_30 : decode cX1_await 30 = .ok (.ireturn, 1) := by decide +kernel
set_option maxRecDepth 20000 in
theorem ggX1_block_X1_workerAt : GoodIn wsX1_block wsX1_workerAt := goodIn_r _ [6, 7, 8, 27, 28, 29, 30, 31, 32, 33, 34, 35, 36, 37, 38] (by decide +kernel) (by decide +kernel)
set_option maxRecDepth 20000 in
theorem gX1_block_X1_workerAt : GoodIn wsX1_block (wsV RX1 90 RX1 yX1_workerAt wsX1_workerAt) := goodIn_app (goodIn_of _ (by decide +kernel)) ggX1_block_X1_workerAt
set_option maxRecDepth 20000 in
theorem ggX1_block_X2_remove : GoodIn wsX1_block wsX2_remove := goodIn_r _ [13, 14, 15, 45, 46] (by decide +kernel) (by decide +kernel)
set_option maxRecDepth 20000 in
theorem gX1_block_X2_remove : GoodIn wsX1_block (wsV RX1 212 RX2 yX2_remove wsX2_remove) := goodIn_app (goodIn_of _ (by decide +kernel)) ggX1_block_X2_remove
theorem dX1_block_0 : decode cX1_block 0 = .ok (.aload_n 2, 1) := by decide +kernel
theorem dX1_block_1 : decode cX1_block 1 = .ok (.iload_n 3, 1) := by decide +kernel
theorem dX1_block_2 : decode cX1_block 2 = .ok (.putfield 104, 3) := by decide +kernel
theorem dX1_block_5 : decode cX1_block 5 = .ok (.aload_n 2, 1) := by decide +kernel
theorem dX1_block_6 : decode cX1_block 6 = .ok (.iload_n 1, 1) := by decide +kernel
theorem dX1_block_7 : decode cX1_block 7 = .ok (.putfield 117, 3) := by decide +kernel
theorem dX1_block_10 : decode cX1_block 10 = .ok (.aload_n 0, 1) := by decide +kernel
theorem dX1_block_11 : decode cX1_block 11 = .ok (.getfield 71, 3) := by decide +kernel
theorem dX1_block_14 : decode cX1_block 14 = .ok (.ifCond .ne 18, 3) := by decide +kernel
theorem dX1_block_17 : decode cX1_block 17 = .ok (.aload_n 0, 1) := by decide +kernel
theorem dX1_block_18 : decode cX1_block 18 = .ok (.iload_n 1, 1) := by decide +kernel
theorem dX1_block_19 : decode cX1_block 19 = .ok (.invokevirtual 90, 3) := by decide +kernel
theorem dX1_block_22 : decode cX1_block 22 = .ok (.getfield 107, 3) := by decide +kernel
theorem dX1_block_25 : decode cX1_block 25 = .ok (.aload_n 2, 1) := by decide +kernel
theorem dX1_block_26 : decode cX1_block 26 = .ok (.getfield 159, 3) := by decide +kernel
theorem dX1_block_29 : decode cX1_block 29 = .ok (.invokevirtual 212, 3) := by decide +kernel
theorem dX1_block_32 : decode cX1_block 32 = .ok (.return_, 1) := by decide +kernel
set_option maxRecDepth 20000 in
theorem ggX1_free_X1_workerAt : GoodIn wsX1_free wsX1_workerAt := goodIn_r _ [6, 7, 8, 20, 21, 22, 23, 24, 25, 26, 27, 28, 29, 30, 31] (by decide +kernel) (by decide +kernel)
set_option maxRecDepth 20000 in
theorem gX1_free_X1_workerAt : GoodIn wsX1_free (wsV RX1 90 RX1 yX1_workerAt wsX1_workerAt) := goodIn_app (goodIn_of _ (by decide +kernel)) ggX1_free_X1_workerAt
set_option maxRecDepth 20000 in
theorem ggX1_free_X2_has : GoodIn wsX1_free wsX2_has := goodIn_r _ [13, 14, 15, 49, 50] (by decide +kernel) (by decide +kernel)
set_option maxRecDepth 20000 in
theorem gX1_free_X2_has : GoodIn wsX1_free (wsV RX1 284 RX2 yX2_has wsX2_has) := goodIn_app (goodIn_of _ (by decide +kernel)) ggX1_free_X2_has
set_option maxRecDepth 20000 in
theorem ggX1_free_X2_append : GoodIn wsX1_free wsX2_append := goodIn_r _ [19, 14, 15, 49, 50] (by decide +kernel) (by decide +kernel)
set_option maxRecDepth 20000 in
theorem gX1_free_X2_append : GoodIn wsX1_free (wsV RX1 162 RX2 yX2_append wsX2_append) := goodIn_app (goodIn_of _ (by decide +kernel)) ggX1_free_X2_append
theorem dX1_free_0 : decode cX1_free 0 = .ok (.iconst 0, 1) := by decide +kernel
theorem dX1_free_1 : decode cX1_free 1 = .ok (.istore_n 2, 1) := by decide +kernel
theorem dX1_free_2 : decode cX1_free 2 = .ok (.iload_n 2, 1) := by decide +kernel
theorem dX1_free_3 : decode cX1_free 3 = .ok (.aload_n 0, 1) := by decide +kernel
theorem dX1_free_4 : decode cX1_free 4 = .ok (.getfield 57, 3) := by decide +kernel
theorem dX1_free_7 : decode cX1_free 7 = .ok (.if_icmp .ge 33, 3) := by decide +kernel
theorem dX1_free_10 : decode cX1_free 10 = .ok (.aload_n 0, 1) := by decide +kernel
theorem dX1_free_11 : decode cX1_free 11 = .ok (.iload_n 2, 1) := by decide +kernel
theorem dX1_free_12 : decode cX1_free 12 = .ok (.invokevirtual 90, 3) := by decide +kernel
theorem dX1_free_15 : decode cX1_free 15 = .ok (.getfield 107, 3) := by decide +kernel
theorem dX1_free_18 : decode cX1_free 18 = .ok (.aload_n 1, 1) := by decide +kernel
theorem dX1_free_19 : decode cX1_free 19 = .ok (.getfield 159, 3) := by decide +kernel
theorem dX1_free_22 : decode cX1_free 22 = .ok (.invokevirtual 284, 3) := by decide +kernel
theorem dX1_free_25 : decode cX1_free 25 = .ok (.ifCond .eq 9, 3) := by decide +kernel
theorem dX1_free_28 : decode cX1_free 28 = .ok (.aload_n 1, 1) := by decide +kernel
theorem dX1_free_29 : decode cX1_free 29 = .ok (.iconst 1, 1) := by decide +kernel
theorem dX1_free_30 : decode cX1_free 30 = .ok (.putfield 104, 3) := by decide +kernel
theorem dX1_free_33 : decode cX1_free 33 = .ok (.return_, 1) := by decide +kernel
theorem dX1_free_34 : decode cX1_free 34 = .ok (.iinc 2 1, 3) := by decide +kernel
theorem dX1_free_37 : decode cX1_free 37 = .ok (.goto (-35), 3) := by decide +kernel
theorem dX1_free_40 : decode cX1_free 40 = .ok (.aload_n 1, 1) := by decide +kernel
theorem dX1_free_41 : decode cX1_free 41 = .ok (.iconst 0, 1) := by decide +kernel
theorem dX1_free_42 : decode cX1_free 42 = .ok (.putfield 104, 3) := by decide +kernel
theorem dX1_free_45 : decode cX1_free 45 = .ok (.aload_n 0, 1) := by decide +kernel
theorem dX1_free_46 : decode cX1_free 46 = .ok (.aload_n 1, 1) := by decide +kernel
theorem dX1_free_47 : decode cX1_free 47 = .ok (.getfield 117, 3) := by decide +kernel
theorem dX1_free_50 : decode cX1_free 50 = .ok (.invokevirtual 90, 3) := by decide +kernel
theorem dX1_free_53 : decode cX1_free 53 = .ok (.getfield 94, 3) := by decide +kernel
theorem dX1_free_56 : decode cX1_free 56 = .ok (.aload_n 1, 1) := by decide +kernel
theorem dX1_free_57 : decode cX1_free 57 = .ok (.getfield 159, 3) := by decide +kernel
theorem dX1_free_60 : decode cX1_free 60 = .ok (.invokevirtual 162, 3) := by decide +kernel
theorem dX1_free_63 : decode cX1_free 63 = .ok (.return_, 1) := by decide +kernel
set_option maxRecDepth 20000 in
theorem ggX1_end_X2_remove : GoodIn wsX1_end wsX2_remove := goodIn_r _ [8, 9, 10, 76, 77] (by decide +kernel) (by decide +kernel)
set_option maxRecDepth 20000 in
theorem gX1_end_X2_remove : GoodIn wsX1_end (wsV RX1 212 RX2 yX2_remove wsX2_remove) := goodIn_app (goodIn_of _ (by decide +kernel)) ggX1_end_X2_remove
set_option maxRecDepth 20000 in
theorem ggX1_end_X1_workerAt : GoodIn wsX1_end wsX1_workerAt := goodIn_r _ [15, 16, 17, 58, 59, 60, 61, 62, 63, 64, 65, 66, 67, 68, 69] (by decide +kernel) (by decide +kernel)
set_option maxRecDepth 20000 in
theorem gX1_end_X1_workerAt : GoodIn wsX1_end (wsV RX1 90 RX1 yX1_workerAt wsX1_workerAt) := goodIn_app (goodIn_of _ (by decide +kernel)) ggX1_end_X1_workerAt
set_option maxRecDepth 20000 in
theorem ggX1_end_X1_taskAt : GoodIn wsX1_end wsX1_taskAt := goodIn_r _ [21, 22, 23, 58, 59, 60, 61, 62, 63, 64, 65, 66, 67, 68, 69] (by decide +kernel) (by decide +kernel)
set_option maxRecDepth 20000 in
theorem gX1_end_X1_taskAt : GoodIn wsX1_end (wsV RX1 97 RX1 yX1_taskAt wsX1_taskAt) := goodIn_app (goodIn_of _ (by decide +kernel)) ggX1_end_X1_taskAt
set_option maxRecDepth 20000 in
theorem ggX1_end_X4_lastChild : GoodIn wsX1_end wsX4_lastChild := goodIn_r _ [28, 29, 30, 31, 32, 33, 34, 47, 48, 49, 50, 51, 52, 53, 54, 55, 56, 57] (by decide +kernel) (by decide +kernel)
set_option maxRecDepth 20000 in
theorem gX1_end_X4_lastChild : GoodIn wsX1_end (wsV RX1 275 RX4 yX4_lastChild wsX4_lastChild) := goodIn_app (goodIn_of _ (by decide +kernel)) ggX1_end_X4_lastChild
set_option maxRecDepth 20000 in
theorem ggX1_end_X1_free : GoodIn wsX1_end wsX1_free := goodIn_r _ [38, 3, 11, 12, 13, 14, 15, 16, 17, 39, 40, 41, 7, 42, 9, 10, 43, 44, 45, 46, 58, 59, 60, 61, 62, 63, 64, 65, 66, 67, 68, 69, 70, 71, 72, 73, 74, 75, 47, 48, 49, 50, 51, 52, 53, 54, 55, 56, 57, 76, 77] (by decide +kernel) (by decide +kernel)
set_option maxRecDepth 20000 in
theorem gX1_end_X1_free : GoodIn wsX1_end (wsV RX1 179 RX1 yX1_free wsX1_free) := goodIn_app (goodIn_of _ (by decide +kernel)) ggX1_end_X1_free
theorem dX1_end_0 : decode cX1_end 0 = .ok (.aload_n 1, 1) := by decide +kernel
theorem dX1_end_1 : decode cX1_end 1 = .ok (.iload_n 2, 1) := by decide +kernel
theorem dX1_end_2 : decode cX1_end 2 = .ok (.putfield 104, 3) := by decide +kernel
theorem dX1_end_5 : decode cX1_end 5 = .ok (.aload_n 1, 1) := by decide +kernel
theorem dX1_end_6 : decode cX1_end 6 = .ok (.aload_n 0, 1) := by decide +kernel
theorem dX1_end_7 : decode cX1_end 7 = .ok (.getfield 77, 3) := by decide +kernel
theorem dX1_end_10 : decode cX1_end 10 = .ok (.putfield 287, 3) := by decide +kernel
theorem dX1_end_13 : decode cX1_end 13 = .ok (.aload_n 0, 1) := by decide +kernel
theorem dX1_end_14 : decode cX1_end 14 = .ok (.getfield 38, 3) := by decide +kernel
theorem dX1_end_17 : decode cX1_end 17 = .ok (.aload_n 1, 1) := by decide +kernel
theorem dX1_end_18 : decode cX1_end 18 = .ok (.getfield 159, 3) := by decide +kernel
theorem dX1_end_21 : decode cX1_end 21 = .ok (.invokevirtual 212, 3) := by decide +kernel
theorem dX1_end_24 : decode cX1_end 24 = .ok (.iconst 0, 1) := by decide +kernel
theorem dX1_end_25 : decode cX1_end 25 = .ok (.istore_n 3, 1) := by decide +kernel
theorem dX1_end_26 : decode cX1_end 26 = .ok (.iload_n 3, 1) := by decide +kernel
theorem dX1_end_27 : decode cX1_end 27 = .ok (.aload_n 0, 1) := by decide +kernel
theorem dX1_end_28 : decode cX1_end 28 = .ok (.getfield 57, 3) := by decide +kernel
theorem dX1_end_31 : decode cX1_end 31 = .ok (.if_icmp .ge 40, 3) := by decide +kernel
theorem dX1_end_34 : decode cX1_end 34 = .ok (.aload_n 0, 1) := by decide +kernel
theorem dX1_end_35 : decode cX1_end 35 = .ok (.iload_n 3, 1) := by decide +kernel
theorem dX1_end_36 : decode cX1_end 36 = .ok (.invokevirtual 90, 3) := by decide +kernel
theorem dX1_end_39 : decode cX1_end 39 = .ok (.astore 4, 2) := by decide +kernel
theorem dX1_end_41 : decode cX1_end 41 = .ok (.aload 4, 2) := by decide +kernel
theorem dX1_end_43 : decode cX1_end 43 = .ok (.getfield 94, 3) := by decide +kernel
theorem dX1_end_46 : decode cX1_end 46 = .ok (.aload_n 1, 1) := by decide +kernel
theorem dX1_end_47 : decode cX1_end 47 = .ok (.getfield 159, 3) := by decide +kernel
theorem dX1_end_50 : decode cX1_end 50 = .ok (.invokevirtual 212, 3) := by decide +kernel
theorem dX1_end_53 : decode cX1_end 53 = .ok (.aload 4, 2) := by decide +kernel
theorem dX1_end_55 : decode cX1_end 55 = .ok (.getfield 107, 3) := by decide +kernel
theorem dX1_end_58 : decode cX1_end 58 = .ok (.aload_n 1, 1) := by decide +kernel
theorem dX1_end_59 : decode cX1_end 59 = .ok (.getfield 159, 3) := by decide +kernel
theorem dX1_end_62 : decode cX1_end 62 = .ok (.invokevirtual 212, 3) := by decide +kernel
theorem dX1_end_65 : decode cX1_end 65 = .ok (.iinc 3 1, 3) := by decide +kernel
theorem dX1_end_68 : decode cX1_end 68 = .ok (.goto (-42), 3) := by decide +kernel
theorem dX1_end_71 : decode cX1_end 71 = .ok (.aload_n 0, 1) := by decide +kernel
theorem dX1_end_72 : decode cX1_end 72 = .ok (.aload_n 1, 1) := by decide +kernel
theorem dX1_end_73 : decode cX1_end 73 = .ok (.getfield 126, 3) := by decide +kernel
theorem dX1_end_76 : decode cX1_end 76 = .ok (.invokevirtual 97, 3) := by decide +kernel
theorem dX1_end_79 : decode cX1_end 79 = .ok (.astore_n 3, 1) := by decide +kernel
theorem dX1_end_80 : decode cX1_end 80 = .ok (.aload_n 3, 1) := by decide +kernel
theorem dX1_end_81 : decode cX1_end 81 = .ok (.getfield 104, 3) := by decide +kernel
theorem dX1_end_84 : decode cX1_end 84 = .ok (.iconst 2, 1) := by decide +kernel
theorem dX1_end_85 : decode cX1_end 85 = .ok (.if_icmp .ne 19, 3) := by decide +kernel
theorem dX1_end_88 : decode cX1_end 88 = .ok (.aload_n 3, 1) := by decide +kernel
theorem dX1_end_89 : decode cX1_end 89 = .ok (.invokevirtual 275, 3) := by decide +kernel
theorem dX1_end_92 : decode cX1_end 92 = .ok (.aload_n 1, 1) := by decide +kernel
theorem dX1_end_93 : decode cX1_end 93 = .ok (.getfield 159, 3) := by decide +kernel
theorem dX1_end_96 : decode cX1_end 96 = .ok (.if_icmp .ne 8, 3) := by decide +kernel
theorem dX1_end_99 : decode cX1_end 99 = .ok (.aload_n 0, 1) := by decide +kernel
theorem dX1_end_100 : decode cX1_end 100 = .ok (.aload_n 3, 1) := by decide +kernel
theorem dX1_end_101 : decode cX1_end 101 = .ok (.invokevirtual 179, 3) := by decide +kernel
theorem dX1_end_104 : decode cX1_end 104 = .ok (.return_, 1) := by decide +kernel
theorem dX2_init_0 : decode cX2_init 0 = .ok (.aload_n 0, 1) := by decide +kernel
theorem dX2_init_1 : decode cX2_init 1 = .ok (.invokespecial 3, 3) := by decide +kernel
theorem dX2_init_4 : decode cX2_init 4 = .ok (.aload_n 0, 1) := by decide +kernel
theorem dX2_init_5 : decode cX2_init 5 = .ok (.bipush 24, 2) := by decide +kernel
theorem dX2_init_7 : decode cX2_init 7 = .ok (.newarray .int, 2) := by decide +kernel
theorem dX2_init_9 : decode cX2_init 9 = .ok (.putfield 9, 3) := by decide +kernel
theorem dX2_init_12 : decode cX2_init 12 = .ok (.return_, 1) := by decide +kernel
theorem dX2_clear_0 : decode cX2_clear 0 = .ok (.aload_n 0, 1) := by decide +kernel
theorem dX2_clear_1 : decode cX2_clear 1 = .ok (.iconst 0, 1) := by decide +kernel
theorem dX2_clear_2 : decode cX2_clear 2 = .ok (.putfield 15, 3) := by decide +kernel
theorem dX2_clear_5 : decode cX2_clear 5 = .ok (.return_, 1) := by decide +kernel
theorem dX2_copyFrom_0 : decode cX2_copyFrom 0 = .ok (.aload_n 0, 1) := by decide +kernel
theorem dX2_copyFrom_1 : decode cX2_copyFrom 1 = .ok (.aload_n 1, 1) := by decide +kernel
theorem dX2_copyFrom_2 : decode cX2_copyFrom 2 = .ok (.getfield 15, 3) := by decide +kernel
theorem dX2_copyFrom_5 : decode cX2_copyFrom 5 = .ok (.putfield 15, 3) := by decide +kernel
theorem dX2_copyFrom_8 : decode cX2_copyFrom 8 = .ok (.iconst 0, 1) := by decide +kernel
theorem dX2_copyFrom_9 : decode cX2_copyFrom 9 = .ok (.istore_n 2, 1) := by decide +kernel
theorem dX2_copyFrom_10 : decode cX2_copyFrom 10 = .ok (.iload_n 2, 1) := by decide +kernel
theorem dX2_copyFrom_11 : decode cX2_copyFrom 11 = .ok (.bipush 24, 2) := by decide +kernel
theorem dX2_copyFrom_13 : decode cX2_copyFrom 13 = .ok (.if_icmp .ge 21, 3) := by decide +kernel
theorem dX2_copyFrom_16 : decode cX2_copyFrom 16 = .ok (.aload_n 0, 1) := by decide +kernel
theorem dX2_copyFrom_17 : decode cX2_copyFrom 17 = .ok (.getfield 9, 3) := by decide +kernel
theorem dX2_copyFrom_20 : decode cX2_copyFrom 20 = .ok (.iload_n 2, 1) := by decide +kernel
theorem dX2_copyFrom_21 : decode cX2_copyFrom 21 = .ok (.aload_n 1, 1) := by decide +kernel
theorem dX2_copyFrom_22 : decode cX2_copyFrom 22 = .ok (.getfield 9, 3) := by decide +kernel
theorem dX2_copyFrom_25 : decode cX2_copyFrom 25 = .ok (.iload_n 2, 1) := by decide +kernel
theorem dX2_copyFrom_26 : decode cX2_copyFrom 26 = .ok (.iaload, 1) := by decide +kernel
theorem dX2_copyFrom_27 : decode cX2_copyFrom 27 = .ok (.iastore, 1) := by decide +kernel
theorem dX2_copyFrom_28 : decode cX2_copyFrom 28 = .ok (.iinc 2 1, 3) := by decide +kernel
theorem dX2_copyFrom_31 : decode cX2_copyFrom 31 = .ok (.goto (-21), 3) := by decide +kernel
theorem dX2_copyFrom_34 : decode cX2_copyFrom 34 = .ok (.return_, 1) := by decide +kernel
theorem dX2_at_0 : decode cX2_at 0 = .ok (.iload_n 1, 1) := by decide +kernel
theorem dX2_at_1 : decode cX2_at 1 = .ok (.ifCond .lt 26, 3) := by decide +kernel
theorem dX2_at_4 : decode cX2_at 4 = .ok (.iload_n 1, 1) := by decide +kernel
theorem dX2_at_5 : decode cX2_at 5 = .ok (.aload_n 0, 1) := by decide +kernel
theorem dX2_at_6 : decode cX2_at 6 = .ok (.getfield 15, 3) := by decide +kernel
theorem dX2_at_9 : decode cX2_at 9 = .ok (.if_icmp .ge 18, 3) := by decide +kernel
theorem dX2_at_12 : decode cX2_at 12 = .ok (.iload_n 1, 1) := by decide +kernel
theorem dX2_at_13 : decode cX2_at 13 = .ok (.bipush 24, 2) := by decide +kernel
theorem dX2_at_15 : decode cX2_at 15 = .ok (.if_icmp .ge 12, 3) := by decide +kernel
theorem dX2_at_18 : decode cX2_at 18 = .ok (.aload_n 0, 1) := by decide +kernel
theorem dX2_at_19 : decode cX2_at 19 = .ok (.getfield 9, 3) := by decide +kernel
theorem dX2_at_22 : decode cX2_at 22 = .ok (.iload_n 1, 1) := by decide +kernel
theorem dX2_at_23 : decode cX2_at 23 = .ok (.iaload, 1) := by decide +kernel
theorem dX2_at_24 : decode cX2_at 24 = .ok (.goto 4, 3) := by decide +kernel
theorem dX2_at_27 : decode cX2_at 27 = .ok (.iconst (-1), 1) := by decide +kernel
theorem dX2_at_28 : decode cX2_at 28 = .ok (.ireturn, 1) := by decide +kernel
set_option maxRecDepth 20000 in
theorem ggX2_last_X2_at : GoodIn wsX2_last wsX2_at := goodIn_r _ [6, 1, 7, 8, 9] (by decide +kernel) (by decide +kernel)
set_option maxRecDepth 20000 in
theorem gX2_last_X2_at : GoodIn wsX2_last (wsV RX2 19 RX2 yX2_at wsX2_at) := goodIn_app (goodIn_of _ (by decide +kernel)) ggX2_last_X2_at
theorem dX2_last_0 : decode cX2_last 0 = .ok (.aload_n 0, 1) := by decide +kernel
theorem dX2_last_1 : decode cX2_last 1 = .ok (.aload_n 0, 1) := by decide +kernel
theorem dX2_last_2 : decode cX2_last 2 = .ok (.getfield 15, 3) := by decide +kernel
theorem dX2_last_5 : decode cX2_last 5 = .ok (.iconst 1, 1) := by decide +kernel
theorem dX2_last_6 : decode cX2_last 6 = .ok (.isub, 1) := by decide +kernel
theorem dX2_last_7 : decode cX2_last 7 = .ok (.invokevirtual 19, 3) := by decide +kernel
theorem dX2_last_10 : decode cX2_last 10 = .ok (.ireturn, 1) := by decide +kernel
theorem dX2_has_0 : decode cX2_has 0 = .ok (.iconst 0, 1) := by decide +kernel
theorem dX2_has_1 : decode cX2_has 1 = .ok (.istore_n 2, 1) := by decide +kernel
theorem dX2_has_2 : decode cX2_has 2 = .ok (.iload_n 2, 1) := by decide +kernel
theorem dX2_has_3 : decode cX2_has 3 = .ok (.aload_n 0, 1) := by decide +kernel
theorem dX2_has_4 : decode cX2_has 4 = .ok (.getfield 15, 3) := by decide +kernel
theorem dX2_has_7 : decode cX2_has 7 = .ok (.if_icmp .ge 27, 3) := by decide +kernel
theorem dX2_has_10 : decode cX2_has 10 = .ok (.iload_n 2, 1) := by decide +kernel
theorem dX2_has_11 : decode cX2_has 11 = .ok (.bipush 24, 2) := by decide +kernel
theorem dX2_has_13 : decode cX2_has 13 = .ok (.if_icmp .ge 21, 3) := by decide +kernel
theorem dX2_has_16 : decode cX2_has 16 = .ok (.aload_n 0, 1) := by decide +kernel
theorem dX2_has_17 : decode cX2_has 17 = .ok (.getfield 9, 3) := by decide +kernel
theorem dX2_has_20 : decode cX2_has 20 = .ok (.iload_n 2, 1) := by decide +kernel
theorem dX2_has_21 : decode cX2_has 21 = .ok (.iaload, 1) := by decide +kernel
theorem dX2_has_22 : decode cX2_has 22 = .ok (.iload_n 1, 1) := by decide +kernel
theorem dX2_has_23 : decode cX2_has 23 = .ok (.if_icmp .ne 5, 3) := by decide +kernel
theorem dX2_has_26 : decode cX2_has 26 = .ok (.iconst 1, 1) := by decide +kernel
theorem dX2_has_27 : decode cX2_has 27 = .ok (.ireturn, 1) := by decide +kernel
theorem dX2_has_28 : decode cX2_has 28 = .ok (.iinc 2 1, 3) := by decide +kernel
theorem dX2_has_31 : decode cX2_has 31 = .ok (.goto (-29), 3) := by decide +kernel
theorem dX2_has_34 : decode cX2_has 34 = .ok (.iconst 0, 1) := by decide +kernel
theorem dX2_has_35 : decode cX2_has 35 = .ok (.ireturn, 1) := by decide +kernel
theorem dX2_append_0 : decode cX2_append 0 = .ok (.aload_n 0, 1) := by decide +kernel
theorem dX2_append_1 : decode cX2_append 1 = .ok (.getfield 15, 3) := by decide +kernel
theorem dX2_append_4 : decode cX2_append 4 = .ok (.ifCond .lt 32, 3) := by decide +kernel
theorem dX2_append_7 : decode cX2_append 7 = .ok (.aload_n 0, 1) := by decide +kernel
theorem dX2_append_8 : decode cX2_append 8 = .ok (.getfield 15, 3) := by decide +kernel
theorem dX2_append_11 : decode cX2_append 11 = .ok (.bipush 24, 2) := by decide +kernel
theorem dX2_append_13 : decode cX2_append 13 = .ok (.if_icmp .ge 23, 3) := by decide +kernel
theorem dX2_append_16 : decode cX2_append 16 = .ok (.aload_n 0, 1) := by decide +kernel
theorem dX2_append_17 : decode cX2_append 17 = .ok (.getfield 9, 3) := by decide +kernel
theorem dX2_append_20 : decode cX2_append 20 = .ok (.aload_n 0, 1) := by decide +kernel
theorem dX2_append_21 : decode cX2_append 21 = .ok (.getfield 15, 3) := by decide +kernel
theorem dX2_append_24 : decode cX2_append 24 = .ok (.iload_n 1, 1) := by decide +kernel
theorem dX2_append_25 : decode cX2_append 25 = .ok (.iastore, 1) := by decide +kernel
theorem dX2_append_26 : decode cX2_append 26 = .ok (.aload_n 0, 1) := by decide +kernel
theorem dX2_append_27 : decode cX2_append 27 = .ok (.dup, 1) := by decide +kernel
theorem dX2_append_28 : decode cX2_append 28 = .ok (.getfield 15, 3) := by decide +kernel
theorem dX2_append_31 : decode cX2_append 31 = .ok (.iconst 1, 1) := by decide +kernel
