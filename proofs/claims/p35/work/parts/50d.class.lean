theorem dX6_inRow_5 : decode cX6_inRow 5 = .ok (.aload_n 0, 1) := by decide +kernel
theorem dX6_inRow_6 : decode cX6_inRow 6 = .ok (.getfield 21, 3) := by decide +kernel
theorem dX6_inRow_9 : decode cX6_inRow 9 = .ok (.iload_n 1, 1) := by decide +kernel
theorem dX6_inRow_10 : decode cX6_inRow 10 = .ok (.invokevirtual 203, 3) := by decide +kernel
theorem dX6_inRow_13 : decode cX6_inRow 13 = .ok (.astore_n 3, 1) := by decide +kernel
theorem dX6_inRow_14 : decode cX6_inRow 14 = .ok (.iload_n 2, 1) := by decide +kernel
theorem dX6_inRow_15 : decode cX6_inRow 15 = .ok (.ifCond .lt 11, 3) := by decide +kernel
theorem dX6_inRow_18 : decode cX6_inRow 18 = .ok (.iload_n 2, 1) := by decide +kernel
theorem dX6_inRow_19 : decode cX6_inRow 19 = .ok (.aload_n 3, 1) := by decide +kernel
theorem dX6_inRow_20 : decode cX6_inRow 20 = .ok (.getfield 199, 3) := by decide +kernel
theorem dX6_inRow_23 : decode cX6_inRow 23 = .ok (.if_icmp .lt 13, 3) := by decide +kernel
theorem dX6_inRow_26 : decode cX6_inRow 26 = .ok (.new 207, 3) := by decide +kernel
theorem dX6_inRow_29 : decode cX6_inRow 29 = .ok (.dup, 1) := by decide +kernel
theorem dX6_inRow_30 : decode cX6_inRow 30 = .ok (.ldc 209, 2) := by decide +kernel
theorem dX6_inRow_32 : decode cX6_inRow 32 = .ok (.invokespecial 211, 3) := by decide +kernel
theorem dX6_inRow_35 : decode cX6_inRow 35 = .ok (.athrow, 1) := by decide +kernel
theorem dX6_inRow_36 : decode cX6_inRow 36 = .ok (.aload_n 3, 1) := by decide +kernel
theorem dX6_inRow_37 : decode cX6_inRow 37 = .ok (.iload_n 2, 1) := by decide +kernel
theorem dX6_inRow_38 : decode cX6_inRow 38 = .ok (.invokevirtual 212, 3) := by decide +kernel
theorem dX6_inRow_41 : decode cX6_inRow 41 = .ok (.ireturn, 1) := by decide +kernel
set_option maxRecDepth 20000 in
theorem ggX6_told_X6_needWorker : GoodIn wsX6_told wsX6_needWorker := goodIn_ca (goodIn_r _ [8, 9, 10, 3, 18, 19, 20, 27, 28, 29, 30, 31, 32, 33, 34, 35, 36, 37, 38] (by decide +kernel) (by decide +kernel)) (goodIn_sub (fun _ h => List.mem_cons_of_mem _ (List.mem_append_right _ h)) (by decide +kernel))
set_option maxRecDepth 20000 in
theorem gX6_told_X6_needWorker : GoodIn wsX6_told (wsV RX6 181 RX6 yX6_needWorker wsX6_needWorker) := goodIn_app (goodIn_of _ (by decide +kernel)) ggX6_told_X6_needWorker
set_option maxRecDepth 20000 in
theorem ggX6_told_X1_workerAt : GoodIn wsX6_told wsX1_workerAt := goodIn_r _ [15, 16, 17, 27, 28, 29, 30, 31, 32, 33, 34, 35, 36, 37, 38] (by decide +kernel) (by decide +kernel)
set_option maxRecDepth 20000 in
theorem gX6_told_X1_workerAt : GoodIn wsX6_told (wsV RX6 184 RX1 yX1_workerAt wsX1_workerAt) := goodIn_app (goodIn_of _ (by decide +kernel)) ggX6_told_X1_workerAt
theorem dX6_told_0 : decode cX6_told 0 = .ok (.aload_n 0, 1) := by decide +kernel
theorem dX6_told_1 : decode cX6_told 1 = .ok (.iload_n 1, 1) := by decide +kernel
theorem dX6_told_2 : decode cX6_told 2 = .ok (.invokevirtual 181, 3) := by decide +kernel
theorem dX6_told_5 : decode cX6_told 5 = .ok (.iload_n 2, 1) := by decide +kernel
theorem dX6_told_6 : decode cX6_told 6 = .ok (.ifCond .lt 8, 3) := by decide +kernel
theorem dX6_told_9 : decode cX6_told 9 = .ok (.iload_n 2, 1) := by decide +kernel
theorem dX6_told_10 : decode cX6_told 10 = .ok (.iconst 2, 1) := by decide +kernel
theorem dX6_told_11 : decode cX6_told 11 = .ok (.if_icmp .le 13, 3) := by decide +kernel
theorem dX6_told_14 : decode cX6_told 14 = .ok (.new 51, 3) := by decide +kernel
theorem dX6_told_17 : decode cX6_told 17 = .ok (.dup, 1) := by decide +kernel
theorem dX6_told_18 : decode cX6_told 18 = .ok (.ldc 215, 2) := by decide +kernel
theorem dX6_told_20 : decode cX6_told 20 = .ok (.invokespecial 55, 3) := by decide +kernel
theorem dX6_told_23 : decode cX6_told 23 = .ok (.athrow, 1) := by decide +kernel
theorem dX6_told_24 : decode cX6_told 24 = .ok (.aload_n 0, 1) := by decide +kernel
theorem dX6_told_25 : decode cX6_told 25 = .ok (.getfield 21, 3) := by decide +kernel
theorem dX6_told_28 : decode cX6_told 28 = .ok (.iload_n 1, 1) := by decide +kernel
theorem dX6_told_29 : decode cX6_told 29 = .ok (.invokevirtual 184, 3) := by decide +kernel
theorem dX6_told_32 : decode cX6_told 32 = .ok (.astore_n 3, 1) := by decide +kernel
theorem dX6_told_33 : decode cX6_told 33 = .ok (.iload_n 2, 1) := by decide +kernel
theorem dX6_told_34 : decode cX6_told 34 = .ok (.ifCond .ne 8, 3) := by decide +kernel
theorem dX6_told_37 : decode cX6_told 37 = .ok (.aload_n 3, 1) := by decide +kernel
theorem dX6_told_38 : decode cX6_told 38 = .ok (.getfield 217, 3) := by decide +kernel
theorem dX6_told_41 : decode cX6_told 41 = .ok (.ireturn, 1) := by decide +kernel
theorem dX6_told_42 : decode cX6_told 42 = .ok (.iload_n 2, 1) := by decide +kernel
theorem dX6_told_43 : decode cX6_told 43 = .ok (.iconst 1, 1) := by decide +kernel
theorem dX6_told_44 : decode cX6_told 44 = .ok (.if_icmp .ne 10, 3) := by decide +kernel
theorem dX6_told_47 : decode cX6_told 47 = .ok (.aload_n 3, 1) := by decide +kernel
theorem dX6_told_48 : decode cX6_told 48 = .ok (.getfield 220, 3) := by decide +kernel
theorem dX6_told_51 : decode cX6_told 51 = .ok (.goto 7, 3) := by decide +kernel
theorem dX6_told_54 : decode cX6_told 54 = .ok (.aload_n 3, 1) := by decide +kernel
theorem dX6_told_55 : decode cX6_told 55 = .ok (.getfield 223, 3) := by decide +kernel
theorem dX6_told_58 : decode cX6_told 58 = .ok (.ireturn, 1) := by decide +kernel
set_option maxRecDepth 20000 in
theorem ggX6_ran_X6_needWorker : GoodIn wsX6_ran wsX6_needWorker := goodIn_ca (goodIn_r _ [8, 9, 10, 3, 28, 29, 30, 31, 32, 33, 34, 35, 36, 37, 38, 39, 40, 41, 42] (by decide +kernel) (by decide +kernel)) (goodIn_sub (fun _ h => List.mem_cons_of_mem _ (List.mem_append_right _ h)) (by decide +kernel))
set_option maxRecDepth 20000 in
theorem gX6_ran_X6_needWorker : GoodIn wsX6_ran (wsV RX6 181 RX6 yX6_needWorker wsX6_needWorker) := goodIn_app (goodIn_of _ (by decide +kernel)) ggX6_ran_X6_needWorker
set_option maxRecDepth 20000 in
theorem ggX6_ran_X1_workerAt : GoodIn wsX6_ran wsX1_workerAt := goodIn_r _ [15, 16, 17, 31, 32, 33, 34, 35, 36, 37, 38, 39, 40, 41, 42] (by decide +kernel) (by decide +kernel)
set_option maxRecDepth 20000 in
theorem gX6_ran_X1_workerAt : GoodIn wsX6_ran (wsV RX6 184 RX1 yX1_workerAt wsX1_workerAt) := goodIn_app (goodIn_of _ (by decide +kernel)) ggX6_ran_X1_workerAt
set_option maxRecDepth 20000 in
theorem ggX6_ran_X5_ranIn : GoodIn wsX6_ran wsX5_ranIn := goodIn_r _ [22, 23, 24, 25, 26, 27, 43, 44, 45, 46, 47, 48] (by decide +kernel) (by decide +kernel)
set_option maxRecDepth 20000 in
theorem gX6_ran_X5_ranIn : GoodIn wsX6_ran (wsV RX6 228 RX5 yX5_ranIn wsX5_ranIn) := goodIn_app (goodIn_of _ (by decide +kernel)) ggX6_ran_X5_ranIn
theorem dX6_ran_0 : decode cX6_ran 0 = .ok (.aload_n 0, 1) := by decide +kernel
theorem dX6_ran_1 : decode cX6_ran 1 = .ok (.iload_n 1, 1) := by decide +kernel
theorem dX6_ran_2 : decode cX6_ran 2 = .ok (.invokevirtual 181, 3) := by decide +kernel
theorem dX6_ran_5 : decode cX6_ran 5 = .ok (.iload_n 2, 1) := by decide +kernel
theorem dX6_ran_6 : decode cX6_ran 6 = .ok (.iconst 1, 1) := by decide +kernel
theorem dX6_ran_7 : decode cX6_ran 7 = .ok (.if_icmp .lt 9, 3) := by decide +kernel
theorem dX6_ran_10 : decode cX6_ran 10 = .ok (.iload_n 2, 1) := by decide +kernel
theorem dX6_ran_11 : decode cX6_ran 11 = .ok (.bipush 20, 2) := by decide +kernel
theorem dX6_ran_13 : decode cX6_ran 13 = .ok (.if_icmp .le 13, 3) := by decide +kernel
theorem dX6_ran_16 : decode cX6_ran 16 = .ok (.new 51, 3) := by decide +kernel
theorem dX6_ran_19 : decode cX6_ran 19 = .ok (.dup, 1) := by decide +kernel
theorem dX6_ran_20 : decode cX6_ran 20 = .ok (.ldc 226, 2) := by decide +kernel
theorem dX6_ran_22 : decode cX6_ran 22 = .ok (.invokespecial 55, 3) := by decide +kernel
theorem dX6_ran_25 : decode cX6_ran 25 = .ok (.athrow, 1) := by decide +kernel
theorem dX6_ran_26 : decode cX6_ran 26 = .ok (.iload_n 2, 1) := by decide +kernel
theorem dX6_ran_27 : decode cX6_ran 27 = .ok (.aload_n 0, 1) := by decide +kernel
theorem dX6_ran_28 : decode cX6_ran 28 = .ok (.getfield 21, 3) := by decide +kernel
theorem dX6_ran_31 : decode cX6_ran 31 = .ok (.getfield 154, 3) := by decide +kernel
theorem dX6_ran_34 : decode cX6_ran 34 = .ok (.if_icmp .le 8, 3) := by decide +kernel
theorem dX6_ran_37 : decode cX6_ran 37 = .ok (.bipush (-2), 2) := by decide +kernel
theorem dX6_ran_39 : decode cX6_ran 39 = .ok (.goto 23, 3) := by decide +kernel
theorem dX6_ran_42 : decode cX6_ran 42 = .ok (.aload_n 0, 1) := by decide +kernel
theorem dX6_ran_43 : decode cX6_ran 43 = .ok (.getfield 21, 3) := by decide +kernel
theorem dX6_ran_46 : decode cX6_ran 46 = .ok (.iload_n 1, 1) := by decide +kernel
theorem dX6_ran_47 : decode cX6_ran 47 = .ok (.invokevirtual 184, 3) := by decide +kernel
theorem dX6_ran_50 : decode cX6_ran 50 = .ok (.aload_n 0, 1) := by decide +kernel
theorem dX6_ran_51 : decode cX6_ran 51 = .ok (.getfield 21, 3) := by decide +kernel
theorem dX6_ran_54 : decode cX6_ran 54 = .ok (.getfield 154, 3) := by decide +kernel
theorem dX6_ran_57 : decode cX6_ran 57 = .ok (.iload_n 2, 1) := by decide +kernel
theorem dX6_ran_58 : decode cX6_ran 58 = .ok (.isub, 1) := by decide +kernel
theorem dX6_ran_59 : decode cX6_ran 59 = .ok (.invokevirtual 228, 3) := by decide +kernel
theorem dX6_ran_62 : decode cX6_ran 62 = .ok (.ireturn, 1) := by decide +kernel
set_option maxRecDepth 20000 in
theorem ggX6_halted_X1_isHalted : GoodIn wsX6_halted wsX1_isHalted := goodIn_r _ [6, 7, 8, 9, 10, 5, 11, 12, 13, 14, 15, 16, 17, 18, 19, 20, 21, 22, 23, 24, 25, 26, 27, 28, 29, 30, 31, 32, 33, 34, 35, 36, 37, 38, 39, 40, 41, 42, 43, 44, 45, 46, 47, 48, 49, 50, 51, 52, 53, 54, 55, 56, 57, 58, 59, 60, 61, 62, 63, 64, 65, 66, 67, 68, 69, 70, 71, 72, 80, 81, 82, 83, 84, 85, 86, 87, 88, 89, 90, 91, 92, 93, 94, 95, 96, 97, 98, 99, 100, 101, 102, 103, 104, 105, 106, 107, 108, 109, 110] (by decide +kernel) (by decide +kernel)
set_option maxRecDepth 20000 in
theorem gX6_halted_X1_isHalted : GoodIn wsX6_halted (wsV RX6 231 RX1 yX1_isHalted wsX1_isHalted) := goodIn_app (goodIn_of _ (by decide +kernel)) ggX6_halted_X1_isHalted
set_option maxRecDepth 20000 in
theorem ggX6_halted_X1_hasTaskIn : GoodIn wsX6_halted wsX1_hasTaskIn := goodIn_r _ [76, 12, 13, 14, 15, 5, 16, 17, 18, 80, 81, 82, 83, 84, 85, 86, 87, 88, 89, 90, 91, 92, 93, 94, 95, 96, 97, 98, 99, 100, 101, 102] (by decide +kernel) (by decide +kernel)
set_option maxRecDepth 20000 in
theorem gX6_halted_X1_hasTaskIn : GoodIn wsX6_halted (wsV RX6 234 RX1 yX1_hasTaskIn wsX1_hasTaskIn) := goodIn_app (goodIn_of _ (by decide +kernel)) ggX6_halted_X1_hasTaskIn
theorem dX6_halted_0 : decode cX6_halted 0 = .ok (.aload_n 0, 1) := by decide +kernel
theorem dX6_halted_1 : decode cX6_halted 1 = .ok (.getfield 21, 3) := by decide +kernel
theorem dX6_halted_4 : decode cX6_halted 4 = .ok (.invokevirtual 231, 3) := by decide +kernel
theorem dX6_halted_7 : decode cX6_halted 7 = .ok (.ifCond .ne 5, 3) := by decide +kernel
theorem dX6_halted_10 : decode cX6_halted 10 = .ok (.iconst 0, 1) := by decide +kernel
theorem dX6_halted_11 : decode cX6_halted 11 = .ok (.ireturn, 1) := by decide +kernel
theorem dX6_halted_12 : decode cX6_halted 12 = .ok (.aload_n 0, 1) := by decide +kernel
theorem dX6_halted_13 : decode cX6_halted 13 = .ok (.getfield 21, 3) := by decide +kernel
theorem dX6_halted_16 : decode cX6_halted 16 = .ok (.iconst 3, 1) := by decide +kernel
theorem dX6_halted_17 : decode cX6_halted 17 = .ok (.invokevirtual 234, 3) := by decide +kernel
theorem dX6_halted_20 : decode cX6_halted 20 = .ok (.ifCond .eq 7, 3) := by decide +kernel
theorem dX6_halted_23 : decode cX6_halted 23 = .ok (.iconst 1, 1) := by decide +kernel
theorem dX6_halted_24 : decode cX6_halted 24 = .ok (.goto 4, 3) := by decide +kernel
theorem dX6_halted_27 : decode cX6_halted 27 = .ok (.iconst 0, 1) := by decide +kernel
theorem dX6_halted_28 : decode cX6_halted 28 = .ok (.istore_n 1, 1) := by decide +kernel
theorem dX6_halted_29 : decode cX6_halted 29 = .ok (.aload_n 0, 1) := by decide +kernel
theorem dX6_halted_30 : decode cX6_halted 30 = .ok (.getfield 21, 3) := by decide +kernel
theorem dX6_halted_33 : decode cX6_halted 33 = .ok (.iconst 0, 1) := by decide +kernel
theorem dX6_halted_34 : decode cX6_halted 34 = .ok (.invokevirtual 234, 3) := by decide +kernel
theorem dX6_halted_37 : decode cX6_halted 37 = .ok (.ifCond .eq 7, 3) := by decide +kernel
theorem dX6_halted_40 : decode cX6_halted 40 = .ok (.iconst 2, 1) := by decide +kernel
theorem dX6_halted_41 : decode cX6_halted 41 = .ok (.goto 4, 3) := by decide +kernel
theorem dX6_halted_44 : decode cX6_halted 44 = .ok (.iconst 0, 1) := by decide +kernel
theorem dX6_halted_45 : decode cX6_halted 45 = .ok (.istore_n 2, 1) := by decide +kernel
theorem dX6_halted_46 : decode cX6_halted 46 = .ok (.iconst 4, 1) := by decide +kernel
theorem dX6_halted_47 : decode cX6_halted 47 = .ok (.iload_n 1, 1) := by decide +kernel
theorem dX6_halted_48 : decode cX6_halted 48 = .ok (.iadd, 1) := by decide +kernel
theorem dX6_halted_49 : decode cX6_halted 49 = .ok (.iload_n 2, 1) := by decide +kernel
theorem dX6_halted_50 : decode cX6_halted 50 = .ok (.iadd, 1) := by decide +kernel
theorem dX6_halted_51 : decode cX6_halted 51 = .ok (.ireturn, 1) := by decide +kernel
set_option maxRecDepth 20000 in
theorem ggX6_overIn_X6_needTask : GoodIn wsX6_overIn wsX6_needTask := goodIn_ca (goodIn_r _ [7, 8, 9, 2, 247, 248, 249, 250, 251, 252, 253, 254, 255, 256, 257, 258, 259, 260, 261] (by decide +kernel) (by decide +kernel)) (goodIn_sub (fun _ h => List.mem_cons_of_mem _ (List.mem_append_left _ (List.mem_append_right _ h))) (by decide +kernel))
set_option maxRecDepth 20000 in
theorem gX6_overIn_X6_needTask : GoodIn wsX6_overIn (wsV RX6 116 RX6 yX6_needTask wsX6_needTask) := goodIn_app (goodIn_of _ (by decide +kernel)) ggX6_overIn_X6_needTask
set_option maxRecDepth 20000 in
theorem ggX6_overIn_X6_needTicksAhead : GoodIn wsX6_overIn wsX6_needTicksAhead := goodIn_ca (goodIn_r _ [12, 13, 14] (by decide +kernel) (by decide +kernel)) (goodIn_sub (fun _ h => List.mem_cons_of_mem _ (List.mem_append_right _ h)) (by decide +kernel))
set_option maxRecDepth 20000 in
theorem gX6_overIn_X6_needTicksAhead : GoodIn wsX6_overIn (va_wsS RX6 237 yX6_needTicksAhead wsX6_needTicksAhead) := goodIn_app (goodIn_of _ (by decide +kernel)) ggX6_overIn_X6_needTicksAhead
set_option maxRecDepth 20000 in
theorem ggX6_overIn_X1_copyFrom : GoodIn wsX6_overIn wsX1_copyFrom := goodIn_r _ [19, 20, 21, 22, 23, 24, 25, 26, 27, 28, 29, 30, 31, 32, 33, 34, 35, 36, 37, 38, 39, 40, 41, 42, 43, 44, 45, 46, 47, 48, 49, 50, 51, 52, 53, 54, 55, 56, 57, 58, 59, 60, 61, 62, 250, 251, 252, 253, 254, 255, 256, 257, 258, 259, 260, 261, 262, 263, 264, 265, 266, 267, 268, 269, 270, 271, 272, 273, 274, 275, 276, 277, 278, 279, 280] (by decide +kernel) (by decide +kernel)
set_option maxRecDepth 20000 in
theorem gX6_overIn_X1_copyFrom : GoodIn wsX6_overIn (wsV RX6 240 RX1 yX1_copyFrom wsX1_copyFrom) := goodIn_app (goodIn_of _ (by decide +kernel)) ggX6_overIn_X1_copyFrom
set_option maxRecDepth 20000 in
theorem ggX6_overIn_X1_taskAt : GoodIn wsX6_overIn wsX1_taskAt := goodIn_r _ [66, 21, 67, 250, 251, 252, 253, 254, 255, 256, 257, 258, 259, 260, 261] (by decide +kernel) (by decide +kernel)
set_option maxRecDepth 20000 in
theorem gX6_overIn_X1_taskAt : GoodIn wsX6_overIn (wsV RX6 119 RX1 yX1_taskAt wsX1_taskAt) := goodIn_app (goodIn_of _ (by decide +kernel)) ggX6_overIn_X1_taskAt
set_option maxRecDepth 20000 in
theorem ggX6_overIn_X4_isOver : GoodIn wsX6_overIn wsX4_isOver := goodIn_r _ [71, 35, 262, 263, 264, 265, 266, 267, 268, 269, 270, 271, 272] (by decide +kernel) (by decide +kernel)
set_option maxRecDepth 20000 in
theorem gX6_overIn_X4_isOver : GoodIn wsX6_overIn (wsV RX6 123 RX4 yX4_isOver wsX4_isOver) := goodIn_app (goodIn_of _ (by decide +kernel)) ggX6_overIn_X4_isOver
set_option maxRecDepth 20000 in
theorem ggX6_overIn_X1_passTick : GoodIn wsX6_overIn wsX1_passTick := goodIn_r _ [75, 22, 28, 76, 77, 78, 79, 18, 80, 23, 81, 82, 83, 84, 47, 85, 54, 86, 87, 88, 89, 90, 91, 92, 93, 94, 95, 96, 97, 26, 98, 99, 100, 58, 101, 60, 102, 103, 104, 105, 61, 106, 64, 65, 66, 21, 67, 107, 108, 109, 32, 110, 35, 111, 112, 113, 114, 115, 116, 117, 118, 24, 27, 119, 120, 121, 122, 123, 124, 125, 126, 127, 128, 129, 130, 131, 132, 133, 134, 135, 136, 137, 138, 139, 140, 141, 142, 143, 144, 145, 146, 147, 148, 149, 150, 151, 152, 153, 154, 155, 156, 157, 158, 159, 160, 161, 162, 163, 164, 165, 166, 167, 168, 169, 170, 20, 171, 172, 173, 174, 175, 176, 177, 178, 34, 36, 37, 38, 39, 40, 41, 42, 43, 179, 180, 181, 182, 183, 184, 185, 186, 187, 188, 189, 190, 191, 192, 69, 70, 71, 193, 194, 195, 196, 197, 198, 199, 200, 201, 202, 203, 204, 205, 206, 207, 208, 209, 210, 211, 212, 213, 214, 215, 216, 217, 218, 219, 220, 221, 222, 223, 224, 225, 226, 227, 228, 229, 230, 231, 232, 233, 234, 235, 236, 237, 25, 238, 239, 240, 241, 242, 243, 244, 245, 246, 250, 251, 252, 253, 254, 255, 256, 257, 258, 259, 260, 261, 273, 274, 275, 276, 277, 278, 279, 280, 262, 263, 264, 265, 266, 267, 268, 269, 270, 271, 272, 281, 282, 283, 284, 285, 286] (by decide +kernel) (by decide +kernel)
set_option maxRecDepth 20000 in
theorem gX6_overIn_X1_passTick : GoodIn wsX6_overIn (wsV RX6 148 RX1 yX1_passTick wsX1_passTick) := goodIn_app (goodIn_of _ (by decide +kernel)) ggX6_overIn_X1_passTick
theorem dX6_overIn_0 : decode cX6_overIn 0 = .ok (.aload_n 0, 1) := by decide +kernel
theorem dX6_overIn_1 : decode cX6_overIn 1 = .ok (.iload_n 1, 1) := by decide +kernel
theorem dX6_overIn_2 : decode cX6_overIn 2 = .ok (.invokevirtual 116, 3) := by decide +kernel
theorem dX6_overIn_5 : decode cX6_overIn 5 = .ok (.iload_n 2, 1) := by decide +kernel
theorem dX6_overIn_6 : decode cX6_overIn 6 = .ok (.invokestatic 237, 3) := by decide +kernel
theorem dX6_overIn_9 : decode cX6_overIn 9 = .ok (.aload_n 0, 1) := by decide +kernel
theorem dX6_overIn_10 : decode cX6_overIn 10 = .ok (.getfield 25, 3) := by decide +kernel
theorem dX6_overIn_13 : decode cX6_overIn 13 = .ok (.aload_n 0, 1) := by decide +kernel
theorem dX6_overIn_14 : decode cX6_overIn 14 = .ok (.getfield 21, 3) := by decide +kernel
theorem dX6_overIn_17 : decode cX6_overIn 17 = .ok (.invokevirtual 240, 3) := by decide +kernel
theorem dX6_overIn_20 : decode cX6_overIn 20 = .ok (.aload_n 0, 1) := by decide +kernel
theorem dX6_overIn_21 : decode cX6_overIn 21 = .ok (.getfield 25, 3) := by decide +kernel
theorem dX6_overIn_24 : decode cX6_overIn 24 = .ok (.iload_n 1, 1) := by decide +kernel
theorem dX6_overIn_25 : decode cX6_overIn 25 = .ok (.invokevirtual 119, 3) := by decide +kernel
theorem dX6_overIn_28 : decode cX6_overIn 28 = .ok (.astore_n 3, 1) := by decide +kernel
theorem dX6_overIn_29 : decode cX6_overIn 29 = .ok (.iconst 0, 1) := by decide +kernel
theorem dX6_overIn_30 : decode cX6_overIn 30 = .ok (.istore 4, 2) := by decide +kernel
theorem dX6_overIn_32 : decode cX6_overIn 32 = .ok (.iload 4, 2) := by decide +kernel
theorem dX6_overIn_34 : decode cX6_overIn 34 = .ok (.iload_n 2, 1) := by decide +kernel
theorem dX6_overIn_35 : decode cX6_overIn 35 = .ok (.if_icmp .ge 23, 3) := by decide +kernel
theorem dX6_overIn_38 : decode cX6_overIn 38 = .ok (.aload_n 3, 1) := by decide +kernel
theorem dX6_overIn_39 : decode cX6_overIn 39 = .ok (.invokevirtual 123, 3) := by decide +kernel
theorem dX6_overIn_42 : decode cX6_overIn 42 = .ok (.ifCond .ne 16, 3) := by decide +kernel
theorem dX6_overIn_45 : decode cX6_overIn 45 = .ok (.aload_n 0, 1) := by decide +kernel
theorem dX6_overIn_46 : decode cX6_overIn 46 = .ok (.getfield 25, 3) := by decide +kernel
theorem dX6_overIn_49 : decode cX6_overIn 49 = .ok (.invokevirtual 148, 3) := by decide +kernel
theorem dX6_overIn_52 : decode cX6_overIn 52 = .ok (.iinc 4 1, 3) := by decide +kernel
theorem dX6_overIn_55 : decode cX6_overIn 55 = .ok (.goto (-23), 3) := by decide +kernel
theorem dX6_overIn_58 : decode cX6_overIn 58 = .ok (.aload_n 3, 1) := by decide +kernel
theorem dX6_overIn_59 : decode cX6_overIn 59 = .ok (.invokevirtual 123, 3) := by decide +kernel
theorem dX6_overIn_62 : decode cX6_overIn 62 = .ok (.ifCond .eq 21, 3) := by decide +kernel
theorem dX6_overIn_65 : decode cX6_overIn 65 = .ok (.aload_n 0, 1) := by decide +kernel
theorem dX6_overIn_66 : decode cX6_overIn 66 = .ok (.getfield 25, 3) := by decide +kernel
theorem dX6_overIn_69 : decode cX6_overIn 69 = .ok (.getfield 154, 3) := by decide +kernel
theorem dX6_overIn_72 : decode cX6_overIn 72 = .ok (.aload_n 0, 1) := by decide +kernel
theorem dX6_overIn_73 : decode cX6_overIn 73 = .ok (.getfield 21, 3) := by decide +kernel
theorem dX6_overIn_76 : decode cX6_overIn 76 = .ok (.getfield 154, 3) := by decide +kernel
theorem dX6_overIn_79 : decode cX6_overIn 79 = .ok (.isub, 1) := by decide +kernel
theorem dX6_overIn_80 : decode cX6_overIn 80 = .ok (.goto 4, 3) := by decide +kernel
theorem dX6_overIn_83 : decode cX6_overIn 83 = .ok (.iconst (-1), 1) := by decide +kernel
theorem dX6_overIn_84 : decode cX6_overIn 84 = .ok (.ireturn, 1) := by decide +kernel
set_option maxRecDepth 20000 in
theorem ggX6_valueIn_X6_needTask : GoodIn wsX6_valueIn wsX6_needTask := goodIn_ca (goodIn_r _ [7, 8, 9, 2, 246, 247, 248, 260, 261, 262, 263, 264, 265, 266, 267, 268, 269, 270, 271] (by decide +kernel) (by decide +kernel)) (goodIn_sub (fun _ h => List.mem_cons_of_mem _ (List.mem_append_left _ (List.mem_append_right _ h))) (by decide +kernel))
set_option maxRecDepth 20000 in
theorem gX6_valueIn_X6_needTask : GoodIn wsX6_valueIn (wsV RX6 116 RX6 yX6_needTask wsX6_needTask) := goodIn_app (goodIn_of _ (by decide +kernel)) ggX6_valueIn_X6_needTask
set_option maxRecDepth 20000 in
theorem ggX6_valueIn_X6_needTicksAhead : GoodIn wsX6_valueIn wsX6_needTicksAhead := goodIn_ca (goodIn_r _ [12, 13, 14] (by decide +kernel) (by decide +kernel)) (goodIn_sub (fun _ h => List.mem_cons_of_mem _ (List.mem_append_right _ h)) (by decide +kernel))
set_option maxRecDepth 20000 in
theorem gX6_valueIn_X6_needTicksAhead : GoodIn wsX6_valueIn (va_wsS RX6 237 yX6_needTicksAhead wsX6_needTicksAhead) := goodIn_app (goodIn_of _ (by decide +kernel)) ggX6_valueIn_X6_needTicksAhead
set_option maxRecDepth 20000 in
theorem ggX6_valueIn_X1_copyFrom : GoodIn wsX6_valueIn wsX1_copyFrom := goodIn_r _ [19, 20, 21, 22, 23, 24, 25, 26, 27, 28, 29, 30, 31, 32, 33, 34, 35, 36, 37, 38, 39, 40, 41, 42, 43, 44, 45, 46, 47, 48, 49, 50, 51, 52, 53, 54, 55, 56, 57, 58, 59, 60, 61, 62, 260, 261, 262, 263, 264, 265, 266, 267, 268, 269, 270, 271, 249, 250, 251, 252, 253, 254, 255, 256, 257, 258, 259, 272, 273, 274, 275, 276, 277, 278, 279] (by decide +kernel) (by decide +kernel)
set_option maxRecDepth 20000 in
theorem gX6_valueIn_X1_copyFrom : GoodIn wsX6_valueIn (wsV RX6 240 RX1 yX1_copyFrom wsX1_copyFrom) := goodIn_app (goodIn_of _ (by decide +kernel)) ggX6_valueIn_X1_copyFrom
set_option maxRecDepth 20000 in
theorem ggX6_valueIn_X1_passTick : GoodIn wsX6_valueIn wsX1_passTick := goodIn_r _ [66, 22, 28, 67, 68, 69, 70, 18, 71, 23, 72, 73, 74, 75, 47, 76, 54, 77, 78, 79, 80, 81, 82, 83, 84, 85, 86, 87, 88, 26, 89, 90, 91, 58, 92, 60, 93, 94, 95, 96, 61, 97, 98, 99, 100, 21, 101, 102, 103, 104, 32, 105, 35, 106, 107, 108, 109, 110, 111, 112, 113, 24, 27, 114, 115, 116, 117, 118, 119, 120, 121, 122, 123, 124, 125, 126, 127, 128, 129, 130, 131, 132, 133, 134, 135, 136, 137, 138, 139, 140, 141, 142, 143, 144, 145, 146, 147, 148, 149, 150, 151, 152, 153, 154, 155, 156, 157, 158, 159, 160, 161, 162, 163, 164, 165, 20, 166, 167, 168, 169, 170, 171, 172, 173, 34, 36, 37, 38, 39, 40, 41, 42, 43, 174, 175, 176, 177, 178, 179, 180, 181, 182, 183, 184, 185, 186, 187, 188, 189, 190, 191, 192, 193, 194, 195, 196, 197, 198, 199, 200, 201, 202, 203, 204, 205, 206, 207, 208, 209, 210, 211, 212, 213, 214, 215, 216, 217, 218, 219, 220, 221, 222, 223, 224, 225, 226, 227, 228, 229, 230, 231, 232, 233, 234, 235, 25, 236, 237, 238, 239, 240, 241, 242, 243, 244, 260, 261, 262, 263, 264, 265, 266, 267, 268, 269, 270, 271, 272, 273, 274, 275, 276, 277, 278, 279, 249, 250, 251, 252, 253, 254, 255, 256, 257, 258, 259, 280, 281, 282, 283, 284, 285] (by decide +kernel) (by decide +kernel)
set_option maxRecDepth 20000 in
theorem gX6_valueIn_X1_passTick : GoodIn wsX6_valueIn (wsV RX6 148 RX1 yX1_passTick wsX1_passTick) := goodIn_app (goodIn_of _ (by decide +kernel)) ggX6_valueIn_X1_passTick
set_option maxRecDepth 20000 in
theorem ggX6_valueIn_X1_taskAt : GoodIn wsX6_valueIn wsX1_taskAt := goodIn_r _ [100, 21, 101, 260, 261, 262, 263, 264, 265, 266, 267, 268, 269, 270, 271] (by decide +kernel) (by decide +kernel)
set_option maxRecDepth 20000 in
theorem gX6_valueIn_X1_taskAt : GoodIn wsX6_valueIn (wsV RX6 119 RX1 yX1_taskAt wsX1_taskAt) := goodIn_app (goodIn_of _ (by decide +kernel)) ggX6_valueIn_X1_taskAt
theorem dX6_valueIn_0 : decode cX6_valueIn 0 = .ok (.aload_n 0, 1) := by decide +kernel
theorem dX6_valueIn_1 : decode cX6_valueIn 1 = .ok (.iload_n 1, 1) := by decide +kernel
theorem dX6_valueIn_2 : decode cX6_valueIn 2 = .ok (.invokevirtual 116, 3) := by decide +kernel
theorem dX6_valueIn_5 : decode cX6_valueIn 5 = .ok (.iload_n 2, 1) := by decide +kernel
theorem dX6_valueIn_6 : decode cX6_valueIn 6 = .ok (.invokestatic 237, 3) := by decide +kernel
theorem dX6_valueIn_9 : decode cX6_valueIn 9 = .ok (.aload_n 0, 1) := by decide +kernel
theorem dX6_valueIn_10 : decode cX6_valueIn 10 = .ok (.getfield 25, 3) := by decide +kernel
theorem dX6_valueIn_13 : decode cX6_valueIn 13 = .ok (.aload_n 0, 1) := by decide +kernel
theorem dX6_valueIn_14 : decode cX6_valueIn 14 = .ok (.getfield 21, 3) := by decide +kernel
theorem dX6_valueIn_17 : decode cX6_valueIn 17 = .ok (.invokevirtual 240, 3) := by decide +kernel
theorem dX6_valueIn_20 : decode cX6_valueIn 20 = .ok (.iconst 0, 1) := by decide +kernel
theorem dX6_valueIn_21 : decode cX6_valueIn 21 = .ok (.istore_n 3, 1) := by decide +kernel
theorem dX6_valueIn_22 : decode cX6_valueIn 22 = .ok (.iload_n 3, 1) := by decide +kernel
theorem dX6_valueIn_23 : decode cX6_valueIn 23 = .ok (.iload_n 2, 1) := by decide +kernel
theorem dX6_valueIn_24 : decode cX6_valueIn 24 = .ok (.if_icmp .ge 16, 3) := by decide +kernel
theorem dX6_valueIn_27 : decode cX6_valueIn 27 = .ok (.aload_n 0, 1) := by decide +kernel
theorem dX6_valueIn_28 : decode cX6_valueIn 28 = .ok (.getfield 25, 3) := by decide +kernel
theorem dX6_valueIn_31 : decode cX6_valueIn 31 = .ok (.invokevirtual 148, 3) := by decide +kernel
theorem dX6_valueIn_34 : decode cX6_valueIn 34 = .ok (.iinc 3 1, 3) := by decide +kernel
theorem dX6_valueIn_37 : decode cX6_valueIn 37 = .ok (.goto (-15), 3) := by decide +kernel
theorem dX6_valueIn_40 : decode cX6_valueIn 40 = .ok (.aload_n 0, 1) := by decide +kernel
theorem dX6_valueIn_41 : decode cX6_valueIn 41 = .ok (.getfield 25, 3) := by decide +kernel
theorem dX6_valueIn_44 : decode cX6_valueIn 44 = .ok (.iload_n 1, 1) := by decide +kernel
theorem dX6_valueIn_45 : decode cX6_valueIn 45 = .ok (.invokevirtual 119, 3) := by decide +kernel
theorem dX6_valueIn_48 : decode cX6_valueIn 48 = .ok (.getfield 160, 3) := by decide +kernel
theorem dX6_valueIn_51 : decode cX6_valueIn 51 = .ok (.ireturn, 1) := by decide +kernel
set_option maxRecDepth 20000 in
theorem ggX6_haltsIn_X6_needTicksAhead : GoodIn wsX6_haltsIn wsX6_needTicksAhead := goodIn_ca (goodIn_r _ [6, 7, 8] (by decide +kernel) (by decide +kernel)) (goodIn_sub (fun _ h => List.mem_cons_of_mem _ (List.mem_append_right _ h)) (by decide +kernel))
set_option maxRecDepth 20000 in
theorem gX6_haltsIn_X6_needTicksAhead : GoodIn wsX6_haltsIn (va_wsS RX6 237 yX6_needTicksAhead wsX6_needTicksAhead) := goodIn_app (goodIn_of _ (by decide +kernel)) ggX6_haltsIn_X6_needTicksAhead
set_option maxRecDepth 20000 in
theorem ggX6_haltsIn_X1_copyFrom : GoodIn wsX6_haltsIn wsX1_copyFrom := goodIn_r _ [13, 14, 15, 16, 17, 18, 19, 20, 21, 22, 23, 24, 25, 26, 27, 28, 29, 30, 31, 32, 33, 34, 35, 36, 37, 38, 39, 40, 41, 42, 43, 44, 45, 46, 47, 48, 49, 50, 51, 52, 53, 54, 55, 56, 254, 255, 256, 257, 258, 259, 260, 261, 262, 263, 264, 265, 266, 267, 268, 269, 270, 271, 272, 273, 274, 275, 276, 277, 278, 279, 280, 281, 282, 283, 284] (by decide +kernel) (by decide +kernel)
set_option maxRecDepth 20000 in
theorem gX6_haltsIn_X1_copyFrom : GoodIn wsX6_haltsIn (wsV RX6 240 RX1 yX1_copyFrom wsX1_copyFrom) := goodIn_app (goodIn_of _ (by decide +kernel)) ggX6_haltsIn_X1_copyFrom
set_option maxRecDepth 20000 in
theorem ggX6_haltsIn_X1_isHalted : GoodIn wsX6_haltsIn wsX1_isHalted := goodIn_r _ [60, 16, 61, 62, 63, 12, 64, 14, 65, 66, 67, 68, 15, 69, 70, 71, 72, 26, 73, 29, 74, 75, 76, 77, 78, 79, 80, 81, 17, 82, 83, 84, 85, 86, 20, 87, 88, 89, 52, 90, 54, 91, 92, 93, 94, 55, 95, 96, 97, 98, 99, 100, 101, 102, 18, 21, 103, 104, 105, 106, 107, 108, 109, 110, 111, 112, 113, 114, 254, 255, 256, 257, 258, 259, 260, 261, 262, 263, 264, 265, 266, 267, 268, 269, 270, 271, 272, 273, 274, 275, 276, 277, 278, 279, 280, 281, 282, 283, 284] (by decide +kernel) (by decide +kernel)
set_option maxRecDepth 20000 in
theorem gX6_haltsIn_X1_isHalted : GoodIn wsX6_haltsIn (wsV RX6 231 RX1 yX1_isHalted wsX1_isHalted) := goodIn_app (goodIn_of _ (by decide +kernel)) ggX6_haltsIn_X1_isHalted
set_option maxRecDepth 20000 in
theorem ggX6_haltsIn_X1_passTick : GoodIn wsX6_haltsIn wsX1_passTick := goodIn_r _ [118, 16, 22, 119, 78, 79, 80, 12, 81, 17, 82, 120, 121, 122, 41, 123, 48, 124, 125, 126, 127, 128, 129, 130, 131, 83, 84, 85, 86, 20, 87, 88, 89, 52, 90, 54, 91, 92, 93, 94, 55, 65, 66, 67, 68, 15, 69, 95, 96, 97, 26, 98, 29, 132, 133, 134, 135, 99, 100, 101, 102, 18, 21, 103, 104, 105, 106, 107, 108, 109, 110, 111, 112, 113, 114, 136, 137, 138, 139, 140, 141, 142, 143, 144, 145, 146, 147, 148, 149, 150, 151, 152, 153, 154, 155, 156, 157, 158, 159, 160, 161, 162, 163, 164, 165, 166, 167, 168, 169, 170, 171, 172, 173, 174, 175, 14, 176, 177, 178, 179, 180, 181, 182, 183, 28, 30, 31, 32, 33, 34, 35, 36, 37, 184, 185, 186, 187, 188, 189, 190, 191, 192, 193, 194, 195, 196, 70, 71, 72, 73, 197, 198, 199, 200, 201, 202, 203, 204, 205, 206, 207, 208, 209, 210, 211, 212, 213, 214, 215, 216, 217, 218, 219, 220, 221, 222, 223, 224, 225, 226, 227, 228, 229, 230, 231, 232, 233, 234, 235, 236, 237, 238, 239, 240, 241, 19, 242, 243, 244, 245, 246, 247, 248, 249, 250, 254, 255, 256, 257, 258, 259, 260, 261, 262, 263, 264, 265, 277, 278, 279, 280, 281, 282, 283, 284, 266, 267, 268, 269, 270, 271, 272, 273, 274, 275, 276, 285, 286, 287, 288, 289, 290] (by decide +kernel) (by decide +kernel)
set_option maxRecDepth 20000 in
theorem gX6_haltsIn_X1_passTick : GoodIn wsX6_haltsIn (wsV RX6 148 RX1 yX1_passTick wsX1_passTick) := goodIn_app (goodIn_of _ (by decide +kernel)) ggX6_haltsIn_X1_passTick
theorem dX6_haltsIn_0 : decode cX6_haltsIn 0 = .ok (.iload_n 1, 1) := by decide +kernel
theorem dX6_haltsIn_1 : decode cX6_haltsIn 1 = .ok (.invokestatic 237, 3) := by decide +kernel
theorem dX6_haltsIn_4 : decode cX6_haltsIn 4 = .ok (.aload_n 0, 1) := by decide +kernel
theorem dX6_haltsIn_5 : decode cX6_haltsIn 5 = .ok (.getfield 25, 3) := by decide +kernel
theorem dX6_haltsIn_8 : decode cX6_haltsIn 8 = .ok (.aload_n 0, 1) := by decide +kernel
theorem dX6_haltsIn_9 : decode cX6_haltsIn 9 = .ok (.getfield 21, 3) := by decide +kernel
theorem dX6_haltsIn_12 : decode cX6_haltsIn 12 = .ok (.invokevirtual 240, 3) := by decide +kernel
theorem dX6_haltsIn_15 : decode cX6_haltsIn 15 = .ok (.iconst 0, 1) := by decide +kernel
theorem dX6_haltsIn_16 : decode cX6_haltsIn 16 = .ok (.istore_n 2, 1) := by decide +kernel
theorem dX6_haltsIn_17 : decode cX6_haltsIn 17 = .ok (.iload_n 2, 1) := by decide +kernel
theorem dX6_haltsIn_18 : decode cX6_haltsIn 18 = .ok (.iload_n 1, 1) := by decide +kernel
theorem dX6_haltsIn_19 : decode cX6_haltsIn 19 = .ok (.if_icmp .ge 26, 3) := by decide +kernel
theorem dX6_haltsIn_22 : decode cX6_haltsIn 22 = .ok (.aload_n 0, 1) := by decide +kernel
theorem dX6_haltsIn_23 : decode cX6_haltsIn 23 = .ok (.getfield 25, 3) := by decide +kernel
theorem dX6_haltsIn_26 : decode cX6_haltsIn 26 = .ok (.invokevirtual 231, 3) := by decide +kernel
theorem dX6_haltsIn_29 : decode cX6_haltsIn 29 = .ok (.ifCond .ne 16, 3) := by decide +kernel
theorem dX6_haltsIn_32 : decode cX6_haltsIn 32 = .ok (.aload_n 0, 1) := by decide +kernel
theorem dX6_haltsIn_33 : decode cX6_haltsIn 33 = .ok (.getfield 25, 3) := by decide +kernel
theorem dX6_haltsIn_36 : decode cX6_haltsIn 36 = .ok (.invokevirtual 148, 3) := by decide +kernel
theorem dX6_haltsIn_39 : decode cX6_haltsIn 39 = .ok (.iinc 2 1, 3) := by decide +kernel
theorem dX6_haltsIn_42 : decode cX6_haltsIn 42 = .ok (.goto (-25), 3) := by decide +kernel
theorem dX6_haltsIn_45 : decode cX6_haltsIn 45 = .ok (.aload_n 0, 1) := by decide +kernel
theorem dX6_haltsIn_46 : decode cX6_haltsIn 46 = .ok (.getfield 25, 3) := by decide +kernel
theorem dX6_haltsIn_49 : decode cX6_haltsIn 49 = .ok (.invokevirtual 231, 3) := by decide +kernel
theorem dX6_haltsIn_52 : decode cX6_haltsIn 52 = .ok (.ifCond .eq 21, 3) := by decide +kernel
theorem dX6_haltsIn_55 : decode cX6_haltsIn 55 = .ok (.aload_n 0, 1) := by decide +kernel
theorem dX6_haltsIn_56 : decode cX6_haltsIn 56 = .ok (.getfield 25, 3) := by decide +kernel
theorem dX6_haltsIn_59 : decode cX6_haltsIn 59 = .ok (.getfield 154, 3) := by decide +kernel
theorem dX6_haltsIn_62 : decode cX6_haltsIn 62 = .ok (.aload_n 0, 1) := by decide +kernel
theorem dX6_haltsIn_63 : decode cX6_haltsIn 63 = .ok (.getfield 21, 3) := by decide +kernel
theorem dX6_haltsIn_66 : decode cX6_haltsIn 66 = .ok (.getfield 154, 3) := by decide +kernel
theorem dX6_haltsIn_69 : decode cX6_haltsIn 69 = .ok (.isub, 1) := by decide +kernel
theorem dX6_haltsIn_70 : decode cX6_haltsIn 70 = .ok (.goto 4, 3) := by decide +kernel
theorem dX6_haltsIn_73 : decode cX6_haltsIn 73 = .ok (.iconst (-1), 1) := by decide +kernel
theorem dX6_haltsIn_74 : decode cX6_haltsIn 74 = .ok (.ireturn, 1) := by decide +kernel
set_option maxRecDepth 20000 in
theorem ggX6_digest_X6_clock : GoodIn wsX6_digest wsX6_clock := goodIn_r _ [8, 3, 214, 215, 216, 217, 218, 219, 220, 221, 222, 223, 224, 225, 226, 227, 228] (by decide +kernel) (by decide +kernel)
set_option maxRecDepth 20000 in
theorem gX6_digest_X6_clock : GoodIn wsX6_digest (wsV RX6 251 RX6 yX6_clock wsX6_clock) := goodIn_app (goodIn_of _ (by decide +kernel)) ggX6_digest_X6_clock
set_option maxRecDepth 20000 in
theorem ggX6_digest_X6_tasks : GoodIn wsX6_digest wsX6_tasks := goodIn_r _ [12, 3, 214, 215, 216, 217, 218, 219, 220, 221, 222, 223, 224, 225, 226, 227, 228] (by decide +kernel) (by decide +kernel)
set_option maxRecDepth 20000 in
theorem gX6_digest_X6_tasks : GoodIn wsX6_digest (wsV RX6 253 RX6 yX6_tasks wsX6_tasks) := goodIn_app (goodIn_of _ (by decide +kernel)) ggX6_digest_X6_tasks
set_option maxRecDepth 20000 in
theorem ggX6_digest_X6_workers : GoodIn wsX6_digest wsX6_workers := goodIn_r _ [16, 3, 214, 215, 216, 217, 218, 219, 220, 221, 222, 223, 224, 225, 226, 227, 228] (by decide +kernel) (by decide +kernel)
set_option maxRecDepth 20000 in
theorem gX6_digest_X6_workers : GoodIn wsX6_digest (wsV RX6 256 RX6 yX6_workers wsX6_workers) := goodIn_app (goodIn_of _ (by decide +kernel)) ggX6_digest_X6_workers
set_option maxRecDepth 20000 in
theorem ggX6_digest_X6_halted : GoodIn wsX6_digest wsX6_halted := goodIn_r _ [20, 3, 21, 22, 23, 24, 25, 26, 27, 28, 29, 30, 31, 32, 33, 34, 35, 36, 37, 38, 39, 40, 41, 42, 43, 44, 45, 46, 47, 48, 49, 50, 51, 52, 53, 54, 55, 56, 57, 58, 59, 60, 61, 62, 63, 64, 65, 66, 67, 68, 69, 70, 71, 72, 73, 74, 75, 76, 77, 78, 79, 80, 81, 82, 83, 84, 85, 86, 87, 88, 89, 90, 91, 92, 93, 94, 95, 214, 215, 216, 217, 218, 219, 220, 221, 222, 223, 224, 225, 226, 227, 228, 229, 230, 231, 232, 233, 234, 235, 236, 237, 238, 239, 240, 241, 242, 243, 244, 245, 246, 247] (by decide +kernel) (by decide +kernel)
set_option maxRecDepth 20000 in
theorem gX6_digest_X6_halted : GoodIn wsX6_digest (wsV RX6 259 RX6 yX6_halted wsX6_halted) := goodIn_app (goodIn_of _ (by decide +kernel)) ggX6_digest_X6_halted
set_option maxRecDepth 20000 in
theorem ggX6_digest_X6_withTask : GoodIn wsX6_digest wsX6_withTask := goodIn_ca (goodIn_r _ [99, 2, 100, 101, 102, 7, 103, 3, 104, 105, 106, 107, 108, 109, 110, 33, 34, 24, 35, 36, 37, 111, 112, 113, 114, 115, 116, 117, 118, 119, 120, 121, 122, 123, 124, 125, 126, 127, 128, 129, 130, 131, 132, 133, 134, 31, 32, 135, 136, 137, 138, 139, 140, 141, 214, 215, 216, 229, 230, 231, 232, 233, 234, 235, 236, 237, 238, 239, 217, 218, 219, 220, 221, 222, 223, 224, 225, 226, 227, 228] (by decide +kernel) (by decide +kernel)) (goodIn_sub (fun _ h => List.mem_cons_of_mem _ (List.mem_append_left _ (List.mem_append_right _ h))) (by decide +kernel))
set_option maxRecDepth 20000 in
theorem gX6_digest_X6_withTask : GoodIn wsX6_digest (wsV RX6 262 RX6 yX6_withTask wsX6_withTask) := goodIn_app (goodIn_of _ (by decide +kernel)) ggX6_digest_X6_withTask
set_option maxRecDepth 20000 in
theorem ggX6_digest_X6_promise : GoodIn wsX6_digest wsX6_promise := goodIn_ca (goodIn_r _ [145, 3, 146, 147, 7, 148, 108, 109, 149, 150, 151, 152, 153, 154, 24, 155, 156, 157, 214, 215, 216, 217, 218, 219, 220, 221, 222, 223, 224, 225, 226, 227, 228] (by decide +kernel) (by decide +kernel)) (goodIn_sub (fun _ h => List.mem_cons_of_mem _ (List.mem_append_left _ (List.mem_append_right _ h))) (by decide +kernel))
set_option maxRecDepth 20000 in
theorem gX6_digest_X6_promise : GoodIn wsX6_digest (wsV RX6 266 RX6 yX6_promise wsX6_promise) := goodIn_app (goodIn_of _ (by decide +kernel)) ggX6_digest_X6_promise
set_option maxRecDepth 20000 in
theorem ggX6_digest_X6_withRow : GoodIn wsX6_digest wsX6_withRow := goodIn_ca (goodIn_r _ [161, 2, 162, 163, 164, 7, 165, 3, 166, 167, 168, 169, 170, 171, 172, 173, 108, 109, 174, 81, 82, 24, 83, 78, 48, 49, 50, 51, 52, 53, 175, 176, 177, 178, 179, 66, 67, 62, 68, 64, 69, 214, 215, 216, 246, 247, 217, 218, 219, 220, 221, 222, 223, 224, 225, 226, 227, 228, 240, 241, 242, 243, 244, 245] (by decide +kernel) (by decide +kernel)) (goodIn_sub (fun _ h => List.mem_cons_of_mem _ (List.mem_append_left _ (List.mem_append_right _ h))) (by decide +kernel))
set_option maxRecDepth 20000 in
theorem gX6_digest_X6_withRow : GoodIn wsX6_digest (wsV RX6 269 RX6 yX6_withRow wsX6_withRow) := goodIn_app (goodIn_of _ (by decide +kernel)) ggX6_digest_X6_withRow
set_option maxRecDepth 20000 in
theorem ggX6_digest_X6_withWorker : GoodIn wsX6_digest wsX6_withWorker := goodIn_ca (goodIn_ca (goodIn_r _ [183, 2, 184, 185, 186, 7, 187, 3, 170, 171, 172, 173, 108, 109, 188, 49, 50, 24, 51, 52, 53, 189, 60, 61, 62, 63, 64, 65, 66, 67, 68, 69, 190, 191, 192, 193, 194, 195, 196, 197, 198, 199, 200, 201, 202, 203, 204, 205, 206, 207, 208, 209, 210, 211, 212, 213, 214, 215, 216, 240, 241, 242, 243, 244, 245, 217, 218, 219, 220, 221, 222, 223, 224, 225, 226, 227, 228, 246, 247] (by decide +kernel) (by decide +kernel)) (goodIn_sub (fun _ h => List.mem_cons_of_mem _ (List.mem_append_left _ (List.mem_append_right _ h))) (by decide +kernel))) (goodIn_sub (fun _ h => List.mem_cons_of_mem _ (List.mem_append_right _ h)) (by decide +kernel))
set_option maxRecDepth 20000 in
theorem gX6_digest_X6_withWorker : GoodIn wsX6_digest (wsV RX6 272 RX6 yX6_withWorker wsX6_withWorker) := goodIn_app (goodIn_of _ (by decide +kernel)) ggX6_digest_X6_withWorker
theorem dX6_digest_0 : decode cX6_digest 0 = .ok (.ldc2_w 247, 3) := by decide +kernel
theorem dX6_digest_3 : decode cX6_digest 3 = .ok (.lstore_n 1, 1) := by decide +kernel
theorem dX6_digest_4 : decode cX6_digest 4 = .ok (.lload_n 1, 1) := by decide +kernel
theorem dX6_digest_5 : decode cX6_digest 5 = .ok (.ldc2_w 249, 3) := by decide +kernel
theorem dX6_digest_8 : decode cX6_digest 8 = .ok (.lmul, 1) := by decide +kernel
theorem dX6_digest_9 : decode cX6_digest 9 = .ok (.aload_n 0, 1) := by decide +kernel
theorem dX6_digest_10 : decode cX6_digest 10 = .ok (.invokevirtual 251, 3) := by decide +kernel
theorem dX6_digest_13 : decode cX6_digest 13 = .ok (.i2l, 1) := by decide +kernel
theorem dX6_digest_14 : decode cX6_digest 14 = .ok (.ladd, 1) := by decide +kernel
theorem dX6_digest_15 : decode cX6_digest 15 = .ok (.lstore_n 1, 1) := by decide +kernel
theorem dX6_digest_16 : decode cX6_digest 16 = .ok (.lload_n 1, 1) := by decide +kernel
theorem dX6_digest_17 : decode cX6_digest 17 = .ok (.ldc2_w 249, 3) := by decide +kernel
theorem dX6_digest_20 : decode cX6_digest 20 = .ok (.lmul, 1) := by decide +kernel
theorem dX6_digest_21 : decode cX6_digest 21 = .ok (.aload_n 0, 1) := by decide +kernel
theorem dX6_digest_22 : decode cX6_digest 22 = .ok (.invokevirtual 253, 3) := by decide +kernel
theorem dX6_digest_25 : decode cX6_digest 25 = .ok (.i2l, 1) := by decide +kernel
theorem dX6_digest_26 : decode cX6_digest 26 = .ok (.ladd, 1) := by decide +kernel
theorem dX6_digest_27 : decode cX6_digest 27 = .ok (.lstore_n 1, 1) := by decide +kernel
theorem dX6_digest_28 : decode cX6_digest 28 = .ok (.lload_n 1, 1) := by decide +kernel
theorem dX6_digest_29 : decode cX6_digest 29 = .ok (.ldc2_w 249, 3) := by decide +kernel
theorem dX6_digest_32 : decode cX6_digest 32 = .ok (.lmul, 1) := by decide +kernel
theorem dX6_digest_33 : decode cX6_digest 33 = .ok (.aload_n 0, 1) := by decide +kernel
theorem dX6_digest_34 : decode cX6_digest 34 = .ok (.invokevirtual 256, 3) := by decide +kernel
theorem dX6_digest_37 : decode cX6_digest 37 = .ok (.i2l, 1) := by decide +kernel
theorem dX6_digest_38 : decode cX6_digest 38 = .ok (.ladd, 1) := by decide +kernel
theorem dX6_digest_39 : decode cX6_digest 39 = .ok (.lstore_n 1, 1) := by decide +kernel
theorem dX6_digest_40 : decode cX6_digest 40 = .ok (.lload_n 1, 1) := by decide +kernel
theorem dX6_digest_41 : decode cX6_digest 41 = .ok (.ldc2_w 249, 3) := by decide +kernel
theorem dX6_digest_44 : decode cX6_digest 44 = .ok (.lmul, 1) := by decide +kernel
theorem dX6_digest_45 : decode cX6_digest 45 = .ok (.aload_n 0, 1) := by decide +kernel
theorem dX6_digest_46 : decode cX6_digest 46 = .ok (.invokevirtual 259, 3) := by decide +kernel
theorem dX6_digest_49 : decode cX6_digest 49 = .ok (.i2l, 1) := by decide +kernel
theorem dX6_digest_50 : decode cX6_digest 50 = .ok (.ladd, 1) := by decide +kernel
theorem dX6_digest_51 : decode cX6_digest 51 = .ok (.lstore_n 1, 1) := by decide +kernel
theorem dX6_digest_52 : decode cX6_digest 52 = .ok (.iconst 0, 1) := by decide +kernel
theorem dX6_digest_53 : decode cX6_digest 53 = .ok (.istore_n 3, 1) := by decide +kernel
theorem dX6_digest_54 : decode cX6_digest 54 = .ok (.iload_n 3, 1) := by decide +kernel
theorem dX6_digest_55 : decode cX6_digest 55 = .ok (.aload_n 0, 1) := by decide +kernel
theorem dX6_digest_56 : decode cX6_digest 56 = .ok (.getfield 21, 3) := by decide +kernel
theorem dX6_digest_59 : decode cX6_digest 59 = .ok (.getfield 107, 3) := by decide +kernel
theorem dX6_digest_62 : decode cX6_digest 62 = .ok (.if_icmp .ge 16, 3) := by decide +kernel
theorem dX6_digest_65 : decode cX6_digest 65 = .ok (.aload_n 0, 1) := by decide +kernel
theorem dX6_digest_66 : decode cX6_digest 66 = .ok (.lload_n 1, 1) := by decide +kernel
theorem dX6_digest_67 : decode cX6_digest 67 = .ok (.iload_n 3, 1) := by decide +kernel
theorem dX6_digest_68 : decode cX6_digest 68 = .ok (.invokevirtual 262, 3) := by decide +kernel
theorem dX6_digest_71 : decode cX6_digest 71 = .ok (.lstore_n 1, 1) := by decide +kernel
theorem dX6_digest_72 : decode cX6_digest 72 = .ok (.iinc 3 1, 3) := by decide +kernel
theorem dX6_digest_75 : decode cX6_digest 75 = .ok (.goto (-21), 3) := by decide +kernel
theorem dX6_digest_78 : decode cX6_digest 78 = .ok (.iconst 0, 1) := by decide +kernel
theorem dX6_digest_79 : decode cX6_digest 79 = .ok (.istore_n 3, 1) := by decide +kernel
theorem dX6_digest_80 : decode cX6_digest 80 = .ok (.iload_n 3, 1) := by decide +kernel
theorem dX6_digest_81 : decode cX6_digest 81 = .ok (.bipush 6, 2) := by decide +kernel
theorem dX6_digest_83 : decode cX6_digest 83 = .ok (.if_icmp .ge 22, 3) := by decide +kernel
theorem dX6_digest_86 : decode cX6_digest 86 = .ok (.lload_n 1, 1) := by decide +kernel
theorem dX6_digest_87 : decode cX6_digest 87 = .ok (.ldc2_w 249, 3) := by decide +kernel
theorem dX6_digest_90 : decode cX6_digest 90 = .ok (.lmul, 1) := by decide +kernel
theorem dX6_digest_91 : decode cX6_digest 91 = .ok (.aload_n 0, 1) := by decide +kernel
theorem dX6_digest_92 : decode cX6_digest 92 = .ok (.iload_n 3, 1) := by decide +kernel
theorem dX6_digest_93 : decode cX6_digest 93 = .ok (.invokevirtual 266, 3) := by decide +kernel
theorem dX6_digest_96 : decode cX6_digest 96 = .ok (.i2l, 1) := by decide +kernel
theorem dX6_digest_97 : decode cX6_digest 97 = .ok (.ladd, 1) := by decide +kernel
theorem dX6_digest_98 : decode cX6_digest 98 = .ok (.lstore_n 1, 1) := by decide +kernel
theorem dX6_digest_99 : decode cX6_digest 99 = .ok (.iinc 3 1, 3) := by decide +kernel
theorem dX6_digest_102 : decode cX6_digest 102 = .ok (.goto (-22), 3) := by decide +kernel
theorem dX6_digest_105 : decode cX6_digest 105 = .ok (.iconst (-1), 1) := by decide +kernel
theorem dX6_digest_106 : decode cX6_digest 106 = .ok (.istore_n 3, 1) := by decide +kernel
theorem dX6_digest_107 : decode cX6_digest 107 = .ok (.iload_n 3, 1) := by decide +kernel
theorem dX6_digest_108 : decode cX6_digest 108 = .ok (.aload_n 0, 1) := by decide +kernel
theorem dX6_digest_109 : decode cX6_digest 109 = .ok (.getfield 21, 3) := by decide +kernel
theorem dX6_digest_112 : decode cX6_digest 112 = .ok (.getfield 84, 3) := by decide +kernel
theorem dX6_digest_115 : decode cX6_digest 115 = .ok (.if_icmp .ge 16, 3) := by decide +kernel
theorem dX6_digest_118 : decode cX6_digest 118 = .ok (.aload_n 0, 1) := by decide +kernel
theorem dX6_digest_119 : decode cX6_digest 119 = .ok (.lload_n 1, 1) := by decide +kernel
theorem dX6_digest_120 : decode cX6_digest 120 = .ok (.iload_n 3, 1) := by decide +kernel
theorem dX6_digest_121 : decode cX6_digest 121 = .ok (.invokevirtual 269, 3) := by decide +kernel
theorem dX6_digest_124 : decode cX6_digest 124 = .ok (.lstore_n 1, 1) := by decide +kernel
theorem dX6_digest_125 : decode cX6_digest 125 = .ok (.iinc 3 1, 3) := by decide +kernel
theorem dX6_digest_128 : decode cX6_digest 128 = .ok (.goto (-21), 3) := by decide +kernel
theorem dX6_digest_131 : decode cX6_digest 131 = .ok (.iconst 0, 1) := by decide +kernel
theorem dX6_digest_132 : decode cX6_digest 132 = .ok (.istore_n 3, 1) := by decide +kernel
theorem dX6_digest_133 : decode cX6_digest 133 = .ok (.iload_n 3, 1) := by decide +kernel
theorem dX6_digest_134 : decode cX6_digest 134 = .ok (.aload_n 0, 1) := by decide +kernel
theorem dX6_digest_135 : decode cX6_digest 135 = .ok (.getfield 21, 3) := by decide +kernel
theorem dX6_digest_138 : decode cX6_digest 138 = .ok (.getfield 84, 3) := by decide +kernel
theorem dX6_digest_141 : decode cX6_digest 141 = .ok (.if_icmp .ge 16, 3) := by decide +kernel
theorem dX6_digest_144 : decode cX6_digest 144 = .ok (.aload_n 0, 1) := by decide +kernel
theorem dX6_digest_145 : decode cX6_digest 145 = .ok (.lload_n 1, 1) := by decide +kernel
theorem dX6_digest_146 : decode cX6_digest 146 = .ok (.iload_n 3, 1) := by decide +kernel
theorem dX6_digest_147 : decode cX6_digest 147 = .ok (.invokevirtual 272, 3) := by decide +kernel
theorem dX6_digest_150 : decode cX6_digest 150 = .ok (.lstore_n 1, 1) := by decide +kernel
theorem dX6_digest_151 : decode cX6_digest 151 = .ok (.iinc 3 1, 3) := by decide +kernel
theorem dX6_digest_154 : decode cX6_digest 154 = .ok (.goto (-21), 3) := by decide +kernel
theorem dX6_digest_157 : decode cX6_digest 157 = .ok (.lload_n 1, 1) := by decide +kernel
theorem dX6_digest_158 : decode cX6_digest 158 = .ok (.lreturn, 1) := by decide +kernel
set_option maxRecDepth 20000 in
theorem ggX6_withTask_X6_stateOf : GoodIn wsX6_withTask wsX6_stateOf := goodIn_ca (goodIn_r _ [6, 7, 8, 9, 10, 5, 11, 12, 13, 14, 15, 16, 17, 18, 19, 20, 54, 55, 56, 57, 58, 59, 60, 61, 62, 63, 64, 65, 66, 67, 68, 69, 70, 71, 72, 73, 74, 75, 76, 77, 78, 79] (by decide +kernel) (by decide +kernel)) (goodIn_sub (fun _ h => List.mem_cons_of_mem _ (List.mem_append_right _ h)) (by decide +kernel))
set_option maxRecDepth 20000 in
theorem gX6_withTask_X6_stateOf : GoodIn wsX6_withTask (wsV RX6 275 RX6 yX6_stateOf wsX6_stateOf) := goodIn_app (goodIn_of _ (by decide +kernel)) ggX6_withTask_X6_stateOf
set_option maxRecDepth 20000 in
theorem ggX6_withTask_X6_valueOf : GoodIn wsX6_withTask wsX6_valueOf := goodIn_ca (goodIn_r _ [24, 7, 8, 9, 10, 5, 11, 12, 13, 14, 15, 16, 17, 18, 19, 20, 54, 55, 56, 57, 58, 59, 60, 61, 62, 63, 64, 65, 66, 67, 68, 69, 70, 71, 72, 73, 74, 75, 76, 77, 78, 79] (by decide +kernel) (by decide +kernel)) (goodIn_sub (fun _ h => List.mem_cons_of_mem _ (List.mem_append_right _ h)) (by decide +kernel))
set_option maxRecDepth 20000 in
theorem gX6_withTask_X6_valueOf : GoodIn wsX6_withTask (wsV RX6 278 RX6 yX6_valueOf wsX6_valueOf) := goodIn_app (goodIn_of _ (by decide +kernel)) ggX6_withTask_X6_valueOf
set_option maxRecDepth 20000 in
theorem ggX6_withTask_X6_stepOf : GoodIn wsX6_withTask wsX6_stepOf := goodIn_ca (goodIn_r _ [28, 7, 8, 9, 10, 5, 11, 12, 13, 14, 15, 16, 17, 18, 19, 20, 54, 55, 56, 57, 58, 59, 60, 61, 62, 63, 64, 65, 66, 67, 68, 69, 70, 71, 72, 73, 74, 75, 76, 77, 78, 79] (by decide +kernel) (by decide +kernel)) (goodIn_sub (fun _ h => List.mem_cons_of_mem _ (List.mem_append_right _ h)) (by decide +kernel))
set_option maxRecDepth 20000 in
theorem gX6_withTask_X6_stepOf : GoodIn wsX6_withTask (wsV RX6 281 RX6 yX6_stepOf wsX6_stepOf) := goodIn_app (goodIn_of _ (by decide +kernel)) ggX6_withTask_X6_stepOf
set_option maxRecDepth 20000 in
theorem ggX6_withTask_X6_parentOf : GoodIn wsX6_withTask wsX6_parentOf := goodIn_ca (goodIn_r _ [32, 7, 8, 9, 10, 5, 11, 12, 13, 14, 15, 16, 17, 18, 19, 20, 54, 55, 56, 57, 58, 59, 60, 61, 62, 63, 64, 65, 66, 67, 68, 69, 70, 71, 72, 73, 74, 75, 76, 77, 78, 79] (by decide +kernel) (by decide +kernel)) (goodIn_sub (fun _ h => List.mem_cons_of_mem _ (List.mem_append_right _ h)) (by decide +kernel))
set_option maxRecDepth 20000 in
theorem gX6_withTask_X6_parentOf : GoodIn wsX6_withTask (wsV RX6 284 RX6 yX6_parentOf wsX6_parentOf) := goodIn_app (goodIn_of _ (by decide +kernel)) ggX6_withTask_X6_parentOf
set_option maxRecDepth 20000 in
theorem ggX6_withTask_X6_childrenOf : GoodIn wsX6_withTask wsX6_childrenOf := goodIn_ca (goodIn_r _ [36, 7, 8, 9, 10, 5, 11, 12, 13, 14, 15, 16, 17, 18, 19, 20, 54, 55, 56, 57, 58, 59, 60, 61, 62, 63, 64, 65, 66, 67, 68, 69, 70, 71, 72, 73, 74, 75, 76, 77, 78, 79] (by decide +kernel) (by decide +kernel)) (goodIn_sub (fun _ h => List.mem_cons_of_mem _ (List.mem_append_right _ h)) (by decide +kernel))
set_option maxRecDepth 20000 in
theorem gX6_withTask_X6_childrenOf : GoodIn wsX6_withTask (wsV RX6 287 RX6 yX6_childrenOf wsX6_childrenOf) := goodIn_app (goodIn_of _ (by decide +kernel)) ggX6_withTask_X6_childrenOf
set_option maxRecDepth 20000 in
theorem ggX6_withTask_X6_workOf : GoodIn wsX6_withTask wsX6_workOf := goodIn_ca (goodIn_r _ [40, 7, 8, 9, 10, 5, 11, 12, 13, 41, 42, 43, 17, 44, 45, 46, 15, 16, 18, 19, 20, 47, 48, 49, 54, 55, 56, 68, 69, 70, 71, 72, 73, 74, 75, 76, 77, 78, 79, 57, 58, 59, 60, 61, 62, 63, 64, 65, 66, 67] (by decide +kernel) (by decide +kernel)) (goodIn_sub (fun _ h => List.mem_cons_of_mem _ (List.mem_append_right _ h)) (by decide +kernel))
set_option maxRecDepth 20000 in
theorem gX6_withTask_X6_workOf : GoodIn wsX6_withTask (wsV RX6 290 RX6 yX6_workOf wsX6_workOf) := goodIn_app (goodIn_of _ (by decide +kernel)) ggX6_withTask_X6_workOf
set_option maxRecDepth 20000 in
theorem ggX6_withTask_X6_overAt : GoodIn wsX6_withTask wsX6_overAt := goodIn_ca (goodIn_r _ [53, 7, 8, 9, 10, 5, 11, 12, 13, 14, 15, 16, 17, 18, 19, 20, 54, 55, 56, 57, 58, 59, 60, 61, 62, 63, 64, 65, 66, 67, 68, 69, 70, 71, 72, 73, 74, 75, 76, 77, 78, 79] (by decide +kernel) (by decide +kernel)) (goodIn_sub (fun _ h => List.mem_cons_of_mem _ (List.mem_append_right _ h)) (by decide +kernel))
set_option maxRecDepth 20000 in
theorem gX6_withTask_X6_overAt : GoodIn wsX6_withTask (wsV RX6 293 RX6 yX6_overAt wsX6_overAt) := goodIn_app (goodIn_of _ (by decide +kernel)) ggX6_withTask_X6_overAt
theorem dX6_withTask_0 : decode cX6_withTask 0 = .ok (.lload_n 1, 1) := by decide +kernel
theorem dX6_withTask_1 : decode cX6_withTask 1 = .ok (.lstore 4, 2) := by decide +kernel
theorem dX6_withTask_3 : decode cX6_withTask 3 = .ok (.lload 4, 2) := by decide +kernel
theorem dX6_withTask_5 : decode cX6_withTask 5 = .ok (.ldc2_w 249, 3) := by decide +kernel
theorem dX6_withTask_8 : decode cX6_withTask 8 = .ok (.lmul, 1) := by decide +kernel
theorem dX6_withTask_9 : decode cX6_withTask 9 = .ok (.aload_n 0, 1) := by decide +kernel
theorem dX6_withTask_10 : decode cX6_withTask 10 = .ok (.iload_n 3, 1) := by decide +kernel
theorem dX6_withTask_11 : decode cX6_withTask 11 = .ok (.invokevirtual 275, 3) := by decide +kernel
theorem dX6_withTask_14 : decode cX6_withTask 14 = .ok (.i2l, 1) := by decide +kernel
theorem dX6_withTask_15 : decode cX6_withTask 15 = .ok (.ladd, 1) := by decide +kernel
theorem dX6_withTask_16 : decode cX6_withTask 16 = .ok (.lstore 4, 2) := by decide +kernel
theorem dX6_withTask_18 : decode cX6_withTask 18 = .ok (.lload 4, 2) := by decide +kernel
theorem dX6_withTask_20 : decode cX6_withTask 20 = .ok (.ldc2_w 249, 3) := by decide +kernel
theorem dX6_withTask_23 : decode cX6_withTask 23 = .ok (.lmul, 1) := by decide +kernel
theorem dX6_withTask_24 : decode cX6_withTask 24 = .ok (.aload_n 0, 1) := by decide +kernel
theorem dX6_withTask_25 : decode cX6_withTask 25 = .ok (.iload_n 3, 1) := by decide +kernel
theorem dX6_withTask_26 : decode cX6_withTask 26 = .ok (.invokevirtual 278, 3) := by decide +kernel
theorem dX6_withTask_29 : decode cX6_withTask 29 = .ok (.i2l, 1) := by decide +kernel
theorem dX6_withTask_30 : decode cX6_withTask 30 = .ok (.ladd, 1) := by decide +kernel
theorem dX6_withTask_31 : decode cX6_withTask 31 = .ok (.lstore 4, 2) := by decide +kernel
theorem dX6_withTask_33 : decode cX6_withTask 33 = .ok (.lload 4, 2) := by decide +kernel
theorem dX6_withTask_35 : decode cX6_withTask 35 = .ok (.ldc2_w 249, 3) := by decide +kernel
theorem dX6_withTask_38 : decode cX6_withTask 38 = .ok (.lmul, 1) := by decide +kernel
theorem dX6_withTask_39 : decode cX6_withTask 39 = .ok (.aload_n 0, 1) := by decide +kernel
theorem dX6_withTask_40 : decode cX6_withTask 40 = .ok (.iload_n 3, 1) := by decide +kernel
theorem dX6_withTask_41 : decode cX6_withTask 41 = .ok (.invokevirtual 281, 3) := by decide +kernel
theorem dX6_withTask_44 : decode cX6_withTask 44 = .ok (.i2l, 1) := by decide +kernel
theorem dX6_withTask_45 : decode cX6_withTask 45 = .ok (.ladd, 1) := by decide +kernel
theorem dX6_withTask_46 : decode cX6_withTask 46 = .ok (.lstore 4, 2) := by decide +kernel
theorem dX6_withTask_48 : decode cX6_withTask 48 = .ok (.lload 4, 2) := by decide +kernel
theorem dX6_withTask_50 : decode cX6_withTask 50 = .ok (.ldc2_w 249, 3) := by decide +kernel
theorem dX6_withTask_53 : decode cX6_withTask 53 = .ok (.lmul, 1) := by decide +kernel
theorem dX6_withTask_54 : decode cX6_withTask 54 = .ok (.aload_n 0, 1) := by decide +kernel
theorem dX6_withTask_55 : decode cX6_withTask 55 = .ok (.iload_n 3, 1) := by decide +kernel
theorem dX6_withTask_56 : decode cX6_withTask 56 = .ok (.invokevirtual 284, 3) := by decide +kernel
theorem dX6_withTask_59 : decode cX6_withTask 59 = .ok (.i2l, 1) := by decide +kernel
theorem dX6_withTask_60 : decode cX6_withTask 60 = .ok (.ladd, 1) := by decide +kernel
theorem dX6_withTask_61 : decode cX6_withTask 61 = .ok (.lstore 4, 2) := by decide +kernel
theorem dX6_withTask_63 : decode cX6_withTask 63 = .ok (.lload 4, 2) := by decide +kernel
theorem dX6_withTask_65 : decode cX6_withTask 65 = .ok (.ldc2_w 249, 3) := by decide +kernel
theorem dX6_withTask_68 : decode cX6_withTask 68 = .ok (.lmul, 1) := by decide +kernel
theorem dX6_withTask_69 : decode cX6_withTask 69 = .ok (.aload_n 0, 1) := by decide +kernel
theorem dX6_withTask_70 : decode cX6_withTask 70 = .ok (.iload_n 3, 1) := by decide +kernel
theorem dX6_withTask_71 : decode cX6_withTask 71 = .ok (.invokevirtual 287, 3) := by decide +kernel
theorem dX6_withTask_74 : decode cX6_withTask 74 = .ok (.i2l, 1) := by decide +kernel
theorem dX6_withTask_75 : decode cX6_withTask 75 = .ok (.ladd, 1) := by decide +kernel
theorem dX6_withTask_76 : decode cX6_withTask 76 = .ok (.lstore 4, 2) := by decide +kernel
theorem dX6_withTask_78 : decode cX6_withTask 78 = .ok (.lload 4, 2) := by decide +kernel
theorem dX6_withTask_80 : decode cX6_withTask 80 = .ok (.ldc2_w 249, 3) := by decide +kernel
theorem dX6_withTask_83 : decode cX6_withTask 83 = .ok (.lmul, 1) := by decide +kernel
theorem dX6_withTask_84 : decode cX6_withTask 84 = .ok (.aload_n 0, 1) := by decide +kernel
theorem dX6_withTask_85 : decode cX6_withTask 85 = .ok (.iload_n 3, 1) := by decide +kernel
theorem dX6_withTask_86 : decode cX6_withTask 86 = .ok (.invokevirtual 290, 3) := by decide +kernel
theorem dX6_withTask_89 : decode cX6_withTask 89 = .ok (.i2l, 1) := by decide +kernel
theorem dX6_withTask_90 : decode cX6_withTask 90 = .ok (.ladd, 1) := by decide +kernel
theorem dX6_withTask_91 : decode cX6_withTask 91 = .ok (.lstore 4, 2) := by decide +kernel
theorem dX6_withTask_93 : decode cX6_withTask 93 = .ok (.lload 4, 2) := by decide +kernel
theorem dX6_withTask_95 : decode cX6_withTask 95 = .ok (.ldc2_w 249, 3) := by decide +kernel
theorem dX6_withTask_98 : decode cX6_withTask 98 = .ok (.lmul, 1) := by decide +kernel
theorem dX6_withTask_99 : decode cX6_withTask 99 = .ok (.aload_n 0, 1) := by decide +kernel
theorem dX6_withTask_100 : decode cX6_withTask 100 = .ok (.iload_n 3, 1) := by decide +kernel
theorem dX6_withTask_101 : decode cX6_withTask 101 = .ok (.invokevirtual 293, 3) := by decide +kernel
theorem dX6_withTask_104 : decode cX6_withTask 104 = .ok (.i2l, 1) := by decide +kernel
theorem dX6_withTask_105 : decode cX6_withTask 105 = .ok (.ladd, 1) := by decide +kernel
theorem dX6_withTask_106 : decode cX6_withTask 106 = .ok (.lreturn, 1) := by decide +kernel
set_option maxRecDepth 20000 in
theorem ggX6_withRow_X6_row : GoodIn wsX6_withRow wsX6_row := goodIn_ca (goodIn_r _ [6, 7, 8, 9, 10, 5, 11, 12, 13, 14, 15, 16, 17, 18, 19, 20, 21, 22, 23, 24, 25, 26, 27, 28, 29, 41, 42, 43, 44, 45, 46, 47, 48, 49, 50, 51, 52, 53, 54, 55, 56, 57, 58, 59, 60, 61, 62, 63] (by decide +kernel) (by decide +kernel)) (goodIn_sub (fun _ h => List.mem_cons_of_mem _ (List.mem_append_right _ h)) (by decide +kernel))
set_option maxRecDepth 20000 in
theorem gX6_withRow_X6_row : GoodIn wsX6_withRow (wsV RX6 295 RX6 yX6_row wsX6_row) := goodIn_app (goodIn_of _ (by decide +kernel)) ggX6_withRow_X6_row
set_option maxRecDepth 20000 in
theorem ggX6_withRow_X6_inRow : GoodIn wsX6_withRow wsX6_inRow := goodIn_ca (goodIn_r _ [33, 16, 17, 7, 8, 9, 10, 5, 11, 12, 13, 14, 15, 18, 19, 20, 21, 22, 23, 24, 25, 26, 27, 28, 29, 34, 35, 36, 37, 38, 39, 40, 41, 42, 43, 44, 45, 46, 47, 48, 49, 50, 51, 52, 53, 54, 55, 56, 57, 58, 59, 60, 61, 62, 63] (by decide +kernel) (by decide +kernel)) (goodIn_sub (fun _ h => List.mem_cons_of_mem _ (List.mem_append_right _ h)) (by decide +kernel))
set_option maxRecDepth 20000 in
theorem gX6_withRow_X6_inRow : GoodIn wsX6_withRow (wsV RX6 298 RX6 yX6_inRow wsX6_inRow) := goodIn_app (goodIn_of _ (by decide +kernel)) ggX6_withRow_X6_inRow
theorem dX6_withRow_0 : decode cX6_withRow 0 = .ok (.aload_n 0, 1) := by decide +kernel
theorem dX6_withRow_1 : decode cX6_withRow 1 = .ok (.iload_n 3, 1) := by decide +kernel
theorem dX6_withRow_2 : decode cX6_withRow 2 = .ok (.invokevirtual 295, 3) := by decide +kernel
theorem dX6_withRow_5 : decode cX6_withRow 5 = .ok (.istore 4, 2) := by decide +kernel
theorem dX6_withRow_7 : decode cX6_withRow 7 = .ok (.lload_n 1, 1) := by decide +kernel
theorem dX6_withRow_8 : decode cX6_withRow 8 = .ok (.ldc2_w 249, 3) := by decide +kernel
theorem dX6_withRow_11 : decode cX6_withRow 11 = .ok (.lmul, 1) := by decide +kernel
theorem dX6_withRow_12 : decode cX6_withRow 12 = .ok (.iload 4, 2) := by decide +kernel
theorem dX6_withRow_14 : decode cX6_withRow 14 = .ok (.i2l, 1) := by decide +kernel
theorem dX6_withRow_15 : decode cX6_withRow 15 = .ok (.ladd, 1) := by decide +kernel
theorem dX6_withRow_16 : decode cX6_withRow 16 = .ok (.lstore 5, 2) := by decide +kernel
theorem dX6_withRow_18 : decode cX6_withRow 18 = .ok (.iconst 0, 1) := by decide +kernel
theorem dX6_withRow_19 : decode cX6_withRow 19 = .ok (.istore 7, 2) := by decide +kernel
theorem dX6_withRow_21 : decode cX6_withRow 21 = .ok (.iload 7, 2) := by decide +kernel
theorem dX6_withRow_23 : decode cX6_withRow 23 = .ok (.iload 4, 2) := by decide +kernel
theorem dX6_withRow_25 : decode cX6_withRow 25 = .ok (.if_icmp .ge 26, 3) := by decide +kernel
theorem dX6_withRow_28 : decode cX6_withRow 28 = .ok (.lload 5, 2) := by decide +kernel
theorem dX6_withRow_30 : decode cX6_withRow 30 = .ok (.ldc2_w 249, 3) := by decide +kernel
theorem dX6_withRow_33 : decode cX6_withRow 33 = .ok (.lmul, 1) := by decide +kernel
theorem dX6_withRow_34 : decode cX6_withRow 34 = .ok (.aload_n 0, 1) := by decide +kernel
theorem dX6_withRow_35 : decode cX6_withRow 35 = .ok (.iload_n 3, 1) := by decide +kernel
theorem dX6_withRow_36 : decode cX6_withRow 36 = .ok (.iload 7, 2) := by decide +kernel
theorem dX6_withRow_38 : decode cX6_withRow 38 = .ok (.invokevirtual 298, 3) := by decide +kernel
theorem dX6_withRow_41 : decode cX6_withRow 41 = .ok (.i2l, 1) := by decide +kernel
theorem dX6_withRow_42 : decode cX6_withRow 42 = .ok (.ladd, 1) := by decide +kernel
theorem dX6_withRow_43 : decode cX6_withRow 43 = .ok (.lstore 5, 2) := by decide +kernel
theorem dX6_withRow_45 : decode cX6_withRow 45 = .ok (.iinc 7 1, 3) := by decide +kernel
theorem dX6_withRow_48 : decode cX6_withRow 48 = .ok (.goto (-27), 3) := by decide +kernel
theorem dX6_withRow_51 : decode cX6_withRow 51 = .ok (.lload 5, 2) := by decide +kernel
theorem dX6_withRow_53 : decode cX6_withRow 53 = .ok (.lreturn, 1) := by decide +kernel
set_option maxRecDepth 20000 in
theorem ggX6_withWorker_X6_top : GoodIn wsX6_withWorker wsX6_top := goodIn_ca (goodIn_r _ [6, 7, 8, 9, 10, 5, 11, 12, 13, 14, 15, 16, 17, 18, 19, 20, 21, 22, 23, 24, 25, 26, 27, 28, 29, 30, 31, 56, 57, 58, 59, 60, 61, 62, 63, 64, 65, 66, 67, 68, 69, 70, 71, 72, 73, 74, 75, 76, 77, 78] (by decide +kernel) (by decide +kernel)) (goodIn_sub (fun _ h => List.mem_cons_of_mem _ (List.mem_append_left _ (List.mem_append_right _ h))) (by decide +kernel))
set_option maxRecDepth 20000 in
theorem gX6_withWorker_X6_top : GoodIn wsX6_withWorker (wsV RX6 302 RX6 yX6_top wsX6_top) := goodIn_app (goodIn_of _ (by decide +kernel)) ggX6_withWorker_X6_top
set_option maxRecDepth 20000 in
theorem ggX6_withWorker_X6_stack : GoodIn wsX6_withWorker wsX6_stack := goodIn_ca (goodIn_r _ [35, 7, 8, 9, 10, 5, 11, 12, 13, 14, 15, 16, 17, 18, 19, 20, 56, 57, 58, 59, 60, 61, 62, 63, 64, 77, 78, 65, 66, 67, 68, 69, 70, 71, 72, 73, 74, 75, 76] (by decide +kernel) (by decide +kernel)) (goodIn_sub (fun _ h => List.mem_cons_of_mem _ (List.mem_append_left _ (List.mem_append_right _ h))) (by decide +kernel))
set_option maxRecDepth 20000 in
theorem gX6_withWorker_X6_stack : GoodIn wsX6_withWorker (wsV RX6 305 RX6 yX6_stack wsX6_stack) := goodIn_app (goodIn_of _ (by decide +kernel)) ggX6_withWorker_X6_stack
set_option maxRecDepth 20000 in
theorem ggX6_withWorker_X6_told : GoodIn wsX6_withWorker wsX6_told := goodIn_ca (goodIn_ca (goodIn_r _ [39, 40, 41, 7, 8, 9, 10, 5, 11, 12, 13, 14, 15, 16, 17, 18, 19, 20, 56, 57, 58, 59, 60, 61, 62, 63, 64, 65, 66, 67, 68, 69, 70, 71, 72, 73, 74, 75, 76] (by decide +kernel) (by decide +kernel)) (goodIn_sub (fun _ h => List.mem_cons_of_mem _ (List.mem_append_right _ h)) (by decide +kernel))) (goodIn_sub (fun _ h => List.mem_cons_of_mem _ (List.mem_append_left _ (List.mem_append_right _ h))) (by decide +kernel))
set_option maxRecDepth 20000 in
theorem gX6_withWorker_X6_told : GoodIn wsX6_withWorker (wsV RX6 307 RX6 yX6_told wsX6_told) := goodIn_app (goodIn_of _ (by decide +kernel)) ggX6_withWorker_X6_told
set_option maxRecDepth 20000 in
theorem ggX6_withWorker_X6_ran : GoodIn wsX6_withWorker wsX6_ran := goodIn_ca (goodIn_ca (goodIn_r _ [45, 40, 41, 7, 8, 9, 10, 5, 11, 12, 13, 14, 15, 16, 17, 18, 19, 20, 46, 47, 48, 49, 50, 51, 52, 53, 54, 55, 56, 57, 58, 65, 66, 67, 68, 69, 70, 71, 72, 73, 74, 75, 76, 59, 60, 61, 62, 63, 64] (by decide +kernel) (by decide +kernel)) (goodIn_sub (fun _ h => List.mem_cons_of_mem _ (List.mem_append_right _ h)) (by decide +kernel))) (goodIn_sub (fun _ h => List.mem_cons_of_mem _ (List.mem_append_left _ (List.mem_append_right _ h))) (by decide +kernel))
set_option maxRecDepth 20000 in
theorem gX6_withWorker_X6_ran : GoodIn wsX6_withWorker (wsV RX6 310 RX6 yX6_ran wsX6_ran) := goodIn_app (goodIn_of _ (by decide +kernel)) ggX6_withWorker_X6_ran
theorem dX6_withWorker_0 : decode cX6_withWorker 0 = .ok (.lload_n 1, 1) := by decide +kernel
theorem dX6_withWorker_1 : decode cX6_withWorker 1 = .ok (.lstore 4, 2) := by decide +kernel
theorem dX6_withWorker_3 : decode cX6_withWorker 3 = .ok (.lload 4, 2) := by decide +kernel
theorem dX6_withWorker_5 : decode cX6_withWorker 5 = .ok (.ldc2_w 249, 3) := by decide +kernel
theorem dX6_withWorker_8 : decode cX6_withWorker 8 = .ok (.lmul, 1) := by decide +kernel
theorem dX6_withWorker_9 : decode cX6_withWorker 9 = .ok (.aload_n 0, 1) := by decide +kernel
theorem dX6_withWorker_10 : decode cX6_withWorker 10 = .ok (.iload_n 3, 1) := by decide +kernel
theorem dX6_withWorker_11 : decode cX6_withWorker 11 = .ok (.invokevirtual 302, 3) := by decide +kernel
theorem dX6_withWorker_14 : decode cX6_withWorker 14 = .ok (.i2l, 1) := by decide +kernel
theorem dX6_withWorker_15 : decode cX6_withWorker 15 = .ok (.ladd, 1) := by decide +kernel
theorem dX6_withWorker_16 : decode cX6_withWorker 16 = .ok (.lstore 4, 2) := by decide +kernel
theorem dX6_withWorker_18 : decode cX6_withWorker 18 = .ok (.lload 4, 2) := by decide +kernel
theorem dX6_withWorker_20 : decode cX6_withWorker 20 = .ok (.ldc2_w 249, 3) := by decide +kernel
theorem dX6_withWorker_23 : decode cX6_withWorker 23 = .ok (.lmul, 1) := by decide +kernel
theorem dX6_withWorker_24 : decode cX6_withWorker 24 = .ok (.aload_n 0, 1) := by decide +kernel
theorem dX6_withWorker_25 : decode cX6_withWorker 25 = .ok (.iload_n 3, 1) := by decide +kernel
theorem dX6_withWorker_26 : decode cX6_withWorker 26 = .ok (.invokevirtual 305, 3) := by decide +kernel
theorem dX6_withWorker_29 : decode cX6_withWorker 29 = .ok (.i2l, 1) := by decide +kernel
theorem dX6_withWorker_30 : decode cX6_withWorker 30 = .ok (.ladd, 1) := by decide +kernel
theorem dX6_withWorker_31 : decode cX6_withWorker 31 = .ok (.lstore 4, 2) := by decide +kernel
theorem dX6_withWorker_33 : decode cX6_withWorker 33 = .ok (.iconst 0, 1) := by decide +kernel
theorem dX6_withWorker_34 : decode cX6_withWorker 34 = .ok (.istore 6, 2) := by decide +kernel
theorem dX6_withWorker_36 : decode cX6_withWorker 36 = .ok (.iload 6, 2) := by decide +kernel
theorem dX6_withWorker_38 : decode cX6_withWorker 38 = .ok (.iconst 2, 1) := by decide +kernel
theorem dX6_withWorker_39 : decode cX6_withWorker 39 = .ok (.if_icmp .gt 26, 3) := by decide +kernel
theorem dX6_withWorker_42 : decode cX6_withWorker 42 = .ok (.lload 4, 2) := by decide +kernel
theorem dX6_withWorker_44 : decode cX6_withWorker 44 = .ok (.ldc2_w 249, 3) := by decide +kernel
theorem dX6_withWorker_47 : decode cX6_withWorker 47 = .ok (.lmul, 1) := by decide +kernel
theorem dX6_withWorker_48 : decode cX6_withWorker 48 = .ok (.aload_n 0, 1) := by decide +kernel
theorem dX6_withWorker_49 : decode cX6_withWorker 49 = .ok (.iload_n 3, 1) := by decide +kernel
theorem dX6_withWorker_50 : decode cX6_withWorker 50 = .ok (.iload 6, 2) := by decide +kernel
theorem dX6_withWorker_52 : decode cX6_withWorker 52 = .ok (.invokevirtual 307, 3) := by decide +kernel
theorem dX6_withWorker_55 : decode cX6_withWorker 55 = .ok (.i2l, 1) := by decide +kernel
theorem dX6_withWorker_56 : decode cX6_withWorker 56 = .ok (.ladd, 1) := by decide +kernel
theorem dX6_withWorker_57 : decode cX6_withWorker 57 = .ok (.lstore 4, 2) := by decide +kernel
theorem dX6_withWorker_59 : decode cX6_withWorker 59 = .ok (.iinc 6 1, 3) := by decide +kernel
theorem dX6_withWorker_62 : decode cX6_withWorker 62 = .ok (.goto (-26), 3) := by decide +kernel
theorem dX6_withWorker_65 : decode cX6_withWorker 65 = .ok (.iconst 1, 1) := by decide +kernel
theorem dX6_withWorker_66 : decode cX6_withWorker 66 = .ok (.istore 6, 2) := by decide +kernel
theorem dX6_withWorker_68 : decode cX6_withWorker 68 = .ok (.iload 6, 2) := by decide +kernel
theorem dX6_withWorker_70 : decode cX6_withWorker 70 = .ok (.iconst 3, 1) := by decide +kernel
theorem dX6_withWorker_71 : decode cX6_withWorker 71 = .ok (.if_icmp .gt 26, 3) := by decide +kernel
theorem dX6_withWorker_74 : decode cX6_withWorker 74 = .ok (.lload 4, 2) := by decide +kernel
theorem dX6_withWorker_76 : decode cX6_withWorker 76 = .ok (.ldc2_w 249, 3) := by decide +kernel
theorem dX6_withWorker_79 : decode cX6_withWorker 79 = .ok (.lmul, 1) := by decide +kernel
theorem dX6_withWorker_80 : decode cX6_withWorker 80 = .ok (.aload_n 0, 1) := by decide +kernel
theorem dX6_withWorker_81 : decode cX6_withWorker 81 = .ok (.iload_n 3, 1) := by decide +kernel
theorem dX6_withWorker_82 : decode cX6_withWorker 82 = .ok (.iload 6, 2) := by decide +kernel
theorem dX6_withWorker_84 : decode cX6_withWorker 84 = .ok (.invokevirtual 310, 3) := by decide +kernel
theorem dX6_withWorker_87 : decode cX6_withWorker 87 = .ok (.i2l, 1) := by decide +kernel
theorem dX6_withWorker_88 : decode cX6_withWorker 88 = .ok (.ladd, 1) := by decide +kernel
theorem dX6_withWorker_89 : decode cX6_withWorker 89 = .ok (.lstore 4, 2) := by decide +kernel
theorem dX6_withWorker_91 : decode cX6_withWorker 91 = .ok (.iinc 6 1, 3) := by decide +kernel
theorem dX6_withWorker_94 : decode cX6_withWorker 94 = .ok (.goto (-26), 3) := by decide +kernel
theorem dX6_withWorker_97 : decode cX6_withWorker 97 = .ok (.lload 4, 2) := by decide +kernel
theorem dX6_withWorker_99 : decode cX6_withWorker 99 = .ok (.lreturn, 1) := by decide +kernel
set_option maxRecDepth 20000 in
theorem ggX6_needJob_X6_isJob : GoodIn wsX6_needJob wsX6_isJob := goodIn_r _ [7, 8, 9, 10, 11, 12, 13, 14] (by decide +kernel) (by decide +kernel)
set_option maxRecDepth 20000 in
theorem gX6_needJob_X6_isJob : GoodIn wsX6_needJob (wsV RX6 313 RX6 yX6_isJob wsX6_isJob) := goodIn_app (goodIn_of _ (by decide +kernel)) ggX6_needJob_X6_isJob
theorem dX6_needJob_0 : decode cX6_needJob 0 = .ok (.aload_n 0, 1) := by decide +kernel
theorem dX6_needJob_1 : decode cX6_needJob 1 = .ok (.iload_n 1, 1) := by decide +kernel
theorem dX6_needJob_2 : decode cX6_needJob 2 = .ok (.invokevirtual 313, 3) := by decide +kernel
theorem dX6_needJob_5 : decode cX6_needJob 5 = .ok (.ifCond .ne 14, 3) := by decide +kernel
theorem dX6_needJob_8 : decode cX6_needJob 8 = .ok (.new 207, 3) := by decide +kernel
theorem dX6_needJob_11 : decode cX6_needJob 11 = .ok (.dup, 1) := by decide +kernel
theorem dX6_needJob_12 : decode cX6_needJob 12 = .ok (.ldc_w 316, 3) := by decide +kernel
theorem dX6_needJob_15 : decode cX6_needJob 15 = .ok (.invokespecial 211, 3) := by decide +kernel
theorem dX6_needJob_18 : decode cX6_needJob 18 = .ok (.athrow, 1) := by decide +kernel
theorem dX6_needJob_19 : decode cX6_needJob 19 = .ok (.return_, 1) := by decide +kernel
theorem dX6_needTask_0 : decode cX6_needTask 0 = .ok (.iload_n 1, 1) := by decide +kernel
theorem dX6_needTask_1 : decode cX6_needTask 1 = .ok (.ifCond .lt 14, 3) := by decide +kernel
theorem dX6_needTask_4 : decode cX6_needTask 4 = .ok (.iload_n 1, 1) := by decide +kernel
theorem dX6_needTask_5 : decode cX6_needTask 5 = .ok (.aload_n 0, 1) := by decide +kernel
theorem dX6_needTask_6 : decode cX6_needTask 6 = .ok (.getfield 21, 3) := by decide +kernel
theorem dX6_needTask_9 : decode cX6_needTask 9 = .ok (.getfield 107, 3) := by decide +kernel
theorem dX6_needTask_12 : decode cX6_needTask 12 = .ok (.if_icmp .lt 14, 3) := by decide +kernel
theorem dX6_needTask_15 : decode cX6_needTask 15 = .ok (.new 207, 3) := by decide +kernel
theorem dX6_needTask_18 : decode cX6_needTask 18 = .ok (.dup, 1) := by decide +kernel
theorem dX6_needTask_19 : decode cX6_needTask 19 = .ok (.ldc_w 318, 3) := by decide +kernel
theorem dX6_needTask_22 : decode cX6_needTask 22 = .ok (.invokespecial 211, 3) := by decide +kernel
theorem dX6_needTask_25 : decode cX6_needTask 25 = .ok (.athrow, 1) := by decide +kernel
theorem dX6_needTask_26 : decode cX6_needTask 26 = .ok (.return_, 1) := by decide +kernel
theorem dX6_needWorker_0 : decode cX6_needWorker 0 = .ok (.iload_n 1, 1) := by decide +kernel
theorem dX6_needWorker_1 : decode cX6_needWorker 1 = .ok (.ifCond .lt 14, 3) := by decide +kernel
theorem dX6_needWorker_4 : decode cX6_needWorker 4 = .ok (.iload_n 1, 1) := by decide +kernel
theorem dX6_needWorker_5 : decode cX6_needWorker 5 = .ok (.aload_n 0, 1) := by decide +kernel
theorem dX6_needWorker_6 : decode cX6_needWorker 6 = .ok (.getfield 21, 3) := by decide +kernel
theorem dX6_needWorker_9 : decode cX6_needWorker 9 = .ok (.getfield 84, 3) := by decide +kernel
theorem dX6_needWorker_12 : decode cX6_needWorker 12 = .ok (.if_icmp .lt 14, 3) := by decide +kernel
theorem dX6_needWorker_15 : decode cX6_needWorker 15 = .ok (.new 207, 3) := by decide +kernel
theorem dX6_needWorker_18 : decode cX6_needWorker 18 = .ok (.dup, 1) := by decide +kernel
theorem dX6_needWorker_19 : decode cX6_needWorker 19 = .ok (.ldc_w 320, 3) := by decide +kernel
theorem dX6_needWorker_22 : decode cX6_needWorker 22 = .ok (.invokespecial 211, 3) := by decide +kernel
theorem dX6_needWorker_25 : decode cX6_needWorker 25 = .ok (.athrow, 1) := by decide +kernel
theorem dX6_needWorker_26 : decode cX6_needWorker 26 = .ok (.return_, 1) := by decide +kernel
set_option maxRecDepth 20000 in
theorem ggX6_needRow_X6_needWorker : GoodIn wsX6_needRow wsX6_needWorker := goodIn_ca (goodIn_r _ [5, 6, 7, 8, 9, 10, 11, 12, 13, 14, 15, 16, 17, 18, 19, 20, 21, 22, 23] (by decide +kernel) (by decide +kernel)) (goodIn_sub (fun _ h => List.mem_cons_of_mem _ (List.mem_append_right _ h)) (by decide +kernel))
set_option maxRecDepth 20000 in
theorem gX6_needRow_X6_needWorker : GoodIn wsX6_needRow (wsV RX6 181 RX6 yX6_needWorker wsX6_needWorker) := goodIn_app (goodIn_of _ (by decide +kernel)) ggX6_needRow_X6_needWorker
theorem dX6_needRow_0 : decode cX6_needRow 0 = .ok (.iload_n 1, 1) := by decide +kernel
theorem dX6_needRow_1 : decode cX6_needRow 1 = .ok (.iconst (-1), 1) := by decide +kernel
theorem dX6_needRow_2 : decode cX6_needRow 2 = .ok (.if_icmp .eq 8, 3) := by decide +kernel
theorem dX6_needRow_5 : decode cX6_needRow 5 = .ok (.aload_n 0, 1) := by decide +kernel
theorem dX6_needRow_6 : decode cX6_needRow 6 = .ok (.iload_n 1, 1) := by decide +kernel
theorem dX6_needRow_7 : decode cX6_needRow 7 = .ok (.invokevirtual 181, 3) := by decide +kernel
theorem dX6_needRow_10 : decode cX6_needRow 10 = .ok (.return_, 1) := by decide +kernel
set_option maxRecDepth 20000 in
theorem ggX6_needPromise_X6_isPromise : GoodIn wsX6_needPromise wsX6_isPromise := goodIn_r _ [6] (by decide +kernel) (by decide +kernel)
set_option maxRecDepth 20000 in
theorem gX6_needPromise_X6_isPromise : GoodIn wsX6_needPromise (va_wsS RX6 322 yX6_isPromise wsX6_isPromise) := goodIn_app (goodIn_of _ (by decide +kernel)) ggX6_needPromise_X6_isPromise
theorem dX6_needPromise_0 : decode cX6_needPromise 0 = .ok (.iload_n 0, 1) := by decide +kernel
theorem dX6_needPromise_1 : decode cX6_needPromise 1 = .ok (.invokestatic 322, 3) := by decide +kernel
theorem dX6_needPromise_4 : decode cX6_needPromise 4 = .ok (.ifCond .ne 14, 3) := by decide +kernel
theorem dX6_needPromise_7 : decode cX6_needPromise 7 = .ok (.new 207, 3) := by decide +kernel
theorem dX6_needPromise_10 : decode cX6_needPromise 10 = .ok (.dup, 1) := by decide +kernel
theorem dX6_needPromise_11 : decode cX6_needPromise 11 = .ok (.ldc_w 325, 3) := by decide +kernel
theorem dX6_needPromise_14 : decode cX6_needPromise 14 = .ok (.invokespecial 211, 3) := by decide +kernel
theorem dX6_needPromise_17 : decode cX6_needPromise 17 = .ok (.athrow, 1) := by decide +kernel
theorem dX6_needPromise_18 : decode cX6_needPromise 18 = .ok (.return_, 1) := by decide +kernel
theorem dX6_needWorkerCount_0 : decode cX6_needWorkerCount 0 = .ok (.iload_n 0, 1) := by decide +kernel
theorem dX6_needWorkerCount_1 : decode cX6_needWorkerCount 1 = .ok (.iconst 1, 1) := by decide +kernel
theorem dX6_needWorkerCount_2 : decode cX6_needWorkerCount 2 = .ok (.if_icmp .lt 8, 3) := by decide +kernel
theorem dX6_needWorkerCount_5 : decode cX6_needWorkerCount 5 = .ok (.iload_n 0, 1) := by decide +kernel
theorem dX6_needWorkerCount_6 : decode cX6_needWorkerCount 6 = .ok (.iconst 5, 1) := by decide +kernel
theorem dX6_needWorkerCount_7 : decode cX6_needWorkerCount 7 = .ok (.if_icmp .le 14, 3) := by decide +kernel
theorem dX6_needWorkerCount_10 : decode cX6_needWorkerCount 10 = .ok (.new 51, 3) := by decide +kernel
theorem dX6_needWorkerCount_13 : decode cX6_needWorkerCount 13 = .ok (.dup, 1) := by decide +kernel
theorem dX6_needWorkerCount_14 : decode cX6_needWorkerCount 14 = .ok (.ldc_w 327, 3) := by decide +kernel
theorem dX6_needWorkerCount_17 : decode cX6_needWorkerCount 17 = .ok (.invokespecial 55, 3) := by decide +kernel
theorem dX6_needWorkerCount_20 : decode cX6_needWorkerCount 20 = .ok (.athrow, 1) := by decide +kernel
theorem dX6_needWorkerCount_21 : decode cX6_needWorkerCount 21 = .ok (.return_, 1) := by decide +kernel
theorem dX6_needWay_0 : decode cX6_needWay 0 = .ok (.iload_n 0, 1) := by decide +kernel
theorem dX6_needWay_1 : decode cX6_needWay 1 = .ok (.ifCond .lt 8, 3) := by decide +kernel
theorem dX6_needWay_4 : decode cX6_needWay 4 = .ok (.iload_n 0, 1) := by decide +kernel
theorem dX6_needWay_5 : decode cX6_needWay 5 = .ok (.iconst 2, 1) := by decide +kernel
theorem dX6_needWay_6 : decode cX6_needWay 6 = .ok (.if_icmp .le 14, 3) := by decide +kernel
theorem dX6_needWay_9 : decode cX6_needWay 9 = .ok (.new 51, 3) := by decide +kernel
theorem dX6_needWay_12 : decode cX6_needWay 12 = .ok (.dup, 1) := by decide +kernel
theorem dX6_needWay_13 : decode cX6_needWay 13 = .ok (.ldc_w 329, 3) := by decide +kernel
theorem dX6_needWay_16 : decode cX6_needWay 16 = .ok (.invokespecial 55, 3) := by decide +kernel
theorem dX6_needWay_19 : decode cX6_needWay 19 = .ok (.athrow, 1) := by decide +kernel
theorem dX6_needWay_20 : decode cX6_needWay 20 = .ok (.return_, 1) := by decide +kernel
theorem dX6_needTicksAhead_0 : decode cX6_needTicksAhead 0 = .ok (.iload_n 0, 1) := by decide +kernel
theorem dX6_needTicksAhead_1 : decode cX6_needTicksAhead 1 = .ok (.iconst 1, 1) := by decide +kernel
theorem dX6_needTicksAhead_2 : decode cX6_needTicksAhead 2 = .ok (.if_icmp .lt 9, 3) := by decide +kernel
theorem dX6_needTicksAhead_5 : decode cX6_needTicksAhead 5 = .ok (.iload_n 0, 1) := by decide +kernel
theorem dX6_needTicksAhead_6 : decode cX6_needTicksAhead 6 = .ok (.bipush 60, 2) := by decide +kernel
theorem dX6_needTicksAhead_8 : decode cX6_needTicksAhead 8 = .ok (.if_icmp .le 14, 3) := by decide +kernel
theorem dX6_needTicksAhead_11 : decode cX6_needTicksAhead 11 = .ok (.new 51, 3) := by decide +kernel
theorem dX6_needTicksAhead_14 : decode cX6_needTicksAhead 14 = .ok (.dup, 1) := by decide +kernel
theorem dX6_needTicksAhead_15 : decode cX6_needTicksAhead 15 = .ok (.ldc_w 331, 3) := by decide +kernel
theorem dX6_needTicksAhead_18 : decode cX6_needTicksAhead 18 = .ok (.invokespecial 55, 3) := by decide +kernel
theorem dX6_needTicksAhead_21 : decode cX6_needTicksAhead 21 = .ok (.athrow, 1) := by decide +kernel
theorem dX6_needTicksAhead_22 : decode cX6_needTicksAhead 22 = .ok (.return_, 1) := by decide +kernel
theorem dX6_isJob_0 : decode cX6_isJob 0 = .ok (.iload_n 1, 1) := by decide +kernel
theorem dX6_isJob_1 : decode cX6_isJob 1 = .ok (.ifCond .lt 18, 3) := by decide +kernel
theorem dX6_isJob_4 : decode cX6_isJob 4 = .ok (.iload_n 1, 1) := by decide +kernel
theorem dX6_isJob_5 : decode cX6_isJob 5 = .ok (.aload_n 0, 1) := by decide +kernel
theorem dX6_isJob_6 : decode cX6_isJob 6 = .ok (.getfield 10, 3) := by decide +kernel
theorem dX6_isJob_9 : decode cX6_isJob 9 = .ok (.getfield 28, 3) := by decide +kernel
theorem dX6_isJob_12 : decode cX6_isJob 12 = .ok (.if_icmp .ge 7, 3) := by decide +kernel
theorem dX6_isJob_15 : decode cX6_isJob 15 = .ok (.iconst 1, 1) := by decide +kernel
theorem dX6_isJob_16 : decode cX6_isJob 16 = .ok (.goto 4, 3) := by decide +kernel
theorem dX6_isJob_19 : decode cX6_isJob 19 = .ok (.iconst 0, 1) := by decide +kernel
theorem dX6_isJob_20 : decode cX6_isJob 20 = .ok (.ireturn, 1) := by decide +kernel
theorem dX6_isPromise_0 : decode cX6_isPromise 0 = .ok (.iload_n 0, 1) := by decide +kernel
theorem dX6_isPromise_1 : decode cX6_isPromise 1 = .ok (.ifCond .lt 13, 3) := by decide +kernel
theorem dX6_isPromise_4 : decode cX6_isPromise 4 = .ok (.iload_n 0, 1) := by decide +kernel
theorem dX6_isPromise_5 : decode cX6_isPromise 5 = .ok (.bipush 6, 2) := by decide +kernel
theorem dX6_isPromise_7 : decode cX6_isPromise 7 = .ok (.if_icmp .ge 7, 3) := by decide +kernel
theorem dX6_isPromise_10 : decode cX6_isPromise 10 = .ok (.iconst 1, 1) := by decide +kernel
theorem dX6_isPromise_11 : decode cX6_isPromise 11 = .ok (.goto 4, 3) := by decide +kernel
theorem dX6_isPromise_14 : decode cX6_isPromise 14 = .ok (.iconst 0, 1) := by decide +kernel
theorem dX6_isPromise_15 : decode cX6_isPromise 15 = .ok (.ireturn, 1) := by decide +kernel
set_option maxRecDepth 20000 in
theorem ggX6_isStep_X6_isJob : GoodIn wsX6_isStep wsX6_isJob := goodIn_r _ [5, 6, 10, 11, 12, 13, 14, 15] (by decide +kernel) (by decide +kernel)
set_option maxRecDepth 20000 in
theorem gX6_isStep_X6_isJob : GoodIn wsX6_isStep (wsV RX6 313 RX6 yX6_isJob wsX6_isJob) := goodIn_app (goodIn_of _ (by decide +kernel)) ggX6_isStep_X6_isJob
set_option maxRecDepth 20000 in
theorem ggX6_isStep_X6_isPromise : GoodIn wsX6_isStep wsX6_isPromise := goodIn_r _ [9] (by decide +kernel) (by decide +kernel)
set_option maxRecDepth 20000 in
theorem gX6_isStep_X6_isPromise : GoodIn wsX6_isStep (va_wsS RX6 322 yX6_isPromise wsX6_isPromise) := goodIn_app (goodIn_of _ (by decide +kernel)) ggX6_isStep_X6_isPromise
theorem dX6_isStep_0 : decode cX6_isStep 0 = .ok (.iload_n 1, 1) := by decide +kernel
theorem dX6_isStep_1 : decode cX6_isStep 1 = .ok (.tableswitch 101 0 9 #[55, 72, 101, 101, 101, 78, 101, 101, 96, 96], 55) := by decide +kernel
theorem dX6_isStep_56 : decode cX6_isStep 56 = .ok (.iload_n 2, 1) := by decide +kernel
theorem dX6_isStep_57 : decode cX6_isStep 57 = .ok (.iconst 1, 1) := by decide +kernel
theorem dX6_isStep_58 : decode cX6_isStep 58 = .ok (.if_icmp .lt 13, 3) := by decide +kernel
theorem dX6_isStep_61 : decode cX6_isStep 61 = .ok (.iload_n 2, 1) := by decide +kernel
theorem dX6_isStep_62 : decode cX6_isStep 62 = .ok (.bipush 20, 2) := by decide +kernel
theorem dX6_isStep_64 : decode cX6_isStep 64 = .ok (.if_icmp .gt 7, 3) := by decide +kernel
theorem dX6_isStep_67 : decode cX6_isStep 67 = .ok (.iconst 1, 1) := by decide +kernel
theorem dX6_isStep_68 : decode cX6_isStep 68 = .ok (.goto 4, 3) := by decide +kernel
theorem dX6_isStep_71 : decode cX6_isStep 71 = .ok (.iconst 0, 1) := by decide +kernel
theorem dX6_isStep_72 : decode cX6_isStep 72 = .ok (.ireturn, 1) := by decide +kernel
theorem dX6_isStep_73 : decode cX6_isStep 73 = .ok (.aload_n 0, 1) := by decide +kernel
theorem dX6_isStep_74 : decode cX6_isStep 74 = .ok (.iload_n 2, 1) := by decide +kernel
theorem dX6_isStep_75 : decode cX6_isStep 75 = .ok (.invokevirtual 313, 3) := by decide +kernel
theorem dX6_isStep_78 : decode cX6_isStep 78 = .ok (.ireturn, 1) := by decide +kernel
theorem dX6_isStep_79 : decode cX6_isStep 79 = .ok (.iload_n 2, 1) := by decide +kernel
theorem dX6_isStep_80 : decode cX6_isStep 80 = .ok (.bipush (-100), 2) := by decide +kernel
theorem dX6_isStep_82 : decode cX6_isStep 82 = .ok (.if_icmp .lt 13, 3) := by decide +kernel
theorem dX6_isStep_85 : decode cX6_isStep 85 = .ok (.iload_n 2, 1) := by decide +kernel
theorem dX6_isStep_86 : decode cX6_isStep 86 = .ok (.bipush 100, 2) := by decide +kernel
theorem dX6_isStep_88 : decode cX6_isStep 88 = .ok (.if_icmp .gt 7, 3) := by decide +kernel
theorem dX6_isStep_91 : decode cX6_isStep 91 = .ok (.iconst 1, 1) := by decide +kernel
theorem dX6_isStep_92 : decode cX6_isStep 92 = .ok (.goto 4, 3) := by decide +kernel
theorem dX6_isStep_95 : decode cX6_isStep 95 = .ok (.iconst 0, 1) := by decide +kernel
theorem dX6_isStep_96 : decode cX6_isStep 96 = .ok (.ireturn, 1) := by decide +kernel
theorem dX6_isStep_97 : decode cX6_isStep 97 = .ok (.iload_n 2, 1) := by decide +kernel
theorem dX6_isStep_98 : decode cX6_isStep 98 = .ok (.invokestatic 322, 3) := by decide +kernel
theorem dX6_isStep_101 : decode cX6_isStep 101 = .ok (.ireturn, 1) := by decide +kernel
theorem dX6_isStep_102 : decode cX6_isStep 102 = .ok (.iload_n 1, 1) := by decide +kernel
theorem dX6_isStep_103 : decode cX6_isStep 103 = .ok (.ifCond .lt 13, 3) := by decide +kernel
theorem dX6_isStep_106 : decode cX6_isStep 106 = .ok (.iload_n 1, 1) := by decide +kernel
theorem dX6_isStep_107 : decode cX6_isStep 107 = .ok (.bipush 9, 2) := by decide +kernel
theorem dX6_isStep_109 : decode cX6_isStep 109 = .ok (.if_icmp .gt 7, 3) := by decide +kernel
theorem dX6_isStep_112 : decode cX6_isStep 112 = .ok (.iconst 1, 1) := by decide +kernel
theorem dX6_isStep_113 : decode cX6_isStep 113 = .ok (.goto 4, 3) := by decide +kernel
theorem dX6_isStep_116 : decode cX6_isStep 116 = .ok (.iconst 0, 1) := by decide +kernel
theorem dX6_isStep_117 : decode cX6_isStep 117 = .ok (.ireturn, 1) := by decide +kernel

