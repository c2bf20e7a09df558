set_option maxRecDepth 20000 in
theorem ggX10_init_Jx4a65c_init_da8c8 : GoodIn wsX10_init wsJx4a65c_init_da8c8 := goodIn_r _ [14, 15, 16, 17, 18, 19, 20, 21, 22, 23, 24, 25, 26, 2, 3, 105, 106, 107] (by decide +kernel) (by decide +kernel)
set_option maxRecDepth 20000 in
theorem gX10_init_Jx4a65c_init_da8c8 : GoodIn wsX10_init (wsJx4a65c_init_da8c8) := ggX10_init_Jx4a65c_init_da8c8
set_option maxRecDepth 20000 in
theorem ggX10_init_X7_init : GoodIn wsX10_init wsX7_init := goodIn_r _ [29, 30, 2, 3, 31, 5, 6, 32, 33, 34, 35, 36, 37, 38, 39, 40, 41, 42, 13, 14, 15, 16, 17, 18, 19, 20, 21, 22, 23, 24, 25, 26, 43, 44, 45, 46, 47, 48, 49, 50, 51, 52, 53, 54, 55, 56, 57, 58, 59, 60, 61, 62, 63, 64, 65, 66, 67, 68, 69, 70, 71, 72, 73, 74, 75, 76, 77, 78, 79, 80, 81, 82, 83, 84, 85, 86, 87, 88, 89, 90, 91, 92, 93, 94, 95, 96, 97, 98, 99, 100, 101, 102, 103, 104, 105, 106, 107, 111, 112, 113, 114, 115, 116, 117, 118, 119, 120, 121, 122] (by decide +kernel) (by decide +kernel)
set_option maxRecDepth 20000 in
theorem gX10_init_X7_init : GoodIn wsX10_init (wsX7_init) := ggX10_init_X7_init
theorem dX10_init_0 : decode cX10_init 0 = .ok (.aload_n 0, 1) := by decide +kernel
theorem dX10_init_1 : decode cX10_init 1 = .ok (.invokespecial 19, 3) := by decide +kernel
theorem dX10_init_4 : decode cX10_init 4 = .ok (.aload_n 0, 1) := by decide +kernel
theorem dX10_init_5 : decode cX10_init 5 = .ok (.new 2, 3) := by decide +kernel
theorem dX10_init_8 : decode cX10_init 8 = .ok (.dup, 1) := by decide +kernel
theorem dX10_init_9 : decode cX10_init 9 = .ok (.invokespecial 25, 3) := by decide +kernel
theorem dX10_init_12 : decode cX10_init 12 = .ok (.putfield 26, 3) := by decide +kernel
theorem dX10_init_15 : decode cX10_init 15 = .ok (.aload_n 0, 1) := by decide +kernel
theorem dX10_init_16 : decode cX10_init 16 = .ok (.new 32, 3) := by decide +kernel
theorem dX10_init_19 : decode cX10_init 19 = .ok (.dup, 1) := by decide +kernel
theorem dX10_init_20 : decode cX10_init 20 = .ok (.aload_n 0, 1) := by decide +kernel
theorem dX10_init_21 : decode cX10_init 21 = .ok (.getfield 26, 3) := by decide +kernel
theorem dX10_init_24 : decode cX10_init 24 = .ok (.iconst 1, 1) := by decide +kernel
theorem dX10_init_25 : decode cX10_init 25 = .ok (.invokespecial 34, 3) := by decide +kernel
theorem dX10_init_28 : decode cX10_init 28 = .ok (.putfield 37, 3) := by decide +kernel
theorem dX10_init_31 : decode cX10_init 31 = .ok (.return_, 1) := by decide +kernel
theorem dX10_thrown_0 : decode cX10_thrown 0 = .ok (.aload_n 0, 1) := by decide +kernel
theorem dX10_thrown_1 : decode cX10_thrown 1 = .ok (.getfield 41, 3) := by decide +kernel
theorem dX10_thrown_4 : decode cX10_thrown 4 = .ok (.ireturn, 1) := by decide +kernel
theorem dX10_isIn_0 : decode cX10_isIn 0 = .ok (.iload_n 0, 1) := by decide +kernel
theorem dX10_isIn_1 : decode cX10_isIn 1 = .ok (.iload_n 1, 1) := by decide +kernel
theorem dX10_isIn_2 : decode cX10_isIn 2 = .ok (.if_icmp .lt 12, 3) := by decide +kernel
theorem dX10_isIn_5 : decode cX10_isIn 5 = .ok (.iload_n 0, 1) := by decide +kernel
theorem dX10_isIn_6 : decode cX10_isIn 6 = .ok (.iload_n 2, 1) := by decide +kernel
theorem dX10_isIn_7 : decode cX10_isIn 7 = .ok (.if_icmp .gt 7, 3) := by decide +kernel
theorem dX10_isIn_10 : decode cX10_isIn 10 = .ok (.iconst 1, 1) := by decide +kernel
theorem dX10_isIn_11 : decode cX10_isIn 11 = .ok (.goto 4, 3) := by decide +kernel
theorem dX10_isIn_14 : decode cX10_isIn 14 = .ok (.iconst 0, 1) := by decide +kernel
theorem dX10_isIn_15 : decode cX10_isIn 15 = .ok (.ireturn, 1) := by decide +kernel
theorem dX10_refuse_0 : decode cX10_refuse 0 = .ok (.iload_n 1, 1) := by decide +kernel
theorem dX10_refuse_1 : decode cX10_refuse 1 = .ok (.ifCond .eq 15, 3) := by decide +kernel
theorem dX10_refuse_4 : decode cX10_refuse 4 = .ok (.aload_n 0, 1) := by decide +kernel
theorem dX10_refuse_5 : decode cX10_refuse 5 = .ok (.getfield 41, 3) := by decide +kernel
theorem dX10_refuse_8 : decode cX10_refuse 8 = .ok (.ifCond .ne 8, 3) := by decide +kernel
theorem dX10_refuse_11 : decode cX10_refuse 11 = .ok (.aload_n 0, 1) := by decide +kernel
theorem dX10_refuse_12 : decode cX10_refuse 12 = .ok (.iload_n 2, 1) := by decide +kernel
theorem dX10_refuse_13 : decode cX10_refuse 13 = .ok (.putfield 41, 3) := by decide +kernel
theorem dX10_refuse_16 : decode cX10_refuse 16 = .ok (.aload_n 0, 1) := by decide +kernel
theorem dX10_refuse_17 : decode cX10_refuse 17 = .ok (.getfield 41, 3) := by decide +kernel
theorem dX10_refuse_20 : decode cX10_refuse 20 = .ok (.ifCond .le 7, 3) := by decide +kernel
theorem dX10_refuse_23 : decode cX10_refuse 23 = .ok (.iconst 1, 1) := by decide +kernel
theorem dX10_refuse_24 : decode cX10_refuse 24 = .ok (.goto 4, 3) := by decide +kernel
theorem dX10_refuse_27 : decode cX10_refuse 27 = .ok (.iconst 0, 1) := by decide +kernel
theorem dX10_refuse_28 : decode cX10_refuse 28 = .ok (.ireturn, 1) := by decide +kernel
set_option maxRecDepth 20000 in
theorem ggX10_start_X10_refuse : GoodIn wsX10_start wsX10_refuse := goodIn_r _ [6, 1, 7, 8, 9] (by decide +kernel) (by decide +kernel)
set_option maxRecDepth 20000 in
theorem gX10_start_X10_refuse : GoodIn wsX10_start (wsV RX10 45 RX10 yX10_refuse wsX10_refuse) := goodIn_app (goodIn_of _ (by decide +kernel)) ggX10_start_X10_refuse
theorem dX10_start_0 : decode cX10_start 0 = .ok (.aload_n 0, 1) := by decide +kernel
theorem dX10_start_1 : decode cX10_start 1 = .ok (.iconst 0, 1) := by decide +kernel
theorem dX10_start_2 : decode cX10_start 2 = .ok (.putfield 41, 3) := by decide +kernel
theorem dX10_start_5 : decode cX10_start 5 = .ok (.aload_n 0, 1) := by decide +kernel
theorem dX10_start_6 : decode cX10_start 6 = .ok (.iload_n 1, 1) := by decide +kernel
theorem dX10_start_7 : decode cX10_start 7 = .ok (.iload_n 2, 1) := by decide +kernel
theorem dX10_start_8 : decode cX10_start 8 = .ok (.invokevirtual 45, 3) := by decide +kernel
theorem dX10_start_11 : decode cX10_start 11 = .ok (.ireturn, 1) := by decide +kernel
theorem dX10_plain_0 : decode cX10_plain 0 = .ok (.aload_n 0, 1) := by decide +kernel
theorem dX10_plain_1 : decode cX10_plain 1 = .ok (.iconst 0, 1) := by decide +kernel
theorem dX10_plain_2 : decode cX10_plain 2 = .ok (.putfield 41, 3) := by decide +kernel
theorem dX10_plain_5 : decode cX10_plain 5 = .ok (.iload_n 1, 1) := by decide +kernel
theorem dX10_plain_6 : decode cX10_plain 6 = .ok (.ireturn, 1) := by decide +kernel
set_option maxRecDepth 20000 in
theorem ggX10_addJob_Jx4a65c_size_8abf5 : GoodIn wsX10_addJob wsJx4a65c_size_8abf5 := goodIn_r _ [8, 9, 92, 93, 94] (by decide +kernel) (by decide +kernel)
set_option maxRecDepth 20000 in
theorem gX10_addJob_Jx4a65c_size_8abf5 : GoodIn wsX10_addJob (wsV RX10 1 RJx4a65c yJx4a65c_size_8abf5 wsJx4a65c_size_8abf5) := goodIn_app (goodIn_of _ (by decide +kernel)) ggX10_addJob_Jx4a65c_size_8abf5
set_option maxRecDepth 20000 in
theorem ggX10_addJob_X10_start : GoodIn wsX10_addJob wsX10_start := goodIn_r _ [14, 15, 16, 17, 18, 13, 19, 89, 90, 91] (by decide +kernel) (by decide +kernel)
set_option maxRecDepth 20000 in
theorem gX10_addJob_X10_start : GoodIn wsX10_addJob (wsV RX10 49 RX10 yX10_start wsX10_start) := goodIn_app (goodIn_of _ (by decide +kernel)) ggX10_addJob_X10_start
set_option maxRecDepth 20000 in
theorem ggX10_addJob_Jx4a65c_init_da8c8 : GoodIn wsX10_addJob wsJx4a65c_init_da8c8 := goodIn_r _ [22, 23, 24, 25, 26, 27, 28, 29, 30, 31, 32, 33, 34, 35, 36, 92, 93, 94] (by decide +kernel) (by decide +kernel)
set_option maxRecDepth 20000 in
theorem gX10_addJob_Jx4a65c_init_da8c8 : GoodIn wsX10_addJob (wsJx4a65c_init_da8c8) := ggX10_addJob_Jx4a65c_init_da8c8
set_option maxRecDepth 20000 in
theorem ggX10_addJob_Jx4a65c_add_9ea2d : GoodIn wsX10_addJob wsJx4a65c_add_9ea2d := goodIn_r _ [40, 41, 42, 24, 9, 43, 44, 45, 4, 46, 47, 48, 49, 50, 51, 52, 53, 54, 23, 55, 56, 57, 58, 59, 60, 61, 62, 63, 64, 65, 66, 67, 68, 69, 70, 71, 72, 73, 74, 75, 76, 77, 78, 79, 80, 81, 82, 83, 84, 85, 86, 87, 88, 92, 93, 94] (by decide +kernel) (by decide +kernel)
set_option maxRecDepth 20000 in
theorem gX10_addJob_Jx4a65c_add_9ea2d : GoodIn wsX10_addJob (wsV RX10 52 RJx4a65c yJx4a65c_add_9ea2d wsJx4a65c_add_9ea2d) := goodIn_app (goodIn_of _ (by decide +kernel)) ggX10_addJob_Jx4a65c_add_9ea2d
theorem dX10_addJob_0 : decode cX10_addJob 0 = .ok (.aload_n 0, 1) := by decide +kernel
theorem dX10_addJob_1 : decode cX10_addJob 1 = .ok (.aload_n 0, 1) := by decide +kernel
theorem dX10_addJob_2 : decode cX10_addJob 2 = .ok (.getfield 26, 3) := by decide +kernel
theorem dX10_addJob_5 : decode cX10_addJob 5 = .ok (.invokevirtual 1, 3) := by decide +kernel
theorem dX10_addJob_8 : decode cX10_addJob 8 = .ok (.bipush 8, 2) := by decide +kernel
theorem dX10_addJob_10 : decode cX10_addJob 10 = .ok (.if_icmp .ne 7, 3) := by decide +kernel
theorem dX10_addJob_13 : decode cX10_addJob 13 = .ok (.iconst 1, 1) := by decide +kernel
theorem dX10_addJob_14 : decode cX10_addJob 14 = .ok (.goto 4, 3) := by decide +kernel
theorem dX10_addJob_17 : decode cX10_addJob 17 = .ok (.iconst 0, 1) := by decide +kernel
theorem dX10_addJob_18 : decode cX10_addJob 18 = .ok (.iconst 1, 1) := by decide +kernel
theorem dX10_addJob_19 : decode cX10_addJob 19 = .ok (.invokevirtual 49, 3) := by decide +kernel
theorem dX10_addJob_22 : decode cX10_addJob 22 = .ok (.ifCond .eq 5, 3) := by decide +kernel
theorem dX10_addJob_25 : decode cX10_addJob 25 = .ok (.iconst 0, 1) := by decide +kernel
theorem dX10_addJob_26 : decode cX10_addJob 26 = .ok (.ireturn, 1) := by decide +kernel
theorem dX10_addJob_27 : decode cX10_addJob 27 = .ok (.aload_n 0, 1) := by decide +kernel
theorem dX10_addJob_28 : decode cX10_addJob 28 = .ok (.getfield 26, 3) := by decide +kernel
theorem dX10_addJob_31 : decode cX10_addJob 31 = .ok (.new 2, 3) := by decide +kernel
theorem dX10_addJob_34 : decode cX10_addJob 34 = .ok (.dup, 1) := by decide +kernel
theorem dX10_addJob_35 : decode cX10_addJob 35 = .ok (.invokespecial 25, 3) := by decide +kernel
theorem dX10_addJob_38 : decode cX10_addJob 38 = .ok (.invokevirtual 52, 3) := by decide +kernel
theorem dX10_addJob_41 : decode cX10_addJob 41 = .ok (.pop, 1) := by decide +kernel
theorem dX10_addJob_42 : decode cX10_addJob 42 = .ok (.aload_n 0, 1) := by decide +kernel
theorem dX10_addJob_43 : decode cX10_addJob 43 = .ok (.getfield 26, 3) := by decide +kernel
theorem dX10_addJob_46 : decode cX10_addJob 46 = .ok (.invokevirtual 1, 3) := by decide +kernel
theorem dX10_addJob_49 : decode cX10_addJob 49 = .ok (.iconst 1, 1) := by decide +kernel
theorem dX10_addJob_50 : decode cX10_addJob 50 = .ok (.isub, 1) := by decide +kernel
theorem dX10_addJob_51 : decode cX10_addJob 51 = .ok (.ireturn, 1) := by decide +kernel
set_option maxRecDepth 20000 in
theorem ggX10_isNoJob_Jx4a65c_size_8abf5 : GoodIn wsX10_isNoJob wsJx4a65c_size_8abf5 := goodIn_r _ [6, 7, 15, 16, 17] (by decide +kernel) (by decide +kernel)
set_option maxRecDepth 20000 in
theorem gX10_isNoJob_Jx4a65c_size_8abf5 : GoodIn wsX10_isNoJob (wsV RX10 1 RJx4a65c yJx4a65c_size_8abf5 wsJx4a65c_size_8abf5) := goodIn_app (goodIn_of _ (by decide +kernel)) ggX10_isNoJob_Jx4a65c_size_8abf5
set_option maxRecDepth 20000 in
theorem ggX10_isNoJob_X10_isIn : GoodIn wsX10_isNoJob wsX10_isIn := goodIn_r _ [11] (by decide +kernel) (by decide +kernel)
set_option maxRecDepth 20000 in
theorem gX10_isNoJob_X10_isIn : GoodIn wsX10_isNoJob (va_wsS RX10 56 yX10_isIn wsX10_isIn) := goodIn_app (goodIn_of _ (by decide +kernel)) ggX10_isNoJob_X10_isIn
theorem dX10_isNoJob_0 : decode cX10_isNoJob 0 = .ok (.iload_n 1, 1) := by decide +kernel
theorem dX10_isNoJob_1 : decode cX10_isNoJob 1 = .ok (.iconst 0, 1) := by decide +kernel
theorem dX10_isNoJob_2 : decode cX10_isNoJob 2 = .ok (.aload_n 0, 1) := by decide +kernel
theorem dX10_isNoJob_3 : decode cX10_isNoJob 3 = .ok (.getfield 26, 3) := by decide +kernel
theorem dX10_isNoJob_6 : decode cX10_isNoJob 6 = .ok (.invokevirtual 1, 3) := by decide +kernel
theorem dX10_isNoJob_9 : decode cX10_isNoJob 9 = .ok (.iconst 1, 1) := by decide +kernel
theorem dX10_isNoJob_10 : decode cX10_isNoJob 10 = .ok (.isub, 1) := by decide +kernel
theorem dX10_isNoJob_11 : decode cX10_isNoJob 11 = .ok (.invokestatic 56, 3) := by decide +kernel
theorem dX10_isNoJob_14 : decode cX10_isNoJob 14 = .ok (.ifCond .ne 7, 3) := by decide +kernel
theorem dX10_isNoJob_17 : decode cX10_isNoJob 17 = .ok (.iconst 1, 1) := by decide +kernel
theorem dX10_isNoJob_18 : decode cX10_isNoJob 18 = .ok (.goto 4, 3) := by decide +kernel
theorem dX10_isNoJob_21 : decode cX10_isNoJob 21 = .ok (.iconst 0, 1) := by decide +kernel
theorem dX10_isNoJob_22 : decode cX10_isNoJob 22 = .ok (.ireturn, 1) := by decide +kernel
set_option maxRecDepth 20000 in
theorem ggX10_submit_X10_isNoJob : GoodIn wsX10_submit wsX10_isNoJob := goodIn_r _ [8, 9, 10, 11, 12, 13, 14, 15, 16, 17, 7, 18, 134, 135, 136, 145, 146, 147] (by decide +kernel) (by decide +kernel)
set_option maxRecDepth 20000 in
theorem gX10_submit_X10_isNoJob : GoodIn wsX10_submit (wsV RX10 68 RX10 yX10_isNoJob wsX10_isNoJob) := goodIn_app (goodIn_of _ (by decide +kernel)) ggX10_submit_X10_isNoJob
set_option maxRecDepth 20000 in
theorem ggX10_submit_X10_start : GoodIn wsX10_submit wsX10_start := goodIn_r _ [22, 23, 24, 25, 26, 7, 27, 134, 135, 136] (by decide +kernel) (by decide +kernel)
set_option maxRecDepth 20000 in
theorem gX10_submit_X10_start : GoodIn wsX10_submit (wsV RX10 49 RX10 yX10_start wsX10_start) := goodIn_app (goodIn_of _ (by decide +kernel)) ggX10_submit_X10_start
set_option maxRecDepth 20000 in
theorem ggX10_submit_Jx4a65c_size_8abf5 : GoodIn wsX10_submit wsJx4a65c_size_8abf5 := goodIn_r _ [14, 15, 145, 146, 147] (by decide +kernel) (by decide +kernel)
set_option maxRecDepth 20000 in
theorem gX10_submit_Jx4a65c_size_8abf5 : GoodIn wsX10_submit (wsV RX10 1 RJx4a65c yJx4a65c_size_8abf5 wsJx4a65c_size_8abf5) := goodIn_app (goodIn_of _ (by decide +kernel)) ggX10_submit_Jx4a65c_size_8abf5
set_option maxRecDepth 20000 in
theorem ggX10_submit_X10_refuse : GoodIn wsX10_submit wsX10_refuse := goodIn_r _ [27, 23, 134, 135, 136] (by decide +kernel) (by decide +kernel)
set_option maxRecDepth 20000 in
theorem gX10_submit_X10_refuse : GoodIn wsX10_submit (wsV RX10 45 RX10 yX10_refuse wsX10_refuse) := goodIn_app (goodIn_of _ (by decide +kernel)) ggX10_submit_X10_refuse
theorem dX10_submit_0 : decode cX10_submit 0 = .ok (.aload_n 0, 1) := by decide +kernel
theorem dX10_submit_1 : decode cX10_submit 1 = .ok (.aload_n 0, 1) := by decide +kernel
theorem dX10_submit_2 : decode cX10_submit 2 = .ok (.iload_n 1, 1) := by decide +kernel
theorem dX10_submit_3 : decode cX10_submit 3 = .ok (.invokevirtual 68, 3) := by decide +kernel
theorem dX10_submit_6 : decode cX10_submit 6 = .ok (.iconst 1, 1) := by decide +kernel
theorem dX10_submit_7 : decode cX10_submit 7 = .ok (.invokevirtual 49, 3) := by decide +kernel
theorem dX10_submit_10 : decode cX10_submit 10 = .ok (.ifCond .ne 31, 3) := by decide +kernel
theorem dX10_submit_13 : decode cX10_submit 13 = .ok (.aload_n 0, 1) := by decide +kernel
theorem dX10_submit_14 : decode cX10_submit 14 = .ok (.aload_n 0, 1) := by decide +kernel
theorem dX10_submit_15 : decode cX10_submit 15 = .ok (.getfield 37, 3) := by decide +kernel
theorem dX10_submit_18 : decode cX10_submit 18 = .ok (.getfield 60, 3) := by decide +kernel
theorem dX10_submit_21 : decode cX10_submit 21 = .ok (.invokevirtual 1, 3) := by decide +kernel
theorem dX10_submit_24 : decode cX10_submit 24 = .ok (.bipush 24, 2) := by decide +kernel
theorem dX10_submit_26 : decode cX10_submit 26 = .ok (.if_icmp .ne 7, 3) := by decide +kernel
theorem dX10_submit_29 : decode cX10_submit 29 = .ok (.iconst 1, 1) := by decide +kernel
theorem dX10_submit_30 : decode cX10_submit 30 = .ok (.goto 4, 3) := by decide +kernel
theorem dX10_submit_33 : decode cX10_submit 33 = .ok (.iconst 0, 1) := by decide +kernel
theorem dX10_submit_34 : decode cX10_submit 34 = .ok (.iconst 2, 1) := by decide +kernel
theorem dX10_submit_35 : decode cX10_submit 35 = .ok (.invokevirtual 45, 3) := by decide +kernel
theorem dX10_submit_38 : decode cX10_submit 38 = .ok (.ifCond .eq 7, 3) := by decide +kernel
theorem dX10_submit_41 : decode cX10_submit 41 = .ok (.iconst 0, 1) := by decide +kernel
theorem dX10_submit_42 : decode cX10_submit 42 = .ok (.goto 19, 3) := by decide +kernel
theorem dX10_submit_45 : decode cX10_submit 45 = .ok (.aload_n 0, 1) := by decide +kernel
theorem dX10_submit_46 : decode cX10_submit 46 = .ok (.getfield 37, 3) := by decide +kernel
theorem dX10_submit_49 : decode cX10_submit 49 = .ok (.iload_n 1, 1) := by decide +kernel
theorem dX10_submit_50 : decode cX10_submit 50 = .ok (.iconst (-1), 1) := by decide +kernel
theorem dX10_submit_51 : decode cX10_submit 51 = .ok (.aload_n 0, 1) := by decide +kernel
theorem dX10_submit_52 : decode cX10_submit 52 = .ok (.getfield 37, 3) := by decide +kernel
theorem dX10_submit_55 : decode cX10_submit 55 = .ok (.getfield 110, 3) := by decide +kernel
theorem dX10_submit_58 : decode cX10_submit 58 = .ok (.invokevirtual 113, 3) := by decide +kernel
theorem dX10_submit_61 : decode cX10_submit 61 = .ok (.ireturn, 1) := by decide +kernel
set_option maxRecDepth 20000 in
theorem ggX10_isNoTask_Jx4a65c_size_8abf5 : GoodIn wsX10_isNoTask wsJx4a65c_size_8abf5 := goodIn_r _ [7, 8, 33, 34, 35] (by decide +kernel) (by decide +kernel)
set_option maxRecDepth 20000 in
theorem gX10_isNoTask_Jx4a65c_size_8abf5 : GoodIn wsX10_isNoTask (wsV RX10 1 RJx4a65c yJx4a65c_size_8abf5 wsJx4a65c_size_8abf5) := goodIn_app (goodIn_of _ (by decide +kernel)) ggX10_isNoTask_Jx4a65c_size_8abf5
set_option maxRecDepth 20000 in
theorem ggX10_isNoTask_X10_isIn : GoodIn wsX10_isNoTask wsX10_isIn := goodIn_r _ [12] (by decide +kernel) (by decide +kernel)
set_option maxRecDepth 20000 in
theorem gX10_isNoTask_X10_isIn : GoodIn wsX10_isNoTask (va_wsS RX10 56 yX10_isIn wsX10_isIn) := goodIn_app (goodIn_of _ (by decide +kernel)) ggX10_isNoTask_X10_isIn
set_option maxRecDepth 20000 in
theorem ggX10_isNoTask_X10_start : GoodIn wsX10_isNoTask wsX10_start := goodIn_r _ [16, 17, 18, 19, 20, 11, 21, 22, 23, 24] (by decide +kernel) (by decide +kernel)
set_option maxRecDepth 20000 in
theorem gX10_isNoTask_X10_start : GoodIn wsX10_isNoTask (wsV RX10 49 RX10 yX10_start wsX10_start) := goodIn_app (goodIn_of _ (by decide +kernel)) ggX10_isNoTask_X10_start
theorem dX10_isNoTask_0 : decode cX10_isNoTask 0 = .ok (.aload_n 0, 1) := by decide +kernel
theorem dX10_isNoTask_1 : decode cX10_isNoTask 1 = .ok (.iload_n 1, 1) := by decide +kernel
theorem dX10_isNoTask_2 : decode cX10_isNoTask 2 = .ok (.iconst 0, 1) := by decide +kernel
theorem dX10_isNoTask_3 : decode cX10_isNoTask 3 = .ok (.aload_n 0, 1) := by decide +kernel
theorem dX10_isNoTask_4 : decode cX10_isNoTask 4 = .ok (.getfield 37, 3) := by decide +kernel
theorem dX10_isNoTask_7 : decode cX10_isNoTask 7 = .ok (.getfield 60, 3) := by decide +kernel
theorem dX10_isNoTask_10 : decode cX10_isNoTask 10 = .ok (.invokevirtual 1, 3) := by decide +kernel
theorem dX10_isNoTask_13 : decode cX10_isNoTask 13 = .ok (.iconst 1, 1) := by decide +kernel
theorem dX10_isNoTask_14 : decode cX10_isNoTask 14 = .ok (.isub, 1) := by decide +kernel
theorem dX10_isNoTask_15 : decode cX10_isNoTask 15 = .ok (.invokestatic 56, 3) := by decide +kernel
theorem dX10_isNoTask_18 : decode cX10_isNoTask 18 = .ok (.ifCond .ne 7, 3) := by decide +kernel
theorem dX10_isNoTask_21 : decode cX10_isNoTask 21 = .ok (.iconst 1, 1) := by decide +kernel
theorem dX10_isNoTask_22 : decode cX10_isNoTask 22 = .ok (.goto 4, 3) := by decide +kernel
theorem dX10_isNoTask_25 : decode cX10_isNoTask 25 = .ok (.iconst 0, 1) := by decide +kernel
theorem dX10_isNoTask_26 : decode cX10_isNoTask 26 = .ok (.iconst 1, 1) := by decide +kernel
theorem dX10_isNoTask_27 : decode cX10_isNoTask 27 = .ok (.invokevirtual 49, 3) := by decide +kernel
theorem dX10_isNoTask_30 : decode cX10_isNoTask 30 = .ok (.ireturn, 1) := by decide +kernel
set_option maxRecDepth 20000 in
theorem ggX10_task_Jx4a65c_get_915e3 : GoodIn wsX10_task wsJx4a65c_get_915e3 := goodIn_r _ [8, 9, 10, 11, 12, 13, 14, 15, 16, 17, 18, 19, 20, 7, 21, 22, 34, 35, 36] (by decide +kernel) (by decide +kernel)
set_option maxRecDepth 20000 in
theorem gX10_task_Jx4a65c_get_915e3 : GoodIn wsX10_task (wsV RX10 7 RJx4a65c yJx4a65c_get_915e3 wsJx4a65c_get_915e3) := goodIn_app (goodIn_of _ (by decide +kernel)) ggX10_task_Jx4a65c_get_915e3
theorem dX10_task_0 : decode cX10_task 0 = .ok (.aload_n 0, 1) := by decide +kernel
theorem dX10_task_1 : decode cX10_task 1 = .ok (.getfield 37, 3) := by decide +kernel
theorem dX10_task_4 : decode cX10_task 4 = .ok (.getfield 60, 3) := by decide +kernel
theorem dX10_task_7 : decode cX10_task 7 = .ok (.iload_n 1, 1) := by decide +kernel
theorem dX10_task_8 : decode cX10_task 8 = .ok (.invokevirtual 7, 3) := by decide +kernel
theorem dX10_task_11 : decode cX10_task 11 = .ok (.checkcast 63, 3) := by decide +kernel
theorem dX10_task_14 : decode cX10_task 14 = .ok (.areturn, 1) := by decide +kernel
set_option maxRecDepth 20000 in
theorem ggX10_cancel_X10_isNoTask : GoodIn wsX10_cancel wsX10_isNoTask := goodIn_r _ [6, 1, 7, 8, 9, 10, 11, 12, 13, 14, 15, 5, 16, 17, 18, 19, 20, 21, 22, 23, 24, 25, 184, 185, 186, 187, 188, 189, 190, 191, 192, 193, 194, 195, 196, 197] (by decide +kernel) (by decide +kernel)
set_option maxRecDepth 20000 in
theorem gX10_cancel_X10_isNoTask : GoodIn wsX10_cancel (wsV RX10 117 RX10 yX10_isNoTask wsX10_isNoTask) := goodIn_app (goodIn_of _ (by decide +kernel)) ggX10_cancel_X10_isNoTask
set_option maxRecDepth 20000 in
theorem ggX10_cancel_X10_task : GoodIn wsX10_cancel wsX10_task := goodIn_r _ [29, 1, 7, 30, 31, 32, 33, 11, 34, 13, 35, 36, 37, 38, 39, 40, 41, 42, 43, 44, 45, 46, 47, 184, 185, 186, 187, 188, 189, 190, 191, 192, 193, 194, 195, 196, 197] (by decide +kernel) (by decide +kernel)
set_option maxRecDepth 20000 in
theorem gX10_cancel_X10_task : GoodIn wsX10_cancel (wsV RX10 120 RX10 yX10_task wsX10_task) := goodIn_app (goodIn_of _ (by decide +kernel)) ggX10_cancel_X10_task
set_option maxRecDepth 20000 in
theorem ggX10_cancel_X10_refuse : GoodIn wsX10_cancel wsX10_refuse := goodIn_r _ [25, 21, 184, 185, 186] (by decide +kernel) (by decide +kernel)
set_option maxRecDepth 20000 in
theorem gX10_cancel_X10_refuse : GoodIn wsX10_cancel (wsV RX10 45 RX10 yX10_refuse wsX10_refuse) := goodIn_app (goodIn_of _ (by decide +kernel)) ggX10_cancel_X10_refuse
theorem dX10_cancel_0 : decode cX10_cancel 0 = .ok (.aload_n 0, 1) := by decide +kernel
theorem dX10_cancel_1 : decode cX10_cancel 1 = .ok (.iload_n 1, 1) := by decide +kernel
theorem dX10_cancel_2 : decode cX10_cancel 2 = .ok (.invokevirtual 117, 3) := by decide +kernel
theorem dX10_cancel_5 : decode cX10_cancel 5 = .ok (.ifCond .ne 19, 3) := by decide +kernel
theorem dX10_cancel_8 : decode cX10_cancel 8 = .ok (.aload_n 0, 1) := by decide +kernel
theorem dX10_cancel_9 : decode cX10_cancel 9 = .ok (.aload_n 0, 1) := by decide +kernel
theorem dX10_cancel_10 : decode cX10_cancel 10 = .ok (.iload_n 1, 1) := by decide +kernel
theorem dX10_cancel_11 : decode cX10_cancel 11 = .ok (.invokevirtual 120, 3) := by decide +kernel
theorem dX10_cancel_14 : decode cX10_cancel 14 = .ok (.invokevirtual 124, 3) := by decide +kernel
theorem dX10_cancel_17 : decode cX10_cancel 17 = .ok (.iconst 2, 1) := by decide +kernel
theorem dX10_cancel_18 : decode cX10_cancel 18 = .ok (.invokevirtual 45, 3) := by decide +kernel
theorem dX10_cancel_21 : decode cX10_cancel 21 = .ok (.ifCond .eq 7, 3) := by decide +kernel
theorem dX10_cancel_24 : decode cX10_cancel 24 = .ok (.iconst 0, 1) := by decide +kernel
theorem dX10_cancel_25 : decode cX10_cancel 25 = .ok (.goto 11, 3) := by decide +kernel
theorem dX10_cancel_28 : decode cX10_cancel 28 = .ok (.aload_n 0, 1) := by decide +kernel
theorem dX10_cancel_29 : decode cX10_cancel 29 = .ok (.getfield 37, 3) := by decide +kernel
theorem dX10_cancel_32 : decode cX10_cancel 32 = .ok (.iload_n 1, 1) := by decide +kernel
theorem dX10_cancel_33 : decode cX10_cancel 33 = .ok (.invokevirtual 127, 3) := by decide +kernel
theorem dX10_cancel_36 : decode cX10_cancel 36 = .ok (.ireturn, 1) := by decide +kernel
set_option maxRecDepth 20000 in
theorem ggX10_isNoPromise_X10_isIn : GoodIn wsX10_isNoPromise wsX10_isIn := goodIn_r _ [4] (by decide +kernel) (by decide +kernel)
set_option maxRecDepth 20000 in
theorem gX10_isNoPromise_X10_isIn : GoodIn wsX10_isNoPromise (va_wsS RX10 56 yX10_isIn wsX10_isIn) := goodIn_app (goodIn_of _ (by decide +kernel)) ggX10_isNoPromise_X10_isIn
set_option maxRecDepth 20000 in
theorem ggX10_isNoPromise_X10_start : GoodIn wsX10_isNoPromise wsX10_start := goodIn_r _ [8, 9, 10, 11, 12, 3, 13, 14, 15, 16] (by decide +kernel) (by decide +kernel)
set_option maxRecDepth 20000 in
theorem gX10_isNoPromise_X10_start : GoodIn wsX10_isNoPromise (wsV RX10 49 RX10 yX10_start wsX10_start) := goodIn_app (goodIn_of _ (by decide +kernel)) ggX10_isNoPromise_X10_start
theorem dX10_isNoPromise_0 : decode cX10_isNoPromise 0 = .ok (.aload_n 0, 1) := by decide +kernel
theorem dX10_isNoPromise_1 : decode cX10_isNoPromise 1 = .ok (.iload_n 1, 1) := by decide +kernel
theorem dX10_isNoPromise_2 : decode cX10_isNoPromise 2 = .ok (.iconst 0, 1) := by decide +kernel
theorem dX10_isNoPromise_3 : decode cX10_isNoPromise 3 = .ok (.iconst 5, 1) := by decide +kernel
theorem dX10_isNoPromise_4 : decode cX10_isNoPromise 4 = .ok (.invokestatic 56, 3) := by decide +kernel
theorem dX10_isNoPromise_7 : decode cX10_isNoPromise 7 = .ok (.ifCond .ne 7, 3) := by decide +kernel
theorem dX10_isNoPromise_10 : decode cX10_isNoPromise 10 = .ok (.iconst 1, 1) := by decide +kernel
theorem dX10_isNoPromise_11 : decode cX10_isNoPromise 11 = .ok (.goto 4, 3) := by decide +kernel
theorem dX10_isNoPromise_14 : decode cX10_isNoPromise 14 = .ok (.iconst 0, 1) := by decide +kernel
theorem dX10_isNoPromise_15 : decode cX10_isNoPromise 15 = .ok (.iconst 1, 1) := by decide +kernel
theorem dX10_isNoPromise_16 : decode cX10_isNoPromise 16 = .ok (.invokevirtual 49, 3) := by decide +kernel
theorem dX10_isNoPromise_19 : decode cX10_isNoPromise 19 = .ok (.ireturn, 1) := by decide +kernel
set_option maxRecDepth 20000 in
theorem ggX10_clock_X10_plain : GoodIn wsX10_clock wsX10_plain := goodIn_r _ [7, 8, 9, 10, 11] (by decide +kernel) (by decide +kernel)
set_option maxRecDepth 20000 in
theorem gX10_clock_X10_plain : GoodIn wsX10_clock (wsV RX10 146 RX10 yX10_plain wsX10_plain) := goodIn_app (goodIn_of _ (by decide +kernel)) ggX10_clock_X10_plain
theorem dX10_clock_0 : decode cX10_clock 0 = .ok (.aload_n 0, 1) := by decide +kernel
theorem dX10_clock_1 : decode cX10_clock 1 = .ok (.aload_n 0, 1) := by decide +kernel
theorem dX10_clock_2 : decode cX10_clock 2 = .ok (.getfield 37, 3) := by decide +kernel
theorem dX10_clock_5 : decode cX10_clock 5 = .ok (.getfield 143, 3) := by decide +kernel
theorem dX10_clock_8 : decode cX10_clock 8 = .ok (.invokevirtual 146, 3) := by decide +kernel
theorem dX10_clock_11 : decode cX10_clock 11 = .ok (.ireturn, 1) := by decide +kernel
set_option maxRecDepth 20000 in
theorem ggX10_tasks_Jx4a65c_size_8abf5 : GoodIn wsX10_tasks wsJx4a65c_size_8abf5 := goodIn_r _ [7, 8, 26, 27, 28] (by decide +kernel) (by decide +kernel)
set_option maxRecDepth 20000 in
theorem gX10_tasks_Jx4a65c_size_8abf5 : GoodIn wsX10_tasks (wsV RX10 1 RJx4a65c yJx4a65c_size_8abf5 wsJx4a65c_size_8abf5) := goodIn_app (goodIn_of _ (by decide +kernel)) ggX10_tasks_Jx4a65c_size_8abf5
set_option maxRecDepth 20000 in
theorem ggX10_tasks_X10_plain : GoodIn wsX10_tasks wsX10_plain := goodIn_r _ [13, 14, 15, 16, 17] (by decide +kernel) (by decide +kernel)
set_option maxRecDepth 20000 in
theorem gX10_tasks_X10_plain : GoodIn wsX10_tasks (wsV RX10 146 RX10 yX10_plain wsX10_plain) := goodIn_app (goodIn_of _ (by decide +kernel)) ggX10_tasks_X10_plain
theorem dX10_tasks_0 : decode cX10_tasks 0 = .ok (.aload_n 0, 1) := by decide +kernel
theorem dX10_tasks_1 : decode cX10_tasks 1 = .ok (.aload_n 0, 1) := by decide +kernel
theorem dX10_tasks_2 : decode cX10_tasks 2 = .ok (.getfield 37, 3) := by decide +kernel
theorem dX10_tasks_5 : decode cX10_tasks 5 = .ok (.getfield 60, 3) := by decide +kernel
theorem dX10_tasks_8 : decode cX10_tasks 8 = .ok (.invokevirtual 1, 3) := by decide +kernel
theorem dX10_tasks_11 : decode cX10_tasks 11 = .ok (.invokevirtual 146, 3) := by decide +kernel
theorem dX10_tasks_14 : decode cX10_tasks 14 = .ok (.ireturn, 1) := by decide +kernel
set_option maxRecDepth 20000 in
theorem ggX10_stateOf_X10_isNoTask : GoodIn wsX10_stateOf wsX10_isNoTask := goodIn_r _ [6, 7, 8, 9, 10, 11, 12, 13, 14, 15, 16, 5, 17, 18, 19, 20, 21, 22, 23, 24, 25, 26, 59, 60, 61, 62, 63, 64, 65, 66, 67, 68, 69, 70, 71, 72] (by decide +kernel) (by decide +kernel)
set_option maxRecDepth 20000 in
theorem gX10_stateOf_X10_isNoTask : GoodIn wsX10_stateOf (wsV RX10 117 RX10 yX10_isNoTask wsX10_isNoTask) := goodIn_app (goodIn_of _ (by decide +kernel)) ggX10_stateOf_X10_isNoTask
set_option maxRecDepth 20000 in
theorem ggX10_stateOf_X10_task : GoodIn wsX10_stateOf wsX10_task := goodIn_r _ [30, 7, 8, 31, 32, 33, 34, 12, 35, 14, 36, 37, 38, 39, 40, 41, 42, 43, 44, 45, 46, 47, 48, 59, 60, 61, 62, 63, 64, 65, 66, 67, 68, 69, 70, 71, 72] (by decide +kernel) (by decide +kernel)
set_option maxRecDepth 20000 in
theorem gX10_stateOf_X10_task : GoodIn wsX10_stateOf (wsV RX10 120 RX10 yX10_task wsX10_task) := goodIn_app (goodIn_of _ (by decide +kernel)) ggX10_stateOf_X10_task
theorem dX10_stateOf_0 : decode cX10_stateOf 0 = .ok (.aload_n 0, 1) := by decide +kernel
theorem dX10_stateOf_1 : decode cX10_stateOf 1 = .ok (.iload_n 1, 1) := by decide +kernel
theorem dX10_stateOf_2 : decode cX10_stateOf 2 = .ok (.invokevirtual 117, 3) := by decide +kernel
theorem dX10_stateOf_5 : decode cX10_stateOf 5 = .ok (.ifCond .eq 7, 3) := by decide +kernel
theorem dX10_stateOf_8 : decode cX10_stateOf 8 = .ok (.iconst 0, 1) := by decide +kernel
theorem dX10_stateOf_9 : decode cX10_stateOf 9 = .ok (.goto 11, 3) := by decide +kernel
theorem dX10_stateOf_12 : decode cX10_stateOf 12 = .ok (.aload_n 0, 1) := by decide +kernel
theorem dX10_stateOf_13 : decode cX10_stateOf 13 = .ok (.iload_n 1, 1) := by decide +kernel
theorem dX10_stateOf_14 : decode cX10_stateOf 14 = .ok (.invokevirtual 120, 3) := by decide +kernel
theorem dX10_stateOf_17 : decode cX10_stateOf 17 = .ok (.getfield 149, 3) := by decide +kernel
theorem dX10_stateOf_20 : decode cX10_stateOf 20 = .ok (.ireturn, 1) := by decide +kernel
set_option maxRecDepth 20000 in
theorem ggX10_valueOf_X10_isNoTask : GoodIn wsX10_valueOf wsX10_isNoTask := goodIn_r _ [6, 7, 8, 9, 10, 11, 12, 13, 14, 15, 16, 5, 17, 18, 19, 20, 21, 22, 23, 24, 25, 26, 59, 60, 61, 62, 63, 64, 65, 66, 67, 68, 69, 70, 71, 72] (by decide +kernel) (by decide +kernel)
set_option maxRecDepth 20000 in
theorem gX10_valueOf_X10_isNoTask : GoodIn wsX10_valueOf (wsV RX10 117 RX10 yX10_isNoTask wsX10_isNoTask) := goodIn_app (goodIn_of _ (by decide +kernel)) ggX10_valueOf_X10_isNoTask
set_option maxRecDepth 20000 in
theorem ggX10_valueOf_X10_task : GoodIn wsX10_valueOf wsX10_task := goodIn_r _ [30, 7, 8, 31, 32, 33, 34, 12, 35, 14, 36, 37, 38, 39, 40, 41, 42, 43, 44, 45, 46, 47, 48, 59, 60, 61, 62, 63, 64, 65, 66, 67, 68, 69, 70, 71, 72] (by decide +kernel) (by decide +kernel)
set_option maxRecDepth 20000 in
theorem gX10_valueOf_X10_task : GoodIn wsX10_valueOf (wsV RX10 120 RX10 yX10_task wsX10_task) := goodIn_app (goodIn_of _ (by decide +kernel)) ggX10_valueOf_X10_task
theorem dX10_valueOf_0 : decode cX10_valueOf 0 = .ok (.aload_n 0, 1) := by decide +kernel
theorem dX10_valueOf_1 : decode cX10_valueOf 1 = .ok (.iload_n 1, 1) := by decide +kernel
theorem dX10_valueOf_2 : decode cX10_valueOf 2 = .ok (.invokevirtual 117, 3) := by decide +kernel
theorem dX10_valueOf_5 : decode cX10_valueOf 5 = .ok (.ifCond .eq 7, 3) := by decide +kernel
theorem dX10_valueOf_8 : decode cX10_valueOf 8 = .ok (.iconst 0, 1) := by decide +kernel
theorem dX10_valueOf_9 : decode cX10_valueOf 9 = .ok (.goto 11, 3) := by decide +kernel
theorem dX10_valueOf_12 : decode cX10_valueOf 12 = .ok (.aload_n 0, 1) := by decide +kernel
theorem dX10_valueOf_13 : decode cX10_valueOf 13 = .ok (.iload_n 1, 1) := by decide +kernel
theorem dX10_valueOf_14 : decode cX10_valueOf 14 = .ok (.invokevirtual 120, 3) := by decide +kernel
theorem dX10_valueOf_17 : decode cX10_valueOf 17 = .ok (.getfield 152, 3) := by decide +kernel
theorem dX10_valueOf_20 : decode cX10_valueOf 20 = .ok (.ireturn, 1) := by decide +kernel
set_option maxRecDepth 20000 in
theorem ggX10_stepOf_X10_isNoTask : GoodIn wsX10_stepOf wsX10_isNoTask := goodIn_r _ [6, 7, 8, 9, 10, 11, 12, 13, 14, 15, 16, 5, 17, 18, 19, 20, 21, 22, 23, 24, 25, 26, 59, 60, 61, 62, 63, 64, 65, 66, 67, 68, 69, 70, 71, 72] (by decide +kernel) (by decide +kernel)
set_option maxRecDepth 20000 in
theorem gX10_stepOf_X10_isNoTask : GoodIn wsX10_stepOf (wsV RX10 117 RX10 yX10_isNoTask wsX10_isNoTask) := goodIn_app (goodIn_of _ (by decide +kernel)) ggX10_stepOf_X10_isNoTask
set_option maxRecDepth 20000 in
theorem ggX10_stepOf_X10_task : GoodIn wsX10_stepOf wsX10_task := goodIn_r _ [30, 7, 8, 31, 32, 33, 34, 12, 35, 14, 36, 37, 38, 39, 40, 41, 42, 43, 44, 45, 46, 47, 48, 59, 60, 61, 62, 63, 64, 65, 66, 67, 68, 69, 70, 71, 72] (by decide +kernel) (by decide +kernel)
set_option maxRecDepth 20000 in
theorem gX10_stepOf_X10_task : GoodIn wsX10_stepOf (wsV RX10 120 RX10 yX10_task wsX10_task) := goodIn_app (goodIn_of _ (by decide +kernel)) ggX10_stepOf_X10_task
theorem dX10_stepOf_0 : decode cX10_stepOf 0 = .ok (.aload_n 0, 1) := by decide +kernel
theorem dX10_stepOf_1 : decode cX10_stepOf 1 = .ok (.iload_n 1, 1) := by decide +kernel
theorem dX10_stepOf_2 : decode cX10_stepOf 2 = .ok (.invokevirtual 117, 3) := by decide +kernel
theorem dX10_stepOf_5 : decode cX10_stepOf 5 = .ok (.ifCond .eq 7, 3) := by decide +kernel
theorem dX10_stepOf_8 : decode cX10_stepOf 8 = .ok (.iconst 0, 1) := by decide +kernel
theorem dX10_stepOf_9 : decode cX10_stepOf 9 = .ok (.goto 11, 3) := by decide +kernel
theorem dX10_stepOf_12 : decode cX10_stepOf 12 = .ok (.aload_n 0, 1) := by decide +kernel
theorem dX10_stepOf_13 : decode cX10_stepOf 13 = .ok (.iload_n 1, 1) := by decide +kernel
theorem dX10_stepOf_14 : decode cX10_stepOf 14 = .ok (.invokevirtual 120, 3) := by decide +kernel
theorem dX10_stepOf_17 : decode cX10_stepOf 17 = .ok (.getfield 155, 3) := by decide +kernel
theorem dX10_stepOf_20 : decode cX10_stepOf 20 = .ok (.ireturn, 1) := by decide +kernel
set_option maxRecDepth 20000 in
theorem ggX10_parentOf_X10_isNoTask : GoodIn wsX10_parentOf wsX10_isNoTask := goodIn_r _ [6, 7, 8, 9, 10, 11, 12, 13, 14, 15, 16, 5, 17, 18, 19, 20, 21, 22, 23, 24, 25, 26, 59, 60, 61, 62, 63, 64, 65, 66, 67, 68, 69, 70, 71, 72] (by decide +kernel) (by decide +kernel)
set_option maxRecDepth 20000 in
theorem gX10_parentOf_X10_isNoTask : GoodIn wsX10_parentOf (wsV RX10 117 RX10 yX10_isNoTask wsX10_isNoTask) := goodIn_app (goodIn_of _ (by decide +kernel)) ggX10_parentOf_X10_isNoTask
set_option maxRecDepth 20000 in
theorem ggX10_parentOf_X10_task : GoodIn wsX10_parentOf wsX10_task := goodIn_r _ [30, 7, 8, 31, 32, 33, 34, 12, 35, 14, 36, 37, 38, 39, 40, 41, 42, 43, 44, 45, 46, 47, 48, 59, 60, 61, 62, 63, 64, 65, 66, 67, 68, 69, 70, 71, 72] (by decide +kernel) (by decide +kernel)
set_option maxRecDepth 20000 in
theorem gX10_parentOf_X10_task : GoodIn wsX10_parentOf (wsV RX10 120 RX10 yX10_task wsX10_task) := goodIn_app (goodIn_of _ (by decide +kernel)) ggX10_parentOf_X10_task
theorem dX10_parentOf_0 : decode cX10_parentOf 0 = .ok (.aload_n 0, 1) := by decide +kernel
theorem dX10_parentOf_1 : decode cX10_parentOf 1 = .ok (.iload_n 1, 1) := by decide +kernel
theorem dX10_parentOf_2 : decode cX10_parentOf 2 = .ok (.invokevirtual 117, 3) := by decide +kernel
theorem dX10_parentOf_5 : decode cX10_parentOf 5 = .ok (.ifCond .eq 7, 3) := by decide +kernel
theorem dX10_parentOf_8 : decode cX10_parentOf 8 = .ok (.iconst 0, 1) := by decide +kernel
theorem dX10_parentOf_9 : decode cX10_parentOf 9 = .ok (.goto 11, 3) := by decide +kernel
theorem dX10_parentOf_12 : decode cX10_parentOf 12 = .ok (.aload_n 0, 1) := by decide +kernel
theorem dX10_parentOf_13 : decode cX10_parentOf 13 = .ok (.iload_n 1, 1) := by decide +kernel
theorem dX10_parentOf_14 : decode cX10_parentOf 14 = .ok (.invokevirtual 120, 3) := by decide +kernel
theorem dX10_parentOf_17 : decode cX10_parentOf 17 = .ok (.getfield 158, 3) := by decide +kernel
theorem dX10_parentOf_20 : decode cX10_parentOf 20 = .ok (.ireturn, 1) := by decide +kernel
set_option maxRecDepth 20000 in
theorem ggX10_childrenOf_X10_isNoTask : GoodIn wsX10_childrenOf wsX10_isNoTask := goodIn_r _ [5, 6, 7, 8, 9, 10, 11, 12, 13, 14, 15, 4, 16, 17, 18, 19, 20, 21, 22, 23, 24, 25, 59, 60, 61, 62, 63, 64, 65, 66, 67, 68, 69, 70, 71, 72] (by decide +kernel) (by decide +kernel)
set_option maxRecDepth 20000 in
theorem gX10_childrenOf_X10_isNoTask : GoodIn wsX10_childrenOf (wsV RX10 117 RX10 yX10_isNoTask wsX10_isNoTask) := goodIn_app (goodIn_of _ (by decide +kernel)) ggX10_childrenOf_X10_isNoTask
set_option maxRecDepth 20000 in
theorem ggX10_childrenOf_X10_task : GoodIn wsX10_childrenOf wsX10_task := goodIn_r _ [29, 6, 7, 30, 31, 32, 33, 11, 34, 13, 35, 36, 37, 38, 39, 40, 41, 42, 43, 44, 45, 46, 47, 59, 60, 61, 62, 63, 64, 65, 66, 67, 68, 69, 70, 71, 72] (by decide +kernel) (by decide +kernel)
set_option maxRecDepth 20000 in
theorem gX10_childrenOf_X10_task : GoodIn wsX10_childrenOf (wsV RX10 120 RX10 yX10_task wsX10_task) := goodIn_app (goodIn_of _ (by decide +kernel)) ggX10_childrenOf_X10_task
theorem dX10_childrenOf_0 : decode cX10_childrenOf 0 = .ok (.aload_n 0, 1) := by decide +kernel
theorem dX10_childrenOf_1 : decode cX10_childrenOf 1 = .ok (.iload_n 1, 1) := by decide +kernel
theorem dX10_childrenOf_2 : decode cX10_childrenOf 2 = .ok (.invokevirtual 117, 3) := by decide +kernel
theorem dX10_childrenOf_5 : decode cX10_childrenOf 5 = .ok (.ifCond .eq 7, 3) := by decide +kernel
theorem dX10_childrenOf_8 : decode cX10_childrenOf 8 = .ok (.iconst 0, 1) := by decide +kernel
theorem dX10_childrenOf_9 : decode cX10_childrenOf 9 = .ok (.goto 11, 3) := by decide +kernel
theorem dX10_childrenOf_12 : decode cX10_childrenOf 12 = .ok (.aload_n 0, 1) := by decide +kernel
theorem dX10_childrenOf_13 : decode cX10_childrenOf 13 = .ok (.iload_n 1, 1) := by decide +kernel
theorem dX10_childrenOf_14 : decode cX10_childrenOf 14 = .ok (.invokevirtual 120, 3) := by decide +kernel
theorem dX10_childrenOf_17 : decode cX10_childrenOf 17 = .ok (.invokestatic 164, 3) := by decide +kernel
theorem dX10_childrenOf_20 : decode cX10_childrenOf 20 = .ok (.ireturn, 1) := by decide +kernel
set_option maxRecDepth 20000 in
theorem ggX10_workOf_X10_isNoTask : GoodIn wsX10_workOf wsX10_isNoTask := goodIn_r _ [5, 6, 7, 8, 9, 10, 11, 12, 13, 14, 15, 4, 16, 17, 18, 19, 20, 21, 22, 23, 24, 25, 54, 55, 56, 57, 58, 59, 60, 61, 62, 63, 64, 65, 66, 67] (by decide +kernel) (by decide +kernel)
set_option maxRecDepth 20000 in
theorem gX10_workOf_X10_isNoTask : GoodIn wsX10_workOf (wsV RX10 117 RX10 yX10_isNoTask wsX10_isNoTask) := goodIn_app (goodIn_of _ (by decide +kernel)) ggX10_workOf_X10_isNoTask
theorem dX10_workOf_0 : decode cX10_workOf 0 = .ok (.aload_n 0, 1) := by decide +kernel
theorem dX10_workOf_1 : decode cX10_workOf 1 = .ok (.iload_n 1, 1) := by decide +kernel
theorem dX10_workOf_2 : decode cX10_workOf 2 = .ok (.invokevirtual 117, 3) := by decide +kernel
theorem dX10_workOf_5 : decode cX10_workOf 5 = .ok (.ifCond .eq 7, 3) := by decide +kernel
theorem dX10_workOf_8 : decode cX10_workOf 8 = .ok (.iconst 0, 1) := by decide +kernel
theorem dX10_workOf_9 : decode cX10_workOf 9 = .ok (.goto 8, 3) := by decide +kernel
theorem dX10_workOf_12 : decode cX10_workOf 12 = .ok (.aload_n 0, 1) := by decide +kernel
theorem dX10_workOf_13 : decode cX10_workOf 13 = .ok (.iload_n 1, 1) := by decide +kernel
theorem dX10_workOf_14 : decode cX10_workOf 14 = .ok (.invokevirtual 171, 3) := by decide +kernel
theorem dX10_workOf_17 : decode cX10_workOf 17 = .ok (.ireturn, 1) := by decide +kernel
set_option maxRecDepth 20000 in
theorem ggX10_overAt_X10_isNoTask : GoodIn wsX10_overAt wsX10_isNoTask := goodIn_r _ [6, 7, 8, 9, 10, 11, 12, 13, 14, 15, 16, 5, 17, 18, 19, 20, 21, 22, 23, 24, 25, 26, 59, 60, 61, 62, 63, 64, 65, 66, 67, 68, 69, 70, 71, 72] (by decide +kernel) (by decide +kernel)
set_option maxRecDepth 20000 in
theorem gX10_overAt_X10_isNoTask : GoodIn wsX10_overAt (wsV RX10 117 RX10 yX10_isNoTask wsX10_isNoTask) := goodIn_app (goodIn_of _ (by decide +kernel)) ggX10_overAt_X10_isNoTask
set_option maxRecDepth 20000 in
theorem ggX10_overAt_X10_task : GoodIn wsX10_overAt wsX10_task := goodIn_r _ [30, 7, 8, 31, 32, 33, 34, 12, 35, 14, 36, 37, 38, 39, 40, 41, 42, 43, 44, 45, 46, 47, 48, 59, 60, 61, 62, 63, 64, 65, 66, 67, 68, 69, 70, 71, 72] (by decide +kernel) (by decide +kernel)
set_option maxRecDepth 20000 in
theorem gX10_overAt_X10_task : GoodIn wsX10_overAt (wsV RX10 120 RX10 yX10_task wsX10_task) := goodIn_app (goodIn_of _ (by decide +kernel)) ggX10_overAt_X10_task
theorem dX10_overAt_0 : decode cX10_overAt 0 = .ok (.aload_n 0, 1) := by decide +kernel
theorem dX10_overAt_1 : decode cX10_overAt 1 = .ok (.iload_n 1, 1) := by decide +kernel
theorem dX10_overAt_2 : decode cX10_overAt 2 = .ok (.invokevirtual 117, 3) := by decide +kernel
theorem dX10_overAt_5 : decode cX10_overAt 5 = .ok (.ifCond .eq 7, 3) := by decide +kernel
theorem dX10_overAt_8 : decode cX10_overAt 8 = .ok (.iconst 0, 1) := by decide +kernel
theorem dX10_overAt_9 : decode cX10_overAt 9 = .ok (.goto 11, 3) := by decide +kernel
theorem dX10_overAt_12 : decode cX10_overAt 12 = .ok (.aload_n 0, 1) := by decide +kernel
theorem dX10_overAt_13 : decode cX10_overAt 13 = .ok (.iload_n 1, 1) := by decide +kernel
theorem dX10_overAt_14 : decode cX10_overAt 14 = .ok (.invokevirtual 120, 3) := by decide +kernel
theorem dX10_overAt_17 : decode cX10_overAt 17 = .ok (.getfield 173, 3) := by decide +kernel
theorem dX10_overAt_20 : decode cX10_overAt 20 = .ok (.ireturn, 1) := by decide +kernel
set_option maxRecDepth 20000 in
theorem ggX10_promise_X10_isNoPromise : GoodIn wsX10_promise wsX10_isNoPromise := goodIn_r _ [7, 8, 9, 6, 10, 11, 12, 13, 14, 15, 16, 17, 18, 19, 20, 21, 22] (by decide +kernel) (by decide +kernel)
set_option maxRecDepth 20000 in
theorem gX10_promise_X10_isNoPromise : GoodIn wsX10_promise (wsV RX10 131 RX10 yX10_isNoPromise wsX10_isNoPromise) := goodIn_app (goodIn_of _ (by decide +kernel)) ggX10_promise_X10_isNoPromise
theorem dX10_promise_0 : decode cX10_promise 0 = .ok (.aload_n 0, 1) := by decide +kernel
theorem dX10_promise_1 : decode cX10_promise 1 = .ok (.iload_n 1, 1) := by decide +kernel
theorem dX10_promise_2 : decode cX10_promise 2 = .ok (.invokevirtual 131, 3) := by decide +kernel
theorem dX10_promise_5 : decode cX10_promise 5 = .ok (.ifCond .eq 7, 3) := by decide +kernel
theorem dX10_promise_8 : decode cX10_promise 8 = .ok (.iconst 0, 1) := by decide +kernel
theorem dX10_promise_9 : decode cX10_promise 9 = .ok (.goto 12, 3) := by decide +kernel
theorem dX10_promise_12 : decode cX10_promise 12 = .ok (.aload_n 0, 1) := by decide +kernel
theorem dX10_promise_13 : decode cX10_promise 13 = .ok (.getfield 37, 3) := by decide +kernel
theorem dX10_promise_16 : decode cX10_promise 16 = .ok (.getfield 176, 3) := by decide +kernel
theorem dX10_promise_19 : decode cX10_promise 19 = .ok (.iload_n 1, 1) := by decide +kernel
theorem dX10_promise_20 : decode cX10_promise 20 = .ok (.iaload, 1) := by decide +kernel
theorem dX10_promise_21 : decode cX10_promise 21 = .ok (.ireturn, 1) := by decide +kernel
set_option maxRecDepth 20000 in
theorem ggX10_isNoWorker_Jx4a65c_size_8abf5 : GoodIn wsX10_isNoWorker wsJx4a65c_size_8abf5 := goodIn_r _ [7, 8, 33, 34, 35] (by decide +kernel) (by decide +kernel)
set_option maxRecDepth 20000 in
theorem gX10_isNoWorker_Jx4a65c_size_8abf5 : GoodIn wsX10_isNoWorker (wsV RX10 1 RJx4a65c yJx4a65c_size_8abf5 wsJx4a65c_size_8abf5) := goodIn_app (goodIn_of _ (by decide +kernel)) ggX10_isNoWorker_Jx4a65c_size_8abf5
set_option maxRecDepth 20000 in
theorem ggX10_isNoWorker_X10_isIn : GoodIn wsX10_isNoWorker wsX10_isIn := goodIn_r _ [12] (by decide +kernel) (by decide +kernel)
set_option maxRecDepth 20000 in
theorem gX10_isNoWorker_X10_isIn : GoodIn wsX10_isNoWorker (va_wsS RX10 56 yX10_isIn wsX10_isIn) := goodIn_app (goodIn_of _ (by decide +kernel)) ggX10_isNoWorker_X10_isIn
set_option maxRecDepth 20000 in
theorem ggX10_isNoWorker_X10_start : GoodIn wsX10_isNoWorker wsX10_start := goodIn_r _ [16, 17, 18, 19, 20, 11, 21, 22, 23, 24] (by decide +kernel) (by decide +kernel)
set_option maxRecDepth 20000 in
theorem gX10_isNoWorker_X10_start : GoodIn wsX10_isNoWorker (wsV RX10 49 RX10 yX10_start wsX10_start) := goodIn_app (goodIn_of _ (by decide +kernel)) ggX10_isNoWorker_X10_start
theorem dX10_isNoWorker_0 : decode cX10_isNoWorker 0 = .ok (.aload_n 0, 1) := by decide +kernel
theorem dX10_isNoWorker_1 : decode cX10_isNoWorker 1 = .ok (.iload_n 1, 1) := by decide +kernel
theorem dX10_isNoWorker_2 : decode cX10_isNoWorker 2 = .ok (.iconst 0, 1) := by decide +kernel
theorem dX10_isNoWorker_3 : decode cX10_isNoWorker 3 = .ok (.aload_n 0, 1) := by decide +kernel
theorem dX10_isNoWorker_4 : decode cX10_isNoWorker 4 = .ok (.getfield 37, 3) := by decide +kernel
theorem dX10_isNoWorker_7 : decode cX10_isNoWorker 7 = .ok (.getfield 79, 3) := by decide +kernel
theorem dX10_isNoWorker_10 : decode cX10_isNoWorker 10 = .ok (.invokevirtual 1, 3) := by decide +kernel
theorem dX10_isNoWorker_13 : decode cX10_isNoWorker 13 = .ok (.iconst 1, 1) := by decide +kernel
theorem dX10_isNoWorker_14 : decode cX10_isNoWorker 14 = .ok (.isub, 1) := by decide +kernel
theorem dX10_isNoWorker_15 : decode cX10_isNoWorker 15 = .ok (.invokestatic 56, 3) := by decide +kernel
theorem dX10_isNoWorker_18 : decode cX10_isNoWorker 18 = .ok (.ifCond .ne 7, 3) := by decide +kernel
theorem dX10_isNoWorker_21 : decode cX10_isNoWorker 21 = .ok (.iconst 1, 1) := by decide +kernel
theorem dX10_isNoWorker_22 : decode cX10_isNoWorker 22 = .ok (.goto 4, 3) := by decide +kernel
theorem dX10_isNoWorker_25 : decode cX10_isNoWorker 25 = .ok (.iconst 0, 1) := by decide +kernel
theorem dX10_isNoWorker_26 : decode cX10_isNoWorker 26 = .ok (.iconst 1, 1) := by decide +kernel
theorem dX10_isNoWorker_27 : decode cX10_isNoWorker 27 = .ok (.invokevirtual 49, 3) := by decide +kernel
theorem dX10_isNoWorker_30 : decode cX10_isNoWorker 30 = .ok (.ireturn, 1) := by decide +kernel
set_option maxRecDepth 20000 in
theorem ggX10_worker_Jx4a65c_get_915e3 : GoodIn wsX10_worker wsJx4a65c_get_915e3 := goodIn_r _ [8, 9, 10, 11, 12, 13, 14, 15, 16, 17, 18, 19, 20, 7, 21, 22, 34, 35, 36] (by decide +kernel) (by decide +kernel)
set_option maxRecDepth 20000 in
theorem gX10_worker_Jx4a65c_get_915e3 : GoodIn wsX10_worker (wsV RX10 7 RJx4a65c yJx4a65c_get_915e3 wsJx4a65c_get_915e3) := goodIn_app (goodIn_of _ (by decide +kernel)) ggX10_worker_Jx4a65c_get_915e3
theorem dX10_worker_0 : decode cX10_worker 0 = .ok (.aload_n 0, 1) := by decide +kernel
theorem dX10_worker_1 : decode cX10_worker 1 = .ok (.getfield 37, 3) := by decide +kernel
theorem dX10_worker_4 : decode cX10_worker 4 = .ok (.getfield 79, 3) := by decide +kernel
theorem dX10_worker_7 : decode cX10_worker 7 = .ok (.iload_n 1, 1) := by decide +kernel
theorem dX10_worker_8 : decode cX10_worker 8 = .ok (.invokevirtual 7, 3) := by decide +kernel
theorem dX10_worker_11 : decode cX10_worker 11 = .ok (.checkcast 82, 3) := by decide +kernel
theorem dX10_worker_14 : decode cX10_worker 14 = .ok (.areturn, 1) := by decide +kernel
set_option maxRecDepth 20000 in
theorem ggX10_workers_Jx4a65c_size_8abf5 : GoodIn wsX10_workers wsJx4a65c_size_8abf5 := goodIn_r _ [7, 8, 26, 27, 28] (by decide +kernel) (by decide +kernel)
set_option maxRecDepth 20000 in
theorem gX10_workers_Jx4a65c_size_8abf5 : GoodIn wsX10_workers (wsV RX10 1 RJx4a65c yJx4a65c_size_8abf5 wsJx4a65c_size_8abf5) := goodIn_app (goodIn_of _ (by decide +kernel)) ggX10_workers_Jx4a65c_size_8abf5
set_option maxRecDepth 20000 in
theorem ggX10_workers_X10_plain : GoodIn wsX10_workers wsX10_plain := goodIn_r _ [13, 14, 15, 16, 17] (by decide +kernel) (by decide +kernel)
set_option maxRecDepth 20000 in
theorem gX10_workers_X10_plain : GoodIn wsX10_workers (wsV RX10 146 RX10 yX10_plain wsX10_plain) := goodIn_app (goodIn_of _ (by decide +kernel)) ggX10_workers_X10_plain
theorem dX10_workers_0 : decode cX10_workers 0 = .ok (.aload_n 0, 1) := by decide +kernel
theorem dX10_workers_1 : decode cX10_workers 1 = .ok (.aload_n 0, 1) := by decide +kernel
theorem dX10_workers_2 : decode cX10_workers 2 = .ok (.getfield 37, 3) := by decide +kernel
theorem dX10_workers_5 : decode cX10_workers 5 = .ok (.getfield 79, 3) := by decide +kernel
theorem dX10_workers_8 : decode cX10_workers 8 = .ok (.invokevirtual 1, 3) := by decide +kernel
theorem dX10_workers_11 : decode cX10_workers 11 = .ok (.invokevirtual 146, 3) := by decide +kernel
theorem dX10_workers_14 : decode cX10_workers 14 = .ok (.ireturn, 1) := by decide +kernel
set_option maxRecDepth 20000 in
theorem ggX10_top_X10_isNoWorker : GoodIn wsX10_top wsX10_isNoWorker := goodIn_r _ [5, 6, 7, 8, 9, 10, 11, 12, 13, 14, 15, 4, 16, 17, 18, 19, 20, 21, 22, 23, 24, 25, 67, 68, 69, 70, 71, 72, 73, 74, 75, 76, 77, 78, 79, 80] (by decide +kernel) (by decide +kernel)
set_option maxRecDepth 20000 in
theorem gX10_top_X10_isNoWorker : GoodIn wsX10_top (wsV RX10 180 RX10 yX10_isNoWorker wsX10_isNoWorker) := goodIn_app (goodIn_of _ (by decide +kernel)) ggX10_top_X10_isNoWorker
set_option maxRecDepth 20000 in
theorem ggX10_top_X10_worker : GoodIn wsX10_top wsX10_worker := goodIn_r _ [29, 6, 7, 30, 31, 32, 33, 11, 34, 13, 35, 36, 37, 38, 39, 40, 41, 42, 43, 44, 45, 46, 47, 67, 68, 69, 70, 71, 72, 73, 74, 75, 76, 77, 78, 79, 80] (by decide +kernel) (by decide +kernel)
set_option maxRecDepth 20000 in
theorem gX10_top_X10_worker : GoodIn wsX10_top (wsV RX10 183 RX10 yX10_worker wsX10_worker) := goodIn_app (goodIn_of _ (by decide +kernel)) ggX10_top_X10_worker
set_option maxRecDepth 20000 in
theorem ggX10_top_X9_top : GoodIn wsX10_top wsX9_top := goodIn_r _ [52, 53, 54, 55, 56, 57, 11, 58, 13, 59, 9, 10, 12, 60, 32, 33, 34, 35, 36, 37, 38, 39, 40, 41, 42, 43, 44, 45, 46, 47, 61, 62, 63, 64, 65, 66, 81, 82, 83, 84, 78, 79, 80, 85] (by decide +kernel) (by decide +kernel)
set_option maxRecDepth 20000 in
theorem gX10_top_X9_top : GoodIn wsX10_top (wsV RX10 186 RX9 yX9_top wsX9_top) := goodIn_app (goodIn_of _ (by decide +kernel)) ggX10_top_X9_top
theorem dX10_top_0 : decode cX10_top 0 = .ok (.aload_n 0, 1) := by decide +kernel
theorem dX10_top_1 : decode cX10_top 1 = .ok (.iload_n 1, 1) := by decide +kernel
theorem dX10_top_2 : decode cX10_top 2 = .ok (.invokevirtual 180, 3) := by decide +kernel
theorem dX10_top_5 : decode cX10_top 5 = .ok (.ifCond .eq 7, 3) := by decide +kernel
theorem dX10_top_8 : decode cX10_top 8 = .ok (.iconst 0, 1) := by decide +kernel
theorem dX10_top_9 : decode cX10_top 9 = .ok (.goto 11, 3) := by decide +kernel
theorem dX10_top_12 : decode cX10_top 12 = .ok (.aload_n 0, 1) := by decide +kernel
theorem dX10_top_13 : decode cX10_top 13 = .ok (.iload_n 1, 1) := by decide +kernel
theorem dX10_top_14 : decode cX10_top 14 = .ok (.invokevirtual 183, 3) := by decide +kernel
theorem dX10_top_17 : decode cX10_top 17 = .ok (.invokevirtual 186, 3) := by decide +kernel
theorem dX10_top_20 : decode cX10_top 20 = .ok (.ireturn, 1) := by decide +kernel
set_option maxRecDepth 20000 in
theorem ggX10_stack_X10_isNoWorker : GoodIn wsX10_stack wsX10_isNoWorker := goodIn_r _ [6, 7, 8, 9, 10, 11, 12, 13, 14, 15, 16, 5, 17, 18, 19, 20, 21, 22, 23, 24, 25, 26, 53, 54, 55, 56, 57, 58, 59, 60, 61, 62, 63, 64, 65, 66] (by decide +kernel) (by decide +kernel)
set_option maxRecDepth 20000 in
theorem gX10_stack_X10_isNoWorker : GoodIn wsX10_stack (wsV RX10 180 RX10 yX10_isNoWorker wsX10_isNoWorker) := goodIn_app (goodIn_of _ (by decide +kernel)) ggX10_stack_X10_isNoWorker
set_option maxRecDepth 20000 in
theorem ggX10_stack_X10_worker : GoodIn wsX10_stack wsX10_worker := goodIn_r _ [30, 7, 8, 31, 32, 33, 34, 12, 35, 14, 36, 37, 38, 39, 40, 41, 42, 43, 44, 45, 46, 47, 48, 53, 54, 55, 56, 57, 58, 59, 60, 61, 62, 63, 64, 65, 66] (by decide +kernel) (by decide +kernel)
set_option maxRecDepth 20000 in
theorem gX10_stack_X10_worker : GoodIn wsX10_stack (wsV RX10 183 RX10 yX10_worker wsX10_worker) := goodIn_app (goodIn_of _ (by decide +kernel)) ggX10_stack_X10_worker
set_option maxRecDepth 20000 in
theorem ggX10_stack_Jx4a65c_size_8abf5 : GoodIn wsX10_stack wsJx4a65c_size_8abf5 := goodIn_r _ [13, 14, 64, 65, 66] (by decide +kernel) (by decide +kernel)
set_option maxRecDepth 20000 in
theorem gX10_stack_Jx4a65c_size_8abf5 : GoodIn wsX10_stack (wsV RX10 1 RJx4a65c yJx4a65c_size_8abf5 wsJx4a65c_size_8abf5) := goodIn_app (goodIn_of _ (by decide +kernel)) ggX10_stack_Jx4a65c_size_8abf5
theorem dX10_stack_0 : decode cX10_stack 0 = .ok (.aload_n 0, 1) := by decide +kernel
theorem dX10_stack_1 : decode cX10_stack 1 = .ok (.iload_n 1, 1) := by decide +kernel
theorem dX10_stack_2 : decode cX10_stack 2 = .ok (.invokevirtual 180, 3) := by decide +kernel
theorem dX10_stack_5 : decode cX10_stack 5 = .ok (.ifCond .eq 7, 3) := by decide +kernel
theorem dX10_stack_8 : decode cX10_stack 8 = .ok (.iconst 0, 1) := by decide +kernel
theorem dX10_stack_9 : decode cX10_stack 9 = .ok (.goto 14, 3) := by decide +kernel
theorem dX10_stack_12 : decode cX10_stack 12 = .ok (.aload_n 0, 1) := by decide +kernel
theorem dX10_stack_13 : decode cX10_stack 13 = .ok (.iload_n 1, 1) := by decide +kernel
theorem dX10_stack_14 : decode cX10_stack 14 = .ok (.invokevirtual 183, 3) := by decide +kernel
theorem dX10_stack_17 : decode cX10_stack 17 = .ok (.getfield 91, 3) := by decide +kernel
theorem dX10_stack_20 : decode cX10_stack 20 = .ok (.invokevirtual 1, 3) := by decide +kernel
theorem dX10_stack_23 : decode cX10_stack 23 = .ok (.ireturn, 1) := by decide +kernel
set_option maxRecDepth 20000 in
theorem ggX10_rowOf_X10_worker : GoodIn wsX10_rowOf wsX10_worker := goodIn_r _ [8, 1, 9, 10, 11, 12, 13, 14, 15, 16, 17, 18, 19, 20, 21, 22, 23, 24, 25, 26, 27, 28, 29, 30, 31, 32, 33, 34, 35, 36, 37, 38, 39, 40, 45, 46, 47] (by decide +kernel) (by decide +kernel)
set_option maxRecDepth 20000 in
theorem gX10_rowOf_X10_worker : GoodIn wsX10_rowOf (wsV RX10 183 RX10 yX10_worker wsX10_worker) := goodIn_app (goodIn_of _ (by decide +kernel)) ggX10_rowOf_X10_worker
theorem dX10_rowOf_0 : decode cX10_rowOf 0 = .ok (.iload_n 1, 1) := by decide +kernel
theorem dX10_rowOf_1 : decode cX10_rowOf 1 = .ok (.iconst (-1), 1) := by decide +kernel
theorem dX10_rowOf_2 : decode cX10_rowOf 2 = .ok (.if_icmp .ne 13, 3) := by decide +kernel
theorem dX10_rowOf_5 : decode cX10_rowOf 5 = .ok (.aload_n 0, 1) := by decide +kernel
theorem dX10_rowOf_6 : decode cX10_rowOf 6 = .ok (.getfield 37, 3) := by decide +kernel
theorem dX10_rowOf_9 : decode cX10_rowOf 9 = .ok (.getfield 110, 3) := by decide +kernel
theorem dX10_rowOf_12 : decode cX10_rowOf 12 = .ok (.goto 11, 3) := by decide +kernel
theorem dX10_rowOf_15 : decode cX10_rowOf 15 = .ok (.aload_n 0, 1) := by decide +kernel
theorem dX10_rowOf_16 : decode cX10_rowOf 16 = .ok (.iload_n 1, 1) := by decide +kernel
theorem dX10_rowOf_17 : decode cX10_rowOf 17 = .ok (.invokevirtual 183, 3) := by decide +kernel
theorem dX10_rowOf_20 : decode cX10_rowOf 20 = .ok (.getfield 84, 3) := by decide +kernel
theorem dX10_rowOf_23 : decode cX10_rowOf 23 = .ok (.areturn, 1) := by decide +kernel
set_option maxRecDepth 20000 in
theorem ggX10_row_Jx4a65c_size_8abf5 : GoodIn wsX10_row wsJx4a65c_size_8abf5 := goodIn_r _ [7, 8, 61, 62, 63] (by decide +kernel) (by decide +kernel)
set_option maxRecDepth 20000 in
theorem gX10_row_Jx4a65c_size_8abf5 : GoodIn wsX10_row (wsV RX10 1 RJx4a65c yJx4a65c_size_8abf5 wsJx4a65c_size_8abf5) := goodIn_app (goodIn_of _ (by decide +kernel)) ggX10_row_Jx4a65c_size_8abf5
set_option maxRecDepth 20000 in
theorem ggX10_row_X10_isIn : GoodIn wsX10_row wsX10_isIn := goodIn_r _ [12] (by decide +kernel) (by decide +kernel)
set_option maxRecDepth 20000 in
theorem gX10_row_X10_isIn : GoodIn wsX10_row (va_wsS RX10 56 yX10_isIn wsX10_isIn) := goodIn_app (goodIn_of _ (by decide +kernel)) ggX10_row_X10_isIn
set_option maxRecDepth 20000 in
theorem ggX10_row_X10_start : GoodIn wsX10_row wsX10_start := goodIn_r _ [16, 17, 18, 19, 20, 11, 21, 50, 51, 52] (by decide +kernel) (by decide +kernel)
set_option maxRecDepth 20000 in
theorem gX10_row_X10_start : GoodIn wsX10_row (wsV RX10 49 RX10 yX10_start wsX10_start) := goodIn_app (goodIn_of _ (by decide +kernel)) ggX10_row_X10_start
set_option maxRecDepth 20000 in
theorem ggX10_row_X10_rowOf : GoodIn wsX10_row wsX10_rowOf := goodIn_r _ [25, 1, 26, 27, 28, 29, 30, 11, 31, 2, 32, 33, 34, 35, 6, 36, 8, 37, 38, 39, 40, 41, 42, 43, 44, 45, 46, 47, 48, 49, 50, 51, 52, 53, 54, 55, 56, 57, 58, 59, 60, 64, 65, 66, 67, 61, 62, 63] (by decide +kernel) (by decide +kernel)
set_option maxRecDepth 20000 in
theorem gX10_row_X10_rowOf : GoodIn wsX10_row (wsV RX10 189 RX10 yX10_rowOf wsX10_rowOf) := goodIn_app (goodIn_of _ (by decide +kernel)) ggX10_row_X10_rowOf
theorem dX10_row_0 : decode cX10_row 0 = .ok (.aload_n 0, 1) := by decide +kernel
theorem dX10_row_1 : decode cX10_row 1 = .ok (.iload_n 1, 1) := by decide +kernel
theorem dX10_row_2 : decode cX10_row 2 = .ok (.iconst (-1), 1) := by decide +kernel
theorem dX10_row_3 : decode cX10_row 3 = .ok (.aload_n 0, 1) := by decide +kernel
theorem dX10_row_4 : decode cX10_row 4 = .ok (.getfield 37, 3) := by decide +kernel
theorem dX10_row_7 : decode cX10_row 7 = .ok (.getfield 79, 3) := by decide +kernel
theorem dX10_row_10 : decode cX10_row 10 = .ok (.invokevirtual 1, 3) := by decide +kernel
theorem dX10_row_13 : decode cX10_row 13 = .ok (.iconst 1, 1) := by decide +kernel
theorem dX10_row_14 : decode cX10_row 14 = .ok (.isub, 1) := by decide +kernel
theorem dX10_row_15 : decode cX10_row 15 = .ok (.invokestatic 56, 3) := by decide +kernel
theorem dX10_row_18 : decode cX10_row 18 = .ok (.ifCond .ne 7, 3) := by decide +kernel
theorem dX10_row_21 : decode cX10_row 21 = .ok (.iconst 1, 1) := by decide +kernel
theorem dX10_row_22 : decode cX10_row 22 = .ok (.goto 4, 3) := by decide +kernel
theorem dX10_row_25 : decode cX10_row 25 = .ok (.iconst 0, 1) := by decide +kernel
theorem dX10_row_26 : decode cX10_row 26 = .ok (.iconst 1, 1) := by decide +kernel
theorem dX10_row_27 : decode cX10_row 27 = .ok (.invokevirtual 49, 3) := by decide +kernel
theorem dX10_row_30 : decode cX10_row 30 = .ok (.ifCond .eq 7, 3) := by decide +kernel
theorem dX10_row_33 : decode cX10_row 33 = .ok (.iconst 0, 1) := by decide +kernel
theorem dX10_row_34 : decode cX10_row 34 = .ok (.goto 11, 3) := by decide +kernel
theorem dX10_row_37 : decode cX10_row 37 = .ok (.aload_n 0, 1) := by decide +kernel
theorem dX10_row_38 : decode cX10_row 38 = .ok (.iload_n 1, 1) := by decide +kernel
theorem dX10_row_39 : decode cX10_row 39 = .ok (.invokevirtual 189, 3) := by decide +kernel
theorem dX10_row_42 : decode cX10_row 42 = .ok (.invokevirtual 1, 3) := by decide +kernel
theorem dX10_row_45 : decode cX10_row 45 = .ok (.ireturn, 1) := by decide +kernel
set_option maxRecDepth 20000 in
theorem ggX10_told_X10_isNoWorker : GoodIn wsX10_told wsX10_isNoWorker := goodIn_r _ [6, 7, 8, 9, 10, 11, 12, 13, 14, 15, 16, 5, 17, 18, 19, 20, 21, 22, 23, 24, 25, 26, 53, 54, 55, 56, 57, 58, 59, 60, 61, 62, 63, 64, 65, 66] (by decide +kernel) (by decide +kernel)
set_option maxRecDepth 20000 in
theorem gX10_told_X10_isNoWorker : GoodIn wsX10_told (wsV RX10 180 RX10 yX10_isNoWorker wsX10_isNoWorker) := goodIn_app (goodIn_of _ (by decide +kernel)) ggX10_told_X10_isNoWorker
set_option maxRecDepth 20000 in
theorem ggX10_told_X10_isIn : GoodIn wsX10_told wsX10_isIn := goodIn_r _ [17] (by decide +kernel) (by decide +kernel)
set_option maxRecDepth 20000 in
theorem gX10_told_X10_isIn : GoodIn wsX10_told (va_wsS RX10 56 yX10_isIn wsX10_isIn) := goodIn_app (goodIn_of _ (by decide +kernel)) ggX10_told_X10_isIn
set_option maxRecDepth 20000 in
theorem ggX10_told_X10_refuse : GoodIn wsX10_told wsX10_refuse := goodIn_r _ [26, 22, 53, 54, 55] (by decide +kernel) (by decide +kernel)
set_option maxRecDepth 20000 in
theorem gX10_told_X10_refuse : GoodIn wsX10_told (wsV RX10 45 RX10 yX10_refuse wsX10_refuse) := goodIn_app (goodIn_of _ (by decide +kernel)) ggX10_told_X10_refuse
set_option maxRecDepth 20000 in
theorem ggX10_told_X10_worker : GoodIn wsX10_told wsX10_worker := goodIn_r _ [30, 7, 8, 31, 32, 33, 34, 12, 35, 14, 36, 37, 38, 39, 40, 41, 42, 43, 44, 45, 46, 47, 48, 53, 54, 55, 56, 57, 58, 59, 60, 61, 62, 63, 64, 65, 66] (by decide +kernel) (by decide +kernel)
set_option maxRecDepth 20000 in
theorem gX10_told_X10_worker : GoodIn wsX10_told (wsV RX10 183 RX10 yX10_worker wsX10_worker) := goodIn_app (goodIn_of _ (by decide +kernel)) ggX10_told_X10_worker
theorem dX10_told_0 : decode cX10_told 0 = .ok (.aload_n 0, 1) := by decide +kernel
theorem dX10_told_1 : decode cX10_told 1 = .ok (.iload_n 1, 1) := by decide +kernel
theorem dX10_told_2 : decode cX10_told 2 = .ok (.invokevirtual 180, 3) := by decide +kernel
theorem dX10_told_5 : decode cX10_told 5 = .ok (.ifCond .ne 25, 3) := by decide +kernel
theorem dX10_told_8 : decode cX10_told 8 = .ok (.aload_n 0, 1) := by decide +kernel
theorem dX10_told_9 : decode cX10_told 9 = .ok (.iload_n 2, 1) := by decide +kernel
theorem dX10_told_10 : decode cX10_told 10 = .ok (.iconst 0, 1) := by decide +kernel
theorem dX10_told_11 : decode cX10_told 11 = .ok (.iconst 2, 1) := by decide +kernel
theorem dX10_told_12 : decode cX10_told 12 = .ok (.invokestatic 56, 3) := by decide +kernel
theorem dX10_told_15 : decode cX10_told 15 = .ok (.ifCond .ne 7, 3) := by decide +kernel
theorem dX10_told_18 : decode cX10_told 18 = .ok (.iconst 1, 1) := by decide +kernel
theorem dX10_told_19 : decode cX10_told 19 = .ok (.goto 4, 3) := by decide +kernel
theorem dX10_told_22 : decode cX10_told 22 = .ok (.iconst 0, 1) := by decide +kernel
theorem dX10_told_23 : decode cX10_told 23 = .ok (.iconst 2, 1) := by decide +kernel
theorem dX10_told_24 : decode cX10_told 24 = .ok (.invokevirtual 45, 3) := by decide +kernel
theorem dX10_told_27 : decode cX10_told 27 = .ok (.ifCond .eq 7, 3) := by decide +kernel
theorem dX10_told_30 : decode cX10_told 30 = .ok (.iconst 0, 1) := by decide +kernel
theorem dX10_told_31 : decode cX10_told 31 = .ok (.goto 13, 3) := by decide +kernel
theorem dX10_told_34 : decode cX10_told 34 = .ok (.aload_n 0, 1) := by decide +kernel
theorem dX10_told_35 : decode cX10_told 35 = .ok (.iload_n 1, 1) := by decide +kernel
theorem dX10_told_36 : decode cX10_told 36 = .ok (.invokevirtual 183, 3) := by decide +kernel
theorem dX10_told_39 : decode cX10_told 39 = .ok (.getfield 193, 3) := by decide +kernel
theorem dX10_told_42 : decode cX10_told 42 = .ok (.iload_n 2, 1) := by decide +kernel
theorem dX10_told_43 : decode cX10_told 43 = .ok (.iaload, 1) := by decide +kernel
theorem dX10_told_44 : decode cX10_told 44 = .ok (.ireturn, 1) := by decide +kernel
set_option maxRecDepth 20000 in
theorem ggX10_ranBack_X10_worker : GoodIn wsX10_ranBack wsX10_worker := goodIn_r _ [9, 1, 10, 11, 12, 13, 14, 15, 16, 17, 18, 19, 20, 21, 22, 23, 24, 25, 26, 27, 28, 29, 30, 41, 42, 43, 44, 45, 46, 47, 48, 49, 50, 51, 56, 57, 58] (by decide +kernel) (by decide +kernel)
set_option maxRecDepth 20000 in
theorem gX10_ranBack_X10_worker : GoodIn wsX10_ranBack (wsV RX10 183 RX10 yX10_worker wsX10_worker) := goodIn_app (goodIn_of _ (by decide +kernel)) ggX10_ranBack_X10_worker
set_option maxRecDepth 20000 in
theorem ggX10_ranBack_Jx4a65c_size_8abf5 : GoodIn wsX10_ranBack wsJx4a65c_size_8abf5 := goodIn_r _ [34, 17, 56, 57, 58] (by decide +kernel) (by decide +kernel)
set_option maxRecDepth 20000 in
theorem gX10_ranBack_Jx4a65c_size_8abf5 : GoodIn wsX10_ranBack (wsV RX10 1 RJx4a65c yJx4a65c_size_8abf5 wsJx4a65c_size_8abf5) := goodIn_app (goodIn_of _ (by decide +kernel)) ggX10_ranBack_Jx4a65c_size_8abf5
set_option maxRecDepth 20000 in
theorem ggX10_ranBack_Jx4a65c_get_915e3 : GoodIn wsX10_ranBack wsJx4a65c_get_915e3 := goodIn_r _ [16, 17, 18, 19, 20, 21, 22, 23, 24, 25, 26, 27, 28, 15, 29, 30, 56, 57, 58] (by decide +kernel) (by decide +kernel)
set_option maxRecDepth 20000 in
theorem gX10_ranBack_Jx4a65c_get_915e3 : GoodIn wsX10_ranBack (wsV RX10 7 RJx4a65c yJx4a65c_get_915e3 wsJx4a65c_get_915e3) := goodIn_app (goodIn_of _ (by decide +kernel)) ggX10_ranBack_Jx4a65c_get_915e3
set_option maxRecDepth 20000 in
theorem ggX10_ranBack_J6_intValue_8abf5 : GoodIn wsX10_ranBack wsJ6_intValue_8abf5 := goodIn_r _ [39, 40, 59] (by decide +kernel) (by decide +kernel)
set_option maxRecDepth 20000 in
theorem gX10_ranBack_J6_intValue_8abf5 : GoodIn wsX10_ranBack (wsV RX10 13 RJ6 yJ6_intValue_8abf5 wsJ6_intValue_8abf5) := goodIn_app (goodIn_of _ (by decide +kernel)) ggX10_ranBack_J6_intValue_8abf5
theorem dX10_ranBack_0 : decode cX10_ranBack 0 = .ok (.iload_n 2, 1) := by decide +kernel
theorem dX10_ranBack_1 : decode cX10_ranBack 1 = .ok (.aload_n 0, 1) := by decide +kernel
theorem dX10_ranBack_2 : decode cX10_ranBack 2 = .ok (.getfield 37, 3) := by decide +kernel
theorem dX10_ranBack_5 : decode cX10_ranBack 5 = .ok (.getfield 143, 3) := by decide +kernel
theorem dX10_ranBack_8 : decode cX10_ranBack 8 = .ok (.if_icmp .le 6, 3) := by decide +kernel
theorem dX10_ranBack_11 : decode cX10_ranBack 11 = .ok (.bipush (-2), 2) := by decide +kernel
theorem dX10_ranBack_13 : decode cX10_ranBack 13 = .ok (.ireturn, 1) := by decide +kernel
theorem dX10_ranBack_14 : decode cX10_ranBack 14 = .ok (.aload_n 0, 1) := by decide +kernel
theorem dX10_ranBack_15 : decode cX10_ranBack 15 = .ok (.iload_n 1, 1) := by decide +kernel
theorem dX10_ranBack_16 : decode cX10_ranBack 16 = .ok (.invokevirtual 183, 3) := by decide +kernel
theorem dX10_ranBack_19 : decode cX10_ranBack 19 = .ok (.getfield 196, 3) := by decide +kernel
theorem dX10_ranBack_22 : decode cX10_ranBack 22 = .ok (.astore_n 3, 1) := by decide +kernel
theorem dX10_ranBack_23 : decode cX10_ranBack 23 = .ok (.iload_n 2, 1) := by decide +kernel
theorem dX10_ranBack_24 : decode cX10_ranBack 24 = .ok (.aload_n 3, 1) := by decide +kernel
theorem dX10_ranBack_25 : decode cX10_ranBack 25 = .ok (.invokevirtual 1, 3) := by decide +kernel
theorem dX10_ranBack_28 : decode cX10_ranBack 28 = .ok (.if_icmp .le 7, 3) := by decide +kernel
theorem dX10_ranBack_31 : decode cX10_ranBack 31 = .ok (.iconst (-1), 1) := by decide +kernel
theorem dX10_ranBack_32 : decode cX10_ranBack 32 = .ok (.goto 19, 3) := by decide +kernel
theorem dX10_ranBack_35 : decode cX10_ranBack 35 = .ok (.aload_n 3, 1) := by decide +kernel
theorem dX10_ranBack_36 : decode cX10_ranBack 36 = .ok (.aload_n 3, 1) := by decide +kernel
theorem dX10_ranBack_37 : decode cX10_ranBack 37 = .ok (.invokevirtual 1, 3) := by decide +kernel
theorem dX10_ranBack_40 : decode cX10_ranBack 40 = .ok (.iload_n 2, 1) := by decide +kernel
theorem dX10_ranBack_41 : decode cX10_ranBack 41 = .ok (.isub, 1) := by decide +kernel
theorem dX10_ranBack_42 : decode cX10_ranBack 42 = .ok (.invokevirtual 7, 3) := by decide +kernel
theorem dX10_ranBack_45 : decode cX10_ranBack 45 = .ok (.checkcast 11, 3) := by decide +kernel
theorem dX10_ranBack_48 : decode cX10_ranBack 48 = .ok (.invokevirtual 13, 3) := by decide +kernel
theorem dX10_ranBack_51 : decode cX10_ranBack 51 = .ok (.ireturn, 1) := by decide +kernel
set_option maxRecDepth 20000 in
theorem ggX10_ran_X10_isNoWorker : GoodIn wsX10_ran wsX10_isNoWorker := goodIn_r _ [5, 6, 7, 8, 9, 10, 11, 12, 13, 14, 15, 4, 16, 17, 18, 19, 20, 21, 22, 23, 24, 25, 61, 62, 63, 64, 65, 66, 67, 68, 69, 70, 71, 72, 73, 74] (by decide +kernel) (by decide +kernel)
set_option maxRecDepth 20000 in
theorem gX10_ran_X10_isNoWorker : GoodIn wsX10_ran (wsV RX10 180 RX10 yX10_isNoWorker wsX10_isNoWorker) := goodIn_app (goodIn_of _ (by decide +kernel)) ggX10_ran_X10_isNoWorker
set_option maxRecDepth 20000 in
theorem ggX10_ran_X10_isIn : GoodIn wsX10_ran wsX10_isIn := goodIn_r _ [16] (by decide +kernel) (by decide +kernel)
set_option maxRecDepth 20000 in
theorem gX10_ran_X10_isIn : GoodIn wsX10_ran (va_wsS RX10 56 yX10_isIn wsX10_isIn) := goodIn_app (goodIn_of _ (by decide +kernel)) ggX10_ran_X10_isIn
set_option maxRecDepth 20000 in
theorem ggX10_ran_X10_refuse : GoodIn wsX10_ran wsX10_refuse := goodIn_r _ [25, 21, 61, 62, 63] (by decide +kernel) (by decide +kernel)
set_option maxRecDepth 20000 in
theorem gX10_ran_X10_refuse : GoodIn wsX10_ran (wsV RX10 45 RX10 yX10_refuse wsX10_refuse) := goodIn_app (goodIn_of _ (by decide +kernel)) ggX10_ran_X10_refuse
set_option maxRecDepth 20000 in
theorem ggX10_ran_X10_ranBack : GoodIn wsX10_ran wsX10_ranBack := goodIn_r _ [29, 6, 30, 31, 32, 33, 34, 35, 4, 36, 7, 37, 38, 39, 40, 11, 41, 13, 42, 43, 44, 45, 46, 47, 48, 49, 50, 51, 52, 53, 54, 8, 9, 10, 12, 55, 56, 57, 58, 59, 60, 61, 62, 63, 64, 65, 66, 67, 68, 69, 70, 71, 75, 76, 77, 78, 72, 73, 74, 79] (by decide +kernel) (by decide +kernel)
set_option maxRecDepth 20000 in
theorem gX10_ran_X10_ranBack : GoodIn wsX10_ran (wsV RX10 199 RX10 yX10_ranBack wsX10_ranBack) := goodIn_app (goodIn_of _ (by decide +kernel)) ggX10_ran_X10_ranBack
theorem dX10_ran_0 : decode cX10_ran 0 = .ok (.aload_n 0, 1) := by decide +kernel
theorem dX10_ran_1 : decode cX10_ran 1 = .ok (.iload_n 1, 1) := by decide +kernel
theorem dX10_ran_2 : decode cX10_ran 2 = .ok (.invokevirtual 180, 3) := by decide +kernel
theorem dX10_ran_5 : decode cX10_ran 5 = .ok (.ifCond .ne 26, 3) := by decide +kernel
theorem dX10_ran_8 : decode cX10_ran 8 = .ok (.aload_n 0, 1) := by decide +kernel
theorem dX10_ran_9 : decode cX10_ran 9 = .ok (.iload_n 2, 1) := by decide +kernel
theorem dX10_ran_10 : decode cX10_ran 10 = .ok (.iconst 1, 1) := by decide +kernel
theorem dX10_ran_11 : decode cX10_ran 11 = .ok (.bipush 20, 2) := by decide +kernel
theorem dX10_ran_13 : decode cX10_ran 13 = .ok (.invokestatic 56, 3) := by decide +kernel
theorem dX10_ran_16 : decode cX10_ran 16 = .ok (.ifCond .ne 7, 3) := by decide +kernel
theorem dX10_ran_19 : decode cX10_ran 19 = .ok (.iconst 1, 1) := by decide +kernel
theorem dX10_ran_20 : decode cX10_ran 20 = .ok (.goto 4, 3) := by decide +kernel
theorem dX10_ran_23 : decode cX10_ran 23 = .ok (.iconst 0, 1) := by decide +kernel
theorem dX10_ran_24 : decode cX10_ran 24 = .ok (.iconst 2, 1) := by decide +kernel
theorem dX10_ran_25 : decode cX10_ran 25 = .ok (.invokevirtual 45, 3) := by decide +kernel
theorem dX10_ran_28 : decode cX10_ran 28 = .ok (.ifCond .eq 7, 3) := by decide +kernel
theorem dX10_ran_31 : decode cX10_ran 31 = .ok (.iconst 0, 1) := by decide +kernel
theorem dX10_ran_32 : decode cX10_ran 32 = .ok (.goto 9, 3) := by decide +kernel
theorem dX10_ran_35 : decode cX10_ran 35 = .ok (.aload_n 0, 1) := by decide +kernel
theorem dX10_ran_36 : decode cX10_ran 36 = .ok (.iload_n 1, 1) := by decide +kernel
theorem dX10_ran_37 : decode cX10_ran 37 = .ok (.iload_n 2, 1) := by decide +kernel
theorem dX10_ran_38 : decode cX10_ran 38 = .ok (.invokevirtual 199, 3) := by decide +kernel
theorem dX10_ran_41 : decode cX10_ran 41 = .ok (.ireturn, 1) := by decide +kernel
set_option maxRecDepth 20000 in
theorem ggX10_halted_X10_haltedNow : GoodIn wsX10_halted wsX10_haltedNow := goodIn_r _ [5, 6, 7, 8, 9, 10, 11, 12, 13, 14, 15, 16, 17, 18, 19, 20, 21, 22, 23, 24, 25, 26, 27, 28, 29, 30, 31, 32, 33, 34, 35, 36, 37, 38, 39, 40, 41, 42, 43, 44, 45, 46, 47, 48, 49, 50, 51, 52, 53, 54, 55, 56, 57, 58, 59, 60, 61, 62, 63, 64, 65, 66, 67, 68, 69, 70, 71, 72, 73, 74, 75, 76, 77, 78, 79, 80, 81, 82, 83, 84, 85, 86, 87, 88, 89, 90, 91, 92, 93, 94, 4, 95, 96, 97, 103, 104, 105, 106, 107, 108, 109, 110, 111, 112, 113, 114, 115, 116, 117, 118, 119, 120, 121, 122, 123, 124, 125, 126, 127, 128, 129, 130, 131] (by decide +kernel) (by decide +kernel)
set_option maxRecDepth 20000 in
theorem gX10_halted_X10_haltedNow : GoodIn wsX10_halted (wsV RX10 206 RX10 yX10_haltedNow wsX10_haltedNow) := goodIn_app (goodIn_of _ (by decide +kernel)) ggX10_halted_X10_haltedNow
set_option maxRecDepth 20000 in
theorem ggX10_halted_X10_plain : GoodIn wsX10_halted wsX10_plain := goodIn_r _ [101, 102, 103, 104, 105] (by decide +kernel) (by decide +kernel)
set_option maxRecDepth 20000 in
theorem gX10_halted_X10_plain : GoodIn wsX10_halted (wsV RX10 146 RX10 yX10_plain wsX10_plain) := goodIn_app (goodIn_of _ (by decide +kernel)) ggX10_halted_X10_plain
theorem dX10_halted_0 : decode cX10_halted 0 = .ok (.aload_n 0, 1) := by decide +kernel
theorem dX10_halted_1 : decode cX10_halted 1 = .ok (.aload_n 0, 1) := by decide +kernel
theorem dX10_halted_2 : decode cX10_halted 2 = .ok (.invokevirtual 206, 3) := by decide +kernel
theorem dX10_halted_5 : decode cX10_halted 5 = .ok (.invokevirtual 146, 3) := by decide +kernel
theorem dX10_halted_8 : decode cX10_halted 8 = .ok (.ireturn, 1) := by decide +kernel
theorem dX10_add_0 : decode cX10_add 0 = .ok (.lload_n 0, 1) := by decide +kernel
theorem dX10_add_1 : decode cX10_add 1 = .ok (.ldc2_w 213, 3) := by decide +kernel
theorem dX10_add_4 : decode cX10_add 4 = .ok (.lmul, 1) := by decide +kernel
theorem dX10_add_5 : decode cX10_add 5 = .ok (.lload_n 2, 1) := by decide +kernel
theorem dX10_add_6 : decode cX10_add 6 = .ok (.ladd, 1) := by decide +kernel
theorem dX10_add_7 : decode cX10_add 7 = .ok (.lreturn, 1) := by decide +kernel
