theorem dX2_append_32 : decode cX2_append 32 = .ok (.iadd, 1) := by decide +kernel
theorem dX2_append_33 : decode cX2_append 33 = .ok (.putfield 15, 3) := by decide +kernel
theorem dX2_append_36 : decode cX2_append 36 = .ok (.return_, 1) := by decide +kernel
theorem dX2_remove_0 : decode cX2_remove 0 = .ok (.iconst 0, 1) := by decide +kernel
theorem dX2_remove_1 : decode cX2_remove 1 = .ok (.istore_n 2, 1) := by decide +kernel
theorem dX2_remove_2 : decode cX2_remove 2 = .ok (.iconst 0, 1) := by decide +kernel
theorem dX2_remove_3 : decode cX2_remove 3 = .ok (.istore_n 3, 1) := by decide +kernel
theorem dX2_remove_4 : decode cX2_remove 4 = .ok (.iload_n 3, 1) := by decide +kernel
theorem dX2_remove_5 : decode cX2_remove 5 = .ok (.aload_n 0, 1) := by decide +kernel
theorem dX2_remove_6 : decode cX2_remove 6 = .ok (.getfield 15, 3) := by decide +kernel
theorem dX2_remove_9 : decode cX2_remove 9 = .ok (.if_icmp .ge 40, 3) := by decide +kernel
theorem dX2_remove_12 : decode cX2_remove 12 = .ok (.iload_n 3, 1) := by decide +kernel
theorem dX2_remove_13 : decode cX2_remove 13 = .ok (.bipush 24, 2) := by decide +kernel
theorem dX2_remove_15 : decode cX2_remove 15 = .ok (.if_icmp .ge 34, 3) := by decide +kernel
theorem dX2_remove_18 : decode cX2_remove 18 = .ok (.aload_n 0, 1) := by decide +kernel
theorem dX2_remove_19 : decode cX2_remove 19 = .ok (.getfield 9, 3) := by decide +kernel
theorem dX2_remove_22 : decode cX2_remove 22 = .ok (.iload_n 3, 1) := by decide +kernel
theorem dX2_remove_23 : decode cX2_remove 23 = .ok (.iaload, 1) := by decide +kernel
theorem dX2_remove_24 : decode cX2_remove 24 = .ok (.iload_n 1, 1) := by decide +kernel
theorem dX2_remove_25 : decode cX2_remove 25 = .ok (.if_icmp .eq 18, 3) := by decide +kernel
theorem dX2_remove_28 : decode cX2_remove 28 = .ok (.aload_n 0, 1) := by decide +kernel
theorem dX2_remove_29 : decode cX2_remove 29 = .ok (.getfield 9, 3) := by decide +kernel
theorem dX2_remove_32 : decode cX2_remove 32 = .ok (.iload_n 2, 1) := by decide +kernel
theorem dX2_remove_33 : decode cX2_remove 33 = .ok (.aload_n 0, 1) := by decide +kernel
theorem dX2_remove_34 : decode cX2_remove 34 = .ok (.getfield 9, 3) := by decide +kernel
theorem dX2_remove_37 : decode cX2_remove 37 = .ok (.iload_n 3, 1) := by decide +kernel
theorem dX2_remove_38 : decode cX2_remove 38 = .ok (.iaload, 1) := by decide +kernel
theorem dX2_remove_39 : decode cX2_remove 39 = .ok (.iastore, 1) := by decide +kernel
theorem dX2_remove_40 : decode cX2_remove 40 = .ok (.iinc 2 1, 3) := by decide +kernel
theorem dX2_remove_43 : decode cX2_remove 43 = .ok (.iinc 3 1, 3) := by decide +kernel
theorem dX2_remove_46 : decode cX2_remove 46 = .ok (.goto (-42), 3) := by decide +kernel
theorem dX2_remove_49 : decode cX2_remove 49 = .ok (.aload_n 0, 1) := by decide +kernel
theorem dX2_remove_50 : decode cX2_remove 50 = .ok (.iload_n 2, 1) := by decide +kernel
theorem dX2_remove_51 : decode cX2_remove 51 = .ok (.putfield 15, 3) := by decide +kernel
theorem dX2_remove_54 : decode cX2_remove 54 = .ok (.return_, 1) := by decide +kernel
theorem dX3_init_0 : decode cX3_init 0 = .ok (.aload_n 0, 1) := by decide +kernel
theorem dX3_init_1 : decode cX3_init 1 = .ok (.invokespecial 3, 3) := by decide +kernel
theorem dX3_init_4 : decode cX3_init 4 = .ok (.aload_n 0, 1) := by decide +kernel
theorem dX3_init_5 : decode cX3_init 5 = .ok (.bipush 12, 2) := by decide +kernel
theorem dX3_init_7 : decode cX3_init 7 = .ok (.newarray .int, 2) := by decide +kernel
theorem dX3_init_9 : decode cX3_init 9 = .ok (.putfield 9, 3) := by decide +kernel
theorem dX3_init_12 : decode cX3_init 12 = .ok (.aload_n 0, 1) := by decide +kernel
theorem dX3_init_13 : decode cX3_init 13 = .ok (.bipush 12, 2) := by decide +kernel
theorem dX3_init_15 : decode cX3_init 15 = .ok (.newarray .int, 2) := by decide +kernel
theorem dX3_init_17 : decode cX3_init 17 = .ok (.putfield 15, 3) := by decide +kernel
theorem dX3_init_20 : decode cX3_init 20 = .ok (.return_, 1) := by decide +kernel
theorem dX3_append_0 : decode cX3_append 0 = .ok (.aload_n 0, 1) := by decide +kernel
theorem dX3_append_1 : decode cX3_append 1 = .ok (.getfield 18, 3) := by decide +kernel
theorem dX3_append_4 : decode cX3_append 4 = .ok (.ifCond .lt 42, 3) := by decide +kernel
theorem dX3_append_7 : decode cX3_append 7 = .ok (.aload_n 0, 1) := by decide +kernel
theorem dX3_append_8 : decode cX3_append 8 = .ok (.getfield 18, 3) := by decide +kernel
theorem dX3_append_11 : decode cX3_append 11 = .ok (.bipush 12, 2) := by decide +kernel
theorem dX3_append_13 : decode cX3_append 13 = .ok (.if_icmp .ge 33, 3) := by decide +kernel
theorem dX3_append_16 : decode cX3_append 16 = .ok (.aload_n 0, 1) := by decide +kernel
theorem dX3_append_17 : decode cX3_append 17 = .ok (.getfield 9, 3) := by decide +kernel
theorem dX3_append_20 : decode cX3_append 20 = .ok (.aload_n 0, 1) := by decide +kernel
theorem dX3_append_21 : decode cX3_append 21 = .ok (.getfield 18, 3) := by decide +kernel
theorem dX3_append_24 : decode cX3_append 24 = .ok (.iload_n 1, 1) := by decide +kernel
theorem dX3_append_25 : decode cX3_append 25 = .ok (.iastore, 1) := by decide +kernel
theorem dX3_append_26 : decode cX3_append 26 = .ok (.aload_n 0, 1) := by decide +kernel
theorem dX3_append_27 : decode cX3_append 27 = .ok (.getfield 15, 3) := by decide +kernel
theorem dX3_append_30 : decode cX3_append 30 = .ok (.aload_n 0, 1) := by decide +kernel
theorem dX3_append_31 : decode cX3_append 31 = .ok (.getfield 18, 3) := by decide +kernel
theorem dX3_append_34 : decode cX3_append 34 = .ok (.iload_n 2, 1) := by decide +kernel
theorem dX3_append_35 : decode cX3_append 35 = .ok (.iastore, 1) := by decide +kernel
theorem dX3_append_36 : decode cX3_append 36 = .ok (.aload_n 0, 1) := by decide +kernel
theorem dX3_append_37 : decode cX3_append 37 = .ok (.dup, 1) := by decide +kernel
theorem dX3_append_38 : decode cX3_append 38 = .ok (.getfield 18, 3) := by decide +kernel
theorem dX3_append_41 : decode cX3_append 41 = .ok (.iconst 1, 1) := by decide +kernel
theorem dX3_append_42 : decode cX3_append 42 = .ok (.iadd, 1) := by decide +kernel
theorem dX3_append_43 : decode cX3_append 43 = .ok (.putfield 18, 3) := by decide +kernel
theorem dX3_append_46 : decode cX3_append 46 = .ok (.return_, 1) := by decide +kernel
theorem dX3_codeAt_0 : decode cX3_codeAt 0 = .ok (.iload_n 1, 1) := by decide +kernel
theorem dX3_codeAt_1 : decode cX3_codeAt 1 = .ok (.ifCond .lt 18, 3) := by decide +kernel
theorem dX3_codeAt_4 : decode cX3_codeAt 4 = .ok (.iload_n 1, 1) := by decide +kernel
theorem dX3_codeAt_5 : decode cX3_codeAt 5 = .ok (.bipush 12, 2) := by decide +kernel
theorem dX3_codeAt_7 : decode cX3_codeAt 7 = .ok (.if_icmp .ge 12, 3) := by decide +kernel
theorem dX3_codeAt_10 : decode cX3_codeAt 10 = .ok (.aload_n 0, 1) := by decide +kernel
theorem dX3_codeAt_11 : decode cX3_codeAt 11 = .ok (.getfield 9, 3) := by decide +kernel
theorem dX3_codeAt_14 : decode cX3_codeAt 14 = .ok (.iload_n 1, 1) := by decide +kernel
theorem dX3_codeAt_15 : decode cX3_codeAt 15 = .ok (.iaload, 1) := by decide +kernel
theorem dX3_codeAt_16 : decode cX3_codeAt 16 = .ok (.goto 4, 3) := by decide +kernel
theorem dX3_codeAt_19 : decode cX3_codeAt 19 = .ok (.iconst (-1), 1) := by decide +kernel
theorem dX3_codeAt_20 : decode cX3_codeAt 20 = .ok (.ireturn, 1) := by decide +kernel
theorem dX3_numberAt_0 : decode cX3_numberAt 0 = .ok (.iload_n 1, 1) := by decide +kernel
theorem dX3_numberAt_1 : decode cX3_numberAt 1 = .ok (.ifCond .lt 18, 3) := by decide +kernel
theorem dX3_numberAt_4 : decode cX3_numberAt 4 = .ok (.iload_n 1, 1) := by decide +kernel
theorem dX3_numberAt_5 : decode cX3_numberAt 5 = .ok (.bipush 12, 2) := by decide +kernel
theorem dX3_numberAt_7 : decode cX3_numberAt 7 = .ok (.if_icmp .ge 12, 3) := by decide +kernel
theorem dX3_numberAt_10 : decode cX3_numberAt 10 = .ok (.aload_n 0, 1) := by decide +kernel
theorem dX3_numberAt_11 : decode cX3_numberAt 11 = .ok (.getfield 15, 3) := by decide +kernel
theorem dX3_numberAt_14 : decode cX3_numberAt 14 = .ok (.iload_n 1, 1) := by decide +kernel
theorem dX3_numberAt_15 : decode cX3_numberAt 15 = .ok (.iaload, 1) := by decide +kernel
theorem dX3_numberAt_16 : decode cX3_numberAt 16 = .ok (.goto 4, 3) := by decide +kernel
theorem dX3_numberAt_19 : decode cX3_numberAt 19 = .ok (.iconst 0, 1) := by decide +kernel
theorem dX3_numberAt_20 : decode cX3_numberAt 20 = .ok (.ireturn, 1) := by decide +kernel
theorem dX4_init_0 : decode cX4_init 0 = .ok (.aload_n 0, 1) := by decide +kernel
theorem dX4_init_1 : decode cX4_init 1 = .ok (.invokespecial 1, 3) := by decide +kernel
theorem dX4_init_4 : decode cX4_init 4 = .ok (.aload_n 0, 1) := by decide +kernel
theorem dX4_init_5 : decode cX4_init 5 = .ok (.iload_n 1, 1) := by decide +kernel
theorem dX4_init_6 : decode cX4_init 6 = .ok (.putfield 7, 3) := by decide +kernel
theorem dX4_init_9 : decode cX4_init 9 = .ok (.return_, 1) := by decide +kernel
theorem dX4_begin_0 : decode cX4_begin 0 = .ok (.aload_n 0, 1) := by decide +kernel
theorem dX4_begin_1 : decode cX4_begin 1 = .ok (.iload_n 1, 1) := by decide +kernel
theorem dX4_begin_2 : decode cX4_begin 2 = .ok (.putfield 13, 3) := by decide +kernel
theorem dX4_begin_5 : decode cX4_begin 5 = .ok (.aload_n 0, 1) := by decide +kernel
theorem dX4_begin_6 : decode cX4_begin 6 = .ok (.iconst 0, 1) := by decide +kernel
theorem dX4_begin_7 : decode cX4_begin 7 = .ok (.putfield 16, 3) := by decide +kernel
theorem dX4_begin_10 : decode cX4_begin 10 = .ok (.aload_n 0, 1) := by decide +kernel
theorem dX4_begin_11 : decode cX4_begin 11 = .ok (.iconst 0, 1) := by decide +kernel
theorem dX4_begin_12 : decode cX4_begin 12 = .ok (.putfield 19, 3) := by decide +kernel
theorem dX4_begin_15 : decode cX4_begin 15 = .ok (.aload_n 0, 1) := by decide +kernel
theorem dX4_begin_16 : decode cX4_begin 16 = .ok (.iconst 0, 1) := by decide +kernel
theorem dX4_begin_17 : decode cX4_begin 17 = .ok (.putfield 22, 3) := by decide +kernel
theorem dX4_begin_20 : decode cX4_begin 20 = .ok (.aload_n 0, 1) := by decide +kernel
theorem dX4_begin_21 : decode cX4_begin 21 = .ok (.iload_n 2, 1) := by decide +kernel
theorem dX4_begin_22 : decode cX4_begin 22 = .ok (.putfield 25, 3) := by decide +kernel
theorem dX4_begin_25 : decode cX4_begin 25 = .ok (.aload_n 0, 1) := by decide +kernel
theorem dX4_begin_26 : decode cX4_begin 26 = .ok (.iconst 0, 1) := by decide +kernel
theorem dX4_begin_27 : decode cX4_begin 27 = .ok (.putfield 28, 3) := by decide +kernel
theorem dX4_begin_30 : decode cX4_begin 30 = .ok (.aload_n 0, 1) := by decide +kernel
theorem dX4_begin_31 : decode cX4_begin 31 = .ok (.iconst (-1), 1) := by decide +kernel
theorem dX4_begin_32 : decode cX4_begin 32 = .ok (.putfield 31, 3) := by decide +kernel
theorem dX4_begin_35 : decode cX4_begin 35 = .ok (.aload_n 0, 1) := by decide +kernel
theorem dX4_begin_36 : decode cX4_begin 36 = .ok (.iconst 0, 1) := by decide +kernel
theorem dX4_begin_37 : decode cX4_begin 37 = .ok (.putfield 34, 3) := by decide +kernel
theorem dX4_begin_40 : decode cX4_begin 40 = .ok (.aload_n 0, 1) := by decide +kernel
theorem dX4_begin_41 : decode cX4_begin 41 = .ok (.iconst 0, 1) := by decide +kernel
theorem dX4_begin_42 : decode cX4_begin 42 = .ok (.putfield 37, 3) := by decide +kernel
theorem dX4_begin_45 : decode cX4_begin 45 = .ok (.aload_n 0, 1) := by decide +kernel
theorem dX4_begin_46 : decode cX4_begin 46 = .ok (.iconst (-1), 1) := by decide +kernel
theorem dX4_begin_47 : decode cX4_begin 47 = .ok (.putfield 40, 3) := by decide +kernel
theorem dX4_begin_50 : decode cX4_begin 50 = .ok (.return_, 1) := by decide +kernel
theorem dX4_copyFrom_0 : decode cX4_copyFrom 0 = .ok (.aload_n 0, 1) := by decide +kernel
theorem dX4_copyFrom_1 : decode cX4_copyFrom 1 = .ok (.aload_n 1, 1) := by decide +kernel
theorem dX4_copyFrom_2 : decode cX4_copyFrom 2 = .ok (.getfield 13, 3) := by decide +kernel
theorem dX4_copyFrom_5 : decode cX4_copyFrom 5 = .ok (.putfield 13, 3) := by decide +kernel
theorem dX4_copyFrom_8 : decode cX4_copyFrom 8 = .ok (.aload_n 0, 1) := by decide +kernel
theorem dX4_copyFrom_9 : decode cX4_copyFrom 9 = .ok (.aload_n 1, 1) := by decide +kernel
theorem dX4_copyFrom_10 : decode cX4_copyFrom 10 = .ok (.getfield 16, 3) := by decide +kernel
theorem dX4_copyFrom_13 : decode cX4_copyFrom 13 = .ok (.putfield 16, 3) := by decide +kernel
theorem dX4_copyFrom_16 : decode cX4_copyFrom 16 = .ok (.aload_n 0, 1) := by decide +kernel
theorem dX4_copyFrom_17 : decode cX4_copyFrom 17 = .ok (.aload_n 1, 1) := by decide +kernel
theorem dX4_copyFrom_18 : decode cX4_copyFrom 18 = .ok (.getfield 19, 3) := by decide +kernel
theorem dX4_copyFrom_21 : decode cX4_copyFrom 21 = .ok (.putfield 19, 3) := by decide +kernel
theorem dX4_copyFrom_24 : decode cX4_copyFrom 24 = .ok (.aload_n 0, 1) := by decide +kernel
theorem dX4_copyFrom_25 : decode cX4_copyFrom 25 = .ok (.aload_n 1, 1) := by decide +kernel
theorem dX4_copyFrom_26 : decode cX4_copyFrom 26 = .ok (.getfield 22, 3) := by decide +kernel
theorem dX4_copyFrom_29 : decode cX4_copyFrom 29 = .ok (.putfield 22, 3) := by decide +kernel
theorem dX4_copyFrom_32 : decode cX4_copyFrom 32 = .ok (.aload_n 0, 1) := by decide +kernel
theorem dX4_copyFrom_33 : decode cX4_copyFrom 33 = .ok (.aload_n 1, 1) := by decide +kernel
theorem dX4_copyFrom_34 : decode cX4_copyFrom 34 = .ok (.getfield 25, 3) := by decide +kernel
theorem dX4_copyFrom_37 : decode cX4_copyFrom 37 = .ok (.putfield 25, 3) := by decide +kernel
theorem dX4_copyFrom_40 : decode cX4_copyFrom 40 = .ok (.aload_n 0, 1) := by decide +kernel
theorem dX4_copyFrom_41 : decode cX4_copyFrom 41 = .ok (.aload_n 1, 1) := by decide +kernel
theorem dX4_copyFrom_42 : decode cX4_copyFrom 42 = .ok (.getfield 28, 3) := by decide +kernel
theorem dX4_copyFrom_45 : decode cX4_copyFrom 45 = .ok (.putfield 28, 3) := by decide +kernel
theorem dX4_copyFrom_48 : decode cX4_copyFrom 48 = .ok (.aload_n 0, 1) := by decide +kernel
theorem dX4_copyFrom_49 : decode cX4_copyFrom 49 = .ok (.aload_n 1, 1) := by decide +kernel
theorem dX4_copyFrom_50 : decode cX4_copyFrom 50 = .ok (.getfield 31, 3) := by decide +kernel
theorem dX4_copyFrom_53 : decode cX4_copyFrom 53 = .ok (.putfield 31, 3) := by decide +kernel
theorem dX4_copyFrom_56 : decode cX4_copyFrom 56 = .ok (.aload_n 0, 1) := by decide +kernel
theorem dX4_copyFrom_57 : decode cX4_copyFrom 57 = .ok (.aload_n 1, 1) := by decide +kernel
theorem dX4_copyFrom_58 : decode cX4_copyFrom 58 = .ok (.getfield 34, 3) := by decide +kernel
theorem dX4_copyFrom_61 : decode cX4_copyFrom 61 = .ok (.putfield 34, 3) := by decide +kernel
theorem dX4_copyFrom_64 : decode cX4_copyFrom 64 = .ok (.aload_n 0, 1) := by decide +kernel
theorem dX4_copyFrom_65 : decode cX4_copyFrom 65 = .ok (.aload_n 1, 1) := by decide +kernel
theorem dX4_copyFrom_66 : decode cX4_copyFrom 66 = .ok (.getfield 37, 3) := by decide +kernel
theorem dX4_copyFrom_69 : decode cX4_copyFrom 69 = .ok (.putfield 37, 3) := by decide +kernel
theorem dX4_copyFrom_72 : decode cX4_copyFrom 72 = .ok (.aload_n 0, 1) := by decide +kernel
theorem dX4_copyFrom_73 : decode cX4_copyFrom 73 = .ok (.aload_n 1, 1) := by decide +kernel
theorem dX4_copyFrom_74 : decode cX4_copyFrom 74 = .ok (.getfield 40, 3) := by decide +kernel
theorem dX4_copyFrom_77 : decode cX4_copyFrom 77 = .ok (.putfield 40, 3) := by decide +kernel
theorem dX4_copyFrom_80 : decode cX4_copyFrom 80 = .ok (.return_, 1) := by decide +kernel
theorem dX4_isBlocked_0 : decode cX4_isBlocked 0 = .ok (.aload_n 0, 1) := by decide +kernel
theorem dX4_isBlocked_1 : decode cX4_isBlocked 1 = .ok (.getfield 16, 3) := by decide +kernel
theorem dX4_isBlocked_4 : decode cX4_isBlocked 4 = .ok (.iconst 2, 1) := by decide +kernel
theorem dX4_isBlocked_5 : decode cX4_isBlocked 5 = .ok (.if_icmp .eq 11, 3) := by decide +kernel
theorem dX4_isBlocked_8 : decode cX4_isBlocked 8 = .ok (.aload_n 0, 1) := by decide +kernel
theorem dX4_isBlocked_9 : decode cX4_isBlocked 9 = .ok (.getfield 16, 3) := by decide +kernel
theorem dX4_isBlocked_12 : decode cX4_isBlocked 12 = .ok (.iconst 3, 1) := by decide +kernel
theorem dX4_isBlocked_13 : decode cX4_isBlocked 13 = .ok (.if_icmp .ne 7, 3) := by decide +kernel
theorem dX4_isBlocked_16 : decode cX4_isBlocked 16 = .ok (.iconst 1, 1) := by decide +kernel
theorem dX4_isBlocked_17 : decode cX4_isBlocked 17 = .ok (.goto 4, 3) := by decide +kernel
theorem dX4_isBlocked_20 : decode cX4_isBlocked 20 = .ok (.iconst 0, 1) := by decide +kernel
theorem dX4_isBlocked_21 : decode cX4_isBlocked 21 = .ok (.ireturn, 1) := by decide +kernel
theorem dX4_isOver_0 : decode cX4_isOver 0 = .ok (.aload_n 0, 1) := by decide +kernel
theorem dX4_isOver_1 : decode cX4_isOver 1 = .ok (.getfield 16, 3) := by decide +kernel
theorem dX4_isOver_4 : decode cX4_isOver 4 = .ok (.iconst 4, 1) := by decide +kernel
theorem dX4_isOver_5 : decode cX4_isOver 5 = .ok (.if_icmp .lt 7, 3) := by decide +kernel
theorem dX4_isOver_8 : decode cX4_isOver 8 = .ok (.iconst 1, 1) := by decide +kernel
theorem dX4_isOver_9 : decode cX4_isOver 9 = .ok (.goto 4, 3) := by decide +kernel
theorem dX4_isOver_12 : decode cX4_isOver 12 = .ok (.iconst 0, 1) := by decide +kernel
theorem dX4_isOver_13 : decode cX4_isOver 13 = .ok (.ireturn, 1) := by decide +kernel
set_option maxRecDepth 20000 in
theorem ggX4_lastChild_J6_numberOfLeadingZeros_0f7a4 : GoodIn wsX4_lastChild wsJ6_numberOfLeadingZeros_0f7a4 := goodIn_r _ [5, 6] (by decide +kernel) (by decide +kernel)
set_option maxRecDepth 20000 in
theorem gX4_lastChild_J6_numberOfLeadingZeros_0f7a4 : GoodIn wsX4_lastChild (va_wsS RX4 43 yJ6_numberOfLeadingZeros_0f7a4 wsJ6_numberOfLeadingZeros_0f7a4) := goodIn_app (goodIn_of _ (by decide +kernel)) ggX4_lastChild_J6_numberOfLeadingZeros_0f7a4
theorem dX4_lastChild_0 : decode cX4_lastChild 0 = .ok (.bipush 31, 2) := by decide +kernel
theorem dX4_lastChild_2 : decode cX4_lastChild 2 = .ok (.aload_n 0, 1) := by decide +kernel
theorem dX4_lastChild_3 : decode cX4_lastChild 3 = .ok (.getfield 28, 3) := by decide +kernel
theorem dX4_lastChild_6 : decode cX4_lastChild 6 = .ok (.invokestatic 43, 3) := by decide +kernel
theorem dX4_lastChild_9 : decode cX4_lastChild 9 = .ok (.isub, 1) := by decide +kernel
theorem dX4_lastChild_10 : decode cX4_lastChild 10 = .ok (.ireturn, 1) := by decide +kernel
theorem dX4_addValue_0 : decode cX4_addValue 0 = .ok (.aload_n 0, 1) := by decide +kernel
theorem dX4_addValue_1 : decode cX4_addValue 1 = .ok (.ldc 49, 2) := by decide +kernel
theorem dX4_addValue_3 : decode cX4_addValue 3 = .ok (.ldc 50, 2) := by decide +kernel
theorem dX4_addValue_5 : decode cX4_addValue 5 = .ok (.aload_n 0, 1) := by decide +kernel
theorem dX4_addValue_6 : decode cX4_addValue 6 = .ok (.getfield 22, 3) := by decide +kernel
theorem dX4_addValue_9 : decode cX4_addValue 9 = .ok (.iload_n 1, 1) := by decide +kernel
theorem dX4_addValue_10 : decode cX4_addValue 10 = .ok (.iadd, 1) := by decide +kernel
theorem dX4_addValue_11 : decode cX4_addValue 11 = .ok (.invokestatic 51, 3) := by decide +kernel
theorem dX4_addValue_14 : decode cX4_addValue 14 = .ok (.invokestatic 57, 3) := by decide +kernel
theorem dX4_addValue_17 : decode cX4_addValue 17 = .ok (.putfield 22, 3) := by decide +kernel
theorem dX4_addValue_20 : decode cX4_addValue 20 = .ok (.return_, 1) := by decide +kernel
set_option maxRecDepth 20000 in
theorem ggX5_init_X2_init : GoodIn wsX5_init wsX2_init := goodIn_r _ [12, 13, 2, 3, 9, 14, 15, 16] (by decide +kernel) (by decide +kernel)
set_option maxRecDepth 20000 in
theorem gX5_init_X2_init_n11 : GoodIn wsX5_init (wsX2_init) := ggX5_init_X2_init
theorem dX5_init_0 : decode cX5_init 0 = .ok (.aload_n 0, 1) := by decide +kernel
theorem dX5_init_1 : decode cX5_init 1 = .ok (.invokespecial 3, 3) := by decide +kernel
theorem dX5_init_4 : decode cX5_init 4 = .ok (.aload_n 0, 1) := by decide +kernel
theorem dX5_init_5 : decode cX5_init 5 = .ok (.new 9, 3) := by decide +kernel
theorem dX5_init_8 : decode cX5_init 8 = .ok (.dup, 1) := by decide +kernel
theorem dX5_init_9 : decode cX5_init 9 = .ok (.invokespecial 11, 3) := by decide +kernel
theorem dX5_init_12 : decode cX5_init 12 = .ok (.putfield 12, 3) := by decide +kernel
theorem dX5_init_15 : decode cX5_init 15 = .ok (.aload_n 0, 1) := by decide +kernel
theorem dX5_init_16 : decode cX5_init 16 = .ok (.new 9, 3) := by decide +kernel
theorem dX5_init_19 : decode cX5_init 19 = .ok (.dup, 1) := by decide +kernel
theorem dX5_init_20 : decode cX5_init 20 = .ok (.invokespecial 11, 3) := by decide +kernel
theorem dX5_init_23 : decode cX5_init 23 = .ok (.putfield 18, 3) := by decide +kernel
theorem dX5_init_26 : decode cX5_init 26 = .ok (.aload_n 0, 1) := by decide +kernel
theorem dX5_init_27 : decode cX5_init 27 = .ok (.bipush 20, 2) := by decide +kernel
theorem dX5_init_29 : decode cX5_init 29 = .ok (.newarray .int, 2) := by decide +kernel
theorem dX5_init_31 : decode cX5_init 31 = .ok (.putfield 21, 3) := by decide +kernel
theorem dX5_init_34 : decode cX5_init 34 = .ok (.return_, 1) := by decide +kernel
set_option maxRecDepth 20000 in
theorem ggX5_begin_X2_clear : GoodIn wsX5_begin wsX2_clear := goodIn_r _ [11, 12, 23, 24] (by decide +kernel) (by decide +kernel)
set_option maxRecDepth 20000 in
theorem gX5_begin_X2_clear : GoodIn wsX5_begin (wsV RX5 25 RX2 yX2_clear wsX2_clear) := goodIn_app (goodIn_of _ (by decide +kernel)) ggX5_begin_X2_clear
set_option maxRecDepth 20000 in
theorem ggX5_begin_J7_fill_53178 : GoodIn wsX5_begin wsJ7_fill_53178 := goodIn_r _ [16] (by decide +kernel) (by decide +kernel)
set_option maxRecDepth 20000 in
theorem gX5_begin_J7_fill_53178 : GoodIn wsX5_begin (va_wsS RX5 38 yJ7_fill_53178 wsJ7_fill_53178) := goodIn_app (goodIn_of _ (by decide +kernel)) ggX5_begin_J7_fill_53178
theorem dX5_begin_0 : decode cX5_begin 0 = .ok (.aload_n 0, 1) := by decide +kernel
theorem dX5_begin_1 : decode cX5_begin 1 = .ok (.getfield 12, 3) := by decide +kernel
theorem dX5_begin_4 : decode cX5_begin 4 = .ok (.invokevirtual 25, 3) := by decide +kernel
theorem dX5_begin_7 : decode cX5_begin 7 = .ok (.aload_n 0, 1) := by decide +kernel
theorem dX5_begin_8 : decode cX5_begin 8 = .ok (.getfield 18, 3) := by decide +kernel
theorem dX5_begin_11 : decode cX5_begin 11 = .ok (.invokevirtual 25, 3) := by decide +kernel
theorem dX5_begin_14 : decode cX5_begin 14 = .ok (.aload_n 0, 1) := by decide +kernel
theorem dX5_begin_15 : decode cX5_begin 15 = .ok (.iconst 0, 1) := by decide +kernel
theorem dX5_begin_16 : decode cX5_begin 16 = .ok (.putfield 28, 3) := by decide +kernel
theorem dX5_begin_19 : decode cX5_begin 19 = .ok (.aload_n 0, 1) := by decide +kernel
theorem dX5_begin_20 : decode cX5_begin 20 = .ok (.iconst 0, 1) := by decide +kernel
theorem dX5_begin_21 : decode cX5_begin 21 = .ok (.putfield 32, 3) := by decide +kernel
theorem dX5_begin_24 : decode cX5_begin 24 = .ok (.aload_n 0, 1) := by decide +kernel
theorem dX5_begin_25 : decode cX5_begin 25 = .ok (.iconst 0, 1) := by decide +kernel
theorem dX5_begin_26 : decode cX5_begin 26 = .ok (.putfield 35, 3) := by decide +kernel
theorem dX5_begin_29 : decode cX5_begin 29 = .ok (.aload_n 0, 1) := by decide +kernel
theorem dX5_begin_30 : decode cX5_begin 30 = .ok (.getfield 21, 3) := by decide +kernel
theorem dX5_begin_33 : decode cX5_begin 33 = .ok (.iconst (-1), 1) := by decide +kernel
theorem dX5_begin_34 : decode cX5_begin 34 = .ok (.invokestatic 38, 3) := by decide +kernel
theorem dX5_begin_37 : decode cX5_begin 37 = .ok (.return_, 1) := by decide +kernel
set_option maxRecDepth 20000 in
theorem ggX5_copyFrom_X2_copyFrom : GoodIn wsX5_copyFrom wsX2_copyFrom := goodIn_r _ [11, 12, 13, 20, 21] (by decide +kernel) (by decide +kernel)
set_option maxRecDepth 20000 in
theorem gX5_copyFrom_X2_copyFrom : GoodIn wsX5_copyFrom (wsV RX5 44 RX2 yX2_copyFrom wsX2_copyFrom) := goodIn_app (goodIn_of _ (by decide +kernel)) ggX5_copyFrom_X2_copyFrom
theorem dX5_copyFrom_0 : decode cX5_copyFrom 0 = .ok (.aload_n 0, 1) := by decide +kernel
theorem dX5_copyFrom_1 : decode cX5_copyFrom 1 = .ok (.getfield 12, 3) := by decide +kernel
theorem dX5_copyFrom_4 : decode cX5_copyFrom 4 = .ok (.aload_n 1, 1) := by decide +kernel
theorem dX5_copyFrom_5 : decode cX5_copyFrom 5 = .ok (.getfield 12, 3) := by decide +kernel
theorem dX5_copyFrom_8 : decode cX5_copyFrom 8 = .ok (.invokevirtual 44, 3) := by decide +kernel
theorem dX5_copyFrom_11 : decode cX5_copyFrom 11 = .ok (.aload_n 0, 1) := by decide +kernel
theorem dX5_copyFrom_12 : decode cX5_copyFrom 12 = .ok (.getfield 18, 3) := by decide +kernel
theorem dX5_copyFrom_15 : decode cX5_copyFrom 15 = .ok (.aload_n 1, 1) := by decide +kernel
theorem dX5_copyFrom_16 : decode cX5_copyFrom 16 = .ok (.getfield 18, 3) := by decide +kernel
theorem dX5_copyFrom_19 : decode cX5_copyFrom 19 = .ok (.invokevirtual 44, 3) := by decide +kernel
theorem dX5_copyFrom_22 : decode cX5_copyFrom 22 = .ok (.aload_n 0, 1) := by decide +kernel
theorem dX5_copyFrom_23 : decode cX5_copyFrom 23 = .ok (.aload_n 1, 1) := by decide +kernel
theorem dX5_copyFrom_24 : decode cX5_copyFrom 24 = .ok (.getfield 28, 3) := by decide +kernel
theorem dX5_copyFrom_27 : decode cX5_copyFrom 27 = .ok (.putfield 28, 3) := by decide +kernel
theorem dX5_copyFrom_30 : decode cX5_copyFrom 30 = .ok (.aload_n 0, 1) := by decide +kernel
theorem dX5_copyFrom_31 : decode cX5_copyFrom 31 = .ok (.aload_n 1, 1) := by decide +kernel
theorem dX5_copyFrom_32 : decode cX5_copyFrom 32 = .ok (.getfield 32, 3) := by decide +kernel
theorem dX5_copyFrom_35 : decode cX5_copyFrom 35 = .ok (.putfield 32, 3) := by decide +kernel
theorem dX5_copyFrom_38 : decode cX5_copyFrom 38 = .ok (.aload_n 0, 1) := by decide +kernel
theorem dX5_copyFrom_39 : decode cX5_copyFrom 39 = .ok (.aload_n 1, 1) := by decide +kernel
theorem dX5_copyFrom_40 : decode cX5_copyFrom 40 = .ok (.getfield 35, 3) := by decide +kernel
theorem dX5_copyFrom_43 : decode cX5_copyFrom 43 = .ok (.putfield 35, 3) := by decide +kernel
theorem dX5_copyFrom_46 : decode cX5_copyFrom 46 = .ok (.iconst 0, 1) := by decide +kernel
theorem dX5_copyFrom_47 : decode cX5_copyFrom 47 = .ok (.istore_n 2, 1) := by decide +kernel
theorem dX5_copyFrom_48 : decode cX5_copyFrom 48 = .ok (.iload_n 2, 1) := by decide +kernel
theorem dX5_copyFrom_49 : decode cX5_copyFrom 49 = .ok (.bipush 20, 2) := by decide +kernel
theorem dX5_copyFrom_51 : decode cX5_copyFrom 51 = .ok (.if_icmp .ge 21, 3) := by decide +kernel
theorem dX5_copyFrom_54 : decode cX5_copyFrom 54 = .ok (.aload_n 0, 1) := by decide +kernel
theorem dX5_copyFrom_55 : decode cX5_copyFrom 55 = .ok (.getfield 21, 3) := by decide +kernel
theorem dX5_copyFrom_58 : decode cX5_copyFrom 58 = .ok (.iload_n 2, 1) := by decide +kernel
theorem dX5_copyFrom_59 : decode cX5_copyFrom 59 = .ok (.aload_n 1, 1) := by decide +kernel
theorem dX5_copyFrom_60 : decode cX5_copyFrom 60 = .ok (.getfield 21, 3) := by decide +kernel
theorem dX5_copyFrom_63 : decode cX5_copyFrom 63 = .ok (.iload_n 2, 1) := by decide +kernel
theorem dX5_copyFrom_64 : decode cX5_copyFrom 64 = .ok (.iaload, 1) := by decide +kernel
theorem dX5_copyFrom_65 : decode cX5_copyFrom 65 = .ok (.iastore, 1) := by decide +kernel
theorem dX5_copyFrom_66 : decode cX5_copyFrom 66 = .ok (.iinc 2 1, 3) := by decide +kernel
theorem dX5_copyFrom_69 : decode cX5_copyFrom 69 = .ok (.goto (-21), 3) := by decide +kernel
theorem dX5_copyFrom_72 : decode cX5_copyFrom 72 = .ok (.return_, 1) := by decide +kernel
set_option maxRecDepth 20000 in
theorem ggX5_ranIn_J9_floorMod_7cf53 : GoodIn wsX5_ranIn wsJ9_floorMod_7cf53 := goodIn_r _ [5] (by decide +kernel) (by decide +kernel)
set_option maxRecDepth 20000 in
theorem gX5_ranIn_J9_floorMod_7cf53 : GoodIn wsX5_ranIn (va_wsS RX5 48 yJ9_floorMod_7cf53 wsJ9_floorMod_7cf53) := goodIn_app (goodIn_of _ (by decide +kernel)) ggX5_ranIn_J9_floorMod_7cf53
theorem dX5_ranIn_0 : decode cX5_ranIn 0 = .ok (.aload_n 0, 1) := by decide +kernel
theorem dX5_ranIn_1 : decode cX5_ranIn 1 = .ok (.getfield 21, 3) := by decide +kernel
theorem dX5_ranIn_4 : decode cX5_ranIn 4 = .ok (.iload_n 1, 1) := by decide +kernel
theorem dX5_ranIn_5 : decode cX5_ranIn 5 = .ok (.bipush 20, 2) := by decide +kernel
theorem dX5_ranIn_7 : decode cX5_ranIn 7 = .ok (.invokestatic 48, 3) := by decide +kernel
theorem dX5_ranIn_10 : decode cX5_ranIn 10 = .ok (.iaload, 1) := by decide +kernel
theorem dX5_ranIn_11 : decode cX5_ranIn 11 = .ok (.ireturn, 1) := by decide +kernel
set_option maxRecDepth 20000 in
theorem ggX5_noteRan_J9_floorMod_7cf53 : GoodIn wsX5_noteRan wsJ9_floorMod_7cf53 := goodIn_r _ [5] (by decide +kernel) (by decide +kernel)
set_option maxRecDepth 20000 in
theorem gX5_noteRan_J9_floorMod_7cf53 : GoodIn wsX5_noteRan (va_wsS RX5 48 yJ9_floorMod_7cf53 wsJ9_floorMod_7cf53) := goodIn_app (goodIn_of _ (by decide +kernel)) ggX5_noteRan_J9_floorMod_7cf53
theorem dX5_noteRan_0 : decode cX5_noteRan 0 = .ok (.aload_n 0, 1) := by decide +kernel
theorem dX5_noteRan_1 : decode cX5_noteRan 1 = .ok (.getfield 21, 3) := by decide +kernel
theorem dX5_noteRan_4 : decode cX5_noteRan 4 = .ok (.iload_n 1, 1) := by decide +kernel
theorem dX5_noteRan_5 : decode cX5_noteRan 5 = .ok (.bipush 20, 2) := by decide +kernel
theorem dX5_noteRan_7 : decode cX5_noteRan 7 = .ok (.invokestatic 48, 3) := by decide +kernel
theorem dX5_noteRan_10 : decode cX5_noteRan 10 = .ok (.iload_n 2, 1) := by decide +kernel
theorem dX5_noteRan_11 : decode cX5_noteRan 11 = .ok (.iastore, 1) := by decide +kernel
theorem dX5_noteRan_12 : decode cX5_noteRan 12 = .ok (.return_, 1) := by decide +kernel
set_option maxRecDepth 20000 in
theorem ggX6_init_X0_init : GoodIn wsX6_init wsX0_init := goodIn_r _ [15, 16, 2, 3, 17, 18, 19, 20, 21, 22, 23, 24, 25, 26, 27, 100, 101, 102, 118, 119, 120] (by decide +kernel) (by decide +kernel)
set_option maxRecDepth 20000 in
theorem gX6_init_X0_init : GoodIn wsX6_init (wsX0_init) := ggX6_init_X0_init
set_option maxRecDepth 20000 in
theorem ggX6_init_X1_init : GoodIn wsX6_init wsX1_init := goodIn_r _ [30, 31, 2, 3, 32, 33, 34, 35, 36, 37, 38, 39, 40, 41, 42, 43, 44, 45, 25, 46, 47, 48, 49, 50, 51, 52, 53, 54, 55, 56, 57, 58, 59, 60, 61, 62, 63, 64, 65, 66, 10, 67, 68, 69, 70, 71, 72, 73, 74, 75, 76, 77, 78, 79, 80, 81, 82, 83, 84, 85, 86, 87, 88, 89, 90, 91, 92, 93, 94, 95, 96, 97, 98, 99, 106, 107, 108, 109, 110, 111, 112, 113, 114, 115, 116, 117, 121, 122, 123, 124, 125, 126, 127, 128, 129, 130, 131, 132, 133, 134, 135, 136, 137, 138, 139] (by decide +kernel) (by decide +kernel)
set_option maxRecDepth 20000 in
theorem gX6_init_X1_init : GoodIn wsX6_init (wsX1_init) := ggX6_init_X1_init
theorem dX6_init_0 : decode cX6_init 0 = .ok (.aload_n 0, 1) := by decide +kernel
theorem dX6_init_1 : decode cX6_init 1 = .ok (.invokespecial 1, 3) := by decide +kernel
theorem dX6_init_4 : decode cX6_init 4 = .ok (.aload_n 0, 1) := by decide +kernel
theorem dX6_init_5 : decode cX6_init 5 = .ok (.new 7, 3) := by decide +kernel
theorem dX6_init_8 : decode cX6_init 8 = .ok (.dup, 1) := by decide +kernel
theorem dX6_init_9 : decode cX6_init 9 = .ok (.invokespecial 9, 3) := by decide +kernel
theorem dX6_init_12 : decode cX6_init 12 = .ok (.putfield 10, 3) := by decide +kernel
theorem dX6_init_15 : decode cX6_init 15 = .ok (.aload_n 0, 1) := by decide +kernel
theorem dX6_init_16 : decode cX6_init 16 = .ok (.new 16, 3) := by decide +kernel
theorem dX6_init_19 : decode cX6_init 19 = .ok (.dup, 1) := by decide +kernel
theorem dX6_init_20 : decode cX6_init 20 = .ok (.aload_n 0, 1) := by decide +kernel
theorem dX6_init_21 : decode cX6_init 21 = .ok (.getfield 10, 3) := by decide +kernel
theorem dX6_init_24 : decode cX6_init 24 = .ok (.invokespecial 18, 3) := by decide +kernel
theorem dX6_init_27 : decode cX6_init 27 = .ok (.putfield 21, 3) := by decide +kernel
theorem dX6_init_30 : decode cX6_init 30 = .ok (.aload_n 0, 1) := by decide +kernel
theorem dX6_init_31 : decode cX6_init 31 = .ok (.new 16, 3) := by decide +kernel
theorem dX6_init_34 : decode cX6_init 34 = .ok (.dup, 1) := by decide +kernel
theorem dX6_init_35 : decode cX6_init 35 = .ok (.aload_n 0, 1) := by decide +kernel
theorem dX6_init_36 : decode cX6_init 36 = .ok (.getfield 10, 3) := by decide +kernel
theorem dX6_init_39 : decode cX6_init 39 = .ok (.invokespecial 18, 3) := by decide +kernel
theorem dX6_init_42 : decode cX6_init 42 = .ok (.putfield 25, 3) := by decide +kernel
theorem dX6_init_45 : decode cX6_init 45 = .ok (.return_, 1) := by decide +kernel
set_option maxRecDepth 20000 in
theorem ggX6_addJob_X0_append : GoodIn wsX6_addJob wsX0_append := goodIn_r _ [8, 9, 13, 14, 15] (by decide +kernel) (by decide +kernel)
set_option maxRecDepth 20000 in
theorem gX6_addJob_X0_append : GoodIn wsX6_addJob (wsV RX6 39 RX0 yX0_append wsX0_append) := goodIn_app (goodIn_of _ (by decide +kernel)) ggX6_addJob_X0_append
theorem dX6_addJob_0 : decode cX6_addJob 0 = .ok (.aload_n 0, 1) := by decide +kernel
theorem dX6_addJob_1 : decode cX6_addJob 1 = .ok (.getfield 10, 3) := by decide +kernel
theorem dX6_addJob_4 : decode cX6_addJob 4 = .ok (.getfield 28, 3) := by decide +kernel
theorem dX6_addJob_7 : decode cX6_addJob 7 = .ok (.bipush 8, 2) := by decide +kernel
theorem dX6_addJob_9 : decode cX6_addJob 9 = .ok (.if_icmp .lt 13, 3) := by decide +kernel
theorem dX6_addJob_12 : decode cX6_addJob 12 = .ok (.new 32, 3) := by decide +kernel
theorem dX6_addJob_15 : decode cX6_addJob 15 = .ok (.dup, 1) := by decide +kernel
theorem dX6_addJob_16 : decode cX6_addJob 16 = .ok (.ldc 34, 2) := by decide +kernel
theorem dX6_addJob_18 : decode cX6_addJob 18 = .ok (.invokespecial 36, 3) := by decide +kernel
theorem dX6_addJob_21 : decode cX6_addJob 21 = .ok (.athrow, 1) := by decide +kernel
theorem dX6_addJob_22 : decode cX6_addJob 22 = .ok (.aload_n 0, 1) := by decide +kernel
theorem dX6_addJob_23 : decode cX6_addJob 23 = .ok (.getfield 10, 3) := by decide +kernel
theorem dX6_addJob_26 : decode cX6_addJob 26 = .ok (.invokevirtual 39, 3) := by decide +kernel
theorem dX6_addJob_29 : decode cX6_addJob 29 = .ok (.ireturn, 1) := by decide +kernel
set_option maxRecDepth 20000 in
theorem ggX6_addStep_X6_needJob : GoodIn wsX6_addStep wsX6_needJob := goodIn_ca (goodIn_r _ [11, 12, 13, 14, 15, 16, 10, 17, 5, 52, 53, 54, 58, 59, 60] (by decide +kernel) (by decide +kernel)) (goodIn_sub (fun _ h => List.mem_cons_of_mem _ (List.mem_append_right _ h)) (by decide +kernel))
set_option maxRecDepth 20000 in
theorem gX6_addStep_X6_needJob : GoodIn wsX6_addStep (wsV RX6 43 RX6 yX6_needJob wsX6_needJob) := goodIn_app (goodIn_of _ (by decide +kernel)) ggX6_addStep_X6_needJob
set_option maxRecDepth 20000 in
theorem ggX6_addStep_X6_isStep : GoodIn wsX6_addStep wsX6_isStep := goodIn_r _ [21, 14, 15, 16, 10, 17, 5, 22, 23, 24, 52, 53, 54, 58, 59, 60] (by decide +kernel) (by decide +kernel)
set_option maxRecDepth 20000 in
theorem gX6_addStep_X6_isStep : GoodIn wsX6_addStep (wsV RX6 47 RX6 yX6_isStep wsX6_isStep) := goodIn_app (goodIn_of _ (by decide +kernel)) ggX6_addStep_X6_isStep
set_option maxRecDepth 20000 in
theorem ggX6_addStep_X0_scriptAt : GoodIn wsX6_addStep wsX0_scriptAt := goodIn_r _ [29, 30, 31, 58, 59, 60] (by decide +kernel) (by decide +kernel)
set_option maxRecDepth 20000 in
theorem gX6_addStep_X0_scriptAt : GoodIn wsX6_addStep (wsV RX6 56 RX0 yX0_scriptAt wsX0_scriptAt) := goodIn_app (goodIn_of _ (by decide +kernel)) ggX6_addStep_X0_scriptAt
set_option maxRecDepth 20000 in
theorem ggX6_addStep_X1_hasTaskOf : GoodIn wsX6_addStep wsX1_hasTaskOf := goodIn_r _ [36, 37, 38, 39, 40, 35, 41, 42, 43, 61, 62, 63, 64, 65, 66, 67, 68, 69, 70, 71, 72, 73, 74, 75, 76, 77, 78, 79, 80, 81, 82, 83] (by decide +kernel) (by decide +kernel)
set_option maxRecDepth 20000 in
theorem gX6_addStep_X1_hasTaskOf : GoodIn wsX6_addStep (wsV RX6 67 RX1 yX1_hasTaskOf wsX1_hasTaskOf) := goodIn_app (goodIn_of _ (by decide +kernel)) ggX6_addStep_X1_hasTaskOf
set_option maxRecDepth 20000 in
theorem ggX6_addStep_X3_append : GoodIn wsX6_addStep wsX3_append := goodIn_r _ [48, 49, 50, 51, 55, 56, 57] (by decide +kernel) (by decide +kernel)
set_option maxRecDepth 20000 in
theorem gX6_addStep_X3_append : GoodIn wsX6_addStep (wsV RX6 73 RX3 yX3_append wsX3_append) := goodIn_app (goodIn_of _ (by decide +kernel)) ggX6_addStep_X3_append
theorem dX6_addStep_0 : decode cX6_addStep 0 = .ok (.aload_n 0, 1) := by decide +kernel
theorem dX6_addStep_1 : decode cX6_addStep 1 = .ok (.iload_n 1, 1) := by decide +kernel
theorem dX6_addStep_2 : decode cX6_addStep 2 = .ok (.invokevirtual 43, 3) := by decide +kernel
theorem dX6_addStep_5 : decode cX6_addStep 5 = .ok (.aload_n 0, 1) := by decide +kernel
theorem dX6_addStep_6 : decode cX6_addStep 6 = .ok (.iload_n 2, 1) := by decide +kernel
theorem dX6_addStep_7 : decode cX6_addStep 7 = .ok (.iload_n 3, 1) := by decide +kernel
theorem dX6_addStep_8 : decode cX6_addStep 8 = .ok (.invokevirtual 47, 3) := by decide +kernel
theorem dX6_addStep_11 : decode cX6_addStep 11 = .ok (.ifCond .ne 13, 3) := by decide +kernel
theorem dX6_addStep_14 : decode cX6_addStep 14 = .ok (.new 51, 3) := by decide +kernel
theorem dX6_addStep_17 : decode cX6_addStep 17 = .ok (.dup, 1) := by decide +kernel
theorem dX6_addStep_18 : decode cX6_addStep 18 = .ok (.ldc 53, 2) := by decide +kernel
theorem dX6_addStep_20 : decode cX6_addStep 20 = .ok (.invokespecial 55, 3) := by decide +kernel
theorem dX6_addStep_23 : decode cX6_addStep 23 = .ok (.athrow, 1) := by decide +kernel
theorem dX6_addStep_24 : decode cX6_addStep 24 = .ok (.aload_n 0, 1) := by decide +kernel
theorem dX6_addStep_25 : decode cX6_addStep 25 = .ok (.getfield 10, 3) := by decide +kernel
theorem dX6_addStep_28 : decode cX6_addStep 28 = .ok (.iload_n 1, 1) := by decide +kernel
theorem dX6_addStep_29 : decode cX6_addStep 29 = .ok (.invokevirtual 56, 3) := by decide +kernel
theorem dX6_addStep_32 : decode cX6_addStep 32 = .ok (.astore 4, 2) := by decide +kernel
theorem dX6_addStep_34 : decode cX6_addStep 34 = .ok (.aload 4, 2) := by decide +kernel
theorem dX6_addStep_36 : decode cX6_addStep 36 = .ok (.getfield 60, 3) := by decide +kernel
theorem dX6_addStep_39 : decode cX6_addStep 39 = .ok (.bipush 12, 2) := by decide +kernel
theorem dX6_addStep_41 : decode cX6_addStep 41 = .ok (.if_icmp .lt 13, 3) := by decide +kernel
theorem dX6_addStep_44 : decode cX6_addStep 44 = .ok (.new 32, 3) := by decide +kernel
theorem dX6_addStep_47 : decode cX6_addStep 47 = .ok (.dup, 1) := by decide +kernel
theorem dX6_addStep_48 : decode cX6_addStep 48 = .ok (.ldc 65, 2) := by decide +kernel
theorem dX6_addStep_50 : decode cX6_addStep 50 = .ok (.invokespecial 36, 3) := by decide +kernel
theorem dX6_addStep_53 : decode cX6_addStep 53 = .ok (.athrow, 1) := by decide +kernel
theorem dX6_addStep_54 : decode cX6_addStep 54 = .ok (.aload_n 0, 1) := by decide +kernel
theorem dX6_addStep_55 : decode cX6_addStep 55 = .ok (.getfield 21, 3) := by decide +kernel
theorem dX6_addStep_58 : decode cX6_addStep 58 = .ok (.iload_n 1, 1) := by decide +kernel
theorem dX6_addStep_59 : decode cX6_addStep 59 = .ok (.invokevirtual 67, 3) := by decide +kernel
theorem dX6_addStep_62 : decode cX6_addStep 62 = .ok (.ifCond .eq 13, 3) := by decide +kernel
theorem dX6_addStep_65 : decode cX6_addStep 65 = .ok (.new 32, 3) := by decide +kernel
theorem dX6_addStep_68 : decode cX6_addStep 68 = .ok (.dup, 1) := by decide +kernel
theorem dX6_addStep_69 : decode cX6_addStep 69 = .ok (.ldc 71, 2) := by decide +kernel
theorem dX6_addStep_71 : decode cX6_addStep 71 = .ok (.invokespecial 36, 3) := by decide +kernel
theorem dX6_addStep_74 : decode cX6_addStep 74 = .ok (.athrow, 1) := by decide +kernel
theorem dX6_addStep_75 : decode cX6_addStep 75 = .ok (.aload 4, 2) := by decide +kernel
theorem dX6_addStep_77 : decode cX6_addStep 77 = .ok (.iload_n 2, 1) := by decide +kernel
theorem dX6_addStep_78 : decode cX6_addStep 78 = .ok (.iload_n 3, 1) := by decide +kernel
theorem dX6_addStep_79 : decode cX6_addStep 79 = .ok (.invokevirtual 73, 3) := by decide +kernel
theorem dX6_addStep_82 : decode cX6_addStep 82 = .ok (.aload 4, 2) := by decide +kernel
theorem dX6_addStep_84 : decode cX6_addStep 84 = .ok (.getfield 60, 3) := by decide +kernel
theorem dX6_addStep_87 : decode cX6_addStep 87 = .ok (.ireturn, 1) := by decide +kernel
set_option maxRecDepth 20000 in
theorem ggX6_setWorkers_X6_needWorkerCount : GoodIn wsX6_setWorkers wsX6_needWorkerCount := goodIn_ca (goodIn_r _ [7, 8, 9] (by decide +kernel) (by decide +kernel)) (goodIn_sub (fun _ h => List.mem_cons_of_mem _ (List.mem_append_right _ h)) (by decide +kernel))
set_option maxRecDepth 20000 in
theorem gX6_setWorkers_X6_needWorkerCount : GoodIn wsX6_setWorkers (va_wsS RX6 76 yX6_needWorkerCount wsX6_needWorkerCount) := goodIn_app (goodIn_of _ (by decide +kernel)) ggX6_setWorkers_X6_needWorkerCount
set_option maxRecDepth 20000 in
theorem ggX6_setWorkers_X1_needsWorkerFrom : GoodIn wsX6_setWorkers wsX1_needsWorkerFrom := goodIn_r _ [14, 15, 16, 17, 18, 19, 13, 20, 21, 22, 23, 24, 25, 26, 27, 28, 29, 30, 31, 32, 33, 34, 63, 64, 65, 66, 67, 68, 69, 70, 71, 72, 73, 74, 75, 76, 77, 78, 79, 80, 81, 82, 83, 84, 85, 86, 87, 88, 89, 90, 91, 92, 93] (by decide +kernel) (by decide +kernel)
set_option maxRecDepth 20000 in
theorem gX6_setWorkers_X1_needsWorkerFrom : GoodIn wsX6_setWorkers (wsV RX6 79 RX1 yX1_needsWorkerFrom wsX1_needsWorkerFrom) := goodIn_app (goodIn_of _ (by decide +kernel)) ggX6_setWorkers_X1_needsWorkerFrom
set_option maxRecDepth 20000 in
theorem ggX6_setWorkers_X1_changeWorkerCount : GoodIn wsX6_setWorkers wsX1_changeWorkerCount := goodIn_r _ [38, 15, 17, 18, 19, 13, 20, 21, 22, 39, 40, 41, 42, 43, 44, 45, 46, 47, 48, 49, 50, 51, 52, 53, 54, 55, 56, 57, 58, 59, 63, 64, 65, 66, 67, 68, 69, 70, 71, 72, 73, 74, 75, 76, 77, 78, 79, 80, 81, 82] (by decide +kernel) (by decide +kernel)
set_option maxRecDepth 20000 in
theorem gX6_setWorkers_X1_changeWorkerCount : GoodIn wsX6_setWorkers (wsV RX6 87 RX1 yX1_changeWorkerCount wsX1_changeWorkerCount) := goodIn_app (goodIn_of _ (by decide +kernel)) ggX6_setWorkers_X1_changeWorkerCount
theorem dX6_setWorkers_0 : decode cX6_setWorkers 0 = .ok (.iload_n 1, 1) := by decide +kernel
theorem dX6_setWorkers_1 : decode cX6_setWorkers 1 = .ok (.invokestatic 76, 3) := by decide +kernel
theorem dX6_setWorkers_4 : decode cX6_setWorkers 4 = .ok (.aload_n 0, 1) := by decide +kernel
theorem dX6_setWorkers_5 : decode cX6_setWorkers 5 = .ok (.getfield 21, 3) := by decide +kernel
theorem dX6_setWorkers_8 : decode cX6_setWorkers 8 = .ok (.iload_n 1, 1) := by decide +kernel
theorem dX6_setWorkers_9 : decode cX6_setWorkers 9 = .ok (.invokevirtual 79, 3) := by decide +kernel
theorem dX6_setWorkers_12 : decode cX6_setWorkers 12 = .ok (.ifCond .eq 13, 3) := by decide +kernel
theorem dX6_setWorkers_15 : decode cX6_setWorkers 15 = .ok (.new 32, 3) := by decide +kernel
theorem dX6_setWorkers_18 : decode cX6_setWorkers 18 = .ok (.dup, 1) := by decide +kernel
theorem dX6_setWorkers_19 : decode cX6_setWorkers 19 = .ok (.ldc 82, 2) := by decide +kernel
theorem dX6_setWorkers_21 : decode cX6_setWorkers 21 = .ok (.invokespecial 36, 3) := by decide +kernel
theorem dX6_setWorkers_24 : decode cX6_setWorkers 24 = .ok (.athrow, 1) := by decide +kernel
theorem dX6_setWorkers_25 : decode cX6_setWorkers 25 = .ok (.aload_n 0, 1) := by decide +kernel
theorem dX6_setWorkers_26 : decode cX6_setWorkers 26 = .ok (.getfield 21, 3) := by decide +kernel
theorem dX6_setWorkers_29 : decode cX6_setWorkers 29 = .ok (.getfield 84, 3) := by decide +kernel
theorem dX6_setWorkers_32 : decode cX6_setWorkers 32 = .ok (.istore_n 2, 1) := by decide +kernel
theorem dX6_setWorkers_33 : decode cX6_setWorkers 33 = .ok (.aload_n 0, 1) := by decide +kernel
theorem dX6_setWorkers_34 : decode cX6_setWorkers 34 = .ok (.getfield 21, 3) := by decide +kernel
theorem dX6_setWorkers_37 : decode cX6_setWorkers 37 = .ok (.iload_n 1, 1) := by decide +kernel
theorem dX6_setWorkers_38 : decode cX6_setWorkers 38 = .ok (.invokevirtual 87, 3) := by decide +kernel
theorem dX6_setWorkers_41 : decode cX6_setWorkers 41 = .ok (.iload_n 2, 1) := by decide +kernel
theorem dX6_setWorkers_42 : decode cX6_setWorkers 42 = .ok (.ireturn, 1) := by decide +kernel
set_option maxRecDepth 20000 in
theorem ggX6_setWay_X6_needWay : GoodIn wsX6_setWay wsX6_needWay := goodIn_ca (goodIn_r _ [9, 1, 2] (by decide +kernel) (by decide +kernel)) (goodIn_sub (fun _ h => List.mem_cons_of_mem _ (List.mem_append_left _ (List.mem_append_right _ h))) (by decide +kernel))
set_option maxRecDepth 20000 in
theorem gX6_setWay_X6_needWay : GoodIn wsX6_setWay (va_wsS RX6 90 yX6_needWay wsX6_needWay) := goodIn_app (goodIn_of _ (by decide +kernel)) ggX6_setWay_X6_needWay
set_option maxRecDepth 20000 in
theorem ggX6_setWay_X1_hasStackedTask : GoodIn wsX6_setWay wsX1_hasStackedTask := goodIn_r _ [14, 15, 16, 17, 18, 13, 19, 20, 21, 25, 26, 27, 28, 29, 30, 31, 32, 33, 34, 35, 36, 37, 38, 39, 40, 41, 42, 43, 44] (by decide +kernel) (by decide +kernel)
set_option maxRecDepth 20000 in
theorem gX6_setWay_X1_hasStackedTask : GoodIn wsX6_setWay (wsV RX6 98 RX1 yX1_hasStackedTask wsX1_hasStackedTask) := goodIn_app (goodIn_of _ (by decide +kernel)) ggX6_setWay_X1_hasStackedTask
theorem dX6_setWay_0 : decode cX6_setWay 0 = .ok (.iload_n 1, 1) := by decide +kernel
theorem dX6_setWay_1 : decode cX6_setWay 1 = .ok (.invokestatic 90, 3) := by decide +kernel
theorem dX6_setWay_4 : decode cX6_setWay 4 = .ok (.iload_n 2, 1) := by decide +kernel
theorem dX6_setWay_5 : decode cX6_setWay 5 = .ok (.ifCond .lt 8, 3) := by decide +kernel
theorem dX6_setWay_8 : decode cX6_setWay 8 = .ok (.iload_n 2, 1) := by decide +kernel
theorem dX6_setWay_9 : decode cX6_setWay 9 = .ok (.iconst 2, 1) := by decide +kernel
theorem dX6_setWay_10 : decode cX6_setWay 10 = .ok (.if_icmp .le 13, 3) := by decide +kernel
theorem dX6_setWay_13 : decode cX6_setWay 13 = .ok (.new 51, 3) := by decide +kernel
theorem dX6_setWay_16 : decode cX6_setWay 16 = .ok (.dup, 1) := by decide +kernel
theorem dX6_setWay_17 : decode cX6_setWay 17 = .ok (.ldc 93, 2) := by decide +kernel
theorem dX6_setWay_19 : decode cX6_setWay 19 = .ok (.invokespecial 55, 3) := by decide +kernel
theorem dX6_setWay_22 : decode cX6_setWay 22 = .ok (.athrow, 1) := by decide +kernel
theorem dX6_setWay_23 : decode cX6_setWay 23 = .ok (.iload_n 1, 1) := by decide +kernel
theorem dX6_setWay_24 : decode cX6_setWay 24 = .ok (.aload_n 0, 1) := by decide +kernel
theorem dX6_setWay_25 : decode cX6_setWay 25 = .ok (.getfield 21, 3) := by decide +kernel
theorem dX6_setWay_28 : decode cX6_setWay 28 = .ok (.getfield 95, 3) := by decide +kernel
theorem dX6_setWay_31 : decode cX6_setWay 31 = .ok (.if_icmp .eq 23, 3) := by decide +kernel
theorem dX6_setWay_34 : decode cX6_setWay 34 = .ok (.aload_n 0, 1) := by decide +kernel
theorem dX6_setWay_35 : decode cX6_setWay 35 = .ok (.getfield 21, 3) := by decide +kernel
theorem dX6_setWay_38 : decode cX6_setWay 38 = .ok (.invokevirtual 98, 3) := by decide +kernel
theorem dX6_setWay_41 : decode cX6_setWay 41 = .ok (.ifCond .eq 13, 3) := by decide +kernel
theorem dX6_setWay_44 : decode cX6_setWay 44 = .ok (.new 32, 3) := by decide +kernel
theorem dX6_setWay_47 : decode cX6_setWay 47 = .ok (.dup, 1) := by decide +kernel
theorem dX6_setWay_48 : decode cX6_setWay 48 = .ok (.ldc 102, 2) := by decide +kernel
theorem dX6_setWay_50 : decode cX6_setWay 50 = .ok (.invokespecial 36, 3) := by decide +kernel
theorem dX6_setWay_53 : decode cX6_setWay 53 = .ok (.athrow, 1) := by decide +kernel
theorem dX6_setWay_54 : decode cX6_setWay 54 = .ok (.aload_n 0, 1) := by decide +kernel
theorem dX6_setWay_55 : decode cX6_setWay 55 = .ok (.getfield 21, 3) := by decide +kernel
theorem dX6_setWay_58 : decode cX6_setWay 58 = .ok (.getfield 95, 3) := by decide +kernel
theorem dX6_setWay_61 : decode cX6_setWay 61 = .ok (.istore_n 3, 1) := by decide +kernel
theorem dX6_setWay_62 : decode cX6_setWay 62 = .ok (.aload_n 0, 1) := by decide +kernel
theorem dX6_setWay_63 : decode cX6_setWay 63 = .ok (.getfield 21, 3) := by decide +kernel
theorem dX6_setWay_66 : decode cX6_setWay 66 = .ok (.iload_n 1, 1) := by decide +kernel
theorem dX6_setWay_67 : decode cX6_setWay 67 = .ok (.putfield 95, 3) := by decide +kernel
theorem dX6_setWay_70 : decode cX6_setWay 70 = .ok (.aload_n 0, 1) := by decide +kernel
theorem dX6_setWay_71 : decode cX6_setWay 71 = .ok (.getfield 21, 3) := by decide +kernel
theorem dX6_setWay_74 : decode cX6_setWay 74 = .ok (.iload_n 2, 1) := by decide +kernel
theorem dX6_setWay_75 : decode cX6_setWay 75 = .ok (.putfield 104, 3) := by decide +kernel
theorem dX6_setWay_78 : decode cX6_setWay 78 = .ok (.iload_n 3, 1) := by decide +kernel
theorem dX6_setWay_79 : decode cX6_setWay 79 = .ok (.ireturn, 1) := by decide +kernel
set_option maxRecDepth 20000 in
theorem ggX6_submit_X6_needJob : GoodIn wsX6_submit wsX6_needJob := goodIn_ca (goodIn_r _ [8, 9, 10, 11, 12, 13, 7, 14, 15, 55, 56, 57, 70, 71, 72] (by decide +kernel) (by decide +kernel)) (goodIn_sub (fun _ h => List.mem_cons_of_mem _ (List.mem_append_right _ h)) (by decide +kernel))
set_option maxRecDepth 20000 in
theorem gX6_submit_X6_needJob : GoodIn wsX6_submit (wsV RX6 43 RX6 yX6_needJob wsX6_needJob) := goodIn_app (goodIn_of _ (by decide +kernel)) ggX6_submit_X6_needJob
set_option maxRecDepth 20000 in
theorem ggX6_submit_X1_askFor : GoodIn wsX6_submit wsX1_askFor := goodIn_r _ [20, 21, 22, 23, 24, 19, 25, 26, 27, 28, 29, 30, 31, 32, 33, 34, 35, 36, 37, 38, 39, 40, 41, 42, 43, 44, 45, 46, 47, 48, 49, 50, 51, 52, 53, 54, 58, 59, 60, 61, 62, 63, 64, 65, 66, 67, 68, 69, 73, 74, 75, 76, 77, 78, 79, 80, 81, 82, 83, 84, 85] (by decide +kernel) (by decide +kernel)
set_option maxRecDepth 20000 in
theorem gX6_submit_X1_askFor : GoodIn wsX6_submit (wsV RX6 112 RX1 yX1_askFor wsX1_askFor) := goodIn_app (goodIn_of _ (by decide +kernel)) ggX6_submit_X1_askFor
theorem dX6_submit_0 : decode cX6_submit 0 = .ok (.aload_n 0, 1) := by decide +kernel
theorem dX6_submit_1 : decode cX6_submit 1 = .ok (.iload_n 1, 1) := by decide +kernel
theorem dX6_submit_2 : decode cX6_submit 2 = .ok (.invokevirtual 43, 3) := by decide +kernel
theorem dX6_submit_5 : decode cX6_submit 5 = .ok (.aload_n 0, 1) := by decide +kernel
theorem dX6_submit_6 : decode cX6_submit 6 = .ok (.getfield 21, 3) := by decide +kernel
theorem dX6_submit_9 : decode cX6_submit 9 = .ok (.getfield 107, 3) := by decide +kernel
theorem dX6_submit_12 : decode cX6_submit 12 = .ok (.bipush 24, 2) := by decide +kernel
theorem dX6_submit_14 : decode cX6_submit 14 = .ok (.if_icmp .lt 13, 3) := by decide +kernel
theorem dX6_submit_17 : decode cX6_submit 17 = .ok (.new 32, 3) := by decide +kernel
theorem dX6_submit_20 : decode cX6_submit 20 = .ok (.dup, 1) := by decide +kernel
theorem dX6_submit_21 : decode cX6_submit 21 = .ok (.ldc 110, 2) := by decide +kernel
theorem dX6_submit_23 : decode cX6_submit 23 = .ok (.invokespecial 36, 3) := by decide +kernel
theorem dX6_submit_26 : decode cX6_submit 26 = .ok (.athrow, 1) := by decide +kernel
theorem dX6_submit_27 : decode cX6_submit 27 = .ok (.aload_n 0, 1) := by decide +kernel
theorem dX6_submit_28 : decode cX6_submit 28 = .ok (.getfield 21, 3) := by decide +kernel
theorem dX6_submit_31 : decode cX6_submit 31 = .ok (.iload_n 1, 1) := by decide +kernel
theorem dX6_submit_32 : decode cX6_submit 32 = .ok (.invokevirtual 112, 3) := by decide +kernel
theorem dX6_submit_35 : decode cX6_submit 35 = .ok (.ireturn, 1) := by decide +kernel
set_option maxRecDepth 20000 in
theorem ggX6_cancel_X6_needTask : GoodIn wsX6_cancel wsX6_needTask := goodIn_ca (goodIn_r _ [8, 9, 10, 3, 77, 78, 79, 80, 81, 82, 83, 84, 85, 86, 87, 88, 89, 90, 91] (by decide +kernel) (by decide +kernel)) (goodIn_sub (fun _ h => List.mem_cons_of_mem _ (List.mem_append_right _ h)) (by decide +kernel))
set_option maxRecDepth 20000 in
theorem gX6_cancel_X6_needTask : GoodIn wsX6_cancel (wsV RX6 116 RX6 yX6_needTask wsX6_needTask) := goodIn_app (goodIn_of _ (by decide +kernel)) ggX6_cancel_X6_needTask
set_option maxRecDepth 20000 in
theorem ggX6_cancel_X1_taskAt : GoodIn wsX6_cancel wsX1_taskAt := goodIn_r _ [15, 16, 17, 80, 81, 82, 83, 84, 85, 86, 87, 88, 89, 90, 91] (by decide +kernel) (by decide +kernel)
set_option maxRecDepth 20000 in
theorem gX6_cancel_X1_taskAt : GoodIn wsX6_cancel (wsV RX6 119 RX1 yX1_taskAt wsX1_taskAt) := goodIn_app (goodIn_of _ (by decide +kernel)) ggX6_cancel_X1_taskAt
set_option maxRecDepth 20000 in
theorem ggX6_cancel_X4_isOver : GoodIn wsX6_cancel wsX4_isOver := goodIn_r _ [22, 23, 92, 93, 94, 95, 96, 97, 98, 99, 100, 101, 102] (by decide +kernel) (by decide +kernel)
set_option maxRecDepth 20000 in
theorem gX6_cancel_X4_isOver : GoodIn wsX6_cancel (wsV RX6 123 RX4 yX4_isOver wsX4_isOver) := goodIn_app (goodIn_of _ (by decide +kernel)) ggX6_cancel_X4_isOver
set_option maxRecDepth 20000 in
theorem ggX6_cancel_X1_cancelBelow : GoodIn wsX6_cancel wsX1_cancelBelow := goodIn_r _ [27, 28, 29, 12, 13, 14, 15, 16, 17, 30, 31, 32, 33, 19, 20, 21, 22, 23, 34, 35, 36, 37, 38, 39, 40, 41, 42, 43, 44, 45, 46, 47, 48, 49, 50, 51, 52, 53, 54, 55, 56, 57, 58, 59, 60, 61, 62, 63, 64, 65, 66, 67, 68, 69, 70, 71, 72, 73, 74, 75, 92, 93, 94, 95, 96, 97, 98, 99, 100, 101, 102, 80, 81, 82, 83, 84, 85, 86, 87, 88, 89, 90, 91, 103, 104, 105, 106, 107, 108, 109, 110] (by decide +kernel) (by decide +kernel)
set_option maxRecDepth 20000 in
theorem gX6_cancel_X1_cancelBelow : GoodIn wsX6_cancel (wsV RX6 130 RX1 yX1_cancelBelow wsX1_cancelBelow) := goodIn_app (goodIn_of _ (by decide +kernel)) ggX6_cancel_X1_cancelBelow
set_option maxRecDepth 20000 in
theorem ggX6_cancel_X1_end : GoodIn wsX6_cancel wsX1_end := goodIn_r _ [37, 38, 39, 40, 41, 42, 43, 44, 45, 46, 47, 48, 49, 50, 14, 51, 52, 53, 29, 12, 13, 15, 16, 17, 54, 55, 56, 21, 57, 58, 59, 60, 61, 62, 63, 64, 65, 66, 67, 68, 69, 70, 71, 72, 73, 74, 75, 92, 93, 94, 95, 96, 97, 98, 99, 100, 101, 102, 80, 81, 82, 83, 84, 85, 86, 87, 88, 89, 90, 91, 103, 104, 105, 106, 107, 108, 109, 110] (by decide +kernel) (by decide +kernel)
set_option maxRecDepth 20000 in
theorem gX6_cancel_X1_end : GoodIn wsX6_cancel (wsV RX6 134 RX1 yX1_end wsX1_end) := goodIn_app (goodIn_of _ (by decide +kernel)) ggX6_cancel_X1_end
theorem dX6_cancel_0 : decode cX6_cancel 0 = .ok (.aload_n 0, 1) := by decide +kernel
theorem dX6_cancel_1 : decode cX6_cancel 1 = .ok (.iload_n 1, 1) := by decide +kernel
theorem dX6_cancel_2 : decode cX6_cancel 2 = .ok (.invokevirtual 116, 3) := by decide +kernel
theorem dX6_cancel_5 : decode cX6_cancel 5 = .ok (.aload_n 0, 1) := by decide +kernel
theorem dX6_cancel_6 : decode cX6_cancel 6 = .ok (.getfield 21, 3) := by decide +kernel
theorem dX6_cancel_9 : decode cX6_cancel 9 = .ok (.iload_n 1, 1) := by decide +kernel
theorem dX6_cancel_10 : decode cX6_cancel 10 = .ok (.invokevirtual 119, 3) := by decide +kernel
theorem dX6_cancel_13 : decode cX6_cancel 13 = .ok (.astore_n 2, 1) := by decide +kernel
theorem dX6_cancel_14 : decode cX6_cancel 14 = .ok (.aload_n 2, 1) := by decide +kernel
theorem dX6_cancel_15 : decode cX6_cancel 15 = .ok (.invokevirtual 123, 3) := by decide +kernel
theorem dX6_cancel_18 : decode cX6_cancel 18 = .ok (.ifCond .eq 13, 3) := by decide +kernel
theorem dX6_cancel_21 : decode cX6_cancel 21 = .ok (.new 32, 3) := by decide +kernel
theorem dX6_cancel_24 : decode cX6_cancel 24 = .ok (.dup, 1) := by decide +kernel
theorem dX6_cancel_25 : decode cX6_cancel 25 = .ok (.ldc 128, 2) := by decide +kernel
theorem dX6_cancel_27 : decode cX6_cancel 27 = .ok (.invokespecial 36, 3) := by decide +kernel
theorem dX6_cancel_30 : decode cX6_cancel 30 = .ok (.athrow, 1) := by decide +kernel
theorem dX6_cancel_31 : decode cX6_cancel 31 = .ok (.aload_n 0, 1) := by decide +kernel
theorem dX6_cancel_32 : decode cX6_cancel 32 = .ok (.getfield 21, 3) := by decide +kernel
theorem dX6_cancel_35 : decode cX6_cancel 35 = .ok (.aload_n 2, 1) := by decide +kernel
theorem dX6_cancel_36 : decode cX6_cancel 36 = .ok (.invokevirtual 130, 3) := by decide +kernel
theorem dX6_cancel_39 : decode cX6_cancel 39 = .ok (.istore_n 3, 1) := by decide +kernel
theorem dX6_cancel_40 : decode cX6_cancel 40 = .ok (.aload_n 0, 1) := by decide +kernel
theorem dX6_cancel_41 : decode cX6_cancel 41 = .ok (.getfield 21, 3) := by decide +kernel
theorem dX6_cancel_44 : decode cX6_cancel 44 = .ok (.aload_n 2, 1) := by decide +kernel
theorem dX6_cancel_45 : decode cX6_cancel 45 = .ok (.bipush 6, 2) := by decide +kernel
theorem dX6_cancel_47 : decode cX6_cancel 47 = .ok (.invokevirtual 134, 3) := by decide +kernel
theorem dX6_cancel_50 : decode cX6_cancel 50 = .ok (.iload_n 3, 1) := by decide +kernel
theorem dX6_cancel_51 : decode cX6_cancel 51 = .ok (.iconst 1, 1) := by decide +kernel
theorem dX6_cancel_52 : decode cX6_cancel 52 = .ok (.iadd, 1) := by decide +kernel
theorem dX6_cancel_53 : decode cX6_cancel 53 = .ok (.ireturn, 1) := by decide +kernel
set_option maxRecDepth 20000 in
theorem ggX6_keep_X6_needPromise : GoodIn wsX6_keep wsX6_needPromise := goodIn_ca (goodIn_r _ [7, 8, 9, 10, 11, 6, 12] (by decide +kernel) (by decide +kernel)) (goodIn_sub (fun _ h => List.mem_cons_of_mem _ (List.mem_append_right _ h)) (by decide +kernel))
set_option maxRecDepth 20000 in
theorem gX6_keep_X6_needPromise : GoodIn wsX6_keep (va_wsS RX6 138 yX6_needPromise wsX6_needPromise) := goodIn_app (goodIn_of _ (by decide +kernel)) ggX6_keep_X6_needPromise
set_option maxRecDepth 20000 in
theorem ggX6_keep_X1_keepPromise : GoodIn wsX6_keep wsX1_keepPromise := goodIn_r _ [17, 18, 19, 20, 21, 22, 23, 24, 16, 25, 26, 27, 28, 29, 30, 31, 32, 33, 34, 35, 36, 37, 38, 39, 40, 41, 42, 43, 44, 45, 46, 47, 48, 49, 50, 51, 52, 53, 54, 55, 56, 57, 58, 59, 60, 61, 62, 66, 67, 68, 69, 70, 71, 72, 73, 74, 75, 76, 77, 78, 79, 80, 81, 82, 83, 84, 85, 86, 87, 88, 89, 90, 91, 92, 93, 94, 95, 96, 97, 98, 99, 100, 101, 102] (by decide +kernel) (by decide +kernel)
set_option maxRecDepth 20000 in
theorem gX6_keep_X1_keepPromise : GoodIn wsX6_keep (wsV RX6 143 RX1 yX1_keepPromise wsX1_keepPromise) := goodIn_app (goodIn_of _ (by decide +kernel)) ggX6_keep_X1_keepPromise
theorem dX6_keep_0 : decode cX6_keep 0 = .ok (.iload_n 1, 1) := by decide +kernel
theorem dX6_keep_1 : decode cX6_keep 1 = .ok (.invokestatic 138, 3) := by decide +kernel
theorem dX6_keep_4 : decode cX6_keep 4 = .ok (.iload_n 2, 1) := by decide +kernel
theorem dX6_keep_5 : decode cX6_keep 5 = .ok (.sipush (-999), 3) := by decide +kernel
theorem dX6_keep_8 : decode cX6_keep 8 = .ok (.if_icmp .lt 10, 3) := by decide +kernel
theorem dX6_keep_11 : decode cX6_keep 11 = .ok (.iload_n 2, 1) := by decide +kernel
theorem dX6_keep_12 : decode cX6_keep 12 = .ok (.sipush 999, 3) := by decide +kernel
theorem dX6_keep_15 : decode cX6_keep 15 = .ok (.if_icmp .le 13, 3) := by decide +kernel
theorem dX6_keep_18 : decode cX6_keep 18 = .ok (.new 51, 3) := by decide +kernel
theorem dX6_keep_21 : decode cX6_keep 21 = .ok (.dup, 1) := by decide +kernel
theorem dX6_keep_22 : decode cX6_keep 22 = .ok (.ldc 141, 2) := by decide +kernel
theorem dX6_keep_24 : decode cX6_keep 24 = .ok (.invokespecial 55, 3) := by decide +kernel
theorem dX6_keep_27 : decode cX6_keep 27 = .ok (.athrow, 1) := by decide +kernel
theorem dX6_keep_28 : decode cX6_keep 28 = .ok (.aload_n 0, 1) := by decide +kernel
theorem dX6_keep_29 : decode cX6_keep 29 = .ok (.getfield 21, 3) := by decide +kernel
theorem dX6_keep_32 : decode cX6_keep 32 = .ok (.iload_n 1, 1) := by decide +kernel
theorem dX6_keep_33 : decode cX6_keep 33 = .ok (.iload_n 2, 1) := by decide +kernel
theorem dX6_keep_34 : decode cX6_keep 34 = .ok (.invokevirtual 143, 3) := by decide +kernel
theorem dX6_keep_37 : decode cX6_keep 37 = .ok (.ireturn, 1) := by decide +kernel
set_option maxRecDepth 20000 in
theorem ggX6_tick_X1_passTick : GoodIn wsX6_tick wsX1_passTick := goodIn_r _ [8, 9, 10, 11, 12, 13, 14, 7, 15, 16, 17, 18, 19, 20, 21, 22, 23, 24, 25, 26, 27, 28, 29, 30, 31, 32, 33, 34, 35, 36, 37, 38, 39, 40, 41, 42, 43, 44, 45, 46, 47, 48, 49, 50, 51, 52, 53, 54, 55, 56, 57, 58, 59, 60, 61, 62, 63, 64, 65, 66, 67, 68, 69, 70, 71, 72, 73, 74, 75, 76, 77, 78, 79, 80, 81, 82, 83, 84, 85, 86, 87, 88, 89, 90, 91, 92, 93, 94, 95, 96, 97, 98, 99, 100, 101, 102, 103, 104, 105, 106, 107, 108, 109, 110, 111, 112, 113, 114, 115, 116, 117, 118, 119, 120, 121, 122, 123, 124, 125, 126, 127, 128, 129, 130, 131, 132, 133, 134, 135, 136, 137, 138, 139, 140, 141, 142, 143, 144, 145, 146, 147, 148, 149, 150, 151, 152, 153, 154, 155, 156, 157, 158, 159, 160, 161, 162, 163, 164, 165, 166, 167, 168, 169, 170, 171, 172, 173, 174, 175, 176, 177, 178, 179, 180, 181, 182, 183, 184, 185, 186, 187, 188, 189, 190, 191, 192, 193, 194, 195, 196, 197, 198, 199, 200, 201, 202, 203, 204, 205, 206, 207, 208, 209, 210, 211, 219, 220, 221, 222, 223, 224, 225, 226, 227, 228, 229, 230, 231, 232, 233, 234, 235, 236, 237, 238, 239, 240, 241, 242, 243, 244, 245, 246, 247, 248, 249, 250, 251, 252, 253, 254, 255] (by decide +kernel) (by decide +kernel)
set_option maxRecDepth 20000 in
theorem gX6_tick_X1_passTick : GoodIn wsX6_tick (wsV RX6 148 RX1 yX1_passTick wsX1_passTick) := goodIn_app (goodIn_of _ (by decide +kernel)) ggX6_tick_X1_passTick
set_option maxRecDepth 20000 in
theorem ggX6_tick_X1_countUnfinished : GoodIn wsX6_tick wsX1_countUnfinished := goodIn_r _ [215, 122, 48, 49, 50, 7, 51, 52, 53, 153, 154, 155, 57, 156, 59, 219, 220, 221, 222, 223, 224, 225, 226, 227, 228, 229, 230, 239, 240, 241, 242, 243, 244, 245, 246, 247, 248, 249] (by decide +kernel) (by decide +kernel)
set_option maxRecDepth 20000 in
theorem gX6_tick_X1_countUnfinished : GoodIn wsX6_tick (wsV RX6 151 RX1 yX1_countUnfinished wsX1_countUnfinished) := goodIn_app (goodIn_of _ (by decide +kernel)) ggX6_tick_X1_countUnfinished
theorem dX6_tick_0 : decode cX6_tick 0 = .ok (.iload_n 1, 1) := by decide +kernel
theorem dX6_tick_1 : decode cX6_tick 1 = .ok (.iconst 1, 1) := by decide +kernel
theorem dX6_tick_2 : decode cX6_tick 2 = .ok (.if_icmp .lt 9, 3) := by decide +kernel
theorem dX6_tick_5 : decode cX6_tick 5 = .ok (.iload_n 1, 1) := by decide +kernel
theorem dX6_tick_6 : decode cX6_tick 6 = .ok (.bipush 40, 2) := by decide +kernel
theorem dX6_tick_8 : decode cX6_tick 8 = .ok (.if_icmp .le 13, 3) := by decide +kernel
theorem dX6_tick_11 : decode cX6_tick 11 = .ok (.new 51, 3) := by decide +kernel
theorem dX6_tick_14 : decode cX6_tick 14 = .ok (.dup, 1) := by decide +kernel
theorem dX6_tick_15 : decode cX6_tick 15 = .ok (.ldc 146, 2) := by decide +kernel
theorem dX6_tick_17 : decode cX6_tick 17 = .ok (.invokespecial 55, 3) := by decide +kernel
theorem dX6_tick_20 : decode cX6_tick 20 = .ok (.athrow, 1) := by decide +kernel
theorem dX6_tick_21 : decode cX6_tick 21 = .ok (.iconst 0, 1) := by decide +kernel
theorem dX6_tick_22 : decode cX6_tick 22 = .ok (.istore_n 2, 1) := by decide +kernel
theorem dX6_tick_23 : decode cX6_tick 23 = .ok (.iload_n 2, 1) := by decide +kernel
theorem dX6_tick_24 : decode cX6_tick 24 = .ok (.iload_n 1, 1) := by decide +kernel
theorem dX6_tick_25 : decode cX6_tick 25 = .ok (.if_icmp .ge 16, 3) := by decide +kernel
theorem dX6_tick_28 : decode cX6_tick 28 = .ok (.aload_n 0, 1) := by decide +kernel
theorem dX6_tick_29 : decode cX6_tick 29 = .ok (.getfield 21, 3) := by decide +kernel
theorem dX6_tick_32 : decode cX6_tick 32 = .ok (.invokevirtual 148, 3) := by decide +kernel
theorem dX6_tick_35 : decode cX6_tick 35 = .ok (.iinc 2 1, 3) := by decide +kernel
theorem dX6_tick_38 : decode cX6_tick 38 = .ok (.goto (-15), 3) := by decide +kernel
theorem dX6_tick_41 : decode cX6_tick 41 = .ok (.aload_n 0, 1) := by decide +kernel
theorem dX6_tick_42 : decode cX6_tick 42 = .ok (.getfield 21, 3) := by decide +kernel
theorem dX6_tick_45 : decode cX6_tick 45 = .ok (.invokevirtual 151, 3) := by decide +kernel
theorem dX6_tick_48 : decode cX6_tick 48 = .ok (.ireturn, 1) := by decide +kernel
theorem dX6_clock_0 : decode cX6_clock 0 = .ok (.aload_n 0, 1) := by decide +kernel
theorem dX6_clock_1 : decode cX6_clock 1 = .ok (.getfield 21, 3) := by decide +kernel
theorem dX6_clock_4 : decode cX6_clock 4 = .ok (.getfield 154, 3) := by decide +kernel
theorem dX6_clock_7 : decode cX6_clock 7 = .ok (.ireturn, 1) := by decide +kernel
theorem dX6_tasks_0 : decode cX6_tasks 0 = .ok (.aload_n 0, 1) := by decide +kernel
theorem dX6_tasks_1 : decode cX6_tasks 1 = .ok (.getfield 21, 3) := by decide +kernel
theorem dX6_tasks_4 : decode cX6_tasks 4 = .ok (.getfield 107, 3) := by decide +kernel
theorem dX6_tasks_7 : decode cX6_tasks 7 = .ok (.ireturn, 1) := by decide +kernel
set_option maxRecDepth 20000 in
theorem ggX6_stateOf_X6_needTask : GoodIn wsX6_stateOf wsX6_needTask := goodIn_ca (goodIn_r _ [6, 7, 8, 1, 16, 17, 18, 30, 31, 32, 33, 34, 35, 36, 37, 38, 39, 40, 41] (by decide +kernel) (by decide +kernel)) (goodIn_sub (fun _ h => List.mem_cons_of_mem _ (List.mem_append_right _ h)) (by decide +kernel))
set_option maxRecDepth 20000 in
theorem gX6_stateOf_X6_needTask : GoodIn wsX6_stateOf (wsV RX6 116 RX6 yX6_needTask wsX6_needTask) := goodIn_app (goodIn_of _ (by decide +kernel)) ggX6_stateOf_X6_needTask
set_option maxRecDepth 20000 in
theorem ggX6_stateOf_X1_taskAt : GoodIn wsX6_stateOf wsX1_taskAt := goodIn_r _ [13, 14, 15, 30, 31, 32, 33, 34, 35, 36, 37, 38, 39, 40, 41] (by decide +kernel) (by decide +kernel)
set_option maxRecDepth 20000 in
theorem gX6_stateOf_X1_taskAt : GoodIn wsX6_stateOf (wsV RX6 119 RX1 yX1_taskAt wsX1_taskAt) := goodIn_app (goodIn_of _ (by decide +kernel)) ggX6_stateOf_X1_taskAt
theorem dX6_stateOf_0 : decode cX6_stateOf 0 = .ok (.aload_n 0, 1) := by decide +kernel
theorem dX6_stateOf_1 : decode cX6_stateOf 1 = .ok (.iload_n 1, 1) := by decide +kernel
theorem dX6_stateOf_2 : decode cX6_stateOf 2 = .ok (.invokevirtual 116, 3) := by decide +kernel
theorem dX6_stateOf_5 : decode cX6_stateOf 5 = .ok (.aload_n 0, 1) := by decide +kernel
theorem dX6_stateOf_6 : decode cX6_stateOf 6 = .ok (.getfield 21, 3) := by decide +kernel
theorem dX6_stateOf_9 : decode cX6_stateOf 9 = .ok (.iload_n 1, 1) := by decide +kernel
theorem dX6_stateOf_10 : decode cX6_stateOf 10 = .ok (.invokevirtual 119, 3) := by decide +kernel
theorem dX6_stateOf_13 : decode cX6_stateOf 13 = .ok (.getfield 157, 3) := by decide +kernel
theorem dX6_stateOf_16 : decode cX6_stateOf 16 = .ok (.ireturn, 1) := by decide +kernel
set_option maxRecDepth 20000 in
theorem ggX6_valueOf_X6_needTask : GoodIn wsX6_valueOf wsX6_needTask := goodIn_ca (goodIn_r _ [6, 7, 8, 1, 16, 17, 18, 30, 31, 32, 33, 34, 35, 36, 37, 38, 39, 40, 41] (by decide +kernel) (by decide +kernel)) (goodIn_sub (fun _ h => List.mem_cons_of_mem _ (List.mem_append_right _ h)) (by decide +kernel))
set_option maxRecDepth 20000 in
theorem gX6_valueOf_X6_needTask : GoodIn wsX6_valueOf (wsV RX6 116 RX6 yX6_needTask wsX6_needTask) := goodIn_app (goodIn_of _ (by decide +kernel)) ggX6_valueOf_X6_needTask
set_option maxRecDepth 20000 in
theorem ggX6_valueOf_X1_taskAt : GoodIn wsX6_valueOf wsX1_taskAt := goodIn_r _ [13, 14, 15, 30, 31, 32, 33, 34, 35, 36, 37, 38, 39, 40, 41] (by decide +kernel) (by decide +kernel)
set_option maxRecDepth 20000 in
theorem gX6_valueOf_X1_taskAt : GoodIn wsX6_valueOf (wsV RX6 119 RX1 yX1_taskAt wsX1_taskAt) := goodIn_app (goodIn_of _ (by decide +kernel)) ggX6_valueOf_X1_taskAt
theorem dX6_valueOf_0 : decode cX6_valueOf 0 = .ok (.aload_n 0, 1) := by decide +kernel
theorem dX6_valueOf_1 : decode cX6_valueOf 1 = .ok (.iload_n 1, 1) := by decide +kernel
theorem dX6_valueOf_2 : decode cX6_valueOf 2 = .ok (.invokevirtual 116, 3) := by decide +kernel
theorem dX6_valueOf_5 : decode cX6_valueOf 5 = .ok (.aload_n 0, 1) := by decide +kernel
theorem dX6_valueOf_6 : decode cX6_valueOf 6 = .ok (.getfield 21, 3) := by decide +kernel
theorem dX6_valueOf_9 : decode cX6_valueOf 9 = .ok (.iload_n 1, 1) := by decide +kernel
theorem dX6_valueOf_10 : decode cX6_valueOf 10 = .ok (.invokevirtual 119, 3) := by decide +kernel
theorem dX6_valueOf_13 : decode cX6_valueOf 13 = .ok (.getfield 160, 3) := by decide +kernel
theorem dX6_valueOf_16 : decode cX6_valueOf 16 = .ok (.ireturn, 1) := by decide +kernel
set_option maxRecDepth 20000 in
theorem ggX6_stepOf_X6_needTask : GoodIn wsX6_stepOf wsX6_needTask := goodIn_ca (goodIn_r _ [6, 7, 8, 1, 16, 17, 18, 30, 31, 32, 33, 34, 35, 36, 37, 38, 39, 40, 41] (by decide +kernel) (by decide +kernel)) (goodIn_sub (fun _ h => List.mem_cons_of_mem _ (List.mem_append_right _ h)) (by decide +kernel))
set_option maxRecDepth 20000 in
theorem gX6_stepOf_X6_needTask : GoodIn wsX6_stepOf (wsV RX6 116 RX6 yX6_needTask wsX6_needTask) := goodIn_app (goodIn_of _ (by decide +kernel)) ggX6_stepOf_X6_needTask
set_option maxRecDepth 20000 in
theorem ggX6_stepOf_X1_taskAt : GoodIn wsX6_stepOf wsX1_taskAt := goodIn_r _ [13, 14, 15, 30, 31, 32, 33, 34, 35, 36, 37, 38, 39, 40, 41] (by decide +kernel) (by decide +kernel)
set_option maxRecDepth 20000 in
theorem gX6_stepOf_X1_taskAt : GoodIn wsX6_stepOf (wsV RX6 119 RX1 yX1_taskAt wsX1_taskAt) := goodIn_app (goodIn_of _ (by decide +kernel)) ggX6_stepOf_X1_taskAt
theorem dX6_stepOf_0 : decode cX6_stepOf 0 = .ok (.aload_n 0, 1) := by decide +kernel
theorem dX6_stepOf_1 : decode cX6_stepOf 1 = .ok (.iload_n 1, 1) := by decide +kernel
theorem dX6_stepOf_2 : decode cX6_stepOf 2 = .ok (.invokevirtual 116, 3) := by decide +kernel
theorem dX6_stepOf_5 : decode cX6_stepOf 5 = .ok (.aload_n 0, 1) := by decide +kernel
theorem dX6_stepOf_6 : decode cX6_stepOf 6 = .ok (.getfield 21, 3) := by decide +kernel
theorem dX6_stepOf_9 : decode cX6_stepOf 9 = .ok (.iload_n 1, 1) := by decide +kernel
theorem dX6_stepOf_10 : decode cX6_stepOf 10 = .ok (.invokevirtual 119, 3) := by decide +kernel
theorem dX6_stepOf_13 : decode cX6_stepOf 13 = .ok (.getfield 163, 3) := by decide +kernel
theorem dX6_stepOf_16 : decode cX6_stepOf 16 = .ok (.ireturn, 1) := by decide +kernel
set_option maxRecDepth 20000 in
theorem ggX6_parentOf_X6_needTask : GoodIn wsX6_parentOf wsX6_needTask := goodIn_ca (goodIn_r _ [6, 7, 8, 1, 16, 17, 18, 30, 31, 32, 33, 34, 35, 36, 37, 38, 39, 40, 41] (by decide +kernel) (by decide +kernel)) (goodIn_sub (fun _ h => List.mem_cons_of_mem _ (List.mem_append_right _ h)) (by decide +kernel))
set_option maxRecDepth 20000 in
theorem gX6_parentOf_X6_needTask : GoodIn wsX6_parentOf (wsV RX6 116 RX6 yX6_needTask wsX6_needTask) := goodIn_app (goodIn_of _ (by decide +kernel)) ggX6_parentOf_X6_needTask
set_option maxRecDepth 20000 in
theorem ggX6_parentOf_X1_taskAt : GoodIn wsX6_parentOf wsX1_taskAt := goodIn_r _ [13, 14, 15, 30, 31, 32, 33, 34, 35, 36, 37, 38, 39, 40, 41] (by decide +kernel) (by decide +kernel)
set_option maxRecDepth 20000 in
theorem gX6_parentOf_X1_taskAt : GoodIn wsX6_parentOf (wsV RX6 119 RX1 yX1_taskAt wsX1_taskAt) := goodIn_app (goodIn_of _ (by decide +kernel)) ggX6_parentOf_X1_taskAt
theorem dX6_parentOf_0 : decode cX6_parentOf 0 = .ok (.aload_n 0, 1) := by decide +kernel
theorem dX6_parentOf_1 : decode cX6_parentOf 1 = .ok (.iload_n 1, 1) := by decide +kernel
theorem dX6_parentOf_2 : decode cX6_parentOf 2 = .ok (.invokevirtual 116, 3) := by decide +kernel
theorem dX6_parentOf_5 : decode cX6_parentOf 5 = .ok (.aload_n 0, 1) := by decide +kernel
theorem dX6_parentOf_6 : decode cX6_parentOf 6 = .ok (.getfield 21, 3) := by decide +kernel
theorem dX6_parentOf_9 : decode cX6_parentOf 9 = .ok (.iload_n 1, 1) := by decide +kernel
theorem dX6_parentOf_10 : decode cX6_parentOf 10 = .ok (.invokevirtual 119, 3) := by decide +kernel
theorem dX6_parentOf_13 : decode cX6_parentOf 13 = .ok (.getfield 166, 3) := by decide +kernel
theorem dX6_parentOf_16 : decode cX6_parentOf 16 = .ok (.ireturn, 1) := by decide +kernel
set_option maxRecDepth 20000 in
theorem ggX6_childrenOf_X6_needTask : GoodIn wsX6_childrenOf wsX6_needTask := goodIn_ca (goodIn_r _ [6, 7, 8, 1, 16, 17, 18, 30, 31, 32, 33, 34, 35, 36, 37, 38, 39, 40, 41] (by decide +kernel) (by decide +kernel)) (goodIn_sub (fun _ h => List.mem_cons_of_mem _ (List.mem_append_right _ h)) (by decide +kernel))
set_option maxRecDepth 20000 in
theorem gX6_childrenOf_X6_needTask : GoodIn wsX6_childrenOf (wsV RX6 116 RX6 yX6_needTask wsX6_needTask) := goodIn_app (goodIn_of _ (by decide +kernel)) ggX6_childrenOf_X6_needTask
set_option maxRecDepth 20000 in
theorem ggX6_childrenOf_X1_taskAt : GoodIn wsX6_childrenOf wsX1_taskAt := goodIn_r _ [13, 14, 15, 30, 31, 32, 33, 34, 35, 36, 37, 38, 39, 40, 41] (by decide +kernel) (by decide +kernel)
set_option maxRecDepth 20000 in
theorem gX6_childrenOf_X1_taskAt : GoodIn wsX6_childrenOf (wsV RX6 119 RX1 yX1_taskAt wsX1_taskAt) := goodIn_app (goodIn_of _ (by decide +kernel)) ggX6_childrenOf_X1_taskAt
theorem dX6_childrenOf_0 : decode cX6_childrenOf 0 = .ok (.aload_n 0, 1) := by decide +kernel
theorem dX6_childrenOf_1 : decode cX6_childrenOf 1 = .ok (.iload_n 1, 1) := by decide +kernel
theorem dX6_childrenOf_2 : decode cX6_childrenOf 2 = .ok (.invokevirtual 116, 3) := by decide +kernel
theorem dX6_childrenOf_5 : decode cX6_childrenOf 5 = .ok (.aload_n 0, 1) := by decide +kernel
theorem dX6_childrenOf_6 : decode cX6_childrenOf 6 = .ok (.getfield 21, 3) := by decide +kernel
theorem dX6_childrenOf_9 : decode cX6_childrenOf 9 = .ok (.iload_n 1, 1) := by decide +kernel
theorem dX6_childrenOf_10 : decode cX6_childrenOf 10 = .ok (.invokevirtual 119, 3) := by decide +kernel
theorem dX6_childrenOf_13 : decode cX6_childrenOf 13 = .ok (.getfield 169, 3) := by decide +kernel
theorem dX6_childrenOf_16 : decode cX6_childrenOf 16 = .ok (.ireturn, 1) := by decide +kernel
set_option maxRecDepth 20000 in
theorem ggX6_workOf_X6_needTask : GoodIn wsX6_workOf wsX6_needTask := goodIn_ca (goodIn_r _ [6, 7, 8, 1, 24, 25, 26, 27, 28, 29, 30, 31, 32, 33, 34, 35, 36, 37, 38] (by decide +kernel) (by decide +kernel)) (goodIn_sub (fun _ h => List.mem_cons_of_mem _ (List.mem_append_right _ h)) (by decide +kernel))
set_option maxRecDepth 20000 in
theorem gX6_workOf_X6_needTask : GoodIn wsX6_workOf (wsV RX6 116 RX6 yX6_needTask wsX6_needTask) := goodIn_app (goodIn_of _ (by decide +kernel)) ggX6_workOf_X6_needTask
set_option maxRecDepth 20000 in
theorem ggX6_workOf_X1_sumWork : GoodIn wsX6_workOf wsX1_sumWork := goodIn_r _ [13, 14, 15, 16, 17, 12, 18, 19, 20, 21, 22, 23, 39, 40, 41, 42, 43, 44, 45, 46, 47, 48, 49, 27, 28, 29, 30, 31, 32, 33, 34, 35, 36, 37, 38] (by decide +kernel) (by decide +kernel)
set_option maxRecDepth 20000 in
theorem gX6_workOf_X1_sumWork : GoodIn wsX6_workOf (wsV RX6 172 RX1 yX1_sumWork wsX1_sumWork) := goodIn_app (goodIn_of _ (by decide +kernel)) ggX6_workOf_X1_sumWork
theorem dX6_workOf_0 : decode cX6_workOf 0 = .ok (.aload_n 0, 1) := by decide +kernel
theorem dX6_workOf_1 : decode cX6_workOf 1 = .ok (.iload_n 1, 1) := by decide +kernel
theorem dX6_workOf_2 : decode cX6_workOf 2 = .ok (.invokevirtual 116, 3) := by decide +kernel
theorem dX6_workOf_5 : decode cX6_workOf 5 = .ok (.aload_n 0, 1) := by decide +kernel
theorem dX6_workOf_6 : decode cX6_workOf 6 = .ok (.getfield 21, 3) := by decide +kernel
theorem dX6_workOf_9 : decode cX6_workOf 9 = .ok (.iload_n 1, 1) := by decide +kernel
theorem dX6_workOf_10 : decode cX6_workOf 10 = .ok (.invokevirtual 172, 3) := by decide +kernel
theorem dX6_workOf_13 : decode cX6_workOf 13 = .ok (.ireturn, 1) := by decide +kernel
set_option maxRecDepth 20000 in
theorem ggX6_overAt_X6_needTask : GoodIn wsX6_overAt wsX6_needTask := goodIn_ca (goodIn_r _ [6, 7, 8, 1, 16, 17, 18, 30, 31, 32, 33, 34, 35, 36, 37, 38, 39, 40, 41] (by decide +kernel) (by decide +kernel)) (goodIn_sub (fun _ h => List.mem_cons_of_mem _ (List.mem_append_right _ h)) (by decide +kernel))
set_option maxRecDepth 20000 in
theorem gX6_overAt_X6_needTask : GoodIn wsX6_overAt (wsV RX6 116 RX6 yX6_needTask wsX6_needTask) := goodIn_app (goodIn_of _ (by decide +kernel)) ggX6_overAt_X6_needTask
set_option maxRecDepth 20000 in
theorem ggX6_overAt_X1_taskAt : GoodIn wsX6_overAt wsX1_taskAt := goodIn_r _ [13, 14, 15, 30, 31, 32, 33, 34, 35, 36, 37, 38, 39, 40, 41] (by decide +kernel) (by decide +kernel)
set_option maxRecDepth 20000 in
theorem gX6_overAt_X1_taskAt : GoodIn wsX6_overAt (wsV RX6 119 RX1 yX1_taskAt wsX1_taskAt) := goodIn_app (goodIn_of _ (by decide +kernel)) ggX6_overAt_X1_taskAt
theorem dX6_overAt_0 : decode cX6_overAt 0 = .ok (.aload_n 0, 1) := by decide +kernel
theorem dX6_overAt_1 : decode cX6_overAt 1 = .ok (.iload_n 1, 1) := by decide +kernel
theorem dX6_overAt_2 : decode cX6_overAt 2 = .ok (.invokevirtual 116, 3) := by decide +kernel
theorem dX6_overAt_5 : decode cX6_overAt 5 = .ok (.aload_n 0, 1) := by decide +kernel
theorem dX6_overAt_6 : decode cX6_overAt 6 = .ok (.getfield 21, 3) := by decide +kernel
theorem dX6_overAt_9 : decode cX6_overAt 9 = .ok (.iload_n 1, 1) := by decide +kernel
theorem dX6_overAt_10 : decode cX6_overAt 10 = .ok (.invokevirtual 119, 3) := by decide +kernel
theorem dX6_overAt_13 : decode cX6_overAt 13 = .ok (.getfield 175, 3) := by decide +kernel
theorem dX6_overAt_16 : decode cX6_overAt 16 = .ok (.ireturn, 1) := by decide +kernel
set_option maxRecDepth 20000 in
theorem ggX6_promise_X6_needPromise : GoodIn wsX6_promise wsX6_needPromise := goodIn_ca (goodIn_r _ [5, 6, 7, 8, 9, 4, 10] (by decide +kernel) (by decide +kernel)) (goodIn_sub (fun _ h => List.mem_cons_of_mem _ (List.mem_append_right _ h)) (by decide +kernel))
set_option maxRecDepth 20000 in
theorem gX6_promise_X6_needPromise : GoodIn wsX6_promise (va_wsS RX6 138 yX6_needPromise wsX6_needPromise) := goodIn_app (goodIn_of _ (by decide +kernel)) ggX6_promise_X6_needPromise
set_option maxRecDepth 20000 in
theorem ggX6_promise_X1_promiseAt : GoodIn wsX6_promise wsX1_promiseAt := goodIn_r _ [15, 16, 17, 21, 22, 23, 24, 25, 26, 27, 28, 29, 30, 31, 32] (by decide +kernel) (by decide +kernel)
set_option maxRecDepth 20000 in
theorem gX6_promise_X1_promiseAt : GoodIn wsX6_promise (wsV RX6 178 RX1 yX1_promiseAt wsX1_promiseAt) := goodIn_app (goodIn_of _ (by decide +kernel)) ggX6_promise_X1_promiseAt
theorem dX6_promise_0 : decode cX6_promise 0 = .ok (.iload_n 1, 1) := by decide +kernel
theorem dX6_promise_1 : decode cX6_promise 1 = .ok (.invokestatic 138, 3) := by decide +kernel
theorem dX6_promise_4 : decode cX6_promise 4 = .ok (.aload_n 0, 1) := by decide +kernel
theorem dX6_promise_5 : decode cX6_promise 5 = .ok (.getfield 21, 3) := by decide +kernel
theorem dX6_promise_8 : decode cX6_promise 8 = .ok (.iload_n 1, 1) := by decide +kernel
theorem dX6_promise_9 : decode cX6_promise 9 = .ok (.invokevirtual 178, 3) := by decide +kernel
theorem dX6_promise_12 : decode cX6_promise 12 = .ok (.ireturn, 1) := by decide +kernel
theorem dX6_workers_0 : decode cX6_workers 0 = .ok (.aload_n 0, 1) := by decide +kernel
theorem dX6_workers_1 : decode cX6_workers 1 = .ok (.getfield 21, 3) := by decide +kernel
theorem dX6_workers_4 : decode cX6_workers 4 = .ok (.getfield 84, 3) := by decide +kernel
theorem dX6_workers_7 : decode cX6_workers 7 = .ok (.ireturn, 1) := by decide +kernel
set_option maxRecDepth 20000 in
theorem ggX6_top_X6_needWorker : GoodIn wsX6_top wsX6_needWorker := goodIn_ca (goodIn_r _ [6, 7, 8, 1, 27, 28, 29, 36, 37, 38, 39, 40, 41, 42, 43, 44, 45, 46, 47] (by decide +kernel) (by decide +kernel)) (goodIn_sub (fun _ h => List.mem_cons_of_mem _ (List.mem_append_right _ h)) (by decide +kernel))
set_option maxRecDepth 20000 in
theorem gX6_top_X6_needWorker : GoodIn wsX6_top (wsV RX6 181 RX6 yX6_needWorker wsX6_needWorker) := goodIn_app (goodIn_of _ (by decide +kernel)) ggX6_top_X6_needWorker
set_option maxRecDepth 20000 in
theorem ggX6_top_X1_workerAt : GoodIn wsX6_top wsX1_workerAt := goodIn_r _ [13, 14, 15, 36, 37, 38, 39, 40, 41, 42, 43, 44, 45, 46, 47] (by decide +kernel) (by decide +kernel)
set_option maxRecDepth 20000 in
theorem gX6_top_X1_workerAt : GoodIn wsX6_top (wsV RX6 184 RX1 yX1_workerAt wsX1_workerAt) := goodIn_app (goodIn_of _ (by decide +kernel)) ggX6_top_X1_workerAt
set_option maxRecDepth 20000 in
theorem ggX6_top_X2_last : GoodIn wsX6_top wsX2_last := goodIn_r _ [20, 21, 22, 23, 24, 19, 25, 26, 48, 49] (by decide +kernel) (by decide +kernel)
set_option maxRecDepth 20000 in
theorem gX6_top_X2_last : GoodIn wsX6_top (wsV RX6 194 RX2 yX2_last wsX2_last) := goodIn_app (goodIn_of _ (by decide +kernel)) ggX6_top_X2_last
theorem dX6_top_0 : decode cX6_top 0 = .ok (.aload_n 0, 1) := by decide +kernel
theorem dX6_top_1 : decode cX6_top 1 = .ok (.iload_n 1, 1) := by decide +kernel
theorem dX6_top_2 : decode cX6_top 2 = .ok (.invokevirtual 181, 3) := by decide +kernel
theorem dX6_top_5 : decode cX6_top 5 = .ok (.aload_n 0, 1) := by decide +kernel
theorem dX6_top_6 : decode cX6_top 6 = .ok (.getfield 21, 3) := by decide +kernel
theorem dX6_top_9 : decode cX6_top 9 = .ok (.iload_n 1, 1) := by decide +kernel
theorem dX6_top_10 : decode cX6_top 10 = .ok (.invokevirtual 184, 3) := by decide +kernel
theorem dX6_top_13 : decode cX6_top 13 = .ok (.getfield 188, 3) := by decide +kernel
theorem dX6_top_16 : decode cX6_top 16 = .ok (.invokevirtual 194, 3) := by decide +kernel
theorem dX6_top_19 : decode cX6_top 19 = .ok (.ireturn, 1) := by decide +kernel
set_option maxRecDepth 20000 in
theorem ggX6_stack_X6_needWorker : GoodIn wsX6_stack wsX6_needWorker := goodIn_ca (goodIn_r _ [6, 7, 8, 1, 16, 17, 18, 27, 28, 29, 30, 31, 32, 33, 34, 35, 36, 37, 38] (by decide +kernel) (by decide +kernel)) (goodIn_sub (fun _ h => List.mem_cons_of_mem _ (List.mem_append_right _ h)) (by decide +kernel))
set_option maxRecDepth 20000 in
theorem gX6_stack_X6_needWorker : GoodIn wsX6_stack (wsV RX6 181 RX6 yX6_needWorker wsX6_needWorker) := goodIn_app (goodIn_of _ (by decide +kernel)) ggX6_stack_X6_needWorker
set_option maxRecDepth 20000 in
theorem ggX6_stack_X1_workerAt : GoodIn wsX6_stack wsX1_workerAt := goodIn_r _ [13, 14, 15, 27, 28, 29, 30, 31, 32, 33, 34, 35, 36, 37, 38] (by decide +kernel) (by decide +kernel)
set_option maxRecDepth 20000 in
theorem gX6_stack_X1_workerAt : GoodIn wsX6_stack (wsV RX6 184 RX1 yX1_workerAt wsX1_workerAt) := goodIn_app (goodIn_of _ (by decide +kernel)) ggX6_stack_X1_workerAt
theorem dX6_stack_0 : decode cX6_stack 0 = .ok (.aload_n 0, 1) := by decide +kernel
theorem dX6_stack_1 : decode cX6_stack 1 = .ok (.iload_n 1, 1) := by decide +kernel
theorem dX6_stack_2 : decode cX6_stack 2 = .ok (.invokevirtual 181, 3) := by decide +kernel
theorem dX6_stack_5 : decode cX6_stack 5 = .ok (.aload_n 0, 1) := by decide +kernel
theorem dX6_stack_6 : decode cX6_stack 6 = .ok (.getfield 21, 3) := by decide +kernel
theorem dX6_stack_9 : decode cX6_stack 9 = .ok (.iload_n 1, 1) := by decide +kernel
theorem dX6_stack_10 : decode cX6_stack 10 = .ok (.invokevirtual 184, 3) := by decide +kernel
theorem dX6_stack_13 : decode cX6_stack 13 = .ok (.getfield 188, 3) := by decide +kernel
theorem dX6_stack_16 : decode cX6_stack 16 = .ok (.getfield 199, 3) := by decide +kernel
theorem dX6_stack_19 : decode cX6_stack 19 = .ok (.ireturn, 1) := by decide +kernel
set_option maxRecDepth 20000 in
theorem ggX6_row_X6_needRow : GoodIn wsX6_row wsX6_needRow := goodIn_ca (goodIn_r _ [6, 7, 8, 9, 5, 10, 11, 12, 1, 25, 26, 27, 30, 31, 32, 33, 34, 35, 36, 37, 38, 39, 40, 41] (by decide +kernel) (by decide +kernel)) (goodIn_sub (fun _ h => List.mem_cons_of_mem _ (List.mem_append_right _ h)) (by decide +kernel))
set_option maxRecDepth 20000 in
theorem gX6_row_X6_needRow : GoodIn wsX6_row (wsV RX6 200 RX6 yX6_needRow wsX6_needRow) := goodIn_app (goodIn_of _ (by decide +kernel)) ggX6_row_X6_needRow
set_option maxRecDepth 20000 in
theorem ggX6_row_X1_rowOf : GoodIn wsX6_row wsX1_rowOf := goodIn_r _ [17, 18, 19, 20, 21, 16, 22, 23, 24, 30, 31, 32, 33, 34, 35, 36, 37, 38, 39, 40, 41, 42, 43, 44, 45, 46, 47] (by decide +kernel) (by decide +kernel)
set_option maxRecDepth 20000 in
theorem gX6_row_X1_rowOf : GoodIn wsX6_row (wsV RX6 203 RX1 yX1_rowOf wsX1_rowOf) := goodIn_app (goodIn_of _ (by decide +kernel)) ggX6_row_X1_rowOf
theorem dX6_row_0 : decode cX6_row 0 = .ok (.aload_n 0, 1) := by decide +kernel
theorem dX6_row_1 : decode cX6_row 1 = .ok (.iload_n 1, 1) := by decide +kernel
theorem dX6_row_2 : decode cX6_row 2 = .ok (.invokevirtual 200, 3) := by decide +kernel
theorem dX6_row_5 : decode cX6_row 5 = .ok (.aload_n 0, 1) := by decide +kernel
theorem dX6_row_6 : decode cX6_row 6 = .ok (.getfield 21, 3) := by decide +kernel
theorem dX6_row_9 : decode cX6_row 9 = .ok (.iload_n 1, 1) := by decide +kernel
theorem dX6_row_10 : decode cX6_row 10 = .ok (.invokevirtual 203, 3) := by decide +kernel
theorem dX6_row_13 : decode cX6_row 13 = .ok (.getfield 199, 3) := by decide +kernel
theorem dX6_row_16 : decode cX6_row 16 = .ok (.ireturn, 1) := by decide +kernel
set_option maxRecDepth 20000 in
theorem ggX6_inRow_X6_needRow : GoodIn wsX6_inRow wsX6_needRow := goodIn_ca (goodIn_r _ [8, 9, 10, 11, 7, 12, 1, 2, 3, 32, 33, 34, 37, 38, 39, 40, 41, 42, 43, 44, 45, 46, 47, 48] (by decide +kernel) (by decide +kernel)) (goodIn_sub (fun _ h => List.mem_cons_of_mem _ (List.mem_append_right _ h)) (by decide +kernel))
set_option maxRecDepth 20000 in
theorem gX6_inRow_X6_needRow : GoodIn wsX6_inRow (wsV RX6 200 RX6 yX6_needRow wsX6_needRow) := goodIn_app (goodIn_of _ (by decide +kernel)) ggX6_inRow_X6_needRow
set_option maxRecDepth 20000 in
theorem ggX6_inRow_X1_rowOf : GoodIn wsX6_inRow wsX1_rowOf := goodIn_r _ [17, 18, 19, 20, 21, 16, 22, 23, 24, 37, 38, 39, 40, 41, 42, 43, 44, 45, 46, 47, 48, 49, 50, 51, 52, 53, 54] (by decide +kernel) (by decide +kernel)
set_option maxRecDepth 20000 in
theorem gX6_inRow_X1_rowOf : GoodIn wsX6_inRow (wsV RX6 203 RX1 yX1_rowOf wsX1_rowOf) := goodIn_app (goodIn_of _ (by decide +kernel)) ggX6_inRow_X1_rowOf
set_option maxRecDepth 20000 in
theorem ggX6_inRow_X2_at : GoodIn wsX6_inRow wsX2_at := goodIn_r _ [29, 30, 31, 35, 36] (by decide +kernel) (by decide +kernel)
set_option maxRecDepth 20000 in
theorem gX6_inRow_X2_at : GoodIn wsX6_inRow (wsV RX6 212 RX2 yX2_at wsX2_at) := goodIn_app (goodIn_of _ (by decide +kernel)) ggX6_inRow_X2_at
theorem dX6_inRow_0 : decode cX6_inRow 0 = .ok (.aload_n 0, 1) := by decide +kernel
theorem dX6_inRow_1 : decode cX6_inRow 1 = .ok (.iload_n 1, 1) := by decide +kernel
theorem dX6_inRow_2 : decode cX6_inRow 2 = .ok (.invokevirtual 200, 3) := by decide +kernel
