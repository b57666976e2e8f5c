theorem dX0_init_0 : decode cX0_init 0 = .ok (.aload_n 0, 1) := by decide +kernel
theorem dX0_init_1 : decode cX0_init 1 = .ok (.invokespecial 1, 3) := by decide +kernel
theorem dX0_init_4 : decode cX0_init 4 = .ok (.aload_n 0, 1) := by decide +kernel
theorem dX0_init_5 : decode cX0_init 5 = .ok (.iload_n 1, 1) := by decide +kernel
theorem dX0_init_6 : decode cX0_init 6 = .ok (.putfield 7, 3) := by decide +kernel
theorem dX0_init_9 : decode cX0_init 9 = .ok (.aload_n 0, 1) := by decide +kernel
theorem dX0_init_10 : decode cX0_init 10 = .ok (.iload_n 2, 1) := by decide +kernel
theorem dX0_init_11 : decode cX0_init 11 = .ok (.putfield 13, 3) := by decide +kernel
theorem dX0_init_14 : decode cX0_init 14 = .ok (.aload_n 0, 1) := by decide +kernel
theorem dX0_init_15 : decode cX0_init 15 = .ok (.iload_n 3, 1) := by decide +kernel
theorem dX0_init_16 : decode cX0_init 16 = .ok (.putfield 16, 3) := by decide +kernel
theorem dX0_init_19 : decode cX0_init 19 = .ok (.aload_n 0, 1) := by decide +kernel
theorem dX0_init_20 : decode cX0_init 20 = .ok (.iload 4, 2) := by decide +kernel
theorem dX0_init_22 : decode cX0_init 22 = .ok (.putfield 19, 3) := by decide +kernel
theorem dX0_init_25 : decode cX0_init 25 = .ok (.aload_n 0, 1) := by decide +kernel
theorem dX0_init_26 : decode cX0_init 26 = .ok (.aload 5, 2) := by decide +kernel
theorem dX0_init_28 : decode cX0_init 28 = .ok (.putfield 22, 3) := by decide +kernel
theorem dX0_init_31 : decode cX0_init 31 = .ok (.return_, 1) := by decide +kernel
theorem dX0_isLost_0 : decode cX0_isLost 0 = .ok (.aload_n 0, 1) := by decide +kernel
theorem dX0_isLost_1 : decode cX0_isLost 1 = .ok (.getfield 26, 3) := by decide +kernel
theorem dX0_isLost_4 : decode cX0_isLost 4 = .ok (.ifnonnull 14, 3) := by decide +kernel
theorem dX0_isLost_7 : decode cX0_isLost 7 = .ok (.aload_n 0, 1) := by decide +kernel
theorem dX0_isLost_8 : decode cX0_isLost 8 = .ok (.getfield 30, 3) := by decide +kernel
theorem dX0_isLost_11 : decode cX0_isLost 11 = .ok (.ifCond .ne 7, 3) := by decide +kernel
theorem dX0_isLost_14 : decode cX0_isLost 14 = .ok (.iconst 1, 1) := by decide +kernel
theorem dX0_isLost_15 : decode cX0_isLost 15 = .ok (.goto 4, 3) := by decide +kernel
theorem dX0_isLost_18 : decode cX0_isLost 18 = .ok (.iconst 0, 1) := by decide +kernel
theorem dX0_isLost_19 : decode cX0_isLost 19 = .ok (.ireturn, 1) := by decide +kernel
theorem dX0_standsBefore_0 : decode cX0_standsBefore 0 = .ok (.aload_n 0, 1) := by decide +kernel
theorem dX0_standsBefore_1 : decode cX0_standsBefore 1 = .ok (.getfield 16, 3) := by decide +kernel
theorem dX0_standsBefore_4 : decode cX0_standsBefore 4 = .ok (.aload_n 1, 1) := by decide +kernel
theorem dX0_standsBefore_5 : decode cX0_standsBefore 5 = .ok (.getfield 16, 3) := by decide +kernel
theorem dX0_standsBefore_8 : decode cX0_standsBefore 8 = .ok (.if_icmp .eq 20, 3) := by decide +kernel
theorem dX0_standsBefore_11 : decode cX0_standsBefore 11 = .ok (.aload_n 0, 1) := by decide +kernel
theorem dX0_standsBefore_12 : decode cX0_standsBefore 12 = .ok (.getfield 16, 3) := by decide +kernel
theorem dX0_standsBefore_15 : decode cX0_standsBefore 15 = .ok (.aload_n 1, 1) := by decide +kernel
theorem dX0_standsBefore_16 : decode cX0_standsBefore 16 = .ok (.getfield 16, 3) := by decide +kernel
theorem dX0_standsBefore_19 : decode cX0_standsBefore 19 = .ok (.if_icmp .ge 7, 3) := by decide +kernel
theorem dX0_standsBefore_22 : decode cX0_standsBefore 22 = .ok (.iconst 1, 1) := by decide +kernel
theorem dX0_standsBefore_23 : decode cX0_standsBefore 23 = .ok (.goto 4, 3) := by decide +kernel
theorem dX0_standsBefore_26 : decode cX0_standsBefore 26 = .ok (.iconst 0, 1) := by decide +kernel
theorem dX0_standsBefore_27 : decode cX0_standsBefore 27 = .ok (.ireturn, 1) := by decide +kernel
theorem dX0_standsBefore_28 : decode cX0_standsBefore 28 = .ok (.aload_n 0, 1) := by decide +kernel
theorem dX0_standsBefore_29 : decode cX0_standsBefore 29 = .ok (.getfield 19, 3) := by decide +kernel
theorem dX0_standsBefore_32 : decode cX0_standsBefore 32 = .ok (.aload_n 1, 1) := by decide +kernel
theorem dX0_standsBefore_33 : decode cX0_standsBefore 33 = .ok (.getfield 19, 3) := by decide +kernel
theorem dX0_standsBefore_36 : decode cX0_standsBefore 36 = .ok (.if_icmp .eq 22, 3) := by decide +kernel
theorem dX0_standsBefore_39 : decode cX0_standsBefore 39 = .ok (.aload_n 0, 1) := by decide +kernel
theorem dX0_standsBefore_40 : decode cX0_standsBefore 40 = .ok (.getfield 19, 3) := by decide +kernel
theorem dX0_standsBefore_43 : decode cX0_standsBefore 43 = .ok (.aload_n 1, 1) := by decide +kernel
theorem dX0_standsBefore_44 : decode cX0_standsBefore 44 = .ok (.getfield 19, 3) := by decide +kernel
theorem dX0_standsBefore_47 : decode cX0_standsBefore 47 = .ok (.if_icmp .ge 7, 3) := by decide +kernel
theorem dX0_standsBefore_50 : decode cX0_standsBefore 50 = .ok (.iconst 1, 1) := by decide +kernel
theorem dX0_standsBefore_51 : decode cX0_standsBefore 51 = .ok (.goto 23, 3) := by decide +kernel
theorem dX0_standsBefore_54 : decode cX0_standsBefore 54 = .ok (.iconst 0, 1) := by decide +kernel
theorem dX0_standsBefore_55 : decode cX0_standsBefore 55 = .ok (.goto 19, 3) := by decide +kernel
theorem dX0_standsBefore_58 : decode cX0_standsBefore 58 = .ok (.aload_n 0, 1) := by decide +kernel
theorem dX0_standsBefore_59 : decode cX0_standsBefore 59 = .ok (.getfield 7, 3) := by decide +kernel
theorem dX0_standsBefore_62 : decode cX0_standsBefore 62 = .ok (.aload_n 1, 1) := by decide +kernel
theorem dX0_standsBefore_63 : decode cX0_standsBefore 63 = .ok (.getfield 7, 3) := by decide +kernel
theorem dX0_standsBefore_66 : decode cX0_standsBefore 66 = .ok (.if_icmp .ge 7, 3) := by decide +kernel
theorem dX0_standsBefore_69 : decode cX0_standsBefore 69 = .ok (.iconst 1, 1) := by decide +kernel
theorem dX0_standsBefore_70 : decode cX0_standsBefore 70 = .ok (.goto 4, 3) := by decide +kernel
theorem dX0_standsBefore_73 : decode cX0_standsBefore 73 = .ok (.iconst 0, 1) := by decide +kernel
theorem dX0_standsBefore_74 : decode cX0_standsBefore 74 = .ok (.ireturn, 1) := by decide +kernel
set_option maxRecDepth 20000 in
theorem ggX1_init_Jx4a65c_init_da8c8 : GoodIn wsX1_init wsJx4a65c_init_da8c8 := goodIn_r _ [10, 11, 12, 13, 14, 15, 16, 17, 18, 19, 20, 21, 22, 2, 3, 23, 24, 25] (by decide +kernel) (by decide +kernel)
set_option maxRecDepth 20000 in
theorem gX1_init_Jx4a65c_init_da8c8 : GoodIn wsX1_init (wsJx4a65c_init_da8c8) := ggX1_init_Jx4a65c_init_da8c8
theorem dX1_init_0 : decode cX1_init 0 = .ok (.aload_n 0, 1) := by decide +kernel
theorem dX1_init_1 : decode cX1_init 1 = .ok (.invokespecial 3, 3) := by decide +kernel
theorem dX1_init_4 : decode cX1_init 4 = .ok (.aload_n 0, 1) := by decide +kernel
theorem dX1_init_5 : decode cX1_init 5 = .ok (.new 9, 3) := by decide +kernel
theorem dX1_init_8 : decode cX1_init 8 = .ok (.dup, 1) := by decide +kernel
theorem dX1_init_9 : decode cX1_init 9 = .ok (.invokespecial 11, 3) := by decide +kernel
theorem dX1_init_12 : decode cX1_init 12 = .ok (.putfield 12, 3) := by decide +kernel
theorem dX1_init_15 : decode cX1_init 15 = .ok (.return_, 1) := by decide +kernel
set_option maxRecDepth 20000 in
theorem ggX1_enter_Jx4a65c_size_8abf5 : GoodIn wsX1_enter wsJx4a65c_size_8abf5 := goodIn_r _ [7, 8, 89, 90, 91] (by decide +kernel) (by decide +kernel)
set_option maxRecDepth 20000 in
theorem gX1_enter_Jx4a65c_size_8abf5 : GoodIn wsX1_enter (wsV RX1 18 RJx4a65c yJx4a65c_size_8abf5 wsJx4a65c_size_8abf5) := goodIn_app (goodIn_of _ (by decide +kernel)) ggX1_enter_Jx4a65c_size_8abf5
set_option maxRecDepth 20000 in
theorem ggX1_enter_Jx4a65c_get_915e3 : GoodIn wsX1_enter wsJx4a65c_get_915e3 := goodIn_r _ [12, 8, 13, 14, 15, 16, 17, 18, 19, 20, 21, 22, 23, 6, 24, 25, 89, 90, 91] (by decide +kernel) (by decide +kernel)
set_option maxRecDepth 20000 in
theorem gX1_enter_Jx4a65c_get_915e3 : GoodIn wsX1_enter (wsV RX1 22 RJx4a65c yJx4a65c_get_915e3 wsJx4a65c_get_915e3) := goodIn_app (goodIn_of _ (by decide +kernel)) ggX1_enter_Jx4a65c_get_915e3
set_option maxRecDepth 20000 in
theorem ggX1_enter_X0_standsBefore : GoodIn wsX1_enter wsX0_standsBefore := goodIn_r _ [30, 31, 32, 33, 92, 93, 94, 95, 96, 97, 98] (by decide +kernel) (by decide +kernel)
set_option maxRecDepth 20000 in
theorem gX1_enter_X0_standsBefore : GoodIn wsX1_enter (wsV RX1 28 RX0 yX0_standsBefore wsX0_standsBefore) := goodIn_app (goodIn_of _ (by decide +kernel)) ggX1_enter_X0_standsBefore
set_option maxRecDepth 20000 in
theorem ggX1_enter_Jx4a65c_add_7a177 : GoodIn wsX1_enter wsJx4a65c_add_7a177 := goodIn_r _ [37, 38, 39, 8, 25, 40, 41, 42, 43, 44, 45, 46, 6, 47, 48, 49, 50, 51, 52, 53, 54, 55, 56, 57, 58, 59, 60, 61, 62, 63, 64, 65, 66, 67, 68, 69, 70, 71, 72, 73, 74, 75, 76, 77, 78, 79, 80, 81, 82, 83, 84, 85, 86, 87, 89, 90, 91] (by decide +kernel) (by decide +kernel)
set_option maxRecDepth 20000 in
theorem gX1_enter_Jx4a65c_add_7a177 : GoodIn wsX1_enter (wsV RX1 32 RJx4a65c yJx4a65c_add_7a177 wsJx4a65c_add_7a177) := goodIn_app (goodIn_of _ (by decide +kernel)) ggX1_enter_Jx4a65c_add_7a177
theorem dX1_enter_0 : decode cX1_enter 0 = .ok (.aload_n 0, 1) := by decide +kernel
theorem dX1_enter_1 : decode cX1_enter 1 = .ok (.getfield 12, 3) := by decide +kernel
theorem dX1_enter_4 : decode cX1_enter 4 = .ok (.invokevirtual 18, 3) := by decide +kernel
theorem dX1_enter_7 : decode cX1_enter 7 = .ok (.istore_n 2, 1) := by decide +kernel
theorem dX1_enter_8 : decode cX1_enter 8 = .ok (.iload_n 2, 1) := by decide +kernel
theorem dX1_enter_9 : decode cX1_enter 9 = .ok (.ifCond .le 29, 3) := by decide +kernel
theorem dX1_enter_12 : decode cX1_enter 12 = .ok (.aload_n 1, 1) := by decide +kernel
theorem dX1_enter_13 : decode cX1_enter 13 = .ok (.aload_n 0, 1) := by decide +kernel
theorem dX1_enter_14 : decode cX1_enter 14 = .ok (.getfield 12, 3) := by decide +kernel
theorem dX1_enter_17 : decode cX1_enter 17 = .ok (.iload_n 2, 1) := by decide +kernel
theorem dX1_enter_18 : decode cX1_enter 18 = .ok (.iconst 1, 1) := by decide +kernel
theorem dX1_enter_19 : decode cX1_enter 19 = .ok (.isub, 1) := by decide +kernel
theorem dX1_enter_20 : decode cX1_enter 20 = .ok (.invokevirtual 22, 3) := by decide +kernel
theorem dX1_enter_23 : decode cX1_enter 23 = .ok (.checkcast 26, 3) := by decide +kernel
theorem dX1_enter_26 : decode cX1_enter 26 = .ok (.invokevirtual 28, 3) := by decide +kernel
theorem dX1_enter_29 : decode cX1_enter 29 = .ok (.ifCond .eq 9, 3) := by decide +kernel
theorem dX1_enter_32 : decode cX1_enter 32 = .ok (.iinc 2 (-1), 3) := by decide +kernel
theorem dX1_enter_35 : decode cX1_enter 35 = .ok (.goto (-27), 3) := by decide +kernel
theorem dX1_enter_38 : decode cX1_enter 38 = .ok (.aload_n 0, 1) := by decide +kernel
theorem dX1_enter_39 : decode cX1_enter 39 = .ok (.getfield 12, 3) := by decide +kernel
theorem dX1_enter_42 : decode cX1_enter 42 = .ok (.iload_n 2, 1) := by decide +kernel
theorem dX1_enter_43 : decode cX1_enter 43 = .ok (.aload_n 1, 1) := by decide +kernel
theorem dX1_enter_44 : decode cX1_enter 44 = .ok (.invokevirtual 32, 3) := by decide +kernel
theorem dX1_enter_47 : decode cX1_enter 47 = .ok (.return_, 1) := by decide +kernel
set_option maxRecDepth 20000 in
theorem ggX1_leave_Jx4a65c_size_8abf5 : GoodIn wsX1_leave wsJx4a65c_size_8abf5 := goodIn_r _ [6, 7, 40, 41, 42] (by decide +kernel) (by decide +kernel)
set_option maxRecDepth 20000 in
theorem gX1_leave_Jx4a65c_size_8abf5 : GoodIn wsX1_leave (wsV RX1 18 RJx4a65c yJx4a65c_size_8abf5 wsJx4a65c_size_8abf5) := goodIn_app (goodIn_of _ (by decide +kernel)) ggX1_leave_Jx4a65c_size_8abf5
set_option maxRecDepth 20000 in
theorem ggX1_leave_Jx4a65c_get_915e3 : GoodIn wsX1_leave wsJx4a65c_get_915e3 := goodIn_r _ [11, 7, 12, 13, 14, 15, 16, 17, 18, 19, 20, 21, 22, 5, 23, 24, 40, 41, 42] (by decide +kernel) (by decide +kernel)
set_option maxRecDepth 20000 in
theorem gX1_leave_Jx4a65c_get_915e3 : GoodIn wsX1_leave (wsV RX1 22 RJx4a65c yJx4a65c_get_915e3 wsJx4a65c_get_915e3) := goodIn_app (goodIn_of _ (by decide +kernel)) ggX1_leave_Jx4a65c_get_915e3
set_option maxRecDepth 20000 in
theorem ggX1_leave_Jx4a65c_remove_915e3 : GoodIn wsX1_leave wsJx4a65c_remove_915e3 := goodIn_r _ [28, 7, 24, 12, 13, 14, 15, 16, 17, 18, 19, 29, 30, 31, 5, 32, 33, 34, 35, 36, 37, 38, 40, 41, 42] (by decide +kernel) (by decide +kernel)
set_option maxRecDepth 20000 in
theorem gX1_leave_Jx4a65c_remove_915e3 : GoodIn wsX1_leave (wsV RX1 36 RJx4a65c yJx4a65c_remove_915e3 wsJx4a65c_remove_915e3) := goodIn_app (goodIn_of _ (by decide +kernel)) ggX1_leave_Jx4a65c_remove_915e3
theorem dX1_leave_0 : decode cX1_leave 0 = .ok (.iconst 0, 1) := by decide +kernel
theorem dX1_leave_1 : decode cX1_leave 1 = .ok (.istore_n 2, 1) := by decide +kernel
theorem dX1_leave_2 : decode cX1_leave 2 = .ok (.iload_n 2, 1) := by decide +kernel
theorem dX1_leave_3 : decode cX1_leave 3 = .ok (.aload_n 0, 1) := by decide +kernel
theorem dX1_leave_4 : decode cX1_leave 4 = .ok (.getfield 12, 3) := by decide +kernel
theorem dX1_leave_7 : decode cX1_leave 7 = .ok (.invokevirtual 18, 3) := by decide +kernel
theorem dX1_leave_10 : decode cX1_leave 10 = .ok (.if_icmp .ge 31, 3) := by decide +kernel
theorem dX1_leave_13 : decode cX1_leave 13 = .ok (.aload_n 0, 1) := by decide +kernel
theorem dX1_leave_14 : decode cX1_leave 14 = .ok (.getfield 12, 3) := by decide +kernel
theorem dX1_leave_17 : decode cX1_leave 17 = .ok (.iload_n 2, 1) := by decide +kernel
theorem dX1_leave_18 : decode cX1_leave 18 = .ok (.invokevirtual 22, 3) := by decide +kernel
theorem dX1_leave_21 : decode cX1_leave 21 = .ok (.aload_n 1, 1) := by decide +kernel
theorem dX1_leave_22 : decode cX1_leave 22 = .ok (.if_acmp .ne 13, 3) := by decide +kernel
theorem dX1_leave_25 : decode cX1_leave 25 = .ok (.aload_n 0, 1) := by decide +kernel
theorem dX1_leave_26 : decode cX1_leave 26 = .ok (.getfield 12, 3) := by decide +kernel
theorem dX1_leave_29 : decode cX1_leave 29 = .ok (.iload_n 2, 1) := by decide +kernel
theorem dX1_leave_30 : decode cX1_leave 30 = .ok (.invokevirtual 36, 3) := by decide +kernel
theorem dX1_leave_33 : decode cX1_leave 33 = .ok (.pop, 1) := by decide +kernel
theorem dX1_leave_34 : decode cX1_leave 34 = .ok (.return_, 1) := by decide +kernel
theorem dX1_leave_35 : decode cX1_leave 35 = .ok (.iinc 2 1, 3) := by decide +kernel
theorem dX1_leave_38 : decode cX1_leave 38 = .ok (.goto (-36), 3) := by decide +kernel
theorem dX1_leave_41 : decode cX1_leave 41 = .ok (.return_, 1) := by decide +kernel
set_option maxRecDepth 20000 in
theorem ggX1_postingsOf_Jx4a65c_size_8abf5 : GoodIn wsX1_postingsOf wsJx4a65c_size_8abf5 := goodIn_r _ [8, 9, 35, 36, 37] (by decide +kernel) (by decide +kernel)
set_option maxRecDepth 20000 in
theorem gX1_postingsOf_Jx4a65c_size_8abf5 : GoodIn wsX1_postingsOf (wsV RX1 18 RJx4a65c yJx4a65c_size_8abf5 wsJx4a65c_size_8abf5) := goodIn_app (goodIn_of _ (by decide +kernel)) ggX1_postingsOf_Jx4a65c_size_8abf5
set_option maxRecDepth 20000 in
theorem ggX1_postingsOf_Jx4a65c_get_915e3 : GoodIn wsX1_postingsOf wsJx4a65c_get_915e3 := goodIn_r _ [13, 9, 14, 15, 16, 17, 18, 19, 20, 21, 22, 23, 24, 7, 25, 26, 35, 36, 37] (by decide +kernel) (by decide +kernel)
set_option maxRecDepth 20000 in
theorem gX1_postingsOf_Jx4a65c_get_915e3 : GoodIn wsX1_postingsOf (wsV RX1 22 RJx4a65c yJx4a65c_get_915e3 wsJx4a65c_get_915e3) := goodIn_app (goodIn_of _ (by decide +kernel)) ggX1_postingsOf_Jx4a65c_get_915e3
theorem dX1_postingsOf_0 : decode cX1_postingsOf 0 = .ok (.iconst 0, 1) := by decide +kernel
theorem dX1_postingsOf_1 : decode cX1_postingsOf 1 = .ok (.istore_n 2, 1) := by decide +kernel
theorem dX1_postingsOf_2 : decode cX1_postingsOf 2 = .ok (.iconst 0, 1) := by decide +kernel
theorem dX1_postingsOf_3 : decode cX1_postingsOf 3 = .ok (.istore_n 3, 1) := by decide +kernel
theorem dX1_postingsOf_4 : decode cX1_postingsOf 4 = .ok (.iload_n 3, 1) := by decide +kernel
theorem dX1_postingsOf_5 : decode cX1_postingsOf 5 = .ok (.aload_n 0, 1) := by decide +kernel
theorem dX1_postingsOf_6 : decode cX1_postingsOf 6 = .ok (.getfield 12, 3) := by decide +kernel
theorem dX1_postingsOf_9 : decode cX1_postingsOf 9 = .ok (.invokevirtual 18, 3) := by decide +kernel
theorem dX1_postingsOf_12 : decode cX1_postingsOf 12 = .ok (.if_icmp .ge 30, 3) := by decide +kernel
theorem dX1_postingsOf_15 : decode cX1_postingsOf 15 = .ok (.aload_n 0, 1) := by decide +kernel
theorem dX1_postingsOf_16 : decode cX1_postingsOf 16 = .ok (.getfield 12, 3) := by decide +kernel
theorem dX1_postingsOf_19 : decode cX1_postingsOf 19 = .ok (.iload_n 3, 1) := by decide +kernel
theorem dX1_postingsOf_20 : decode cX1_postingsOf 20 = .ok (.invokevirtual 22, 3) := by decide +kernel
theorem dX1_postingsOf_23 : decode cX1_postingsOf 23 = .ok (.checkcast 26, 3) := by decide +kernel
theorem dX1_postingsOf_26 : decode cX1_postingsOf 26 = .ok (.getfield 39, 3) := by decide +kernel
theorem dX1_postingsOf_29 : decode cX1_postingsOf 29 = .ok (.iload_n 1, 1) := by decide +kernel
theorem dX1_postingsOf_30 : decode cX1_postingsOf 30 = .ok (.if_icmp .ne 6, 3) := by decide +kernel
theorem dX1_postingsOf_33 : decode cX1_postingsOf 33 = .ok (.iinc 2 1, 3) := by decide +kernel
theorem dX1_postingsOf_36 : decode cX1_postingsOf 36 = .ok (.iinc 3 1, 3) := by decide +kernel
theorem dX1_postingsOf_39 : decode cX1_postingsOf 39 = .ok (.goto (-35), 3) := by decide +kernel
theorem dX1_postingsOf_42 : decode cX1_postingsOf 42 = .ok (.iload_n 2, 1) := by decide +kernel
theorem dX1_postingsOf_43 : decode cX1_postingsOf 43 = .ok (.ireturn, 1) := by decide +kernel
set_option maxRecDepth 20000 in
theorem ggX1_postingAt_Jx4a65c_size_8abf5 : GoodIn wsX1_postingAt wsJx4a65c_size_8abf5 := goodIn_r _ [8, 9, 35, 36, 37] (by decide +kernel) (by decide +kernel)
set_option maxRecDepth 20000 in
theorem gX1_postingAt_Jx4a65c_size_8abf5 : GoodIn wsX1_postingAt (wsV RX1 18 RJx4a65c yJx4a65c_size_8abf5 wsJx4a65c_size_8abf5) := goodIn_app (goodIn_of _ (by decide +kernel)) ggX1_postingAt_Jx4a65c_size_8abf5
set_option maxRecDepth 20000 in
theorem ggX1_postingAt_Jx4a65c_get_915e3 : GoodIn wsX1_postingAt wsJx4a65c_get_915e3 := goodIn_r _ [13, 9, 14, 15, 16, 17, 18, 19, 20, 21, 22, 23, 24, 7, 25, 26, 35, 36, 37] (by decide +kernel) (by decide +kernel)
set_option maxRecDepth 20000 in
theorem gX1_postingAt_Jx4a65c_get_915e3 : GoodIn wsX1_postingAt (wsV RX1 22 RJx4a65c yJx4a65c_get_915e3 wsJx4a65c_get_915e3) := goodIn_app (goodIn_of _ (by decide +kernel)) ggX1_postingAt_Jx4a65c_get_915e3
theorem dX1_postingAt_0 : decode cX1_postingAt 0 = .ok (.iconst 0, 1) := by decide +kernel
theorem dX1_postingAt_1 : decode cX1_postingAt 1 = .ok (.istore_n 3, 1) := by decide +kernel
theorem dX1_postingAt_2 : decode cX1_postingAt 2 = .ok (.iconst 0, 1) := by decide +kernel
theorem dX1_postingAt_3 : decode cX1_postingAt 3 = .ok (.istore 4, 2) := by decide +kernel
theorem dX1_postingAt_5 : decode cX1_postingAt 5 = .ok (.iload 4, 2) := by decide +kernel
theorem dX1_postingAt_7 : decode cX1_postingAt 7 = .ok (.aload_n 0, 1) := by decide +kernel
theorem dX1_postingAt_8 : decode cX1_postingAt 8 = .ok (.getfield 12, 3) := by decide +kernel
theorem dX1_postingAt_11 : decode cX1_postingAt 11 = .ok (.invokevirtual 18, 3) := by decide +kernel
theorem dX1_postingAt_14 : decode cX1_postingAt 14 = .ok (.if_icmp .ge 43, 3) := by decide +kernel
theorem dX1_postingAt_17 : decode cX1_postingAt 17 = .ok (.aload_n 0, 1) := by decide +kernel
theorem dX1_postingAt_18 : decode cX1_postingAt 18 = .ok (.getfield 12, 3) := by decide +kernel
theorem dX1_postingAt_21 : decode cX1_postingAt 21 = .ok (.iload 4, 2) := by decide +kernel
theorem dX1_postingAt_23 : decode cX1_postingAt 23 = .ok (.invokevirtual 22, 3) := by decide +kernel
theorem dX1_postingAt_26 : decode cX1_postingAt 26 = .ok (.checkcast 26, 3) := by decide +kernel
theorem dX1_postingAt_29 : decode cX1_postingAt 29 = .ok (.astore 5, 2) := by decide +kernel
theorem dX1_postingAt_31 : decode cX1_postingAt 31 = .ok (.aload 5, 2) := by decide +kernel
theorem dX1_postingAt_33 : decode cX1_postingAt 33 = .ok (.getfield 39, 3) := by decide +kernel
theorem dX1_postingAt_36 : decode cX1_postingAt 36 = .ok (.iload_n 1, 1) := by decide +kernel
theorem dX1_postingAt_37 : decode cX1_postingAt 37 = .ok (.if_icmp .ne 14, 3) := by decide +kernel
theorem dX1_postingAt_40 : decode cX1_postingAt 40 = .ok (.iload_n 3, 1) := by decide +kernel
theorem dX1_postingAt_41 : decode cX1_postingAt 41 = .ok (.iload_n 2, 1) := by decide +kernel
theorem dX1_postingAt_42 : decode cX1_postingAt 42 = .ok (.if_icmp .ne 6, 3) := by decide +kernel
theorem dX1_postingAt_45 : decode cX1_postingAt 45 = .ok (.aload 5, 2) := by decide +kernel
theorem dX1_postingAt_47 : decode cX1_postingAt 47 = .ok (.areturn, 1) := by decide +kernel
theorem dX1_postingAt_48 : decode cX1_postingAt 48 = .ok (.iinc 3 1, 3) := by decide +kernel
theorem dX1_postingAt_51 : decode cX1_postingAt 51 = .ok (.iinc 4 1, 3) := by decide +kernel
theorem dX1_postingAt_54 : decode cX1_postingAt 54 = .ok (.goto (-49), 3) := by decide +kernel
theorem dX1_postingAt_57 : decode cX1_postingAt 57 = .ok (.aconst_null, 1) := by decide +kernel
theorem dX1_postingAt_58 : decode cX1_postingAt 58 = .ok (.areturn, 1) := by decide +kernel
set_option maxRecDepth 20000 in
theorem ggX1_islandsOf_Jx4a65c_size_8abf5 : GoodIn wsX1_islandsOf wsJx4a65c_size_8abf5 := goodIn_r _ [9, 10, 36, 37, 38] (by decide +kernel) (by decide +kernel)
set_option maxRecDepth 20000 in
theorem gX1_islandsOf_Jx4a65c_size_8abf5 : GoodIn wsX1_islandsOf (wsV RX1 18 RJx4a65c yJx4a65c_size_8abf5 wsJx4a65c_size_8abf5) := goodIn_app (goodIn_of _ (by decide +kernel)) ggX1_islandsOf_Jx4a65c_size_8abf5
set_option maxRecDepth 20000 in
theorem ggX1_islandsOf_Jx4a65c_get_915e3 : GoodIn wsX1_islandsOf wsJx4a65c_get_915e3 := goodIn_r _ [14, 10, 15, 16, 17, 18, 19, 20, 21, 22, 23, 24, 25, 8, 26, 27, 36, 37, 38] (by decide +kernel) (by decide +kernel)
set_option maxRecDepth 20000 in
theorem gX1_islandsOf_Jx4a65c_get_915e3 : GoodIn wsX1_islandsOf (wsV RX1 22 RJx4a65c yJx4a65c_get_915e3 wsJx4a65c_get_915e3) := goodIn_app (goodIn_of _ (by decide +kernel)) ggX1_islandsOf_Jx4a65c_get_915e3
theorem dX1_islandsOf_0 : decode cX1_islandsOf 0 = .ok (.iconst 0, 1) := by decide +kernel
theorem dX1_islandsOf_1 : decode cX1_islandsOf 1 = .ok (.istore_n 2, 1) := by decide +kernel
theorem dX1_islandsOf_2 : decode cX1_islandsOf 2 = .ok (.iconst (-1), 1) := by decide +kernel
theorem dX1_islandsOf_3 : decode cX1_islandsOf 3 = .ok (.istore_n 3, 1) := by decide +kernel
theorem dX1_islandsOf_4 : decode cX1_islandsOf 4 = .ok (.iconst 0, 1) := by decide +kernel
theorem dX1_islandsOf_5 : decode cX1_islandsOf 5 = .ok (.istore 4, 2) := by decide +kernel
theorem dX1_islandsOf_7 : decode cX1_islandsOf 7 = .ok (.iload 4, 2) := by decide +kernel
theorem dX1_islandsOf_9 : decode cX1_islandsOf 9 = .ok (.aload_n 0, 1) := by decide +kernel
theorem dX1_islandsOf_10 : decode cX1_islandsOf 10 = .ok (.getfield 12, 3) := by decide +kernel
theorem dX1_islandsOf_13 : decode cX1_islandsOf 13 = .ok (.invokevirtual 18, 3) := by decide +kernel
theorem dX1_islandsOf_16 : decode cX1_islandsOf 16 = .ok (.if_icmp .ge 50, 3) := by decide +kernel
theorem dX1_islandsOf_19 : decode cX1_islandsOf 19 = .ok (.aload_n 0, 1) := by decide +kernel
theorem dX1_islandsOf_20 : decode cX1_islandsOf 20 = .ok (.getfield 12, 3) := by decide +kernel
theorem dX1_islandsOf_23 : decode cX1_islandsOf 23 = .ok (.iload 4, 2) := by decide +kernel
theorem dX1_islandsOf_25 : decode cX1_islandsOf 25 = .ok (.invokevirtual 22, 3) := by decide +kernel
theorem dX1_islandsOf_28 : decode cX1_islandsOf 28 = .ok (.checkcast 26, 3) := by decide +kernel
theorem dX1_islandsOf_31 : decode cX1_islandsOf 31 = .ok (.astore 5, 2) := by decide +kernel
theorem dX1_islandsOf_33 : decode cX1_islandsOf 33 = .ok (.aload 5, 2) := by decide +kernel
theorem dX1_islandsOf_35 : decode cX1_islandsOf 35 = .ok (.getfield 39, 3) := by decide +kernel
theorem dX1_islandsOf_38 : decode cX1_islandsOf 38 = .ok (.iload_n 1, 1) := by decide +kernel
theorem dX1_islandsOf_39 : decode cX1_islandsOf 39 = .ok (.if_icmp .ne 21, 3) := by decide +kernel
theorem dX1_islandsOf_42 : decode cX1_islandsOf 42 = .ok (.aload 5, 2) := by decide +kernel
theorem dX1_islandsOf_44 : decode cX1_islandsOf 44 = .ok (.getfield 43, 3) := by decide +kernel
theorem dX1_islandsOf_47 : decode cX1_islandsOf 47 = .ok (.iload_n 3, 1) := by decide +kernel
theorem dX1_islandsOf_48 : decode cX1_islandsOf 48 = .ok (.if_icmp .eq 12, 3) := by decide +kernel
theorem dX1_islandsOf_51 : decode cX1_islandsOf 51 = .ok (.iinc 2 1, 3) := by decide +kernel
theorem dX1_islandsOf_54 : decode cX1_islandsOf 54 = .ok (.aload 5, 2) := by decide +kernel
theorem dX1_islandsOf_56 : decode cX1_islandsOf 56 = .ok (.getfield 43, 3) := by decide +kernel
theorem dX1_islandsOf_59 : decode cX1_islandsOf 59 = .ok (.istore_n 3, 1) := by decide +kernel
theorem dX1_islandsOf_60 : decode cX1_islandsOf 60 = .ok (.iinc 4 1, 3) := by decide +kernel
theorem dX1_islandsOf_63 : decode cX1_islandsOf 63 = .ok (.goto (-56), 3) := by decide +kernel
theorem dX1_islandsOf_66 : decode cX1_islandsOf 66 = .ok (.iload_n 2, 1) := by decide +kernel
theorem dX1_islandsOf_67 : decode cX1_islandsOf 67 = .ok (.ireturn, 1) := by decide +kernel
theorem dX2_init_0 : decode cX2_init 0 = .ok (.aload_n 0, 1) := by decide +kernel
theorem dX2_init_1 : decode cX2_init 1 = .ok (.invokespecial 1, 3) := by decide +kernel
theorem dX2_init_4 : decode cX2_init 4 = .ok (.aload_n 0, 1) := by decide +kernel
theorem dX2_init_5 : decode cX2_init 5 = .ok (.iload_n 1, 1) := by decide +kernel
theorem dX2_init_6 : decode cX2_init 6 = .ok (.putfield 7, 3) := by decide +kernel
theorem dX2_init_9 : decode cX2_init 9 = .ok (.aload_n 0, 1) := by decide +kernel
theorem dX2_init_10 : decode cX2_init 10 = .ok (.iload_n 2, 1) := by decide +kernel
theorem dX2_init_11 : decode cX2_init 11 = .ok (.putfield 13, 3) := by decide +kernel
theorem dX2_init_14 : decode cX2_init 14 = .ok (.aload_n 0, 1) := by decide +kernel
theorem dX2_init_15 : decode cX2_init 15 = .ok (.iload_n 3, 1) := by decide +kernel
theorem dX2_init_16 : decode cX2_init 16 = .ok (.putfield 16, 3) := by decide +kernel
theorem dX2_init_19 : decode cX2_init 19 = .ok (.aload_n 0, 1) := by decide +kernel
theorem dX2_init_20 : decode cX2_init 20 = .ok (.iload 4, 2) := by decide +kernel
theorem dX2_init_22 : decode cX2_init 22 = .ok (.putfield 19, 3) := by decide +kernel
theorem dX2_init_25 : decode cX2_init 25 = .ok (.aload_n 0, 1) := by decide +kernel
theorem dX2_init_26 : decode cX2_init 26 = .ok (.iconst 1, 1) := by decide +kernel
theorem dX2_init_27 : decode cX2_init 27 = .ok (.putfield 22, 3) := by decide +kernel
theorem dX2_init_30 : decode cX2_init 30 = .ok (.return_, 1) := by decide +kernel
theorem dX2_squareTo_0 : decode cX2_squareTo 0 = .ok (.aload_n 0, 1) := by decide +kernel
theorem dX2_squareTo_1 : decode cX2_squareTo 1 = .ok (.getfield 13, 3) := by decide +kernel
theorem dX2_squareTo_4 : decode cX2_squareTo 4 = .ok (.aload_n 1, 1) := by decide +kernel
theorem dX2_squareTo_5 : decode cX2_squareTo 5 = .ok (.getfield 13, 3) := by decide +kernel
theorem dX2_squareTo_8 : decode cX2_squareTo 8 = .ok (.isub, 1) := by decide +kernel
theorem dX2_squareTo_9 : decode cX2_squareTo 9 = .ok (.istore_n 2, 1) := by decide +kernel
theorem dX2_squareTo_10 : decode cX2_squareTo 10 = .ok (.aload_n 0, 1) := by decide +kernel
theorem dX2_squareTo_11 : decode cX2_squareTo 11 = .ok (.getfield 16, 3) := by decide +kernel
theorem dX2_squareTo_14 : decode cX2_squareTo 14 = .ok (.aload_n 1, 1) := by decide +kernel
theorem dX2_squareTo_15 : decode cX2_squareTo 15 = .ok (.getfield 16, 3) := by decide +kernel
theorem dX2_squareTo_18 : decode cX2_squareTo 18 = .ok (.isub, 1) := by decide +kernel
theorem dX2_squareTo_19 : decode cX2_squareTo 19 = .ok (.istore_n 3, 1) := by decide +kernel
theorem dX2_squareTo_20 : decode cX2_squareTo 20 = .ok (.iload_n 2, 1) := by decide +kernel
theorem dX2_squareTo_21 : decode cX2_squareTo 21 = .ok (.iload_n 2, 1) := by decide +kernel
theorem dX2_squareTo_22 : decode cX2_squareTo 22 = .ok (.imul, 1) := by decide +kernel
theorem dX2_squareTo_23 : decode cX2_squareTo 23 = .ok (.iload_n 3, 1) := by decide +kernel
theorem dX2_squareTo_24 : decode cX2_squareTo 24 = .ok (.iload_n 3, 1) := by decide +kernel
theorem dX2_squareTo_25 : decode cX2_squareTo 25 = .ok (.imul, 1) := by decide +kernel
theorem dX2_squareTo_26 : decode cX2_squareTo 26 = .ok (.iadd, 1) := by decide +kernel
theorem dX2_squareTo_27 : decode cX2_squareTo 27 = .ok (.ireturn, 1) := by decide +kernel
set_option maxRecDepth 20000 in
theorem ggX2_ranksAheadOf_X2_squareTo : GoodIn wsX2_ranksAheadOf wsX2_squareTo := goodIn_r _ [7, 8, 9, 10, 11, 12, 13, 14, 15] (by decide +kernel) (by decide +kernel)
set_option maxRecDepth 20000 in
theorem gX2_ranksAheadOf_X2_squareTo : GoodIn wsX2_ranksAheadOf (wsV RX2 30 RX2 yX2_squareTo wsX2_squareTo) := goodIn_app (goodIn_of _ (by decide +kernel)) ggX2_ranksAheadOf_X2_squareTo
theorem dX2_ranksAheadOf_0 : decode cX2_ranksAheadOf 0 = .ok (.aload_n 0, 1) := by decide +kernel
theorem dX2_ranksAheadOf_1 : decode cX2_ranksAheadOf 1 = .ok (.getfield 26, 3) := by decide +kernel
theorem dX2_ranksAheadOf_4 : decode cX2_ranksAheadOf 4 = .ok (.aload_n 1, 1) := by decide +kernel
theorem dX2_ranksAheadOf_5 : decode cX2_ranksAheadOf 5 = .ok (.getfield 26, 3) := by decide +kernel
theorem dX2_ranksAheadOf_8 : decode cX2_ranksAheadOf 8 = .ok (.fcmp .l, 1) := by decide +kernel
theorem dX2_ranksAheadOf_9 : decode cX2_ranksAheadOf 9 = .ok (.ifCond .eq 21, 3) := by decide +kernel
theorem dX2_ranksAheadOf_12 : decode cX2_ranksAheadOf 12 = .ok (.aload_n 0, 1) := by decide +kernel
theorem dX2_ranksAheadOf_13 : decode cX2_ranksAheadOf 13 = .ok (.getfield 26, 3) := by decide +kernel
theorem dX2_ranksAheadOf_16 : decode cX2_ranksAheadOf 16 = .ok (.aload_n 1, 1) := by decide +kernel
theorem dX2_ranksAheadOf_17 : decode cX2_ranksAheadOf 17 = .ok (.getfield 26, 3) := by decide +kernel
theorem dX2_ranksAheadOf_20 : decode cX2_ranksAheadOf 20 = .ok (.fcmp .l, 1) := by decide +kernel
theorem dX2_ranksAheadOf_21 : decode cX2_ranksAheadOf 21 = .ok (.ifCond .le 7, 3) := by decide +kernel
theorem dX2_ranksAheadOf_24 : decode cX2_ranksAheadOf 24 = .ok (.iconst 1, 1) := by decide +kernel
theorem dX2_ranksAheadOf_25 : decode cX2_ranksAheadOf 25 = .ok (.goto 4, 3) := by decide +kernel
theorem dX2_ranksAheadOf_28 : decode cX2_ranksAheadOf 28 = .ok (.iconst 0, 1) := by decide +kernel
theorem dX2_ranksAheadOf_29 : decode cX2_ranksAheadOf 29 = .ok (.ireturn, 1) := by decide +kernel
theorem dX2_ranksAheadOf_30 : decode cX2_ranksAheadOf 30 = .ok (.aload_n 0, 1) := by decide +kernel
theorem dX2_ranksAheadOf_31 : decode cX2_ranksAheadOf 31 = .ok (.aload_n 2, 1) := by decide +kernel
theorem dX2_ranksAheadOf_32 : decode cX2_ranksAheadOf 32 = .ok (.invokevirtual 30, 3) := by decide +kernel
theorem dX2_ranksAheadOf_35 : decode cX2_ranksAheadOf 35 = .ok (.istore_n 3, 1) := by decide +kernel
theorem dX2_ranksAheadOf_36 : decode cX2_ranksAheadOf 36 = .ok (.aload_n 1, 1) := by decide +kernel
theorem dX2_ranksAheadOf_37 : decode cX2_ranksAheadOf 37 = .ok (.aload_n 2, 1) := by decide +kernel
theorem dX2_ranksAheadOf_38 : decode cX2_ranksAheadOf 38 = .ok (.invokevirtual 30, 3) := by decide +kernel
theorem dX2_ranksAheadOf_41 : decode cX2_ranksAheadOf 41 = .ok (.istore 4, 2) := by decide +kernel
theorem dX2_ranksAheadOf_43 : decode cX2_ranksAheadOf 43 = .ok (.iload_n 3, 1) := by decide +kernel
theorem dX2_ranksAheadOf_44 : decode cX2_ranksAheadOf 44 = .ok (.iload 4, 2) := by decide +kernel
theorem dX2_ranksAheadOf_46 : decode cX2_ranksAheadOf 46 = .ok (.if_icmp .eq 17, 3) := by decide +kernel
theorem dX2_ranksAheadOf_49 : decode cX2_ranksAheadOf 49 = .ok (.iload_n 3, 1) := by decide +kernel
theorem dX2_ranksAheadOf_50 : decode cX2_ranksAheadOf 50 = .ok (.iload 4, 2) := by decide +kernel
theorem dX2_ranksAheadOf_52 : decode cX2_ranksAheadOf 52 = .ok (.if_icmp .ge 7, 3) := by decide +kernel
theorem dX2_ranksAheadOf_55 : decode cX2_ranksAheadOf 55 = .ok (.iconst 1, 1) := by decide +kernel
theorem dX2_ranksAheadOf_56 : decode cX2_ranksAheadOf 56 = .ok (.goto 23, 3) := by decide +kernel
theorem dX2_ranksAheadOf_59 : decode cX2_ranksAheadOf 59 = .ok (.iconst 0, 1) := by decide +kernel
theorem dX2_ranksAheadOf_60 : decode cX2_ranksAheadOf 60 = .ok (.goto 19, 3) := by decide +kernel
theorem dX2_ranksAheadOf_63 : decode cX2_ranksAheadOf 63 = .ok (.aload_n 0, 1) := by decide +kernel
theorem dX2_ranksAheadOf_64 : decode cX2_ranksAheadOf 64 = .ok (.getfield 7, 3) := by decide +kernel
theorem dX2_ranksAheadOf_67 : decode cX2_ranksAheadOf 67 = .ok (.aload_n 1, 1) := by decide +kernel
theorem dX2_ranksAheadOf_68 : decode cX2_ranksAheadOf 68 = .ok (.getfield 7, 3) := by decide +kernel
theorem dX2_ranksAheadOf_71 : decode cX2_ranksAheadOf 71 = .ok (.if_icmp .ge 7, 3) := by decide +kernel
theorem dX2_ranksAheadOf_74 : decode cX2_ranksAheadOf 74 = .ok (.iconst 1, 1) := by decide +kernel
theorem dX2_ranksAheadOf_75 : decode cX2_ranksAheadOf 75 = .ok (.goto 4, 3) := by decide +kernel
theorem dX2_ranksAheadOf_78 : decode cX2_ranksAheadOf 78 = .ok (.iconst 0, 1) := by decide +kernel
theorem dX2_ranksAheadOf_79 : decode cX2_ranksAheadOf 79 = .ok (.ireturn, 1) := by decide +kernel
theorem dX3_init_0 : decode cX3_init 0 = .ok (.aload_n 0, 1) := by decide +kernel
theorem dX3_init_1 : decode cX3_init 1 = .ok (.invokespecial 3, 3) := by decide +kernel
theorem dX3_init_4 : decode cX3_init 4 = .ok (.aload_n 0, 1) := by decide +kernel
theorem dX3_init_5 : decode cX3_init 5 = .ok (.iconst 4, 1) := by decide +kernel
theorem dX3_init_6 : decode cX3_init 6 = .ok (.newarray .int, 2) := by decide +kernel
theorem dX3_init_8 : decode cX3_init 8 = .ok (.putfield 9, 3) := by decide +kernel
theorem dX3_init_11 : decode cX3_init 11 = .ok (.aload_n 0, 1) := by decide +kernel
theorem dX3_init_12 : decode cX3_init 12 = .ok (.iconst 4, 1) := by decide +kernel
theorem dX3_init_13 : decode cX3_init 13 = .ok (.newarray .int, 2) := by decide +kernel
theorem dX3_init_15 : decode cX3_init 15 = .ok (.putfield 15, 3) := by decide +kernel
theorem dX3_init_18 : decode cX3_init 18 = .ok (.return_, 1) := by decide +kernel
theorem dX3_isEmpty_0 : decode cX3_isEmpty 0 = .ok (.aload_n 0, 1) := by decide +kernel
theorem dX3_isEmpty_1 : decode cX3_isEmpty 1 = .ok (.getfield 18, 3) := by decide +kernel
theorem dX3_isEmpty_4 : decode cX3_isEmpty 4 = .ok (.ifCond .ne 7, 3) := by decide +kernel
theorem dX3_isEmpty_7 : decode cX3_isEmpty 7 = .ok (.iconst 1, 1) := by decide +kernel
theorem dX3_isEmpty_8 : decode cX3_isEmpty 8 = .ok (.goto 4, 3) := by decide +kernel
theorem dX3_isEmpty_11 : decode cX3_isEmpty 11 = .ok (.iconst 0, 1) := by decide +kernel
theorem dX3_isEmpty_12 : decode cX3_isEmpty 12 = .ok (.ireturn, 1) := by decide +kernel
theorem dX3_wordAt_0 : decode cX3_wordAt 0 = .ok (.iload_n 1, 1) := by decide +kernel
theorem dX3_wordAt_1 : decode cX3_wordAt 1 = .ok (.ifCond .lt 21, 3) := by decide +kernel
theorem dX3_wordAt_4 : decode cX3_wordAt 4 = .ok (.iload_n 1, 1) := by decide +kernel
theorem dX3_wordAt_5 : decode cX3_wordAt 5 = .ok (.aload_n 0, 1) := by decide +kernel
theorem dX3_wordAt_6 : decode cX3_wordAt 6 = .ok (.getfield 9, 3) := by decide +kernel
theorem dX3_wordAt_9 : decode cX3_wordAt 9 = .ok (.arraylength, 1) := by decide +kernel
theorem dX3_wordAt_10 : decode cX3_wordAt 10 = .ok (.if_icmp .ge 12, 3) := by decide +kernel
theorem dX3_wordAt_13 : decode cX3_wordAt 13 = .ok (.aload_n 0, 1) := by decide +kernel
theorem dX3_wordAt_14 : decode cX3_wordAt 14 = .ok (.getfield 9, 3) := by decide +kernel
theorem dX3_wordAt_17 : decode cX3_wordAt 17 = .ok (.iload_n 1, 1) := by decide +kernel
theorem dX3_wordAt_18 : decode cX3_wordAt 18 = .ok (.iaload, 1) := by decide +kernel
theorem dX3_wordAt_19 : decode cX3_wordAt 19 = .ok (.goto 4, 3) := by decide +kernel
theorem dX3_wordAt_22 : decode cX3_wordAt 22 = .ok (.iconst (-1), 1) := by decide +kernel
theorem dX3_wordAt_23 : decode cX3_wordAt 23 = .ok (.ireturn, 1) := by decide +kernel
theorem dX3_distanceAt_0 : decode cX3_distanceAt 0 = .ok (.iload_n 1, 1) := by decide +kernel
theorem dX3_distanceAt_1 : decode cX3_distanceAt 1 = .ok (.ifCond .lt 21, 3) := by decide +kernel
theorem dX3_distanceAt_4 : decode cX3_distanceAt 4 = .ok (.iload_n 1, 1) := by decide +kernel
theorem dX3_distanceAt_5 : decode cX3_distanceAt 5 = .ok (.aload_n 0, 1) := by decide +kernel
theorem dX3_distanceAt_6 : decode cX3_distanceAt 6 = .ok (.getfield 15, 3) := by decide +kernel
theorem dX3_distanceAt_9 : decode cX3_distanceAt 9 = .ok (.arraylength, 1) := by decide +kernel
theorem dX3_distanceAt_10 : decode cX3_distanceAt 10 = .ok (.if_icmp .ge 12, 3) := by decide +kernel
theorem dX3_distanceAt_13 : decode cX3_distanceAt 13 = .ok (.aload_n 0, 1) := by decide +kernel
theorem dX3_distanceAt_14 : decode cX3_distanceAt 14 = .ok (.getfield 15, 3) := by decide +kernel
theorem dX3_distanceAt_17 : decode cX3_distanceAt 17 = .ok (.iload_n 1, 1) := by decide +kernel
theorem dX3_distanceAt_18 : decode cX3_distanceAt 18 = .ok (.iaload, 1) := by decide +kernel
theorem dX3_distanceAt_19 : decode cX3_distanceAt 19 = .ok (.goto 4, 3) := by decide +kernel
theorem dX3_distanceAt_22 : decode cX3_distanceAt 22 = .ok (.iconst 0, 1) := by decide +kernel
theorem dX3_distanceAt_23 : decode cX3_distanceAt 23 = .ok (.ireturn, 1) := by decide +kernel
theorem dX3_append_0 : decode cX3_append 0 = .ok (.aload_n 0, 1) := by decide +kernel
theorem dX3_append_1 : decode cX3_append 1 = .ok (.getfield 18, 3) := by decide +kernel
theorem dX3_append_4 : decode cX3_append 4 = .ok (.ifCond .lt 57, 3) := by decide +kernel
theorem dX3_append_7 : decode cX3_append 7 = .ok (.aload_n 0, 1) := by decide +kernel
theorem dX3_append_8 : decode cX3_append 8 = .ok (.getfield 18, 3) := by decide +kernel
theorem dX3_append_11 : decode cX3_append 11 = .ok (.aload_n 0, 1) := by decide +kernel
theorem dX3_append_12 : decode cX3_append 12 = .ok (.getfield 9, 3) := by decide +kernel
theorem dX3_append_15 : decode cX3_append 15 = .ok (.arraylength, 1) := by decide +kernel
theorem dX3_append_16 : decode cX3_append 16 = .ok (.if_icmp .ge 45, 3) := by decide +kernel
theorem dX3_append_19 : decode cX3_append 19 = .ok (.aload_n 0, 1) := by decide +kernel
theorem dX3_append_20 : decode cX3_append 20 = .ok (.getfield 18, 3) := by decide +kernel
theorem dX3_append_23 : decode cX3_append 23 = .ok (.aload_n 0, 1) := by decide +kernel
theorem dX3_append_24 : decode cX3_append 24 = .ok (.getfield 15, 3) := by decide +kernel
theorem dX3_append_27 : decode cX3_append 27 = .ok (.arraylength, 1) := by decide +kernel
theorem dX3_append_28 : decode cX3_append 28 = .ok (.if_icmp .ge 33, 3) := by decide +kernel
theorem dX3_append_31 : decode cX3_append 31 = .ok (.aload_n 0, 1) := by decide +kernel
theorem dX3_append_32 : decode cX3_append 32 = .ok (.getfield 9, 3) := by decide +kernel
theorem dX3_append_35 : decode cX3_append 35 = .ok (.aload_n 0, 1) := by decide +kernel
theorem dX3_append_36 : decode cX3_append 36 = .ok (.getfield 18, 3) := by decide +kernel
theorem dX3_append_39 : decode cX3_append 39 = .ok (.iload_n 1, 1) := by decide +kernel
theorem dX3_append_40 : decode cX3_append 40 = .ok (.iastore, 1) := by decide +kernel
theorem dX3_append_41 : decode cX3_append 41 = .ok (.aload_n 0, 1) := by decide +kernel
theorem dX3_append_42 : decode cX3_append 42 = .ok (.getfield 15, 3) := by decide +kernel
theorem dX3_append_45 : decode cX3_append 45 = .ok (.aload_n 0, 1) := by decide +kernel
theorem dX3_append_46 : decode cX3_append 46 = .ok (.getfield 18, 3) := by decide +kernel
theorem dX3_append_49 : decode cX3_append 49 = .ok (.iload_n 2, 1) := by decide +kernel
theorem dX3_append_50 : decode cX3_append 50 = .ok (.iastore, 1) := by decide +kernel
theorem dX3_append_51 : decode cX3_append 51 = .ok (.aload_n 0, 1) := by decide +kernel
theorem dX3_append_52 : decode cX3_append 52 = .ok (.dup, 1) := by decide +kernel
theorem dX3_append_53 : decode cX3_append 53 = .ok (.getfield 18, 3) := by decide +kernel
theorem dX3_append_56 : decode cX3_append 56 = .ok (.iconst 1, 1) := by decide +kernel
theorem dX3_append_57 : decode cX3_append 57 = .ok (.iadd, 1) := by decide +kernel
theorem dX3_append_58 : decode cX3_append 58 = .ok (.putfield 18, 3) := by decide +kernel
theorem dX3_append_61 : decode cX3_append 61 = .ok (.return_, 1) := by decide +kernel
theorem dX3_clear_0 : decode cX3_clear 0 = .ok (.aload_n 0, 1) := by decide +kernel
theorem dX3_clear_1 : decode cX3_clear 1 = .ok (.iconst 0, 1) := by decide +kernel
theorem dX3_clear_2 : decode cX3_clear 2 = .ok (.putfield 18, 3) := by decide +kernel
theorem dX3_clear_5 : decode cX3_clear 5 = .ok (.return_, 1) := by decide +kernel
set_option maxRecDepth 20000 in
theorem ggX3_copyFrom_X3_clear : GoodIn wsX3_copyFrom wsX3_clear := goodIn_r _ [6, 1, 21, 22, 23] (by decide +kernel) (by decide +kernel)
set_option maxRecDepth 20000 in
theorem gX3_copyFrom_X3_clear : GoodIn wsX3_copyFrom (wsV RX3 22 RX3 yX3_clear wsX3_clear) := goodIn_app (goodIn_of _ (by decide +kernel)) ggX3_copyFrom_X3_clear
set_option maxRecDepth 20000 in
theorem ggX3_copyFrom_X3_wordAt : GoodIn wsX3_copyFrom wsX3_wordAt := goodIn_ca (goodIn_r _ [10, 11, 21, 22, 23] (by decide +kernel) (by decide +kernel)) (goodIn_sub (fun _ h => List.mem_cons_of_mem _ (List.mem_append_right _ h)) (by decide +kernel))
set_option maxRecDepth 20000 in
theorem gX3_copyFrom_X3_wordAt : GoodIn wsX3_copyFrom (wsV RX3 25 RX3 yX3_wordAt wsX3_wordAt) := goodIn_app (goodIn_of _ (by decide +kernel)) ggX3_copyFrom_X3_wordAt
set_option maxRecDepth 20000 in
theorem ggX3_copyFrom_X3_distanceAt : GoodIn wsX3_copyFrom wsX3_distanceAt := goodIn_ca (goodIn_r _ [15, 16, 21, 22, 23] (by decide +kernel) (by decide +kernel)) (goodIn_sub (fun _ h => List.mem_cons_of_mem _ (List.mem_append_right _ h)) (by decide +kernel))
set_option maxRecDepth 20000 in
theorem gX3_copyFrom_X3_distanceAt : GoodIn wsX3_copyFrom (wsV RX3 29 RX3 yX3_distanceAt wsX3_distanceAt) := goodIn_app (goodIn_of _ (by decide +kernel)) ggX3_copyFrom_X3_distanceAt
set_option maxRecDepth 20000 in
theorem ggX3_copyFrom_X3_append : GoodIn wsX3_copyFrom wsX3_append := goodIn_ca (goodIn_r _ [20, 1, 11, 16, 21, 22, 23] (by decide +kernel) (by decide +kernel)) (goodIn_sub (fun _ h => List.mem_cons_of_mem _ (List.mem_append_right _ h)) (by decide +kernel))
set_option maxRecDepth 20000 in
theorem gX3_copyFrom_X3_append : GoodIn wsX3_copyFrom (wsV RX3 32 RX3 yX3_append wsX3_append) := goodIn_app (goodIn_of _ (by decide +kernel)) ggX3_copyFrom_X3_append
theorem dX3_copyFrom_0 : decode cX3_copyFrom 0 = .ok (.aload_n 0, 1) := by decide +kernel
theorem dX3_copyFrom_1 : decode cX3_copyFrom 1 = .ok (.invokevirtual 22, 3) := by decide +kernel
theorem dX3_copyFrom_4 : decode cX3_copyFrom 4 = .ok (.iconst 0, 1) := by decide +kernel
theorem dX3_copyFrom_5 : decode cX3_copyFrom 5 = .ok (.istore_n 2, 1) := by decide +kernel
theorem dX3_copyFrom_6 : decode cX3_copyFrom 6 = .ok (.iload_n 2, 1) := by decide +kernel
theorem dX3_copyFrom_7 : decode cX3_copyFrom 7 = .ok (.aload_n 1, 1) := by decide +kernel
theorem dX3_copyFrom_8 : decode cX3_copyFrom 8 = .ok (.getfield 18, 3) := by decide +kernel
theorem dX3_copyFrom_11 : decode cX3_copyFrom 11 = .ok (.if_icmp .ge 23, 3) := by decide +kernel
theorem dX3_copyFrom_14 : decode cX3_copyFrom 14 = .ok (.aload_n 0, 1) := by decide +kernel
theorem dX3_copyFrom_15 : decode cX3_copyFrom 15 = .ok (.aload_n 1, 1) := by decide +kernel
theorem dX3_copyFrom_16 : decode cX3_copyFrom 16 = .ok (.iload_n 2, 1) := by decide +kernel
theorem dX3_copyFrom_17 : decode cX3_copyFrom 17 = .ok (.invokevirtual 25, 3) := by decide +kernel
theorem dX3_copyFrom_20 : decode cX3_copyFrom 20 = .ok (.aload_n 1, 1) := by decide +kernel
theorem dX3_copyFrom_21 : decode cX3_copyFrom 21 = .ok (.iload_n 2, 1) := by decide +kernel
theorem dX3_copyFrom_22 : decode cX3_copyFrom 22 = .ok (.invokevirtual 29, 3) := by decide +kernel
theorem dX3_copyFrom_25 : decode cX3_copyFrom 25 = .ok (.invokevirtual 32, 3) := by decide +kernel
theorem dX3_copyFrom_28 : decode cX3_copyFrom 28 = .ok (.iinc 2 1, 3) := by decide +kernel
theorem dX3_copyFrom_31 : decode cX3_copyFrom 31 = .ok (.goto (-25), 3) := by decide +kernel
theorem dX3_copyFrom_34 : decode cX3_copyFrom 34 = .ok (.return_, 1) := by decide +kernel
set_option maxRecDepth 20000 in
theorem ggX4_init_Jx4a65c_init_da8c8 : GoodIn wsX4_init wsJx4a65c_init_da8c8 := goodIn_r _ [11, 12, 13, 14, 15, 16, 17, 18, 19, 20, 21, 22, 23, 2, 3, 26, 27, 28] (by decide +kernel) (by decide +kernel)
set_option maxRecDepth 20000 in
theorem gX4_init_Jx4a65c_init_da8c8 : GoodIn wsX4_init (wsJx4a65c_init_da8c8) := ggX4_init_Jx4a65c_init_da8c8
theorem dX4_init_0 : decode cX4_init 0 = .ok (.aload_n 0, 1) := by decide +kernel
theorem dX4_init_1 : decode cX4_init 1 = .ok (.invokespecial 1, 3) := by decide +kernel
theorem dX4_init_4 : decode cX4_init 4 = .ok (.aload_n 0, 1) := by decide +kernel
theorem dX4_init_5 : decode cX4_init 5 = .ok (.iload_n 1, 1) := by decide +kernel
theorem dX4_init_6 : decode cX4_init 6 = .ok (.putfield 7, 3) := by decide +kernel
theorem dX4_init_9 : decode cX4_init 9 = .ok (.aload_n 0, 1) := by decide +kernel
theorem dX4_init_10 : decode cX4_init 10 = .ok (.new 13, 3) := by decide +kernel
theorem dX4_init_13 : decode cX4_init 13 = .ok (.dup, 1) := by decide +kernel
theorem dX4_init_14 : decode cX4_init 14 = .ok (.invokespecial 15, 3) := by decide +kernel
theorem dX4_init_17 : decode cX4_init 17 = .ok (.putfield 16, 3) := by decide +kernel
theorem dX4_init_20 : decode cX4_init 20 = .ok (.return_, 1) := by decide +kernel
set_option maxRecDepth 20000 in
theorem ggX4_take_Jx4a65c_add_9ea2d : GoodIn wsX4_take wsJx4a65c_add_9ea2d := goodIn_r _ [7, 8, 9, 10, 11, 12, 13, 14, 6, 15, 16, 17, 18, 19, 20, 21, 22, 23, 24, 25, 26, 27, 28, 29, 30, 31, 32, 33, 34, 35, 36, 37, 38, 39, 40, 41, 42, 43, 44, 45, 46, 47, 48, 49, 50, 51, 52, 53, 54, 55, 56, 57, 58, 68, 69, 70] (by decide +kernel) (by decide +kernel)
set_option maxRecDepth 20000 in
theorem gX4_take_Jx4a65c_add_9ea2d : GoodIn wsX4_take (wsV RX4 20 RJx4a65c yJx4a65c_add_9ea2d wsJx4a65c_add_9ea2d) := goodIn_app (goodIn_of _ (by decide +kernel)) ggX4_take_Jx4a65c_add_9ea2d
theorem dX4_take_0 : decode cX4_take 0 = .ok (.aload_n 0, 1) := by decide +kernel
theorem dX4_take_1 : decode cX4_take 1 = .ok (.getfield 16, 3) := by decide +kernel
theorem dX4_take_4 : decode cX4_take 4 = .ok (.aload_n 1, 1) := by decide +kernel
theorem dX4_take_5 : decode cX4_take 5 = .ok (.invokevirtual 20, 3) := by decide +kernel
theorem dX4_take_8 : decode cX4_take 8 = .ok (.pop, 1) := by decide +kernel
theorem dX4_take_9 : decode cX4_take 9 = .ok (.aload_n 1, 1) := by decide +kernel
theorem dX4_take_10 : decode cX4_take 10 = .ok (.aload_n 0, 1) := by decide +kernel
theorem dX4_take_11 : decode cX4_take 11 = .ok (.putfield 24, 3) := by decide +kernel
theorem dX4_take_14 : decode cX4_take 14 = .ok (.return_, 1) := by decide +kernel
set_option maxRecDepth 20000 in
theorem ggX5_init_Jx4a65c_init_da8c8 : GoodIn wsX5_init wsJx4a65c_init_da8c8 := goodIn_r _ [15, 16, 17, 18, 19, 20, 21, 22, 23, 24, 25, 26, 27, 2, 3, 89, 90, 91] (by decide +kernel) (by decide +kernel)
set_option maxRecDepth 20000 in
theorem gX5_init_Jx4a65c_init_da8c8 : GoodIn wsX5_init (wsJx4a65c_init_da8c8) := ggX5_init_Jx4a65c_init_da8c8
set_option maxRecDepth 20000 in
theorem ggX5_init_X4_init : GoodIn wsX5_init wsX4_init := goodIn_r _ [30, 31, 2, 3, 32, 33, 5, 6, 34, 35, 14, 15, 16, 17, 18, 19, 20, 21, 22, 23, 24, 25, 26, 27, 95, 96, 89, 90, 91] (by decide +kernel) (by decide +kernel)
set_option maxRecDepth 20000 in
theorem gX5_init_X4_init : GoodIn wsX5_init (wsX4_init) := ggX5_init_X4_init
set_option maxRecDepth 20000 in
theorem ggX5_init_Jx4a65c_add_9ea2d : GoodIn wsX5_init wsJx4a65c_add_9ea2d := goodIn_r _ [39, 40, 41, 17, 42, 43, 44, 45, 6, 46, 47, 48, 49, 50, 51, 52, 53, 54, 16, 55, 56, 57, 58, 59, 60, 61, 62, 63, 64, 65, 66, 67, 68, 69, 70, 71, 72, 73, 74, 75, 76, 77, 78, 79, 80, 81, 82, 83, 84, 85, 86, 87, 88, 89, 90, 91] (by decide +kernel) (by decide +kernel)
set_option maxRecDepth 20000 in
theorem gX5_init_Jx4a65c_add_9ea2d : GoodIn wsX5_init (wsV RX5 27 RJx4a65c yJx4a65c_add_9ea2d wsJx4a65c_add_9ea2d) := goodIn_app (goodIn_of _ (by decide +kernel)) ggX5_init_Jx4a65c_add_9ea2d
theorem dX5_init_0 : decode cX5_init 0 = .ok (.aload_n 0, 1) := by decide +kernel
theorem dX5_init_1 : decode cX5_init 1 = .ok (.invokespecial 3, 3) := by decide +kernel
theorem dX5_init_4 : decode cX5_init 4 = .ok (.aload_n 0, 1) := by decide +kernel
theorem dX5_init_5 : decode cX5_init 5 = .ok (.new 9, 3) := by decide +kernel
theorem dX5_init_8 : decode cX5_init 8 = .ok (.dup, 1) := by decide +kernel
theorem dX5_init_9 : decode cX5_init 9 = .ok (.invokespecial 11, 3) := by decide +kernel
theorem dX5_init_12 : decode cX5_init 12 = .ok (.putfield 12, 3) := by decide +kernel
theorem dX5_init_15 : decode cX5_init 15 = .ok (.aload_n 0, 1) := by decide +kernel
theorem dX5_init_16 : decode cX5_init 16 = .ok (.new 18, 3) := by decide +kernel
theorem dX5_init_19 : decode cX5_init 19 = .ok (.dup, 1) := by decide +kernel
theorem dX5_init_20 : decode cX5_init 20 = .ok (.iconst 0, 1) := by decide +kernel
theorem dX5_init_21 : decode cX5_init 21 = .ok (.invokespecial 20, 3) := by decide +kernel
theorem dX5_init_24 : decode cX5_init 24 = .ok (.putfield 23, 3) := by decide +kernel
theorem dX5_init_27 : decode cX5_init 27 = .ok (.aload_n 0, 1) := by decide +kernel
theorem dX5_init_28 : decode cX5_init 28 = .ok (.getfield 12, 3) := by decide +kernel
theorem dX5_init_31 : decode cX5_init 31 = .ok (.aload_n 0, 1) := by decide +kernel
theorem dX5_init_32 : decode cX5_init 32 = .ok (.getfield 23, 3) := by decide +kernel
theorem dX5_init_35 : decode cX5_init 35 = .ok (.invokevirtual 27, 3) := by decide +kernel
theorem dX5_init_38 : decode cX5_init 38 = .ok (.pop, 1) := by decide +kernel
theorem dX5_init_39 : decode cX5_init 39 = .ok (.aload_n 0, 1) := by decide +kernel
theorem dX5_init_40 : decode cX5_init 40 = .ok (.iconst 1, 1) := by decide +kernel
theorem dX5_init_41 : decode cX5_init 41 = .ok (.putfield 31, 3) := by decide +kernel
theorem dX5_init_44 : decode cX5_init 44 = .ok (.return_, 1) := by decide +kernel
set_option maxRecDepth 20000 in
theorem ggX5_numbered_Jx4a65c_size_8abf5 : GoodIn wsX5_numbered wsJx4a65c_size_8abf5 := goodIn_r _ [8, 9, 32, 33, 34] (by decide +kernel) (by decide +kernel)
set_option maxRecDepth 20000 in
theorem gX5_numbered_Jx4a65c_size_8abf5 : GoodIn wsX5_numbered (wsV RX5 35 RJx4a65c yJx4a65c_size_8abf5 wsJx4a65c_size_8abf5) := goodIn_app (goodIn_of _ (by decide +kernel)) ggX5_numbered_Jx4a65c_size_8abf5
set_option maxRecDepth 20000 in
theorem ggX5_numbered_Jx4a65c_get_915e3 : GoodIn wsX5_numbered wsJx4a65c_get_915e3 := goodIn_r _ [13, 9, 14, 15, 16, 17, 18, 19, 20, 21, 22, 23, 24, 7, 25, 26, 32, 33, 34] (by decide +kernel) (by decide +kernel)
set_option maxRecDepth 20000 in
theorem gX5_numbered_Jx4a65c_get_915e3 : GoodIn wsX5_numbered (wsV RX5 39 RJx4a65c yJx4a65c_get_915e3 wsJx4a65c_get_915e3) := goodIn_app (goodIn_of _ (by decide +kernel)) ggX5_numbered_Jx4a65c_get_915e3
theorem dX5_numbered_0 : decode cX5_numbered 0 = .ok (.iconst 0, 1) := by decide +kernel
theorem dX5_numbered_1 : decode cX5_numbered 1 = .ok (.istore_n 2, 1) := by decide +kernel
theorem dX5_numbered_2 : decode cX5_numbered 2 = .ok (.iload_n 2, 1) := by decide +kernel
theorem dX5_numbered_3 : decode cX5_numbered 3 = .ok (.aload_n 0, 1) := by decide +kernel
theorem dX5_numbered_4 : decode cX5_numbered 4 = .ok (.getfield 12, 3) := by decide +kernel
theorem dX5_numbered_7 : decode cX5_numbered 7 = .ok (.invokevirtual 35, 3) := by decide +kernel
theorem dX5_numbered_10 : decode cX5_numbered 10 = .ok (.if_icmp .ge 39, 3) := by decide +kernel
theorem dX5_numbered_13 : decode cX5_numbered 13 = .ok (.aload_n 0, 1) := by decide +kernel
theorem dX5_numbered_14 : decode cX5_numbered 14 = .ok (.getfield 12, 3) := by decide +kernel
theorem dX5_numbered_17 : decode cX5_numbered 17 = .ok (.iload_n 2, 1) := by decide +kernel
theorem dX5_numbered_18 : decode cX5_numbered 18 = .ok (.invokevirtual 39, 3) := by decide +kernel
theorem dX5_numbered_21 : decode cX5_numbered 21 = .ok (.checkcast 18, 3) := by decide +kernel
theorem dX5_numbered_24 : decode cX5_numbered 24 = .ok (.getfield 43, 3) := by decide +kernel
theorem dX5_numbered_27 : decode cX5_numbered 27 = .ok (.iload_n 1, 1) := by decide +kernel
theorem dX5_numbered_28 : decode cX5_numbered 28 = .ok (.if_icmp .ne 15, 3) := by decide +kernel
theorem dX5_numbered_31 : decode cX5_numbered 31 = .ok (.aload_n 0, 1) := by decide +kernel
theorem dX5_numbered_32 : decode cX5_numbered 32 = .ok (.getfield 12, 3) := by decide +kernel
theorem dX5_numbered_35 : decode cX5_numbered 35 = .ok (.iload_n 2, 1) := by decide +kernel
theorem dX5_numbered_36 : decode cX5_numbered 36 = .ok (.invokevirtual 39, 3) := by decide +kernel
theorem dX5_numbered_39 : decode cX5_numbered 39 = .ok (.checkcast 18, 3) := by decide +kernel
theorem dX5_numbered_42 : decode cX5_numbered 42 = .ok (.areturn, 1) := by decide +kernel
theorem dX5_numbered_43 : decode cX5_numbered 43 = .ok (.iinc 2 1, 3) := by decide +kernel
theorem dX5_numbered_46 : decode cX5_numbered 46 = .ok (.goto (-44), 3) := by decide +kernel
theorem dX5_numbered_49 : decode cX5_numbered 49 = .ok (.aconst_null, 1) := by decide +kernel
theorem dX5_numbered_50 : decode cX5_numbered 50 = .ok (.areturn, 1) := by decide +kernel
theorem dX5_isOpen_0 : decode cX5_isOpen 0 = .ok (.aload_n 1, 1) := by decide +kernel
theorem dX5_isOpen_1 : decode cX5_isOpen 1 = .ok (.ifnull 15, 3) := by decide +kernel
theorem dX5_isOpen_4 : decode cX5_isOpen 4 = .ok (.aload_n 1, 1) := by decide +kernel
theorem dX5_isOpen_5 : decode cX5_isOpen 5 = .ok (.aload_n 0, 1) := by decide +kernel
theorem dX5_isOpen_6 : decode cX5_isOpen 6 = .ok (.getfield 23, 3) := by decide +kernel
theorem dX5_isOpen_9 : decode cX5_isOpen 9 = .ok (.if_acmp .ne 7, 3) := by decide +kernel
theorem dX5_isOpen_12 : decode cX5_isOpen 12 = .ok (.iconst 1, 1) := by decide +kernel
theorem dX5_isOpen_13 : decode cX5_isOpen 13 = .ok (.goto 4, 3) := by decide +kernel
theorem dX5_isOpen_16 : decode cX5_isOpen 16 = .ok (.iconst 0, 1) := by decide +kernel
theorem dX5_isOpen_17 : decode cX5_isOpen 17 = .ok (.ireturn, 1) := by decide +kernel
set_option maxRecDepth 20000 in
theorem ggX5_hasRoomFor_Jx4a65c_size_8abf5 : GoodIn wsX5_hasRoomFor wsJx4a65c_size_8abf5 := goodIn_r _ [8, 9, 15, 16, 17] (by decide +kernel) (by decide +kernel)
set_option maxRecDepth 20000 in
theorem gX5_hasRoomFor_Jx4a65c_size_8abf5 : GoodIn wsX5_hasRoomFor (wsV RX5 35 RJx4a65c yJx4a65c_size_8abf5 wsJx4a65c_size_8abf5) := goodIn_app (goodIn_of _ (by decide +kernel)) ggX5_hasRoomFor_Jx4a65c_size_8abf5
theorem dX5_hasRoomFor_0 : decode cX5_hasRoomFor 0 = .ok (.aload_n 0, 1) := by decide +kernel
theorem dX5_hasRoomFor_1 : decode cX5_hasRoomFor 1 = .ok (.getfield 23, 3) := by decide +kernel
theorem dX5_hasRoomFor_4 : decode cX5_hasRoomFor 4 = .ok (.ifnonnull 7, 3) := by decide +kernel
theorem dX5_hasRoomFor_7 : decode cX5_hasRoomFor 7 = .ok (.iconst 0, 1) := by decide +kernel
theorem dX5_hasRoomFor_8 : decode cX5_hasRoomFor 8 = .ok (.goto 16, 3) := by decide +kernel
theorem dX5_hasRoomFor_11 : decode cX5_hasRoomFor 11 = .ok (.bipush 10, 2) := by decide +kernel
theorem dX5_hasRoomFor_13 : decode cX5_hasRoomFor 13 = .ok (.aload_n 0, 1) := by decide +kernel
theorem dX5_hasRoomFor_14 : decode cX5_hasRoomFor 14 = .ok (.getfield 23, 3) := by decide +kernel
theorem dX5_hasRoomFor_17 : decode cX5_hasRoomFor 17 = .ok (.getfield 46, 3) := by decide +kernel
theorem dX5_hasRoomFor_20 : decode cX5_hasRoomFor 20 = .ok (.invokevirtual 35, 3) := by decide +kernel
theorem dX5_hasRoomFor_23 : decode cX5_hasRoomFor 23 = .ok (.isub, 1) := by decide +kernel
theorem dX5_hasRoomFor_24 : decode cX5_hasRoomFor 24 = .ok (.istore_n 2, 1) := by decide +kernel
theorem dX5_hasRoomFor_25 : decode cX5_hasRoomFor 25 = .ok (.iload_n 1, 1) := by decide +kernel
theorem dX5_hasRoomFor_26 : decode cX5_hasRoomFor 26 = .ok (.iload_n 2, 1) := by decide +kernel
theorem dX5_hasRoomFor_27 : decode cX5_hasRoomFor 27 = .ok (.isub, 1) := by decide +kernel
theorem dX5_hasRoomFor_28 : decode cX5_hasRoomFor 28 = .ok (.istore_n 3, 1) := by decide +kernel
theorem dX5_hasRoomFor_29 : decode cX5_hasRoomFor 29 = .ok (.iload_n 3, 1) := by decide +kernel
theorem dX5_hasRoomFor_30 : decode cX5_hasRoomFor 30 = .ok (.ifCond .gt 7, 3) := by decide +kernel
theorem dX5_hasRoomFor_33 : decode cX5_hasRoomFor 33 = .ok (.iconst 0, 1) := by decide +kernel
theorem dX5_hasRoomFor_34 : decode cX5_hasRoomFor 34 = .ok (.goto 12, 3) := by decide +kernel
theorem dX5_hasRoomFor_37 : decode cX5_hasRoomFor 37 = .ok (.iload_n 3, 1) := by decide +kernel
theorem dX5_hasRoomFor_38 : decode cX5_hasRoomFor 38 = .ok (.bipush 10, 2) := by decide +kernel
theorem dX5_hasRoomFor_40 : decode cX5_hasRoomFor 40 = .ok (.iadd, 1) := by decide +kernel
theorem dX5_hasRoomFor_41 : decode cX5_hasRoomFor 41 = .ok (.iconst 1, 1) := by decide +kernel
theorem dX5_hasRoomFor_42 : decode cX5_hasRoomFor 42 = .ok (.isub, 1) := by decide +kernel
theorem dX5_hasRoomFor_43 : decode cX5_hasRoomFor 43 = .ok (.bipush 10, 2) := by decide +kernel
theorem dX5_hasRoomFor_45 : decode cX5_hasRoomFor 45 = .ok (.idiv, 1) := by decide +kernel
theorem dX5_hasRoomFor_46 : decode cX5_hasRoomFor 46 = .ok (.istore 4, 2) := by decide +kernel
theorem dX5_hasRoomFor_48 : decode cX5_hasRoomFor 48 = .ok (.aload_n 0, 1) := by decide +kernel
theorem dX5_hasRoomFor_49 : decode cX5_hasRoomFor 49 = .ok (.getfield 12, 3) := by decide +kernel
theorem dX5_hasRoomFor_52 : decode cX5_hasRoomFor 52 = .ok (.invokevirtual 35, 3) := by decide +kernel
theorem dX5_hasRoomFor_55 : decode cX5_hasRoomFor 55 = .ok (.iload 4, 2) := by decide +kernel
theorem dX5_hasRoomFor_57 : decode cX5_hasRoomFor 57 = .ok (.iadd, 1) := by decide +kernel
theorem dX5_hasRoomFor_58 : decode cX5_hasRoomFor 58 = .ok (.bipush 20, 2) := by decide +kernel
theorem dX5_hasRoomFor_60 : decode cX5_hasRoomFor 60 = .ok (.if_icmp .gt 7, 3) := by decide +kernel
theorem dX5_hasRoomFor_63 : decode cX5_hasRoomFor 63 = .ok (.iconst 1, 1) := by decide +kernel
theorem dX5_hasRoomFor_64 : decode cX5_hasRoomFor 64 = .ok (.goto 4, 3) := by decide +kernel
theorem dX5_hasRoomFor_67 : decode cX5_hasRoomFor 67 = .ok (.iconst 0, 1) := by decide +kernel
theorem dX5_hasRoomFor_68 : decode cX5_hasRoomFor 68 = .ok (.ireturn, 1) := by decide +kernel
set_option maxRecDepth 20000 in
theorem ggX5_put_X5_addNext : GoodIn wsX5_put wsX5_addNext := goodIn_r _ [7, 8, 9, 10, 11, 12, 13, 14, 15, 16, 17, 18, 19, 20, 21, 22, 23, 24, 25, 26, 27, 28, 29, 30, 31, 32, 33, 34, 35, 36, 37, 38, 39, 40, 41, 42, 43, 44, 45, 46, 47, 48, 49, 50, 51, 52, 53, 54, 55, 56, 57, 58, 59, 60, 61, 62, 63, 64, 65, 66, 67, 68, 69, 70, 71, 72, 73, 74, 75, 76, 77, 78, 79, 80, 81, 82, 83, 84, 85, 86, 87, 88, 89, 90, 91, 105, 106, 102, 103, 104, 107, 108, 109] (by decide +kernel) (by decide +kernel)
set_option maxRecDepth 20000 in
theorem gX5_put_X5_addNext : GoodIn wsX5_put (wsV RX5 49 RX5 yX5_addNext wsX5_addNext) := goodIn_app (goodIn_of _ (by decide +kernel)) ggX5_put_X5_addNext
set_option maxRecDepth 20000 in
theorem ggX5_put_X4_take : GoodIn wsX5_put wsX4_take := goodIn_r _ [95, 23, 96, 97, 40, 41, 22, 42, 43, 44, 28, 45, 46, 47, 48, 49, 50, 51, 52, 53, 54, 55, 56, 57, 27, 58, 59, 60, 61, 62, 63, 64, 65, 66, 67, 68, 69, 70, 71, 72, 73, 74, 75, 76, 77, 78, 79, 80, 81, 82, 83, 84, 85, 86, 87, 88, 89, 90, 91, 105, 106, 110, 111, 112, 113, 114, 115, 116, 107, 108, 109] (by decide +kernel) (by decide +kernel)
set_option maxRecDepth 20000 in
theorem gX5_put_X4_take : GoodIn wsX5_put (wsV RX5 53 RX4 yX4_take wsX4_take) := goodIn_app (goodIn_of _ (by decide +kernel)) ggX5_put_X4_take
set_option maxRecDepth 20000 in
theorem ggX5_put_Jx4a65c_size_8abf5 : GoodIn wsX5_put wsJx4a65c_size_8abf5 := goodIn_r _ [101, 45, 107, 108, 109] (by decide +kernel) (by decide +kernel)
set_option maxRecDepth 20000 in
theorem gX5_put_Jx4a65c_size_8abf5 : GoodIn wsX5_put (wsV RX5 35 RJx4a65c yJx4a65c_size_8abf5 wsJx4a65c_size_8abf5) := goodIn_app (goodIn_of _ (by decide +kernel)) ggX5_put_Jx4a65c_size_8abf5
theorem dX5_put_0 : decode cX5_put 0 = .ok (.aload_n 0, 1) := by decide +kernel
theorem dX5_put_1 : decode cX5_put 1 = .ok (.getfield 23, 3) := by decide +kernel
theorem dX5_put_4 : decode cX5_put 4 = .ok (.ifnonnull 10, 3) := by decide +kernel
theorem dX5_put_7 : decode cX5_put 7 = .ok (.aload_n 0, 1) := by decide +kernel
theorem dX5_put_8 : decode cX5_put 8 = .ok (.invokevirtual 49, 3) := by decide +kernel
theorem dX5_put_11 : decode cX5_put 11 = .ok (.goto 7, 3) := by decide +kernel
theorem dX5_put_14 : decode cX5_put 14 = .ok (.aload_n 0, 1) := by decide +kernel
theorem dX5_put_15 : decode cX5_put 15 = .ok (.getfield 23, 3) := by decide +kernel
theorem dX5_put_18 : decode cX5_put 18 = .ok (.astore_n 2, 1) := by decide +kernel
theorem dX5_put_19 : decode cX5_put 19 = .ok (.aload_n 2, 1) := by decide +kernel
theorem dX5_put_20 : decode cX5_put 20 = .ok (.aload_n 1, 1) := by decide +kernel
theorem dX5_put_21 : decode cX5_put 21 = .ok (.invokevirtual 53, 3) := by decide +kernel
theorem dX5_put_24 : decode cX5_put 24 = .ok (.aload_n 0, 1) := by decide +kernel
theorem dX5_put_25 : decode cX5_put 25 = .ok (.aload_n 2, 1) := by decide +kernel
theorem dX5_put_26 : decode cX5_put 26 = .ok (.getfield 46, 3) := by decide +kernel
theorem dX5_put_29 : decode cX5_put 29 = .ok (.invokevirtual 35, 3) := by decide +kernel
theorem dX5_put_32 : decode cX5_put 32 = .ok (.bipush 10, 2) := by decide +kernel
theorem dX5_put_34 : decode cX5_put 34 = .ok (.if_icmp .ge 7, 3) := by decide +kernel
theorem dX5_put_37 : decode cX5_put 37 = .ok (.aload_n 2, 1) := by decide +kernel
theorem dX5_put_38 : decode cX5_put 38 = .ok (.goto 4, 3) := by decide +kernel
theorem dX5_put_41 : decode cX5_put 41 = .ok (.aconst_null, 1) := by decide +kernel
theorem dX5_put_42 : decode cX5_put 42 = .ok (.putfield 23, 3) := by decide +kernel
theorem dX5_put_45 : decode cX5_put 45 = .ok (.return_, 1) := by decide +kernel
set_option maxRecDepth 20000 in
theorem ggX5_unite_X5_takeOff : GoodIn wsX5_unite wsX5_takeOff := goodIn_r _ [7, 8, 9, 10, 11, 12, 13, 14, 15, 16, 17, 18, 19, 20, 21, 22, 23, 24, 25, 26, 27, 28, 29, 30, 31, 32, 33, 34, 35, 36, 37, 38, 39, 40, 41, 42, 43, 44, 45, 138, 139, 140, 141, 142, 143] (by decide +kernel) (by decide +kernel)
set_option maxRecDepth 20000 in
theorem gX5_unite_X5_takeOff : GoodIn wsX5_unite (wsV RX5 57 RX5 yX5_takeOff wsX5_takeOff) := goodIn_app (goodIn_of _ (by decide +kernel)) ggX5_unite_X5_takeOff
set_option maxRecDepth 20000 in
theorem ggX5_unite_X5_addNext : GoodIn wsX5_unite wsX5_addNext := goodIn_r _ [49, 50, 51, 52, 53, 8, 54, 55, 56, 57, 58, 59, 60, 61, 62, 12, 63, 64, 65, 66, 67, 31, 68, 69, 70, 71, 72, 73, 74, 75, 76, 77, 78, 79, 80, 81, 40, 41, 14, 82, 83, 84, 85, 86, 87, 88, 89, 90, 91, 92, 93, 94, 95, 96, 97, 98, 99, 100, 101, 102, 103, 104, 105, 106, 107, 108, 109, 110, 111, 112, 113, 114, 115, 116, 117, 118, 119, 120, 121, 122, 123, 124, 43, 44, 45, 144, 145, 138, 139, 140, 141, 142, 143] (by decide +kernel) (by decide +kernel)
set_option maxRecDepth 20000 in
theorem gX5_unite_X5_addNext : GoodIn wsX5_unite (wsV RX5 49 RX5 yX5_addNext wsX5_addNext) := goodIn_app (goodIn_of _ (by decide +kernel)) ggX5_unite_X5_addNext
set_option maxRecDepth 20000 in
theorem ggX5_unite_Jx4a65c_size_8abf5 : GoodIn wsX5_unite wsJx4a65c_size_8abf5 := goodIn_r _ [13, 14, 141, 142, 143] (by decide +kernel) (by decide +kernel)
set_option maxRecDepth 20000 in
theorem gX5_unite_Jx4a65c_size_8abf5 : GoodIn wsX5_unite (wsV RX5 35 RJx4a65c yJx4a65c_size_8abf5 wsJx4a65c_size_8abf5) := goodIn_app (goodIn_of _ (by decide +kernel)) ggX5_unite_Jx4a65c_size_8abf5
set_option maxRecDepth 20000 in
theorem ggX5_unite_Jx4a65c_get_915e3 : GoodIn wsX5_unite wsJx4a65c_get_915e3 := goodIn_r _ [18, 14, 19, 20, 21, 22, 23, 24, 25, 26, 27, 28, 29, 12, 30, 31, 141, 142, 143] (by decide +kernel) (by decide +kernel)
set_option maxRecDepth 20000 in
theorem gX5_unite_Jx4a65c_get_915e3 : GoodIn wsX5_unite (wsV RX5 39 RJx4a65c yJx4a65c_get_915e3 wsJx4a65c_get_915e3) := goodIn_app (goodIn_of _ (by decide +kernel)) ggX5_unite_Jx4a65c_get_915e3
set_option maxRecDepth 20000 in
theorem ggX5_unite_X4_take : GoodIn wsX5_unite wsX4_take := goodIn_r _ [128, 63, 129, 130, 79, 80, 12, 81, 40, 41, 31, 14, 82, 83, 84, 85, 86, 87, 88, 89, 90, 91, 92, 93, 67, 94, 95, 96, 97, 98, 99, 100, 101, 102, 103, 104, 105, 106, 107, 108, 109, 110, 111, 112, 113, 114, 115, 116, 117, 118, 119, 120, 121, 122, 123, 124, 43, 44, 45, 144, 145, 131, 132, 133, 134, 135, 136, 137, 141, 142, 143] (by decide +kernel) (by decide +kernel)
set_option maxRecDepth 20000 in
theorem gX5_unite_X4_take : GoodIn wsX5_unite (wsV RX5 53 RX4 yX4_take wsX4_take) := goodIn_app (goodIn_of _ (by decide +kernel)) ggX5_unite_X4_take
theorem dX5_unite_0 : decode cX5_unite 0 = .ok (.aload_n 0, 1) := by decide +kernel
theorem dX5_unite_1 : decode cX5_unite 1 = .ok (.aload_n 1, 1) := by decide +kernel
theorem dX5_unite_2 : decode cX5_unite 2 = .ok (.invokevirtual 57, 3) := by decide +kernel
theorem dX5_unite_5 : decode cX5_unite 5 = .ok (.aload_n 0, 1) := by decide +kernel
theorem dX5_unite_6 : decode cX5_unite 6 = .ok (.aload_n 2, 1) := by decide +kernel
theorem dX5_unite_7 : decode cX5_unite 7 = .ok (.invokevirtual 57, 3) := by decide +kernel
theorem dX5_unite_10 : decode cX5_unite 10 = .ok (.aload_n 0, 1) := by decide +kernel
theorem dX5_unite_11 : decode cX5_unite 11 = .ok (.invokevirtual 49, 3) := by decide +kernel
theorem dX5_unite_14 : decode cX5_unite 14 = .ok (.astore 4, 2) := by decide +kernel
theorem dX5_unite_16 : decode cX5_unite 16 = .ok (.iconst 0, 1) := by decide +kernel
theorem dX5_unite_17 : decode cX5_unite 17 = .ok (.istore 5, 2) := by decide +kernel
theorem dX5_unite_19 : decode cX5_unite 19 = .ok (.iload 5, 2) := by decide +kernel
theorem dX5_unite_21 : decode cX5_unite 21 = .ok (.aload_n 3, 1) := by decide +kernel
theorem dX5_unite_22 : decode cX5_unite 22 = .ok (.invokevirtual 35, 3) := by decide +kernel
theorem dX5_unite_25 : decode cX5_unite 25 = .ok (.if_icmp .ge 45, 3) := by decide +kernel
theorem dX5_unite_28 : decode cX5_unite 28 = .ok (.aload_n 3, 1) := by decide +kernel
theorem dX5_unite_29 : decode cX5_unite 29 = .ok (.iload 5, 2) := by decide +kernel
theorem dX5_unite_31 : decode cX5_unite 31 = .ok (.invokevirtual 39, 3) := by decide +kernel
theorem dX5_unite_34 : decode cX5_unite 34 = .ok (.checkcast 61, 3) := by decide +kernel
theorem dX5_unite_37 : decode cX5_unite 37 = .ok (.astore 6, 2) := by decide +kernel
theorem dX5_unite_39 : decode cX5_unite 39 = .ok (.aload 6, 2) := by decide +kernel
theorem dX5_unite_41 : decode cX5_unite 41 = .ok (.getfield 63, 3) := by decide +kernel
theorem dX5_unite_44 : decode cX5_unite 44 = .ok (.aload_n 1, 1) := by decide +kernel
theorem dX5_unite_45 : decode cX5_unite 45 = .ok (.if_acmp .eq 12, 3) := by decide +kernel
theorem dX5_unite_48 : decode cX5_unite 48 = .ok (.aload 6, 2) := by decide +kernel
theorem dX5_unite_50 : decode cX5_unite 50 = .ok (.getfield 63, 3) := by decide +kernel
theorem dX5_unite_53 : decode cX5_unite 53 = .ok (.aload_n 2, 1) := by decide +kernel
theorem dX5_unite_54 : decode cX5_unite 54 = .ok (.if_acmp .ne 10, 3) := by decide +kernel
theorem dX5_unite_57 : decode cX5_unite 57 = .ok (.aload 4, 2) := by decide +kernel
theorem dX5_unite_59 : decode cX5_unite 59 = .ok (.aload 6, 2) := by decide +kernel
theorem dX5_unite_61 : decode cX5_unite 61 = .ok (.invokevirtual 53, 3) := by decide +kernel
theorem dX5_unite_64 : decode cX5_unite 64 = .ok (.iinc 5 1, 3) := by decide +kernel
theorem dX5_unite_67 : decode cX5_unite 67 = .ok (.goto (-48), 3) := by decide +kernel
theorem dX5_unite_70 : decode cX5_unite 70 = .ok (.aload 4, 2) := by decide +kernel
theorem dX5_unite_72 : decode cX5_unite 72 = .ok (.areturn, 1) := by decide +kernel
set_option maxRecDepth 20000 in
theorem ggX5_lose_X5_takeOff : GoodIn wsX5_lose wsX5_takeOff := goodIn_r _ [8, 9, 10, 11, 12, 13, 14, 15, 16, 17, 18, 19, 20, 21, 22, 23, 24, 25, 26, 27, 28, 29, 30, 31, 32, 33, 34, 35, 36, 37, 38, 39, 40, 41, 42, 43, 44, 45, 46, 56, 57, 58, 59, 60, 61] (by decide +kernel) (by decide +kernel)
set_option maxRecDepth 20000 in
theorem gX5_lose_X5_takeOff : GoodIn wsX5_lose (wsV RX5 57 RX5 yX5_takeOff wsX5_takeOff) := goodIn_app (goodIn_of _ (by decide +kernel)) ggX5_lose_X5_takeOff
set_option maxRecDepth 20000 in
theorem ggX5_lose_Jx4a65c_size_8abf5 : GoodIn wsX5_lose wsJx4a65c_size_8abf5 := goodIn_r _ [14, 15, 59, 60, 61] (by decide +kernel) (by decide +kernel)
set_option maxRecDepth 20000 in
theorem gX5_lose_Jx4a65c_size_8abf5 : GoodIn wsX5_lose (wsV RX5 35 RJx4a65c yJx4a65c_size_8abf5 wsJx4a65c_size_8abf5) := goodIn_app (goodIn_of _ (by decide +kernel)) ggX5_lose_Jx4a65c_size_8abf5
set_option maxRecDepth 20000 in
theorem ggX5_lose_Jx4a65c_get_915e3 : GoodIn wsX5_lose wsJx4a65c_get_915e3 := goodIn_r _ [19, 15, 20, 21, 22, 23, 24, 25, 26, 27, 28, 29, 30, 13, 31, 32, 59, 60, 61] (by decide +kernel) (by decide +kernel)
set_option maxRecDepth 20000 in
theorem gX5_lose_Jx4a65c_get_915e3 : GoodIn wsX5_lose (wsV RX5 39 RJx4a65c yJx4a65c_get_915e3 wsJx4a65c_get_915e3) := goodIn_app (goodIn_of _ (by decide +kernel)) ggX5_lose_Jx4a65c_get_915e3
theorem dX5_lose_0 : decode cX5_lose 0 = .ok (.aload_n 0, 1) := by decide +kernel
theorem dX5_lose_1 : decode cX5_lose 1 = .ok (.aload_n 1, 1) := by decide +kernel
theorem dX5_lose_2 : decode cX5_lose 2 = .ok (.invokevirtual 57, 3) := by decide +kernel
theorem dX5_lose_5 : decode cX5_lose 5 = .ok (.iconst 0, 1) := by decide +kernel
theorem dX5_lose_6 : decode cX5_lose 6 = .ok (.istore_n 2, 1) := by decide +kernel
theorem dX5_lose_7 : decode cX5_lose 7 = .ok (.iload_n 2, 1) := by decide +kernel
theorem dX5_lose_8 : decode cX5_lose 8 = .ok (.aload_n 1, 1) := by decide +kernel
theorem dX5_lose_9 : decode cX5_lose 9 = .ok (.getfield 46, 3) := by decide +kernel
theorem dX5_lose_12 : decode cX5_lose 12 = .ok (.invokevirtual 35, 3) := by decide +kernel
theorem dX5_lose_15 : decode cX5_lose 15 = .ok (.if_icmp .ge 24, 3) := by decide +kernel
theorem dX5_lose_18 : decode cX5_lose 18 = .ok (.aload_n 1, 1) := by decide +kernel
theorem dX5_lose_19 : decode cX5_lose 19 = .ok (.getfield 46, 3) := by decide +kernel
theorem dX5_lose_22 : decode cX5_lose 22 = .ok (.iload_n 2, 1) := by decide +kernel
theorem dX5_lose_23 : decode cX5_lose 23 = .ok (.invokevirtual 39, 3) := by decide +kernel
theorem dX5_lose_26 : decode cX5_lose 26 = .ok (.checkcast 61, 3) := by decide +kernel
theorem dX5_lose_29 : decode cX5_lose 29 = .ok (.aconst_null, 1) := by decide +kernel
theorem dX5_lose_30 : decode cX5_lose 30 = .ok (.putfield 63, 3) := by decide +kernel
theorem dX5_lose_33 : decode cX5_lose 33 = .ok (.iinc 2 1, 3) := by decide +kernel
theorem dX5_lose_36 : decode cX5_lose 36 = .ok (.goto (-29), 3) := by decide +kernel
theorem dX5_lose_39 : decode cX5_lose 39 = .ok (.return_, 1) := by decide +kernel
set_option maxRecDepth 20000 in
theorem ggX5_timesHeld_Jx4a65c_size_8abf5 : GoodIn wsX5_timesHeld wsJx4a65c_size_8abf5 := goodIn_r _ [8, 9, 32, 33, 34] (by decide +kernel) (by decide +kernel)
set_option maxRecDepth 20000 in
theorem gX5_timesHeld_Jx4a65c_size_8abf5 : GoodIn wsX5_timesHeld (wsV RX5 35 RJx4a65c yJx4a65c_size_8abf5 wsJx4a65c_size_8abf5) := goodIn_app (goodIn_of _ (by decide +kernel)) ggX5_timesHeld_Jx4a65c_size_8abf5
set_option maxRecDepth 20000 in
theorem ggX5_timesHeld_Jx4a65c_get_915e3 : GoodIn wsX5_timesHeld wsJx4a65c_get_915e3 := goodIn_r _ [13, 9, 14, 15, 16, 17, 18, 19, 20, 21, 22, 23, 24, 7, 25, 26, 32, 33, 34] (by decide +kernel) (by decide +kernel)
set_option maxRecDepth 20000 in
theorem gX5_timesHeld_Jx4a65c_get_915e3 : GoodIn wsX5_timesHeld (wsV RX5 39 RJx4a65c yJx4a65c_get_915e3 wsJx4a65c_get_915e3) := goodIn_app (goodIn_of _ (by decide +kernel)) ggX5_timesHeld_Jx4a65c_get_915e3
theorem dX5_timesHeld_0 : decode cX5_timesHeld 0 = .ok (.iconst 0, 1) := by decide +kernel
theorem dX5_timesHeld_1 : decode cX5_timesHeld 1 = .ok (.istore_n 2, 1) := by decide +kernel
theorem dX5_timesHeld_2 : decode cX5_timesHeld 2 = .ok (.iconst 0, 1) := by decide +kernel
theorem dX5_timesHeld_3 : decode cX5_timesHeld 3 = .ok (.istore_n 3, 1) := by decide +kernel
theorem dX5_timesHeld_4 : decode cX5_timesHeld 4 = .ok (.iload_n 3, 1) := by decide +kernel
theorem dX5_timesHeld_5 : decode cX5_timesHeld 5 = .ok (.aload_n 0, 1) := by decide +kernel
theorem dX5_timesHeld_6 : decode cX5_timesHeld 6 = .ok (.getfield 12, 3) := by decide +kernel
theorem dX5_timesHeld_9 : decode cX5_timesHeld 9 = .ok (.invokevirtual 35, 3) := by decide +kernel
theorem dX5_timesHeld_12 : decode cX5_timesHeld 12 = .ok (.if_icmp .ge 58, 3) := by decide +kernel
theorem dX5_timesHeld_15 : decode cX5_timesHeld 15 = .ok (.aload_n 0, 1) := by decide +kernel
theorem dX5_timesHeld_16 : decode cX5_timesHeld 16 = .ok (.getfield 12, 3) := by decide +kernel
theorem dX5_timesHeld_19 : decode cX5_timesHeld 19 = .ok (.iload_n 3, 1) := by decide +kernel
theorem dX5_timesHeld_20 : decode cX5_timesHeld 20 = .ok (.invokevirtual 39, 3) := by decide +kernel
theorem dX5_timesHeld_23 : decode cX5_timesHeld 23 = .ok (.checkcast 18, 3) := by decide +kernel
theorem dX5_timesHeld_26 : decode cX5_timesHeld 26 = .ok (.getfield 46, 3) := by decide +kernel
theorem dX5_timesHeld_29 : decode cX5_timesHeld 29 = .ok (.astore 4, 2) := by decide +kernel
theorem dX5_timesHeld_31 : decode cX5_timesHeld 31 = .ok (.iconst 0, 1) := by decide +kernel
theorem dX5_timesHeld_32 : decode cX5_timesHeld 32 = .ok (.istore 5, 2) := by decide +kernel
theorem dX5_timesHeld_34 : decode cX5_timesHeld 34 = .ok (.iload 5, 2) := by decide +kernel
theorem dX5_timesHeld_36 : decode cX5_timesHeld 36 = .ok (.aload 4, 2) := by decide +kernel
theorem dX5_timesHeld_38 : decode cX5_timesHeld 38 = .ok (.invokevirtual 35, 3) := by decide +kernel
theorem dX5_timesHeld_41 : decode cX5_timesHeld 41 = .ok (.if_icmp .ge 23, 3) := by decide +kernel
theorem dX5_timesHeld_44 : decode cX5_timesHeld 44 = .ok (.aload 4, 2) := by decide +kernel
theorem dX5_timesHeld_46 : decode cX5_timesHeld 46 = .ok (.iload 5, 2) := by decide +kernel
theorem dX5_timesHeld_48 : decode cX5_timesHeld 48 = .ok (.invokevirtual 39, 3) := by decide +kernel
theorem dX5_timesHeld_51 : decode cX5_timesHeld 51 = .ok (.aload_n 1, 1) := by decide +kernel
theorem dX5_timesHeld_52 : decode cX5_timesHeld 52 = .ok (.if_acmp .ne 6, 3) := by decide +kernel
theorem dX5_timesHeld_55 : decode cX5_timesHeld 55 = .ok (.iinc 2 1, 3) := by decide +kernel
theorem dX5_timesHeld_58 : decode cX5_timesHeld 58 = .ok (.iinc 5 1, 3) := by decide +kernel
theorem dX5_timesHeld_61 : decode cX5_timesHeld 61 = .ok (.goto (-27), 3) := by decide +kernel
theorem dX5_timesHeld_64 : decode cX5_timesHeld 64 = .ok (.iinc 3 1, 3) := by decide +kernel
theorem dX5_timesHeld_67 : decode cX5_timesHeld 67 = .ok (.goto (-63), 3) := by decide +kernel
theorem dX5_timesHeld_70 : decode cX5_timesHeld 70 = .ok (.iload_n 2, 1) := by decide +kernel
theorem dX5_timesHeld_71 : decode cX5_timesHeld 71 = .ok (.ireturn, 1) := by decide +kernel
set_option maxRecDepth 20000 in
theorem ggX5_gatherUnstruck_Jx4a65c_clear_da8c8 : GoodIn wsX5_gatherUnstruck wsJx4a65c_clear_da8c8 := goodIn_r _ [10, 11, 12, 13, 14, 98, 99, 100] (by decide +kernel) (by decide +kernel)
set_option maxRecDepth 20000 in
theorem gX5_gatherUnstruck_Jx4a65c_clear_da8c8 : GoodIn wsX5_gatherUnstruck (wsV RX5 66 RJx4a65c yJx4a65c_clear_da8c8 wsJx4a65c_clear_da8c8) := goodIn_app (goodIn_of _ (by decide +kernel)) ggX5_gatherUnstruck_Jx4a65c_clear_da8c8
set_option maxRecDepth 20000 in
theorem ggX5_gatherUnstruck_Jx4a65c_size_8abf5 : GoodIn wsX5_gatherUnstruck wsJx4a65c_size_8abf5 := goodIn_r _ [18, 14, 98, 99, 100] (by decide +kernel) (by decide +kernel)
set_option maxRecDepth 20000 in
theorem gX5_gatherUnstruck_Jx4a65c_size_8abf5 : GoodIn wsX5_gatherUnstruck (wsV RX5 35 RJx4a65c yJx4a65c_size_8abf5 wsJx4a65c_size_8abf5) := goodIn_app (goodIn_of _ (by decide +kernel)) ggX5_gatherUnstruck_Jx4a65c_size_8abf5
set_option maxRecDepth 20000 in
theorem ggX5_gatherUnstruck_Jx4a65c_get_915e3 : GoodIn wsX5_gatherUnstruck wsJx4a65c_get_915e3 := goodIn_r _ [22, 14, 23, 24, 25, 26, 27, 28, 29, 30, 31, 32, 33, 9, 34, 13, 98, 99, 100] (by decide +kernel) (by decide +kernel)
set_option maxRecDepth 20000 in
theorem gX5_gatherUnstruck_Jx4a65c_get_915e3 : GoodIn wsX5_gatherUnstruck (wsV RX5 39 RJx4a65c yJx4a65c_get_915e3 wsJx4a65c_get_915e3) := goodIn_app (goodIn_of _ (by decide +kernel)) ggX5_gatherUnstruck_Jx4a65c_get_915e3
set_option maxRecDepth 20000 in
theorem ggX5_gatherUnstruck_Jx4a65c_add_9ea2d : GoodIn wsX5_gatherUnstruck wsJx4a65c_add_9ea2d := goodIn_r _ [38, 11, 12, 13, 14, 39, 40, 41, 9, 42, 43, 44, 45, 46, 47, 48, 49, 50, 51, 52, 53, 54, 55, 56, 57, 58, 59, 60, 61, 62, 63, 64, 65, 66, 67, 68, 69, 70, 71, 72, 73, 74, 75, 76, 77, 78, 79, 80, 81, 82, 83, 84, 85, 98, 99, 100] (by decide +kernel) (by decide +kernel)
set_option maxRecDepth 20000 in
theorem gX5_gatherUnstruck_Jx4a65c_add_9ea2d : GoodIn wsX5_gatherUnstruck (wsV RX5 27 RJx4a65c yJx4a65c_add_9ea2d wsJx4a65c_add_9ea2d) := goodIn_app (goodIn_of _ (by decide +kernel)) ggX5_gatherUnstruck_Jx4a65c_add_9ea2d
theorem dX5_gatherUnstruck_0 : decode cX5_gatherUnstruck 0 = .ok (.aload_n 1, 1) := by decide +kernel
theorem dX5_gatherUnstruck_1 : decode cX5_gatherUnstruck 1 = .ok (.invokevirtual 66, 3) := by decide +kernel
theorem dX5_gatherUnstruck_4 : decode cX5_gatherUnstruck 4 = .ok (.iconst 0, 1) := by decide +kernel
theorem dX5_gatherUnstruck_5 : decode cX5_gatherUnstruck 5 = .ok (.istore_n 2, 1) := by decide +kernel
theorem dX5_gatherUnstruck_6 : decode cX5_gatherUnstruck 6 = .ok (.iload_n 2, 1) := by decide +kernel
theorem dX5_gatherUnstruck_7 : decode cX5_gatherUnstruck 7 = .ok (.aload_n 0, 1) := by decide +kernel
theorem dX5_gatherUnstruck_8 : decode cX5_gatherUnstruck 8 = .ok (.getfield 12, 3) := by decide +kernel
theorem dX5_gatherUnstruck_11 : decode cX5_gatherUnstruck 11 = .ok (.invokevirtual 35, 3) := by decide +kernel
theorem dX5_gatherUnstruck_14 : decode cX5_gatherUnstruck 14 = .ok (.if_icmp .ge 71, 3) := by decide +kernel
theorem dX5_gatherUnstruck_17 : decode cX5_gatherUnstruck 17 = .ok (.aload_n 0, 1) := by decide +kernel
theorem dX5_gatherUnstruck_18 : decode cX5_gatherUnstruck 18 = .ok (.getfield 12, 3) := by decide +kernel
theorem dX5_gatherUnstruck_21 : decode cX5_gatherUnstruck 21 = .ok (.iload_n 2, 1) := by decide +kernel
theorem dX5_gatherUnstruck_22 : decode cX5_gatherUnstruck 22 = .ok (.invokevirtual 39, 3) := by decide +kernel
theorem dX5_gatherUnstruck_25 : decode cX5_gatherUnstruck 25 = .ok (.checkcast 18, 3) := by decide +kernel
theorem dX5_gatherUnstruck_28 : decode cX5_gatherUnstruck 28 = .ok (.getfield 46, 3) := by decide +kernel
theorem dX5_gatherUnstruck_31 : decode cX5_gatherUnstruck 31 = .ok (.astore_n 3, 1) := by decide +kernel
theorem dX5_gatherUnstruck_32 : decode cX5_gatherUnstruck 32 = .ok (.iconst 0, 1) := by decide +kernel
theorem dX5_gatherUnstruck_33 : decode cX5_gatherUnstruck 33 = .ok (.istore 4, 2) := by decide +kernel
theorem dX5_gatherUnstruck_35 : decode cX5_gatherUnstruck 35 = .ok (.iload 4, 2) := by decide +kernel
theorem dX5_gatherUnstruck_37 : decode cX5_gatherUnstruck 37 = .ok (.aload_n 3, 1) := by decide +kernel
theorem dX5_gatherUnstruck_38 : decode cX5_gatherUnstruck 38 = .ok (.invokevirtual 35, 3) := by decide +kernel
theorem dX5_gatherUnstruck_41 : decode cX5_gatherUnstruck 41 = .ok (.if_icmp .ge 38, 3) := by decide +kernel
theorem dX5_gatherUnstruck_44 : decode cX5_gatherUnstruck 44 = .ok (.aload_n 3, 1) := by decide +kernel
theorem dX5_gatherUnstruck_45 : decode cX5_gatherUnstruck 45 = .ok (.iload 4, 2) := by decide +kernel
theorem dX5_gatherUnstruck_47 : decode cX5_gatherUnstruck 47 = .ok (.invokevirtual 39, 3) := by decide +kernel
theorem dX5_gatherUnstruck_50 : decode cX5_gatherUnstruck 50 = .ok (.checkcast 61, 3) := by decide +kernel
theorem dX5_gatherUnstruck_53 : decode cX5_gatherUnstruck 53 = .ok (.getfield 69, 3) := by decide +kernel
theorem dX5_gatherUnstruck_56 : decode cX5_gatherUnstruck 56 = .ok (.ifCond .ne 17, 3) := by decide +kernel
theorem dX5_gatherUnstruck_59 : decode cX5_gatherUnstruck 59 = .ok (.aload_n 1, 1) := by decide +kernel
theorem dX5_gatherUnstruck_60 : decode cX5_gatherUnstruck 60 = .ok (.aload_n 3, 1) := by decide +kernel
theorem dX5_gatherUnstruck_61 : decode cX5_gatherUnstruck 61 = .ok (.iload 4, 2) := by decide +kernel
theorem dX5_gatherUnstruck_63 : decode cX5_gatherUnstruck 63 = .ok (.invokevirtual 39, 3) := by decide +kernel
theorem dX5_gatherUnstruck_66 : decode cX5_gatherUnstruck 66 = .ok (.checkcast 61, 3) := by decide +kernel
theorem dX5_gatherUnstruck_69 : decode cX5_gatherUnstruck 69 = .ok (.invokevirtual 27, 3) := by decide +kernel
theorem dX5_gatherUnstruck_72 : decode cX5_gatherUnstruck 72 = .ok (.pop, 1) := by decide +kernel
theorem dX5_gatherUnstruck_73 : decode cX5_gatherUnstruck 73 = .ok (.iinc 4 1, 3) := by decide +kernel
theorem dX5_gatherUnstruck_76 : decode cX5_gatherUnstruck 76 = .ok (.goto (-41), 3) := by decide +kernel
theorem dX5_gatherUnstruck_79 : decode cX5_gatherUnstruck 79 = .ok (.iinc 2 1, 3) := by decide +kernel
theorem dX5_gatherUnstruck_82 : decode cX5_gatherUnstruck 82 = .ok (.goto (-76), 3) := by decide +kernel
theorem dX5_gatherUnstruck_85 : decode cX5_gatherUnstruck 85 = .ok (.return_, 1) := by decide +kernel
set_option maxRecDepth 20000 in
theorem ggX5_addNext_X4_init : GoodIn wsX5_addNext wsX4_init := goodIn_r _ [8, 9, 10, 11, 12, 13, 14, 15, 16, 17, 18, 19, 20, 21, 22, 23, 24, 25, 26, 27, 28, 29, 30, 31, 85, 86, 90, 91, 92] (by decide +kernel) (by decide +kernel)
set_option maxRecDepth 20000 in
theorem gX5_addNext_X4_init : GoodIn wsX5_addNext (wsX4_init) := ggX5_addNext_X4_init
set_option maxRecDepth 20000 in
theorem ggX5_addNext_Jx4a65c_add_9ea2d : GoodIn wsX5_addNext wsJx4a65c_add_9ea2d := goodIn_r _ [35, 36, 37, 21, 38, 39, 40, 41, 15, 42, 43, 44, 45, 46, 47, 48, 49, 50, 20, 51, 52, 53, 54, 55, 56, 57, 58, 59, 60, 61, 62, 63, 64, 65, 66, 67, 68, 69, 70, 71, 72, 73, 74, 75, 76, 77, 78, 79, 80, 81, 82, 83, 84, 90, 91, 92] (by decide +kernel) (by decide +kernel)
set_option maxRecDepth 20000 in
theorem gX5_addNext_Jx4a65c_add_9ea2d : GoodIn wsX5_addNext (wsV RX5 27 RJx4a65c yJx4a65c_add_9ea2d wsJx4a65c_add_9ea2d) := goodIn_app (goodIn_of _ (by decide +kernel)) ggX5_addNext_Jx4a65c_add_9ea2d
theorem dX5_addNext_0 : decode cX5_addNext 0 = .ok (.new 18, 3) := by decide +kernel
theorem dX5_addNext_3 : decode cX5_addNext 3 = .ok (.dup, 1) := by decide +kernel
theorem dX5_addNext_4 : decode cX5_addNext 4 = .ok (.aload_n 0, 1) := by decide +kernel
theorem dX5_addNext_5 : decode cX5_addNext 5 = .ok (.getfield 31, 3) := by decide +kernel
theorem dX5_addNext_8 : decode cX5_addNext 8 = .ok (.invokespecial 20, 3) := by decide +kernel
theorem dX5_addNext_11 : decode cX5_addNext 11 = .ok (.astore_n 1, 1) := by decide +kernel
theorem dX5_addNext_12 : decode cX5_addNext 12 = .ok (.aload_n 0, 1) := by decide +kernel
theorem dX5_addNext_13 : decode cX5_addNext 13 = .ok (.dup, 1) := by decide +kernel
theorem dX5_addNext_14 : decode cX5_addNext 14 = .ok (.getfield 31, 3) := by decide +kernel
theorem dX5_addNext_17 : decode cX5_addNext 17 = .ok (.iconst 1, 1) := by decide +kernel
theorem dX5_addNext_18 : decode cX5_addNext 18 = .ok (.iadd, 1) := by decide +kernel
theorem dX5_addNext_19 : decode cX5_addNext 19 = .ok (.putfield 31, 3) := by decide +kernel
theorem dX5_addNext_22 : decode cX5_addNext 22 = .ok (.aload_n 0, 1) := by decide +kernel
theorem dX5_addNext_23 : decode cX5_addNext 23 = .ok (.getfield 12, 3) := by decide +kernel
theorem dX5_addNext_26 : decode cX5_addNext 26 = .ok (.aload_n 1, 1) := by decide +kernel
theorem dX5_addNext_27 : decode cX5_addNext 27 = .ok (.invokevirtual 27, 3) := by decide +kernel
theorem dX5_addNext_30 : decode cX5_addNext 30 = .ok (.pop, 1) := by decide +kernel
theorem dX5_addNext_31 : decode cX5_addNext 31 = .ok (.aload_n 1, 1) := by decide +kernel
theorem dX5_addNext_32 : decode cX5_addNext 32 = .ok (.areturn, 1) := by decide +kernel
set_option maxRecDepth 20000 in
theorem ggX5_takeOff_Jx4a65c_size_8abf5 : GoodIn wsX5_takeOff wsJx4a65c_size_8abf5 := goodIn_r _ [6, 7, 42, 43, 44] (by decide +kernel) (by decide +kernel)
set_option maxRecDepth 20000 in
theorem gX5_takeOff_Jx4a65c_size_8abf5 : GoodIn wsX5_takeOff (wsV RX5 35 RJx4a65c yJx4a65c_size_8abf5 wsJx4a65c_size_8abf5) := goodIn_app (goodIn_of _ (by decide +kernel)) ggX5_takeOff_Jx4a65c_size_8abf5
set_option maxRecDepth 20000 in
theorem ggX5_takeOff_Jx4a65c_get_915e3 : GoodIn wsX5_takeOff wsJx4a65c_get_915e3 := goodIn_r _ [11, 7, 12, 13, 14, 15, 16, 17, 18, 19, 20, 21, 22, 5, 23, 24, 42, 43, 44] (by decide +kernel) (by decide +kernel)
set_option maxRecDepth 20000 in
theorem gX5_takeOff_Jx4a65c_get_915e3 : GoodIn wsX5_takeOff (wsV RX5 39 RJx4a65c yJx4a65c_get_915e3 wsJx4a65c_get_915e3) := goodIn_app (goodIn_of _ (by decide +kernel)) ggX5_takeOff_Jx4a65c_get_915e3
set_option maxRecDepth 20000 in
theorem ggX5_takeOff_Jx4a65c_remove_915e3 : GoodIn wsX5_takeOff wsJx4a65c_remove_915e3 := goodIn_r _ [28, 7, 24, 12, 13, 14, 15, 16, 17, 18, 19, 29, 30, 31, 5, 32, 33, 34, 35, 36, 37, 38, 42, 43, 44] (by decide +kernel) (by decide +kernel)
set_option maxRecDepth 20000 in
theorem gX5_takeOff_Jx4a65c_remove_915e3 : GoodIn wsX5_takeOff (wsV RX5 73 RJx4a65c yJx4a65c_remove_915e3 wsJx4a65c_remove_915e3) := goodIn_app (goodIn_of _ (by decide +kernel)) ggX5_takeOff_Jx4a65c_remove_915e3
theorem dX5_takeOff_0 : decode cX5_takeOff 0 = .ok (.iconst 0, 1) := by decide +kernel
theorem dX5_takeOff_1 : decode cX5_takeOff 1 = .ok (.istore_n 2, 1) := by decide +kernel
theorem dX5_takeOff_2 : decode cX5_takeOff 2 = .ok (.iload_n 2, 1) := by decide +kernel
theorem dX5_takeOff_3 : decode cX5_takeOff 3 = .ok (.aload_n 0, 1) := by decide +kernel
theorem dX5_takeOff_4 : decode cX5_takeOff 4 = .ok (.getfield 12, 3) := by decide +kernel
theorem dX5_takeOff_7 : decode cX5_takeOff 7 = .ok (.invokevirtual 35, 3) := by decide +kernel
theorem dX5_takeOff_10 : decode cX5_takeOff 10 = .ok (.if_icmp .ge 31, 3) := by decide +kernel
theorem dX5_takeOff_13 : decode cX5_takeOff 13 = .ok (.aload_n 0, 1) := by decide +kernel
theorem dX5_takeOff_14 : decode cX5_takeOff 14 = .ok (.getfield 12, 3) := by decide +kernel
theorem dX5_takeOff_17 : decode cX5_takeOff 17 = .ok (.iload_n 2, 1) := by decide +kernel
theorem dX5_takeOff_18 : decode cX5_takeOff 18 = .ok (.invokevirtual 39, 3) := by decide +kernel
theorem dX5_takeOff_21 : decode cX5_takeOff 21 = .ok (.aload_n 1, 1) := by decide +kernel
theorem dX5_takeOff_22 : decode cX5_takeOff 22 = .ok (.if_acmp .ne 13, 3) := by decide +kernel
theorem dX5_takeOff_25 : decode cX5_takeOff 25 = .ok (.aload_n 0, 1) := by decide +kernel
theorem dX5_takeOff_26 : decode cX5_takeOff 26 = .ok (.getfield 12, 3) := by decide +kernel
theorem dX5_takeOff_29 : decode cX5_takeOff 29 = .ok (.iload_n 2, 1) := by decide +kernel
theorem dX5_takeOff_30 : decode cX5_takeOff 30 = .ok (.invokevirtual 73, 3) := by decide +kernel
theorem dX5_takeOff_33 : decode cX5_takeOff 33 = .ok (.pop, 1) := by decide +kernel
theorem dX5_takeOff_34 : decode cX5_takeOff 34 = .ok (.return_, 1) := by decide +kernel
theorem dX5_takeOff_35 : decode cX5_takeOff 35 = .ok (.iinc 2 1, 3) := by decide +kernel
theorem dX5_takeOff_38 : decode cX5_takeOff 38 = .ok (.goto (-36), 3) := by decide +kernel
theorem dX5_takeOff_41 : decode cX5_takeOff 41 = .ok (.return_, 1) := by decide +kernel
set_option maxRecDepth 20000 in
theorem ggX6_init_X3_init : GoodIn wsX6_init wsX3_init := goodIn_r _ [13, 14, 2, 3, 15, 16, 17, 18, 19, 20] (by decide +kernel) (by decide +kernel)
set_option maxRecDepth 20000 in
theorem gX6_init_X3_init : GoodIn wsX6_init (wsX3_init) := ggX6_init_X3_init
theorem dX6_init_0 : decode cX6_init 0 = .ok (.aload_n 0, 1) := by decide +kernel
theorem dX6_init_1 : decode cX6_init 1 = .ok (.invokespecial 3, 3) := by decide +kernel
theorem dX6_init_4 : decode cX6_init 4 = .ok (.aload_n 0, 1) := by decide +kernel
theorem dX6_init_5 : decode cX6_init 5 = .ok (.new 9, 3) := by decide +kernel
theorem dX6_init_8 : decode cX6_init 8 = .ok (.dup, 1) := by decide +kernel
theorem dX6_init_9 : decode cX6_init 9 = .ok (.invokespecial 11, 3) := by decide +kernel
theorem dX6_init_12 : decode cX6_init 12 = .ok (.putfield 12, 3) := by decide +kernel
theorem dX6_init_15 : decode cX6_init 15 = .ok (.aload_n 0, 1) := by decide +kernel
theorem dX6_init_16 : decode cX6_init 16 = .ok (.aload_n 1, 1) := by decide +kernel
theorem dX6_init_17 : decode cX6_init 17 = .ok (.putfield 18, 3) := by decide +kernel
theorem dX6_init_20 : decode cX6_init 20 = .ok (.aload_n 0, 1) := by decide +kernel
theorem dX6_init_21 : decode cX6_init 21 = .ok (.aload_n 1, 1) := by decide +kernel
theorem dX6_init_22 : decode cX6_init 22 = .ok (.putfield 22, 3) := by decide +kernel
theorem dX6_init_25 : decode cX6_init 25 = .ok (.aload_n 0, 1) := by decide +kernel
theorem dX6_init_26 : decode cX6_init 26 = .ok (.bipush 100, 2) := by decide +kernel
theorem dX6_init_28 : decode cX6_init 28 = .ok (.putfield 25, 3) := by decide +kernel
theorem dX6_init_31 : decode cX6_init 31 = .ok (.return_, 1) := by decide +kernel
theorem dX6_pay_0 : decode cX6_pay 0 = .ok (.aload_n 0, 1) := by decide +kernel
theorem dX6_pay_1 : decode cX6_pay 1 = .ok (.dup, 1) := by decide +kernel
theorem dX6_pay_2 : decode cX6_pay 2 = .ok (.getfield 25, 3) := by decide +kernel
theorem dX6_pay_5 : decode cX6_pay 5 = .ok (.iload_n 1, 1) := by decide +kernel
theorem dX6_pay_6 : decode cX6_pay 6 = .ok (.aload_n 0, 1) := by decide +kernel
theorem dX6_pay_7 : decode cX6_pay 7 = .ok (.getfield 25, 3) := by decide +kernel
theorem dX6_pay_10 : decode cX6_pay 10 = .ok (.invokestatic 29, 3) := by decide +kernel
theorem dX6_pay_13 : decode cX6_pay 13 = .ok (.isub, 1) := by decide +kernel
theorem dX6_pay_14 : decode cX6_pay 14 = .ok (.putfield 25, 3) := by decide +kernel
theorem dX6_pay_17 : decode cX6_pay 17 = .ok (.return_, 1) := by decide +kernel
set_option maxRecDepth 20000 in
theorem ggX6_sailTo_X6_pay : GoodIn wsX6_sailTo wsX6_pay := goodIn_r _ [9, 10, 11, 12, 13, 14, 39, 40, 41, 42, 43] (by decide +kernel) (by decide +kernel)
set_option maxRecDepth 20000 in
theorem gX6_sailTo_X6_pay : GoodIn wsX6_sailTo (wsV RX6 35 RX6 yX6_pay wsX6_pay) := goodIn_app (goodIn_of _ (by decide +kernel)) ggX6_sailTo_X6_pay
set_option maxRecDepth 20000 in
theorem ggX6_sailTo_X3_copyFrom : GoodIn wsX6_sailTo wsX3_copyFrom := goodIn_ca (goodIn_r _ [19, 20, 21, 22, 23, 18, 24, 25, 26, 27, 28, 29, 30, 31, 32, 33, 34, 35, 36, 37, 38, 44, 45, 46] (by decide +kernel) (by decide +kernel)) (goodIn_sub (fun _ h => List.mem_cons_of_mem _ (List.mem_append_right _ h)) (by decide +kernel))
set_option maxRecDepth 20000 in
theorem gX6_sailTo_X3_copyFrom : GoodIn wsX6_sailTo (wsV RX6 39 RX3 yX3_copyFrom wsX3_copyFrom) := goodIn_app (goodIn_of _ (by decide +kernel)) ggX6_sailTo_X3_copyFrom
theorem dX6_sailTo_0 : decode cX6_sailTo 0 = .ok (.aload_n 0, 1) := by decide +kernel
theorem dX6_sailTo_1 : decode cX6_sailTo 1 = .ok (.iload_n 3, 1) := by decide +kernel
theorem dX6_sailTo_2 : decode cX6_sailTo 2 = .ok (.invokevirtual 35, 3) := by decide +kernel
theorem dX6_sailTo_5 : decode cX6_sailTo 5 = .ok (.aload_n 0, 1) := by decide +kernel
theorem dX6_sailTo_6 : decode cX6_sailTo 6 = .ok (.getfield 12, 3) := by decide +kernel
theorem dX6_sailTo_9 : decode cX6_sailTo 9 = .ok (.aload_n 2, 1) := by decide +kernel
theorem dX6_sailTo_10 : decode cX6_sailTo 10 = .ok (.invokevirtual 39, 3) := by decide +kernel
theorem dX6_sailTo_13 : decode cX6_sailTo 13 = .ok (.aload_n 0, 1) := by decide +kernel
theorem dX6_sailTo_14 : decode cX6_sailTo 14 = .ok (.aload_n 0, 1) := by decide +kernel
theorem dX6_sailTo_15 : decode cX6_sailTo 15 = .ok (.getfield 18, 3) := by decide +kernel
theorem dX6_sailTo_18 : decode cX6_sailTo 18 = .ok (.putfield 22, 3) := by decide +kernel
theorem dX6_sailTo_21 : decode cX6_sailTo 21 = .ok (.aload_n 0, 1) := by decide +kernel
theorem dX6_sailTo_22 : decode cX6_sailTo 22 = .ok (.aload_n 1, 1) := by decide +kernel
theorem dX6_sailTo_23 : decode cX6_sailTo 23 = .ok (.putfield 18, 3) := by decide +kernel
theorem dX6_sailTo_26 : decode cX6_sailTo 26 = .ok (.aload_n 0, 1) := by decide +kernel
theorem dX6_sailTo_27 : decode cX6_sailTo 27 = .ok (.iconst 0, 1) := by decide +kernel
theorem dX6_sailTo_28 : decode cX6_sailTo 28 = .ok (.putfield 43, 3) := by decide +kernel
theorem dX6_sailTo_31 : decode cX6_sailTo 31 = .ok (.return_, 1) := by decide +kernel
theorem dX6_takeTreasure_0 : decode cX6_takeTreasure 0 = .ok (.aload_n 0, 1) := by decide +kernel
theorem dX6_takeTreasure_1 : decode cX6_takeTreasure 1 = .ok (.getfield 18, 3) := by decide +kernel
theorem dX6_takeTreasure_4 : decode cX6_takeTreasure 4 = .ok (.iconst 0, 1) := by decide +kernel
theorem dX6_takeTreasure_5 : decode cX6_takeTreasure 5 = .ok (.putfield 47, 3) := by decide +kernel
theorem dX6_takeTreasure_8 : decode cX6_takeTreasure 8 = .ok (.aload_n 0, 1) := by decide +kernel
theorem dX6_takeTreasure_9 : decode cX6_takeTreasure 9 = .ok (.dup, 1) := by decide +kernel
theorem dX6_takeTreasure_10 : decode cX6_takeTreasure 10 = .ok (.getfield 25, 3) := by decide +kernel
theorem dX6_takeTreasure_13 : decode cX6_takeTreasure 13 = .ok (.aload_n 0, 1) := by decide +kernel
theorem dX6_takeTreasure_14 : decode cX6_takeTreasure 14 = .ok (.getfield 18, 3) := by decide +kernel
theorem dX6_takeTreasure_17 : decode cX6_takeTreasure 17 = .ok (.getfield 52, 3) := by decide +kernel
theorem dX6_takeTreasure_20 : decode cX6_takeTreasure 20 = .ok (.iadd, 1) := by decide +kernel
theorem dX6_takeTreasure_21 : decode cX6_takeTreasure 21 = .ok (.putfield 25, 3) := by decide +kernel
theorem dX6_takeTreasure_24 : decode cX6_takeTreasure 24 = .ok (.aload_n 0, 1) := by decide +kernel
theorem dX6_takeTreasure_25 : decode cX6_takeTreasure 25 = .ok (.iconst 1, 1) := by decide +kernel
theorem dX6_takeTreasure_26 : decode cX6_takeTreasure 26 = .ok (.putfield 43, 3) := by decide +kernel
theorem dX6_takeTreasure_29 : decode cX6_takeTreasure 29 = .ok (.aload_n 0, 1) := by decide +kernel
theorem dX6_takeTreasure_30 : decode cX6_takeTreasure 30 = .ok (.getfield 18, 3) := by decide +kernel
theorem dX6_takeTreasure_33 : decode cX6_takeTreasure 33 = .ok (.getfield 52, 3) := by decide +kernel
theorem dX6_takeTreasure_36 : decode cX6_takeTreasure 36 = .ok (.ireturn, 1) := by decide +kernel
set_option maxRecDepth 20000 in
theorem ggX6_goBack_X6_pay : GoodIn wsX6_goBack wsX6_pay := goodIn_r _ [11, 12, 13, 14, 15, 16, 23, 24, 25, 26, 27] (by decide +kernel) (by decide +kernel)
set_option maxRecDepth 20000 in
theorem gX6_goBack_X6_pay : GoodIn wsX6_goBack (wsV RX6 35 RX6 yX6_pay wsX6_pay) := goodIn_app (goodIn_of _ (by decide +kernel)) ggX6_goBack_X6_pay
set_option maxRecDepth 20000 in
theorem ggX6_goBack_X3_clear : GoodIn wsX6_goBack wsX3_clear := goodIn_r _ [21, 22, 34, 35, 36] (by decide +kernel) (by decide +kernel)
set_option maxRecDepth 20000 in
theorem gX6_goBack_X3_clear : GoodIn wsX6_goBack (wsV RX6 55 RX3 yX3_clear wsX3_clear) := goodIn_app (goodIn_of _ (by decide +kernel)) ggX6_goBack_X3_clear
theorem dX6_goBack_0 : decode cX6_goBack 0 = .ok (.aload_n 0, 1) := by decide +kernel
theorem dX6_goBack_1 : decode cX6_goBack 1 = .ok (.getfield 43, 3) := by decide +kernel
theorem dX6_goBack_4 : decode cX6_goBack 4 = .ok (.ifCond .eq 22, 3) := by decide +kernel
theorem dX6_goBack_7 : decode cX6_goBack 7 = .ok (.aload_n 0, 1) := by decide +kernel
theorem dX6_goBack_8 : decode cX6_goBack 8 = .ok (.aload_n 0, 1) := by decide +kernel
theorem dX6_goBack_9 : decode cX6_goBack 9 = .ok (.getfield 18, 3) := by decide +kernel
theorem dX6_goBack_12 : decode cX6_goBack 12 = .ok (.getfield 52, 3) := by decide +kernel
theorem dX6_goBack_15 : decode cX6_goBack 15 = .ok (.invokevirtual 35, 3) := by decide +kernel
theorem dX6_goBack_18 : decode cX6_goBack 18 = .ok (.aload_n 0, 1) := by decide +kernel
theorem dX6_goBack_19 : decode cX6_goBack 19 = .ok (.getfield 18, 3) := by decide +kernel
theorem dX6_goBack_22 : decode cX6_goBack 22 = .ok (.iconst 1, 1) := by decide +kernel
theorem dX6_goBack_23 : decode cX6_goBack 23 = .ok (.putfield 47, 3) := by decide +kernel
theorem dX6_goBack_26 : decode cX6_goBack 26 = .ok (.aload_n 0, 1) := by decide +kernel
theorem dX6_goBack_27 : decode cX6_goBack 27 = .ok (.aload_n 0, 1) := by decide +kernel
theorem dX6_goBack_28 : decode cX6_goBack 28 = .ok (.getfield 22, 3) := by decide +kernel
theorem dX6_goBack_31 : decode cX6_goBack 31 = .ok (.putfield 18, 3) := by decide +kernel
theorem dX6_goBack_34 : decode cX6_goBack 34 = .ok (.aload_n 0, 1) := by decide +kernel
theorem dX6_goBack_35 : decode cX6_goBack 35 = .ok (.getfield 12, 3) := by decide +kernel
theorem dX6_goBack_38 : decode cX6_goBack 38 = .ok (.invokevirtual 55, 3) := by decide +kernel
theorem dX6_goBack_41 : decode cX6_goBack 41 = .ok (.return_, 1) := by decide +kernel
theorem dX7_init_0 : decode cX7_init 0 = .ok (.aload_n 0, 1) := by decide +kernel
theorem dX7_init_1 : decode cX7_init 1 = .ok (.invokespecial 3, 3) := by decide +kernel
theorem dX7_init_4 : decode cX7_init 4 = .ok (.aload_n 0, 1) := by decide +kernel
theorem dX7_init_5 : decode cX7_init 5 = .ok (.bipush 41, 2) := by decide +kernel
theorem dX7_init_7 : decode cX7_init 7 = .ok (.newarray .int, 2) := by decide +kernel
theorem dX7_init_9 : decode cX7_init 9 = .ok (.putfield 9, 3) := by decide +kernel
theorem dX7_init_12 : decode cX7_init 12 = .ok (.aload_n 0, 1) := by decide +kernel
theorem dX7_init_13 : decode cX7_init 13 = .ok (.bipush 41, 2) := by decide +kernel
theorem dX7_init_15 : decode cX7_init 15 = .ok (.newarray .int, 2) := by decide +kernel
theorem dX7_init_17 : decode cX7_init 17 = .ok (.putfield 15, 3) := by decide +kernel
theorem dX7_init_20 : decode cX7_init 20 = .ok (.return_, 1) := by decide +kernel
set_option maxRecDepth 20000 in
theorem ggX7_choices_J7_fill_53178 : GoodIn wsX7_choices wsJ7_fill_53178 := goodIn_r _ [6] (by decide +kernel) (by decide +kernel)
set_option maxRecDepth 20000 in
theorem gX7_choices_J7_fill_53178 : GoodIn wsX7_choices (va_wsS RX7 18 yJ7_fill_53178 wsJ7_fill_53178) := goodIn_app (goodIn_of _ (by decide +kernel)) ggX7_choices_J7_fill_53178
set_option maxRecDepth 20000 in
theorem ggX7_choices_X3_wordAt : GoodIn wsX7_choices wsX3_wordAt := goodIn_ca (goodIn_r _ [11, 12, 73, 74, 75] (by decide +kernel) (by decide +kernel)) (goodIn_sub (fun _ h => List.mem_cons_of_mem _ (List.mem_append_right _ h)) (by decide +kernel))
set_option maxRecDepth 20000 in
theorem gX7_choices_X3_wordAt : GoodIn wsX7_choices (wsV RX7 30 RX3 yX3_wordAt wsX3_wordAt) := goodIn_app (goodIn_of _ (by decide +kernel)) ggX7_choices_X3_wordAt
set_option maxRecDepth 20000 in
theorem ggX7_choices_X7_lookFor : GoodIn wsX7_choices wsX7_lookFor := goodIn_ca (goodIn_r _ [17, 18, 19, 20, 21, 22, 3, 4, 5, 6, 23, 24, 25, 26, 27, 28, 29, 30, 31, 32, 33, 34, 35, 36, 37, 38, 39, 40, 41, 42, 43, 44, 45, 71, 72, 76, 77, 78, 79, 80, 81, 82, 83, 84, 85] (by decide +kernel) (by decide +kernel)) (goodIn_sub (fun _ h => List.mem_cons_of_mem _ (List.mem_append_right _ h)) (by decide +kernel))
set_option maxRecDepth 20000 in
theorem gX7_choices_X7_lookFor : GoodIn wsX7_choices (wsV RX7 34 RX7 yX7_lookFor wsX7_lookFor) := goodIn_app (goodIn_of _ (by decide +kernel)) ggX7_choices_X7_lookFor
set_option maxRecDepth 20000 in
theorem ggX7_choices_X7_begin : GoodIn wsX7_choices wsX7_begin := goodIn_r _ [49, 18, 1, 50, 51, 52, 53, 54, 55, 56, 57, 71, 72] (by decide +kernel) (by decide +kernel)
set_option maxRecDepth 20000 in
theorem gX7_choices_X7_begin : GoodIn wsX7_choices (wsV RX7 38 RX7 yX7_begin wsX7_begin) := goodIn_app (goodIn_of _ (by decide +kernel)) ggX7_choices_X7_begin
set_option maxRecDepth 20000 in
theorem ggX7_choices_X3_distanceAt : GoodIn wsX7_choices wsX3_distanceAt := goodIn_ca (goodIn_r _ [61, 62, 73, 74, 75] (by decide +kernel) (by decide +kernel)) (goodIn_sub (fun _ h => List.mem_cons_of_mem _ (List.mem_append_right _ h)) (by decide +kernel))
set_option maxRecDepth 20000 in
theorem gX7_choices_X3_distanceAt : GoodIn wsX7_choices (wsV RX7 41 RX3 yX3_distanceAt wsX3_distanceAt) := goodIn_app (goodIn_of _ (by decide +kernel)) ggX7_choices_X3_distanceAt
set_option maxRecDepth 20000 in
theorem ggX7_choices_X7_follow : GoodIn wsX7_choices wsX7_follow := goodIn_ca (goodIn_r _ [66, 18, 1, 50, 51, 52, 53, 67, 68, 69, 16, 70, 71, 72] (by decide +kernel) (by decide +kernel)) (goodIn_sub (fun _ h => List.mem_cons_of_mem _ (List.mem_append_right _ h)) (by decide +kernel))
set_option maxRecDepth 20000 in
theorem gX7_choices_X7_follow : GoodIn wsX7_choices (wsV RX7 44 RX7 yX7_follow wsX7_follow) := goodIn_app (goodIn_of _ (by decide +kernel)) ggX7_choices_X7_follow
set_option maxRecDepth 20000 in
theorem ggX7_choices_X7_sumOfEnds : GoodIn wsX7_choices wsX7_sumOfEnds := goodIn_ca (goodIn_r _ [70, 1, 71, 72] (by decide +kernel) (by decide +kernel)) (goodIn_sub (fun _ h => List.mem_cons_of_mem _ (List.mem_append_right _ h)) (by decide +kernel))
set_option maxRecDepth 20000 in
theorem gX7_choices_X7_sumOfEnds : GoodIn wsX7_choices (wsV RX7 48 RX7 yX7_sumOfEnds wsX7_sumOfEnds) := goodIn_app (goodIn_of _ (by decide +kernel)) ggX7_choices_X7_sumOfEnds
theorem dX7_choices_0 : decode cX7_choices 0 = .ok (.aload_n 0, 1) := by decide +kernel
theorem dX7_choices_1 : decode cX7_choices 1 = .ok (.getfield 15, 3) := by decide +kernel
theorem dX7_choices_4 : decode cX7_choices 4 = .ok (.iconst 0, 1) := by decide +kernel
theorem dX7_choices_5 : decode cX7_choices 5 = .ok (.invokestatic 18, 3) := by decide +kernel
theorem dX7_choices_8 : decode cX7_choices 8 = .ok (.iconst 0, 1) := by decide +kernel
theorem dX7_choices_9 : decode cX7_choices 9 = .ok (.istore 4, 2) := by decide +kernel
theorem dX7_choices_11 : decode cX7_choices 11 = .ok (.iload 4, 2) := by decide +kernel
theorem dX7_choices_13 : decode cX7_choices 13 = .ok (.aload_n 2, 1) := by decide +kernel
theorem dX7_choices_14 : decode cX7_choices 14 = .ok (.getfield 24, 3) := by decide +kernel
theorem dX7_choices_17 : decode cX7_choices 17 = .ok (.if_icmp .ge 43, 3) := by decide +kernel
theorem dX7_choices_20 : decode cX7_choices 20 = .ok (.aload_n 0, 1) := by decide +kernel
theorem dX7_choices_21 : decode cX7_choices 21 = .ok (.aload_n 1, 1) := by decide +kernel
theorem dX7_choices_22 : decode cX7_choices 22 = .ok (.aload_n 2, 1) := by decide +kernel
theorem dX7_choices_23 : decode cX7_choices 23 = .ok (.iload 4, 2) := by decide +kernel
theorem dX7_choices_25 : decode cX7_choices 25 = .ok (.invokevirtual 30, 3) := by decide +kernel
theorem dX7_choices_28 : decode cX7_choices 28 = .ok (.iload_n 3, 1) := by decide +kernel
theorem dX7_choices_29 : decode cX7_choices 29 = .ok (.invokevirtual 34, 3) := by decide +kernel
theorem dX7_choices_32 : decode cX7_choices 32 = .ok (.iload 4, 2) := by decide +kernel
theorem dX7_choices_34 : decode cX7_choices 34 = .ok (.ifCond .ne 10, 3) := by decide +kernel
theorem dX7_choices_37 : decode cX7_choices 37 = .ok (.aload_n 0, 1) := by decide +kernel
theorem dX7_choices_38 : decode cX7_choices 38 = .ok (.invokevirtual 38, 3) := by decide +kernel
theorem dX7_choices_41 : decode cX7_choices 41 = .ok (.goto 13, 3) := by decide +kernel
theorem dX7_choices_44 : decode cX7_choices 44 = .ok (.aload_n 0, 1) := by decide +kernel
theorem dX7_choices_45 : decode cX7_choices 45 = .ok (.aload_n 2, 1) := by decide +kernel
theorem dX7_choices_46 : decode cX7_choices 46 = .ok (.iload 4, 2) := by decide +kernel
theorem dX7_choices_48 : decode cX7_choices 48 = .ok (.invokevirtual 41, 3) := by decide +kernel
theorem dX7_choices_51 : decode cX7_choices 51 = .ok (.invokevirtual 44, 3) := by decide +kernel
theorem dX7_choices_54 : decode cX7_choices 54 = .ok (.iinc 4 1, 3) := by decide +kernel
theorem dX7_choices_57 : decode cX7_choices 57 = .ok (.goto (-46), 3) := by decide +kernel
theorem dX7_choices_60 : decode cX7_choices 60 = .ok (.aload_n 0, 1) := by decide +kernel
theorem dX7_choices_61 : decode cX7_choices 61 = .ok (.iconst 0, 1) := by decide +kernel
theorem dX7_choices_62 : decode cX7_choices 62 = .ok (.bipush 40, 2) := by decide +kernel
theorem dX7_choices_64 : decode cX7_choices 64 = .ok (.invokevirtual 48, 3) := by decide +kernel
theorem dX7_choices_67 : decode cX7_choices 67 = .ok (.ireturn, 1) := by decide +kernel
set_option maxRecDepth 20000 in
theorem ggX7_lookFor_J7_fill_53178 : GoodIn wsX7_lookFor wsJ7_fill_53178 := goodIn_r _ [9] (by decide +kernel) (by decide +kernel)
set_option maxRecDepth 20000 in
theorem gX7_lookFor_J7_fill_53178 : GoodIn wsX7_lookFor (va_wsS RX7 18 yJ7_fill_53178 wsJ7_fill_53178) := goodIn_app (goodIn_of _ (by decide +kernel)) ggX7_lookFor_J7_fill_53178
set_option maxRecDepth 20000 in
theorem ggX7_lookFor_Jx4a65c_size_8abf5 : GoodIn wsX7_lookFor wsJx4a65c_size_8abf5 := goodIn_r _ [14, 15, 42, 43, 44] (by decide +kernel) (by decide +kernel)
set_option maxRecDepth 20000 in
theorem gX7_lookFor_Jx4a65c_size_8abf5 : GoodIn wsX7_lookFor (wsV RX7 52 RJx4a65c yJx4a65c_size_8abf5 wsJx4a65c_size_8abf5) := goodIn_app (goodIn_of _ (by decide +kernel)) ggX7_lookFor_Jx4a65c_size_8abf5
set_option maxRecDepth 20000 in
theorem ggX7_lookFor_Jx4a65c_get_915e3 : GoodIn wsX7_lookFor wsJx4a65c_get_915e3 := goodIn_r _ [19, 15, 20, 21, 22, 23, 24, 25, 26, 27, 28, 29, 30, 13, 31, 32, 42, 43, 44] (by decide +kernel) (by decide +kernel)
set_option maxRecDepth 20000 in
theorem gX7_lookFor_Jx4a65c_get_915e3 : GoodIn wsX7_lookFor (wsV RX7 58 RJx4a65c yJx4a65c_get_915e3 wsJx4a65c_get_915e3) := goodIn_app (goodIn_of _ (by decide +kernel)) ggX7_lookFor_Jx4a65c_get_915e3
theorem dX7_lookFor_0 : decode cX7_lookFor 0 = .ok (.aload_n 0, 1) := by decide +kernel
theorem dX7_lookFor_1 : decode cX7_lookFor 1 = .ok (.getfield 9, 3) := by decide +kernel
theorem dX7_lookFor_4 : decode cX7_lookFor 4 = .ok (.iconst 0, 1) := by decide +kernel
theorem dX7_lookFor_5 : decode cX7_lookFor 5 = .ok (.invokestatic 18, 3) := by decide +kernel
theorem dX7_lookFor_8 : decode cX7_lookFor 8 = .ok (.iconst 0, 1) := by decide +kernel
theorem dX7_lookFor_9 : decode cX7_lookFor 9 = .ok (.istore 4, 2) := by decide +kernel
theorem dX7_lookFor_11 : decode cX7_lookFor 11 = .ok (.iload 4, 2) := by decide +kernel
theorem dX7_lookFor_13 : decode cX7_lookFor 13 = .ok (.aload_n 1, 1) := by decide +kernel
theorem dX7_lookFor_14 : decode cX7_lookFor 14 = .ok (.invokevirtual 52, 3) := by decide +kernel
theorem dX7_lookFor_17 : decode cX7_lookFor 17 = .ok (.if_icmp .ge 85, 3) := by decide +kernel
theorem dX7_lookFor_20 : decode cX7_lookFor 20 = .ok (.aload_n 1, 1) := by decide +kernel
theorem dX7_lookFor_21 : decode cX7_lookFor 21 = .ok (.iload 4, 2) := by decide +kernel
theorem dX7_lookFor_23 : decode cX7_lookFor 23 = .ok (.invokevirtual 58, 3) := by decide +kernel
theorem dX7_lookFor_26 : decode cX7_lookFor 26 = .ok (.checkcast 62, 3) := by decide +kernel
theorem dX7_lookFor_29 : decode cX7_lookFor 29 = .ok (.astore 5, 2) := by decide +kernel
theorem dX7_lookFor_31 : decode cX7_lookFor 31 = .ok (.aload 5, 2) := by decide +kernel
theorem dX7_lookFor_33 : decode cX7_lookFor 33 = .ok (.getfield 64, 3) := by decide +kernel
theorem dX7_lookFor_36 : decode cX7_lookFor 36 = .ok (.iload_n 2, 1) := by decide +kernel
theorem dX7_lookFor_37 : decode cX7_lookFor 37 = .ok (.if_icmp .ne 16, 3) := by decide +kernel
theorem dX7_lookFor_40 : decode cX7_lookFor 40 = .ok (.aload 5, 2) := by decide +kernel
theorem dX7_lookFor_42 : decode cX7_lookFor 42 = .ok (.getfield 67, 3) := by decide +kernel
theorem dX7_lookFor_45 : decode cX7_lookFor 45 = .ok (.iload_n 3, 1) := by decide +kernel
theorem dX7_lookFor_46 : decode cX7_lookFor 46 = .ok (.if_icmp .ne 7, 3) := by decide +kernel
theorem dX7_lookFor_49 : decode cX7_lookFor 49 = .ok (.iconst 1, 1) := by decide +kernel
theorem dX7_lookFor_50 : decode cX7_lookFor 50 = .ok (.goto 4, 3) := by decide +kernel
theorem dX7_lookFor_53 : decode cX7_lookFor 53 = .ok (.iconst 0, 1) := by decide +kernel
theorem dX7_lookFor_54 : decode cX7_lookFor 54 = .ok (.istore 6, 2) := by decide +kernel
theorem dX7_lookFor_56 : decode cX7_lookFor 56 = .ok (.iload 6, 2) := by decide +kernel
theorem dX7_lookFor_58 : decode cX7_lookFor 58 = .ok (.ifCond .eq 38, 3) := by decide +kernel
theorem dX7_lookFor_61 : decode cX7_lookFor 61 = .ok (.aload 5, 2) := by decide +kernel
theorem dX7_lookFor_63 : decode cX7_lookFor 63 = .ok (.getfield 70, 3) := by decide +kernel
theorem dX7_lookFor_66 : decode cX7_lookFor 66 = .ok (.ifCond .lt 30, 3) := by decide +kernel
theorem dX7_lookFor_69 : decode cX7_lookFor 69 = .ok (.aload 5, 2) := by decide +kernel
theorem dX7_lookFor_71 : decode cX7_lookFor 71 = .ok (.getfield 70, 3) := by decide +kernel
theorem dX7_lookFor_74 : decode cX7_lookFor 74 = .ok (.aload_n 0, 1) := by decide +kernel
theorem dX7_lookFor_75 : decode cX7_lookFor 75 = .ok (.getfield 9, 3) := by decide +kernel
theorem dX7_lookFor_78 : decode cX7_lookFor 78 = .ok (.arraylength, 1) := by decide +kernel
theorem dX7_lookFor_79 : decode cX7_lookFor 79 = .ok (.if_icmp .ge 17, 3) := by decide +kernel
theorem dX7_lookFor_82 : decode cX7_lookFor 82 = .ok (.aload_n 0, 1) := by decide +kernel
theorem dX7_lookFor_83 : decode cX7_lookFor 83 = .ok (.getfield 9, 3) := by decide +kernel
theorem dX7_lookFor_86 : decode cX7_lookFor 86 = .ok (.aload 5, 2) := by decide +kernel
theorem dX7_lookFor_88 : decode cX7_lookFor 88 = .ok (.getfield 70, 3) := by decide +kernel
theorem dX7_lookFor_91 : decode cX7_lookFor 91 = .ok (.dup2, 1) := by decide +kernel
theorem dX7_lookFor_92 : decode cX7_lookFor 92 = .ok (.iaload, 1) := by decide +kernel
theorem dX7_lookFor_93 : decode cX7_lookFor 93 = .ok (.iconst 1, 1) := by decide +kernel
theorem dX7_lookFor_94 : decode cX7_lookFor 94 = .ok (.iadd, 1) := by decide +kernel
theorem dX7_lookFor_95 : decode cX7_lookFor 95 = .ok (.iastore, 1) := by decide +kernel
theorem dX7_lookFor_96 : decode cX7_lookFor 96 = .ok (.iinc 4 1, 3) := by decide +kernel
theorem dX7_lookFor_99 : decode cX7_lookFor 99 = .ok (.goto (-88), 3) := by decide +kernel
theorem dX7_lookFor_102 : decode cX7_lookFor 102 = .ok (.return_, 1) := by decide +kernel
theorem dX7_begin_0 : decode cX7_begin 0 = .ok (.aload_n 0, 1) := by decide +kernel
theorem dX7_begin_1 : decode cX7_begin 1 = .ok (.getfield 9, 3) := by decide +kernel
theorem dX7_begin_4 : decode cX7_begin 4 = .ok (.iconst 0, 1) := by decide +kernel
theorem dX7_begin_5 : decode cX7_begin 5 = .ok (.aload_n 0, 1) := by decide +kernel
theorem dX7_begin_6 : decode cX7_begin 6 = .ok (.getfield 15, 3) := by decide +kernel
theorem dX7_begin_9 : decode cX7_begin 9 = .ok (.iconst 0, 1) := by decide +kernel
theorem dX7_begin_10 : decode cX7_begin 10 = .ok (.aload_n 0, 1) := by decide +kernel
theorem dX7_begin_11 : decode cX7_begin 11 = .ok (.getfield 9, 3) := by decide +kernel
theorem dX7_begin_14 : decode cX7_begin 14 = .ok (.arraylength, 1) := by decide +kernel
theorem dX7_begin_15 : decode cX7_begin 15 = .ok (.aload_n 0, 1) := by decide +kernel
theorem dX7_begin_16 : decode cX7_begin 16 = .ok (.getfield 15, 3) := by decide +kernel
theorem dX7_begin_19 : decode cX7_begin 19 = .ok (.arraylength, 1) := by decide +kernel
theorem dX7_begin_20 : decode cX7_begin 20 = .ok (.invokestatic 73, 3) := by decide +kernel
theorem dX7_begin_23 : decode cX7_begin 23 = .ok (.invokestatic 78, 3) := by decide +kernel
theorem dX7_begin_26 : decode cX7_begin 26 = .ok (.return_, 1) := by decide +kernel
set_option maxRecDepth 20000 in
theorem ggX7_follow_X7_sumOfEnds : GoodIn wsX7_follow wsX7_sumOfEnds := goodIn_ca (goodIn_r _ [11, 2, 12, 13] (by decide +kernel) (by decide +kernel)) (goodIn_sub (fun _ h => List.mem_cons_of_mem _ (List.mem_append_right _ h)) (by decide +kernel))
set_option maxRecDepth 20000 in
theorem gX7_follow_X7_sumOfEnds : GoodIn wsX7_follow (wsV RX7 48 RX7 yX7_sumOfEnds wsX7_sumOfEnds) := goodIn_app (goodIn_of _ (by decide +kernel)) ggX7_follow_X7_sumOfEnds
theorem dX7_follow_0 : decode cX7_follow 0 = .ok (.aload_n 0, 1) := by decide +kernel
theorem dX7_follow_1 : decode cX7_follow 1 = .ok (.getfield 9, 3) := by decide +kernel
theorem dX7_follow_4 : decode cX7_follow 4 = .ok (.arraylength, 1) := by decide +kernel
theorem dX7_follow_5 : decode cX7_follow 5 = .ok (.aload_n 0, 1) := by decide +kernel
theorem dX7_follow_6 : decode cX7_follow 6 = .ok (.getfield 15, 3) := by decide +kernel
theorem dX7_follow_9 : decode cX7_follow 9 = .ok (.arraylength, 1) := by decide +kernel
theorem dX7_follow_10 : decode cX7_follow 10 = .ok (.invokestatic 73, 3) := by decide +kernel
theorem dX7_follow_13 : decode cX7_follow 13 = .ok (.iconst 1, 1) := by decide +kernel
theorem dX7_follow_14 : decode cX7_follow 14 = .ok (.isub, 1) := by decide +kernel
theorem dX7_follow_15 : decode cX7_follow 15 = .ok (.istore_n 2, 1) := by decide +kernel
theorem dX7_follow_16 : decode cX7_follow 16 = .ok (.iload_n 2, 1) := by decide +kernel
theorem dX7_follow_17 : decode cX7_follow 17 = .ok (.ifCond .lt 34, 3) := by decide +kernel
theorem dX7_follow_20 : decode cX7_follow 20 = .ok (.aload_n 0, 1) := by decide +kernel
theorem dX7_follow_21 : decode cX7_follow 21 = .ok (.getfield 15, 3) := by decide +kernel
theorem dX7_follow_24 : decode cX7_follow 24 = .ok (.iload_n 2, 1) := by decide +kernel
theorem dX7_follow_25 : decode cX7_follow 25 = .ok (.aload_n 0, 1) := by decide +kernel
theorem dX7_follow_26 : decode cX7_follow 26 = .ok (.getfield 9, 3) := by decide +kernel
theorem dX7_follow_29 : decode cX7_follow 29 = .ok (.iload_n 2, 1) := by decide +kernel
theorem dX7_follow_30 : decode cX7_follow 30 = .ok (.iaload, 1) := by decide +kernel
theorem dX7_follow_31 : decode cX7_follow 31 = .ok (.aload_n 0, 1) := by decide +kernel
theorem dX7_follow_32 : decode cX7_follow 32 = .ok (.iload_n 2, 1) := by decide +kernel
theorem dX7_follow_33 : decode cX7_follow 33 = .ok (.iconst 1, 1) := by decide +kernel
theorem dX7_follow_34 : decode cX7_follow 34 = .ok (.isub, 1) := by decide +kernel
theorem dX7_follow_35 : decode cX7_follow 35 = .ok (.iload_n 1, 1) := by decide +kernel
theorem dX7_follow_36 : decode cX7_follow 36 = .ok (.isub, 1) := by decide +kernel
theorem dX7_follow_37 : decode cX7_follow 37 = .ok (.iload_n 2, 1) := by decide +kernel
theorem dX7_follow_38 : decode cX7_follow 38 = .ok (.iconst 1, 1) := by decide +kernel
theorem dX7_follow_39 : decode cX7_follow 39 = .ok (.isub, 1) := by decide +kernel
theorem dX7_follow_40 : decode cX7_follow 40 = .ok (.invokevirtual 48, 3) := by decide +kernel
theorem dX7_follow_43 : decode cX7_follow 43 = .ok (.imul, 1) := by decide +kernel
theorem dX7_follow_44 : decode cX7_follow 44 = .ok (.iastore, 1) := by decide +kernel
theorem dX7_follow_45 : decode cX7_follow 45 = .ok (.iinc 2 (-1), 3) := by decide +kernel
theorem dX7_follow_48 : decode cX7_follow 48 = .ok (.goto (-32), 3) := by decide +kernel
theorem dX7_follow_51 : decode cX7_follow 51 = .ok (.return_, 1) := by decide +kernel
theorem dX7_sumOfEnds_0 : decode cX7_sumOfEnds 0 = .ok (.iconst 0, 1) := by decide +kernel
theorem dX7_sumOfEnds_1 : decode cX7_sumOfEnds 1 = .ok (.istore_n 3, 1) := by decide +kernel
theorem dX7_sumOfEnds_2 : decode cX7_sumOfEnds 2 = .ok (.iload_n 1, 1) := by decide +kernel
theorem dX7_sumOfEnds_3 : decode cX7_sumOfEnds 3 = .ok (.ifCond .ge 7, 3) := by decide +kernel
theorem dX7_sumOfEnds_6 : decode cX7_sumOfEnds 6 = .ok (.iconst 0, 1) := by decide +kernel
theorem dX7_sumOfEnds_7 : decode cX7_sumOfEnds 7 = .ok (.goto 4, 3) := by decide +kernel
theorem dX7_sumOfEnds_10 : decode cX7_sumOfEnds 10 = .ok (.iload_n 1, 1) := by decide +kernel
theorem dX7_sumOfEnds_11 : decode cX7_sumOfEnds 11 = .ok (.istore 4, 2) := by decide +kernel
theorem dX7_sumOfEnds_13 : decode cX7_sumOfEnds 13 = .ok (.iload 4, 2) := by decide +kernel
theorem dX7_sumOfEnds_15 : decode cX7_sumOfEnds 15 = .ok (.iload_n 2, 1) := by decide +kernel
theorem dX7_sumOfEnds_16 : decode cX7_sumOfEnds 16 = .ok (.if_icmp .gt 29, 3) := by decide +kernel
theorem dX7_sumOfEnds_19 : decode cX7_sumOfEnds 19 = .ok (.iload 4, 2) := by decide +kernel
theorem dX7_sumOfEnds_21 : decode cX7_sumOfEnds 21 = .ok (.aload_n 0, 1) := by decide +kernel
theorem dX7_sumOfEnds_22 : decode cX7_sumOfEnds 22 = .ok (.getfield 15, 3) := by decide +kernel
theorem dX7_sumOfEnds_25 : decode cX7_sumOfEnds 25 = .ok (.arraylength, 1) := by decide +kernel
theorem dX7_sumOfEnds_26 : decode cX7_sumOfEnds 26 = .ok (.if_icmp .ge 19, 3) := by decide +kernel
theorem dX7_sumOfEnds_29 : decode cX7_sumOfEnds 29 = .ok (.iload_n 3, 1) := by decide +kernel
theorem dX7_sumOfEnds_30 : decode cX7_sumOfEnds 30 = .ok (.aload_n 0, 1) := by decide +kernel
theorem dX7_sumOfEnds_31 : decode cX7_sumOfEnds 31 = .ok (.getfield 15, 3) := by decide +kernel
theorem dX7_sumOfEnds_34 : decode cX7_sumOfEnds 34 = .ok (.iload 4, 2) := by decide +kernel
theorem dX7_sumOfEnds_36 : decode cX7_sumOfEnds 36 = .ok (.iaload, 1) := by decide +kernel
theorem dX7_sumOfEnds_37 : decode cX7_sumOfEnds 37 = .ok (.iadd, 1) := by decide +kernel
theorem dX7_sumOfEnds_38 : decode cX7_sumOfEnds 38 = .ok (.istore_n 3, 1) := by decide +kernel
theorem dX7_sumOfEnds_39 : decode cX7_sumOfEnds 39 = .ok (.iinc 4 1, 3) := by decide +kernel
theorem dX7_sumOfEnds_42 : decode cX7_sumOfEnds 42 = .ok (.goto (-29), 3) := by decide +kernel
theorem dX7_sumOfEnds_45 : decode cX7_sumOfEnds 45 = .ok (.iload_n 3, 1) := by decide +kernel
theorem dX7_sumOfEnds_46 : decode cX7_sumOfEnds 46 = .ok (.ireturn, 1) := by decide +kernel
set_option maxRecDepth 20000 in
theorem ggX8_init_Jx4a65c_init_da8c8 : GoodIn wsX8_init wsJx4a65c_init_da8c8 := goodIn_r _ [33, 34, 35, 36, 37, 38, 39, 40, 41, 42, 43, 44, 45, 2, 3, 159, 160, 161] (by decide +kernel) (by decide +kernel)
set_option maxRecDepth 20000 in
theorem gX8_init_Jx4a65c_init_da8c8 : GoodIn wsX8_init (wsJx4a65c_init_da8c8) := ggX8_init_Jx4a65c_init_da8c8
set_option maxRecDepth 20000 in
theorem ggX8_init_X1_init : GoodIn wsX8_init wsX1_init := goodIn_r _ [48, 49, 2, 3, 50, 5, 6, 51, 52, 32, 33, 34, 35, 36, 37, 38, 39, 40, 41, 42, 43, 44, 45, 159, 160, 161, 171] (by decide +kernel) (by decide +kernel)
set_option maxRecDepth 20000 in
theorem gX8_init_X1_init : GoodIn wsX8_init (wsX1_init) := ggX8_init_X1_init
set_option maxRecDepth 20000 in
theorem ggX8_init_X7_init : GoodIn wsX8_init wsX7_init := goodIn_r _ [55, 56, 2, 3, 57, 58, 59, 172, 173] (by decide +kernel) (by decide +kernel)
set_option maxRecDepth 20000 in
theorem gX8_init_X7_init : GoodIn wsX8_init (wsX7_init) := ggX8_init_X7_init
set_option maxRecDepth 20000 in
theorem ggX8_init_X5_init : GoodIn wsX8_init wsX5_init := goodIn_r _ [62, 63, 2, 3, 64, 5, 6, 65, 66, 67, 68, 69, 70, 71, 32, 33, 34, 35, 36, 37, 38, 39, 40, 41, 42, 43, 44, 45, 72, 73, 74, 75, 76, 77, 78, 79, 80, 81, 82, 83, 84, 85, 86, 87, 88, 89, 90, 91, 92, 93, 94, 95, 96, 97, 98, 99, 100, 101, 102, 103, 104, 105, 106, 107, 108, 109, 110, 111, 112, 113, 114, 115, 116, 117, 118, 119, 120, 121, 122, 123, 124, 125, 126, 127, 128, 129, 130, 131, 132, 159, 160, 161, 174, 175, 176, 184, 185] (by decide +kernel) (by decide +kernel)
set_option maxRecDepth 20000 in
theorem gX8_init_X5_init : GoodIn wsX8_init (wsX5_init) := ggX8_init_X5_init
set_option maxRecDepth 20000 in
theorem ggX8_init_X3_init : GoodIn wsX8_init wsX3_init := goodIn_r _ [135, 136, 2, 3, 57, 137, 138, 177, 178, 179] (by decide +kernel) (by decide +kernel)
set_option maxRecDepth 20000 in
theorem gX8_init_X3_init : GoodIn wsX8_init (wsX3_init) := ggX8_init_X3_init
set_option maxRecDepth 20000 in
theorem ggX8_init_J4_init_da8c8 : GoodIn wsX8_init wsJ4_init_da8c8 := goodIn_r _ [141, 142, 143, 144, 145, 146, 2, 3, 147, 148, 149, 150, 151, 152, 153, 154, 155, 156, 157, 158, 180, 181, 182, 183] (by decide +kernel) (by decide +kernel)
set_option maxRecDepth 20000 in
theorem gX8_init_J4_init_da8c8 : GoodIn wsX8_init (wsJ4_init_da8c8) := ggX8_init_J4_init_da8c8
theorem dX8_init_0 : decode cX8_init 0 = .ok (.aload_n 0, 1) := by decide +kernel
theorem dX8_init_1 : decode cX8_init 1 = .ok (.invokespecial 1, 3) := by decide +kernel
theorem dX8_init_4 : decode cX8_init 4 = .ok (.aload_n 0, 1) := by decide +kernel
theorem dX8_init_5 : decode cX8_init 5 = .ok (.new 7, 3) := by decide +kernel
theorem dX8_init_8 : decode cX8_init 8 = .ok (.dup, 1) := by decide +kernel
theorem dX8_init_9 : decode cX8_init 9 = .ok (.invokespecial 9, 3) := by decide +kernel
theorem dX8_init_12 : decode cX8_init 12 = .ok (.putfield 10, 3) := by decide +kernel
theorem dX8_init_15 : decode cX8_init 15 = .ok (.aload_n 0, 1) := by decide +kernel
theorem dX8_init_16 : decode cX8_init 16 = .ok (.new 7, 3) := by decide +kernel
theorem dX8_init_19 : decode cX8_init 19 = .ok (.dup, 1) := by decide +kernel
theorem dX8_init_20 : decode cX8_init 20 = .ok (.invokespecial 9, 3) := by decide +kernel
theorem dX8_init_23 : decode cX8_init 23 = .ok (.putfield 16, 3) := by decide +kernel
theorem dX8_init_26 : decode cX8_init 26 = .ok (.aload_n 0, 1) := by decide +kernel
theorem dX8_init_27 : decode cX8_init 27 = .ok (.new 19, 3) := by decide +kernel
theorem dX8_init_30 : decode cX8_init 30 = .ok (.dup, 1) := by decide +kernel
theorem dX8_init_31 : decode cX8_init 31 = .ok (.invokespecial 21, 3) := by decide +kernel
theorem dX8_init_34 : decode cX8_init 34 = .ok (.putfield 22, 3) := by decide +kernel
theorem dX8_init_37 : decode cX8_init 37 = .ok (.aload_n 0, 1) := by decide +kernel
theorem dX8_init_38 : decode cX8_init 38 = .ok (.new 26, 3) := by decide +kernel
theorem dX8_init_41 : decode cX8_init 41 = .ok (.dup, 1) := by decide +kernel
theorem dX8_init_42 : decode cX8_init 42 = .ok (.invokespecial 28, 3) := by decide +kernel
theorem dX8_init_45 : decode cX8_init 45 = .ok (.putfield 29, 3) := by decide +kernel
theorem dX8_init_48 : decode cX8_init 48 = .ok (.aload_n 0, 1) := by decide +kernel
theorem dX8_init_49 : decode cX8_init 49 = .ok (.new 33, 3) := by decide +kernel
theorem dX8_init_52 : decode cX8_init 52 = .ok (.dup, 1) := by decide +kernel
theorem dX8_init_53 : decode cX8_init 53 = .ok (.invokespecial 35, 3) := by decide +kernel
theorem dX8_init_56 : decode cX8_init 56 = .ok (.putfield 36, 3) := by decide +kernel
theorem dX8_init_59 : decode cX8_init 59 = .ok (.aload_n 0, 1) := by decide +kernel
theorem dX8_init_60 : decode cX8_init 60 = .ok (.new 7, 3) := by decide +kernel
theorem dX8_init_63 : decode cX8_init 63 = .ok (.dup, 1) := by decide +kernel
theorem dX8_init_64 : decode cX8_init 64 = .ok (.invokespecial 9, 3) := by decide +kernel
theorem dX8_init_67 : decode cX8_init 67 = .ok (.putfield 40, 3) := by decide +kernel
theorem dX8_init_70 : decode cX8_init 70 = .ok (.aload_n 0, 1) := by decide +kernel
theorem dX8_init_71 : decode cX8_init 71 = .ok (.new 43, 3) := by decide +kernel
theorem dX8_init_74 : decode cX8_init 74 = .ok (.dup, 1) := by decide +kernel
theorem dX8_init_75 : decode cX8_init 75 = .ok (.invokespecial 45, 3) := by decide +kernel
theorem dX8_init_78 : decode cX8_init 78 = .ok (.putfield 46, 3) := by decide +kernel
theorem dX8_init_81 : decode cX8_init 81 = .ok (.aload_n 0, 1) := by decide +kernel
theorem dX8_init_82 : decode cX8_init 82 = .ok (.new 50, 3) := by decide +kernel
theorem dX8_init_85 : decode cX8_init 85 = .ok (.dup, 1) := by decide +kernel
theorem dX8_init_86 : decode cX8_init 86 = .ok (.invokespecial 52, 3) := by decide +kernel
theorem dX8_init_89 : decode cX8_init 89 = .ok (.putfield 53, 3) := by decide +kernel
theorem dX8_init_92 : decode cX8_init 92 = .ok (.aload_n 0, 1) := by decide +kernel
theorem dX8_init_93 : decode cX8_init 93 = .ok (.new 7, 3) := by decide +kernel
theorem dX8_init_96 : decode cX8_init 96 = .ok (.dup, 1) := by decide +kernel
theorem dX8_init_97 : decode cX8_init 97 = .ok (.invokespecial 9, 3) := by decide +kernel
theorem dX8_init_100 : decode cX8_init 100 = .ok (.putfield 57, 3) := by decide +kernel
theorem dX8_init_103 : decode cX8_init 103 = .ok (.return_, 1) := by decide +kernel
set_option maxRecDepth 20000 in
theorem ggX8_island_X8_requireRange : GoodIn wsX8_island wsX8_requireRange := goodIn_ca (goodIn_r _ [11, 12, 13] (by decide +kernel) (by decide +kernel)) (goodIn_sub (fun _ h => List.mem_cons_of_mem _ (List.mem_append_right _ h)) (by decide +kernel))
set_option maxRecDepth 20000 in
theorem gX8_island_X8_requireRange : GoodIn wsX8_island (va_wsS RX8 60 yX8_requireRange wsX8_requireRange) := goodIn_app (goodIn_of _ (by decide +kernel)) ggX8_island_X8_requireRange
set_option maxRecDepth 20000 in
theorem ggX8_island_Jx4a65c_size_8abf5 : GoodIn wsX8_island wsJx4a65c_size_8abf5 := goodIn_r _ [18, 19, 100, 101, 102] (by decide +kernel) (by decide +kernel)
set_option maxRecDepth 20000 in
theorem gX8_island_Jx4a65c_size_8abf5 : GoodIn wsX8_island (wsV RX8 64 RJx4a65c yJx4a65c_size_8abf5 wsJx4a65c_size_8abf5) := goodIn_app (goodIn_of _ (by decide +kernel)) ggX8_island_Jx4a65c_size_8abf5
set_option maxRecDepth 20000 in
theorem ggX8_island_X2_init : GoodIn wsX8_island wsX2_init := goodIn_r _ [22, 23, 24, 25, 26, 27, 28, 29, 30, 94, 95, 96, 97, 98, 99] (by decide +kernel) (by decide +kernel)
set_option maxRecDepth 20000 in
theorem gX8_island_X2_init : GoodIn wsX8_island (wsX2_init) := ggX8_island_X2_init
set_option maxRecDepth 20000 in
theorem ggX8_island_Jx4a65c_add_9ea2d : GoodIn wsX8_island wsJx4a65c_add_9ea2d := goodIn_r _ [34, 35, 36, 37, 19, 38, 39, 40, 17, 41, 42, 43, 44, 45, 46, 47, 48, 49, 50, 51, 52, 53, 54, 55, 56, 57, 58, 59, 60, 61, 62, 63, 64, 65, 66, 67, 68, 69, 70, 71, 72, 73, 74, 75, 76, 77, 78, 79, 80, 81, 82, 83, 84, 100, 101, 102] (by decide +kernel) (by decide +kernel)
set_option maxRecDepth 20000 in
theorem gX8_island_Jx4a65c_add_9ea2d : GoodIn wsX8_island (wsV RX8 80 RJx4a65c yJx4a65c_add_9ea2d wsJx4a65c_add_9ea2d) := goodIn_app (goodIn_of _ (by decide +kernel)) ggX8_island_Jx4a65c_add_9ea2d
theorem dX8_island_0 : decode cX8_island 0 = .ok (.iload_n 1, 1) := by decide +kernel
theorem dX8_island_1 : decode cX8_island 1 = .ok (.bipush 99, 2) := by decide +kernel
theorem dX8_island_3 : decode cX8_island 3 = .ok (.invokestatic 60, 3) := by decide +kernel
theorem dX8_island_6 : decode cX8_island 6 = .ok (.iload_n 2, 1) := by decide +kernel
theorem dX8_island_7 : decode cX8_island 7 = .ok (.bipush 99, 2) := by decide +kernel
theorem dX8_island_9 : decode cX8_island 9 = .ok (.invokestatic 60, 3) := by decide +kernel
theorem dX8_island_12 : decode cX8_island 12 = .ok (.iload_n 3, 1) := by decide +kernel
theorem dX8_island_13 : decode cX8_island 13 = .ok (.sipush 999, 3) := by decide +kernel
theorem dX8_island_16 : decode cX8_island 16 = .ok (.invokestatic 60, 3) := by decide +kernel
theorem dX8_island_19 : decode cX8_island 19 = .ok (.aload_n 0, 1) := by decide +kernel
theorem dX8_island_20 : decode cX8_island 20 = .ok (.getfield 10, 3) := by decide +kernel
theorem dX8_island_23 : decode cX8_island 23 = .ok (.invokevirtual 64, 3) := by decide +kernel
theorem dX8_island_26 : decode cX8_island 26 = .ok (.bipush 12, 2) := by decide +kernel
theorem dX8_island_28 : decode cX8_island 28 = .ok (.if_icmp .lt 13, 3) := by decide +kernel
theorem dX8_island_31 : decode cX8_island 31 = .ok (.new 68, 3) := by decide +kernel
theorem dX8_island_34 : decode cX8_island 34 = .ok (.dup, 1) := by decide +kernel
theorem dX8_island_35 : decode cX8_island 35 = .ok (.ldc 70, 2) := by decide +kernel
theorem dX8_island_37 : decode cX8_island 37 = .ok (.invokespecial 72, 3) := by decide +kernel
theorem dX8_island_40 : decode cX8_island 40 = .ok (.athrow, 1) := by decide +kernel
theorem dX8_island_41 : decode cX8_island 41 = .ok (.new 75, 3) := by decide +kernel
theorem dX8_island_44 : decode cX8_island 44 = .ok (.dup, 1) := by decide +kernel
theorem dX8_island_45 : decode cX8_island 45 = .ok (.aload_n 0, 1) := by decide +kernel
theorem dX8_island_46 : decode cX8_island 46 = .ok (.getfield 10, 3) := by decide +kernel
theorem dX8_island_49 : decode cX8_island 49 = .ok (.invokevirtual 64, 3) := by decide +kernel
theorem dX8_island_52 : decode cX8_island 52 = .ok (.iload_n 1, 1) := by decide +kernel
theorem dX8_island_53 : decode cX8_island 53 = .ok (.iload_n 2, 1) := by decide +kernel
theorem dX8_island_54 : decode cX8_island 54 = .ok (.iload_n 3, 1) := by decide +kernel
theorem dX8_island_55 : decode cX8_island 55 = .ok (.invokespecial 77, 3) := by decide +kernel
theorem dX8_island_58 : decode cX8_island 58 = .ok (.astore 4, 2) := by decide +kernel
theorem dX8_island_60 : decode cX8_island 60 = .ok (.aload_n 0, 1) := by decide +kernel
theorem dX8_island_61 : decode cX8_island 61 = .ok (.getfield 10, 3) := by decide +kernel
theorem dX8_island_64 : decode cX8_island 64 = .ok (.aload 4, 2) := by decide +kernel
theorem dX8_island_66 : decode cX8_island 66 = .ok (.invokevirtual 80, 3) := by decide +kernel
theorem dX8_island_69 : decode cX8_island 69 = .ok (.pop, 1) := by decide +kernel
theorem dX8_island_70 : decode cX8_island 70 = .ok (.aload 4, 2) := by decide +kernel
theorem dX8_island_72 : decode cX8_island 72 = .ok (.getfield 84, 3) := by decide +kernel
theorem dX8_island_75 : decode cX8_island 75 = .ok (.ireturn, 1) := by decide +kernel
set_option maxRecDepth 20000 in
theorem ggX8_find_X8_isleOf : GoodIn wsX8_find wsX8_isleOf := goodIn_ca (goodIn_r _ [9, 10, 11, 12, 13, 14, 15, 16, 17, 18, 19, 20, 21, 22, 23, 24, 25, 26, 27, 28, 29, 30, 31, 32, 33, 34, 35, 36, 201, 202, 203, 204, 205, 206, 207, 208, 209, 210, 211, 212] (by decide +kernel) (by decide +kernel)) (goodIn_sub (fun _ h => List.mem_cons_of_mem _ (List.mem_append_left _ (List.mem_append_left _ (List.mem_append_right _ h)))) (by decide +kernel))
set_option maxRecDepth 20000 in
theorem gX8_find_X8_isleOf : GoodIn wsX8_find (wsV RX8 88 RX8 yX8_isleOf wsX8_isleOf) := goodIn_app (goodIn_of _ (by decide +kernel)) ggX8_find_X8_isleOf
set_option maxRecDepth 20000 in
theorem ggX8_find_X8_requireRange : GoodIn wsX8_find wsX8_requireRange := goodIn_ca (goodIn_r _ [39, 40, 41] (by decide +kernel) (by decide +kernel)) (goodIn_sub (fun _ h => List.mem_cons_of_mem _ (List.mem_append_left _ (List.mem_append_right _ h))) (by decide +kernel))
set_option maxRecDepth 20000 in
theorem gX8_find_X8_requireRange : GoodIn wsX8_find (va_wsS RX8 60 yX8_requireRange wsX8_requireRange) := goodIn_app (goodIn_of _ (by decide +kernel)) ggX8_find_X8_requireRange
set_option maxRecDepth 20000 in
theorem ggX8_find_X8_requireRoomForFind : GoodIn wsX8_find wsX8_requireRoomForFind := goodIn_ca (goodIn_r _ [45, 46, 47, 4, 48, 14, 15, 16, 17, 18, 19, 49, 50, 51, 52, 53, 54, 55, 56, 57, 201, 202, 203, 204, 205, 206, 207, 208, 209, 210, 211, 212, 213, 214, 215, 216, 217] (by decide +kernel) (by decide +kernel)) (goodIn_sub (fun _ h => List.mem_cons_of_mem _ (List.mem_append_right _ h)) (by decide +kernel))
set_option maxRecDepth 20000 in
theorem gX8_find_X8_requireRoomForFind : GoodIn wsX8_find (wsV RX8 92 RX8 yX8_requireRoomForFind wsX8_requireRoomForFind) := goodIn_app (goodIn_of _ (by decide +kernel)) ggX8_find_X8_requireRoomForFind
set_option maxRecDepth 20000 in
theorem ggX8_find_Jx4a65c_size_8abf5 : GoodIn wsX8_find wsJx4a65c_size_8abf5 := goodIn_r _ [18, 19, 210, 211, 212] (by decide +kernel) (by decide +kernel)
set_option maxRecDepth 20000 in
theorem gX8_find_Jx4a65c_size_8abf5 : GoodIn wsX8_find (wsV RX8 64 RJx4a65c yJx4a65c_size_8abf5 wsJx4a65c_size_8abf5) := goodIn_app (goodIn_of _ (by decide +kernel)) ggX8_find_Jx4a65c_size_8abf5
set_option maxRecDepth 20000 in
theorem ggX8_find_X0_init : GoodIn wsX8_find wsX0_init := goodIn_r _ [60, 61, 62, 63, 64, 65, 66, 67, 68, 194, 195, 196, 197, 198, 199, 200] (by decide +kernel) (by decide +kernel)
set_option maxRecDepth 20000 in
theorem gX8_find_X0_init : GoodIn wsX8_find (wsX0_init) := ggX8_find_X0_init
set_option maxRecDepth 20000 in
theorem ggX8_find_X8_enter : GoodIn wsX8_find wsX8_enter := goodIn_r _ [72, 4, 73, 74, 75, 76, 17, 77, 78, 79, 36, 19, 80, 81, 82, 83, 84, 85, 86, 87, 88, 89, 90, 91, 92, 93, 94, 95, 96, 97, 98, 99, 100, 101, 102, 103, 104, 105, 106, 107, 108, 109, 110, 111, 112, 113, 114, 115, 116, 117, 118, 119, 120, 121, 122, 123, 124, 125, 126, 127, 128, 129, 8, 130, 48, 131, 132, 133, 134, 52, 135, 54, 55, 136, 137, 138, 139, 140, 141, 142, 143, 56, 144, 145, 146, 147, 62, 63, 148, 149, 150, 151, 152, 153, 154, 155, 156, 157, 158, 159, 160, 161, 162, 163, 164, 165, 166, 167, 168, 169, 170, 171, 57, 15, 16, 18, 172, 173, 174, 175, 176, 177, 178, 179, 180, 21, 22, 23, 24, 25, 26, 27, 28, 29, 30, 31, 32, 33, 34, 35, 181, 182, 183, 3, 184, 66, 67, 64, 185, 186, 187, 188, 189, 190, 191, 192, 193, 201, 202, 203, 204, 205, 206, 207, 208, 209, 194, 195, 196, 197, 198, 199, 200, 210, 211, 212, 213, 214, 215, 216, 217, 218] (by decide +kernel) (by decide +kernel)
set_option maxRecDepth 20000 in
theorem gX8_find_X8_enter : GoodIn wsX8_find (wsV RX8 100 RX8 yX8_enter wsX8_enter) := goodIn_app (goodIn_of _ (by decide +kernel)) ggX8_find_X8_enter
theorem dX8_find_0 : decode cX8_find 0 = .ok (.aload_n 0, 1) := by decide +kernel
theorem dX8_find_1 : decode cX8_find 1 = .ok (.iload_n 2, 1) := by decide +kernel
theorem dX8_find_2 : decode cX8_find 2 = .ok (.invokevirtual 88, 3) := by decide +kernel
theorem dX8_find_5 : decode cX8_find 5 = .ok (.pop, 1) := by decide +kernel
theorem dX8_find_6 : decode cX8_find 6 = .ok (.iload_n 1, 1) := by decide +kernel
theorem dX8_find_7 : decode cX8_find 7 = .ok (.bipush 30, 2) := by decide +kernel
theorem dX8_find_9 : decode cX8_find 9 = .ok (.invokestatic 60, 3) := by decide +kernel
theorem dX8_find_12 : decode cX8_find 12 = .ok (.iload_n 3, 1) := by decide +kernel
theorem dX8_find_13 : decode cX8_find 13 = .ok (.bipush 40, 2) := by decide +kernel
theorem dX8_find_15 : decode cX8_find 15 = .ok (.invokestatic 60, 3) := by decide +kernel
theorem dX8_find_18 : decode cX8_find 18 = .ok (.aload_n 0, 1) := by decide +kernel
theorem dX8_find_19 : decode cX8_find 19 = .ok (.invokevirtual 92, 3) := by decide +kernel
theorem dX8_find_22 : decode cX8_find 22 = .ok (.aload_n 0, 1) := by decide +kernel
theorem dX8_find_23 : decode cX8_find 23 = .ok (.new 95, 3) := by decide +kernel
theorem dX8_find_26 : decode cX8_find 26 = .ok (.dup, 1) := by decide +kernel
theorem dX8_find_27 : decode cX8_find 27 = .ok (.aload_n 0, 1) := by decide +kernel
theorem dX8_find_28 : decode cX8_find 28 = .ok (.getfield 16, 3) := by decide +kernel
theorem dX8_find_31 : decode cX8_find 31 = .ok (.invokevirtual 64, 3) := by decide +kernel
theorem dX8_find_34 : decode cX8_find 34 = .ok (.iload_n 1, 1) := by decide +kernel
theorem dX8_find_35 : decode cX8_find 35 = .ok (.iload_n 2, 1) := by decide +kernel
theorem dX8_find_36 : decode cX8_find 36 = .ok (.iload_n 3, 1) := by decide +kernel
theorem dX8_find_37 : decode cX8_find 37 = .ok (.aconst_null, 1) := by decide +kernel
theorem dX8_find_38 : decode cX8_find 38 = .ok (.invokespecial 97, 3) := by decide +kernel
theorem dX8_find_41 : decode cX8_find 41 = .ok (.invokevirtual 100, 3) := by decide +kernel
theorem dX8_find_44 : decode cX8_find 44 = .ok (.ireturn, 1) := by decide +kernel
set_option maxRecDepth 20000 in
theorem ggX8_ship_Jx4a65c_size_8abf5 : GoodIn wsX8_ship wsJx4a65c_size_8abf5 := goodIn_r _ [13, 14, 123, 124, 125] (by decide +kernel) (by decide +kernel)
set_option maxRecDepth 20000 in
theorem gX8_ship_Jx4a65c_size_8abf5 : GoodIn wsX8_ship (wsV RX8 64 RJx4a65c yJx4a65c_size_8abf5 wsJx4a65c_size_8abf5) := goodIn_app (goodIn_of _ (by decide +kernel)) ggX8_ship_Jx4a65c_size_8abf5
set_option maxRecDepth 20000 in
theorem ggX8_ship_Jx4a65c_isEmpty_aae02 : GoodIn wsX8_ship wsJx4a65c_isEmpty_aae02 := goodIn_r _ [18, 14, 123, 124, 125] (by decide +kernel) (by decide +kernel)
set_option maxRecDepth 20000 in
theorem gX8_ship_Jx4a65c_isEmpty_aae02 : GoodIn wsX8_ship (wsV RX8 106 RJx4a65c yJx4a65c_isEmpty_aae02 wsJx4a65c_isEmpty_aae02) := goodIn_app (goodIn_of _ (by decide +kernel)) ggX8_ship_Jx4a65c_isEmpty_aae02
set_option maxRecDepth 20000 in
theorem ggX8_ship_Jx4a65c_get_915e3 : GoodIn wsX8_ship wsJx4a65c_get_915e3 := goodIn_r _ [22, 14, 23, 24, 25, 26, 27, 28, 29, 30, 31, 32, 33, 12, 34, 35, 123, 124, 125] (by decide +kernel) (by decide +kernel)
set_option maxRecDepth 20000 in
theorem gX8_ship_Jx4a65c_get_915e3 : GoodIn wsX8_ship (wsV RX8 114 RJx4a65c yJx4a65c_get_915e3 wsJx4a65c_get_915e3) := goodIn_app (goodIn_of _ (by decide +kernel)) ggX8_ship_Jx4a65c_get_915e3
set_option maxRecDepth 20000 in
theorem ggX8_ship_X6_init : GoodIn wsX8_ship wsX6_init := goodIn_r _ [38, 39, 40, 41, 42, 43, 44, 45, 46, 47, 48, 49, 50, 51, 52, 53, 54, 55, 126, 127, 128, 118, 119, 120, 121, 122] (by decide +kernel) (by decide +kernel)
set_option maxRecDepth 20000 in
theorem gX8_ship_X6_init : GoodIn wsX8_ship (wsX6_init) := ggX8_ship_X6_init
set_option maxRecDepth 20000 in
theorem ggX8_ship_Jx4a65c_add_9ea2d : GoodIn wsX8_ship wsJx4a65c_add_9ea2d := goodIn_r _ [59, 60, 61, 35, 14, 62, 63, 64, 12, 65, 66, 67, 68, 69, 70, 71, 72, 73, 74, 75, 76, 77, 78, 79, 80, 81, 82, 83, 84, 85, 86, 87, 88, 89, 90, 91, 92, 93, 94, 95, 96, 97, 98, 99, 100, 101, 102, 103, 104, 105, 106, 107, 108, 123, 124, 125] (by decide +kernel) (by decide +kernel)
set_option maxRecDepth 20000 in
theorem gX8_ship_Jx4a65c_add_9ea2d : GoodIn wsX8_ship (wsV RX8 80 RJx4a65c yJx4a65c_add_9ea2d wsJx4a65c_add_9ea2d) := goodIn_app (goodIn_of _ (by decide +kernel)) ggX8_ship_Jx4a65c_add_9ea2d
theorem dX8_ship_0 : decode cX8_ship 0 = .ok (.aload_n 0, 1) := by decide +kernel
theorem dX8_ship_1 : decode cX8_ship 1 = .ok (.getfield 40, 3) := by decide +kernel
theorem dX8_ship_4 : decode cX8_ship 4 = .ok (.invokevirtual 64, 3) := by decide +kernel
theorem dX8_ship_7 : decode cX8_ship 7 = .ok (.iconst 5, 1) := by decide +kernel
theorem dX8_ship_8 : decode cX8_ship 8 = .ok (.if_icmp .lt 13, 3) := by decide +kernel
theorem dX8_ship_11 : decode cX8_ship 11 = .ok (.new 68, 3) := by decide +kernel
theorem dX8_ship_14 : decode cX8_ship 14 = .ok (.dup, 1) := by decide +kernel
theorem dX8_ship_15 : decode cX8_ship 15 = .ok (.ldc 104, 2) := by decide +kernel
theorem dX8_ship_17 : decode cX8_ship 17 = .ok (.invokespecial 72, 3) := by decide +kernel
theorem dX8_ship_20 : decode cX8_ship 20 = .ok (.athrow, 1) := by decide +kernel
theorem dX8_ship_21 : decode cX8_ship 21 = .ok (.aload_n 0, 1) := by decide +kernel
theorem dX8_ship_22 : decode cX8_ship 22 = .ok (.getfield 10, 3) := by decide +kernel
theorem dX8_ship_25 : decode cX8_ship 25 = .ok (.invokevirtual 106, 3) := by decide +kernel
theorem dX8_ship_28 : decode cX8_ship 28 = .ok (.ifCond .eq 13, 3) := by decide +kernel
theorem dX8_ship_31 : decode cX8_ship 31 = .ok (.new 68, 3) := by decide +kernel
theorem dX8_ship_34 : decode cX8_ship 34 = .ok (.dup, 1) := by decide +kernel
theorem dX8_ship_35 : decode cX8_ship 35 = .ok (.ldc 110, 2) := by decide +kernel
theorem dX8_ship_37 : decode cX8_ship 37 = .ok (.invokespecial 72, 3) := by decide +kernel
theorem dX8_ship_40 : decode cX8_ship 40 = .ok (.athrow, 1) := by decide +kernel
theorem dX8_ship_41 : decode cX8_ship 41 = .ok (.aload_n 0, 1) := by decide +kernel
theorem dX8_ship_42 : decode cX8_ship 42 = .ok (.getfield 40, 3) := by decide +kernel
theorem dX8_ship_45 : decode cX8_ship 45 = .ok (.new 112, 3) := by decide +kernel
theorem dX8_ship_48 : decode cX8_ship 48 = .ok (.dup, 1) := by decide +kernel
theorem dX8_ship_49 : decode cX8_ship 49 = .ok (.aload_n 0, 1) := by decide +kernel
theorem dX8_ship_50 : decode cX8_ship 50 = .ok (.getfield 10, 3) := by decide +kernel
theorem dX8_ship_53 : decode cX8_ship 53 = .ok (.iconst 0, 1) := by decide +kernel
theorem dX8_ship_54 : decode cX8_ship 54 = .ok (.invokevirtual 114, 3) := by decide +kernel
theorem dX8_ship_57 : decode cX8_ship 57 = .ok (.checkcast 75, 3) := by decide +kernel
theorem dX8_ship_60 : decode cX8_ship 60 = .ok (.invokespecial 118, 3) := by decide +kernel
theorem dX8_ship_63 : decode cX8_ship 63 = .ok (.invokevirtual 80, 3) := by decide +kernel
theorem dX8_ship_66 : decode cX8_ship 66 = .ok (.pop, 1) := by decide +kernel
theorem dX8_ship_67 : decode cX8_ship 67 = .ok (.aload_n 0, 1) := by decide +kernel
theorem dX8_ship_68 : decode cX8_ship 68 = .ok (.getfield 40, 3) := by decide +kernel
theorem dX8_ship_71 : decode cX8_ship 71 = .ok (.invokevirtual 64, 3) := by decide +kernel
theorem dX8_ship_74 : decode cX8_ship 74 = .ok (.iconst 1, 1) := by decide +kernel
theorem dX8_ship_75 : decode cX8_ship 75 = .ok (.isub, 1) := by decide +kernel
theorem dX8_ship_76 : decode cX8_ship 76 = .ok (.ireturn, 1) := by decide +kernel
set_option maxRecDepth 20000 in
theorem ggX8_plant_X8_shipOf : GoodIn wsX8_plant wsX8_shipOf := goodIn_ca (goodIn_r _ [12, 13, 14, 15, 16, 17, 18, 19, 20, 21, 22, 23, 24, 25, 26, 27, 28, 29, 30, 31, 32, 33, 34, 35, 36, 37, 38, 39, 222, 223, 224, 225, 226, 227, 228, 229, 230, 231, 232, 233] (by decide +kernel) (by decide +kernel)) (goodIn_sub (fun _ h => List.mem_cons_of_mem _ (List.mem_append_left _ (List.mem_append_left _ (List.mem_append_right _ h)))) (by decide +kernel))
set_option maxRecDepth 20000 in
theorem gX8_plant_X8_shipOf : GoodIn wsX8_plant (wsV RX8 121 RX8 yX8_shipOf wsX8_shipOf) := goodIn_app (goodIn_of _ (by decide +kernel)) ggX8_plant_X8_shipOf
set_option maxRecDepth 20000 in
theorem ggX8_plant_X8_isleOf : GoodIn wsX8_plant wsX8_isleOf := goodIn_ca (goodIn_r _ [43, 13, 14, 44, 45, 17, 18, 19, 20, 21, 22, 23, 24, 25, 26, 27, 28, 29, 30, 31, 32, 33, 34, 35, 36, 37, 38, 39, 222, 223, 224, 225, 226, 227, 228, 229, 230, 231, 232, 233] (by decide +kernel) (by decide +kernel)) (goodIn_sub (fun _ h => List.mem_cons_of_mem _ (List.mem_append_left _ (List.mem_append_left _ (List.mem_append_right _ h)))) (by decide +kernel))
set_option maxRecDepth 20000 in
theorem gX8_plant_X8_isleOf : GoodIn wsX8_plant (wsV RX8 88 RX8 yX8_isleOf wsX8_isleOf) := goodIn_app (goodIn_of _ (by decide +kernel)) ggX8_plant_X8_isleOf
set_option maxRecDepth 20000 in
theorem ggX8_plant_X8_requireRange : GoodIn wsX8_plant wsX8_requireRange := goodIn_ca (goodIn_r _ [48, 49, 50] (by decide +kernel) (by decide +kernel)) (goodIn_sub (fun _ h => List.mem_cons_of_mem _ (List.mem_append_left _ (List.mem_append_right _ h))) (by decide +kernel))
set_option maxRecDepth 20000 in
theorem gX8_plant_X8_requireRange : GoodIn wsX8_plant (va_wsS RX8 60 yX8_requireRange wsX8_requireRange) := goodIn_app (goodIn_of _ (by decide +kernel)) ggX8_plant_X8_requireRange
set_option maxRecDepth 20000 in
theorem ggX8_plant_X8_requireRoomForFind : GoodIn wsX8_plant wsX8_requireRoomForFind := goodIn_ca (goodIn_r _ [54, 55, 56, 7, 57, 17, 18, 19, 20, 21, 22, 58, 59, 60, 61, 62, 63, 64, 65, 66, 222, 223, 224, 225, 226, 227, 228, 229, 230, 231, 232, 233, 234, 235, 236, 237, 238] (by decide +kernel) (by decide +kernel)) (goodIn_sub (fun _ h => List.mem_cons_of_mem _ (List.mem_append_right _ h)) (by decide +kernel))
set_option maxRecDepth 20000 in
theorem gX8_plant_X8_requireRoomForFind : GoodIn wsX8_plant (wsV RX8 92 RX8 yX8_requireRoomForFind wsX8_requireRoomForFind) := goodIn_app (goodIn_of _ (by decide +kernel)) ggX8_plant_X8_requireRoomForFind
set_option maxRecDepth 20000 in
theorem ggX8_plant_X6_pay : GoodIn wsX8_plant wsX6_pay := goodIn_r _ [71, 72, 73, 74, 75, 76, 210, 211, 212, 213, 214] (by decide +kernel) (by decide +kernel)
set_option maxRecDepth 20000 in
theorem gX8_plant_X6_pay : GoodIn wsX8_plant (wsV RX8 133 RX6 yX6_pay wsX6_pay) := goodIn_app (goodIn_of _ (by decide +kernel)) ggX8_plant_X6_pay
set_option maxRecDepth 20000 in
theorem ggX8_plant_Jx4a65c_size_8abf5 : GoodIn wsX8_plant wsJx4a65c_size_8abf5 := goodIn_r _ [21, 22, 231, 232, 233] (by decide +kernel) (by decide +kernel)
set_option maxRecDepth 20000 in
theorem gX8_plant_Jx4a65c_size_8abf5 : GoodIn wsX8_plant (wsV RX8 64 RJx4a65c yJx4a65c_size_8abf5 wsJx4a65c_size_8abf5) := goodIn_app (goodIn_of _ (by decide +kernel)) ggX8_plant_Jx4a65c_size_8abf5
set_option maxRecDepth 20000 in
theorem ggX8_plant_X0_init : GoodIn wsX8_plant wsX0_init := goodIn_r _ [79, 80, 81, 82, 83, 84, 85, 86, 87, 215, 216, 217, 218, 219, 220, 221] (by decide +kernel) (by decide +kernel)
set_option maxRecDepth 20000 in
theorem gX8_plant_X0_init : GoodIn wsX8_plant (wsX0_init) := ggX8_plant_X0_init
set_option maxRecDepth 20000 in
theorem ggX8_plant_X8_enter : GoodIn wsX8_plant wsX8_enter := goodIn_r _ [91, 7, 92, 93, 94, 95, 20, 96, 97, 98, 39, 22, 99, 100, 101, 102, 103, 104, 105, 106, 107, 108, 109, 110, 111, 112, 113, 75, 114, 115, 116, 117, 118, 119, 120, 121, 122, 123, 124, 125, 126, 127, 128, 129, 130, 131, 132, 133, 134, 135, 136, 137, 138, 74, 76, 139, 140, 141, 142, 143, 144, 145, 11, 146, 57, 147, 148, 149, 150, 61, 151, 63, 64, 152, 153, 154, 155, 156, 157, 158, 159, 65, 160, 161, 162, 163, 81, 82, 164, 165, 166, 167, 168, 169, 170, 171, 172, 173, 174, 175, 176, 177, 178, 179, 180, 181, 182, 183, 184, 185, 186, 187, 66, 18, 19, 21, 188, 189, 190, 191, 192, 193, 194, 195, 196, 24, 25, 26, 27, 28, 29, 30, 31, 32, 33, 34, 35, 36, 37, 38, 197, 198, 199, 6, 200, 85, 86, 83, 201, 202, 203, 204, 205, 206, 207, 208, 209, 222, 223, 224, 225, 226, 227, 228, 229, 230, 215, 216, 217, 218, 219, 220, 221, 231, 232, 233, 234, 235, 236, 237, 238, 239] (by decide +kernel) (by decide +kernel)
set_option maxRecDepth 20000 in
theorem gX8_plant_X8_enter : GoodIn wsX8_plant (wsV RX8 100 RX8 yX8_enter wsX8_enter) := goodIn_app (goodIn_of _ (by decide +kernel)) ggX8_plant_X8_enter
theorem dX8_plant_0 : decode cX8_plant 0 = .ok (.aload_n 0, 1) := by decide +kernel
theorem dX8_plant_1 : decode cX8_plant 1 = .ok (.iload_n 1, 1) := by decide +kernel
theorem dX8_plant_2 : decode cX8_plant 2 = .ok (.invokevirtual 121, 3) := by decide +kernel
theorem dX8_plant_5 : decode cX8_plant 5 = .ok (.astore 5, 2) := by decide +kernel
theorem dX8_plant_7 : decode cX8_plant 7 = .ok (.aload_n 0, 1) := by decide +kernel
theorem dX8_plant_8 : decode cX8_plant 8 = .ok (.iload_n 3, 1) := by decide +kernel
theorem dX8_plant_9 : decode cX8_plant 9 = .ok (.invokevirtual 88, 3) := by decide +kernel
theorem dX8_plant_12 : decode cX8_plant 12 = .ok (.pop, 1) := by decide +kernel
theorem dX8_plant_13 : decode cX8_plant 13 = .ok (.iload_n 2, 1) := by decide +kernel
theorem dX8_plant_14 : decode cX8_plant 14 = .ok (.bipush 30, 2) := by decide +kernel
theorem dX8_plant_16 : decode cX8_plant 16 = .ok (.invokestatic 60, 3) := by decide +kernel
theorem dX8_plant_19 : decode cX8_plant 19 = .ok (.iload 4, 2) := by decide +kernel
theorem dX8_plant_21 : decode cX8_plant 21 = .ok (.bipush 40, 2) := by decide +kernel
theorem dX8_plant_23 : decode cX8_plant 23 = .ok (.invokestatic 60, 3) := by decide +kernel
theorem dX8_plant_26 : decode cX8_plant 26 = .ok (.aload 5, 2) := by decide +kernel
theorem dX8_plant_28 : decode cX8_plant 28 = .ok (.getfield 125, 3) := by decide +kernel
theorem dX8_plant_31 : decode cX8_plant 31 = .ok (.iconst 5, 1) := by decide +kernel
theorem dX8_plant_32 : decode cX8_plant 32 = .ok (.if_icmp .ge 13, 3) := by decide +kernel
theorem dX8_plant_35 : decode cX8_plant 35 = .ok (.new 128, 3) := by decide +kernel
theorem dX8_plant_38 : decode cX8_plant 38 = .ok (.dup, 1) := by decide +kernel
theorem dX8_plant_39 : decode cX8_plant 39 = .ok (.ldc 130, 2) := by decide +kernel
theorem dX8_plant_41 : decode cX8_plant 41 = .ok (.invokespecial 132, 3) := by decide +kernel
theorem dX8_plant_44 : decode cX8_plant 44 = .ok (.athrow, 1) := by decide +kernel
theorem dX8_plant_45 : decode cX8_plant 45 = .ok (.aload_n 0, 1) := by decide +kernel
theorem dX8_plant_46 : decode cX8_plant 46 = .ok (.invokevirtual 92, 3) := by decide +kernel
theorem dX8_plant_49 : decode cX8_plant 49 = .ok (.aload 5, 2) := by decide +kernel
theorem dX8_plant_51 : decode cX8_plant 51 = .ok (.iconst 5, 1) := by decide +kernel
theorem dX8_plant_52 : decode cX8_plant 52 = .ok (.invokevirtual 133, 3) := by decide +kernel
theorem dX8_plant_55 : decode cX8_plant 55 = .ok (.aload_n 0, 1) := by decide +kernel
theorem dX8_plant_56 : decode cX8_plant 56 = .ok (.new 95, 3) := by decide +kernel
theorem dX8_plant_59 : decode cX8_plant 59 = .ok (.dup, 1) := by decide +kernel
theorem dX8_plant_60 : decode cX8_plant 60 = .ok (.aload_n 0, 1) := by decide +kernel
theorem dX8_plant_61 : decode cX8_plant 61 = .ok (.getfield 16, 3) := by decide +kernel
theorem dX8_plant_64 : decode cX8_plant 64 = .ok (.invokevirtual 64, 3) := by decide +kernel
theorem dX8_plant_67 : decode cX8_plant 67 = .ok (.iload_n 2, 1) := by decide +kernel
theorem dX8_plant_68 : decode cX8_plant 68 = .ok (.iload_n 3, 1) := by decide +kernel
theorem dX8_plant_69 : decode cX8_plant 69 = .ok (.iload 4, 2) := by decide +kernel
theorem dX8_plant_71 : decode cX8_plant 71 = .ok (.aload 5, 2) := by decide +kernel
theorem dX8_plant_73 : decode cX8_plant 73 = .ok (.invokespecial 97, 3) := by decide +kernel
theorem dX8_plant_76 : decode cX8_plant 76 = .ok (.invokevirtual 100, 3) := by decide +kernel
theorem dX8_plant_79 : decode cX8_plant 79 = .ok (.ireturn, 1) := by decide +kernel
set_option maxRecDepth 20000 in
theorem ggX8_segments_Jx4a65c_size_8abf5 : GoodIn wsX8_segments wsJx4a65c_size_8abf5 := goodIn_r _ [7, 8, 21, 22, 23] (by decide +kernel) (by decide +kernel)
set_option maxRecDepth 20000 in
theorem gX8_segments_Jx4a65c_size_8abf5 : GoodIn wsX8_segments (wsV RX8 64 RJx4a65c yJx4a65c_size_8abf5 wsJx4a65c_size_8abf5) := goodIn_app (goodIn_of _ (by decide +kernel)) ggX8_segments_Jx4a65c_size_8abf5
theorem dX8_segments_0 : decode cX8_segments 0 = .ok (.aload_n 0, 1) := by decide +kernel
theorem dX8_segments_1 : decode cX8_segments 1 = .ok (.getfield 36, 3) := by decide +kernel
theorem dX8_segments_4 : decode cX8_segments 4 = .ok (.getfield 137, 3) := by decide +kernel
theorem dX8_segments_7 : decode cX8_segments 7 = .ok (.invokevirtual 64, 3) := by decide +kernel
theorem dX8_segments_10 : decode cX8_segments 10 = .ok (.ireturn, 1) := by decide +kernel
set_option maxRecDepth 20000 in
theorem ggX8_segment_Jx4a65c_size_8abf5 : GoodIn wsX8_segment wsJx4a65c_size_8abf5 := goodIn_r _ [11, 12, 44, 45, 46] (by decide +kernel) (by decide +kernel)
set_option maxRecDepth 20000 in
theorem gX8_segment_Jx4a65c_size_8abf5 : GoodIn wsX8_segment (wsV RX8 64 RJx4a65c yJx4a65c_size_8abf5 wsJx4a65c_size_8abf5) := goodIn_app (goodIn_of _ (by decide +kernel)) ggX8_segment_Jx4a65c_size_8abf5
set_option maxRecDepth 20000 in
theorem ggX8_segment_Jx4a65c_get_915e3 : GoodIn wsX8_segment wsJx4a65c_get_915e3 := goodIn_r _ [16, 12, 17, 18, 19, 20, 21, 22, 23, 24, 25, 26, 27, 10, 28, 29, 44, 45, 46] (by decide +kernel) (by decide +kernel)
set_option maxRecDepth 20000 in
theorem gX8_segment_Jx4a65c_get_915e3 : GoodIn wsX8_segment (wsV RX8 114 RJx4a65c yJx4a65c_get_915e3 wsJx4a65c_get_915e3) := goodIn_app (goodIn_of _ (by decide +kernel)) ggX8_segment_Jx4a65c_get_915e3
theorem dX8_segment_0 : decode cX8_segment 0 = .ok (.iload_n 1, 1) := by decide +kernel
theorem dX8_segment_1 : decode cX8_segment 1 = .ok (.ifCond .lt 17, 3) := by decide +kernel
theorem dX8_segment_4 : decode cX8_segment 4 = .ok (.iload_n 1, 1) := by decide +kernel
theorem dX8_segment_5 : decode cX8_segment 5 = .ok (.aload_n 0, 1) := by decide +kernel
theorem dX8_segment_6 : decode cX8_segment 6 = .ok (.getfield 36, 3) := by decide +kernel
theorem dX8_segment_9 : decode cX8_segment 9 = .ok (.getfield 137, 3) := by decide +kernel
theorem dX8_segment_12 : decode cX8_segment 12 = .ok (.invokevirtual 64, 3) := by decide +kernel
theorem dX8_segment_15 : decode cX8_segment 15 = .ok (.if_icmp .lt 13, 3) := by decide +kernel
theorem dX8_segment_18 : decode cX8_segment 18 = .ok (.new 140, 3) := by decide +kernel
theorem dX8_segment_21 : decode cX8_segment 21 = .ok (.dup, 1) := by decide +kernel
theorem dX8_segment_22 : decode cX8_segment 22 = .ok (.ldc 142, 2) := by decide +kernel
theorem dX8_segment_24 : decode cX8_segment 24 = .ok (.invokespecial 144, 3) := by decide +kernel
theorem dX8_segment_27 : decode cX8_segment 27 = .ok (.athrow, 1) := by decide +kernel
theorem dX8_segment_28 : decode cX8_segment 28 = .ok (.aload_n 0, 1) := by decide +kernel
theorem dX8_segment_29 : decode cX8_segment 29 = .ok (.getfield 36, 3) := by decide +kernel
theorem dX8_segment_32 : decode cX8_segment 32 = .ok (.getfield 137, 3) := by decide +kernel
theorem dX8_segment_35 : decode cX8_segment 35 = .ok (.iload_n 1, 1) := by decide +kernel
theorem dX8_segment_36 : decode cX8_segment 36 = .ok (.invokevirtual 114, 3) := by decide +kernel
theorem dX8_segment_39 : decode cX8_segment 39 = .ok (.checkcast 145, 3) := by decide +kernel
theorem dX8_segment_42 : decode cX8_segment 42 = .ok (.getfield 147, 3) := by decide +kernel
theorem dX8_segment_45 : decode cX8_segment 45 = .ok (.ireturn, 1) := by decide +kernel
set_option maxRecDepth 20000 in
theorem ggX8_size_X8_segmentNumbered : GoodIn wsX8_size wsX8_segmentNumbered := goodIn_ca (goodIn_r _ [6, 7, 8, 9, 10, 11, 12, 13, 14, 15, 16, 17, 18, 19, 20, 21, 22, 23, 24, 25, 26, 27, 28, 29, 30, 31, 32, 33, 34, 35, 36, 37, 38, 39, 40, 44, 45, 46, 47, 48, 49, 50, 51, 52, 53, 54, 55, 42, 43, 56, 57, 58] (by decide +kernel) (by decide +kernel)) (goodIn_sub (fun _ h => List.mem_cons_of_mem _ (List.mem_append_right _ h)) (by decide +kernel))
set_option maxRecDepth 20000 in
theorem gX8_size_X8_segmentNumbered : GoodIn wsX8_size (wsV RX8 148 RX8 yX8_segmentNumbered wsX8_segmentNumbered) := goodIn_app (goodIn_of _ (by decide +kernel)) ggX8_size_X8_segmentNumbered
set_option maxRecDepth 20000 in
theorem ggX8_size_Jx4a65c_size_8abf5 : GoodIn wsX8_size wsJx4a65c_size_8abf5 := goodIn_r _ [22, 23, 56, 57, 58] (by decide +kernel) (by decide +kernel)
set_option maxRecDepth 20000 in
theorem gX8_size_Jx4a65c_size_8abf5 : GoodIn wsX8_size (wsV RX8 64 RJx4a65c yJx4a65c_size_8abf5 wsJx4a65c_size_8abf5) := goodIn_app (goodIn_of _ (by decide +kernel)) ggX8_size_Jx4a65c_size_8abf5
theorem dX8_size_0 : decode cX8_size 0 = .ok (.aload_n 0, 1) := by decide +kernel
theorem dX8_size_1 : decode cX8_size 1 = .ok (.iload_n 1, 1) := by decide +kernel
theorem dX8_size_2 : decode cX8_size 2 = .ok (.invokevirtual 148, 3) := by decide +kernel
theorem dX8_size_5 : decode cX8_size 5 = .ok (.getfield 152, 3) := by decide +kernel
theorem dX8_size_8 : decode cX8_size 8 = .ok (.invokevirtual 64, 3) := by decide +kernel
theorem dX8_size_11 : decode cX8_size 11 = .ok (.ireturn, 1) := by decide +kernel
set_option maxRecDepth 20000 in
theorem ggX8_merge_X5_numbered : GoodIn wsX8_merge wsX5_numbered := goodIn_r _ [10, 11, 12, 13, 14, 15, 16, 17, 18, 19, 20, 21, 22, 23, 24, 25, 26, 27, 28, 29, 30, 31, 32, 33, 34, 35, 36, 305, 306, 307, 303, 304, 308, 309, 310] (by decide +kernel) (by decide +kernel)
set_option maxRecDepth 20000 in
theorem gX8_merge_X5_numbered : GoodIn wsX8_merge (wsV RX8 160 RX5 yX5_numbered wsX5_numbered) := goodIn_app (goodIn_of _ (by decide +kernel)) ggX8_merge_X5_numbered
set_option maxRecDepth 20000 in
theorem ggX8_merge_X8_leaveMergeCauses : GoodIn wsX8_merge wsX8_leaveMergeCauses := goodIn_r _ [41, 3, 42, 43, 44, 45, 9, 46, 47, 48, 49, 50, 51, 52, 53, 54, 55, 56, 57, 58, 59, 60, 61, 62, 63, 64, 65, 66, 67, 68, 69, 70, 71, 72, 73, 74, 75, 76, 77, 78, 79, 80, 81, 82, 83, 84, 85, 86, 87, 88, 89, 90, 91, 92, 93, 94, 95, 96, 97, 98, 99, 100, 101, 102, 103, 104, 105, 106, 107, 108, 109, 110, 111, 112, 113, 114, 115, 116, 117, 118, 119, 120, 121, 122, 123, 124, 125, 126, 127, 128, 129, 130, 131, 132, 133, 134, 135, 136, 137, 138, 139, 140, 141, 142, 143, 144, 145, 146, 147, 148, 149, 150, 151, 152, 153, 154, 155, 156, 157, 158, 159, 160, 161, 162, 163, 164, 165, 166, 167, 168, 169, 170, 171, 172, 173, 174, 30, 175, 176, 177, 178, 179, 180, 181, 182, 183, 184, 185, 186, 187, 188, 189, 190, 191, 29, 31, 294, 295, 296, 297, 298, 299, 300, 301, 302, 305, 306, 307, 311, 312, 313, 314, 315, 316, 317, 318, 319, 320, 321, 322, 323, 324, 325, 326] (by decide +kernel) (by decide +kernel)
set_option maxRecDepth 20000 in
theorem gX8_merge_X8_leaveMergeCauses : GoodIn wsX8_merge (wsV RX8 163 RX8 yX8_leaveMergeCauses wsX8_leaveMergeCauses) := goodIn_app (goodIn_of _ (by decide +kernel)) ggX8_merge_X8_leaveMergeCauses
set_option maxRecDepth 20000 in
theorem ggX8_merge_X8_segmentNumbered : GoodIn wsX8_merge wsX8_segmentNumbered := goodIn_ca (goodIn_r _ [195, 196, 197, 3, 6, 7, 8, 9, 10, 11, 12, 13, 14, 15, 16, 17, 18, 19, 20, 21, 22, 23, 24, 25, 26, 27, 28, 29, 30, 31, 32, 33, 34, 35, 36, 294, 295, 296, 297, 298, 299, 300, 301, 302, 305, 306, 307, 303, 304, 308, 309, 310] (by decide +kernel) (by decide +kernel)) (goodIn_sub (fun _ h => List.mem_cons_of_mem _ (List.mem_append_left _ (List.mem_append_right _ h))) (by decide +kernel))
set_option maxRecDepth 20000 in
theorem gX8_merge_X8_segmentNumbered : GoodIn wsX8_merge (wsV RX8 148 RX8 yX8_segmentNumbered wsX8_segmentNumbered) := goodIn_app (goodIn_of _ (by decide +kernel)) ggX8_merge_X8_segmentNumbered
set_option maxRecDepth 20000 in
theorem ggX8_merge_X8_requireClosed : GoodIn wsX8_merge wsX8_requireClosed := goodIn_ca (goodIn_r _ [201, 202, 203, 3, 43, 44, 45, 9, 46, 47, 294, 295, 296, 297, 298, 299, 300, 301, 302, 305, 306, 307] (by decide +kernel) (by decide +kernel)) (goodIn_sub (fun _ h => List.mem_cons_of_mem _ (List.mem_append_right _ h)) (by decide +kernel))
set_option maxRecDepth 20000 in
theorem gX8_merge_X8_requireClosed : GoodIn wsX8_merge (wsV RX8 167 RX8 yX8_requireClosed wsX8_requireClosed) := goodIn_app (goodIn_of _ (by decide +kernel)) ggX8_merge_X8_requireClosed
set_option maxRecDepth 20000 in
theorem ggX8_merge_X5_unite : GoodIn wsX8_merge wsX5_unite := goodIn_r _ [207, 208, 209, 210, 211, 212, 9, 213, 11, 14, 15, 16, 17, 18, 19, 20, 21, 22, 23, 24, 25, 26, 27, 28, 29, 30, 31, 32, 33, 34, 35, 36, 214, 215, 216, 217, 218, 219, 220, 221, 222, 223, 224, 104, 105, 106, 225, 226, 227, 228, 229, 230, 231, 232, 233, 234, 235, 236, 237, 238, 239, 240, 241, 242, 243, 244, 245, 246, 247, 248, 249, 250, 251, 252, 253, 254, 255, 256, 257, 258, 259, 260, 261, 262, 263, 264, 265, 266, 267, 268, 269, 270, 271, 272, 273, 82, 83, 84, 274, 275, 78, 79, 80, 81, 85, 86, 87, 88, 276, 277, 91, 278, 279, 280, 281, 282, 283, 284, 285, 286, 287, 100, 101, 102, 103, 288, 289, 290, 291, 292, 293, 327, 328, 329, 330, 331, 332, 333, 305, 306, 307, 308, 309, 310, 303, 304] (by decide +kernel) (by decide +kernel)
set_option maxRecDepth 20000 in
theorem gX8_merge_X5_unite : GoodIn wsX8_merge (wsV RX8 171 RX5 yX5_unite wsX5_unite) := goodIn_app (goodIn_of _ (by decide +kernel)) ggX8_merge_X5_unite
theorem dX8_merge_0 : decode cX8_merge 0 = .ok (.iload_n 1, 1) := by decide +kernel
theorem dX8_merge_1 : decode cX8_merge 1 = .ok (.iload_n 2, 1) := by decide +kernel
theorem dX8_merge_2 : decode cX8_merge 2 = .ok (.if_icmp .ne 13, 3) := by decide +kernel
theorem dX8_merge_5 : decode cX8_merge 5 = .ok (.new 155, 3) := by decide +kernel
theorem dX8_merge_8 : decode cX8_merge 8 = .ok (.dup, 1) := by decide +kernel
theorem dX8_merge_9 : decode cX8_merge 9 = .ok (.ldc 157, 2) := by decide +kernel
theorem dX8_merge_11 : decode cX8_merge 11 = .ok (.invokespecial 159, 3) := by decide +kernel
theorem dX8_merge_14 : decode cX8_merge 14 = .ok (.athrow, 1) := by decide +kernel
theorem dX8_merge_15 : decode cX8_merge 15 = .ok (.aload_n 0, 1) := by decide +kernel
theorem dX8_merge_16 : decode cX8_merge 16 = .ok (.aload_n 0, 1) := by decide +kernel
theorem dX8_merge_17 : decode cX8_merge 17 = .ok (.getfield 36, 3) := by decide +kernel
theorem dX8_merge_20 : decode cX8_merge 20 = .ok (.iload_n 1, 1) := by decide +kernel
theorem dX8_merge_21 : decode cX8_merge 21 = .ok (.invokevirtual 160, 3) := by decide +kernel
theorem dX8_merge_24 : decode cX8_merge 24 = .ok (.aload_n 0, 1) := by decide +kernel
theorem dX8_merge_25 : decode cX8_merge 25 = .ok (.getfield 36, 3) := by decide +kernel
theorem dX8_merge_28 : decode cX8_merge 28 = .ok (.iload_n 2, 1) := by decide +kernel
theorem dX8_merge_29 : decode cX8_merge 29 = .ok (.invokevirtual 160, 3) := by decide +kernel
theorem dX8_merge_32 : decode cX8_merge 32 = .ok (.invokevirtual 163, 3) := by decide +kernel
theorem dX8_merge_35 : decode cX8_merge 35 = .ok (.aload_n 0, 1) := by decide +kernel
theorem dX8_merge_36 : decode cX8_merge 36 = .ok (.iload_n 1, 1) := by decide +kernel
theorem dX8_merge_37 : decode cX8_merge 37 = .ok (.invokevirtual 148, 3) := by decide +kernel
theorem dX8_merge_40 : decode cX8_merge 40 = .ok (.astore_n 3, 1) := by decide +kernel
theorem dX8_merge_41 : decode cX8_merge 41 = .ok (.aload_n 0, 1) := by decide +kernel
theorem dX8_merge_42 : decode cX8_merge 42 = .ok (.iload_n 2, 1) := by decide +kernel
theorem dX8_merge_43 : decode cX8_merge 43 = .ok (.invokevirtual 148, 3) := by decide +kernel
theorem dX8_merge_46 : decode cX8_merge 46 = .ok (.astore 4, 2) := by decide +kernel
theorem dX8_merge_48 : decode cX8_merge 48 = .ok (.aload_n 0, 1) := by decide +kernel
theorem dX8_merge_49 : decode cX8_merge 49 = .ok (.aload_n 3, 1) := by decide +kernel
theorem dX8_merge_50 : decode cX8_merge 50 = .ok (.invokevirtual 167, 3) := by decide +kernel
theorem dX8_merge_53 : decode cX8_merge 53 = .ok (.aload_n 0, 1) := by decide +kernel
theorem dX8_merge_54 : decode cX8_merge 54 = .ok (.aload 4, 2) := by decide +kernel
theorem dX8_merge_56 : decode cX8_merge 56 = .ok (.invokevirtual 167, 3) := by decide +kernel
theorem dX8_merge_59 : decode cX8_merge 59 = .ok (.aload_n 0, 1) := by decide +kernel
theorem dX8_merge_60 : decode cX8_merge 60 = .ok (.getfield 36, 3) := by decide +kernel
theorem dX8_merge_63 : decode cX8_merge 63 = .ok (.aload_n 3, 1) := by decide +kernel
theorem dX8_merge_64 : decode cX8_merge 64 = .ok (.aload 4, 2) := by decide +kernel
theorem dX8_merge_66 : decode cX8_merge 66 = .ok (.aload_n 0, 1) := by decide +kernel
theorem dX8_merge_67 : decode cX8_merge 67 = .ok (.getfield 16, 3) := by decide +kernel
theorem dX8_merge_70 : decode cX8_merge 70 = .ok (.invokevirtual 171, 3) := by decide +kernel
theorem dX8_merge_73 : decode cX8_merge 73 = .ok (.getfield 147, 3) := by decide +kernel
theorem dX8_merge_76 : decode cX8_merge 76 = .ok (.ireturn, 1) := by decide +kernel
set_option maxRecDepth 20000 in
theorem ggX8_storm_X8_segmentNumbered : GoodIn wsX8_storm wsX8_segmentNumbered := goodIn_ca (goodIn_r _ [6, 7, 8, 1, 9, 10, 11, 12, 13, 14, 15, 16, 17, 18, 19, 20, 21, 22, 23, 24, 25, 26, 27, 28, 29, 30, 31, 32, 33, 34, 35, 36, 37, 38, 39, 106, 107, 108, 109, 110, 111, 112, 113, 114, 115, 116, 117, 118, 119, 120, 121, 122] (by decide +kernel) (by decide +kernel)) (goodIn_sub (fun _ h => List.mem_cons_of_mem _ (List.mem_append_left _ (List.mem_append_right _ h))) (by decide +kernel))
set_option maxRecDepth 20000 in
theorem gX8_storm_X8_segmentNumbered : GoodIn wsX8_storm (wsV RX8 148 RX8 yX8_segmentNumbered wsX8_segmentNumbered) := goodIn_app (goodIn_of _ (by decide +kernel)) ggX8_storm_X8_segmentNumbered
set_option maxRecDepth 20000 in
theorem ggX8_storm_X8_requireClosed : GoodIn wsX8_storm wsX8_requireClosed := goodIn_ca (goodIn_r _ [43, 44, 45, 1, 46, 47, 48, 12, 49, 50, 106, 107, 108, 109, 110, 111, 112, 113, 114, 115, 116, 117] (by decide +kernel) (by decide +kernel)) (goodIn_sub (fun _ h => List.mem_cons_of_mem _ (List.mem_append_right _ h)) (by decide +kernel))
set_option maxRecDepth 20000 in
theorem gX8_storm_X8_requireClosed : GoodIn wsX8_storm (wsV RX8 167 RX8 yX8_requireClosed wsX8_requireClosed) := goodIn_app (goodIn_of _ (by decide +kernel)) ggX8_storm_X8_requireClosed
set_option maxRecDepth 20000 in
theorem ggX8_storm_X5_lose : GoodIn wsX8_storm wsX5_lose := goodIn_r _ [54, 55, 56, 57, 58, 59, 60, 12, 61, 14, 17, 18, 19, 20, 21, 22, 23, 24, 25, 26, 27, 28, 29, 30, 31, 32, 33, 34, 35, 36, 37, 38, 39, 62, 63, 64, 65, 66, 67, 68, 69, 70, 71, 72, 73, 74, 75, 118, 119, 123, 124, 125, 126, 127, 128, 129, 115, 116, 117, 120, 121, 122] (by decide +kernel) (by decide +kernel)
set_option maxRecDepth 20000 in
theorem gX8_storm_X5_lose : GoodIn wsX8_storm (wsV RX8 175 RX5 yX5_lose wsX5_lose) := goodIn_app (goodIn_of _ (by decide +kernel)) ggX8_storm_X5_lose
set_option maxRecDepth 20000 in
theorem ggX8_storm_X8_takeFromIndex : GoodIn wsX8_storm wsX8_takeFromIndex := goodIn_r _ [79, 80, 81, 82, 83, 18, 19, 20, 21, 22, 84, 24, 25, 26, 27, 28, 29, 30, 31, 32, 33, 34, 35, 36, 37, 38, 39, 85, 86, 87, 88, 89, 90, 91, 92, 93, 63, 64, 65, 66, 67, 68, 69, 70, 71, 72, 73, 74, 75, 118, 119, 106, 107, 108, 109, 110, 111, 112, 113, 114, 120, 121, 122, 130] (by decide +kernel) (by decide +kernel)
set_option maxRecDepth 20000 in
theorem gX8_storm_X8_takeFromIndex : GoodIn wsX8_storm (wsV RX8 178 RX8 yX8_takeFromIndex wsX8_takeFromIndex) := goodIn_app (goodIn_of _ (by decide +kernel)) ggX8_storm_X8_takeFromIndex
set_option maxRecDepth 20000 in
theorem ggX8_storm_X8_lostFinds : GoodIn wsX8_storm wsX8_lostFinds := goodIn_r _ [97, 98, 82, 83, 18, 19, 20, 21, 22, 84, 24, 25, 26, 27, 28, 29, 30, 31, 32, 33, 34, 35, 36, 37, 38, 39, 99, 100, 101, 102, 103, 104, 105, 106, 107, 108, 109, 110, 111, 112, 113, 114, 120, 121, 122, 123, 124, 125, 126, 127, 128, 129] (by decide +kernel) (by decide +kernel)
set_option maxRecDepth 20000 in
theorem gX8_storm_X8_lostFinds : GoodIn wsX8_storm (wsV RX8 181 RX8 yX8_lostFinds wsX8_lostFinds) := goodIn_app (goodIn_of _ (by decide +kernel)) ggX8_storm_X8_lostFinds
theorem dX8_storm_0 : decode cX8_storm 0 = .ok (.aload_n 0, 1) := by decide +kernel
theorem dX8_storm_1 : decode cX8_storm 1 = .ok (.iload_n 1, 1) := by decide +kernel
theorem dX8_storm_2 : decode cX8_storm 2 = .ok (.invokevirtual 148, 3) := by decide +kernel
theorem dX8_storm_5 : decode cX8_storm 5 = .ok (.astore_n 2, 1) := by decide +kernel
theorem dX8_storm_6 : decode cX8_storm 6 = .ok (.aload_n 0, 1) := by decide +kernel
theorem dX8_storm_7 : decode cX8_storm 7 = .ok (.aload_n 2, 1) := by decide +kernel
theorem dX8_storm_8 : decode cX8_storm 8 = .ok (.invokevirtual 167, 3) := by decide +kernel
theorem dX8_storm_11 : decode cX8_storm 11 = .ok (.aload_n 0, 1) := by decide +kernel
theorem dX8_storm_12 : decode cX8_storm 12 = .ok (.getfield 36, 3) := by decide +kernel
theorem dX8_storm_15 : decode cX8_storm 15 = .ok (.aload_n 2, 1) := by decide +kernel
theorem dX8_storm_16 : decode cX8_storm 16 = .ok (.invokevirtual 175, 3) := by decide +kernel
theorem dX8_storm_19 : decode cX8_storm 19 = .ok (.aload_n 0, 1) := by decide +kernel
theorem dX8_storm_20 : decode cX8_storm 20 = .ok (.aload_n 2, 1) := by decide +kernel
theorem dX8_storm_21 : decode cX8_storm 21 = .ok (.invokevirtual 178, 3) := by decide +kernel
theorem dX8_storm_24 : decode cX8_storm 24 = .ok (.aload_n 0, 1) := by decide +kernel
theorem dX8_storm_25 : decode cX8_storm 25 = .ok (.invokevirtual 181, 3) := by decide +kernel
theorem dX8_storm_28 : decode cX8_storm 28 = .ok (.ireturn, 1) := by decide +kernel
set_option maxRecDepth 20000 in
theorem ggX8_rebuild_X8_lostFinds : GoodIn wsX8_rebuild wsX8_lostFinds := goodIn_r _ [10, 4, 5, 11, 12, 13, 14, 15, 16, 17, 18, 19, 20, 21, 22, 23, 24, 25, 26, 27, 28, 29, 30, 31, 32, 33, 34, 35, 36, 37, 38, 39, 40, 304, 305, 306, 307, 308, 309, 310, 311, 312, 313, 314, 315, 316, 317, 318, 319, 320, 321, 322] (by decide +kernel) (by decide +kernel)
set_option maxRecDepth 20000 in
theorem gX8_rebuild_X8_lostFinds : GoodIn wsX8_rebuild (wsV RX8 181 RX8 yX8_lostFinds wsX8_lostFinds) := goodIn_app (goodIn_of _ (by decide +kernel)) ggX8_rebuild_X8_lostFinds
set_option maxRecDepth 20000 in
theorem ggX8_rebuild_X5_hasRoomFor : GoodIn wsX8_rebuild wsX5_hasRoomFor := goodIn_r _ [45, 46, 47, 48, 49, 12, 13, 14, 15, 16, 323, 324, 325, 326, 327, 313, 314, 315] (by decide +kernel) (by decide +kernel)
set_option maxRecDepth 20000 in
theorem gX8_rebuild_X5_hasRoomFor : GoodIn wsX8_rebuild (wsV RX8 184 RX5 yX5_hasRoomFor wsX5_hasRoomFor) := goodIn_app (goodIn_of _ (by decide +kernel)) ggX8_rebuild_X5_hasRoomFor
set_option maxRecDepth 20000 in
theorem ggX8_rebuild_X8_leaveCause : GoodIn wsX8_rebuild wsX8_leaveCause := goodIn_r _ [53, 54, 55, 56, 57, 58, 59, 60, 61, 62, 63, 64, 65, 66, 67, 68, 69, 70, 71, 72, 73, 74, 75, 76, 77, 78, 79, 80, 81, 82, 83, 84, 85, 86, 87, 88, 89, 90, 91, 92, 93, 94, 95, 96, 97, 98, 99, 100, 101, 102, 103, 104, 105, 106, 107, 108, 109, 110, 111, 112, 113, 114, 115, 116, 117, 118, 119, 120, 121, 122, 123, 124, 125, 126, 127, 128, 129, 130, 131, 132, 133, 134, 135, 136, 137, 138, 139, 140, 141, 142, 143, 144, 145, 146, 147, 148, 149, 150, 151, 152, 153, 154, 155, 156, 157, 158, 159, 160, 161, 162, 163, 164, 165, 166, 167, 168, 169, 170, 171, 172, 173, 174, 175, 176, 177, 178, 179, 180, 181, 27, 182, 183, 184, 185, 186, 187, 188, 189, 190, 191, 192, 193, 194, 195, 196, 197, 198, 26, 28, 304, 305, 306, 307, 308, 309, 310, 311, 312, 328, 329, 330, 331, 332, 333, 334, 335, 336, 337, 338, 339, 340, 341, 342, 343] (by decide +kernel) (by decide +kernel)
set_option maxRecDepth 20000 in
theorem gX8_rebuild_X8_leaveCause : GoodIn wsX8_rebuild (wsV RX8 188 RX8 yX8_leaveCause wsX8_leaveCause) := goodIn_app (goodIn_of _ (by decide +kernel)) ggX8_rebuild_X8_leaveCause
set_option maxRecDepth 20000 in
theorem ggX8_rebuild_Jx4a65c_size_8abf5 : GoodIn wsX8_rebuild wsJx4a65c_size_8abf5 := goodIn_r _ [15, 16, 313, 314, 315] (by decide +kernel) (by decide +kernel)
set_option maxRecDepth 20000 in
theorem gX8_rebuild_Jx4a65c_size_8abf5 : GoodIn wsX8_rebuild (wsV RX8 64 RJx4a65c yJx4a65c_size_8abf5 wsJx4a65c_size_8abf5) := goodIn_app (goodIn_of _ (by decide +kernel)) ggX8_rebuild_Jx4a65c_size_8abf5
set_option maxRecDepth 20000 in
theorem ggX8_rebuild_Jx4a65c_get_915e3 : GoodIn wsX8_rebuild wsJx4a65c_get_915e3 := goodIn_r _ [20, 16, 21, 22, 23, 24, 25, 26, 27, 28, 29, 30, 31, 14, 32, 33, 313, 314, 315] (by decide +kernel) (by decide +kernel)
set_option maxRecDepth 20000 in
theorem gX8_rebuild_Jx4a65c_get_915e3 : GoodIn wsX8_rebuild (wsV RX8 114 RJx4a65c yJx4a65c_get_915e3 wsJx4a65c_get_915e3) := goodIn_app (goodIn_of _ (by decide +kernel)) ggX8_rebuild_Jx4a65c_get_915e3
set_option maxRecDepth 20000 in
theorem ggX8_rebuild_X0_isLost : GoodIn wsX8_rebuild wsX0_isLost := goodIn_r _ [38, 39, 40, 316, 317, 318, 319, 320, 321, 322] (by decide +kernel) (by decide +kernel)
set_option maxRecDepth 20000 in
theorem gX8_rebuild_X0_isLost : GoodIn wsX8_rebuild (wsV RX8 194 RX0 yX0_isLost wsX0_isLost) := goodIn_app (goodIn_of _ (by decide +kernel)) ggX8_rebuild_X0_isLost
set_option maxRecDepth 20000 in
theorem ggX8_rebuild_X8_store : GoodIn wsX8_rebuild wsX8_store := goodIn_r _ [202, 3, 203, 204, 205, 206, 44, 207, 46, 47, 208, 209, 210, 211, 212, 213, 214, 215, 48, 216, 217, 218, 219, 220, 221, 222, 223, 224, 14, 225, 226, 227, 228, 229, 33, 230, 231, 232, 233, 234, 235, 236, 237, 238, 239, 240, 241, 242, 243, 244, 245, 16, 246, 247, 248, 249, 250, 251, 252, 253, 254, 255, 256, 257, 258, 89, 90, 91, 259, 260, 85, 86, 87, 88, 92, 93, 94, 95, 261, 262, 98, 263, 264, 265, 266, 267, 268, 269, 270, 271, 272, 107, 108, 109, 110, 111, 112, 113, 273, 274, 275, 276, 277, 278, 49, 12, 13, 15, 279, 280, 281, 282, 283, 284, 285, 286, 287, 18, 19, 20, 21, 22, 23, 24, 25, 26, 27, 28, 29, 30, 31, 32, 288, 289, 290, 37, 291, 292, 293, 294, 295, 296, 297, 298, 299, 300, 301, 302, 303, 304, 305, 306, 307, 308, 309, 310, 311, 312, 323, 324, 325, 326, 327, 313, 314, 315, 316, 317, 318, 319, 320, 321, 322, 344] (by decide +kernel) (by decide +kernel)
set_option maxRecDepth 20000 in
theorem gX8_rebuild_X8_store : GoodIn wsX8_rebuild (wsV RX8 197 RX8 yX8_store wsX8_store) := goodIn_app (goodIn_of _ (by decide +kernel)) ggX8_rebuild_X8_store
theorem dX8_rebuild_0 : decode cX8_rebuild 0 = .ok (.aload_n 0, 1) := by decide +kernel
theorem dX8_rebuild_1 : decode cX8_rebuild 1 = .ok (.invokevirtual 181, 3) := by decide +kernel
theorem dX8_rebuild_4 : decode cX8_rebuild 4 = .ok (.istore_n 1, 1) := by decide +kernel
theorem dX8_rebuild_5 : decode cX8_rebuild 5 = .ok (.aload_n 0, 1) := by decide +kernel
theorem dX8_rebuild_6 : decode cX8_rebuild 6 = .ok (.getfield 36, 3) := by decide +kernel
theorem dX8_rebuild_9 : decode cX8_rebuild 9 = .ok (.iload_n 1, 1) := by decide +kernel
theorem dX8_rebuild_10 : decode cX8_rebuild 10 = .ok (.invokevirtual 184, 3) := by decide +kernel
theorem dX8_rebuild_13 : decode cX8_rebuild 13 = .ok (.ifCond .ne 19, 3) := by decide +kernel
theorem dX8_rebuild_16 : decode cX8_rebuild 16 = .ok (.aload_n 0, 1) := by decide +kernel
theorem dX8_rebuild_17 : decode cX8_rebuild 17 = .ok (.bipush 102, 2) := by decide +kernel
theorem dX8_rebuild_19 : decode cX8_rebuild 19 = .ok (.invokevirtual 188, 3) := by decide +kernel
theorem dX8_rebuild_22 : decode cX8_rebuild 22 = .ok (.new 68, 3) := by decide +kernel
theorem dX8_rebuild_25 : decode cX8_rebuild 25 = .ok (.dup, 1) := by decide +kernel
theorem dX8_rebuild_26 : decode cX8_rebuild 26 = .ok (.ldc 192, 2) := by decide +kernel
theorem dX8_rebuild_28 : decode cX8_rebuild 28 = .ok (.invokespecial 72, 3) := by decide +kernel
theorem dX8_rebuild_31 : decode cX8_rebuild 31 = .ok (.athrow, 1) := by decide +kernel
theorem dX8_rebuild_32 : decode cX8_rebuild 32 = .ok (.iconst 0, 1) := by decide +kernel
theorem dX8_rebuild_33 : decode cX8_rebuild 33 = .ok (.istore_n 2, 1) := by decide +kernel
theorem dX8_rebuild_34 : decode cX8_rebuild 34 = .ok (.iload_n 2, 1) := by decide +kernel
theorem dX8_rebuild_35 : decode cX8_rebuild 35 = .ok (.aload_n 0, 1) := by decide +kernel
theorem dX8_rebuild_36 : decode cX8_rebuild 36 = .ok (.getfield 16, 3) := by decide +kernel
theorem dX8_rebuild_39 : decode cX8_rebuild 39 = .ok (.invokevirtual 64, 3) := by decide +kernel
theorem dX8_rebuild_42 : decode cX8_rebuild 42 = .ok (.if_icmp .ge 41, 3) := by decide +kernel
theorem dX8_rebuild_45 : decode cX8_rebuild 45 = .ok (.aload_n 0, 1) := by decide +kernel
theorem dX8_rebuild_46 : decode cX8_rebuild 46 = .ok (.getfield 16, 3) := by decide +kernel
theorem dX8_rebuild_49 : decode cX8_rebuild 49 = .ok (.iload_n 2, 1) := by decide +kernel
theorem dX8_rebuild_50 : decode cX8_rebuild 50 = .ok (.invokevirtual 114, 3) := by decide +kernel
theorem dX8_rebuild_53 : decode cX8_rebuild 53 = .ok (.checkcast 95, 3) := by decide +kernel
theorem dX8_rebuild_56 : decode cX8_rebuild 56 = .ok (.invokevirtual 194, 3) := by decide +kernel
theorem dX8_rebuild_59 : decode cX8_rebuild 59 = .ok (.ifCond .eq 18, 3) := by decide +kernel
theorem dX8_rebuild_62 : decode cX8_rebuild 62 = .ok (.aload_n 0, 1) := by decide +kernel
theorem dX8_rebuild_63 : decode cX8_rebuild 63 = .ok (.aload_n 0, 1) := by decide +kernel
theorem dX8_rebuild_64 : decode cX8_rebuild 64 = .ok (.getfield 16, 3) := by decide +kernel
theorem dX8_rebuild_67 : decode cX8_rebuild 67 = .ok (.iload_n 2, 1) := by decide +kernel
theorem dX8_rebuild_68 : decode cX8_rebuild 68 = .ok (.invokevirtual 114, 3) := by decide +kernel
theorem dX8_rebuild_71 : decode cX8_rebuild 71 = .ok (.checkcast 95, 3) := by decide +kernel
theorem dX8_rebuild_74 : decode cX8_rebuild 74 = .ok (.invokevirtual 197, 3) := by decide +kernel
theorem dX8_rebuild_77 : decode cX8_rebuild 77 = .ok (.iinc 2 1, 3) := by decide +kernel
theorem dX8_rebuild_80 : decode cX8_rebuild 80 = .ok (.goto (-46), 3) := by decide +kernel
theorem dX8_rebuild_83 : decode cX8_rebuild 83 = .ok (.iload_n 1, 1) := by decide +kernel
theorem dX8_rebuild_84 : decode cX8_rebuild 84 = .ok (.ireturn, 1) := by decide +kernel
set_option maxRecDepth 20000 in
theorem ggX8_segmentOf_X8_findNumbered : GoodIn wsX8_segmentOf wsX8_findNumbered := goodIn_ca (goodIn_r _ [9, 10, 11, 12, 13, 14, 15, 16, 17, 18, 19, 20, 21, 22, 23, 24, 25, 26, 27, 28, 29, 30, 31, 32, 33, 34, 35, 36, 46, 47, 48, 49, 50, 51, 52, 53, 54, 55, 56, 57] (by decide +kernel) (by decide +kernel)) (goodIn_sub (fun _ h => List.mem_cons_of_mem _ (List.mem_append_right _ h)) (by decide +kernel))
set_option maxRecDepth 20000 in
theorem gX8_segmentOf_X8_findNumbered : GoodIn wsX8_segmentOf (wsV RX8 201 RX8 yX8_findNumbered wsX8_findNumbered) := goodIn_app (goodIn_of _ (by decide +kernel)) ggX8_segmentOf_X8_findNumbered
theorem dX8_segmentOf_0 : decode cX8_segmentOf 0 = .ok (.aload_n 0, 1) := by decide +kernel
theorem dX8_segmentOf_1 : decode cX8_segmentOf 1 = .ok (.iload_n 1, 1) := by decide +kernel
theorem dX8_segmentOf_2 : decode cX8_segmentOf 2 = .ok (.invokevirtual 201, 3) := by decide +kernel
theorem dX8_segmentOf_5 : decode cX8_segmentOf 5 = .ok (.getfield 205, 3) := by decide +kernel
theorem dX8_segmentOf_8 : decode cX8_segmentOf 8 = .ok (.astore_n 2, 1) := by decide +kernel
theorem dX8_segmentOf_9 : decode cX8_segmentOf 9 = .ok (.aload_n 2, 1) := by decide +kernel
theorem dX8_segmentOf_10 : decode cX8_segmentOf 10 = .ok (.ifnonnull 13, 3) := by decide +kernel
theorem dX8_segmentOf_13 : decode cX8_segmentOf 13 = .ok (.new 140, 3) := by decide +kernel
theorem dX8_segmentOf_16 : decode cX8_segmentOf 16 = .ok (.dup, 1) := by decide +kernel
theorem dX8_segmentOf_17 : decode cX8_segmentOf 17 = .ok (.ldc 209, 2) := by decide +kernel
theorem dX8_segmentOf_19 : decode cX8_segmentOf 19 = .ok (.invokespecial 144, 3) := by decide +kernel
theorem dX8_segmentOf_22 : decode cX8_segmentOf 22 = .ok (.athrow, 1) := by decide +kernel
theorem dX8_segmentOf_23 : decode cX8_segmentOf 23 = .ok (.aload_n 2, 1) := by decide +kernel
theorem dX8_segmentOf_24 : decode cX8_segmentOf 24 = .ok (.getfield 147, 3) := by decide +kernel
theorem dX8_segmentOf_27 : decode cX8_segmentOf 27 = .ok (.ireturn, 1) := by decide +kernel
set_option maxRecDepth 20000 in
theorem ggX8_meanSize_Jx4a65c_isEmpty_aae02 : GoodIn wsX8_meanSize wsJx4a65c_isEmpty_aae02 := goodIn_r _ [9, 10, 46, 47, 48] (by decide +kernel) (by decide +kernel)
set_option maxRecDepth 20000 in
theorem gX8_meanSize_Jx4a65c_isEmpty_aae02 : GoodIn wsX8_meanSize (wsV RX8 106 RJx4a65c yJx4a65c_isEmpty_aae02 wsJx4a65c_isEmpty_aae02) := goodIn_app (goodIn_of _ (by decide +kernel)) ggX8_meanSize_Jx4a65c_isEmpty_aae02
set_option maxRecDepth 20000 in
theorem ggX8_meanSize_Jx4a65c_size_8abf5 : GoodIn wsX8_meanSize wsJx4a65c_size_8abf5 := goodIn_r _ [14, 10, 46, 47, 48] (by decide +kernel) (by decide +kernel)
set_option maxRecDepth 20000 in
theorem gX8_meanSize_Jx4a65c_size_8abf5 : GoodIn wsX8_meanSize (wsV RX8 64 RJx4a65c yJx4a65c_size_8abf5 wsJx4a65c_size_8abf5) := goodIn_app (goodIn_of _ (by decide +kernel)) ggX8_meanSize_Jx4a65c_size_8abf5
set_option maxRecDepth 20000 in
theorem ggX8_meanSize_Jx4a65c_get_915e3 : GoodIn wsX8_meanSize wsJx4a65c_get_915e3 := goodIn_r _ [18, 10, 19, 20, 21, 22, 23, 24, 25, 26, 27, 28, 29, 8, 30, 31, 46, 47, 48] (by decide +kernel) (by decide +kernel)
set_option maxRecDepth 20000 in
theorem gX8_meanSize_Jx4a65c_get_915e3 : GoodIn wsX8_meanSize (wsV RX8 114 RJx4a65c yJx4a65c_get_915e3 wsJx4a65c_get_915e3) := goodIn_app (goodIn_of _ (by decide +kernel)) ggX8_meanSize_Jx4a65c_get_915e3
theorem dX8_meanSize_0 : decode cX8_meanSize 0 = .ok (.aload_n 0, 1) := by decide +kernel
theorem dX8_meanSize_1 : decode cX8_meanSize 1 = .ok (.getfield 36, 3) := by decide +kernel
theorem dX8_meanSize_4 : decode cX8_meanSize 4 = .ok (.getfield 137, 3) := by decide +kernel
theorem dX8_meanSize_7 : decode cX8_meanSize 7 = .ok (.invokevirtual 106, 3) := by decide +kernel
theorem dX8_meanSize_10 : decode cX8_meanSize 10 = .ok (.ifCond .eq 5, 3) := by decide +kernel
theorem dX8_meanSize_13 : decode cX8_meanSize 13 = .ok (.dconst 0, 1) := by decide +kernel
theorem dX8_meanSize_14 : decode cX8_meanSize 14 = .ok (.dreturn, 1) := by decide +kernel
theorem dX8_meanSize_15 : decode cX8_meanSize 15 = .ok (.iconst 0, 1) := by decide +kernel
theorem dX8_meanSize_16 : decode cX8_meanSize 16 = .ok (.istore_n 1, 1) := by decide +kernel
theorem dX8_meanSize_17 : decode cX8_meanSize 17 = .ok (.iconst 0, 1) := by decide +kernel
theorem dX8_meanSize_18 : decode cX8_meanSize 18 = .ok (.istore_n 2, 1) := by decide +kernel
theorem dX8_meanSize_19 : decode cX8_meanSize 19 = .ok (.iload_n 2, 1) := by decide +kernel
theorem dX8_meanSize_20 : decode cX8_meanSize 20 = .ok (.aload_n 0, 1) := by decide +kernel
theorem dX8_meanSize_21 : decode cX8_meanSize 21 = .ok (.getfield 36, 3) := by decide +kernel
theorem dX8_meanSize_24 : decode cX8_meanSize 24 = .ok (.getfield 137, 3) := by decide +kernel
theorem dX8_meanSize_27 : decode cX8_meanSize 27 = .ok (.invokevirtual 64, 3) := by decide +kernel
theorem dX8_meanSize_30 : decode cX8_meanSize 30 = .ok (.if_icmp .ge 32, 3) := by decide +kernel
theorem dX8_meanSize_33 : decode cX8_meanSize 33 = .ok (.iload_n 1, 1) := by decide +kernel
theorem dX8_meanSize_34 : decode cX8_meanSize 34 = .ok (.aload_n 0, 1) := by decide +kernel
theorem dX8_meanSize_35 : decode cX8_meanSize 35 = .ok (.getfield 36, 3) := by decide +kernel
theorem dX8_meanSize_38 : decode cX8_meanSize 38 = .ok (.getfield 137, 3) := by decide +kernel
theorem dX8_meanSize_41 : decode cX8_meanSize 41 = .ok (.iload_n 2, 1) := by decide +kernel
theorem dX8_meanSize_42 : decode cX8_meanSize 42 = .ok (.invokevirtual 114, 3) := by decide +kernel
theorem dX8_meanSize_45 : decode cX8_meanSize 45 = .ok (.checkcast 145, 3) := by decide +kernel
theorem dX8_meanSize_48 : decode cX8_meanSize 48 = .ok (.getfield 152, 3) := by decide +kernel
theorem dX8_meanSize_51 : decode cX8_meanSize 51 = .ok (.invokevirtual 64, 3) := by decide +kernel
theorem dX8_meanSize_54 : decode cX8_meanSize 54 = .ok (.iadd, 1) := by decide +kernel
theorem dX8_meanSize_55 : decode cX8_meanSize 55 = .ok (.istore_n 1, 1) := by decide +kernel
theorem dX8_meanSize_56 : decode cX8_meanSize 56 = .ok (.iinc 2 1, 3) := by decide +kernel
theorem dX8_meanSize_59 : decode cX8_meanSize 59 = .ok (.goto (-40), 3) := by decide +kernel
theorem dX8_meanSize_62 : decode cX8_meanSize 62 = .ok (.iload_n 1, 1) := by decide +kernel
theorem dX8_meanSize_63 : decode cX8_meanSize 63 = .ok (.i2d, 1) := by decide +kernel
theorem dX8_meanSize_64 : decode cX8_meanSize 64 = .ok (.aload_n 0, 1) := by decide +kernel
theorem dX8_meanSize_65 : decode cX8_meanSize 65 = .ok (.getfield 36, 3) := by decide +kernel
