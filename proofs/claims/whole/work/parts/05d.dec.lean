theorem dX8_requireMap_10 : decode cX8_requireMap 10 = .ok (.new 128, 3) := by decide +kernel
theorem dX8_requireMap_13 : decode cX8_requireMap 13 = .ok (.dup, 1) := by decide +kernel
theorem dX8_requireMap_14 : decode cX8_requireMap 14 = .ok (.ldc_w 368, 3) := by decide +kernel
theorem dX8_requireMap_17 : decode cX8_requireMap 17 = .ok (.invokespecial 132, 3) := by decide +kernel
theorem dX8_requireMap_20 : decode cX8_requireMap 20 = .ok (.athrow, 1) := by decide +kernel
theorem dX8_requireMap_21 : decode cX8_requireMap 21 = .ok (.return_, 1) := by decide +kernel
set_option maxRecDepth 20000 in
theorem ggX8_requireRoomForFind_Jx4a65c_size_8abf5 : GoodIn wsX8_requireRoomForFind wsJx4a65c_size_8abf5 := goodIn_r _ [9, 10, 29, 30, 31] (by decide +kernel) (by decide +kernel)
set_option maxRecDepth 20000 in
theorem gX8_requireRoomForFind_Jx4a65c_size_8abf5 : GoodIn wsX8_requireRoomForFind (wsV RX8 64 RJx4a65c yJx4a65c_size_8abf5 wsJx4a65c_size_8abf5) := goodIn_app (goodIn_of _ (by decide +kernel)) ggX8_requireRoomForFind_Jx4a65c_size_8abf5
set_option maxRecDepth 20000 in
theorem ggX8_requireRoomForFind_X5_hasRoomFor : GoodIn wsX8_requireRoomForFind wsX5_hasRoomFor := goodIn_r _ [15, 16, 17, 18, 19, 6, 7, 8, 9, 10, 32, 33, 34, 35, 36, 29, 30, 31] (by decide +kernel) (by decide +kernel)
set_option maxRecDepth 20000 in
theorem gX8_requireRoomForFind_X5_hasRoomFor : GoodIn wsX8_requireRoomForFind (wsV RX8 184 RX5 yX5_hasRoomFor wsX5_hasRoomFor) := goodIn_app (goodIn_of _ (by decide +kernel)) ggX8_requireRoomForFind_X5_hasRoomFor
theorem dX8_requireRoomForFind_0 : decode cX8_requireRoomForFind 0 = .ok (.aload_n 0, 1) := by decide +kernel
theorem dX8_requireRoomForFind_1 : decode cX8_requireRoomForFind 1 = .ok (.getfield 16, 3) := by decide +kernel
theorem dX8_requireRoomForFind_4 : decode cX8_requireRoomForFind 4 = .ok (.invokevirtual 64, 3) := by decide +kernel
theorem dX8_requireRoomForFind_7 : decode cX8_requireRoomForFind 7 = .ok (.bipush 120, 2) := by decide +kernel
theorem dX8_requireRoomForFind_9 : decode cX8_requireRoomForFind 9 = .ok (.if_icmp .lt 14, 3) := by decide +kernel
theorem dX8_requireRoomForFind_12 : decode cX8_requireRoomForFind 12 = .ok (.new 68, 3) := by decide +kernel
theorem dX8_requireRoomForFind_15 : decode cX8_requireRoomForFind 15 = .ok (.dup, 1) := by decide +kernel
theorem dX8_requireRoomForFind_16 : decode cX8_requireRoomForFind 16 = .ok (.ldc_w 370, 3) := by decide +kernel
theorem dX8_requireRoomForFind_19 : decode cX8_requireRoomForFind 19 = .ok (.invokespecial 72, 3) := by decide +kernel
theorem dX8_requireRoomForFind_22 : decode cX8_requireRoomForFind 22 = .ok (.athrow, 1) := by decide +kernel
theorem dX8_requireRoomForFind_23 : decode cX8_requireRoomForFind 23 = .ok (.aload_n 0, 1) := by decide +kernel
theorem dX8_requireRoomForFind_24 : decode cX8_requireRoomForFind 24 = .ok (.getfield 36, 3) := by decide +kernel
theorem dX8_requireRoomForFind_27 : decode cX8_requireRoomForFind 27 = .ok (.iconst 1, 1) := by decide +kernel
theorem dX8_requireRoomForFind_28 : decode cX8_requireRoomForFind 28 = .ok (.invokevirtual 184, 3) := by decide +kernel
theorem dX8_requireRoomForFind_31 : decode cX8_requireRoomForFind 31 = .ok (.ifCond .ne 14, 3) := by decide +kernel
theorem dX8_requireRoomForFind_34 : decode cX8_requireRoomForFind 34 = .ok (.new 68, 3) := by decide +kernel
theorem dX8_requireRoomForFind_37 : decode cX8_requireRoomForFind 37 = .ok (.dup, 1) := by decide +kernel
theorem dX8_requireRoomForFind_38 : decode cX8_requireRoomForFind 38 = .ok (.ldc_w 372, 3) := by decide +kernel
theorem dX8_requireRoomForFind_41 : decode cX8_requireRoomForFind 41 = .ok (.invokespecial 72, 3) := by decide +kernel
theorem dX8_requireRoomForFind_44 : decode cX8_requireRoomForFind 44 = .ok (.athrow, 1) := by decide +kernel
theorem dX8_requireRoomForFind_45 : decode cX8_requireRoomForFind 45 = .ok (.return_, 1) := by decide +kernel
set_option maxRecDepth 20000 in
theorem ggX8_enter_Jx4a65c_add_9ea2d : GoodIn wsX8_enter wsJx4a65c_add_9ea2d := goodIn_r _ [7, 8, 9, 10, 11, 12, 13, 14, 6, 15, 16, 17, 18, 19, 20, 21, 22, 23, 24, 25, 26, 27, 28, 29, 30, 31, 32, 33, 34, 35, 36, 37, 38, 39, 40, 41, 42, 43, 44, 45, 46, 47, 48, 49, 50, 51, 52, 53, 54, 55, 56, 57, 58, 173, 174, 175] (by decide +kernel) (by decide +kernel)
set_option maxRecDepth 20000 in
theorem gX8_enter_Jx4a65c_add_9ea2d : GoodIn wsX8_enter (wsV RX8 80 RJx4a65c yJx4a65c_add_9ea2d wsJx4a65c_add_9ea2d) := goodIn_app (goodIn_of _ (by decide +kernel)) ggX8_enter_Jx4a65c_add_9ea2d
set_option maxRecDepth 20000 in
theorem ggX8_enter_X8_store : GoodIn wsX8_enter wsX8_store := goodIn_r _ [63, 64, 65, 66, 67, 68, 69, 70, 71, 72, 73, 74, 75, 76, 77, 78, 79, 80, 81, 82, 83, 84, 85, 86, 87, 88, 89, 90, 6, 91, 92, 93, 94, 24, 10, 95, 96, 97, 98, 99, 100, 101, 102, 103, 104, 105, 4, 5, 7, 8, 9, 11, 12, 13, 14, 15, 16, 17, 18, 19, 20, 21, 22, 23, 25, 26, 27, 28, 29, 30, 31, 32, 33, 34, 35, 36, 37, 38, 39, 40, 41, 42, 43, 44, 45, 46, 47, 48, 49, 50, 51, 52, 53, 54, 55, 56, 57, 58, 106, 107, 108, 109, 110, 111, 112, 113, 114, 115, 116, 117, 118, 119, 120, 121, 122, 123, 124, 125, 126, 127, 128, 129, 130, 131, 132, 133, 134, 135, 136, 137, 138, 139, 140, 141, 142, 143, 144, 145, 146, 147, 148, 149, 150, 151, 152, 153, 154, 155, 156, 157, 158, 159, 160, 161, 162, 163, 164, 165, 176, 177, 178, 179, 180, 173, 174, 175, 166, 167, 168, 169, 170, 171, 172, 181] (by decide +kernel) (by decide +kernel)
set_option maxRecDepth 20000 in
theorem gX8_enter_X8_store : GoodIn wsX8_enter (wsV RX8 197 RX8 yX8_store wsX8_store) := goodIn_app (goodIn_of _ (by decide +kernel)) ggX8_enter_X8_store
theorem dX8_enter_0 : decode cX8_enter 0 = .ok (.aload_n 0, 1) := by decide +kernel
theorem dX8_enter_1 : decode cX8_enter 1 = .ok (.getfield 16, 3) := by decide +kernel
theorem dX8_enter_4 : decode cX8_enter 4 = .ok (.aload_n 1, 1) := by decide +kernel
theorem dX8_enter_5 : decode cX8_enter 5 = .ok (.invokevirtual 80, 3) := by decide +kernel
theorem dX8_enter_8 : decode cX8_enter 8 = .ok (.pop, 1) := by decide +kernel
theorem dX8_enter_9 : decode cX8_enter 9 = .ok (.aload_n 0, 1) := by decide +kernel
theorem dX8_enter_10 : decode cX8_enter 10 = .ok (.aload_n 1, 1) := by decide +kernel
theorem dX8_enter_11 : decode cX8_enter 11 = .ok (.invokevirtual 197, 3) := by decide +kernel
theorem dX8_enter_14 : decode cX8_enter 14 = .ok (.aload_n 1, 1) := by decide +kernel
theorem dX8_enter_15 : decode cX8_enter 15 = .ok (.getfield 221, 3) := by decide +kernel
theorem dX8_enter_18 : decode cX8_enter 18 = .ok (.ireturn, 1) := by decide +kernel
set_option maxRecDepth 20000 in
theorem ggX8_store_X5_put : GoodIn wsX8_store wsX5_put := goodIn_r _ [7, 8, 9, 10, 11, 12, 6, 13, 14, 15, 16, 17, 18, 19, 20, 21, 22, 23, 24, 25, 26, 27, 28, 29, 30, 31, 32, 33, 34, 35, 36, 37, 38, 39, 40, 41, 42, 43, 44, 45, 46, 47, 48, 49, 50, 51, 52, 53, 54, 55, 56, 57, 58, 59, 60, 61, 62, 63, 64, 65, 66, 67, 68, 69, 70, 71, 72, 73, 74, 75, 76, 77, 78, 79, 80, 81, 82, 83, 84, 85, 86, 87, 88, 89, 90, 91, 92, 93, 94, 95, 96, 97, 98, 99, 100, 101, 102, 103, 104, 105, 106, 107, 158, 159, 160, 161, 162, 163, 164, 165, 166, 167, 168, 169, 170, 171, 172] (by decide +kernel) (by decide +kernel)
set_option maxRecDepth 20000 in
theorem gX8_store_X5_put : GoodIn wsX8_store (wsV RX8 374 RX5 yX5_put wsX5_put) := goodIn_app (goodIn_of _ (by decide +kernel)) ggX8_store_X5_put
set_option maxRecDepth 20000 in
theorem ggX8_store_X1_enter : GoodIn wsX8_store wsX1_enter := goodIn_r _ [112, 113, 114, 115, 105, 106, 28, 107, 51, 116, 117, 118, 119, 120, 121, 122, 123, 124, 125, 126, 127, 128, 129, 130, 131, 34, 132, 133, 134, 135, 136, 137, 138, 139, 140, 141, 142, 143, 49, 50, 144, 95, 96, 97, 145, 146, 147, 148, 56, 57, 58, 59, 60, 61, 62, 63, 33, 64, 65, 66, 67, 68, 69, 70, 71, 72, 73, 74, 75, 76, 77, 78, 79, 80, 81, 82, 83, 84, 85, 86, 87, 88, 89, 90, 91, 92, 93, 94, 173, 163, 164, 165, 166, 167, 168, 169, 170, 171, 172] (by decide +kernel) (by decide +kernel)
set_option maxRecDepth 20000 in
theorem gX8_store_X1_enter : GoodIn wsX8_store (wsV RX8 377 RX1 yX1_enter wsX1_enter) := goodIn_app (goodIn_of _ (by decide +kernel)) ggX8_store_X1_enter
theorem dX8_store_0 : decode cX8_store 0 = .ok (.aload_n 0, 1) := by decide +kernel
theorem dX8_store_1 : decode cX8_store 1 = .ok (.getfield 36, 3) := by decide +kernel
theorem dX8_store_4 : decode cX8_store 4 = .ok (.aload_n 1, 1) := by decide +kernel
theorem dX8_store_5 : decode cX8_store 5 = .ok (.invokevirtual 374, 3) := by decide +kernel
theorem dX8_store_8 : decode cX8_store 8 = .ok (.aload_n 0, 1) := by decide +kernel
theorem dX8_store_9 : decode cX8_store 9 = .ok (.getfield 22, 3) := by decide +kernel
theorem dX8_store_12 : decode cX8_store 12 = .ok (.aload_n 1, 1) := by decide +kernel
theorem dX8_store_13 : decode cX8_store 13 = .ok (.invokevirtual 377, 3) := by decide +kernel
theorem dX8_store_16 : decode cX8_store 16 = .ok (.return_, 1) := by decide +kernel
set_option maxRecDepth 20000 in
theorem ggX8_takeFromIndex_Jx4a65c_size_8abf5 : GoodIn wsX8_takeFromIndex wsJx4a65c_size_8abf5 := goodIn_r _ [8, 9, 60, 61, 62] (by decide +kernel) (by decide +kernel)
set_option maxRecDepth 20000 in
theorem gX8_takeFromIndex_Jx4a65c_size_8abf5 : GoodIn wsX8_takeFromIndex (wsV RX8 64 RJx4a65c yJx4a65c_size_8abf5 wsJx4a65c_size_8abf5) := goodIn_app (goodIn_of _ (by decide +kernel)) ggX8_takeFromIndex_Jx4a65c_size_8abf5
set_option maxRecDepth 20000 in
theorem ggX8_takeFromIndex_Jx4a65c_get_915e3 : GoodIn wsX8_takeFromIndex wsJx4a65c_get_915e3 := goodIn_r _ [13, 9, 14, 15, 16, 17, 18, 19, 20, 21, 22, 23, 24, 7, 25, 26, 60, 61, 62] (by decide +kernel) (by decide +kernel)
set_option maxRecDepth 20000 in
theorem gX8_takeFromIndex_Jx4a65c_get_915e3 : GoodIn wsX8_takeFromIndex (wsV RX8 114 RJx4a65c yJx4a65c_get_915e3 wsJx4a65c_get_915e3) := goodIn_app (goodIn_of _ (by decide +kernel)) ggX8_takeFromIndex_Jx4a65c_get_915e3
set_option maxRecDepth 20000 in
theorem ggX8_takeFromIndex_X1_leave : GoodIn wsX8_takeFromIndex wsX1_leave := goodIn_r _ [31, 32, 33, 5, 6, 7, 8, 9, 34, 11, 12, 13, 14, 15, 16, 17, 18, 19, 20, 21, 22, 23, 24, 25, 26, 35, 36, 37, 38, 39, 40, 41, 42, 43, 44, 45, 46, 47, 48, 63, 60, 61, 62] (by decide +kernel) (by decide +kernel)
set_option maxRecDepth 20000 in
theorem gX8_takeFromIndex_X1_leave : GoodIn wsX8_takeFromIndex (wsV RX8 301 RX1 yX1_leave wsX1_leave) := goodIn_app (goodIn_of _ (by decide +kernel)) ggX8_takeFromIndex_X1_leave
theorem dX8_takeFromIndex_0 : decode cX8_takeFromIndex 0 = .ok (.iconst 0, 1) := by decide +kernel
theorem dX8_takeFromIndex_1 : decode cX8_takeFromIndex 1 = .ok (.istore_n 2, 1) := by decide +kernel
theorem dX8_takeFromIndex_2 : decode cX8_takeFromIndex 2 = .ok (.iload_n 2, 1) := by decide +kernel
theorem dX8_takeFromIndex_3 : decode cX8_takeFromIndex 3 = .ok (.aload_n 1, 1) := by decide +kernel
theorem dX8_takeFromIndex_4 : decode cX8_takeFromIndex 4 = .ok (.getfield 152, 3) := by decide +kernel
theorem dX8_takeFromIndex_7 : decode cX8_takeFromIndex 7 = .ok (.invokevirtual 64, 3) := by decide +kernel
theorem dX8_takeFromIndex_10 : decode cX8_takeFromIndex 10 = .ok (.if_icmp .ge 27, 3) := by decide +kernel
theorem dX8_takeFromIndex_13 : decode cX8_takeFromIndex 13 = .ok (.aload_n 0, 1) := by decide +kernel
theorem dX8_takeFromIndex_14 : decode cX8_takeFromIndex 14 = .ok (.getfield 22, 3) := by decide +kernel
theorem dX8_takeFromIndex_17 : decode cX8_takeFromIndex 17 = .ok (.aload_n 1, 1) := by decide +kernel
theorem dX8_takeFromIndex_18 : decode cX8_takeFromIndex 18 = .ok (.getfield 152, 3) := by decide +kernel
theorem dX8_takeFromIndex_21 : decode cX8_takeFromIndex 21 = .ok (.iload_n 2, 1) := by decide +kernel
theorem dX8_takeFromIndex_22 : decode cX8_takeFromIndex 22 = .ok (.invokevirtual 114, 3) := by decide +kernel
theorem dX8_takeFromIndex_25 : decode cX8_takeFromIndex 25 = .ok (.checkcast 95, 3) := by decide +kernel
theorem dX8_takeFromIndex_28 : decode cX8_takeFromIndex 28 = .ok (.invokevirtual 301, 3) := by decide +kernel
theorem dX8_takeFromIndex_31 : decode cX8_takeFromIndex 31 = .ok (.iinc 2 1, 3) := by decide +kernel
theorem dX8_takeFromIndex_34 : decode cX8_takeFromIndex 34 = .ok (.goto (-32), 3) := by decide +kernel
theorem dX8_takeFromIndex_37 : decode cX8_takeFromIndex 37 = .ok (.return_, 1) := by decide +kernel
set_option maxRecDepth 20000 in
theorem ggX8_lostFinds_Jx4a65c_size_8abf5 : GoodIn wsX8_lostFinds wsJx4a65c_size_8abf5 := goodIn_r _ [7, 8, 42, 43, 44] (by decide +kernel) (by decide +kernel)
set_option maxRecDepth 20000 in
theorem gX8_lostFinds_Jx4a65c_size_8abf5 : GoodIn wsX8_lostFinds (wsV RX8 64 RJx4a65c yJx4a65c_size_8abf5 wsJx4a65c_size_8abf5) := goodIn_app (goodIn_of _ (by decide +kernel)) ggX8_lostFinds_Jx4a65c_size_8abf5
set_option maxRecDepth 20000 in
theorem ggX8_lostFinds_Jx4a65c_get_915e3 : GoodIn wsX8_lostFinds wsJx4a65c_get_915e3 := goodIn_r _ [12, 8, 13, 14, 15, 16, 17, 18, 19, 20, 21, 22, 23, 6, 24, 25, 42, 43, 44] (by decide +kernel) (by decide +kernel)
set_option maxRecDepth 20000 in
theorem gX8_lostFinds_Jx4a65c_get_915e3 : GoodIn wsX8_lostFinds (wsV RX8 114 RJx4a65c yJx4a65c_get_915e3 wsJx4a65c_get_915e3) := goodIn_app (goodIn_of _ (by decide +kernel)) ggX8_lostFinds_Jx4a65c_get_915e3
set_option maxRecDepth 20000 in
theorem ggX8_lostFinds_X0_isLost : GoodIn wsX8_lostFinds wsX0_isLost := goodIn_r _ [30, 31, 32, 45, 46, 47, 48, 49, 50, 51] (by decide +kernel) (by decide +kernel)
set_option maxRecDepth 20000 in
theorem gX8_lostFinds_X0_isLost : GoodIn wsX8_lostFinds (wsV RX8 194 RX0 yX0_isLost wsX0_isLost) := goodIn_app (goodIn_of _ (by decide +kernel)) ggX8_lostFinds_X0_isLost
theorem dX8_lostFinds_0 : decode cX8_lostFinds 0 = .ok (.iconst 0, 1) := by decide +kernel
theorem dX8_lostFinds_1 : decode cX8_lostFinds 1 = .ok (.istore_n 1, 1) := by decide +kernel
theorem dX8_lostFinds_2 : decode cX8_lostFinds 2 = .ok (.iconst 0, 1) := by decide +kernel
theorem dX8_lostFinds_3 : decode cX8_lostFinds 3 = .ok (.istore_n 2, 1) := by decide +kernel
theorem dX8_lostFinds_4 : decode cX8_lostFinds 4 = .ok (.iload_n 2, 1) := by decide +kernel
theorem dX8_lostFinds_5 : decode cX8_lostFinds 5 = .ok (.aload_n 0, 1) := by decide +kernel
theorem dX8_lostFinds_6 : decode cX8_lostFinds 6 = .ok (.getfield 16, 3) := by decide +kernel
theorem dX8_lostFinds_9 : decode cX8_lostFinds 9 = .ok (.invokevirtual 64, 3) := by decide +kernel
theorem dX8_lostFinds_12 : decode cX8_lostFinds 12 = .ok (.if_icmp .ge 29, 3) := by decide +kernel
theorem dX8_lostFinds_15 : decode cX8_lostFinds 15 = .ok (.aload_n 0, 1) := by decide +kernel
theorem dX8_lostFinds_16 : decode cX8_lostFinds 16 = .ok (.getfield 16, 3) := by decide +kernel
theorem dX8_lostFinds_19 : decode cX8_lostFinds 19 = .ok (.iload_n 2, 1) := by decide +kernel
theorem dX8_lostFinds_20 : decode cX8_lostFinds 20 = .ok (.invokevirtual 114, 3) := by decide +kernel
theorem dX8_lostFinds_23 : decode cX8_lostFinds 23 = .ok (.checkcast 95, 3) := by decide +kernel
theorem dX8_lostFinds_26 : decode cX8_lostFinds 26 = .ok (.invokevirtual 194, 3) := by decide +kernel
theorem dX8_lostFinds_29 : decode cX8_lostFinds 29 = .ok (.ifCond .eq 6, 3) := by decide +kernel
theorem dX8_lostFinds_32 : decode cX8_lostFinds 32 = .ok (.iinc 1 1, 3) := by decide +kernel
theorem dX8_lostFinds_35 : decode cX8_lostFinds 35 = .ok (.iinc 2 1, 3) := by decide +kernel
theorem dX8_lostFinds_38 : decode cX8_lostFinds 38 = .ok (.goto (-34), 3) := by decide +kernel
theorem dX8_lostFinds_41 : decode cX8_lostFinds 41 = .ok (.iload_n 1, 1) := by decide +kernel
theorem dX8_lostFinds_42 : decode cX8_lostFinds 42 = .ok (.ireturn, 1) := by decide +kernel
set_option maxRecDepth 20000 in
theorem ggX8_leaveCause_J4_setLength_d00df : GoodIn wsX8_leaveCause wsJ4_setLength_d00df := goodIn_r _ [6, 7, 8, 9, 10, 11, 12, 13, 14, 15, 16, 17, 18, 19, 20, 21, 22, 23, 24, 25, 26, 27, 28, 29, 30, 31, 32, 33, 34, 35, 36, 37, 38, 39, 40, 41, 42, 43, 44, 45, 46, 47, 48, 49, 50, 51, 52, 53, 54, 55, 56, 57, 58, 59, 60, 61, 62, 63, 64, 65, 66, 67, 68, 69, 70, 71, 72, 73, 74, 75, 76, 77, 78, 5, 79, 80, 81, 82, 83, 84, 85, 86, 158, 159, 160, 161, 162, 163, 164, 165, 166, 167, 168, 169, 170, 171, 172, 173] (by decide +kernel) (by decide +kernel)
set_option maxRecDepth 20000 in
theorem gX8_leaveCause_J4_setLength_d00df : GoodIn wsX8_leaveCause (wsV RX8 379 RJ4 yJ4_setLength_d00df wsJ4_setLength_d00df) := goodIn_app (goodIn_of _ (by decide +kernel)) ggX8_leaveCause_J4_setLength_d00df
set_option maxRecDepth 20000 in
theorem ggX8_leaveCause_J4_append_cf468 : GoodIn wsX8_leaveCause wsJ4_append_cf468 := goodIn_r _ [90, 91, 92, 9, 93, 11, 94, 16, 17, 19, 20, 21, 22, 23, 24, 25, 26, 27, 28, 29, 30, 31, 32, 33, 34, 35, 36, 37, 38, 39, 40, 41, 42, 43, 44, 45, 46, 47, 48, 49, 50, 51, 52, 53, 54, 55, 56, 57, 58, 59, 60, 61, 62, 63, 64, 65, 66, 95, 96, 69, 97, 98, 99, 100, 101, 102, 103, 104, 84, 105, 106, 107, 108, 109, 110, 111, 112, 113, 114, 115, 116, 117, 118, 119, 120, 121, 122, 123, 124, 125, 126, 127, 128, 129, 130, 131, 132, 133, 134, 135, 136, 137, 138, 139, 140, 141, 142, 143, 144, 145, 146, 147, 148, 164, 165, 166, 167] (by decide +kernel) (by decide +kernel)
set_option maxRecDepth 20000 in
theorem gX8_leaveCause_J4_append_cf468 : GoodIn wsX8_leaveCause (wsV RX8 382 RJ4 yJ4_append_cf468 wsJ4_append_cf468) := goodIn_app (goodIn_of _ (by decide +kernel)) ggX8_leaveCause_J4_append_cf468
theorem dX8_leaveCause_0 : decode cX8_leaveCause 0 = .ok (.aload_n 0, 1) := by decide +kernel
theorem dX8_leaveCause_1 : decode cX8_leaveCause 1 = .ok (.getfield 53, 3) := by decide +kernel
theorem dX8_leaveCause_4 : decode cX8_leaveCause 4 = .ok (.iconst 0, 1) := by decide +kernel
theorem dX8_leaveCause_5 : decode cX8_leaveCause 5 = .ok (.invokevirtual 379, 3) := by decide +kernel
theorem dX8_leaveCause_8 : decode cX8_leaveCause 8 = .ok (.aload_n 0, 1) := by decide +kernel
theorem dX8_leaveCause_9 : decode cX8_leaveCause 9 = .ok (.getfield 53, 3) := by decide +kernel
theorem dX8_leaveCause_12 : decode cX8_leaveCause 12 = .ok (.iload_n 1, 1) := by decide +kernel
theorem dX8_leaveCause_13 : decode cX8_leaveCause 13 = .ok (.invokevirtual 382, 3) := by decide +kernel
theorem dX8_leaveCause_16 : decode cX8_leaveCause 16 = .ok (.pop, 1) := by decide +kernel
theorem dX8_leaveCause_17 : decode cX8_leaveCause 17 = .ok (.return_, 1) := by decide +kernel
set_option maxRecDepth 20000 in
theorem ggX8_leaveMergeCauses_X5_isOpen : GoodIn wsX8_leaveMergeCauses wsX5_isOpen := goodIn_r _ [7, 8, 165, 166, 167] (by decide +kernel) (by decide +kernel)
set_option maxRecDepth 20000 in
theorem gX8_leaveMergeCauses_X5_isOpen : GoodIn wsX8_leaveMergeCauses (wsV RX8 362 RX5 yX5_isOpen wsX5_isOpen) := goodIn_app (goodIn_of _ (by decide +kernel)) ggX8_leaveMergeCauses_X5_isOpen
set_option maxRecDepth 20000 in
theorem ggX8_leaveMergeCauses_J4_setLength_d00df : GoodIn wsX8_leaveMergeCauses wsJ4_setLength_d00df := goodIn_r _ [13, 14, 15, 16, 17, 18, 19, 20, 21, 22, 23, 24, 25, 26, 27, 28, 29, 30, 31, 32, 33, 34, 35, 36, 37, 38, 39, 40, 41, 42, 43, 44, 45, 46, 47, 48, 49, 50, 51, 52, 53, 54, 55, 56, 57, 58, 59, 60, 61, 62, 63, 64, 65, 66, 67, 68, 69, 70, 71, 72, 73, 74, 75, 76, 77, 78, 79, 80, 81, 82, 83, 84, 85, 12, 86, 87, 88, 89, 90, 91, 92, 93, 168, 169, 170, 171, 172, 173, 174, 175, 176, 177, 178, 179, 180, 181, 182, 183] (by decide +kernel) (by decide +kernel)
set_option maxRecDepth 20000 in
theorem gX8_leaveMergeCauses_J4_setLength_d00df : GoodIn wsX8_leaveMergeCauses (wsV RX8 379 RJ4 yJ4_setLength_d00df wsJ4_setLength_d00df) := goodIn_app (goodIn_of _ (by decide +kernel)) ggX8_leaveMergeCauses_J4_setLength_d00df
set_option maxRecDepth 20000 in
theorem ggX8_leaveMergeCauses_J4_append_cf468 : GoodIn wsX8_leaveMergeCauses wsJ4_append_cf468 := goodIn_r _ [97, 98, 99, 16, 100, 18, 101, 23, 24, 26, 27, 28, 29, 30, 31, 32, 33, 34, 35, 36, 37, 38, 39, 40, 41, 42, 43, 44, 45, 46, 47, 48, 49, 50, 51, 52, 53, 54, 55, 56, 57, 58, 59, 60, 61, 62, 63, 64, 65, 66, 67, 68, 69, 70, 71, 72, 73, 102, 103, 76, 104, 105, 106, 107, 108, 109, 110, 111, 91, 112, 113, 114, 115, 116, 117, 118, 119, 120, 121, 122, 123, 124, 125, 126, 127, 128, 129, 130, 131, 132, 133, 134, 135, 136, 137, 138, 139, 140, 141, 142, 143, 144, 145, 146, 147, 148, 149, 150, 151, 152, 153, 154, 155, 174, 175, 176, 177] (by decide +kernel) (by decide +kernel)
set_option maxRecDepth 20000 in
theorem gX8_leaveMergeCauses_J4_append_cf468 : GoodIn wsX8_leaveMergeCauses (wsV RX8 382 RJ4 yJ4_append_cf468 wsJ4_append_cf468) := goodIn_app (goodIn_of _ (by decide +kernel)) ggX8_leaveMergeCauses_J4_append_cf468
theorem dX8_leaveMergeCauses_0 : decode cX8_leaveMergeCauses 0 = .ok (.aload_n 1, 1) := by decide +kernel
theorem dX8_leaveMergeCauses_1 : decode cX8_leaveMergeCauses 1 = .ok (.ifnull 7, 3) := by decide +kernel
theorem dX8_leaveMergeCauses_4 : decode cX8_leaveMergeCauses 4 = .ok (.aload_n 2, 1) := by decide +kernel
theorem dX8_leaveMergeCauses_5 : decode cX8_leaveMergeCauses 5 = .ok (.ifnonnull 7, 3) := by decide +kernel
theorem dX8_leaveMergeCauses_8 : decode cX8_leaveMergeCauses 8 = .ok (.iconst 1, 1) := by decide +kernel
theorem dX8_leaveMergeCauses_9 : decode cX8_leaveMergeCauses 9 = .ok (.goto 4, 3) := by decide +kernel
theorem dX8_leaveMergeCauses_12 : decode cX8_leaveMergeCauses 12 = .ok (.iconst 0, 1) := by decide +kernel
theorem dX8_leaveMergeCauses_13 : decode cX8_leaveMergeCauses 13 = .ok (.istore_n 3, 1) := by decide +kernel
theorem dX8_leaveMergeCauses_14 : decode cX8_leaveMergeCauses 14 = .ok (.aload_n 0, 1) := by decide +kernel
theorem dX8_leaveMergeCauses_15 : decode cX8_leaveMergeCauses 15 = .ok (.getfield 36, 3) := by decide +kernel
theorem dX8_leaveMergeCauses_18 : decode cX8_leaveMergeCauses 18 = .ok (.aload_n 1, 1) := by decide +kernel
theorem dX8_leaveMergeCauses_19 : decode cX8_leaveMergeCauses 19 = .ok (.invokevirtual 362, 3) := by decide +kernel
theorem dX8_leaveMergeCauses_22 : decode cX8_leaveMergeCauses 22 = .ok (.ifCond .ne 14, 3) := by decide +kernel
theorem dX8_leaveMergeCauses_25 : decode cX8_leaveMergeCauses 25 = .ok (.aload_n 0, 1) := by decide +kernel
theorem dX8_leaveMergeCauses_26 : decode cX8_leaveMergeCauses 26 = .ok (.getfield 36, 3) := by decide +kernel
theorem dX8_leaveMergeCauses_29 : decode cX8_leaveMergeCauses 29 = .ok (.aload_n 2, 1) := by decide +kernel
theorem dX8_leaveMergeCauses_30 : decode cX8_leaveMergeCauses 30 = .ok (.invokevirtual 362, 3) := by decide +kernel
theorem dX8_leaveMergeCauses_33 : decode cX8_leaveMergeCauses 33 = .ok (.ifCond .eq 7, 3) := by decide +kernel
theorem dX8_leaveMergeCauses_36 : decode cX8_leaveMergeCauses 36 = .ok (.iconst 1, 1) := by decide +kernel
theorem dX8_leaveMergeCauses_37 : decode cX8_leaveMergeCauses 37 = .ok (.goto 4, 3) := by decide +kernel
theorem dX8_leaveMergeCauses_40 : decode cX8_leaveMergeCauses 40 = .ok (.iconst 0, 1) := by decide +kernel
theorem dX8_leaveMergeCauses_41 : decode cX8_leaveMergeCauses 41 = .ok (.istore 4, 2) := by decide +kernel
theorem dX8_leaveMergeCauses_43 : decode cX8_leaveMergeCauses 43 = .ok (.iload_n 3, 1) := by decide +kernel
theorem dX8_leaveMergeCauses_44 : decode cX8_leaveMergeCauses 44 = .ok (.ifCond .ne 9, 3) := by decide +kernel
theorem dX8_leaveMergeCauses_47 : decode cX8_leaveMergeCauses 47 = .ok (.iload 4, 2) := by decide +kernel
theorem dX8_leaveMergeCauses_49 : decode cX8_leaveMergeCauses 49 = .ok (.ifCond .ne 4, 3) := by decide +kernel
theorem dX8_leaveMergeCauses_52 : decode cX8_leaveMergeCauses 52 = .ok (.return_, 1) := by decide +kernel
theorem dX8_leaveMergeCauses_53 : decode cX8_leaveMergeCauses 53 = .ok (.aload_n 0, 1) := by decide +kernel
theorem dX8_leaveMergeCauses_54 : decode cX8_leaveMergeCauses 54 = .ok (.getfield 53, 3) := by decide +kernel
theorem dX8_leaveMergeCauses_57 : decode cX8_leaveMergeCauses 57 = .ok (.iconst 0, 1) := by decide +kernel
theorem dX8_leaveMergeCauses_58 : decode cX8_leaveMergeCauses 58 = .ok (.invokevirtual 379, 3) := by decide +kernel
theorem dX8_leaveMergeCauses_61 : decode cX8_leaveMergeCauses 61 = .ok (.aload_n 1, 1) := by decide +kernel
theorem dX8_leaveMergeCauses_62 : decode cX8_leaveMergeCauses 62 = .ok (.ifnonnull 13, 3) := by decide +kernel
theorem dX8_leaveMergeCauses_65 : decode cX8_leaveMergeCauses 65 = .ok (.aload_n 0, 1) := by decide +kernel
theorem dX8_leaveMergeCauses_66 : decode cX8_leaveMergeCauses 66 = .ok (.getfield 53, 3) := by decide +kernel
theorem dX8_leaveMergeCauses_69 : decode cX8_leaveMergeCauses 69 = .ok (.bipush 115, 2) := by decide +kernel
theorem dX8_leaveMergeCauses_71 : decode cX8_leaveMergeCauses 71 = .ok (.invokevirtual 382, 3) := by decide +kernel
theorem dX8_leaveMergeCauses_74 : decode cX8_leaveMergeCauses 74 = .ok (.pop, 1) := by decide +kernel
theorem dX8_leaveMergeCauses_75 : decode cX8_leaveMergeCauses 75 = .ok (.aload_n 2, 1) := by decide +kernel
theorem dX8_leaveMergeCauses_76 : decode cX8_leaveMergeCauses 76 = .ok (.ifnonnull 13, 3) := by decide +kernel
theorem dX8_leaveMergeCauses_79 : decode cX8_leaveMergeCauses 79 = .ok (.aload_n 0, 1) := by decide +kernel
theorem dX8_leaveMergeCauses_80 : decode cX8_leaveMergeCauses 80 = .ok (.getfield 53, 3) := by decide +kernel
theorem dX8_leaveMergeCauses_83 : decode cX8_leaveMergeCauses 83 = .ok (.bipush 115, 2) := by decide +kernel
theorem dX8_leaveMergeCauses_85 : decode cX8_leaveMergeCauses 85 = .ok (.invokevirtual 382, 3) := by decide +kernel
theorem dX8_leaveMergeCauses_88 : decode cX8_leaveMergeCauses 88 = .ok (.pop, 1) := by decide +kernel
theorem dX8_leaveMergeCauses_89 : decode cX8_leaveMergeCauses 89 = .ok (.iload 4, 2) := by decide +kernel
theorem dX8_leaveMergeCauses_91 : decode cX8_leaveMergeCauses 91 = .ok (.ifCond .eq 13, 3) := by decide +kernel
theorem dX8_leaveMergeCauses_94 : decode cX8_leaveMergeCauses 94 = .ok (.aload_n 0, 1) := by decide +kernel
theorem dX8_leaveMergeCauses_95 : decode cX8_leaveMergeCauses 95 = .ok (.getfield 53, 3) := by decide +kernel
theorem dX8_leaveMergeCauses_98 : decode cX8_leaveMergeCauses 98 = .ok (.bipush 111, 2) := by decide +kernel
theorem dX8_leaveMergeCauses_100 : decode cX8_leaveMergeCauses 100 = .ok (.invokevirtual 382, 3) := by decide +kernel
theorem dX8_leaveMergeCauses_103 : decode cX8_leaveMergeCauses 103 = .ok (.pop, 1) := by decide +kernel
theorem dX8_leaveMergeCauses_104 : decode cX8_leaveMergeCauses 104 = .ok (.return_, 1) := by decide +kernel
set_option maxRecDepth 20000 in
theorem ggX8_sendShipsBack_Jx4a65c_size_8abf5 : GoodIn wsX8_sendShipsBack wsJx4a65c_size_8abf5 := goodIn_r _ [9, 10, 134, 135, 136] (by decide +kernel) (by decide +kernel)
set_option maxRecDepth 20000 in
theorem gX8_sendShipsBack_Jx4a65c_size_8abf5 : GoodIn wsX8_sendShipsBack (wsV RX8 64 RJx4a65c yJx4a65c_size_8abf5 wsJx4a65c_size_8abf5) := goodIn_app (goodIn_of _ (by decide +kernel)) ggX8_sendShipsBack_Jx4a65c_size_8abf5
set_option maxRecDepth 20000 in
theorem ggX8_sendShipsBack_Jx4a65c_get_915e3 : GoodIn wsX8_sendShipsBack wsJx4a65c_get_915e3 := goodIn_r _ [14, 10, 15, 16, 17, 18, 19, 20, 21, 22, 23, 24, 25, 8, 26, 27, 134, 135, 136] (by decide +kernel) (by decide +kernel)
set_option maxRecDepth 20000 in
theorem gX8_sendShipsBack_Jx4a65c_get_915e3 : GoodIn wsX8_sendShipsBack (wsV RX8 114 RJx4a65c yJx4a65c_get_915e3 wsJx4a65c_get_915e3) := goodIn_app (goodIn_of _ (by decide +kernel)) ggX8_sendShipsBack_Jx4a65c_get_915e3
set_option maxRecDepth 20000 in
theorem ggX8_sendShipsBack_X3_isEmpty : GoodIn wsX8_sendShipsBack wsX3_isEmpty := goodIn_r _ [32, 33, 137, 138, 139] (by decide +kernel) (by decide +kernel)
set_option maxRecDepth 20000 in
theorem gX8_sendShipsBack_X3_isEmpty : GoodIn wsX8_sendShipsBack (wsV RX8 226 RX3 yX3_isEmpty wsX3_isEmpty) := goodIn_app (goodIn_of _ (by decide +kernel)) ggX8_sendShipsBack_X3_isEmpty
set_option maxRecDepth 20000 in
theorem ggX8_sendShipsBack_X8_isHit : GoodIn wsX8_sendShipsBack wsX8_isHit := goodIn_ca (goodIn_r _ [38, 39, 40, 41, 37, 42, 43, 44, 45, 46, 47, 48, 49, 50, 51, 52, 53, 54, 55, 56, 57, 58, 59, 60, 31, 61, 62, 63, 64, 65, 66, 67, 68, 69, 70, 71, 72, 6, 7, 8, 9, 10, 73, 12, 13, 14, 15, 16, 17, 18, 19, 20, 21, 22, 23, 24, 25, 26, 27, 74, 75, 76, 77, 78, 79, 80, 81, 82, 83, 84, 85, 86, 87, 88, 89, 90, 91, 92, 93, 94, 95, 96, 97, 98, 120, 121, 122, 123, 124, 125, 126, 127, 128, 140, 141, 142, 143, 144, 145, 146, 147, 148, 137, 138, 139, 149, 150, 151, 152, 153, 154, 155, 134, 135, 136] (by decide +kernel) (by decide +kernel)) (goodIn_sub (fun _ h => List.mem_cons_of_mem _ (List.mem_append_right _ h)) (by decide +kernel))
set_option maxRecDepth 20000 in
theorem gX8_sendShipsBack_X8_isHit : GoodIn wsX8_sendShipsBack (wsV RX8 241 RX8 yX8_isHit wsX8_isHit) := goodIn_app (goodIn_of _ (by decide +kernel)) ggX8_sendShipsBack_X8_isHit
set_option maxRecDepth 20000 in
theorem ggX8_sendShipsBack_X6_goBack : GoodIn wsX8_sendShipsBack wsX6_goBack := goodIn_r _ [103, 104, 105, 106, 107, 108, 109, 110, 111, 112, 102, 113, 114, 115, 79, 80, 81, 116, 117, 118, 31, 119, 33, 129, 130, 131, 132, 133, 141, 142, 143, 144, 145, 146, 137, 138, 139] (by decide +kernel) (by decide +kernel)
set_option maxRecDepth 20000 in
theorem gX8_sendShipsBack_X6_goBack : GoodIn wsX8_sendShipsBack (wsV RX8 385 RX6 yX6_goBack wsX6_goBack) := goodIn_app (goodIn_of _ (by decide +kernel)) ggX8_sendShipsBack_X6_goBack
theorem dX8_sendShipsBack_0 : decode cX8_sendShipsBack 0 = .ok (.iconst 0, 1) := by decide +kernel
theorem dX8_sendShipsBack_1 : decode cX8_sendShipsBack 1 = .ok (.istore_n 1, 1) := by decide +kernel
theorem dX8_sendShipsBack_2 : decode cX8_sendShipsBack 2 = .ok (.iconst 0, 1) := by decide +kernel
theorem dX8_sendShipsBack_3 : decode cX8_sendShipsBack 3 = .ok (.istore_n 2, 1) := by decide +kernel
theorem dX8_sendShipsBack_4 : decode cX8_sendShipsBack 4 = .ok (.iload_n 2, 1) := by decide +kernel
theorem dX8_sendShipsBack_5 : decode cX8_sendShipsBack 5 = .ok (.aload_n 0, 1) := by decide +kernel
theorem dX8_sendShipsBack_6 : decode cX8_sendShipsBack 6 = .ok (.getfield 40, 3) := by decide +kernel
theorem dX8_sendShipsBack_9 : decode cX8_sendShipsBack 9 = .ok (.invokevirtual 64, 3) := by decide +kernel
theorem dX8_sendShipsBack_12 : decode cX8_sendShipsBack 12 = .ok (.if_icmp .ge 53, 3) := by decide +kernel
theorem dX8_sendShipsBack_15 : decode cX8_sendShipsBack 15 = .ok (.aload_n 0, 1) := by decide +kernel
theorem dX8_sendShipsBack_16 : decode cX8_sendShipsBack 16 = .ok (.getfield 40, 3) := by decide +kernel
theorem dX8_sendShipsBack_19 : decode cX8_sendShipsBack 19 = .ok (.iload_n 2, 1) := by decide +kernel
theorem dX8_sendShipsBack_20 : decode cX8_sendShipsBack 20 = .ok (.invokevirtual 114, 3) := by decide +kernel
theorem dX8_sendShipsBack_23 : decode cX8_sendShipsBack 23 = .ok (.checkcast 112, 3) := by decide +kernel
theorem dX8_sendShipsBack_26 : decode cX8_sendShipsBack 26 = .ok (.astore_n 3, 1) := by decide +kernel
theorem dX8_sendShipsBack_27 : decode cX8_sendShipsBack 27 = .ok (.aload_n 3, 1) := by decide +kernel
theorem dX8_sendShipsBack_28 : decode cX8_sendShipsBack 28 = .ok (.getfield 280, 3) := by decide +kernel
theorem dX8_sendShipsBack_31 : decode cX8_sendShipsBack 31 = .ok (.invokevirtual 226, 3) := by decide +kernel
theorem dX8_sendShipsBack_34 : decode cX8_sendShipsBack 34 = .ok (.ifCond .ne 25, 3) := by decide +kernel
theorem dX8_sendShipsBack_37 : decode cX8_sendShipsBack 37 = .ok (.aload_n 0, 1) := by decide +kernel
theorem dX8_sendShipsBack_38 : decode cX8_sendShipsBack 38 = .ok (.aload_n 3, 1) := by decide +kernel
theorem dX8_sendShipsBack_39 : decode cX8_sendShipsBack 39 = .ok (.getfield 280, 3) := by decide +kernel
theorem dX8_sendShipsBack_42 : decode cX8_sendShipsBack 42 = .ok (.aload_n 3, 1) := by decide +kernel
theorem dX8_sendShipsBack_43 : decode cX8_sendShipsBack 43 = .ok (.getfield 245, 3) := by decide +kernel
theorem dX8_sendShipsBack_46 : decode cX8_sendShipsBack 46 = .ok (.invokevirtual 241, 3) := by decide +kernel
theorem dX8_sendShipsBack_49 : decode cX8_sendShipsBack 49 = .ok (.ifCond .ne 10, 3) := by decide +kernel
theorem dX8_sendShipsBack_52 : decode cX8_sendShipsBack 52 = .ok (.aload_n 3, 1) := by decide +kernel
theorem dX8_sendShipsBack_53 : decode cX8_sendShipsBack 53 = .ok (.invokevirtual 385, 3) := by decide +kernel
theorem dX8_sendShipsBack_56 : decode cX8_sendShipsBack 56 = .ok (.iinc 1 1, 3) := by decide +kernel
theorem dX8_sendShipsBack_59 : decode cX8_sendShipsBack 59 = .ok (.iinc 2 1, 3) := by decide +kernel
theorem dX8_sendShipsBack_62 : decode cX8_sendShipsBack 62 = .ok (.goto (-58), 3) := by decide +kernel
theorem dX8_sendShipsBack_65 : decode cX8_sendShipsBack 65 = .ok (.iload_n 1, 1) := by decide +kernel
theorem dX8_sendShipsBack_66 : decode cX8_sendShipsBack 66 = .ok (.ireturn, 1) := by decide +kernel
set_option maxRecDepth 20000 in
theorem ggX8_choicesOn_X7_choices : GoodIn wsX8_choicesOn wsX7_choices := goodIn_ca (goodIn_r _ [9, 10, 11, 12, 13, 14, 15, 16, 17, 18, 19, 20, 21, 22, 23, 24, 8, 25, 26, 27, 28, 29, 30, 31, 32, 33, 34, 35, 36, 37, 38, 39, 40, 41, 42, 43, 44, 45, 46, 47, 48, 49, 50, 51, 52, 53, 54, 55, 56, 57, 58, 59, 60, 61, 62, 63, 64, 65, 66, 67, 68, 69, 70, 71, 72, 73, 74, 75, 76, 77, 78, 95, 96, 97, 98, 99, 100, 101, 102, 103, 104, 105, 106, 107, 108, 109] (by decide +kernel) (by decide +kernel)) (goodIn_sub (fun _ h => List.mem_cons_of_mem _ (List.mem_append_right _ h)) (by decide +kernel))
set_option maxRecDepth 20000 in
theorem gX8_choicesOn_X7_choices : GoodIn wsX8_choicesOn (wsV RX8 389 RX7 yX7_choices wsX7_choices) := goodIn_app (goodIn_of _ (by decide +kernel)) ggX8_choicesOn_X7_choices
theorem dX8_choicesOn_0 : decode cX8_choicesOn 0 = .ok (.aload_n 0, 1) := by decide +kernel
theorem dX8_choicesOn_1 : decode cX8_choicesOn 1 = .ok (.getfield 29, 3) := by decide +kernel
theorem dX8_choicesOn_4 : decode cX8_choicesOn 4 = .ok (.aload_n 0, 1) := by decide +kernel
theorem dX8_choicesOn_5 : decode cX8_choicesOn 5 = .ok (.getfield 22, 3) := by decide +kernel
theorem dX8_choicesOn_8 : decode cX8_choicesOn 8 = .ok (.getfield 388, 3) := by decide +kernel
theorem dX8_choicesOn_11 : decode cX8_choicesOn 11 = .ok (.aload_n 2, 1) := by decide +kernel
theorem dX8_choicesOn_12 : decode cX8_choicesOn 12 = .ok (.aload_n 1, 1) := by decide +kernel
theorem dX8_choicesOn_13 : decode cX8_choicesOn 13 = .ok (.getfield 84, 3) := by decide +kernel
theorem dX8_choicesOn_16 : decode cX8_choicesOn 16 = .ok (.invokevirtual 389, 3) := by decide +kernel
theorem dX8_choicesOn_19 : decode cX8_choicesOn 19 = .ok (.ireturn, 1) := by decide +kernel
set_option maxRecDepth 20000 in
theorem ggX8_isHit_X8_choicesOn : GoodIn wsX8_isHit wsX8_choicesOn := goodIn_ca (goodIn_r _ [5, 6, 7, 8, 9, 10, 11, 12, 13, 14, 15, 16, 17, 18, 19, 20, 21, 22, 23, 24, 25, 26, 27, 28, 29, 30, 31, 32, 33, 34, 35, 36, 37, 38, 39, 40, 41, 42, 43, 44, 45, 46, 47, 48, 49, 50, 51, 52, 53, 54, 55, 56, 57, 58, 59, 60, 61, 62, 63, 64, 65, 66, 67, 68, 69, 70, 71, 72, 73, 74, 75, 76, 77, 78, 79, 80, 81, 82, 83, 84, 85, 86, 87, 88, 89, 90, 91, 92, 93, 94, 95, 96, 97, 98, 99, 100, 101, 102, 103, 104, 105, 106, 107, 108, 109, 110, 111, 112, 113, 114] (by decide +kernel) (by decide +kernel)) (goodIn_sub (fun _ h => List.mem_cons_of_mem _ (List.mem_append_right _ h)) (by decide +kernel))
set_option maxRecDepth 20000 in
theorem gX8_isHit_X8_choicesOn : GoodIn wsX8_isHit (wsV RX8 255 RX8 yX8_choicesOn wsX8_choicesOn) := goodIn_app (goodIn_of _ (by decide +kernel)) ggX8_isHit_X8_choicesOn
theorem dX8_isHit_0 : decode cX8_isHit 0 = .ok (.aload_n 0, 1) := by decide +kernel
theorem dX8_isHit_1 : decode cX8_isHit 1 = .ok (.aload_n 2, 1) := by decide +kernel
theorem dX8_isHit_2 : decode cX8_isHit 2 = .ok (.aload_n 1, 1) := by decide +kernel
theorem dX8_isHit_3 : decode cX8_isHit 3 = .ok (.invokevirtual 255, 3) := by decide +kernel
theorem dX8_isHit_6 : decode cX8_isHit 6 = .ok (.ifCond .le 7, 3) := by decide +kernel
theorem dX8_isHit_9 : decode cX8_isHit 9 = .ok (.iconst 1, 1) := by decide +kernel
theorem dX8_isHit_10 : decode cX8_isHit 10 = .ok (.goto 4, 3) := by decide +kernel
theorem dX8_isHit_13 : decode cX8_isHit 13 = .ok (.iconst 0, 1) := by decide +kernel
theorem dX8_isHit_14 : decode cX8_isHit 14 = .ok (.ireturn, 1) := by decide +kernel
set_option maxRecDepth 20000 in
theorem ggX8_weightOf_Jx4a65c_size_8abf5 : GoodIn wsX8_weightOf wsJx4a65c_size_8abf5 := goodIn_r _ [7, 8, 45, 46, 47] (by decide +kernel) (by decide +kernel)
set_option maxRecDepth 20000 in
theorem gX8_weightOf_Jx4a65c_size_8abf5 : GoodIn wsX8_weightOf (wsV RX8 64 RJx4a65c yJx4a65c_size_8abf5 wsJx4a65c_size_8abf5) := goodIn_app (goodIn_of _ (by decide +kernel)) ggX8_weightOf_Jx4a65c_size_8abf5
set_option maxRecDepth 20000 in
theorem ggX8_weightOf_X1_islandsOf : GoodIn wsX8_weightOf wsX1_islandsOf := goodIn_r _ [13, 14, 15, 16, 17, 18, 4, 5, 6, 7, 8, 19, 20, 21, 22, 23, 24, 25, 26, 27, 28, 29, 30, 31, 32, 33, 34, 35, 48, 49, 50, 51, 52, 53, 54, 55, 45, 46, 47] (by decide +kernel) (by decide +kernel)
set_option maxRecDepth 20000 in
theorem gX8_weightOf_X1_islandsOf : GoodIn wsX8_weightOf (wsV RX8 393 RX1 yX1_islandsOf wsX1_islandsOf) := goodIn_app (goodIn_of _ (by decide +kernel)) ggX8_weightOf_X1_islandsOf
theorem dX8_weightOf_0 : decode cX8_weightOf 0 = .ok (.fconst 1, 1) := by decide +kernel
theorem dX8_weightOf_1 : decode cX8_weightOf 1 = .ok (.aload_n 0, 1) := by decide +kernel
theorem dX8_weightOf_2 : decode cX8_weightOf 2 = .ok (.getfield 10, 3) := by decide +kernel
theorem dX8_weightOf_5 : decode cX8_weightOf 5 = .ok (.invokevirtual 64, 3) := by decide +kernel
theorem dX8_weightOf_8 : decode cX8_weightOf 8 = .ok (.i2f, 1) := by decide +kernel
theorem dX8_weightOf_9 : decode cX8_weightOf 9 = .ok (.iconst 1, 1) := by decide +kernel
theorem dX8_weightOf_10 : decode cX8_weightOf 10 = .ok (.aload_n 0, 1) := by decide +kernel
theorem dX8_weightOf_11 : decode cX8_weightOf 11 = .ok (.getfield 22, 3) := by decide +kernel
theorem dX8_weightOf_14 : decode cX8_weightOf 14 = .ok (.iload_n 1, 1) := by decide +kernel
theorem dX8_weightOf_15 : decode cX8_weightOf 15 = .ok (.invokevirtual 393, 3) := by decide +kernel
theorem dX8_weightOf_18 : decode cX8_weightOf 18 = .ok (.iadd, 1) := by decide +kernel
theorem dX8_weightOf_19 : decode cX8_weightOf 19 = .ok (.i2f, 1) := by decide +kernel
theorem dX8_weightOf_20 : decode cX8_weightOf 20 = .ok (.fdiv, 1) := by decide +kernel
theorem dX8_weightOf_21 : decode cX8_weightOf 21 = .ok (.fadd, 1) := by decide +kernel
theorem dX8_weightOf_22 : decode cX8_weightOf 22 = .ok (.freturn, 1) := by decide +kernel
set_option maxRecDepth 20000 in
theorem ggX8_weightOfMap_X3_wordAt : GoodIn wsX8_weightOfMap wsX3_wordAt := goodIn_ca (goodIn_r _ [6, 7, 48, 49, 50] (by decide +kernel) (by decide +kernel)) (goodIn_sub (fun _ h => List.mem_cons_of_mem _ (List.mem_append_right _ h)) (by decide +kernel))
set_option maxRecDepth 20000 in
theorem gX8_weightOfMap_X3_wordAt : GoodIn wsX8_weightOfMap (wsV RX8 396 RX3 yX3_wordAt wsX3_wordAt) := goodIn_app (goodIn_of _ (by decide +kernel)) ggX8_weightOfMap_X3_wordAt
set_option maxRecDepth 20000 in
theorem ggX8_weightOfMap_X8_weightOf : GoodIn wsX8_weightOfMap wsX8_weightOf := goodIn_r _ [12, 13, 14, 15, 16, 17, 18, 19, 20, 21, 22, 23, 24, 25, 26, 27, 28, 29, 30, 31, 32, 33, 34, 35, 36, 37, 38, 39, 40, 41, 42, 43, 44, 45, 46, 47, 51, 52, 53, 54, 55, 56, 57, 58, 59, 60, 61, 62, 63, 64, 65, 66, 67, 68, 69, 70] (by decide +kernel) (by decide +kernel)
set_option maxRecDepth 20000 in
theorem gX8_weightOfMap_X8_weightOf : GoodIn wsX8_weightOfMap (wsV RX8 222 RX8 yX8_weightOf wsX8_weightOf) := goodIn_app (goodIn_of _ (by decide +kernel)) ggX8_weightOfMap_X8_weightOf
theorem dX8_weightOfMap_0 : decode cX8_weightOfMap 0 = .ok (.fconst 0, 1) := by decide +kernel
theorem dX8_weightOfMap_1 : decode cX8_weightOfMap 1 = .ok (.fstore_n 2, 1) := by decide +kernel
theorem dX8_weightOfMap_2 : decode cX8_weightOfMap 2 = .ok (.iconst 0, 1) := by decide +kernel
theorem dX8_weightOfMap_3 : decode cX8_weightOfMap 3 = .ok (.istore_n 3, 1) := by decide +kernel
theorem dX8_weightOfMap_4 : decode cX8_weightOfMap 4 = .ok (.iload_n 3, 1) := by decide +kernel
theorem dX8_weightOfMap_5 : decode cX8_weightOfMap 5 = .ok (.aload_n 1, 1) := by decide +kernel
theorem dX8_weightOfMap_6 : decode cX8_weightOfMap 6 = .ok (.getfield 227, 3) := by decide +kernel
theorem dX8_weightOfMap_9 : decode cX8_weightOfMap 9 = .ok (.if_icmp .ge 21, 3) := by decide +kernel
theorem dX8_weightOfMap_12 : decode cX8_weightOfMap 12 = .ok (.fload_n 2, 1) := by decide +kernel
theorem dX8_weightOfMap_13 : decode cX8_weightOfMap 13 = .ok (.aload_n 0, 1) := by decide +kernel
theorem dX8_weightOfMap_14 : decode cX8_weightOfMap 14 = .ok (.aload_n 1, 1) := by decide +kernel
theorem dX8_weightOfMap_15 : decode cX8_weightOfMap 15 = .ok (.iload_n 3, 1) := by decide +kernel
theorem dX8_weightOfMap_16 : decode cX8_weightOfMap 16 = .ok (.invokevirtual 396, 3) := by decide +kernel
theorem dX8_weightOfMap_19 : decode cX8_weightOfMap 19 = .ok (.invokevirtual 222, 3) := by decide +kernel
theorem dX8_weightOfMap_22 : decode cX8_weightOfMap 22 = .ok (.fadd, 1) := by decide +kernel
theorem dX8_weightOfMap_23 : decode cX8_weightOfMap 23 = .ok (.fstore_n 2, 1) := by decide +kernel
theorem dX8_weightOfMap_24 : decode cX8_weightOfMap 24 = .ok (.iinc 3 1, 3) := by decide +kernel
theorem dX8_weightOfMap_27 : decode cX8_weightOfMap 27 = .ok (.goto (-23), 3) := by decide +kernel
theorem dX8_weightOfMap_30 : decode cX8_weightOfMap 30 = .ok (.fload_n 2, 1) := by decide +kernel
theorem dX8_weightOfMap_31 : decode cX8_weightOfMap 31 = .ok (.freturn, 1) := by decide +kernel
set_option maxRecDepth 20000 in
theorem ggX8_scoreIsles_X8_weightOfMap : GoodIn wsX8_scoreIsles wsX8_weightOfMap := goodIn_ca (goodIn_r _ [9, 10, 11, 12, 13, 14, 15, 16, 17, 18, 19, 8, 20, 2, 21, 22, 23, 24, 25, 26, 27, 28, 29, 30, 31, 32, 33, 34, 35, 36, 37, 38, 39, 40, 41, 42, 43, 44, 45, 46, 47, 48, 49, 50, 51, 52, 53, 54, 126, 127, 128, 111, 112, 113, 114, 115, 116, 117, 118, 119, 129, 130, 131, 132, 133, 134, 135, 136, 137, 138, 139] (by decide +kernel) (by decide +kernel)) (goodIn_sub (fun _ h => List.mem_cons_of_mem _ (List.mem_append_right _ h)) (by decide +kernel))
set_option maxRecDepth 20000 in
theorem gX8_scoreIsles_X8_weightOfMap : GoodIn wsX8_scoreIsles (wsV RX8 259 RX8 yX8_weightOfMap wsX8_weightOfMap) := goodIn_app (goodIn_of _ (by decide +kernel)) ggX8_scoreIsles_X8_weightOfMap
set_option maxRecDepth 20000 in
theorem ggX8_scoreIsles_Jx4a65c_size_8abf5 : GoodIn wsX8_scoreIsles wsJx4a65c_size_8abf5 := goodIn_r _ [26, 27, 129, 130, 131] (by decide +kernel) (by decide +kernel)
set_option maxRecDepth 20000 in
theorem gX8_scoreIsles_Jx4a65c_size_8abf5 : GoodIn wsX8_scoreIsles (wsV RX8 64 RJx4a65c yJx4a65c_size_8abf5 wsJx4a65c_size_8abf5) := goodIn_app (goodIn_of _ (by decide +kernel)) ggX8_scoreIsles_Jx4a65c_size_8abf5
set_option maxRecDepth 20000 in
theorem ggX8_scoreIsles_Jx4a65c_get_915e3 : GoodIn wsX8_scoreIsles wsJx4a65c_get_915e3 := goodIn_r _ [41, 27, 42, 43, 44, 45, 46, 47, 48, 49, 50, 51, 52, 25, 53, 54, 129, 130, 131] (by decide +kernel) (by decide +kernel)
set_option maxRecDepth 20000 in
theorem gX8_scoreIsles_Jx4a65c_get_915e3 : GoodIn wsX8_scoreIsles (wsV RX8 114 RJx4a65c yJx4a65c_get_915e3 wsJx4a65c_get_915e3) := goodIn_app (goodIn_of _ (by decide +kernel)) ggX8_scoreIsles_Jx4a65c_get_915e3
set_option maxRecDepth 20000 in
theorem ggX8_scoreIsles_X8_choicesOn : GoodIn wsX8_scoreIsles wsX8_choicesOn := goodIn_ca (goodIn_r _ [59, 60, 21, 61, 62, 63, 64, 65, 66, 67, 68, 69, 70, 71, 72, 73, 74, 12, 13, 14, 15, 16, 75, 76, 77, 78, 79, 80, 81, 82, 83, 84, 23, 24, 25, 26, 27, 85, 39, 40, 41, 42, 43, 44, 45, 46, 47, 48, 49, 50, 51, 52, 53, 54, 86, 87, 88, 89, 90, 91, 92, 93, 94, 95, 96, 97, 98, 99, 100, 101, 102, 103, 104, 105, 106, 107, 108, 109, 110, 111, 112, 113, 114, 115, 116, 117, 118, 119, 132, 120, 121, 122, 123, 124, 125, 140, 141, 126, 127, 128, 133, 134, 135, 136, 137, 138, 139, 129, 130, 131] (by decide +kernel) (by decide +kernel)) (goodIn_sub (fun _ h => List.mem_cons_of_mem _ (List.mem_append_right _ h)) (by decide +kernel))
set_option maxRecDepth 20000 in
theorem gX8_scoreIsles_X8_choicesOn : GoodIn wsX8_scoreIsles (wsV RX8 255 RX8 yX8_choicesOn wsX8_choicesOn) := goodIn_app (goodIn_of _ (by decide +kernel)) ggX8_scoreIsles_X8_choicesOn
theorem dX8_scoreIsles_0 : decode cX8_scoreIsles 0 = .ok (.aload_n 0, 1) := by decide +kernel
theorem dX8_scoreIsles_1 : decode cX8_scoreIsles 1 = .ok (.aload_n 0, 1) := by decide +kernel
theorem dX8_scoreIsles_2 : decode cX8_scoreIsles 2 = .ok (.getfield 46, 3) := by decide +kernel
theorem dX8_scoreIsles_5 : decode cX8_scoreIsles 5 = .ok (.invokevirtual 259, 3) := by decide +kernel
theorem dX8_scoreIsles_8 : decode cX8_scoreIsles 8 = .ok (.fstore_n 1, 1) := by decide +kernel
theorem dX8_scoreIsles_9 : decode cX8_scoreIsles 9 = .ok (.iconst 0, 1) := by decide +kernel
theorem dX8_scoreIsles_10 : decode cX8_scoreIsles 10 = .ok (.istore_n 2, 1) := by decide +kernel
theorem dX8_scoreIsles_11 : decode cX8_scoreIsles 11 = .ok (.iload_n 2, 1) := by decide +kernel
theorem dX8_scoreIsles_12 : decode cX8_scoreIsles 12 = .ok (.aload_n 0, 1) := by decide +kernel
theorem dX8_scoreIsles_13 : decode cX8_scoreIsles 13 = .ok (.getfield 10, 3) := by decide +kernel
theorem dX8_scoreIsles_16 : decode cX8_scoreIsles 16 = .ok (.invokevirtual 64, 3) := by decide +kernel
theorem dX8_scoreIsles_19 : decode cX8_scoreIsles 19 = .ok (.if_icmp .ge 37, 3) := by decide +kernel
theorem dX8_scoreIsles_22 : decode cX8_scoreIsles 22 = .ok (.aload_n 0, 1) := by decide +kernel
theorem dX8_scoreIsles_23 : decode cX8_scoreIsles 23 = .ok (.getfield 10, 3) := by decide +kernel
theorem dX8_scoreIsles_26 : decode cX8_scoreIsles 26 = .ok (.iload_n 2, 1) := by decide +kernel
theorem dX8_scoreIsles_27 : decode cX8_scoreIsles 27 = .ok (.invokevirtual 114, 3) := by decide +kernel
theorem dX8_scoreIsles_30 : decode cX8_scoreIsles 30 = .ok (.checkcast 75, 3) := by decide +kernel
theorem dX8_scoreIsles_33 : decode cX8_scoreIsles 33 = .ok (.astore_n 3, 1) := by decide +kernel
theorem dX8_scoreIsles_34 : decode cX8_scoreIsles 34 = .ok (.aload_n 3, 1) := by decide +kernel
theorem dX8_scoreIsles_35 : decode cX8_scoreIsles 35 = .ok (.fload_n 1, 1) := by decide +kernel
theorem dX8_scoreIsles_36 : decode cX8_scoreIsles 36 = .ok (.aload_n 0, 1) := by decide +kernel
theorem dX8_scoreIsles_37 : decode cX8_scoreIsles 37 = .ok (.aload_n 3, 1) := by decide +kernel
theorem dX8_scoreIsles_38 : decode cX8_scoreIsles 38 = .ok (.aload_n 0, 1) := by decide +kernel
theorem dX8_scoreIsles_39 : decode cX8_scoreIsles 39 = .ok (.getfield 46, 3) := by decide +kernel
theorem dX8_scoreIsles_42 : decode cX8_scoreIsles 42 = .ok (.invokevirtual 255, 3) := by decide +kernel
theorem dX8_scoreIsles_45 : decode cX8_scoreIsles 45 = .ok (.i2f, 1) := by decide +kernel
theorem dX8_scoreIsles_46 : decode cX8_scoreIsles 46 = .ok (.fmul, 1) := by decide +kernel
theorem dX8_scoreIsles_47 : decode cX8_scoreIsles 47 = .ok (.putfield 399, 3) := by decide +kernel
theorem dX8_scoreIsles_50 : decode cX8_scoreIsles 50 = .ok (.iinc 2 1, 3) := by decide +kernel
theorem dX8_scoreIsles_53 : decode cX8_scoreIsles 53 = .ok (.goto (-42), 3) := by decide +kernel
theorem dX8_scoreIsles_56 : decode cX8_scoreIsles 56 = .ok (.return_, 1) := by decide +kernel
set_option maxRecDepth 20000 in
theorem ggX8_hitRanked_X8_scoreIsles : GoodIn wsX8_hitRanked wsX8_scoreIsles := goodIn_ca (goodIn_r _ [8, 9, 1, 2, 3, 10, 11, 12, 7, 13, 14, 15, 16, 17, 18, 19, 20, 21, 22, 23, 24, 25, 26, 27, 28, 29, 30, 31, 32, 33, 34, 35, 36, 37, 38, 39, 40, 41, 42, 43, 44, 45, 46, 47, 48, 49, 50, 51, 52, 53, 54, 55, 56, 57, 58, 59, 60, 61, 62, 63, 64, 65, 66, 67, 68, 69, 70, 71, 72, 73, 74, 75, 76, 77, 78, 79, 80, 81, 82, 83, 84, 85, 86, 87, 88, 89, 90, 91, 92, 93, 94, 95, 96, 97, 98, 99, 100, 101, 102, 103, 104, 105, 106, 107, 108, 109, 110, 111, 112, 113, 114, 132, 133, 134, 135, 136, 137, 138, 139, 140, 141, 142, 143, 144, 145, 146, 147, 148, 149, 150, 151, 152, 153, 154, 155, 156, 157, 158, 159, 160, 161, 162] (by decide +kernel) (by decide +kernel)) (goodIn_sub (fun _ h => List.mem_cons_of_mem _ (List.mem_append_right _ h)) (by decide +kernel))
set_option maxRecDepth 20000 in
theorem gX8_hitRanked_X8_scoreIsles : GoodIn wsX8_hitRanked (wsV RX8 403 RX8 yX8_scoreIsles wsX8_scoreIsles) := goodIn_app (goodIn_of _ (by decide +kernel)) ggX8_hitRanked_X8_scoreIsles
set_option maxRecDepth 20000 in
theorem ggX8_hitRanked_Jx4a65c_size_8abf5 : GoodIn wsX8_hitRanked wsJx4a65c_size_8abf5 := goodIn_r _ [30, 31, 150, 151, 152] (by decide +kernel) (by decide +kernel)
set_option maxRecDepth 20000 in
theorem gX8_hitRanked_Jx4a65c_size_8abf5 : GoodIn wsX8_hitRanked (wsV RX8 64 RJx4a65c yJx4a65c_size_8abf5 wsJx4a65c_size_8abf5) := goodIn_app (goodIn_of _ (by decide +kernel)) ggX8_hitRanked_Jx4a65c_size_8abf5
set_option maxRecDepth 20000 in
theorem ggX8_hitRanked_Jx4a65c_get_915e3 : GoodIn wsX8_hitRanked wsJx4a65c_get_915e3 := goodIn_r _ [45, 31, 46, 47, 48, 49, 50, 51, 52, 53, 54, 55, 56, 29, 57, 58, 150, 151, 152] (by decide +kernel) (by decide +kernel)
set_option maxRecDepth 20000 in
theorem gX8_hitRanked_Jx4a65c_get_915e3 : GoodIn wsX8_hitRanked (wsV RX8 114 RJx4a65c yJx4a65c_get_915e3 wsJx4a65c_get_915e3) := goodIn_app (goodIn_of _ (by decide +kernel)) ggX8_hitRanked_Jx4a65c_get_915e3
set_option maxRecDepth 20000 in
theorem ggX8_hitRanked_X8_hitsAheadOf : GoodIn wsX8_hitRanked wsX8_hitsAheadOf := goodIn_r _ [118, 1, 2, 26, 27, 28, 29, 30, 31, 59, 43, 44, 45, 46, 47, 48, 49, 50, 51, 52, 53, 54, 55, 56, 57, 58, 119, 120, 121, 122, 123, 124, 125, 126, 127, 128, 129, 130, 131, 132, 133, 134, 135, 136, 137, 138, 139, 140, 150, 151, 152, 141, 142, 143, 144, 145, 146] (by decide +kernel) (by decide +kernel)
set_option maxRecDepth 20000 in
theorem gX8_hitRanked_X8_hitsAheadOf : GoodIn wsX8_hitRanked (wsV RX8 406 RX8 yX8_hitsAheadOf wsX8_hitsAheadOf) := goodIn_app (goodIn_of _ (by decide +kernel)) ggX8_hitRanked_X8_hitsAheadOf
theorem dX8_hitRanked_0 : decode cX8_hitRanked 0 = .ok (.aload_n 0, 1) := by decide +kernel
theorem dX8_hitRanked_1 : decode cX8_hitRanked 1 = .ok (.invokevirtual 403, 3) := by decide +kernel
theorem dX8_hitRanked_4 : decode cX8_hitRanked 4 = .ok (.iconst 0, 1) := by decide +kernel
theorem dX8_hitRanked_5 : decode cX8_hitRanked 5 = .ok (.istore_n 3, 1) := by decide +kernel
theorem dX8_hitRanked_6 : decode cX8_hitRanked 6 = .ok (.iload_n 3, 1) := by decide +kernel
theorem dX8_hitRanked_7 : decode cX8_hitRanked 7 = .ok (.aload_n 0, 1) := by decide +kernel
theorem dX8_hitRanked_8 : decode cX8_hitRanked 8 = .ok (.getfield 10, 3) := by decide +kernel
theorem dX8_hitRanked_11 : decode cX8_hitRanked 11 = .ok (.invokevirtual 64, 3) := by decide +kernel
theorem dX8_hitRanked_14 : decode cX8_hitRanked 14 = .ok (.if_icmp .ge 46, 3) := by decide +kernel
theorem dX8_hitRanked_17 : decode cX8_hitRanked 17 = .ok (.aload_n 0, 1) := by decide +kernel
theorem dX8_hitRanked_18 : decode cX8_hitRanked 18 = .ok (.getfield 10, 3) := by decide +kernel
theorem dX8_hitRanked_21 : decode cX8_hitRanked 21 = .ok (.iload_n 3, 1) := by decide +kernel
theorem dX8_hitRanked_22 : decode cX8_hitRanked 22 = .ok (.invokevirtual 114, 3) := by decide +kernel
theorem dX8_hitRanked_25 : decode cX8_hitRanked 25 = .ok (.checkcast 75, 3) := by decide +kernel
theorem dX8_hitRanked_28 : decode cX8_hitRanked 28 = .ok (.astore 4, 2) := by decide +kernel
theorem dX8_hitRanked_30 : decode cX8_hitRanked 30 = .ok (.aload 4, 2) := by decide +kernel
theorem dX8_hitRanked_32 : decode cX8_hitRanked 32 = .ok (.getfield 399, 3) := by decide +kernel
theorem dX8_hitRanked_35 : decode cX8_hitRanked 35 = .ok (.fconst 0, 1) := by decide +kernel
theorem dX8_hitRanked_36 : decode cX8_hitRanked 36 = .ok (.fcmp .l, 1) := by decide +kernel
theorem dX8_hitRanked_37 : decode cX8_hitRanked 37 = .ok (.ifCond .le 17, 3) := by decide +kernel
theorem dX8_hitRanked_40 : decode cX8_hitRanked 40 = .ok (.aload_n 0, 1) := by decide +kernel
theorem dX8_hitRanked_41 : decode cX8_hitRanked 41 = .ok (.aload 4, 2) := by decide +kernel
theorem dX8_hitRanked_43 : decode cX8_hitRanked 43 = .ok (.aload_n 2, 1) := by decide +kernel
theorem dX8_hitRanked_44 : decode cX8_hitRanked 44 = .ok (.invokevirtual 406, 3) := by decide +kernel
theorem dX8_hitRanked_47 : decode cX8_hitRanked 47 = .ok (.iload_n 1, 1) := by decide +kernel
theorem dX8_hitRanked_48 : decode cX8_hitRanked 48 = .ok (.if_icmp .ne 6, 3) := by decide +kernel
theorem dX8_hitRanked_51 : decode cX8_hitRanked 51 = .ok (.aload 4, 2) := by decide +kernel
theorem dX8_hitRanked_53 : decode cX8_hitRanked 53 = .ok (.areturn, 1) := by decide +kernel
theorem dX8_hitRanked_54 : decode cX8_hitRanked 54 = .ok (.iinc 3 1, 3) := by decide +kernel
theorem dX8_hitRanked_57 : decode cX8_hitRanked 57 = .ok (.goto (-51), 3) := by decide +kernel
theorem dX8_hitRanked_60 : decode cX8_hitRanked 60 = .ok (.aconst_null, 1) := by decide +kernel
theorem dX8_hitRanked_61 : decode cX8_hitRanked 61 = .ok (.areturn, 1) := by decide +kernel
set_option maxRecDepth 20000 in
theorem ggX8_hitsAheadOf_Jx4a65c_size_8abf5 : GoodIn wsX8_hitsAheadOf wsJx4a65c_size_8abf5 := goodIn_r _ [7, 8, 48, 49, 50] (by decide +kernel) (by decide +kernel)
set_option maxRecDepth 20000 in
theorem gX8_hitsAheadOf_Jx4a65c_size_8abf5 : GoodIn wsX8_hitsAheadOf (wsV RX8 64 RJx4a65c yJx4a65c_size_8abf5 wsJx4a65c_size_8abf5) := goodIn_app (goodIn_of _ (by decide +kernel)) ggX8_hitsAheadOf_Jx4a65c_size_8abf5
set_option maxRecDepth 20000 in
theorem ggX8_hitsAheadOf_Jx4a65c_get_915e3 : GoodIn wsX8_hitsAheadOf wsJx4a65c_get_915e3 := goodIn_r _ [12, 8, 13, 14, 15, 16, 17, 18, 19, 20, 21, 22, 23, 6, 24, 25, 48, 49, 50] (by decide +kernel) (by decide +kernel)
set_option maxRecDepth 20000 in
theorem gX8_hitsAheadOf_Jx4a65c_get_915e3 : GoodIn wsX8_hitsAheadOf (wsV RX8 114 RJx4a65c yJx4a65c_get_915e3 wsJx4a65c_get_915e3) := goodIn_app (goodIn_of _ (by decide +kernel)) ggX8_hitsAheadOf_Jx4a65c_get_915e3
set_option maxRecDepth 20000 in
theorem ggX8_hitsAheadOf_X2_ranksAheadOf : GoodIn wsX8_hitsAheadOf wsX2_ranksAheadOf := goodIn_r _ [30, 31, 32, 33, 34, 35, 29, 36, 37, 38, 51, 52, 53, 54, 55, 56] (by decide +kernel) (by decide +kernel)
set_option maxRecDepth 20000 in
theorem gX8_hitsAheadOf_X2_ranksAheadOf : GoodIn wsX8_hitsAheadOf (wsV RX8 410 RX2 yX2_ranksAheadOf wsX2_ranksAheadOf) := goodIn_app (goodIn_of _ (by decide +kernel)) ggX8_hitsAheadOf_X2_ranksAheadOf
theorem dX8_hitsAheadOf_0 : decode cX8_hitsAheadOf 0 = .ok (.iconst 0, 1) := by decide +kernel
theorem dX8_hitsAheadOf_1 : decode cX8_hitsAheadOf 1 = .ok (.istore_n 3, 1) := by decide +kernel
theorem dX8_hitsAheadOf_2 : decode cX8_hitsAheadOf 2 = .ok (.iconst 0, 1) := by decide +kernel
theorem dX8_hitsAheadOf_3 : decode cX8_hitsAheadOf 3 = .ok (.istore 4, 2) := by decide +kernel
theorem dX8_hitsAheadOf_5 : decode cX8_hitsAheadOf 5 = .ok (.iload 4, 2) := by decide +kernel
theorem dX8_hitsAheadOf_7 : decode cX8_hitsAheadOf 7 = .ok (.aload_n 0, 1) := by decide +kernel
theorem dX8_hitsAheadOf_8 : decode cX8_hitsAheadOf 8 = .ok (.getfield 10, 3) := by decide +kernel
theorem dX8_hitsAheadOf_11 : decode cX8_hitsAheadOf 11 = .ok (.invokevirtual 64, 3) := by decide +kernel
theorem dX8_hitsAheadOf_14 : decode cX8_hitsAheadOf 14 = .ok (.if_icmp .ge 32, 3) := by decide +kernel
theorem dX8_hitsAheadOf_17 : decode cX8_hitsAheadOf 17 = .ok (.aload_n 0, 1) := by decide +kernel
theorem dX8_hitsAheadOf_18 : decode cX8_hitsAheadOf 18 = .ok (.getfield 10, 3) := by decide +kernel
theorem dX8_hitsAheadOf_21 : decode cX8_hitsAheadOf 21 = .ok (.iload 4, 2) := by decide +kernel
theorem dX8_hitsAheadOf_23 : decode cX8_hitsAheadOf 23 = .ok (.invokevirtual 114, 3) := by decide +kernel
theorem dX8_hitsAheadOf_26 : decode cX8_hitsAheadOf 26 = .ok (.checkcast 75, 3) := by decide +kernel
theorem dX8_hitsAheadOf_29 : decode cX8_hitsAheadOf 29 = .ok (.aload_n 1, 1) := by decide +kernel
theorem dX8_hitsAheadOf_30 : decode cX8_hitsAheadOf 30 = .ok (.aload_n 2, 1) := by decide +kernel
theorem dX8_hitsAheadOf_31 : decode cX8_hitsAheadOf 31 = .ok (.invokevirtual 410, 3) := by decide +kernel
theorem dX8_hitsAheadOf_34 : decode cX8_hitsAheadOf 34 = .ok (.ifCond .eq 6, 3) := by decide +kernel
theorem dX8_hitsAheadOf_37 : decode cX8_hitsAheadOf 37 = .ok (.iinc 3 1, 3) := by decide +kernel
theorem dX8_hitsAheadOf_40 : decode cX8_hitsAheadOf 40 = .ok (.iinc 4 1, 3) := by decide +kernel
theorem dX8_hitsAheadOf_43 : decode cX8_hitsAheadOf 43 = .ok (.goto (-38), 3) := by decide +kernel
theorem dX8_hitsAheadOf_46 : decode cX8_hitsAheadOf 46 = .ok (.iload_n 3, 1) := by decide +kernel
theorem dX8_hitsAheadOf_47 : decode cX8_hitsAheadOf 47 = .ok (.ireturn, 1) := by decide +kernel
theorem dX8_bitsOf_0 : decode cX8_bitsOf 0 = .ok (.bipush 127, 2) := by decide +kernel
theorem dX8_bitsOf_2 : decode cX8_bitsOf 2 = .ok (.istore_n 1, 1) := by decide +kernel
theorem dX8_bitsOf_3 : decode cX8_bitsOf 3 = .ok (.fload_n 0, 1) := by decide +kernel
theorem dX8_bitsOf_4 : decode cX8_bitsOf 4 = .ok (.fstore_n 2, 1) := by decide +kernel
theorem dX8_bitsOf_5 : decode cX8_bitsOf 5 = .ok (.fload_n 2, 1) := by decide +kernel
theorem dX8_bitsOf_6 : decode cX8_bitsOf 6 = .ok (.fconst 2, 1) := by decide +kernel
theorem dX8_bitsOf_7 : decode cX8_bitsOf 7 = .ok (.fcmp .l, 1) := by decide +kernel
theorem dX8_bitsOf_8 : decode cX8_bitsOf 8 = .ok (.ifCond .lt 20, 3) := by decide +kernel
theorem dX8_bitsOf_11 : decode cX8_bitsOf 11 = .ok (.iload_n 1, 1) := by decide +kernel
theorem dX8_bitsOf_12 : decode cX8_bitsOf 12 = .ok (.sipush 254, 3) := by decide +kernel
theorem dX8_bitsOf_15 : decode cX8_bitsOf 15 = .ok (.if_icmp .ge 13, 3) := by decide +kernel
theorem dX8_bitsOf_18 : decode cX8_bitsOf 18 = .ok (.fload_n 2, 1) := by decide +kernel
theorem dX8_bitsOf_19 : decode cX8_bitsOf 19 = .ok (.fconst 2, 1) := by decide +kernel
theorem dX8_bitsOf_20 : decode cX8_bitsOf 20 = .ok (.fdiv, 1) := by decide +kernel
theorem dX8_bitsOf_21 : decode cX8_bitsOf 21 = .ok (.fstore_n 2, 1) := by decide +kernel
theorem dX8_bitsOf_22 : decode cX8_bitsOf 22 = .ok (.iinc 1 1, 3) := by decide +kernel
theorem dX8_bitsOf_25 : decode cX8_bitsOf 25 = .ok (.goto (-20), 3) := by decide +kernel
theorem dX8_bitsOf_28 : decode cX8_bitsOf 28 = .ok (.fload_n 2, 1) := by decide +kernel
theorem dX8_bitsOf_29 : decode cX8_bitsOf 29 = .ok (.fconst 1, 1) := by decide +kernel
theorem dX8_bitsOf_30 : decode cX8_bitsOf 30 = .ok (.fsub, 1) := by decide +kernel
theorem dX8_bitsOf_31 : decode cX8_bitsOf 31 = .ok (.ldc_w 414, 3) := by decide +kernel
theorem dX8_bitsOf_34 : decode cX8_bitsOf 34 = .ok (.fmul, 1) := by decide +kernel
theorem dX8_bitsOf_35 : decode cX8_bitsOf 35 = .ok (.f2i, 1) := by decide +kernel
theorem dX8_bitsOf_36 : decode cX8_bitsOf 36 = .ok (.istore_n 3, 1) := by decide +kernel
theorem dX8_bitsOf_37 : decode cX8_bitsOf 37 = .ok (.iload_n 1, 1) := by decide +kernel
theorem dX8_bitsOf_38 : decode cX8_bitsOf 38 = .ok (.bipush 23, 2) := by decide +kernel
theorem dX8_bitsOf_40 : decode cX8_bitsOf 40 = .ok (.ishl, 1) := by decide +kernel
theorem dX8_bitsOf_41 : decode cX8_bitsOf 41 = .ok (.iload_n 3, 1) := by decide +kernel
theorem dX8_bitsOf_42 : decode cX8_bitsOf 42 = .ok (.iadd, 1) := by decide +kernel
theorem dX8_bitsOf_43 : decode cX8_bitsOf 43 = .ok (.ireturn, 1) := by decide +kernel
theorem dX8_rootOf_0 : decode cX8_rootOf 0 = .ok (.iconst 0, 1) := by decide +kernel
theorem dX8_rootOf_1 : decode cX8_rootOf 1 = .ok (.istore_n 1, 1) := by decide +kernel
theorem dX8_rootOf_2 : decode cX8_rootOf 2 = .ok (.iload_n 1, 1) := by decide +kernel
theorem dX8_rootOf_3 : decode cX8_rootOf 3 = .ok (.sipush 198, 3) := by decide +kernel
theorem dX8_rootOf_6 : decode cX8_rootOf 6 = .ok (.if_icmp .ge 20, 3) := by decide +kernel
theorem dX8_rootOf_9 : decode cX8_rootOf 9 = .ok (.iload_n 1, 1) := by decide +kernel
theorem dX8_rootOf_10 : decode cX8_rootOf 10 = .ok (.iconst 1, 1) := by decide +kernel
theorem dX8_rootOf_11 : decode cX8_rootOf 11 = .ok (.iadd, 1) := by decide +kernel
theorem dX8_rootOf_12 : decode cX8_rootOf 12 = .ok (.iload_n 1, 1) := by decide +kernel
theorem dX8_rootOf_13 : decode cX8_rootOf 13 = .ok (.iconst 1, 1) := by decide +kernel
theorem dX8_rootOf_14 : decode cX8_rootOf 14 = .ok (.iadd, 1) := by decide +kernel
theorem dX8_rootOf_15 : decode cX8_rootOf 15 = .ok (.imul, 1) := by decide +kernel
theorem dX8_rootOf_16 : decode cX8_rootOf 16 = .ok (.iload_n 0, 1) := by decide +kernel
theorem dX8_rootOf_17 : decode cX8_rootOf 17 = .ok (.if_icmp .gt 9, 3) := by decide +kernel
theorem dX8_rootOf_20 : decode cX8_rootOf 20 = .ok (.iinc 1 1, 3) := by decide +kernel
theorem dX8_rootOf_23 : decode cX8_rootOf 23 = .ok (.goto (-21), 3) := by decide +kernel
theorem dX8_rootOf_26 : decode cX8_rootOf 26 = .ok (.iload_n 1, 1) := by decide +kernel
theorem dX8_rootOf_27 : decode cX8_rootOf 27 = .ok (.ireturn, 1) := by decide +kernel
set_option maxRecDepth 20000 in
theorem ggX8_findsAreInOneSegment_Jx4a65c_size_8abf5 : GoodIn wsX8_findsAreInOneSegment wsJx4a65c_size_8abf5 := goodIn_r _ [9, 10, 54, 55, 56] (by decide +kernel) (by decide +kernel)
set_option maxRecDepth 20000 in
theorem gX8_findsAreInOneSegment_Jx4a65c_size_8abf5 : GoodIn wsX8_findsAreInOneSegment (wsV RX8 64 RJx4a65c yJx4a65c_size_8abf5 wsJx4a65c_size_8abf5) := goodIn_app (goodIn_of _ (by decide +kernel)) ggX8_findsAreInOneSegment_Jx4a65c_size_8abf5
set_option maxRecDepth 20000 in
theorem ggX8_findsAreInOneSegment_Jx4a65c_get_915e3 : GoodIn wsX8_findsAreInOneSegment wsJx4a65c_get_915e3 := goodIn_r _ [14, 10, 15, 16, 17, 18, 19, 20, 21, 22, 23, 24, 25, 8, 26, 27, 54, 55, 56] (by decide +kernel) (by decide +kernel)
set_option maxRecDepth 20000 in
theorem gX8_findsAreInOneSegment_Jx4a65c_get_915e3 : GoodIn wsX8_findsAreInOneSegment (wsV RX8 114 RJx4a65c yJx4a65c_get_915e3 wsJx4a65c_get_915e3) := goodIn_app (goodIn_of _ (by decide +kernel)) ggX8_findsAreInOneSegment_Jx4a65c_get_915e3
set_option maxRecDepth 20000 in
theorem ggX8_findsAreInOneSegment_X5_timesHeld : GoodIn wsX8_findsAreInOneSegment wsX5_timesHeld := goodIn_r _ [32, 33, 34, 35, 36, 6, 7, 8, 9, 10, 37, 12, 13, 14, 15, 16, 17, 18, 19, 20, 21, 22, 23, 24, 25, 26, 27, 57, 58, 59, 60, 61, 54, 55, 56] (by decide +kernel) (by decide +kernel)
set_option maxRecDepth 20000 in
theorem gX8_findsAreInOneSegment_X5_timesHeld : GoodIn wsX8_findsAreInOneSegment (wsV RX8 415 RX5 yX5_timesHeld wsX5_timesHeld) := goodIn_app (goodIn_of _ (by decide +kernel)) ggX8_findsAreInOneSegment_X5_timesHeld
theorem dX8_findsAreInOneSegment_0 : decode cX8_findsAreInOneSegment 0 = .ok (.iconst 0, 1) := by decide +kernel
theorem dX8_findsAreInOneSegment_1 : decode cX8_findsAreInOneSegment 1 = .ok (.istore_n 1, 1) := by decide +kernel
theorem dX8_findsAreInOneSegment_2 : decode cX8_findsAreInOneSegment 2 = .ok (.iload_n 1, 1) := by decide +kernel
theorem dX8_findsAreInOneSegment_3 : decode cX8_findsAreInOneSegment 3 = .ok (.aload_n 0, 1) := by decide +kernel
theorem dX8_findsAreInOneSegment_4 : decode cX8_findsAreInOneSegment 4 = .ok (.getfield 16, 3) := by decide +kernel
theorem dX8_findsAreInOneSegment_7 : decode cX8_findsAreInOneSegment 7 = .ok (.invokevirtual 64, 3) := by decide +kernel
theorem dX8_findsAreInOneSegment_10 : decode cX8_findsAreInOneSegment 10 = .ok (.if_icmp .ge 46, 3) := by decide +kernel
theorem dX8_findsAreInOneSegment_13 : decode cX8_findsAreInOneSegment 13 = .ok (.aload_n 0, 1) := by decide +kernel
theorem dX8_findsAreInOneSegment_14 : decode cX8_findsAreInOneSegment 14 = .ok (.getfield 16, 3) := by decide +kernel
theorem dX8_findsAreInOneSegment_17 : decode cX8_findsAreInOneSegment 17 = .ok (.iload_n 1, 1) := by decide +kernel
theorem dX8_findsAreInOneSegment_18 : decode cX8_findsAreInOneSegment 18 = .ok (.invokevirtual 114, 3) := by decide +kernel
theorem dX8_findsAreInOneSegment_21 : decode cX8_findsAreInOneSegment 21 = .ok (.checkcast 95, 3) := by decide +kernel
theorem dX8_findsAreInOneSegment_24 : decode cX8_findsAreInOneSegment 24 = .ok (.astore_n 2, 1) := by decide +kernel
theorem dX8_findsAreInOneSegment_25 : decode cX8_findsAreInOneSegment 25 = .ok (.aload_n 0, 1) := by decide +kernel
theorem dX8_findsAreInOneSegment_26 : decode cX8_findsAreInOneSegment 26 = .ok (.getfield 36, 3) := by decide +kernel
theorem dX8_findsAreInOneSegment_29 : decode cX8_findsAreInOneSegment 29 = .ok (.aload_n 2, 1) := by decide +kernel
theorem dX8_findsAreInOneSegment_30 : decode cX8_findsAreInOneSegment 30 = .ok (.invokevirtual 415, 3) := by decide +kernel
theorem dX8_findsAreInOneSegment_33 : decode cX8_findsAreInOneSegment 33 = .ok (.aload_n 2, 1) := by decide +kernel
theorem dX8_findsAreInOneSegment_34 : decode cX8_findsAreInOneSegment 34 = .ok (.getfield 205, 3) := by decide +kernel
theorem dX8_findsAreInOneSegment_37 : decode cX8_findsAreInOneSegment 37 = .ok (.ifnonnull 7, 3) := by decide +kernel
theorem dX8_findsAreInOneSegment_40 : decode cX8_findsAreInOneSegment 40 = .ok (.iconst 0, 1) := by decide +kernel
theorem dX8_findsAreInOneSegment_41 : decode cX8_findsAreInOneSegment 41 = .ok (.goto 4, 3) := by decide +kernel
theorem dX8_findsAreInOneSegment_44 : decode cX8_findsAreInOneSegment 44 = .ok (.iconst 1, 1) := by decide +kernel
theorem dX8_findsAreInOneSegment_45 : decode cX8_findsAreInOneSegment 45 = .ok (.if_icmp .eq 5, 3) := by decide +kernel
theorem dX8_findsAreInOneSegment_48 : decode cX8_findsAreInOneSegment 48 = .ok (.iconst 0, 1) := by decide +kernel
theorem dX8_findsAreInOneSegment_49 : decode cX8_findsAreInOneSegment 49 = .ok (.ireturn, 1) := by decide +kernel
theorem dX8_findsAreInOneSegment_50 : decode cX8_findsAreInOneSegment 50 = .ok (.iinc 1 1, 3) := by decide +kernel
theorem dX8_findsAreInOneSegment_53 : decode cX8_findsAreInOneSegment 53 = .ok (.goto (-51), 3) := by decide +kernel
theorem dX8_findsAreInOneSegment_56 : decode cX8_findsAreInOneSegment 56 = .ok (.iconst 1, 1) := by decide +kernel
theorem dX8_findsAreInOneSegment_57 : decode cX8_findsAreInOneSegment 57 = .ok (.ireturn, 1) := by decide +kernel
set_option maxRecDepth 20000 in
theorem ggX8_postingsAreUnstruck_Jx4a65c_size_8abf5 : GoodIn wsX8_postingsAreUnstruck wsJx4a65c_size_8abf5 := goodIn_r _ [9, 10, 45, 46, 47] (by decide +kernel) (by decide +kernel)
set_option maxRecDepth 20000 in
theorem gX8_postingsAreUnstruck_Jx4a65c_size_8abf5 : GoodIn wsX8_postingsAreUnstruck (wsV RX8 64 RJx4a65c yJx4a65c_size_8abf5 wsJx4a65c_size_8abf5) := goodIn_app (goodIn_of _ (by decide +kernel)) ggX8_postingsAreUnstruck_Jx4a65c_size_8abf5
set_option maxRecDepth 20000 in
theorem ggX8_postingsAreUnstruck_Jx4a65c_get_915e3 : GoodIn wsX8_postingsAreUnstruck wsJx4a65c_get_915e3 := goodIn_r _ [14, 10, 15, 16, 17, 18, 19, 20, 21, 22, 23, 24, 25, 8, 26, 27, 45, 46, 47] (by decide +kernel) (by decide +kernel)
set_option maxRecDepth 20000 in
theorem gX8_postingsAreUnstruck_Jx4a65c_get_915e3 : GoodIn wsX8_postingsAreUnstruck (wsV RX8 114 RJx4a65c yJx4a65c_get_915e3 wsJx4a65c_get_915e3) := goodIn_app (goodIn_of _ (by decide +kernel)) ggX8_postingsAreUnstruck_Jx4a65c_get_915e3
theorem dX8_postingsAreUnstruck_0 : decode cX8_postingsAreUnstruck 0 = .ok (.iconst 0, 1) := by decide +kernel
theorem dX8_postingsAreUnstruck_1 : decode cX8_postingsAreUnstruck 1 = .ok (.istore_n 1, 1) := by decide +kernel
theorem dX8_postingsAreUnstruck_2 : decode cX8_postingsAreUnstruck 2 = .ok (.iload_n 1, 1) := by decide +kernel
theorem dX8_postingsAreUnstruck_3 : decode cX8_postingsAreUnstruck 3 = .ok (.aload_n 0, 1) := by decide +kernel
theorem dX8_postingsAreUnstruck_4 : decode cX8_postingsAreUnstruck 4 = .ok (.getfield 22, 3) := by decide +kernel
theorem dX8_postingsAreUnstruck_7 : decode cX8_postingsAreUnstruck 7 = .ok (.getfield 388, 3) := by decide +kernel
theorem dX8_postingsAreUnstruck_10 : decode cX8_postingsAreUnstruck 10 = .ok (.invokevirtual 64, 3) := by decide +kernel
theorem dX8_postingsAreUnstruck_13 : decode cX8_postingsAreUnstruck 13 = .ok (.if_icmp .ge 31, 3) := by decide +kernel
theorem dX8_postingsAreUnstruck_16 : decode cX8_postingsAreUnstruck 16 = .ok (.aload_n 0, 1) := by decide +kernel
theorem dX8_postingsAreUnstruck_17 : decode cX8_postingsAreUnstruck 17 = .ok (.getfield 22, 3) := by decide +kernel
theorem dX8_postingsAreUnstruck_20 : decode cX8_postingsAreUnstruck 20 = .ok (.getfield 388, 3) := by decide +kernel
theorem dX8_postingsAreUnstruck_23 : decode cX8_postingsAreUnstruck 23 = .ok (.iload_n 1, 1) := by decide +kernel
theorem dX8_postingsAreUnstruck_24 : decode cX8_postingsAreUnstruck 24 = .ok (.invokevirtual 114, 3) := by decide +kernel
theorem dX8_postingsAreUnstruck_27 : decode cX8_postingsAreUnstruck 27 = .ok (.checkcast 95, 3) := by decide +kernel
theorem dX8_postingsAreUnstruck_30 : decode cX8_postingsAreUnstruck 30 = .ok (.getfield 296, 3) := by decide +kernel
theorem dX8_postingsAreUnstruck_33 : decode cX8_postingsAreUnstruck 33 = .ok (.ifCond .eq 5, 3) := by decide +kernel
theorem dX8_postingsAreUnstruck_36 : decode cX8_postingsAreUnstruck 36 = .ok (.iconst 0, 1) := by decide +kernel
theorem dX8_postingsAreUnstruck_37 : decode cX8_postingsAreUnstruck 37 = .ok (.ireturn, 1) := by decide +kernel
theorem dX8_postingsAreUnstruck_38 : decode cX8_postingsAreUnstruck 38 = .ok (.iinc 1 1, 3) := by decide +kernel
theorem dX8_postingsAreUnstruck_41 : decode cX8_postingsAreUnstruck 41 = .ok (.goto (-39), 3) := by decide +kernel
theorem dX8_postingsAreUnstruck_44 : decode cX8_postingsAreUnstruck 44 = .ok (.iconst 1, 1) := by decide +kernel
theorem dX8_postingsAreUnstruck_45 : decode cX8_postingsAreUnstruck 45 = .ok (.ireturn, 1) := by decide +kernel
set_option maxRecDepth 20000 in
theorem ggX8_pursesHold_Jx4a65c_size_8abf5 : GoodIn wsX8_pursesHold wsJx4a65c_size_8abf5 := goodIn_r _ [8, 9, 41, 42, 43] (by decide +kernel) (by decide +kernel)
set_option maxRecDepth 20000 in
theorem gX8_pursesHold_Jx4a65c_size_8abf5 : GoodIn wsX8_pursesHold (wsV RX8 64 RJx4a65c yJx4a65c_size_8abf5 wsJx4a65c_size_8abf5) := goodIn_app (goodIn_of _ (by decide +kernel)) ggX8_pursesHold_Jx4a65c_size_8abf5
set_option maxRecDepth 20000 in
theorem ggX8_pursesHold_Jx4a65c_get_915e3 : GoodIn wsX8_pursesHold wsJx4a65c_get_915e3 := goodIn_r _ [13, 9, 14, 15, 16, 17, 18, 19, 20, 21, 22, 23, 24, 7, 25, 26, 41, 42, 43] (by decide +kernel) (by decide +kernel)
set_option maxRecDepth 20000 in
theorem gX8_pursesHold_Jx4a65c_get_915e3 : GoodIn wsX8_pursesHold (wsV RX8 114 RJx4a65c yJx4a65c_get_915e3 wsJx4a65c_get_915e3) := goodIn_app (goodIn_of _ (by decide +kernel)) ggX8_pursesHold_Jx4a65c_get_915e3
theorem dX8_pursesHold_0 : decode cX8_pursesHold 0 = .ok (.iconst 0, 1) := by decide +kernel
theorem dX8_pursesHold_1 : decode cX8_pursesHold 1 = .ok (.istore_n 1, 1) := by decide +kernel
theorem dX8_pursesHold_2 : decode cX8_pursesHold 2 = .ok (.iload_n 1, 1) := by decide +kernel
theorem dX8_pursesHold_3 : decode cX8_pursesHold 3 = .ok (.aload_n 0, 1) := by decide +kernel
theorem dX8_pursesHold_4 : decode cX8_pursesHold 4 = .ok (.getfield 40, 3) := by decide +kernel
theorem dX8_pursesHold_7 : decode cX8_pursesHold 7 = .ok (.invokevirtual 64, 3) := by decide +kernel
theorem dX8_pursesHold_10 : decode cX8_pursesHold 10 = .ok (.if_icmp .ge 28, 3) := by decide +kernel
theorem dX8_pursesHold_13 : decode cX8_pursesHold 13 = .ok (.aload_n 0, 1) := by decide +kernel
theorem dX8_pursesHold_14 : decode cX8_pursesHold 14 = .ok (.getfield 40, 3) := by decide +kernel
theorem dX8_pursesHold_17 : decode cX8_pursesHold 17 = .ok (.iload_n 1, 1) := by decide +kernel
theorem dX8_pursesHold_18 : decode cX8_pursesHold 18 = .ok (.invokevirtual 114, 3) := by decide +kernel
theorem dX8_pursesHold_21 : decode cX8_pursesHold 21 = .ok (.checkcast 112, 3) := by decide +kernel
theorem dX8_pursesHold_24 : decode cX8_pursesHold 24 = .ok (.getfield 125, 3) := by decide +kernel
theorem dX8_pursesHold_27 : decode cX8_pursesHold 27 = .ok (.ifCond .ge 5, 3) := by decide +kernel
theorem dX8_pursesHold_30 : decode cX8_pursesHold 30 = .ok (.iconst 0, 1) := by decide +kernel
theorem dX8_pursesHold_31 : decode cX8_pursesHold 31 = .ok (.ireturn, 1) := by decide +kernel
theorem dX8_pursesHold_32 : decode cX8_pursesHold 32 = .ok (.iinc 1 1, 3) := by decide +kernel
theorem dX8_pursesHold_35 : decode cX8_pursesHold 35 = .ok (.goto (-33), 3) := by decide +kernel
theorem dX8_pursesHold_38 : decode cX8_pursesHold 38 = .ok (.iconst 1, 1) := by decide +kernel
theorem dX8_pursesHold_39 : decode cX8_pursesHold 39 = .ok (.ireturn, 1) := by decide +kernel
set_option maxRecDepth 20000 in
theorem ggX8_hitsAgree_X5_gatherUnstruck : GoodIn wsX8_hitsAgree wsX5_gatherUnstruck := goodIn_r _ [12, 13, 14, 15, 16, 17, 18, 19, 20, 21, 22, 23, 24, 25, 26, 27, 28, 29, 30, 31, 32, 33, 34, 35, 36, 37, 38, 39, 40, 41, 42, 43, 44, 45, 46, 47, 48, 49, 50, 51, 52, 53, 54, 55, 56, 57, 58, 59, 60, 61, 62, 63, 64, 65, 66, 67, 68, 69, 70, 71, 72, 73, 74, 75, 76, 77, 78, 79, 80, 81, 82, 83, 84, 85, 86, 87, 88, 89, 90, 91, 92, 93, 94, 95, 96, 97, 168, 169, 170, 171, 172, 173, 174, 175, 176, 177, 178, 179, 180, 181, 182] (by decide +kernel) (by decide +kernel)
set_option maxRecDepth 20000 in
theorem gX8_hitsAgree_X5_gatherUnstruck : GoodIn wsX8_hitsAgree (wsV RX8 418 RX5 yX5_gatherUnstruck wsX5_gatherUnstruck) := goodIn_app (goodIn_of _ (by decide +kernel)) ggX8_hitsAgree_X5_gatherUnstruck
set_option maxRecDepth 20000 in
theorem ggX8_hitsAgree_Jx4a65c_size_8abf5 : GoodIn wsX8_hitsAgree wsJx4a65c_size_8abf5 := goodIn_r _ [30, 26, 180, 181, 182] (by decide +kernel) (by decide +kernel)
set_option maxRecDepth 20000 in
theorem gX8_hitsAgree_Jx4a65c_size_8abf5 : GoodIn wsX8_hitsAgree (wsV RX8 64 RJx4a65c yJx4a65c_size_8abf5 wsJx4a65c_size_8abf5) := goodIn_app (goodIn_of _ (by decide +kernel)) ggX8_hitsAgree_Jx4a65c_size_8abf5
set_option maxRecDepth 20000 in
theorem ggX8_hitsAgree_Jx4a65c_get_915e3 : GoodIn wsX8_hitsAgree wsJx4a65c_get_915e3 := goodIn_r _ [34, 26, 35, 36, 37, 38, 39, 40, 41, 42, 43, 44, 45, 21, 46, 25, 180, 181, 182] (by decide +kernel) (by decide +kernel)
set_option maxRecDepth 20000 in
theorem gX8_hitsAgree_Jx4a65c_get_915e3 : GoodIn wsX8_hitsAgree (wsV RX8 114 RJx4a65c yJx4a65c_get_915e3 wsJx4a65c_get_915e3) := goodIn_app (goodIn_of _ (by decide +kernel)) ggX8_hitsAgree_Jx4a65c_get_915e3
set_option maxRecDepth 20000 in
theorem ggX8_hitsAgree_X7_choices : GoodIn wsX8_hitsAgree wsX7_choices := goodIn_ca (goodIn_r _ [104, 105, 106, 107, 108, 80, 109, 110, 111, 112, 113, 114, 115, 116, 117, 118, 103, 119, 120, 121, 122, 123, 124, 125, 28, 29, 21, 30, 26, 126, 32, 33, 34, 35, 36, 37, 38, 39, 40, 41, 42, 43, 44, 45, 46, 25, 127, 128, 129, 130, 131, 92, 66, 93, 132, 95, 96, 97, 133, 134, 135, 136, 137, 138, 139, 140, 141, 142, 143, 144, 145, 183, 184, 185, 186, 187, 173, 174, 175, 176, 177, 178, 179, 180, 181, 182] (by decide +kernel) (by decide +kernel)) (goodIn_sub (fun _ h => List.mem_cons_of_mem _ (List.mem_append_right _ h)) (by decide +kernel))
set_option maxRecDepth 20000 in
theorem gX8_hitsAgree_X7_choices : GoodIn wsX8_hitsAgree (wsV RX8 389 RX7 yX7_choices wsX7_choices) := goodIn_app (goodIn_of _ (by decide +kernel)) ggX8_hitsAgree_X7_choices
set_option maxRecDepth 20000 in
theorem ggX8_hitsAgree_X8_choicesOn : GoodIn wsX8_hitsAgree wsX8_choicesOn := goodIn_ca (goodIn_r _ [150, 5, 151, 152, 7, 100, 101, 102, 103, 104, 105, 106, 107, 108, 80, 109, 110, 111, 112, 113, 114, 115, 116, 117, 118, 119, 120, 121, 122, 123, 124, 125, 28, 29, 21, 30, 26, 126, 32, 33, 34, 35, 36, 37, 38, 39, 40, 41, 42, 43, 44, 45, 46, 25, 127, 128, 129, 130, 131, 92, 66, 93, 132, 95, 96, 97, 133, 134, 135, 136, 137, 138, 139, 140, 141, 142, 143, 144, 145, 153, 154, 155, 156, 157, 158, 159, 160, 161, 188, 162, 163, 164, 165, 166, 167, 183, 184, 185, 186, 187, 173, 174, 175, 176, 177, 178, 179, 180, 181, 182] (by decide +kernel) (by decide +kernel)) (goodIn_sub (fun _ h => List.mem_cons_of_mem _ (List.mem_append_right _ h)) (by decide +kernel))
set_option maxRecDepth 20000 in
theorem gX8_hitsAgree_X8_choicesOn : GoodIn wsX8_hitsAgree (wsV RX8 255 RX8 yX8_choicesOn wsX8_choicesOn) := goodIn_app (goodIn_of _ (by decide +kernel)) ggX8_hitsAgree_X8_choicesOn
theorem dX8_hitsAgree_0 : decode cX8_hitsAgree 0 = .ok (.aload_n 0, 1) := by decide +kernel
theorem dX8_hitsAgree_1 : decode cX8_hitsAgree 1 = .ok (.getfield 36, 3) := by decide +kernel
theorem dX8_hitsAgree_4 : decode cX8_hitsAgree 4 = .ok (.aload_n 0, 1) := by decide +kernel
theorem dX8_hitsAgree_5 : decode cX8_hitsAgree 5 = .ok (.getfield 57, 3) := by decide +kernel
theorem dX8_hitsAgree_8 : decode cX8_hitsAgree 8 = .ok (.invokevirtual 418, 3) := by decide +kernel
theorem dX8_hitsAgree_11 : decode cX8_hitsAgree 11 = .ok (.iconst 0, 1) := by decide +kernel
theorem dX8_hitsAgree_12 : decode cX8_hitsAgree 12 = .ok (.istore_n 1, 1) := by decide +kernel
theorem dX8_hitsAgree_13 : decode cX8_hitsAgree 13 = .ok (.iload_n 1, 1) := by decide +kernel
theorem dX8_hitsAgree_14 : decode cX8_hitsAgree 14 = .ok (.aload_n 0, 1) := by decide +kernel
theorem dX8_hitsAgree_15 : decode cX8_hitsAgree 15 = .ok (.getfield 10, 3) := by decide +kernel
theorem dX8_hitsAgree_18 : decode cX8_hitsAgree 18 = .ok (.invokevirtual 64, 3) := by decide +kernel
theorem dX8_hitsAgree_21 : decode cX8_hitsAgree 21 = .ok (.if_icmp .ge 54, 3) := by decide +kernel
theorem dX8_hitsAgree_24 : decode cX8_hitsAgree 24 = .ok (.aload_n 0, 1) := by decide +kernel
theorem dX8_hitsAgree_25 : decode cX8_hitsAgree 25 = .ok (.getfield 10, 3) := by decide +kernel
theorem dX8_hitsAgree_28 : decode cX8_hitsAgree 28 = .ok (.iload_n 1, 1) := by decide +kernel
theorem dX8_hitsAgree_29 : decode cX8_hitsAgree 29 = .ok (.invokevirtual 114, 3) := by decide +kernel
theorem dX8_hitsAgree_32 : decode cX8_hitsAgree 32 = .ok (.checkcast 75, 3) := by decide +kernel
theorem dX8_hitsAgree_35 : decode cX8_hitsAgree 35 = .ok (.astore_n 2, 1) := by decide +kernel
theorem dX8_hitsAgree_36 : decode cX8_hitsAgree 36 = .ok (.aload_n 0, 1) := by decide +kernel
theorem dX8_hitsAgree_37 : decode cX8_hitsAgree 37 = .ok (.getfield 29, 3) := by decide +kernel
theorem dX8_hitsAgree_40 : decode cX8_hitsAgree 40 = .ok (.aload_n 0, 1) := by decide +kernel
theorem dX8_hitsAgree_41 : decode cX8_hitsAgree 41 = .ok (.getfield 57, 3) := by decide +kernel
theorem dX8_hitsAgree_44 : decode cX8_hitsAgree 44 = .ok (.aload_n 0, 1) := by decide +kernel
theorem dX8_hitsAgree_45 : decode cX8_hitsAgree 45 = .ok (.getfield 46, 3) := by decide +kernel
theorem dX8_hitsAgree_48 : decode cX8_hitsAgree 48 = .ok (.aload_n 2, 1) := by decide +kernel
theorem dX8_hitsAgree_49 : decode cX8_hitsAgree 49 = .ok (.getfield 84, 3) := by decide +kernel
theorem dX8_hitsAgree_52 : decode cX8_hitsAgree 52 = .ok (.invokevirtual 389, 3) := by decide +kernel
theorem dX8_hitsAgree_55 : decode cX8_hitsAgree 55 = .ok (.aload_n 0, 1) := by decide +kernel
theorem dX8_hitsAgree_56 : decode cX8_hitsAgree 56 = .ok (.aload_n 2, 1) := by decide +kernel
theorem dX8_hitsAgree_57 : decode cX8_hitsAgree 57 = .ok (.aload_n 0, 1) := by decide +kernel
theorem dX8_hitsAgree_58 : decode cX8_hitsAgree 58 = .ok (.getfield 46, 3) := by decide +kernel
theorem dX8_hitsAgree_61 : decode cX8_hitsAgree 61 = .ok (.invokevirtual 255, 3) := by decide +kernel
theorem dX8_hitsAgree_64 : decode cX8_hitsAgree 64 = .ok (.if_icmp .eq 5, 3) := by decide +kernel
theorem dX8_hitsAgree_67 : decode cX8_hitsAgree 67 = .ok (.iconst 0, 1) := by decide +kernel
theorem dX8_hitsAgree_68 : decode cX8_hitsAgree 68 = .ok (.ireturn, 1) := by decide +kernel
theorem dX8_hitsAgree_69 : decode cX8_hitsAgree 69 = .ok (.iinc 1 1, 3) := by decide +kernel
theorem dX8_hitsAgree_72 : decode cX8_hitsAgree 72 = .ok (.goto (-59), 3) := by decide +kernel
theorem dX8_hitsAgree_75 : decode cX8_hitsAgree 75 = .ok (.iconst 1, 1) := by decide +kernel
theorem dX8_hitsAgree_76 : decode cX8_hitsAgree 76 = .ok (.ireturn, 1) := by decide +kernel
set_option maxRecDepth 20000 in
theorem ggX9_init_X9_opens : GoodIn wsX9_init wsX9_opens := goodIn_ca (goodIn_r _ [37, 16, 38, 39, 40, 41, 42, 43, 44, 45, 46, 47, 48, 49, 50, 51, 52, 53, 54, 55, 56, 57, 58, 59, 60, 61, 62, 63, 64, 65, 66, 67, 68, 69, 70, 71, 72, 73, 74] (by decide +kernel) (by decide +kernel)) (goodIn_sub (fun _ h => List.mem_cons_of_mem _ (List.mem_append_right _ h)) (by decide +kernel))
set_option maxRecDepth 20000 in
theorem gX9_init_X9_opens : GoodIn wsX9_init (wsV RX9 87 RX9 yX9_opens wsX9_opens) := goodIn_app (goodIn_of _ (by decide +kernel)) ggX9_init_X9_opens
theorem dX9_init_0 : decode cX9_init 0 = .ok (.aload_n 0, 1) := by decide +kernel
theorem dX9_init_1 : decode cX9_init 1 = .ok (.invokespecial 1, 3) := by decide +kernel
theorem dX9_init_4 : decode cX9_init 4 = .ok (.aload_n 0, 1) := by decide +kernel
theorem dX9_init_5 : decode cX9_init 5 = .ok (.bipush 12, 2) := by decide +kernel
theorem dX9_init_7 : decode cX9_init 7 = .ok (.newarray .int, 2) := by decide +kernel
theorem dX9_init_9 : decode cX9_init 9 = .ok (.putfield 7, 3) := by decide +kernel
theorem dX9_init_12 : decode cX9_init 12 = .ok (.aload_n 0, 1) := by decide +kernel
theorem dX9_init_13 : decode cX9_init 13 = .ok (.bipush 12, 2) := by decide +kernel
theorem dX9_init_15 : decode cX9_init 15 = .ok (.newarray .int, 2) := by decide +kernel
theorem dX9_init_17 : decode cX9_init 17 = .ok (.putfield 13, 3) := by decide +kernel
theorem dX9_init_20 : decode cX9_init 20 = .ok (.aload_n 0, 1) := by decide +kernel
theorem dX9_init_21 : decode cX9_init 21 = .ok (.bipush 12, 2) := by decide +kernel
theorem dX9_init_23 : decode cX9_init 23 = .ok (.newarray .int, 2) := by decide +kernel
theorem dX9_init_25 : decode cX9_init 25 = .ok (.putfield 16, 3) := by decide +kernel
theorem dX9_init_28 : decode cX9_init 28 = .ok (.aload_n 0, 1) := by decide +kernel
theorem dX9_init_29 : decode cX9_init 29 = .ok (.bipush 12, 2) := by decide +kernel
theorem dX9_init_31 : decode cX9_init 31 = .ok (.newarray .boolean, 2) := by decide +kernel
theorem dX9_init_33 : decode cX9_init 33 = .ok (.putfield 19, 3) := by decide +kernel
theorem dX9_init_36 : decode cX9_init 36 = .ok (.aload_n 0, 1) := by decide +kernel
theorem dX9_init_37 : decode cX9_init 37 = .ok (.bipush 120, 2) := by decide +kernel
theorem dX9_init_39 : decode cX9_init 39 = .ok (.newarray .int, 2) := by decide +kernel
theorem dX9_init_41 : decode cX9_init 41 = .ok (.putfield 23, 3) := by decide +kernel
theorem dX9_init_44 : decode cX9_init 44 = .ok (.aload_n 0, 1) := by decide +kernel
theorem dX9_init_45 : decode cX9_init 45 = .ok (.bipush 120, 2) := by decide +kernel
theorem dX9_init_47 : decode cX9_init 47 = .ok (.newarray .int, 2) := by decide +kernel
theorem dX9_init_49 : decode cX9_init 49 = .ok (.putfield 26, 3) := by decide +kernel
theorem dX9_init_52 : decode cX9_init 52 = .ok (.aload_n 0, 1) := by decide +kernel
theorem dX9_init_53 : decode cX9_init 53 = .ok (.bipush 120, 2) := by decide +kernel
theorem dX9_init_55 : decode cX9_init 55 = .ok (.newarray .int, 2) := by decide +kernel
theorem dX9_init_57 : decode cX9_init 57 = .ok (.putfield 29, 3) := by decide +kernel
theorem dX9_init_60 : decode cX9_init 60 = .ok (.aload_n 0, 1) := by decide +kernel
theorem dX9_init_61 : decode cX9_init 61 = .ok (.bipush 120, 2) := by decide +kernel
theorem dX9_init_63 : decode cX9_init 63 = .ok (.newarray .int, 2) := by decide +kernel
theorem dX9_init_65 : decode cX9_init 65 = .ok (.putfield 32, 3) := by decide +kernel
theorem dX9_init_68 : decode cX9_init 68 = .ok (.aload_n 0, 1) := by decide +kernel
theorem dX9_init_69 : decode cX9_init 69 = .ok (.bipush 120, 2) := by decide +kernel
theorem dX9_init_71 : decode cX9_init 71 = .ok (.newarray .int, 2) := by decide +kernel
theorem dX9_init_73 : decode cX9_init 73 = .ok (.putfield 35, 3) := by decide +kernel
theorem dX9_init_76 : decode cX9_init 76 = .ok (.aload_n 0, 1) := by decide +kernel
theorem dX9_init_77 : decode cX9_init 77 = .ok (.bipush 120, 2) := by decide +kernel
theorem dX9_init_79 : decode cX9_init 79 = .ok (.newarray .boolean, 2) := by decide +kernel
theorem dX9_init_81 : decode cX9_init 81 = .ok (.putfield 38, 3) := by decide +kernel
theorem dX9_init_84 : decode cX9_init 84 = .ok (.aload_n 0, 1) := by decide +kernel
theorem dX9_init_85 : decode cX9_init 85 = .ok (.bipush 24, 2) := by decide +kernel
theorem dX9_init_87 : decode cX9_init 87 = .ok (.newarray .int, 2) := by decide +kernel
theorem dX9_init_89 : decode cX9_init 89 = .ok (.putfield 41, 3) := by decide +kernel
theorem dX9_init_92 : decode cX9_init 92 = .ok (.aload_n 0, 1) := by decide +kernel
theorem dX9_init_93 : decode cX9_init 93 = .ok (.iconst 5, 1) := by decide +kernel
theorem dX9_init_94 : decode cX9_init 94 = .ok (.newarray .int, 2) := by decide +kernel
theorem dX9_init_96 : decode cX9_init 96 = .ok (.putfield 44, 3) := by decide +kernel
theorem dX9_init_99 : decode cX9_init 99 = .ok (.aload_n 0, 1) := by decide +kernel
theorem dX9_init_100 : decode cX9_init 100 = .ok (.iconst 5, 1) := by decide +kernel
theorem dX9_init_101 : decode cX9_init 101 = .ok (.newarray .int, 2) := by decide +kernel
theorem dX9_init_103 : decode cX9_init 103 = .ok (.putfield 47, 3) := by decide +kernel
theorem dX9_init_106 : decode cX9_init 106 = .ok (.aload_n 0, 1) := by decide +kernel
theorem dX9_init_107 : decode cX9_init 107 = .ok (.iconst 5, 1) := by decide +kernel
theorem dX9_init_108 : decode cX9_init 108 = .ok (.newarray .int, 2) := by decide +kernel
theorem dX9_init_110 : decode cX9_init 110 = .ok (.putfield 50, 3) := by decide +kernel
theorem dX9_init_113 : decode cX9_init 113 = .ok (.aload_n 0, 1) := by decide +kernel
theorem dX9_init_114 : decode cX9_init 114 = .ok (.iconst 5, 1) := by decide +kernel
theorem dX9_init_115 : decode cX9_init 115 = .ok (.newarray .int, 2) := by decide +kernel
theorem dX9_init_117 : decode cX9_init 117 = .ok (.putfield 53, 3) := by decide +kernel
theorem dX9_init_120 : decode cX9_init 120 = .ok (.aload_n 0, 1) := by decide +kernel
theorem dX9_init_121 : decode cX9_init 121 = .ok (.iconst 5, 1) := by decide +kernel
theorem dX9_init_122 : decode cX9_init 122 = .ok (.newarray .int, 2) := by decide +kernel
theorem dX9_init_124 : decode cX9_init 124 = .ok (.putfield 56, 3) := by decide +kernel
theorem dX9_init_127 : decode cX9_init 127 = .ok (.aload_n 0, 1) := by decide +kernel
theorem dX9_init_128 : decode cX9_init 128 = .ok (.bipush 20, 2) := by decide +kernel
theorem dX9_init_130 : decode cX9_init 130 = .ok (.newarray .int, 2) := by decide +kernel
theorem dX9_init_132 : decode cX9_init 132 = .ok (.putfield 59, 3) := by decide +kernel
theorem dX9_init_135 : decode cX9_init 135 = .ok (.aload_n 0, 1) := by decide +kernel
theorem dX9_init_136 : decode cX9_init 136 = .ok (.bipush 20, 2) := by decide +kernel
theorem dX9_init_138 : decode cX9_init 138 = .ok (.newarray .int, 2) := by decide +kernel
theorem dX9_init_140 : decode cX9_init 140 = .ok (.putfield 62, 3) := by decide +kernel
theorem dX9_init_143 : decode cX9_init 143 = .ok (.aload_n 0, 1) := by decide +kernel
theorem dX9_init_144 : decode cX9_init 144 = .ok (.iconst 4, 1) := by decide +kernel
theorem dX9_init_145 : decode cX9_init 145 = .ok (.newarray .int, 2) := by decide +kernel
theorem dX9_init_147 : decode cX9_init 147 = .ok (.putfield 65, 3) := by decide +kernel
theorem dX9_init_150 : decode cX9_init 150 = .ok (.aload_n 0, 1) := by decide +kernel
theorem dX9_init_151 : decode cX9_init 151 = .ok (.iconst 4, 1) := by decide +kernel
theorem dX9_init_152 : decode cX9_init 152 = .ok (.newarray .int, 2) := by decide +kernel
theorem dX9_init_154 : decode cX9_init 154 = .ok (.putfield 68, 3) := by decide +kernel
theorem dX9_init_157 : decode cX9_init 157 = .ok (.aload_n 0, 1) := by decide +kernel
theorem dX9_init_158 : decode cX9_init 158 = .ok (.iconst 4, 1) := by decide +kernel
theorem dX9_init_159 : decode cX9_init 159 = .ok (.newarray .int, 2) := by decide +kernel
theorem dX9_init_161 : decode cX9_init 161 = .ok (.putfield 71, 3) := by decide +kernel
theorem dX9_init_164 : decode cX9_init 164 = .ok (.aload_n 0, 1) := by decide +kernel
theorem dX9_init_165 : decode cX9_init 165 = .ok (.iconst 4, 1) := by decide +kernel
theorem dX9_init_166 : decode cX9_init 166 = .ok (.newarray .int, 2) := by decide +kernel
theorem dX9_init_168 : decode cX9_init 168 = .ok (.putfield 74, 3) := by decide +kernel
theorem dX9_init_171 : decode cX9_init 171 = .ok (.aload_n 0, 1) := by decide +kernel
theorem dX9_init_172 : decode cX9_init 172 = .ok (.iconst 2, 1) := by decide +kernel
theorem dX9_init_173 : decode cX9_init 173 = .ok (.newarray .char, 2) := by decide +kernel
theorem dX9_init_175 : decode cX9_init 175 = .ok (.putfield 77, 3) := by decide +kernel
theorem dX9_init_178 : decode cX9_init 178 = .ok (.aload_n 0, 1) := by decide +kernel
theorem dX9_init_179 : decode cX9_init 179 = .ok (.bipush 41, 2) := by decide +kernel
theorem dX9_init_181 : decode cX9_init 181 = .ok (.newarray .int, 2) := by decide +kernel
theorem dX9_init_183 : decode cX9_init 183 = .ok (.putfield 81, 3) := by decide +kernel
theorem dX9_init_186 : decode cX9_init 186 = .ok (.aload_n 0, 1) := by decide +kernel
theorem dX9_init_187 : decode cX9_init 187 = .ok (.bipush 41, 2) := by decide +kernel
theorem dX9_init_189 : decode cX9_init 189 = .ok (.newarray .int, 2) := by decide +kernel
theorem dX9_init_191 : decode cX9_init 191 = .ok (.putfield 84, 3) := by decide +kernel
theorem dX9_init_194 : decode cX9_init 194 = .ok (.aload_n 0, 1) := by decide +kernel
theorem dX9_init_195 : decode cX9_init 195 = .ok (.aload_n 0, 1) := by decide +kernel
theorem dX9_init_196 : decode cX9_init 196 = .ok (.invokevirtual 87, 3) := by decide +kernel
theorem dX9_init_199 : decode cX9_init 199 = .ok (.putfield 91, 3) := by decide +kernel
theorem dX9_init_202 : decode cX9_init 202 = .ok (.return_, 1) := by decide +kernel
theorem dX9_thrown_0 : decode cX9_thrown 0 = .ok (.aload_n 0, 1) := by decide +kernel
theorem dX9_thrown_1 : decode cX9_thrown 1 = .ok (.getfield 95, 3) := by decide +kernel
theorem dX9_thrown_4 : decode cX9_thrown 4 = .ok (.ireturn, 1) := by decide +kernel
theorem dX9_no_0 : decode cX9_no 0 = .ok (.aload_n 0, 1) := by decide +kernel
theorem dX9_no_1 : decode cX9_no 1 = .ok (.iload_n 1, 1) := by decide +kernel
theorem dX9_no_2 : decode cX9_no 2 = .ok (.ifCond .eq 7, 3) := by decide +kernel
theorem dX9_no_5 : decode cX9_no 5 = .ok (.iconst 0, 1) := by decide +kernel
theorem dX9_no_6 : decode cX9_no 6 = .ok (.goto 4, 3) := by decide +kernel
theorem dX9_no_9 : decode cX9_no 9 = .ok (.iload_n 2, 1) := by decide +kernel
theorem dX9_no_10 : decode cX9_no 10 = .ok (.putfield 95, 3) := by decide +kernel
theorem dX9_no_13 : decode cX9_no 13 = .ok (.iload_n 1, 1) := by decide +kernel
theorem dX9_no_14 : decode cX9_no 14 = .ok (.ifCond .ne 7, 3) := by decide +kernel
theorem dX9_no_17 : decode cX9_no 17 = .ok (.iconst 1, 1) := by decide +kernel
theorem dX9_no_18 : decode cX9_no 18 = .ok (.goto 4, 3) := by decide +kernel
theorem dX9_no_21 : decode cX9_no 21 = .ok (.iconst 0, 1) := by decide +kernel
theorem dX9_no_22 : decode cX9_no 22 = .ok (.ireturn, 1) := by decide +kernel
theorem dX9_isIn_0 : decode cX9_isIn 0 = .ok (.iload_n 0, 1) := by decide +kernel
theorem dX9_isIn_1 : decode cX9_isIn 1 = .ok (.iload_n 1, 1) := by decide +kernel
theorem dX9_isIn_2 : decode cX9_isIn 2 = .ok (.if_icmp .lt 12, 3) := by decide +kernel
theorem dX9_isIn_5 : decode cX9_isIn 5 = .ok (.iload_n 0, 1) := by decide +kernel
theorem dX9_isIn_6 : decode cX9_isIn 6 = .ok (.iload_n 2, 1) := by decide +kernel
theorem dX9_isIn_7 : decode cX9_isIn 7 = .ok (.if_icmp .gt 7, 3) := by decide +kernel
theorem dX9_isIn_10 : decode cX9_isIn 10 = .ok (.iconst 1, 1) := by decide +kernel
theorem dX9_isIn_11 : decode cX9_isIn 11 = .ok (.goto 4, 3) := by decide +kernel
theorem dX9_isIn_14 : decode cX9_isIn 14 = .ok (.iconst 0, 1) := by decide +kernel
theorem dX9_isIn_15 : decode cX9_isIn 15 = .ok (.ireturn, 1) := by decide +kernel
set_option maxRecDepth 20000 in
theorem ggX9_isIsland_X9_isIn : GoodIn wsX9_isIsland wsX9_isIn := goodIn_r _ [5] (by decide +kernel) (by decide +kernel)
set_option maxRecDepth 20000 in
theorem gX9_isIsland_X9_isIn : GoodIn wsX9_isIsland (va_wsS RX9 101 yX9_isIn wsX9_isIn) := goodIn_app (goodIn_of _ (by decide +kernel)) ggX9_isIsland_X9_isIn
theorem dX9_isIsland_0 : decode cX9_isIsland 0 = .ok (.iload_n 1, 1) := by decide +kernel
theorem dX9_isIsland_1 : decode cX9_isIsland 1 = .ok (.iconst 0, 1) := by decide +kernel
theorem dX9_isIsland_2 : decode cX9_isIsland 2 = .ok (.aload_n 0, 1) := by decide +kernel
theorem dX9_isIsland_3 : decode cX9_isIsland 3 = .ok (.getfield 98, 3) := by decide +kernel
theorem dX9_isIsland_6 : decode cX9_isIsland 6 = .ok (.iconst 1, 1) := by decide +kernel
theorem dX9_isIsland_7 : decode cX9_isIsland 7 = .ok (.isub, 1) := by decide +kernel
theorem dX9_isIsland_8 : decode cX9_isIsland 8 = .ok (.invokestatic 101, 3) := by decide +kernel
theorem dX9_isIsland_11 : decode cX9_isIsland 11 = .ok (.ireturn, 1) := by decide +kernel
set_option maxRecDepth 20000 in
theorem ggX9_isShip_X9_isIn : GoodIn wsX9_isShip wsX9_isIn := goodIn_r _ [5] (by decide +kernel) (by decide +kernel)
set_option maxRecDepth 20000 in
theorem gX9_isShip_X9_isIn : GoodIn wsX9_isShip (va_wsS RX9 101 yX9_isIn wsX9_isIn) := goodIn_app (goodIn_of _ (by decide +kernel)) ggX9_isShip_X9_isIn
theorem dX9_isShip_0 : decode cX9_isShip 0 = .ok (.iload_n 1, 1) := by decide +kernel
theorem dX9_isShip_1 : decode cX9_isShip 1 = .ok (.iconst 0, 1) := by decide +kernel
theorem dX9_isShip_2 : decode cX9_isShip 2 = .ok (.aload_n 0, 1) := by decide +kernel
theorem dX9_isShip_3 : decode cX9_isShip 3 = .ok (.getfield 105, 3) := by decide +kernel
theorem dX9_isShip_6 : decode cX9_isShip 6 = .ok (.iconst 1, 1) := by decide +kernel
theorem dX9_isShip_7 : decode cX9_isShip 7 = .ok (.isub, 1) := by decide +kernel
theorem dX9_isShip_8 : decode cX9_isShip 8 = .ok (.invokestatic 101, 3) := by decide +kernel
theorem dX9_isShip_11 : decode cX9_isShip 11 = .ok (.ireturn, 1) := by decide +kernel
set_option maxRecDepth 20000 in
theorem ggX9_island_X9_isIn : GoodIn wsX9_island wsX9_isIn := goodIn_r _ [8] (by decide +kernel) (by decide +kernel)
set_option maxRecDepth 20000 in
theorem gX9_island_X9_isIn : GoodIn wsX9_island (va_wsS RX9 101 yX9_isIn wsX9_isIn) := goodIn_app (goodIn_of _ (by decide +kernel)) ggX9_island_X9_isIn
set_option maxRecDepth 20000 in
theorem ggX9_island_X9_no : GoodIn wsX9_island wsX9_no := goodIn_r _ [12, 13, 14, 15, 16, 17, 18, 19, 20, 21, 22, 23, 24, 25, 26, 27, 28, 29, 30, 31, 32, 33, 34, 35, 36, 37, 38, 39, 40, 41, 42, 43, 44, 45, 46, 47, 48] (by decide +kernel) (by decide +kernel)
set_option maxRecDepth 20000 in
theorem gX9_island_X9_no : GoodIn wsX9_island (wsV RX9 108 RX9 yX9_no wsX9_no) := goodIn_app (goodIn_of _ (by decide +kernel)) ggX9_island_X9_no
theorem dX9_island_0 : decode cX9_island 0 = .ok (.aload_n 0, 1) := by decide +kernel
theorem dX9_island_1 : decode cX9_island 1 = .ok (.iload_n 1, 1) := by decide +kernel
theorem dX9_island_2 : decode cX9_island 2 = .ok (.iconst 0, 1) := by decide +kernel
theorem dX9_island_3 : decode cX9_island 3 = .ok (.bipush 99, 2) := by decide +kernel
theorem dX9_island_5 : decode cX9_island 5 = .ok (.invokestatic 101, 3) := by decide +kernel
theorem dX9_island_8 : decode cX9_island 8 = .ok (.ifCond .eq 28, 3) := by decide +kernel
theorem dX9_island_11 : decode cX9_island 11 = .ok (.iload_n 2, 1) := by decide +kernel
theorem dX9_island_12 : decode cX9_island 12 = .ok (.iconst 0, 1) := by decide +kernel
theorem dX9_island_13 : decode cX9_island 13 = .ok (.bipush 99, 2) := by decide +kernel
theorem dX9_island_15 : decode cX9_island 15 = .ok (.invokestatic 101, 3) := by decide +kernel
theorem dX9_island_18 : decode cX9_island 18 = .ok (.ifCond .eq 18, 3) := by decide +kernel
theorem dX9_island_21 : decode cX9_island 21 = .ok (.iload_n 3, 1) := by decide +kernel
theorem dX9_island_22 : decode cX9_island 22 = .ok (.iconst 0, 1) := by decide +kernel
theorem dX9_island_23 : decode cX9_island 23 = .ok (.sipush 999, 3) := by decide +kernel
theorem dX9_island_26 : decode cX9_island 26 = .ok (.invokestatic 101, 3) := by decide +kernel
theorem dX9_island_29 : decode cX9_island 29 = .ok (.ifCond .eq 7, 3) := by decide +kernel
theorem dX9_island_32 : decode cX9_island 32 = .ok (.iconst 1, 1) := by decide +kernel
theorem dX9_island_33 : decode cX9_island 33 = .ok (.goto 4, 3) := by decide +kernel
theorem dX9_island_36 : decode cX9_island 36 = .ok (.iconst 0, 1) := by decide +kernel
theorem dX9_island_37 : decode cX9_island 37 = .ok (.iconst 1, 1) := by decide +kernel
theorem dX9_island_38 : decode cX9_island 38 = .ok (.invokevirtual 108, 3) := by decide +kernel
theorem dX9_island_41 : decode cX9_island 41 = .ok (.ifCond .ne 25, 3) := by decide +kernel
theorem dX9_island_44 : decode cX9_island 44 = .ok (.aload_n 0, 1) := by decide +kernel
theorem dX9_island_45 : decode cX9_island 45 = .ok (.aload_n 0, 1) := by decide +kernel
theorem dX9_island_46 : decode cX9_island 46 = .ok (.getfield 98, 3) := by decide +kernel
theorem dX9_island_49 : decode cX9_island 49 = .ok (.bipush 12, 2) := by decide +kernel
theorem dX9_island_51 : decode cX9_island 51 = .ok (.if_icmp .ge 7, 3) := by decide +kernel
theorem dX9_island_54 : decode cX9_island 54 = .ok (.iconst 1, 1) := by decide +kernel
theorem dX9_island_55 : decode cX9_island 55 = .ok (.goto 4, 3) := by decide +kernel
theorem dX9_island_58 : decode cX9_island 58 = .ok (.iconst 0, 1) := by decide +kernel
theorem dX9_island_59 : decode cX9_island 59 = .ok (.iconst 2, 1) := by decide +kernel
theorem dX9_island_60 : decode cX9_island 60 = .ok (.invokevirtual 108, 3) := by decide +kernel
theorem dX9_island_63 : decode cX9_island 63 = .ok (.ifCond .eq 5, 3) := by decide +kernel
theorem dX9_island_66 : decode cX9_island 66 = .ok (.iconst 0, 1) := by decide +kernel
theorem dX9_island_67 : decode cX9_island 67 = .ok (.ireturn, 1) := by decide +kernel
theorem dX9_island_68 : decode cX9_island 68 = .ok (.aload_n 0, 1) := by decide +kernel
theorem dX9_island_69 : decode cX9_island 69 = .ok (.getfield 7, 3) := by decide +kernel
theorem dX9_island_72 : decode cX9_island 72 = .ok (.aload_n 0, 1) := by decide +kernel
theorem dX9_island_73 : decode cX9_island 73 = .ok (.getfield 98, 3) := by decide +kernel
theorem dX9_island_76 : decode cX9_island 76 = .ok (.iload_n 1, 1) := by decide +kernel
theorem dX9_island_77 : decode cX9_island 77 = .ok (.iastore, 1) := by decide +kernel
theorem dX9_island_78 : decode cX9_island 78 = .ok (.aload_n 0, 1) := by decide +kernel
theorem dX9_island_79 : decode cX9_island 79 = .ok (.getfield 13, 3) := by decide +kernel
theorem dX9_island_82 : decode cX9_island 82 = .ok (.aload_n 0, 1) := by decide +kernel
theorem dX9_island_83 : decode cX9_island 83 = .ok (.getfield 98, 3) := by decide +kernel
theorem dX9_island_86 : decode cX9_island 86 = .ok (.iload_n 2, 1) := by decide +kernel
theorem dX9_island_87 : decode cX9_island 87 = .ok (.iastore, 1) := by decide +kernel
theorem dX9_island_88 : decode cX9_island 88 = .ok (.aload_n 0, 1) := by decide +kernel
theorem dX9_island_89 : decode cX9_island 89 = .ok (.getfield 16, 3) := by decide +kernel
theorem dX9_island_92 : decode cX9_island 92 = .ok (.aload_n 0, 1) := by decide +kernel
theorem dX9_island_93 : decode cX9_island 93 = .ok (.getfield 98, 3) := by decide +kernel
theorem dX9_island_96 : decode cX9_island 96 = .ok (.iload_n 3, 1) := by decide +kernel
theorem dX9_island_97 : decode cX9_island 97 = .ok (.iastore, 1) := by decide +kernel
theorem dX9_island_98 : decode cX9_island 98 = .ok (.aload_n 0, 1) := by decide +kernel
theorem dX9_island_99 : decode cX9_island 99 = .ok (.dup, 1) := by decide +kernel
theorem dX9_island_100 : decode cX9_island 100 = .ok (.getfield 98, 3) := by decide +kernel
theorem dX9_island_103 : decode cX9_island 103 = .ok (.iconst 1, 1) := by decide +kernel
theorem dX9_island_104 : decode cX9_island 104 = .ok (.iadd, 1) := by decide +kernel
theorem dX9_island_105 : decode cX9_island 105 = .ok (.putfield 98, 3) := by decide +kernel
theorem dX9_island_108 : decode cX9_island 108 = .ok (.aload_n 0, 1) := by decide +kernel
theorem dX9_island_109 : decode cX9_island 109 = .ok (.getfield 98, 3) := by decide +kernel
theorem dX9_island_112 : decode cX9_island 112 = .ok (.iconst 1, 1) := by decide +kernel
theorem dX9_island_113 : decode cX9_island 113 = .ok (.isub, 1) := by decide +kernel
theorem dX9_island_114 : decode cX9_island 114 = .ok (.ireturn, 1) := by decide +kernel
theorem dX9_opens_0 : decode cX9_opens 0 = .ok (.aload_n 0, 1) := by decide +kernel
theorem dX9_opens_1 : decode cX9_opens 1 = .ok (.getfield 41, 3) := by decide +kernel
theorem dX9_opens_4 : decode cX9_opens 4 = .ok (.aload_n 0, 1) := by decide +kernel
theorem dX9_opens_5 : decode cX9_opens 5 = .ok (.getfield 112, 3) := by decide +kernel
theorem dX9_opens_8 : decode cX9_opens 8 = .ok (.aload_n 0, 1) := by decide +kernel
theorem dX9_opens_9 : decode cX9_opens 9 = .ok (.getfield 115, 3) := by decide +kernel
theorem dX9_opens_12 : decode cX9_opens 12 = .ok (.iastore, 1) := by decide +kernel
theorem dX9_opens_13 : decode cX9_opens 13 = .ok (.aload_n 0, 1) := by decide +kernel
theorem dX9_opens_14 : decode cX9_opens 14 = .ok (.dup, 1) := by decide +kernel
theorem dX9_opens_15 : decode cX9_opens 15 = .ok (.getfield 112, 3) := by decide +kernel
theorem dX9_opens_18 : decode cX9_opens 18 = .ok (.iconst 1, 1) := by decide +kernel
theorem dX9_opens_19 : decode cX9_opens 19 = .ok (.iadd, 1) := by decide +kernel
theorem dX9_opens_20 : decode cX9_opens 20 = .ok (.putfield 112, 3) := by decide +kernel
theorem dX9_opens_23 : decode cX9_opens 23 = .ok (.aload_n 0, 1) := by decide +kernel
theorem dX9_opens_24 : decode cX9_opens 24 = .ok (.dup, 1) := by decide +kernel
theorem dX9_opens_25 : decode cX9_opens 25 = .ok (.getfield 115, 3) := by decide +kernel
theorem dX9_opens_28 : decode cX9_opens 28 = .ok (.iconst 1, 1) := by decide +kernel
theorem dX9_opens_29 : decode cX9_opens 29 = .ok (.iadd, 1) := by decide +kernel
theorem dX9_opens_30 : decode cX9_opens 30 = .ok (.putfield 115, 3) := by decide +kernel
theorem dX9_opens_33 : decode cX9_opens 33 = .ok (.aload_n 0, 1) := by decide +kernel
theorem dX9_opens_34 : decode cX9_opens 34 = .ok (.getfield 115, 3) := by decide +kernel
theorem dX9_opens_37 : decode cX9_opens 37 = .ok (.iconst 1, 1) := by decide +kernel
theorem dX9_opens_38 : decode cX9_opens 38 = .ok (.isub, 1) := by decide +kernel
theorem dX9_opens_39 : decode cX9_opens 39 = .ok (.ireturn, 1) := by decide +kernel
theorem dX9_sizeOf_0 : decode cX9_sizeOf 0 = .ok (.iconst 0, 1) := by decide +kernel
theorem dX9_sizeOf_1 : decode cX9_sizeOf 1 = .ok (.istore_n 2, 1) := by decide +kernel
theorem dX9_sizeOf_2 : decode cX9_sizeOf 2 = .ok (.iconst 0, 1) := by decide +kernel
theorem dX9_sizeOf_3 : decode cX9_sizeOf 3 = .ok (.istore_n 3, 1) := by decide +kernel
theorem dX9_sizeOf_4 : decode cX9_sizeOf 4 = .ok (.iload_n 3, 1) := by decide +kernel
theorem dX9_sizeOf_5 : decode cX9_sizeOf 5 = .ok (.aload_n 0, 1) := by decide +kernel
theorem dX9_sizeOf_6 : decode cX9_sizeOf 6 = .ok (.getfield 118, 3) := by decide +kernel
theorem dX9_sizeOf_9 : decode cX9_sizeOf 9 = .ok (.if_icmp .ge 27, 3) := by decide +kernel
theorem dX9_sizeOf_12 : decode cX9_sizeOf 12 = .ok (.iload_n 2, 1) := by decide +kernel
theorem dX9_sizeOf_13 : decode cX9_sizeOf 13 = .ok (.aload_n 0, 1) := by decide +kernel
theorem dX9_sizeOf_14 : decode cX9_sizeOf 14 = .ok (.getfield 32, 3) := by decide +kernel
theorem dX9_sizeOf_17 : decode cX9_sizeOf 17 = .ok (.iload_n 3, 1) := by decide +kernel
theorem dX9_sizeOf_18 : decode cX9_sizeOf 18 = .ok (.iaload, 1) := by decide +kernel
theorem dX9_sizeOf_19 : decode cX9_sizeOf 19 = .ok (.iload_n 1, 1) := by decide +kernel
theorem dX9_sizeOf_20 : decode cX9_sizeOf 20 = .ok (.if_icmp .ne 7, 3) := by decide +kernel
theorem dX9_sizeOf_23 : decode cX9_sizeOf 23 = .ok (.iconst 1, 1) := by decide +kernel
theorem dX9_sizeOf_24 : decode cX9_sizeOf 24 = .ok (.goto 4, 3) := by decide +kernel
theorem dX9_sizeOf_27 : decode cX9_sizeOf 27 = .ok (.iconst 0, 1) := by decide +kernel
theorem dX9_sizeOf_28 : decode cX9_sizeOf 28 = .ok (.iadd, 1) := by decide +kernel
theorem dX9_sizeOf_29 : decode cX9_sizeOf 29 = .ok (.istore_n 2, 1) := by decide +kernel
theorem dX9_sizeOf_30 : decode cX9_sizeOf 30 = .ok (.iinc 3 1, 3) := by decide +kernel
theorem dX9_sizeOf_33 : decode cX9_sizeOf 33 = .ok (.goto (-29), 3) := by decide +kernel
theorem dX9_sizeOf_36 : decode cX9_sizeOf 36 = .ok (.iload_n 2, 1) := by decide +kernel
theorem dX9_sizeOf_37 : decode cX9_sizeOf 37 = .ok (.ireturn, 1) := by decide +kernel
set_option maxRecDepth 20000 in
theorem ggX9_puts_X9_opens : GoodIn wsX9_puts wsX9_opens := goodIn_ca (goodIn_r _ [7, 8, 9, 10, 16, 17, 18, 19, 20, 21, 22, 23, 24, 25, 26, 27, 28, 29, 30, 31, 32, 33, 34, 35, 36, 37, 38, 39, 40, 41, 42, 43, 44, 45, 46, 47, 48, 49, 50] (by decide +kernel) (by decide +kernel)) (goodIn_sub (fun _ h => List.mem_cons_of_mem _ (List.mem_append_right _ h)) (by decide +kernel))
set_option maxRecDepth 20000 in
theorem gX9_puts_X9_opens : GoodIn wsX9_puts (wsV RX9 87 RX9 yX9_opens wsX9_opens) := goodIn_app (goodIn_of _ (by decide +kernel)) ggX9_puts_X9_opens
set_option maxRecDepth 20000 in
theorem ggX9_puts_X9_sizeOf : GoodIn wsX9_puts wsX9_sizeOf := goodIn_ca (goodIn_r _ [14, 15, 2, 16, 17, 18, 19, 20, 21, 22, 23, 24, 25, 26, 27, 28, 29, 30, 31, 32, 33, 34, 35, 36, 37, 38, 39, 40, 41, 42, 43, 44, 45, 46, 47, 48, 49, 50] (by decide +kernel) (by decide +kernel)) (goodIn_sub (fun _ h => List.mem_cons_of_mem _ (List.mem_append_right _ h)) (by decide +kernel))
set_option maxRecDepth 20000 in
theorem gX9_puts_X9_sizeOf : GoodIn wsX9_puts (wsV RX9 121 RX9 yX9_sizeOf wsX9_sizeOf) := goodIn_app (goodIn_of _ (by decide +kernel)) ggX9_puts_X9_sizeOf
theorem dX9_puts_0 : decode cX9_puts 0 = .ok (.aload_n 0, 1) := by decide +kernel
theorem dX9_puts_1 : decode cX9_puts 1 = .ok (.getfield 91, 3) := by decide +kernel
theorem dX9_puts_4 : decode cX9_puts 4 = .ok (.iconst (-1), 1) := by decide +kernel
theorem dX9_puts_5 : decode cX9_puts 5 = .ok (.if_icmp .ne 11, 3) := by decide +kernel
theorem dX9_puts_8 : decode cX9_puts 8 = .ok (.aload_n 0, 1) := by decide +kernel
theorem dX9_puts_9 : decode cX9_puts 9 = .ok (.aload_n 0, 1) := by decide +kernel
theorem dX9_puts_10 : decode cX9_puts 10 = .ok (.invokevirtual 87, 3) := by decide +kernel
theorem dX9_puts_13 : decode cX9_puts 13 = .ok (.putfield 91, 3) := by decide +kernel
theorem dX9_puts_16 : decode cX9_puts 16 = .ok (.aload_n 0, 1) := by decide +kernel
theorem dX9_puts_17 : decode cX9_puts 17 = .ok (.getfield 32, 3) := by decide +kernel
theorem dX9_puts_20 : decode cX9_puts 20 = .ok (.iload_n 1, 1) := by decide +kernel
theorem dX9_puts_21 : decode cX9_puts 21 = .ok (.aload_n 0, 1) := by decide +kernel
theorem dX9_puts_22 : decode cX9_puts 22 = .ok (.getfield 91, 3) := by decide +kernel
theorem dX9_puts_25 : decode cX9_puts 25 = .ok (.iastore, 1) := by decide +kernel
theorem dX9_puts_26 : decode cX9_puts 26 = .ok (.aload_n 0, 1) := by decide +kernel
theorem dX9_puts_27 : decode cX9_puts 27 = .ok (.aload_n 0, 1) := by decide +kernel
theorem dX9_puts_28 : decode cX9_puts 28 = .ok (.getfield 91, 3) := by decide +kernel
theorem dX9_puts_31 : decode cX9_puts 31 = .ok (.invokevirtual 121, 3) := by decide +kernel
theorem dX9_puts_34 : decode cX9_puts 34 = .ok (.bipush 10, 2) := by decide +kernel
theorem dX9_puts_36 : decode cX9_puts 36 = .ok (.if_icmp .ne 8, 3) := by decide +kernel
theorem dX9_puts_39 : decode cX9_puts 39 = .ok (.aload_n 0, 1) := by decide +kernel
theorem dX9_puts_40 : decode cX9_puts 40 = .ok (.iconst (-1), 1) := by decide +kernel
theorem dX9_puts_41 : decode cX9_puts 41 = .ok (.putfield 91, 3) := by decide +kernel
theorem dX9_puts_44 : decode cX9_puts 44 = .ok (.return_, 1) := by decide +kernel
theorem dX9_hasRoom_0 : decode cX9_hasRoom 0 = .ok (.aload_n 0, 1) := by decide +kernel
theorem dX9_hasRoom_1 : decode cX9_hasRoom 1 = .ok (.getfield 118, 3) := by decide +kernel
theorem dX9_hasRoom_4 : decode cX9_hasRoom 4 = .ok (.bipush 120, 2) := by decide +kernel
theorem dX9_hasRoom_6 : decode cX9_hasRoom 6 = .ok (.if_icmp .ge 24, 3) := by decide +kernel
theorem dX9_hasRoom_9 : decode cX9_hasRoom 9 = .ok (.aload_n 0, 1) := by decide +kernel
theorem dX9_hasRoom_10 : decode cX9_hasRoom 10 = .ok (.getfield 91, 3) := by decide +kernel
theorem dX9_hasRoom_13 : decode cX9_hasRoom 13 = .ok (.iconst (-1), 1) := by decide +kernel
theorem dX9_hasRoom_14 : decode cX9_hasRoom 14 = .ok (.if_icmp .ne 12, 3) := by decide +kernel
theorem dX9_hasRoom_17 : decode cX9_hasRoom 17 = .ok (.aload_n 0, 1) := by decide +kernel
theorem dX9_hasRoom_18 : decode cX9_hasRoom 18 = .ok (.getfield 112, 3) := by decide +kernel
theorem dX9_hasRoom_21 : decode cX9_hasRoom 21 = .ok (.bipush 20, 2) := by decide +kernel
theorem dX9_hasRoom_23 : decode cX9_hasRoom 23 = .ok (.if_icmp .ge 7, 3) := by decide +kernel
theorem dX9_hasRoom_26 : decode cX9_hasRoom 26 = .ok (.iconst 1, 1) := by decide +kernel
theorem dX9_hasRoom_27 : decode cX9_hasRoom 27 = .ok (.goto 4, 3) := by decide +kernel
theorem dX9_hasRoom_30 : decode cX9_hasRoom 30 = .ok (.iconst 0, 1) := by decide +kernel
theorem dX9_hasRoom_31 : decode cX9_hasRoom 31 = .ok (.ireturn, 1) := by decide +kernel
set_option maxRecDepth 20000 in
theorem ggX9_comes_X9_puts : GoodIn wsX9_comes wsX9_puts := goodIn_ca (goodIn_r _ [12, 13, 7, 14, 15, 16, 11, 17, 18, 19, 20, 21, 22, 23, 24, 2, 25, 26, 27, 28, 29, 30, 31, 32, 33, 34, 35, 36, 37, 38, 39, 40, 41, 42, 43, 44, 45, 46, 47, 48, 49, 50, 51, 52, 53, 54, 55, 56, 57, 58, 59] (by decide +kernel) (by decide +kernel)) (goodIn_sub (fun _ h => List.mem_cons_of_mem _ (List.mem_append_right _ h)) (by decide +kernel))
set_option maxRecDepth 20000 in
theorem gX9_comes_X9_puts : GoodIn wsX9_comes (wsV RX9 125 RX9 yX9_puts wsX9_puts) := goodIn_app (goodIn_of _ (by decide +kernel)) ggX9_comes_X9_puts
theorem dX9_comes_0 : decode cX9_comes 0 = .ok (.aload_n 0, 1) := by decide +kernel
theorem dX9_comes_1 : decode cX9_comes 1 = .ok (.getfield 23, 3) := by decide +kernel
theorem dX9_comes_4 : decode cX9_comes 4 = .ok (.aload_n 0, 1) := by decide +kernel
theorem dX9_comes_5 : decode cX9_comes 5 = .ok (.getfield 118, 3) := by decide +kernel
theorem dX9_comes_8 : decode cX9_comes 8 = .ok (.iload_n 1, 1) := by decide +kernel
theorem dX9_comes_9 : decode cX9_comes 9 = .ok (.iastore, 1) := by decide +kernel
theorem dX9_comes_10 : decode cX9_comes 10 = .ok (.aload_n 0, 1) := by decide +kernel
theorem dX9_comes_11 : decode cX9_comes 11 = .ok (.getfield 26, 3) := by decide +kernel
theorem dX9_comes_14 : decode cX9_comes 14 = .ok (.aload_n 0, 1) := by decide +kernel
theorem dX9_comes_15 : decode cX9_comes 15 = .ok (.getfield 118, 3) := by decide +kernel
theorem dX9_comes_18 : decode cX9_comes 18 = .ok (.iload_n 2, 1) := by decide +kernel
theorem dX9_comes_19 : decode cX9_comes 19 = .ok (.iastore, 1) := by decide +kernel
theorem dX9_comes_20 : decode cX9_comes 20 = .ok (.aload_n 0, 1) := by decide +kernel
theorem dX9_comes_21 : decode cX9_comes 21 = .ok (.getfield 29, 3) := by decide +kernel
theorem dX9_comes_24 : decode cX9_comes 24 = .ok (.aload_n 0, 1) := by decide +kernel
theorem dX9_comes_25 : decode cX9_comes 25 = .ok (.getfield 118, 3) := by decide +kernel
theorem dX9_comes_28 : decode cX9_comes 28 = .ok (.iload_n 3, 1) := by decide +kernel
theorem dX9_comes_29 : decode cX9_comes 29 = .ok (.iastore, 1) := by decide +kernel
theorem dX9_comes_30 : decode cX9_comes 30 = .ok (.aload_n 0, 1) := by decide +kernel
theorem dX9_comes_31 : decode cX9_comes 31 = .ok (.getfield 35, 3) := by decide +kernel
theorem dX9_comes_34 : decode cX9_comes 34 = .ok (.aload_n 0, 1) := by decide +kernel
theorem dX9_comes_35 : decode cX9_comes 35 = .ok (.getfield 118, 3) := by decide +kernel
theorem dX9_comes_38 : decode cX9_comes 38 = .ok (.iload 4, 2) := by decide +kernel
theorem dX9_comes_40 : decode cX9_comes 40 = .ok (.iastore, 1) := by decide +kernel
theorem dX9_comes_41 : decode cX9_comes 41 = .ok (.aload_n 0, 1) := by decide +kernel
theorem dX9_comes_42 : decode cX9_comes 42 = .ok (.getfield 38, 3) := by decide +kernel
theorem dX9_comes_45 : decode cX9_comes 45 = .ok (.aload_n 0, 1) := by decide +kernel
theorem dX9_comes_46 : decode cX9_comes 46 = .ok (.getfield 118, 3) := by decide +kernel
theorem dX9_comes_49 : decode cX9_comes 49 = .ok (.iconst 0, 1) := by decide +kernel
theorem dX9_comes_50 : decode cX9_comes 50 = .ok (.bastore, 1) := by decide +kernel
theorem dX9_comes_51 : decode cX9_comes 51 = .ok (.aload_n 0, 1) := by decide +kernel
theorem dX9_comes_52 : decode cX9_comes 52 = .ok (.getfield 32, 3) := by decide +kernel
theorem dX9_comes_55 : decode cX9_comes 55 = .ok (.aload_n 0, 1) := by decide +kernel
theorem dX9_comes_56 : decode cX9_comes 56 = .ok (.getfield 118, 3) := by decide +kernel
theorem dX9_comes_59 : decode cX9_comes 59 = .ok (.iconst (-1), 1) := by decide +kernel
theorem dX9_comes_60 : decode cX9_comes 60 = .ok (.iastore, 1) := by decide +kernel
theorem dX9_comes_61 : decode cX9_comes 61 = .ok (.aload_n 0, 1) := by decide +kernel
theorem dX9_comes_62 : decode cX9_comes 62 = .ok (.dup, 1) := by decide +kernel
theorem dX9_comes_63 : decode cX9_comes 63 = .ok (.getfield 118, 3) := by decide +kernel
theorem dX9_comes_66 : decode cX9_comes 66 = .ok (.iconst 1, 1) := by decide +kernel
theorem dX9_comes_67 : decode cX9_comes 67 = .ok (.iadd, 1) := by decide +kernel
theorem dX9_comes_68 : decode cX9_comes 68 = .ok (.putfield 118, 3) := by decide +kernel
theorem dX9_comes_71 : decode cX9_comes 71 = .ok (.aload_n 0, 1) := by decide +kernel
theorem dX9_comes_72 : decode cX9_comes 72 = .ok (.aload_n 0, 1) := by decide +kernel
theorem dX9_comes_73 : decode cX9_comes 73 = .ok (.getfield 118, 3) := by decide +kernel
theorem dX9_comes_76 : decode cX9_comes 76 = .ok (.iconst 1, 1) := by decide +kernel
theorem dX9_comes_77 : decode cX9_comes 77 = .ok (.isub, 1) := by decide +kernel
theorem dX9_comes_78 : decode cX9_comes 78 = .ok (.invokevirtual 125, 3) := by decide +kernel
theorem dX9_comes_81 : decode cX9_comes 81 = .ok (.aload_n 0, 1) := by decide +kernel
theorem dX9_comes_82 : decode cX9_comes 82 = .ok (.getfield 118, 3) := by decide +kernel
theorem dX9_comes_85 : decode cX9_comes 85 = .ok (.iconst 1, 1) := by decide +kernel
theorem dX9_comes_86 : decode cX9_comes 86 = .ok (.isub, 1) := by decide +kernel
theorem dX9_comes_87 : decode cX9_comes 87 = .ok (.ireturn, 1) := by decide +kernel
set_option maxRecDepth 20000 in
theorem ggX9_areWords_X9_isIn : GoodIn wsX9_areWords wsX9_isIn := goodIn_r _ [4] (by decide +kernel) (by decide +kernel)
set_option maxRecDepth 20000 in
theorem gX9_areWords_X9_isIn : GoodIn wsX9_areWords (va_wsS RX9 101 yX9_isIn wsX9_isIn) := goodIn_app (goodIn_of _ (by decide +kernel)) ggX9_areWords_X9_isIn
theorem dX9_areWords_0 : decode cX9_areWords 0 = .ok (.iload_n 0, 1) := by decide +kernel
theorem dX9_areWords_1 : decode cX9_areWords 1 = .ok (.iconst 0, 1) := by decide +kernel
theorem dX9_areWords_2 : decode cX9_areWords 2 = .ok (.bipush 30, 2) := by decide +kernel
theorem dX9_areWords_4 : decode cX9_areWords 4 = .ok (.invokestatic 101, 3) := by decide +kernel
theorem dX9_areWords_7 : decode cX9_areWords 7 = .ok (.ifCond .eq 17, 3) := by decide +kernel
theorem dX9_areWords_10 : decode cX9_areWords 10 = .ok (.iload_n 1, 1) := by decide +kernel
theorem dX9_areWords_11 : decode cX9_areWords 11 = .ok (.iconst 0, 1) := by decide +kernel
theorem dX9_areWords_12 : decode cX9_areWords 12 = .ok (.bipush 40, 2) := by decide +kernel
theorem dX9_areWords_14 : decode cX9_areWords 14 = .ok (.invokestatic 101, 3) := by decide +kernel
theorem dX9_areWords_17 : decode cX9_areWords 17 = .ok (.ifCond .eq 7, 3) := by decide +kernel
theorem dX9_areWords_20 : decode cX9_areWords 20 = .ok (.iconst 1, 1) := by decide +kernel
theorem dX9_areWords_21 : decode cX9_areWords 21 = .ok (.goto 4, 3) := by decide +kernel
theorem dX9_areWords_24 : decode cX9_areWords 24 = .ok (.iconst 0, 1) := by decide +kernel
theorem dX9_areWords_25 : decode cX9_areWords 25 = .ok (.ireturn, 1) := by decide +kernel
set_option maxRecDepth 20000 in
theorem ggX9_find_X9_isIsland : GoodIn wsX9_find wsX9_isIsland := goodIn_r _ [5, 6, 7, 8, 4, 9, 49, 50, 51, 52, 53, 54, 55, 56, 57, 58, 59, 60, 61, 62, 63, 64, 65, 66, 67, 68, 69, 70, 71, 72, 73, 74, 75, 76, 77, 78, 79, 80, 81, 82, 83] (by decide +kernel) (by decide +kernel)
set_option maxRecDepth 20000 in
theorem gX9_find_X9_isIsland : GoodIn wsX9_find (wsV RX9 129 RX9 yX9_isIsland wsX9_isIsland) := goodIn_app (goodIn_of _ (by decide +kernel)) ggX9_find_X9_isIsland
set_option maxRecDepth 20000 in
theorem ggX9_find_X9_no : GoodIn wsX9_find wsX9_no := goodIn_r _ [13, 14, 49, 50, 51, 52, 53, 54, 55, 56, 57, 58, 59, 60, 61, 62, 63, 64, 65, 66, 67, 68, 69, 70, 71, 72, 73, 74, 75, 76, 77, 78, 79, 80, 81, 82, 83] (by decide +kernel) (by decide +kernel)
set_option maxRecDepth 20000 in
theorem gX9_find_X9_no : GoodIn wsX9_find (wsV RX9 108 RX9 yX9_no wsX9_no) := goodIn_app (goodIn_of _ (by decide +kernel)) ggX9_find_X9_no
set_option maxRecDepth 20000 in
theorem ggX9_find_X9_areWords : GoodIn wsX9_find wsX9_areWords := goodIn_r _ [17, 7, 8, 4, 9] (by decide +kernel) (by decide +kernel)
set_option maxRecDepth 20000 in
theorem gX9_find_X9_areWords : GoodIn wsX9_find (va_wsS RX9 133 yX9_areWords wsX9_areWords) := goodIn_app (goodIn_of _ (by decide +kernel)) ggX9_find_X9_areWords
set_option maxRecDepth 20000 in
theorem ggX9_find_X9_hasRoom : GoodIn wsX9_find wsX9_hasRoom := goodIn_r _ [21, 22, 23, 24, 49, 50, 51, 52, 53, 54, 55, 56, 57, 58, 59, 60, 61, 62, 63, 64, 65, 66, 67, 68, 69, 70, 71, 72, 73, 74, 75, 76, 77, 78, 79, 80, 81, 82, 83] (by decide +kernel) (by decide +kernel)
set_option maxRecDepth 20000 in
theorem gX9_find_X9_hasRoom : GoodIn wsX9_find (wsV RX9 137 RX9 yX9_hasRoom wsX9_hasRoom) := goodIn_app (goodIn_of _ (by decide +kernel)) ggX9_find_X9_hasRoom
set_option maxRecDepth 20000 in
theorem ggX9_find_X9_comes : GoodIn wsX9_find wsX9_comes := goodIn_ca (goodIn_r _ [28, 29, 22, 30, 31, 32, 33, 34, 35, 36, 37, 4, 38, 23, 39, 40, 41, 42, 43, 24, 44, 45, 46, 47, 48, 49, 50, 51, 52, 53, 54, 55, 56, 57, 58, 59, 60, 61, 62, 63, 64, 65, 66, 67, 68, 69, 70, 71, 72, 73, 74, 75, 76, 77, 78, 79, 80, 81, 82, 83] (by decide +kernel) (by decide +kernel)) (goodIn_sub (fun _ h => List.mem_cons_of_mem _ (List.mem_append_right _ h)) (by decide +kernel))
set_option maxRecDepth 20000 in
theorem gX9_find_X9_comes : GoodIn wsX9_find (wsV RX9 141 RX9 yX9_comes wsX9_comes) := goodIn_app (goodIn_of _ (by decide +kernel)) ggX9_find_X9_comes
theorem dX9_find_0 : decode cX9_find 0 = .ok (.aload_n 0, 1) := by decide +kernel
theorem dX9_find_1 : decode cX9_find 1 = .ok (.aload_n 0, 1) := by decide +kernel
theorem dX9_find_2 : decode cX9_find 2 = .ok (.iload_n 2, 1) := by decide +kernel
theorem dX9_find_3 : decode cX9_find 3 = .ok (.invokevirtual 129, 3) := by decide +kernel
theorem dX9_find_6 : decode cX9_find 6 = .ok (.iconst 1, 1) := by decide +kernel
theorem dX9_find_7 : decode cX9_find 7 = .ok (.invokevirtual 108, 3) := by decide +kernel
theorem dX9_find_10 : decode cX9_find 10 = .ok (.ifCond .ne 28, 3) := by decide +kernel
theorem dX9_find_13 : decode cX9_find 13 = .ok (.aload_n 0, 1) := by decide +kernel
theorem dX9_find_14 : decode cX9_find 14 = .ok (.iload_n 1, 1) := by decide +kernel
theorem dX9_find_15 : decode cX9_find 15 = .ok (.iload_n 3, 1) := by decide +kernel
theorem dX9_find_16 : decode cX9_find 16 = .ok (.invokestatic 133, 3) := by decide +kernel
theorem dX9_find_19 : decode cX9_find 19 = .ok (.iconst 2, 1) := by decide +kernel
theorem dX9_find_20 : decode cX9_find 20 = .ok (.invokevirtual 108, 3) := by decide +kernel
theorem dX9_find_23 : decode cX9_find 23 = .ok (.ifCond .ne 15, 3) := by decide +kernel
theorem dX9_find_26 : decode cX9_find 26 = .ok (.aload_n 0, 1) := by decide +kernel
theorem dX9_find_27 : decode cX9_find 27 = .ok (.aload_n 0, 1) := by decide +kernel
theorem dX9_find_28 : decode cX9_find 28 = .ok (.invokevirtual 137, 3) := by decide +kernel
theorem dX9_find_31 : decode cX9_find 31 = .ok (.iconst 3, 1) := by decide +kernel
theorem dX9_find_32 : decode cX9_find 32 = .ok (.invokevirtual 108, 3) := by decide +kernel
theorem dX9_find_35 : decode cX9_find 35 = .ok (.ifCond .eq 5, 3) := by decide +kernel
theorem dX9_find_38 : decode cX9_find 38 = .ok (.iconst 0, 1) := by decide +kernel
theorem dX9_find_39 : decode cX9_find 39 = .ok (.ireturn, 1) := by decide +kernel
theorem dX9_find_40 : decode cX9_find 40 = .ok (.aload_n 0, 1) := by decide +kernel
theorem dX9_find_41 : decode cX9_find 41 = .ok (.iload_n 1, 1) := by decide +kernel
theorem dX9_find_42 : decode cX9_find 42 = .ok (.iload_n 2, 1) := by decide +kernel
theorem dX9_find_43 : decode cX9_find 43 = .ok (.iload_n 3, 1) := by decide +kernel
theorem dX9_find_44 : decode cX9_find 44 = .ok (.iconst (-1), 1) := by decide +kernel
theorem dX9_find_45 : decode cX9_find 45 = .ok (.invokevirtual 141, 3) := by decide +kernel
theorem dX9_find_48 : decode cX9_find 48 = .ok (.ireturn, 1) := by decide +kernel
set_option maxRecDepth 20000 in
theorem ggX9_ship_X9_no : GoodIn wsX9_ship wsX9_no := goodIn_r _ [11, 12, 13, 14, 15, 16, 17, 18, 19, 20, 21, 22, 23, 24, 25, 26, 27, 28, 29, 30, 31, 32, 33, 34, 35, 36, 37, 38, 39, 40, 41, 42, 43, 44, 45, 46, 47] (by decide +kernel) (by decide +kernel)
set_option maxRecDepth 20000 in
theorem gX9_ship_X9_no : GoodIn wsX9_ship (wsV RX9 108 RX9 yX9_no wsX9_no) := goodIn_app (goodIn_of _ (by decide +kernel)) ggX9_ship_X9_no
theorem dX9_ship_0 : decode cX9_ship 0 = .ok (.aload_n 0, 1) := by decide +kernel
theorem dX9_ship_1 : decode cX9_ship 1 = .ok (.aload_n 0, 1) := by decide +kernel
theorem dX9_ship_2 : decode cX9_ship 2 = .ok (.getfield 105, 3) := by decide +kernel
theorem dX9_ship_5 : decode cX9_ship 5 = .ok (.iconst 5, 1) := by decide +kernel
theorem dX9_ship_6 : decode cX9_ship 6 = .ok (.if_icmp .ge 14, 3) := by decide +kernel
theorem dX9_ship_9 : decode cX9_ship 9 = .ok (.aload_n 0, 1) := by decide +kernel
theorem dX9_ship_10 : decode cX9_ship 10 = .ok (.getfield 98, 3) := by decide +kernel
theorem dX9_ship_13 : decode cX9_ship 13 = .ok (.ifCond .le 7, 3) := by decide +kernel
theorem dX9_ship_16 : decode cX9_ship 16 = .ok (.iconst 1, 1) := by decide +kernel
theorem dX9_ship_17 : decode cX9_ship 17 = .ok (.goto 4, 3) := by decide +kernel
theorem dX9_ship_20 : decode cX9_ship 20 = .ok (.iconst 0, 1) := by decide +kernel
theorem dX9_ship_21 : decode cX9_ship 21 = .ok (.iconst 1, 1) := by decide +kernel
theorem dX9_ship_22 : decode cX9_ship 22 = .ok (.invokevirtual 108, 3) := by decide +kernel
theorem dX9_ship_25 : decode cX9_ship 25 = .ok (.ifCond .eq 5, 3) := by decide +kernel
theorem dX9_ship_28 : decode cX9_ship 28 = .ok (.iconst 0, 1) := by decide +kernel
theorem dX9_ship_29 : decode cX9_ship 29 = .ok (.ireturn, 1) := by decide +kernel
theorem dX9_ship_30 : decode cX9_ship 30 = .ok (.aload_n 0, 1) := by decide +kernel
theorem dX9_ship_31 : decode cX9_ship 31 = .ok (.getfield 44, 3) := by decide +kernel
theorem dX9_ship_34 : decode cX9_ship 34 = .ok (.aload_n 0, 1) := by decide +kernel
theorem dX9_ship_35 : decode cX9_ship 35 = .ok (.getfield 105, 3) := by decide +kernel
theorem dX9_ship_38 : decode cX9_ship 38 = .ok (.iconst 0, 1) := by decide +kernel
theorem dX9_ship_39 : decode cX9_ship 39 = .ok (.iastore, 1) := by decide +kernel
theorem dX9_ship_40 : decode cX9_ship 40 = .ok (.aload_n 0, 1) := by decide +kernel
theorem dX9_ship_41 : decode cX9_ship 41 = .ok (.getfield 47, 3) := by decide +kernel
theorem dX9_ship_44 : decode cX9_ship 44 = .ok (.aload_n 0, 1) := by decide +kernel
theorem dX9_ship_45 : decode cX9_ship 45 = .ok (.getfield 105, 3) := by decide +kernel
theorem dX9_ship_48 : decode cX9_ship 48 = .ok (.bipush 100, 2) := by decide +kernel
theorem dX9_ship_50 : decode cX9_ship 50 = .ok (.iastore, 1) := by decide +kernel
theorem dX9_ship_51 : decode cX9_ship 51 = .ok (.aload_n 0, 1) := by decide +kernel
theorem dX9_ship_52 : decode cX9_ship 52 = .ok (.getfield 56, 3) := by decide +kernel
theorem dX9_ship_55 : decode cX9_ship 55 = .ok (.aload_n 0, 1) := by decide +kernel
theorem dX9_ship_56 : decode cX9_ship 56 = .ok (.getfield 105, 3) := by decide +kernel
theorem dX9_ship_59 : decode cX9_ship 59 = .ok (.iconst 0, 1) := by decide +kernel
theorem dX9_ship_60 : decode cX9_ship 60 = .ok (.iastore, 1) := by decide +kernel
theorem dX9_ship_61 : decode cX9_ship 61 = .ok (.aload_n 0, 1) := by decide +kernel
theorem dX9_ship_62 : decode cX9_ship 62 = .ok (.getfield 53, 3) := by decide +kernel
theorem dX9_ship_65 : decode cX9_ship 65 = .ok (.aload_n 0, 1) := by decide +kernel
theorem dX9_ship_66 : decode cX9_ship 66 = .ok (.getfield 105, 3) := by decide +kernel
theorem dX9_ship_69 : decode cX9_ship 69 = .ok (.iconst (-1), 1) := by decide +kernel
theorem dX9_ship_70 : decode cX9_ship 70 = .ok (.iastore, 1) := by decide +kernel
theorem dX9_ship_71 : decode cX9_ship 71 = .ok (.aload_n 0, 1) := by decide +kernel
theorem dX9_ship_72 : decode cX9_ship 72 = .ok (.dup, 1) := by decide +kernel
theorem dX9_ship_73 : decode cX9_ship 73 = .ok (.getfield 105, 3) := by decide +kernel
theorem dX9_ship_76 : decode cX9_ship 76 = .ok (.iconst 1, 1) := by decide +kernel
theorem dX9_ship_77 : decode cX9_ship 77 = .ok (.iadd, 1) := by decide +kernel
theorem dX9_ship_78 : decode cX9_ship 78 = .ok (.putfield 105, 3) := by decide +kernel
theorem dX9_ship_81 : decode cX9_ship 81 = .ok (.aload_n 0, 1) := by decide +kernel
theorem dX9_ship_82 : decode cX9_ship 82 = .ok (.getfield 105, 3) := by decide +kernel
theorem dX9_ship_85 : decode cX9_ship 85 = .ok (.iconst 1, 1) := by decide +kernel
theorem dX9_ship_86 : decode cX9_ship 86 = .ok (.isub, 1) := by decide +kernel
theorem dX9_ship_87 : decode cX9_ship 87 = .ok (.ireturn, 1) := by decide +kernel
set_option maxRecDepth 20000 in
theorem ggX9_plant_X9_isShip : GoodIn wsX9_plant wsX9_isShip := goodIn_r _ [6, 7, 8, 9, 5, 10, 55, 56, 57, 58, 59, 60, 61, 62, 63, 64, 65, 66, 67, 68, 69, 70, 71, 72, 73, 74, 75, 76, 77, 78, 79, 80, 81, 82, 83, 84, 85, 86, 87, 88, 89] (by decide +kernel) (by decide +kernel)
set_option maxRecDepth 20000 in
theorem gX9_plant_X9_isShip : GoodIn wsX9_plant (wsV RX9 145 RX9 yX9_isShip wsX9_isShip) := goodIn_app (goodIn_of _ (by decide +kernel)) ggX9_plant_X9_isShip
set_option maxRecDepth 20000 in
theorem ggX9_plant_X9_isIsland : GoodIn wsX9_plant wsX9_isIsland := goodIn_r _ [14, 15, 8, 9, 5, 10, 55, 56, 57, 58, 59, 60, 61, 62, 63, 64, 65, 66, 67, 68, 69, 70, 71, 72, 73, 74, 75, 76, 77, 78, 79, 80, 81, 82, 83, 84, 85, 86, 87, 88, 89] (by decide +kernel) (by decide +kernel)
set_option maxRecDepth 20000 in
theorem gX9_plant_X9_isIsland : GoodIn wsX9_plant (wsV RX9 129 RX9 yX9_isIsland wsX9_isIsland) := goodIn_app (goodIn_of _ (by decide +kernel)) ggX9_plant_X9_isIsland
set_option maxRecDepth 20000 in
theorem ggX9_plant_X9_no : GoodIn wsX9_plant wsX9_no := goodIn_r _ [19, 20, 55, 56, 57, 58, 59, 60, 61, 62, 63, 64, 65, 66, 67, 68, 69, 70, 71, 72, 73, 74, 75, 76, 77, 78, 79, 80, 81, 82, 83, 84, 85, 86, 87, 88, 89] (by decide +kernel) (by decide +kernel)
set_option maxRecDepth 20000 in
theorem gX9_plant_X9_no : GoodIn wsX9_plant (wsV RX9 108 RX9 yX9_no wsX9_no) := goodIn_app (goodIn_of _ (by decide +kernel)) ggX9_plant_X9_no
set_option maxRecDepth 20000 in
theorem ggX9_plant_X9_areWords : GoodIn wsX9_plant wsX9_areWords := goodIn_r _ [23, 8, 9, 5, 10] (by decide +kernel) (by decide +kernel)
set_option maxRecDepth 20000 in
theorem gX9_plant_X9_areWords : GoodIn wsX9_plant (va_wsS RX9 133 yX9_areWords wsX9_areWords) := goodIn_app (goodIn_of _ (by decide +kernel)) ggX9_plant_X9_areWords
set_option maxRecDepth 20000 in
theorem ggX9_plant_X9_hasRoom : GoodIn wsX9_plant wsX9_hasRoom := goodIn_r _ [27, 28, 29, 30, 55, 56, 57, 58, 59, 60, 61, 62, 63, 64, 65, 66, 67, 68, 69, 70, 71, 72, 73, 74, 75, 76, 77, 78, 79, 80, 81, 82, 83, 84, 85, 86, 87, 88, 89] (by decide +kernel) (by decide +kernel)
set_option maxRecDepth 20000 in
theorem gX9_plant_X9_hasRoom : GoodIn wsX9_plant (wsV RX9 137 RX9 yX9_hasRoom wsX9_hasRoom) := goodIn_app (goodIn_of _ (by decide +kernel)) ggX9_plant_X9_hasRoom
set_option maxRecDepth 20000 in
theorem ggX9_plant_X9_comes : GoodIn wsX9_plant wsX9_comes := goodIn_ca (goodIn_r _ [34, 35, 28, 36, 37, 38, 39, 40, 41, 42, 43, 5, 44, 29, 45, 46, 47, 48, 49, 30, 50, 51, 52, 53, 54, 55, 56, 57, 58, 59, 60, 61, 62, 63, 64, 65, 66, 67, 68, 69, 70, 71, 72, 73, 74, 75, 76, 77, 78, 79, 80, 81, 82, 83, 84, 85, 86, 87, 88, 89] (by decide +kernel) (by decide +kernel)) (goodIn_sub (fun _ h => List.mem_cons_of_mem _ (List.mem_append_right _ h)) (by decide +kernel))
set_option maxRecDepth 20000 in
theorem gX9_plant_X9_comes : GoodIn wsX9_plant (wsV RX9 141 RX9 yX9_comes wsX9_comes) := goodIn_app (goodIn_of _ (by decide +kernel)) ggX9_plant_X9_comes
theorem dX9_plant_0 : decode cX9_plant 0 = .ok (.aload_n 0, 1) := by decide +kernel
theorem dX9_plant_1 : decode cX9_plant 1 = .ok (.aload_n 0, 1) := by decide +kernel
theorem dX9_plant_2 : decode cX9_plant 2 = .ok (.iload_n 1, 1) := by decide +kernel
theorem dX9_plant_3 : decode cX9_plant 3 = .ok (.invokevirtual 145, 3) := by decide +kernel
theorem dX9_plant_6 : decode cX9_plant 6 = .ok (.ifCond .eq 15, 3) := by decide +kernel
theorem dX9_plant_9 : decode cX9_plant 9 = .ok (.aload_n 0, 1) := by decide +kernel
theorem dX9_plant_10 : decode cX9_plant 10 = .ok (.iload_n 3, 1) := by decide +kernel
theorem dX9_plant_11 : decode cX9_plant 11 = .ok (.invokevirtual 129, 3) := by decide +kernel
theorem dX9_plant_14 : decode cX9_plant 14 = .ok (.ifCond .eq 7, 3) := by decide +kernel
theorem dX9_plant_17 : decode cX9_plant 17 = .ok (.iconst 1, 1) := by decide +kernel
theorem dX9_plant_18 : decode cX9_plant 18 = .ok (.goto 4, 3) := by decide +kernel
theorem dX9_plant_21 : decode cX9_plant 21 = .ok (.iconst 0, 1) := by decide +kernel
theorem dX9_plant_22 : decode cX9_plant 22 = .ok (.iconst 1, 1) := by decide +kernel
theorem dX9_plant_23 : decode cX9_plant 23 = .ok (.invokevirtual 108, 3) := by decide +kernel
theorem dX9_plant_26 : decode cX9_plant 26 = .ok (.ifCond .ne 52, 3) := by decide +kernel
theorem dX9_plant_29 : decode cX9_plant 29 = .ok (.aload_n 0, 1) := by decide +kernel
theorem dX9_plant_30 : decode cX9_plant 30 = .ok (.iload_n 2, 1) := by decide +kernel
theorem dX9_plant_31 : decode cX9_plant 31 = .ok (.iload 4, 2) := by decide +kernel
theorem dX9_plant_33 : decode cX9_plant 33 = .ok (.invokestatic 133, 3) := by decide +kernel
theorem dX9_plant_36 : decode cX9_plant 36 = .ok (.iconst 2, 1) := by decide +kernel
theorem dX9_plant_37 : decode cX9_plant 37 = .ok (.invokevirtual 108, 3) := by decide +kernel
theorem dX9_plant_40 : decode cX9_plant 40 = .ok (.ifCond .ne 38, 3) := by decide +kernel
theorem dX9_plant_43 : decode cX9_plant 43 = .ok (.aload_n 0, 1) := by decide +kernel
theorem dX9_plant_44 : decode cX9_plant 44 = .ok (.aload_n 0, 1) := by decide +kernel
theorem dX9_plant_45 : decode cX9_plant 45 = .ok (.getfield 47, 3) := by decide +kernel
theorem dX9_plant_48 : decode cX9_plant 48 = .ok (.iload_n 1, 1) := by decide +kernel
theorem dX9_plant_49 : decode cX9_plant 49 = .ok (.iaload, 1) := by decide +kernel
theorem dX9_plant_50 : decode cX9_plant 50 = .ok (.iconst 5, 1) := by decide +kernel
theorem dX9_plant_51 : decode cX9_plant 51 = .ok (.if_icmp .lt 7, 3) := by decide +kernel
theorem dX9_plant_54 : decode cX9_plant 54 = .ok (.iconst 1, 1) := by decide +kernel
theorem dX9_plant_55 : decode cX9_plant 55 = .ok (.goto 4, 3) := by decide +kernel
theorem dX9_plant_58 : decode cX9_plant 58 = .ok (.iconst 0, 1) := by decide +kernel
theorem dX9_plant_59 : decode cX9_plant 59 = .ok (.iconst 3, 1) := by decide +kernel
theorem dX9_plant_60 : decode cX9_plant 60 = .ok (.invokevirtual 108, 3) := by decide +kernel
theorem dX9_plant_63 : decode cX9_plant 63 = .ok (.ifCond .ne 15, 3) := by decide +kernel
theorem dX9_plant_66 : decode cX9_plant 66 = .ok (.aload_n 0, 1) := by decide +kernel
theorem dX9_plant_67 : decode cX9_plant 67 = .ok (.aload_n 0, 1) := by decide +kernel
theorem dX9_plant_68 : decode cX9_plant 68 = .ok (.invokevirtual 137, 3) := by decide +kernel
theorem dX9_plant_71 : decode cX9_plant 71 = .ok (.iconst 4, 1) := by decide +kernel
theorem dX9_plant_72 : decode cX9_plant 72 = .ok (.invokevirtual 108, 3) := by decide +kernel
theorem dX9_plant_75 : decode cX9_plant 75 = .ok (.ifCond .eq 5, 3) := by decide +kernel
theorem dX9_plant_78 : decode cX9_plant 78 = .ok (.iconst 0, 1) := by decide +kernel
theorem dX9_plant_79 : decode cX9_plant 79 = .ok (.ireturn, 1) := by decide +kernel
theorem dX9_plant_80 : decode cX9_plant 80 = .ok (.aload_n 0, 1) := by decide +kernel
theorem dX9_plant_81 : decode cX9_plant 81 = .ok (.getfield 47, 3) := by decide +kernel
theorem dX9_plant_84 : decode cX9_plant 84 = .ok (.iload_n 1, 1) := by decide +kernel
theorem dX9_plant_85 : decode cX9_plant 85 = .ok (.dup2, 1) := by decide +kernel
theorem dX9_plant_86 : decode cX9_plant 86 = .ok (.iaload, 1) := by decide +kernel
theorem dX9_plant_87 : decode cX9_plant 87 = .ok (.iconst 5, 1) := by decide +kernel
theorem dX9_plant_88 : decode cX9_plant 88 = .ok (.isub, 1) := by decide +kernel
theorem dX9_plant_89 : decode cX9_plant 89 = .ok (.iastore, 1) := by decide +kernel
theorem dX9_plant_90 : decode cX9_plant 90 = .ok (.aload_n 0, 1) := by decide +kernel
theorem dX9_plant_91 : decode cX9_plant 91 = .ok (.iload_n 2, 1) := by decide +kernel
theorem dX9_plant_92 : decode cX9_plant 92 = .ok (.iload_n 3, 1) := by decide +kernel
theorem dX9_plant_93 : decode cX9_plant 93 = .ok (.iload 4, 2) := by decide +kernel
theorem dX9_plant_95 : decode cX9_plant 95 = .ok (.iload_n 1, 1) := by decide +kernel
theorem dX9_plant_96 : decode cX9_plant 96 = .ok (.invokevirtual 141, 3) := by decide +kernel
theorem dX9_plant_99 : decode cX9_plant 99 = .ok (.ireturn, 1) := by decide +kernel
theorem dX9_segments_0 : decode cX9_segments 0 = .ok (.aload_n 0, 1) := by decide +kernel
theorem dX9_segments_1 : decode cX9_segments 1 = .ok (.getfield 112, 3) := by decide +kernel
theorem dX9_segments_4 : decode cX9_segments 4 = .ok (.ireturn, 1) := by decide +kernel
set_option maxRecDepth 20000 in
theorem ggX9_segment_X9_isIn : GoodIn wsX9_segment wsX9_isIn := goodIn_r _ [6] (by decide +kernel) (by decide +kernel)
set_option maxRecDepth 20000 in
theorem gX9_segment_X9_isIn : GoodIn wsX9_segment (va_wsS RX9 101 yX9_isIn wsX9_isIn) := goodIn_app (goodIn_of _ (by decide +kernel)) ggX9_segment_X9_isIn
set_option maxRecDepth 20000 in
theorem ggX9_segment_X9_no : GoodIn wsX9_segment wsX9_no := goodIn_r _ [10, 11, 12, 13, 14, 15, 16, 17, 18, 19, 20, 21, 22, 23, 24, 25, 26, 27, 28, 29, 30, 31, 32, 33, 34, 35, 36, 37, 38, 39, 40, 41, 42, 43, 44, 45, 46] (by decide +kernel) (by decide +kernel)
set_option maxRecDepth 20000 in
theorem gX9_segment_X9_no : GoodIn wsX9_segment (wsV RX9 108 RX9 yX9_no wsX9_no) := goodIn_app (goodIn_of _ (by decide +kernel)) ggX9_segment_X9_no
theorem dX9_segment_0 : decode cX9_segment 0 = .ok (.aload_n 0, 1) := by decide +kernel
theorem dX9_segment_1 : decode cX9_segment 1 = .ok (.iload_n 1, 1) := by decide +kernel
theorem dX9_segment_2 : decode cX9_segment 2 = .ok (.iconst 0, 1) := by decide +kernel
theorem dX9_segment_3 : decode cX9_segment 3 = .ok (.aload_n 0, 1) := by decide +kernel
theorem dX9_segment_4 : decode cX9_segment 4 = .ok (.getfield 112, 3) := by decide +kernel
theorem dX9_segment_7 : decode cX9_segment 7 = .ok (.iconst 1, 1) := by decide +kernel
theorem dX9_segment_8 : decode cX9_segment 8 = .ok (.isub, 1) := by decide +kernel
theorem dX9_segment_9 : decode cX9_segment 9 = .ok (.invokestatic 101, 3) := by decide +kernel
theorem dX9_segment_12 : decode cX9_segment 12 = .ok (.iconst 1, 1) := by decide +kernel
theorem dX9_segment_13 : decode cX9_segment 13 = .ok (.invokevirtual 108, 3) := by decide +kernel
theorem dX9_segment_16 : decode cX9_segment 16 = .ok (.ifCond .eq 7, 3) := by decide +kernel
theorem dX9_segment_19 : decode cX9_segment 19 = .ok (.iconst 0, 1) := by decide +kernel
theorem dX9_segment_20 : decode cX9_segment 20 = .ok (.goto 9, 3) := by decide +kernel
theorem dX9_segment_23 : decode cX9_segment 23 = .ok (.aload_n 0, 1) := by decide +kernel
theorem dX9_segment_24 : decode cX9_segment 24 = .ok (.getfield 41, 3) := by decide +kernel
theorem dX9_segment_27 : decode cX9_segment 27 = .ok (.iload_n 1, 1) := by decide +kernel
theorem dX9_segment_28 : decode cX9_segment 28 = .ok (.iaload, 1) := by decide +kernel
theorem dX9_segment_29 : decode cX9_segment 29 = .ok (.ireturn, 1) := by decide +kernel
theorem dX9_isSegment_0 : decode cX9_isSegment 0 = .ok (.iconst 0, 1) := by decide +kernel
theorem dX9_isSegment_1 : decode cX9_isSegment 1 = .ok (.istore_n 2, 1) := by decide +kernel
theorem dX9_isSegment_2 : decode cX9_isSegment 2 = .ok (.iconst 0, 1) := by decide +kernel
theorem dX9_isSegment_3 : decode cX9_isSegment 3 = .ok (.istore_n 3, 1) := by decide +kernel
theorem dX9_isSegment_4 : decode cX9_isSegment 4 = .ok (.iload_n 3, 1) := by decide +kernel
theorem dX9_isSegment_5 : decode cX9_isSegment 5 = .ok (.aload_n 0, 1) := by decide +kernel
theorem dX9_isSegment_6 : decode cX9_isSegment 6 = .ok (.getfield 112, 3) := by decide +kernel
theorem dX9_isSegment_9 : decode cX9_isSegment 9 = .ok (.if_icmp .ge 29, 3) := by decide +kernel
theorem dX9_isSegment_12 : decode cX9_isSegment 12 = .ok (.iload_n 2, 1) := by decide +kernel
theorem dX9_isSegment_13 : decode cX9_isSegment 13 = .ok (.ifCond .ne 13, 3) := by decide +kernel
theorem dX9_isSegment_16 : decode cX9_isSegment 16 = .ok (.aload_n 0, 1) := by decide +kernel
theorem dX9_isSegment_17 : decode cX9_isSegment 17 = .ok (.getfield 41, 3) := by decide +kernel
theorem dX9_isSegment_20 : decode cX9_isSegment 20 = .ok (.iload_n 3, 1) := by decide +kernel
theorem dX9_isSegment_21 : decode cX9_isSegment 21 = .ok (.iaload, 1) := by decide +kernel
theorem dX9_isSegment_22 : decode cX9_isSegment 22 = .ok (.iload_n 1, 1) := by decide +kernel
theorem dX9_isSegment_23 : decode cX9_isSegment 23 = .ok (.if_icmp .ne 7, 3) := by decide +kernel
theorem dX9_isSegment_26 : decode cX9_isSegment 26 = .ok (.iconst 1, 1) := by decide +kernel
theorem dX9_isSegment_27 : decode cX9_isSegment 27 = .ok (.goto 4, 3) := by decide +kernel
theorem dX9_isSegment_30 : decode cX9_isSegment 30 = .ok (.iconst 0, 1) := by decide +kernel
theorem dX9_isSegment_31 : decode cX9_isSegment 31 = .ok (.istore_n 2, 1) := by decide +kernel
theorem dX9_isSegment_32 : decode cX9_isSegment 32 = .ok (.iinc 3 1, 3) := by decide +kernel
theorem dX9_isSegment_35 : decode cX9_isSegment 35 = .ok (.goto (-31), 3) := by decide +kernel
theorem dX9_isSegment_38 : decode cX9_isSegment 38 = .ok (.iload_n 2, 1) := by decide +kernel
theorem dX9_isSegment_39 : decode cX9_isSegment 39 = .ok (.ireturn, 1) := by decide +kernel
set_option maxRecDepth 20000 in
theorem ggX9_size_X9_isSegment : GoodIn wsX9_size wsX9_isSegment := goodIn_ca (goodIn_r _ [5, 6, 7, 19, 20, 21, 22, 23, 24, 25, 26, 27, 28, 29, 30, 31, 32, 33, 34, 35, 36, 37, 38, 39, 40, 41, 42, 43, 44, 45, 46, 47, 48, 49, 50, 51, 52, 53] (by decide +kernel) (by decide +kernel)) (goodIn_sub (fun _ h => List.mem_cons_of_mem _ (List.mem_append_right _ h)) (by decide +kernel))
set_option maxRecDepth 20000 in
theorem gX9_size_X9_isSegment : GoodIn wsX9_size (wsV RX9 148 RX9 yX9_isSegment wsX9_isSegment) := goodIn_app (goodIn_of _ (by decide +kernel)) ggX9_size_X9_isSegment
set_option maxRecDepth 20000 in
theorem ggX9_size_X9_no : GoodIn wsX9_size wsX9_no := goodIn_r _ [11, 12, 19, 20, 21, 22, 23, 24, 25, 26, 27, 28, 29, 30, 31, 32, 33, 34, 35, 36, 37, 38, 39, 40, 41, 42, 43, 44, 45, 46, 47, 48, 49, 50, 51, 52, 53] (by decide +kernel) (by decide +kernel)
set_option maxRecDepth 20000 in
theorem gX9_size_X9_no : GoodIn wsX9_size (wsV RX9 108 RX9 yX9_no wsX9_no) := goodIn_app (goodIn_of _ (by decide +kernel)) ggX9_size_X9_no
set_option maxRecDepth 20000 in
theorem ggX9_size_X9_sizeOf : GoodIn wsX9_size wsX9_sizeOf := goodIn_ca (goodIn_r _ [16, 17, 18, 19, 20, 21, 22, 23, 24, 25, 26, 27, 28, 29, 30, 31, 32, 33, 34, 35, 36, 37, 38, 39, 40, 41, 42, 43, 44, 45, 46, 47, 48, 49, 50, 51, 52, 53] (by decide +kernel) (by decide +kernel)) (goodIn_sub (fun _ h => List.mem_cons_of_mem _ (List.mem_append_right _ h)) (by decide +kernel))
set_option maxRecDepth 20000 in
theorem gX9_size_X9_sizeOf : GoodIn wsX9_size (wsV RX9 121 RX9 yX9_sizeOf wsX9_sizeOf) := goodIn_app (goodIn_of _ (by decide +kernel)) ggX9_size_X9_sizeOf
theorem dX9_size_0 : decode cX9_size 0 = .ok (.aload_n 0, 1) := by decide +kernel
theorem dX9_size_1 : decode cX9_size 1 = .ok (.aload_n 0, 1) := by decide +kernel
theorem dX9_size_2 : decode cX9_size 2 = .ok (.iload_n 1, 1) := by decide +kernel
theorem dX9_size_3 : decode cX9_size 3 = .ok (.invokevirtual 148, 3) := by decide +kernel
theorem dX9_size_6 : decode cX9_size 6 = .ok (.iconst 1, 1) := by decide +kernel
theorem dX9_size_7 : decode cX9_size 7 = .ok (.invokevirtual 108, 3) := by decide +kernel
theorem dX9_size_10 : decode cX9_size 10 = .ok (.ifCond .eq 7, 3) := by decide +kernel
theorem dX9_size_13 : decode cX9_size 13 = .ok (.iconst 0, 1) := by decide +kernel
theorem dX9_size_14 : decode cX9_size 14 = .ok (.goto 8, 3) := by decide +kernel
theorem dX9_size_17 : decode cX9_size 17 = .ok (.aload_n 0, 1) := by decide +kernel
theorem dX9_size_18 : decode cX9_size 18 = .ok (.iload_n 1, 1) := by decide +kernel
theorem dX9_size_19 : decode cX9_size 19 = .ok (.invokevirtual 121, 3) := by decide +kernel
theorem dX9_size_22 : decode cX9_size 22 = .ok (.ireturn, 1) := by decide +kernel
theorem dX9_drops_0 : decode cX9_drops 0 = .ok (.iconst 0, 1) := by decide +kernel
theorem dX9_drops_1 : decode cX9_drops 1 = .ok (.istore_n 2, 1) := by decide +kernel
theorem dX9_drops_2 : decode cX9_drops 2 = .ok (.iconst 0, 1) := by decide +kernel
theorem dX9_drops_3 : decode cX9_drops 3 = .ok (.istore_n 3, 1) := by decide +kernel
theorem dX9_drops_4 : decode cX9_drops 4 = .ok (.iload_n 3, 1) := by decide +kernel
theorem dX9_drops_5 : decode cX9_drops 5 = .ok (.aload_n 0, 1) := by decide +kernel
theorem dX9_drops_6 : decode cX9_drops 6 = .ok (.getfield 112, 3) := by decide +kernel
theorem dX9_drops_9 : decode cX9_drops 9 = .ok (.if_icmp .ge 39, 3) := by decide +kernel
theorem dX9_drops_12 : decode cX9_drops 12 = .ok (.aload_n 0, 1) := by decide +kernel
theorem dX9_drops_13 : decode cX9_drops 13 = .ok (.getfield 41, 3) := by decide +kernel
theorem dX9_drops_16 : decode cX9_drops 16 = .ok (.iload_n 2, 1) := by decide +kernel
theorem dX9_drops_17 : decode cX9_drops 17 = .ok (.aload_n 0, 1) := by decide +kernel
theorem dX9_drops_18 : decode cX9_drops 18 = .ok (.getfield 41, 3) := by decide +kernel
theorem dX9_drops_21 : decode cX9_drops 21 = .ok (.iload_n 3, 1) := by decide +kernel
theorem dX9_drops_22 : decode cX9_drops 22 = .ok (.iaload, 1) := by decide +kernel
theorem dX9_drops_23 : decode cX9_drops 23 = .ok (.iastore, 1) := by decide +kernel
theorem dX9_drops_24 : decode cX9_drops 24 = .ok (.iload_n 2, 1) := by decide +kernel
theorem dX9_drops_25 : decode cX9_drops 25 = .ok (.aload_n 0, 1) := by decide +kernel
theorem dX9_drops_26 : decode cX9_drops 26 = .ok (.getfield 41, 3) := by decide +kernel
theorem dX9_drops_29 : decode cX9_drops 29 = .ok (.iload_n 3, 1) := by decide +kernel
theorem dX9_drops_30 : decode cX9_drops 30 = .ok (.iaload, 1) := by decide +kernel
theorem dX9_drops_31 : decode cX9_drops 31 = .ok (.iload_n 1, 1) := by decide +kernel
theorem dX9_drops_32 : decode cX9_drops 32 = .ok (.if_icmp .ne 7, 3) := by decide +kernel
theorem dX9_drops_35 : decode cX9_drops 35 = .ok (.iconst 0, 1) := by decide +kernel
theorem dX9_drops_36 : decode cX9_drops 36 = .ok (.goto 4, 3) := by decide +kernel
theorem dX9_drops_39 : decode cX9_drops 39 = .ok (.iconst 1, 1) := by decide +kernel
theorem dX9_drops_40 : decode cX9_drops 40 = .ok (.iadd, 1) := by decide +kernel
theorem dX9_drops_41 : decode cX9_drops 41 = .ok (.istore_n 2, 1) := by decide +kernel
theorem dX9_drops_42 : decode cX9_drops 42 = .ok (.iinc 3 1, 3) := by decide +kernel
theorem dX9_drops_45 : decode cX9_drops 45 = .ok (.goto (-41), 3) := by decide +kernel
theorem dX9_drops_48 : decode cX9_drops 48 = .ok (.aload_n 0, 1) := by decide +kernel
theorem dX9_drops_49 : decode cX9_drops 49 = .ok (.iload_n 2, 1) := by decide +kernel
theorem dX9_drops_50 : decode cX9_drops 50 = .ok (.putfield 112, 3) := by decide +kernel
theorem dX9_drops_53 : decode cX9_drops 53 = .ok (.return_, 1) := by decide +kernel
theorem dX9_blames_0 : decode cX9_blames 0 = .ok (.iload_n 1, 1) := by decide +kernel
theorem dX9_blames_1 : decode cX9_blames 1 = .ok (.ifCond .ne 4, 3) := by decide +kernel
theorem dX9_blames_4 : decode cX9_blames 4 = .ok (.return_, 1) := by decide +kernel
theorem dX9_blames_5 : decode cX9_blames 5 = .ok (.aload_n 0, 1) := by decide +kernel
theorem dX9_blames_6 : decode cX9_blames 6 = .ok (.getfield 77, 3) := by decide +kernel
theorem dX9_blames_9 : decode cX9_blames 9 = .ok (.aload_n 0, 1) := by decide +kernel
theorem dX9_blames_10 : decode cX9_blames 10 = .ok (.getfield 151, 3) := by decide +kernel
theorem dX9_blames_13 : decode cX9_blames 13 = .ok (.iload_n 2, 1) := by decide +kernel
theorem dX9_blames_14 : decode cX9_blames 14 = .ok (.castore, 1) := by decide +kernel
theorem dX9_blames_15 : decode cX9_blames 15 = .ok (.aload_n 0, 1) := by decide +kernel
theorem dX9_blames_16 : decode cX9_blames 16 = .ok (.dup, 1) := by decide +kernel
theorem dX9_blames_17 : decode cX9_blames 17 = .ok (.getfield 151, 3) := by decide +kernel
theorem dX9_blames_20 : decode cX9_blames 20 = .ok (.iconst 1, 1) := by decide +kernel
theorem dX9_blames_21 : decode cX9_blames 21 = .ok (.iadd, 1) := by decide +kernel
theorem dX9_blames_22 : decode cX9_blames 22 = .ok (.putfield 151, 3) := by decide +kernel
theorem dX9_blames_25 : decode cX9_blames 25 = .ok (.return_, 1) := by decide +kernel
set_option maxRecDepth 20000 in
theorem ggX9_merge_X9_no : GoodIn wsX9_merge wsX9_no := goodIn_r _ [9, 10, 31, 32, 33, 34, 35, 36, 37, 38, 39, 40, 41, 42, 43, 44, 45, 46, 47, 48, 49, 50, 51, 52, 53, 54, 55, 56, 57, 58, 59, 60, 61, 62, 63, 64, 65] (by decide +kernel) (by decide +kernel)
set_option maxRecDepth 20000 in
theorem gX9_merge_X9_no : GoodIn wsX9_merge (wsV RX9 108 RX9 yX9_no wsX9_no) := goodIn_app (goodIn_of _ (by decide +kernel)) ggX9_merge_X9_no
set_option maxRecDepth 20000 in
theorem ggX9_merge_X9_isSegment : GoodIn wsX9_merge wsX9_isSegment := goodIn_ca (goodIn_r _ [14, 15, 16, 31, 32, 33, 34, 35, 36, 37, 38, 39, 40, 41, 42, 43, 44, 45, 46, 47, 48, 49, 50, 51, 52, 53, 54, 55, 56, 57, 58, 59, 60, 61, 62, 63, 64, 65] (by decide +kernel) (by decide +kernel)) (goodIn_sub (fun _ h => List.mem_cons_of_mem _ (List.mem_append_right _ h)) (by decide +kernel))
set_option maxRecDepth 20000 in
theorem gX9_merge_X9_isSegment : GoodIn wsX9_merge (wsV RX9 148 RX9 yX9_isSegment wsX9_isSegment) := goodIn_app (goodIn_of _ (by decide +kernel)) ggX9_merge_X9_isSegment
set_option maxRecDepth 20000 in
theorem ggX9_merge_X9_blames : GoodIn wsX9_merge wsX9_blames := goodIn_ca (goodIn_r _ [20, 21, 2, 31, 32, 33, 34, 35, 36, 37, 38, 39, 40, 41, 42, 43, 44, 45, 46, 47, 48, 49, 50, 51, 52, 53, 54, 55, 56, 57, 58, 59, 60, 61, 62, 63, 64, 65] (by decide +kernel) (by decide +kernel)) (goodIn_sub (fun _ h => List.mem_cons_of_mem _ (List.mem_append_right _ h)) (by decide +kernel))
set_option maxRecDepth 20000 in
theorem gX9_merge_X9_blames : GoodIn wsX9_merge (wsV RX9 154 RX9 yX9_blames wsX9_blames) := goodIn_app (goodIn_of _ (by decide +kernel)) ggX9_merge_X9_blames
set_option maxRecDepth 20000 in
theorem ggX9_merge_X9_drops : GoodIn wsX9_merge wsX9_drops := goodIn_ca (goodIn_r _ [25, 15, 16, 31, 32, 33, 34, 35, 36, 37, 38, 39, 40, 41, 42, 43, 44, 45, 46, 47, 48, 49, 50, 51, 52, 53, 54, 55, 56, 57, 58, 59, 60, 61, 62, 63, 64, 65] (by decide +kernel) (by decide +kernel)) (goodIn_sub (fun _ h => List.mem_cons_of_mem _ (List.mem_append_right _ h)) (by decide +kernel))
set_option maxRecDepth 20000 in
theorem gX9_merge_X9_drops : GoodIn wsX9_merge (wsV RX9 158 RX9 yX9_drops wsX9_drops) := goodIn_app (goodIn_of _ (by decide +kernel)) ggX9_merge_X9_drops
set_option maxRecDepth 20000 in
theorem ggX9_merge_X9_opens : GoodIn wsX9_merge wsX9_opens := goodIn_ca (goodIn_r _ [29, 16, 15, 30, 31, 32, 33, 34, 35, 36, 37, 38, 39, 40, 41, 42, 43, 44, 45, 46, 47, 48, 49, 50, 51, 52, 53, 54, 55, 56, 57, 58, 59, 60, 61, 62, 63, 64, 65] (by decide +kernel) (by decide +kernel)) (goodIn_sub (fun _ h => List.mem_cons_of_mem _ (List.mem_append_right _ h)) (by decide +kernel))
set_option maxRecDepth 20000 in
theorem gX9_merge_X9_opens : GoodIn wsX9_merge (wsV RX9 87 RX9 yX9_opens wsX9_opens) := goodIn_app (goodIn_of _ (by decide +kernel)) ggX9_merge_X9_opens
theorem dX9_merge_0 : decode cX9_merge 0 = .ok (.aload_n 0, 1) := by decide +kernel
theorem dX9_merge_1 : decode cX9_merge 1 = .ok (.iload_n 1, 1) := by decide +kernel
theorem dX9_merge_2 : decode cX9_merge 2 = .ok (.iload_n 2, 1) := by decide +kernel
theorem dX9_merge_3 : decode cX9_merge 3 = .ok (.if_icmp .eq 7, 3) := by decide +kernel
theorem dX9_merge_6 : decode cX9_merge 6 = .ok (.iconst 1, 1) := by decide +kernel
theorem dX9_merge_7 : decode cX9_merge 7 = .ok (.goto 4, 3) := by decide +kernel
theorem dX9_merge_10 : decode cX9_merge 10 = .ok (.iconst 0, 1) := by decide +kernel
theorem dX9_merge_11 : decode cX9_merge 11 = .ok (.iconst 1, 1) := by decide +kernel
theorem dX9_merge_12 : decode cX9_merge 12 = .ok (.invokevirtual 108, 3) := by decide +kernel
theorem dX9_merge_15 : decode cX9_merge 15 = .ok (.ifCond .eq 5, 3) := by decide +kernel
theorem dX9_merge_18 : decode cX9_merge 18 = .ok (.iconst 0, 1) := by decide +kernel
theorem dX9_merge_19 : decode cX9_merge 19 = .ok (.ireturn, 1) := by decide +kernel
theorem dX9_merge_20 : decode cX9_merge 20 = .ok (.aload_n 0, 1) := by decide +kernel
theorem dX9_merge_21 : decode cX9_merge 21 = .ok (.iload_n 1, 1) := by decide +kernel
theorem dX9_merge_22 : decode cX9_merge 22 = .ok (.invokevirtual 148, 3) := by decide +kernel
theorem dX9_merge_25 : decode cX9_merge 25 = .ok (.istore_n 3, 1) := by decide +kernel
theorem dX9_merge_26 : decode cX9_merge 26 = .ok (.aload_n 0, 1) := by decide +kernel
theorem dX9_merge_27 : decode cX9_merge 27 = .ok (.iload_n 2, 1) := by decide +kernel
theorem dX9_merge_28 : decode cX9_merge 28 = .ok (.invokevirtual 148, 3) := by decide +kernel
theorem dX9_merge_31 : decode cX9_merge 31 = .ok (.istore 4, 2) := by decide +kernel
theorem dX9_merge_33 : decode cX9_merge 33 = .ok (.iload_n 3, 1) := by decide +kernel
theorem dX9_merge_34 : decode cX9_merge 34 = .ok (.ifCond .eq 24, 3) := by decide +kernel
theorem dX9_merge_37 : decode cX9_merge 37 = .ok (.iload 4, 2) := by decide +kernel
theorem dX9_merge_39 : decode cX9_merge 39 = .ok (.ifCond .eq 19, 3) := by decide +kernel
theorem dX9_merge_42 : decode cX9_merge 42 = .ok (.iload_n 1, 1) := by decide +kernel
theorem dX9_merge_43 : decode cX9_merge 43 = .ok (.aload_n 0, 1) := by decide +kernel
theorem dX9_merge_44 : decode cX9_merge 44 = .ok (.getfield 91, 3) := by decide +kernel
theorem dX9_merge_47 : decode cX9_merge 47 = .ok (.if_icmp .eq 11, 3) := by decide +kernel
theorem dX9_merge_50 : decode cX9_merge 50 = .ok (.iload_n 2, 1) := by decide +kernel
theorem dX9_merge_51 : decode cX9_merge 51 = .ok (.aload_n 0, 1) := by decide +kernel
theorem dX9_merge_52 : decode cX9_merge 52 = .ok (.getfield 91, 3) := by decide +kernel
theorem dX9_merge_55 : decode cX9_merge 55 = .ok (.if_icmp .ne 7, 3) := by decide +kernel
theorem dX9_merge_58 : decode cX9_merge 58 = .ok (.iconst 1, 1) := by decide +kernel
theorem dX9_merge_59 : decode cX9_merge 59 = .ok (.goto 4, 3) := by decide +kernel
theorem dX9_merge_62 : decode cX9_merge 62 = .ok (.iconst 0, 1) := by decide +kernel
theorem dX9_merge_63 : decode cX9_merge 63 = .ok (.istore 5, 2) := by decide +kernel
theorem dX9_merge_65 : decode cX9_merge 65 = .ok (.iload 5, 2) := by decide +kernel
theorem dX9_merge_67 : decode cX9_merge 67 = .ok (.ifCond .eq 86, 3) := by decide +kernel
theorem dX9_merge_70 : decode cX9_merge 70 = .ok (.aload_n 0, 1) := by decide +kernel
theorem dX9_merge_71 : decode cX9_merge 71 = .ok (.iconst 0, 1) := by decide +kernel
theorem dX9_merge_72 : decode cX9_merge 72 = .ok (.putfield 151, 3) := by decide +kernel
theorem dX9_merge_75 : decode cX9_merge 75 = .ok (.aload_n 0, 1) := by decide +kernel
theorem dX9_merge_76 : decode cX9_merge 76 = .ok (.iload_n 3, 1) := by decide +kernel
theorem dX9_merge_77 : decode cX9_merge 77 = .ok (.ifCond .ne 7, 3) := by decide +kernel
theorem dX9_merge_80 : decode cX9_merge 80 = .ok (.iconst 1, 1) := by decide +kernel
theorem dX9_merge_81 : decode cX9_merge 81 = .ok (.goto 4, 3) := by decide +kernel
theorem dX9_merge_84 : decode cX9_merge 84 = .ok (.iconst 0, 1) := by decide +kernel
theorem dX9_merge_85 : decode cX9_merge 85 = .ok (.bipush 115, 2) := by decide +kernel
theorem dX9_merge_87 : decode cX9_merge 87 = .ok (.invokevirtual 154, 3) := by decide +kernel
theorem dX9_merge_90 : decode cX9_merge 90 = .ok (.aload_n 0, 1) := by decide +kernel
theorem dX9_merge_91 : decode cX9_merge 91 = .ok (.iload 4, 2) := by decide +kernel
theorem dX9_merge_93 : decode cX9_merge 93 = .ok (.ifCond .ne 7, 3) := by decide +kernel
theorem dX9_merge_96 : decode cX9_merge 96 = .ok (.iconst 1, 1) := by decide +kernel
theorem dX9_merge_97 : decode cX9_merge 97 = .ok (.goto 4, 3) := by decide +kernel
theorem dX9_merge_100 : decode cX9_merge 100 = .ok (.iconst 0, 1) := by decide +kernel
theorem dX9_merge_101 : decode cX9_merge 101 = .ok (.bipush 115, 2) := by decide +kernel
theorem dX9_merge_103 : decode cX9_merge 103 = .ok (.invokevirtual 154, 3) := by decide +kernel
theorem dX9_merge_106 : decode cX9_merge 106 = .ok (.aload_n 0, 1) := by decide +kernel
theorem dX9_merge_107 : decode cX9_merge 107 = .ok (.iload_n 3, 1) := by decide +kernel
theorem dX9_merge_108 : decode cX9_merge 108 = .ok (.ifCond .eq 15, 3) := by decide +kernel
theorem dX9_merge_111 : decode cX9_merge 111 = .ok (.iload_n 1, 1) := by decide +kernel
theorem dX9_merge_112 : decode cX9_merge 112 = .ok (.aload_n 0, 1) := by decide +kernel
theorem dX9_merge_113 : decode cX9_merge 113 = .ok (.getfield 91, 3) := by decide +kernel
theorem dX9_merge_116 : decode cX9_merge 116 = .ok (.if_icmp .ne 7, 3) := by decide +kernel
theorem dX9_merge_119 : decode cX9_merge 119 = .ok (.iconst 1, 1) := by decide +kernel
theorem dX9_merge_120 : decode cX9_merge 120 = .ok (.goto 4, 3) := by decide +kernel
theorem dX9_merge_123 : decode cX9_merge 123 = .ok (.iconst 0, 1) := by decide +kernel
theorem dX9_merge_124 : decode cX9_merge 124 = .ok (.bipush 111, 2) := by decide +kernel
theorem dX9_merge_126 : decode cX9_merge 126 = .ok (.invokevirtual 154, 3) := by decide +kernel
theorem dX9_merge_129 : decode cX9_merge 129 = .ok (.aload_n 0, 1) := by decide +kernel
theorem dX9_merge_130 : decode cX9_merge 130 = .ok (.iload 4, 2) := by decide +kernel
theorem dX9_merge_132 : decode cX9_merge 132 = .ok (.ifCond .eq 15, 3) := by decide +kernel
theorem dX9_merge_135 : decode cX9_merge 135 = .ok (.iload_n 2, 1) := by decide +kernel
theorem dX9_merge_136 : decode cX9_merge 136 = .ok (.aload_n 0, 1) := by decide +kernel
theorem dX9_merge_137 : decode cX9_merge 137 = .ok (.getfield 91, 3) := by decide +kernel
theorem dX9_merge_140 : decode cX9_merge 140 = .ok (.if_icmp .ne 7, 3) := by decide +kernel
theorem dX9_merge_143 : decode cX9_merge 143 = .ok (.iconst 1, 1) := by decide +kernel
theorem dX9_merge_144 : decode cX9_merge 144 = .ok (.goto 4, 3) := by decide +kernel
theorem dX9_merge_147 : decode cX9_merge 147 = .ok (.iconst 0, 1) := by decide +kernel
theorem dX9_merge_148 : decode cX9_merge 148 = .ok (.bipush 111, 2) := by decide +kernel
theorem dX9_merge_150 : decode cX9_merge 150 = .ok (.invokevirtual 154, 3) := by decide +kernel
theorem dX9_merge_153 : decode cX9_merge 153 = .ok (.aload_n 0, 1) := by decide +kernel
theorem dX9_merge_154 : decode cX9_merge 154 = .ok (.iload_n 3, 1) := by decide +kernel
theorem dX9_merge_155 : decode cX9_merge 155 = .ok (.ifCond .eq 12, 3) := by decide +kernel
theorem dX9_merge_158 : decode cX9_merge 158 = .ok (.iload 4, 2) := by decide +kernel
theorem dX9_merge_160 : decode cX9_merge 160 = .ok (.ifCond .eq 7, 3) := by decide +kernel
theorem dX9_merge_163 : decode cX9_merge 163 = .ok (.iconst 1, 1) := by decide +kernel
theorem dX9_merge_164 : decode cX9_merge 164 = .ok (.goto 4, 3) := by decide +kernel
theorem dX9_merge_167 : decode cX9_merge 167 = .ok (.iconst 0, 1) := by decide +kernel
theorem dX9_merge_168 : decode cX9_merge 168 = .ok (.iconst 2, 1) := by decide +kernel
theorem dX9_merge_169 : decode cX9_merge 169 = .ok (.invokevirtual 108, 3) := by decide +kernel
theorem dX9_merge_172 : decode cX9_merge 172 = .ok (.ifCond .ne 21, 3) := by decide +kernel
theorem dX9_merge_175 : decode cX9_merge 175 = .ok (.aload_n 0, 1) := by decide +kernel
theorem dX9_merge_176 : decode cX9_merge 176 = .ok (.iload 5, 2) := by decide +kernel
theorem dX9_merge_178 : decode cX9_merge 178 = .ok (.ifCond .ne 7, 3) := by decide +kernel
theorem dX9_merge_181 : decode cX9_merge 181 = .ok (.iconst 1, 1) := by decide +kernel
theorem dX9_merge_182 : decode cX9_merge 182 = .ok (.goto 4, 3) := by decide +kernel
theorem dX9_merge_185 : decode cX9_merge 185 = .ok (.iconst 0, 1) := by decide +kernel
theorem dX9_merge_186 : decode cX9_merge 186 = .ok (.iconst 3, 1) := by decide +kernel
theorem dX9_merge_187 : decode cX9_merge 187 = .ok (.invokevirtual 108, 3) := by decide +kernel
theorem dX9_merge_190 : decode cX9_merge 190 = .ok (.ifCond .eq 5, 3) := by decide +kernel
theorem dX9_merge_193 : decode cX9_merge 193 = .ok (.iconst 0, 1) := by decide +kernel
theorem dX9_merge_194 : decode cX9_merge 194 = .ok (.ireturn, 1) := by decide +kernel
theorem dX9_merge_195 : decode cX9_merge 195 = .ok (.aload_n 0, 1) := by decide +kernel
theorem dX9_merge_196 : decode cX9_merge 196 = .ok (.iload_n 1, 1) := by decide +kernel
theorem dX9_merge_197 : decode cX9_merge 197 = .ok (.invokevirtual 158, 3) := by decide +kernel
theorem dX9_merge_200 : decode cX9_merge 200 = .ok (.aload_n 0, 1) := by decide +kernel
theorem dX9_merge_201 : decode cX9_merge 201 = .ok (.iload_n 2, 1) := by decide +kernel
theorem dX9_merge_202 : decode cX9_merge 202 = .ok (.invokevirtual 158, 3) := by decide +kernel
theorem dX9_merge_205 : decode cX9_merge 205 = .ok (.aload_n 0, 1) := by decide +kernel
theorem dX9_merge_206 : decode cX9_merge 206 = .ok (.invokevirtual 87, 3) := by decide +kernel
theorem dX9_merge_209 : decode cX9_merge 209 = .ok (.istore 6, 2) := by decide +kernel
theorem dX9_merge_211 : decode cX9_merge 211 = .ok (.iconst 0, 1) := by decide +kernel
theorem dX9_merge_212 : decode cX9_merge 212 = .ok (.istore 7, 2) := by decide +kernel
theorem dX9_merge_214 : decode cX9_merge 214 = .ok (.iload 7, 2) := by decide +kernel
theorem dX9_merge_216 : decode cX9_merge 216 = .ok (.aload_n 0, 1) := by decide +kernel
theorem dX9_merge_217 : decode cX9_merge 217 = .ok (.getfield 118, 3) := by decide +kernel
theorem dX9_merge_220 : decode cX9_merge 220 = .ok (.if_icmp .ge 50, 3) := by decide +kernel
theorem dX9_merge_223 : decode cX9_merge 223 = .ok (.aload_n 0, 1) := by decide +kernel
theorem dX9_merge_224 : decode cX9_merge 224 = .ok (.getfield 32, 3) := by decide +kernel
theorem dX9_merge_227 : decode cX9_merge 227 = .ok (.iload 7, 2) := by decide +kernel
theorem dX9_merge_229 : decode cX9_merge 229 = .ok (.aload_n 0, 1) := by decide +kernel
theorem dX9_merge_230 : decode cX9_merge 230 = .ok (.getfield 32, 3) := by decide +kernel
theorem dX9_merge_233 : decode cX9_merge 233 = .ok (.iload 7, 2) := by decide +kernel
theorem dX9_merge_235 : decode cX9_merge 235 = .ok (.iaload, 1) := by decide +kernel
theorem dX9_merge_236 : decode cX9_merge 236 = .ok (.iload_n 1, 1) := by decide +kernel
theorem dX9_merge_237 : decode cX9_merge 237 = .ok (.if_icmp .eq 14, 3) := by decide +kernel
theorem dX9_merge_240 : decode cX9_merge 240 = .ok (.aload_n 0, 1) := by decide +kernel
theorem dX9_merge_241 : decode cX9_merge 241 = .ok (.getfield 32, 3) := by decide +kernel
theorem dX9_merge_244 : decode cX9_merge 244 = .ok (.iload 7, 2) := by decide +kernel
theorem dX9_merge_246 : decode cX9_merge 246 = .ok (.iaload, 1) := by decide +kernel
theorem dX9_merge_247 : decode cX9_merge 247 = .ok (.iload_n 2, 1) := by decide +kernel
theorem dX9_merge_248 : decode cX9_merge 248 = .ok (.if_icmp .ne 8, 3) := by decide +kernel
theorem dX9_merge_251 : decode cX9_merge 251 = .ok (.iload 6, 2) := by decide +kernel
theorem dX9_merge_253 : decode cX9_merge 253 = .ok (.goto 10, 3) := by decide +kernel
theorem dX9_merge_256 : decode cX9_merge 256 = .ok (.aload_n 0, 1) := by decide +kernel
theorem dX9_merge_257 : decode cX9_merge 257 = .ok (.getfield 32, 3) := by decide +kernel
theorem dX9_merge_260 : decode cX9_merge 260 = .ok (.iload 7, 2) := by decide +kernel
theorem dX9_merge_262 : decode cX9_merge 262 = .ok (.iaload, 1) := by decide +kernel
theorem dX9_merge_263 : decode cX9_merge 263 = .ok (.iastore, 1) := by decide +kernel
theorem dX9_merge_264 : decode cX9_merge 264 = .ok (.iinc 7 1, 3) := by decide +kernel
theorem dX9_merge_267 : decode cX9_merge 267 = .ok (.goto (-53), 3) := by decide +kernel
theorem dX9_merge_270 : decode cX9_merge 270 = .ok (.iload 6, 2) := by decide +kernel
theorem dX9_merge_272 : decode cX9_merge 272 = .ok (.ireturn, 1) := by decide +kernel
theorem dX9_lost_0 : decode cX9_lost 0 = .ok (.iconst 0, 1) := by decide +kernel
theorem dX9_lost_1 : decode cX9_lost 1 = .ok (.istore_n 1, 1) := by decide +kernel
theorem dX9_lost_2 : decode cX9_lost 2 = .ok (.iconst 0, 1) := by decide +kernel
theorem dX9_lost_3 : decode cX9_lost 3 = .ok (.istore_n 2, 1) := by decide +kernel
theorem dX9_lost_4 : decode cX9_lost 4 = .ok (.iload_n 2, 1) := by decide +kernel
theorem dX9_lost_5 : decode cX9_lost 5 = .ok (.aload_n 0, 1) := by decide +kernel
theorem dX9_lost_6 : decode cX9_lost 6 = .ok (.getfield 118, 3) := by decide +kernel
theorem dX9_lost_9 : decode cX9_lost 9 = .ok (.if_icmp .ge 36, 3) := by decide +kernel
theorem dX9_lost_12 : decode cX9_lost 12 = .ok (.iload_n 1, 1) := by decide +kernel
theorem dX9_lost_13 : decode cX9_lost 13 = .ok (.aload_n 0, 1) := by decide +kernel
theorem dX9_lost_14 : decode cX9_lost 14 = .ok (.getfield 32, 3) := by decide +kernel
theorem dX9_lost_17 : decode cX9_lost 17 = .ok (.iload_n 2, 1) := by decide +kernel
theorem dX9_lost_18 : decode cX9_lost 18 = .ok (.iaload, 1) := by decide +kernel
theorem dX9_lost_19 : decode cX9_lost 19 = .ok (.iconst (-1), 1) := by decide +kernel
theorem dX9_lost_20 : decode cX9_lost 20 = .ok (.if_icmp .ne 16, 3) := by decide +kernel
theorem dX9_lost_23 : decode cX9_lost 23 = .ok (.aload_n 0, 1) := by decide +kernel
theorem dX9_lost_24 : decode cX9_lost 24 = .ok (.getfield 38, 3) := by decide +kernel
theorem dX9_lost_27 : decode cX9_lost 27 = .ok (.iload_n 2, 1) := by decide +kernel
theorem dX9_lost_28 : decode cX9_lost 28 = .ok (.baload, 1) := by decide +kernel
theorem dX9_lost_29 : decode cX9_lost 29 = .ok (.ifCond .ne 7, 3) := by decide +kernel
theorem dX9_lost_32 : decode cX9_lost 32 = .ok (.iconst 1, 1) := by decide +kernel
theorem dX9_lost_33 : decode cX9_lost 33 = .ok (.goto 4, 3) := by decide +kernel
theorem dX9_lost_36 : decode cX9_lost 36 = .ok (.iconst 0, 1) := by decide +kernel
theorem dX9_lost_37 : decode cX9_lost 37 = .ok (.iadd, 1) := by decide +kernel
theorem dX9_lost_38 : decode cX9_lost 38 = .ok (.istore_n 1, 1) := by decide +kernel
theorem dX9_lost_39 : decode cX9_lost 39 = .ok (.iinc 2 1, 3) := by decide +kernel
theorem dX9_lost_42 : decode cX9_lost 42 = .ok (.goto (-38), 3) := by decide +kernel
theorem dX9_lost_45 : decode cX9_lost 45 = .ok (.iload_n 1, 1) := by decide +kernel
theorem dX9_lost_46 : decode cX9_lost 46 = .ok (.ireturn, 1) := by decide +kernel
set_option maxRecDepth 20000 in
theorem ggX9_storm_X9_isSegment : GoodIn wsX9_storm wsX9_isSegment := goodIn_ca (goodIn_r _ [8, 9, 10, 25, 26, 27, 28, 29, 30, 31, 32, 33, 34, 35, 36, 37, 38, 39, 40, 41, 42, 43, 44, 45, 46, 47, 48, 49, 50, 51, 52, 53, 54, 55, 56, 57, 58, 59] (by decide +kernel) (by decide +kernel)) (goodIn_sub (fun _ h => List.mem_cons_of_mem _ (List.mem_append_right _ h)) (by decide +kernel))
set_option maxRecDepth 20000 in
theorem gX9_storm_X9_isSegment : GoodIn wsX9_storm (wsV RX9 148 RX9 yX9_isSegment wsX9_isSegment) := goodIn_app (goodIn_of _ (by decide +kernel)) ggX9_storm_X9_isSegment
set_option maxRecDepth 20000 in
theorem ggX9_storm_X9_no : GoodIn wsX9_storm wsX9_no := goodIn_r _ [14, 15, 25, 26, 27, 28, 29, 30, 31, 32, 33, 34, 35, 36, 37, 38, 39, 40, 41, 42, 43, 44, 45, 46, 47, 48, 49, 50, 51, 52, 53, 54, 55, 56, 57, 58, 59] (by decide +kernel) (by decide +kernel)
set_option maxRecDepth 20000 in
theorem gX9_storm_X9_no : GoodIn wsX9_storm (wsV RX9 108 RX9 yX9_no wsX9_no) := goodIn_app (goodIn_of _ (by decide +kernel)) ggX9_storm_X9_no
set_option maxRecDepth 20000 in
theorem ggX9_storm_X9_drops : GoodIn wsX9_storm wsX9_drops := goodIn_ca (goodIn_r _ [19, 9, 10, 25, 26, 27, 28, 29, 30, 31, 32, 33, 34, 35, 36, 37, 38, 39, 40, 41, 42, 43, 44, 45, 46, 47, 48, 49, 50, 51, 52, 53, 54, 55, 56, 57, 58, 59] (by decide +kernel) (by decide +kernel)) (goodIn_sub (fun _ h => List.mem_cons_of_mem _ (List.mem_append_right _ h)) (by decide +kernel))
set_option maxRecDepth 20000 in
theorem gX9_storm_X9_drops : GoodIn wsX9_storm (wsV RX9 158 RX9 yX9_drops wsX9_drops) := goodIn_app (goodIn_of _ (by decide +kernel)) ggX9_storm_X9_drops
set_option maxRecDepth 20000 in
theorem ggX9_storm_X9_lost : GoodIn wsX9_storm wsX9_lost := goodIn_ca (goodIn_r _ [23, 2, 3, 24, 25, 26, 27, 28, 29, 30, 31, 32, 33, 34, 35, 36, 37, 38, 39, 40, 41, 42, 43, 44, 45, 46, 47, 48, 49, 50, 51, 52, 53, 54, 55, 56, 57, 58, 59] (by decide +kernel) (by decide +kernel)) (goodIn_sub (fun _ h => List.mem_cons_of_mem _ (List.mem_append_right _ h)) (by decide +kernel))
set_option maxRecDepth 20000 in
theorem gX9_storm_X9_lost : GoodIn wsX9_storm (wsV RX9 161 RX9 yX9_lost wsX9_lost) := goodIn_app (goodIn_of _ (by decide +kernel)) ggX9_storm_X9_lost
theorem dX9_storm_0 : decode cX9_storm 0 = .ok (.aload_n 0, 1) := by decide +kernel
theorem dX9_storm_1 : decode cX9_storm 1 = .ok (.aload_n 0, 1) := by decide +kernel
theorem dX9_storm_2 : decode cX9_storm 2 = .ok (.iload_n 1, 1) := by decide +kernel
theorem dX9_storm_3 : decode cX9_storm 3 = .ok (.invokevirtual 148, 3) := by decide +kernel
theorem dX9_storm_6 : decode cX9_storm 6 = .ok (.iconst 1, 1) := by decide +kernel
theorem dX9_storm_7 : decode cX9_storm 7 = .ok (.invokevirtual 108, 3) := by decide +kernel
theorem dX9_storm_10 : decode cX9_storm 10 = .ok (.ifCond .ne 24, 3) := by decide +kernel
theorem dX9_storm_13 : decode cX9_storm 13 = .ok (.aload_n 0, 1) := by decide +kernel
theorem dX9_storm_14 : decode cX9_storm 14 = .ok (.iload_n 1, 1) := by decide +kernel
theorem dX9_storm_15 : decode cX9_storm 15 = .ok (.aload_n 0, 1) := by decide +kernel
theorem dX9_storm_16 : decode cX9_storm 16 = .ok (.getfield 91, 3) := by decide +kernel
theorem dX9_storm_19 : decode cX9_storm 19 = .ok (.if_icmp .eq 7, 3) := by decide +kernel
theorem dX9_storm_22 : decode cX9_storm 22 = .ok (.iconst 1, 1) := by decide +kernel
theorem dX9_storm_23 : decode cX9_storm 23 = .ok (.goto 4, 3) := by decide +kernel
theorem dX9_storm_26 : decode cX9_storm 26 = .ok (.iconst 0, 1) := by decide +kernel
theorem dX9_storm_27 : decode cX9_storm 27 = .ok (.iconst 2, 1) := by decide +kernel
theorem dX9_storm_28 : decode cX9_storm 28 = .ok (.invokevirtual 108, 3) := by decide +kernel
theorem dX9_storm_31 : decode cX9_storm 31 = .ok (.ifCond .eq 5, 3) := by decide +kernel
theorem dX9_storm_34 : decode cX9_storm 34 = .ok (.iconst 0, 1) := by decide +kernel
theorem dX9_storm_35 : decode cX9_storm 35 = .ok (.ireturn, 1) := by decide +kernel
theorem dX9_storm_36 : decode cX9_storm 36 = .ok (.aload_n 0, 1) := by decide +kernel
theorem dX9_storm_37 : decode cX9_storm 37 = .ok (.iload_n 1, 1) := by decide +kernel
theorem dX9_storm_38 : decode cX9_storm 38 = .ok (.invokevirtual 158, 3) := by decide +kernel
theorem dX9_storm_41 : decode cX9_storm 41 = .ok (.iconst 0, 1) := by decide +kernel
theorem dX9_storm_42 : decode cX9_storm 42 = .ok (.istore_n 2, 1) := by decide +kernel
theorem dX9_storm_43 : decode cX9_storm 43 = .ok (.iload_n 2, 1) := by decide +kernel
theorem dX9_storm_44 : decode cX9_storm 44 = .ok (.aload_n 0, 1) := by decide +kernel
theorem dX9_storm_45 : decode cX9_storm 45 = .ok (.getfield 118, 3) := by decide +kernel
theorem dX9_storm_48 : decode cX9_storm 48 = .ok (.if_icmp .ge 35, 3) := by decide +kernel
theorem dX9_storm_51 : decode cX9_storm 51 = .ok (.aload_n 0, 1) := by decide +kernel
theorem dX9_storm_52 : decode cX9_storm 52 = .ok (.getfield 32, 3) := by decide +kernel
theorem dX9_storm_55 : decode cX9_storm 55 = .ok (.iload_n 2, 1) := by decide +kernel
theorem dX9_storm_56 : decode cX9_storm 56 = .ok (.aload_n 0, 1) := by decide +kernel
theorem dX9_storm_57 : decode cX9_storm 57 = .ok (.getfield 32, 3) := by decide +kernel
theorem dX9_storm_60 : decode cX9_storm 60 = .ok (.iload_n 2, 1) := by decide +kernel
theorem dX9_storm_61 : decode cX9_storm 61 = .ok (.iaload, 1) := by decide +kernel
theorem dX9_storm_62 : decode cX9_storm 62 = .ok (.iload_n 1, 1) := by decide +kernel
theorem dX9_storm_63 : decode cX9_storm 63 = .ok (.if_icmp .ne 7, 3) := by decide +kernel
theorem dX9_storm_66 : decode cX9_storm 66 = .ok (.iconst (-1), 1) := by decide +kernel
theorem dX9_storm_67 : decode cX9_storm 67 = .ok (.goto 9, 3) := by decide +kernel
theorem dX9_storm_70 : decode cX9_storm 70 = .ok (.aload_n 0, 1) := by decide +kernel
theorem dX9_storm_71 : decode cX9_storm 71 = .ok (.getfield 32, 3) := by decide +kernel
theorem dX9_storm_74 : decode cX9_storm 74 = .ok (.iload_n 2, 1) := by decide +kernel
theorem dX9_storm_75 : decode cX9_storm 75 = .ok (.iaload, 1) := by decide +kernel
theorem dX9_storm_76 : decode cX9_storm 76 = .ok (.iastore, 1) := by decide +kernel
theorem dX9_storm_77 : decode cX9_storm 77 = .ok (.iinc 2 1, 3) := by decide +kernel
theorem dX9_storm_80 : decode cX9_storm 80 = .ok (.goto (-37), 3) := by decide +kernel
theorem dX9_storm_83 : decode cX9_storm 83 = .ok (.aload_n 0, 1) := by decide +kernel
theorem dX9_storm_84 : decode cX9_storm 84 = .ok (.invokevirtual 161, 3) := by decide +kernel
theorem dX9_storm_87 : decode cX9_storm 87 = .ok (.ireturn, 1) := by decide +kernel
set_option maxRecDepth 20000 in
theorem ggX9_rebuild_X9_lost : GoodIn wsX9_rebuild wsX9_lost := goodIn_ca (goodIn_r _ [11, 4, 5, 6, 36, 37, 38, 39, 40, 41, 42, 43, 44, 45, 46, 47, 48, 49, 50, 51, 52, 53, 54, 55, 56, 57, 58, 59, 60, 61, 62, 63, 64, 65, 66, 67, 68, 69, 70] (by decide +kernel) (by decide +kernel)) (goodIn_sub (fun _ h => List.mem_cons_of_mem _ (List.mem_append_right _ h)) (by decide +kernel))
set_option maxRecDepth 20000 in
theorem gX9_rebuild_X9_lost : GoodIn wsX9_rebuild (wsV RX9 161 RX9 yX9_lost wsX9_lost) := goodIn_app (goodIn_of _ (by decide +kernel)) ggX9_rebuild_X9_lost
set_option maxRecDepth 20000 in
theorem ggX9_rebuild_X9_sizeOf : GoodIn wsX9_rebuild wsX9_sizeOf := goodIn_ca (goodIn_r _ [15, 4, 5, 36, 37, 38, 39, 40, 41, 42, 43, 44, 45, 46, 47, 48, 49, 50, 51, 52, 53, 54, 55, 56, 57, 58, 59, 60, 61, 62, 63, 64, 65, 66, 67, 68, 69, 70] (by decide +kernel) (by decide +kernel)) (goodIn_sub (fun _ h => List.mem_cons_of_mem _ (List.mem_append_right _ h)) (by decide +kernel))
set_option maxRecDepth 20000 in
theorem gX9_rebuild_X9_sizeOf : GoodIn wsX9_rebuild (wsV RX9 121 RX9 yX9_sizeOf wsX9_sizeOf) := goodIn_app (goodIn_of _ (by decide +kernel)) ggX9_rebuild_X9_sizeOf
set_option maxRecDepth 20000 in
theorem ggX9_rebuild_X9_blames : GoodIn wsX9_rebuild wsX9_blames := goodIn_ca (goodIn_r _ [19, 20, 3, 36, 37, 38, 39, 40, 41, 42, 43, 44, 45, 46, 47, 48, 49, 50, 51, 52, 53, 54, 55, 56, 57, 58, 59, 60, 61, 62, 63, 64, 65, 66, 67, 68, 69, 70] (by decide +kernel) (by decide +kernel)) (goodIn_sub (fun _ h => List.mem_cons_of_mem _ (List.mem_append_right _ h)) (by decide +kernel))
set_option maxRecDepth 20000 in
theorem gX9_rebuild_X9_blames : GoodIn wsX9_rebuild (wsV RX9 154 RX9 yX9_blames wsX9_blames) := goodIn_app (goodIn_of _ (by decide +kernel)) ggX9_rebuild_X9_blames
set_option maxRecDepth 20000 in
theorem ggX9_rebuild_X9_no : GoodIn wsX9_rebuild wsX9_no := goodIn_r _ [24, 25, 36, 37, 38, 39, 40, 41, 42, 43, 44, 45, 46, 47, 48, 49, 50, 51, 52, 53, 54, 55, 56, 57, 58, 59, 60, 61, 62, 63, 64, 65, 66, 67, 68, 69, 70] (by decide +kernel) (by decide +kernel)
set_option maxRecDepth 20000 in
theorem gX9_rebuild_X9_no : GoodIn wsX9_rebuild (wsV RX9 108 RX9 yX9_no wsX9_no) := goodIn_app (goodIn_of _ (by decide +kernel)) ggX9_rebuild_X9_no
set_option maxRecDepth 20000 in
theorem ggX9_rebuild_X9_puts : GoodIn wsX9_rebuild wsX9_puts := goodIn_ca (goodIn_r _ [29, 1, 5, 30, 31, 32, 10, 33, 34, 2, 35, 12, 13, 14, 15, 4, 36, 37, 38, 39, 40, 41, 42, 43, 44, 45, 46, 47, 48, 49, 50, 51, 52, 53, 54, 55, 56, 57, 58, 59, 60, 61, 62, 63, 64, 65, 66, 67, 68, 69, 70] (by decide +kernel) (by decide +kernel)) (goodIn_sub (fun _ h => List.mem_cons_of_mem _ (List.mem_append_right _ h)) (by decide +kernel))
set_option maxRecDepth 20000 in
theorem gX9_rebuild_X9_puts : GoodIn wsX9_rebuild (wsV RX9 125 RX9 yX9_puts wsX9_puts) := goodIn_app (goodIn_of _ (by decide +kernel)) ggX9_rebuild_X9_puts
theorem dX9_rebuild_0 : decode cX9_rebuild 0 = .ok (.aload_n 0, 1) := by decide +kernel
theorem dX9_rebuild_1 : decode cX9_rebuild 1 = .ok (.invokevirtual 161, 3) := by decide +kernel
theorem dX9_rebuild_4 : decode cX9_rebuild 4 = .ok (.istore_n 1, 1) := by decide +kernel
theorem dX9_rebuild_5 : decode cX9_rebuild 5 = .ok (.aload_n 0, 1) := by decide +kernel
theorem dX9_rebuild_6 : decode cX9_rebuild 6 = .ok (.getfield 91, 3) := by decide +kernel
theorem dX9_rebuild_9 : decode cX9_rebuild 9 = .ok (.iconst (-1), 1) := by decide +kernel
theorem dX9_rebuild_10 : decode cX9_rebuild 10 = .ok (.if_icmp .ne 7, 3) := by decide +kernel
theorem dX9_rebuild_13 : decode cX9_rebuild 13 = .ok (.iconst 0, 1) := by decide +kernel
theorem dX9_rebuild_14 : decode cX9_rebuild 14 = .ok (.goto 14, 3) := by decide +kernel
theorem dX9_rebuild_17 : decode cX9_rebuild 17 = .ok (.bipush 10, 2) := by decide +kernel
theorem dX9_rebuild_19 : decode cX9_rebuild 19 = .ok (.aload_n 0, 1) := by decide +kernel
theorem dX9_rebuild_20 : decode cX9_rebuild 20 = .ok (.aload_n 0, 1) := by decide +kernel
theorem dX9_rebuild_21 : decode cX9_rebuild 21 = .ok (.getfield 91, 3) := by decide +kernel
theorem dX9_rebuild_24 : decode cX9_rebuild 24 = .ok (.invokevirtual 121, 3) := by decide +kernel
theorem dX9_rebuild_27 : decode cX9_rebuild 27 = .ok (.isub, 1) := by decide +kernel
theorem dX9_rebuild_28 : decode cX9_rebuild 28 = .ok (.istore_n 2, 1) := by decide +kernel
theorem dX9_rebuild_29 : decode cX9_rebuild 29 = .ok (.iload_n 1, 1) := by decide +kernel
theorem dX9_rebuild_30 : decode cX9_rebuild 30 = .ok (.iload_n 2, 1) := by decide +kernel
theorem dX9_rebuild_31 : decode cX9_rebuild 31 = .ok (.if_icmp .le 17, 3) := by decide +kernel
theorem dX9_rebuild_34 : decode cX9_rebuild 34 = .ok (.iload_n 1, 1) := by decide +kernel
theorem dX9_rebuild_35 : decode cX9_rebuild 35 = .ok (.iload_n 2, 1) := by decide +kernel
theorem dX9_rebuild_36 : decode cX9_rebuild 36 = .ok (.isub, 1) := by decide +kernel
theorem dX9_rebuild_37 : decode cX9_rebuild 37 = .ok (.bipush 10, 2) := by decide +kernel
theorem dX9_rebuild_39 : decode cX9_rebuild 39 = .ok (.iadd, 1) := by decide +kernel
theorem dX9_rebuild_40 : decode cX9_rebuild 40 = .ok (.iconst 1, 1) := by decide +kernel
theorem dX9_rebuild_41 : decode cX9_rebuild 41 = .ok (.isub, 1) := by decide +kernel
theorem dX9_rebuild_42 : decode cX9_rebuild 42 = .ok (.bipush 10, 2) := by decide +kernel
theorem dX9_rebuild_44 : decode cX9_rebuild 44 = .ok (.idiv, 1) := by decide +kernel
theorem dX9_rebuild_45 : decode cX9_rebuild 45 = .ok (.goto 4, 3) := by decide +kernel
theorem dX9_rebuild_48 : decode cX9_rebuild 48 = .ok (.iconst 0, 1) := by decide +kernel
theorem dX9_rebuild_49 : decode cX9_rebuild 49 = .ok (.istore_n 3, 1) := by decide +kernel
theorem dX9_rebuild_50 : decode cX9_rebuild 50 = .ok (.aload_n 0, 1) := by decide +kernel
theorem dX9_rebuild_51 : decode cX9_rebuild 51 = .ok (.getfield 112, 3) := by decide +kernel
theorem dX9_rebuild_54 : decode cX9_rebuild 54 = .ok (.iload_n 3, 1) := by decide +kernel
theorem dX9_rebuild_55 : decode cX9_rebuild 55 = .ok (.iadd, 1) := by decide +kernel
theorem dX9_rebuild_56 : decode cX9_rebuild 56 = .ok (.bipush 20, 2) := by decide +kernel
theorem dX9_rebuild_58 : decode cX9_rebuild 58 = .ok (.if_icmp .le 15, 3) := by decide +kernel
theorem dX9_rebuild_61 : decode cX9_rebuild 61 = .ok (.aload_n 0, 1) := by decide +kernel
theorem dX9_rebuild_62 : decode cX9_rebuild 62 = .ok (.iconst 0, 1) := by decide +kernel
theorem dX9_rebuild_63 : decode cX9_rebuild 63 = .ok (.putfield 151, 3) := by decide +kernel
theorem dX9_rebuild_66 : decode cX9_rebuild 66 = .ok (.aload_n 0, 1) := by decide +kernel
theorem dX9_rebuild_67 : decode cX9_rebuild 67 = .ok (.iconst 1, 1) := by decide +kernel
theorem dX9_rebuild_68 : decode cX9_rebuild 68 = .ok (.bipush 102, 2) := by decide +kernel
theorem dX9_rebuild_70 : decode cX9_rebuild 70 = .ok (.invokevirtual 154, 3) := by decide +kernel
theorem dX9_rebuild_73 : decode cX9_rebuild 73 = .ok (.aload_n 0, 1) := by decide +kernel
theorem dX9_rebuild_74 : decode cX9_rebuild 74 = .ok (.aload_n 0, 1) := by decide +kernel
theorem dX9_rebuild_75 : decode cX9_rebuild 75 = .ok (.getfield 112, 3) := by decide +kernel
theorem dX9_rebuild_78 : decode cX9_rebuild 78 = .ok (.iload_n 3, 1) := by decide +kernel
theorem dX9_rebuild_79 : decode cX9_rebuild 79 = .ok (.iadd, 1) := by decide +kernel
theorem dX9_rebuild_80 : decode cX9_rebuild 80 = .ok (.bipush 20, 2) := by decide +kernel
theorem dX9_rebuild_82 : decode cX9_rebuild 82 = .ok (.if_icmp .gt 7, 3) := by decide +kernel
theorem dX9_rebuild_85 : decode cX9_rebuild 85 = .ok (.iconst 1, 1) := by decide +kernel
theorem dX9_rebuild_86 : decode cX9_rebuild 86 = .ok (.goto 4, 3) := by decide +kernel
theorem dX9_rebuild_89 : decode cX9_rebuild 89 = .ok (.iconst 0, 1) := by decide +kernel
theorem dX9_rebuild_90 : decode cX9_rebuild 90 = .ok (.iconst 1, 1) := by decide +kernel
theorem dX9_rebuild_91 : decode cX9_rebuild 91 = .ok (.invokevirtual 108, 3) := by decide +kernel
theorem dX9_rebuild_94 : decode cX9_rebuild 94 = .ok (.ifCond .eq 5, 3) := by decide +kernel
theorem dX9_rebuild_97 : decode cX9_rebuild 97 = .ok (.iconst 0, 1) := by decide +kernel
theorem dX9_rebuild_98 : decode cX9_rebuild 98 = .ok (.ireturn, 1) := by decide +kernel
theorem dX9_rebuild_99 : decode cX9_rebuild 99 = .ok (.iconst 0, 1) := by decide +kernel
theorem dX9_rebuild_100 : decode cX9_rebuild 100 = .ok (.istore 4, 2) := by decide +kernel
theorem dX9_rebuild_102 : decode cX9_rebuild 102 = .ok (.iload 4, 2) := by decide +kernel
theorem dX9_rebuild_104 : decode cX9_rebuild 104 = .ok (.aload_n 0, 1) := by decide +kernel
theorem dX9_rebuild_105 : decode cX9_rebuild 105 = .ok (.getfield 118, 3) := by decide +kernel
theorem dX9_rebuild_108 : decode cX9_rebuild 108 = .ok (.if_icmp .ge 36, 3) := by decide +kernel
theorem dX9_rebuild_111 : decode cX9_rebuild 111 = .ok (.aload_n 0, 1) := by decide +kernel
theorem dX9_rebuild_112 : decode cX9_rebuild 112 = .ok (.getfield 32, 3) := by decide +kernel
theorem dX9_rebuild_115 : decode cX9_rebuild 115 = .ok (.iload 4, 2) := by decide +kernel
theorem dX9_rebuild_117 : decode cX9_rebuild 117 = .ok (.iaload, 1) := by decide +kernel
theorem dX9_rebuild_118 : decode cX9_rebuild 118 = .ok (.iconst (-1), 1) := by decide +kernel
theorem dX9_rebuild_119 : decode cX9_rebuild 119 = .ok (.if_icmp .ne 19, 3) := by decide +kernel
theorem dX9_rebuild_122 : decode cX9_rebuild 122 = .ok (.aload_n 0, 1) := by decide +kernel
theorem dX9_rebuild_123 : decode cX9_rebuild 123 = .ok (.getfield 38, 3) := by decide +kernel
theorem dX9_rebuild_126 : decode cX9_rebuild 126 = .ok (.iload 4, 2) := by decide +kernel
theorem dX9_rebuild_128 : decode cX9_rebuild 128 = .ok (.baload, 1) := by decide +kernel
theorem dX9_rebuild_129 : decode cX9_rebuild 129 = .ok (.ifCond .ne 9, 3) := by decide +kernel
theorem dX9_rebuild_132 : decode cX9_rebuild 132 = .ok (.aload_n 0, 1) := by decide +kernel
theorem dX9_rebuild_133 : decode cX9_rebuild 133 = .ok (.iload 4, 2) := by decide +kernel
theorem dX9_rebuild_135 : decode cX9_rebuild 135 = .ok (.invokevirtual 125, 3) := by decide +kernel
theorem dX9_rebuild_138 : decode cX9_rebuild 138 = .ok (.iinc 4 1, 3) := by decide +kernel
theorem dX9_rebuild_141 : decode cX9_rebuild 141 = .ok (.goto (-39), 3) := by decide +kernel
theorem dX9_rebuild_144 : decode cX9_rebuild 144 = .ok (.iload_n 1, 1) := by decide +kernel
theorem dX9_rebuild_145 : decode cX9_rebuild 145 = .ok (.ireturn, 1) := by decide +kernel
set_option maxRecDepth 20000 in
theorem ggX9_segmentOf_X9_isIn : GoodIn wsX9_segmentOf wsX9_isIn := goodIn_r _ [6] (by decide +kernel) (by decide +kernel)
set_option maxRecDepth 20000 in
theorem gX9_segmentOf_X9_isIn : GoodIn wsX9_segmentOf (va_wsS RX9 101 yX9_isIn wsX9_isIn) := goodIn_app (goodIn_of _ (by decide +kernel)) ggX9_segmentOf_X9_isIn
set_option maxRecDepth 20000 in
theorem ggX9_segmentOf_X9_no : GoodIn wsX9_segmentOf wsX9_no := goodIn_r _ [10, 11, 12, 13, 14, 15, 16, 17, 18, 19, 20, 21, 22, 23, 24, 25, 26, 27, 28, 29, 30, 31, 32, 33, 34, 35, 36, 37, 38, 39, 40, 41, 42, 43, 44, 45, 46] (by decide +kernel) (by decide +kernel)
set_option maxRecDepth 20000 in
theorem gX9_segmentOf_X9_no : GoodIn wsX9_segmentOf (wsV RX9 108 RX9 yX9_no wsX9_no) := goodIn_app (goodIn_of _ (by decide +kernel)) ggX9_segmentOf_X9_no
theorem dX9_segmentOf_0 : decode cX9_segmentOf 0 = .ok (.aload_n 0, 1) := by decide +kernel
theorem dX9_segmentOf_1 : decode cX9_segmentOf 1 = .ok (.iload_n 1, 1) := by decide +kernel
theorem dX9_segmentOf_2 : decode cX9_segmentOf 2 = .ok (.iconst 0, 1) := by decide +kernel
theorem dX9_segmentOf_3 : decode cX9_segmentOf 3 = .ok (.aload_n 0, 1) := by decide +kernel
theorem dX9_segmentOf_4 : decode cX9_segmentOf 4 = .ok (.getfield 118, 3) := by decide +kernel
theorem dX9_segmentOf_7 : decode cX9_segmentOf 7 = .ok (.iconst 1, 1) := by decide +kernel
theorem dX9_segmentOf_8 : decode cX9_segmentOf 8 = .ok (.isub, 1) := by decide +kernel
theorem dX9_segmentOf_9 : decode cX9_segmentOf 9 = .ok (.invokestatic 101, 3) := by decide +kernel
theorem dX9_segmentOf_12 : decode cX9_segmentOf 12 = .ok (.iconst 1, 1) := by decide +kernel
theorem dX9_segmentOf_13 : decode cX9_segmentOf 13 = .ok (.invokevirtual 108, 3) := by decide +kernel
theorem dX9_segmentOf_16 : decode cX9_segmentOf 16 = .ok (.ifCond .ne 26, 3) := by decide +kernel
theorem dX9_segmentOf_19 : decode cX9_segmentOf 19 = .ok (.aload_n 0, 1) := by decide +kernel
theorem dX9_segmentOf_20 : decode cX9_segmentOf 20 = .ok (.aload_n 0, 1) := by decide +kernel
theorem dX9_segmentOf_21 : decode cX9_segmentOf 21 = .ok (.getfield 32, 3) := by decide +kernel
theorem dX9_segmentOf_24 : decode cX9_segmentOf 24 = .ok (.iload_n 1, 1) := by decide +kernel
theorem dX9_segmentOf_25 : decode cX9_segmentOf 25 = .ok (.iaload, 1) := by decide +kernel
theorem dX9_segmentOf_26 : decode cX9_segmentOf 26 = .ok (.iconst (-1), 1) := by decide +kernel
theorem dX9_segmentOf_27 : decode cX9_segmentOf 27 = .ok (.if_icmp .eq 7, 3) := by decide +kernel
theorem dX9_segmentOf_30 : decode cX9_segmentOf 30 = .ok (.iconst 1, 1) := by decide +kernel
theorem dX9_segmentOf_31 : decode cX9_segmentOf 31 = .ok (.goto 4, 3) := by decide +kernel
theorem dX9_segmentOf_34 : decode cX9_segmentOf 34 = .ok (.iconst 0, 1) := by decide +kernel
theorem dX9_segmentOf_35 : decode cX9_segmentOf 35 = .ok (.iconst 2, 1) := by decide +kernel
theorem dX9_segmentOf_36 : decode cX9_segmentOf 36 = .ok (.invokevirtual 108, 3) := by decide +kernel
theorem dX9_segmentOf_39 : decode cX9_segmentOf 39 = .ok (.ifCond .eq 7, 3) := by decide +kernel
theorem dX9_segmentOf_42 : decode cX9_segmentOf 42 = .ok (.iconst 0, 1) := by decide +kernel
theorem dX9_segmentOf_43 : decode cX9_segmentOf 43 = .ok (.goto 9, 3) := by decide +kernel
theorem dX9_segmentOf_46 : decode cX9_segmentOf 46 = .ok (.aload_n 0, 1) := by decide +kernel
theorem dX9_segmentOf_47 : decode cX9_segmentOf 47 = .ok (.getfield 32, 3) := by decide +kernel
theorem dX9_segmentOf_50 : decode cX9_segmentOf 50 = .ok (.iload_n 1, 1) := by decide +kernel
theorem dX9_segmentOf_51 : decode cX9_segmentOf 51 = .ok (.iaload, 1) := by decide +kernel
theorem dX9_segmentOf_52 : decode cX9_segmentOf 52 = .ok (.ireturn, 1) := by decide +kernel
theorem dX9_isPosting_0 : decode cX9_isPosting 0 = .ok (.aload_n 0, 1) := by decide +kernel
theorem dX9_isPosting_1 : decode cX9_isPosting 1 = .ok (.getfield 23, 3) := by decide +kernel
theorem dX9_isPosting_4 : decode cX9_isPosting 4 = .ok (.iload_n 1, 1) := by decide +kernel
theorem dX9_isPosting_5 : decode cX9_isPosting 5 = .ok (.iaload, 1) := by decide +kernel
theorem dX9_isPosting_6 : decode cX9_isPosting 6 = .ok (.iload_n 2, 1) := by decide +kernel
theorem dX9_isPosting_7 : decode cX9_isPosting 7 = .ok (.if_icmp .ne 26, 3) := by decide +kernel
theorem dX9_isPosting_10 : decode cX9_isPosting 10 = .ok (.aload_n 0, 1) := by decide +kernel
theorem dX9_isPosting_11 : decode cX9_isPosting 11 = .ok (.getfield 32, 3) := by decide +kernel
theorem dX9_isPosting_14 : decode cX9_isPosting 14 = .ok (.iload_n 1, 1) := by decide +kernel
theorem dX9_isPosting_15 : decode cX9_isPosting 15 = .ok (.iaload, 1) := by decide +kernel
theorem dX9_isPosting_16 : decode cX9_isPosting 16 = .ok (.iconst (-1), 1) := by decide +kernel
theorem dX9_isPosting_17 : decode cX9_isPosting 17 = .ok (.if_icmp .eq 16, 3) := by decide +kernel
theorem dX9_isPosting_20 : decode cX9_isPosting 20 = .ok (.aload_n 0, 1) := by decide +kernel
theorem dX9_isPosting_21 : decode cX9_isPosting 21 = .ok (.getfield 38, 3) := by decide +kernel
theorem dX9_isPosting_24 : decode cX9_isPosting 24 = .ok (.iload_n 1, 1) := by decide +kernel
theorem dX9_isPosting_25 : decode cX9_isPosting 25 = .ok (.baload, 1) := by decide +kernel
theorem dX9_isPosting_26 : decode cX9_isPosting 26 = .ok (.ifCond .ne 7, 3) := by decide +kernel
theorem dX9_isPosting_29 : decode cX9_isPosting 29 = .ok (.iconst 1, 1) := by decide +kernel
theorem dX9_isPosting_30 : decode cX9_isPosting 30 = .ok (.goto 4, 3) := by decide +kernel
theorem dX9_isPosting_33 : decode cX9_isPosting 33 = .ok (.iconst 0, 1) := by decide +kernel
theorem dX9_isPosting_34 : decode cX9_isPosting 34 = .ok (.ireturn, 1) := by decide +kernel
set_option maxRecDepth 20000 in
theorem ggX9_postings_X9_isIn : GoodIn wsX9_postings wsX9_isIn := goodIn_r _ [5] (by decide +kernel) (by decide +kernel)
set_option maxRecDepth 20000 in
theorem gX9_postings_X9_isIn : GoodIn wsX9_postings (va_wsS RX9 101 yX9_isIn wsX9_isIn) := goodIn_app (goodIn_of _ (by decide +kernel)) ggX9_postings_X9_isIn
set_option maxRecDepth 20000 in
theorem ggX9_postings_X9_no : GoodIn wsX9_postings wsX9_no := goodIn_r _ [9, 10, 18, 19, 20, 21, 22, 23, 24, 25, 26, 27, 28, 29, 30, 31, 32, 33, 34, 35, 36, 37, 38, 39, 40, 41, 42, 43, 44, 45, 46, 47, 48, 49, 50, 51, 52] (by decide +kernel) (by decide +kernel)
set_option maxRecDepth 20000 in
theorem gX9_postings_X9_no : GoodIn wsX9_postings (wsV RX9 108 RX9 yX9_no wsX9_no) := goodIn_app (goodIn_of _ (by decide +kernel)) ggX9_postings_X9_no
set_option maxRecDepth 20000 in
theorem ggX9_postings_X9_isPosting : GoodIn wsX9_postings wsX9_isPosting := goodIn_ca (goodIn_r _ [14, 15, 16, 17, 18, 19, 20, 21, 22, 23, 24, 25, 26, 27, 28, 29, 30, 31, 32, 33, 34, 35, 36, 37, 38, 39, 40, 41, 42, 43, 44, 45, 46, 47, 48, 49, 50, 51, 52] (by decide +kernel) (by decide +kernel)) (goodIn_sub (fun _ h => List.mem_cons_of_mem _ (List.mem_append_right _ h)) (by decide +kernel))
set_option maxRecDepth 20000 in
theorem gX9_postings_X9_isPosting : GoodIn wsX9_postings (wsV RX9 164 RX9 yX9_isPosting wsX9_isPosting) := goodIn_app (goodIn_of _ (by decide +kernel)) ggX9_postings_X9_isPosting
theorem dX9_postings_0 : decode cX9_postings 0 = .ok (.aload_n 0, 1) := by decide +kernel
theorem dX9_postings_1 : decode cX9_postings 1 = .ok (.iload_n 1, 1) := by decide +kernel
theorem dX9_postings_2 : decode cX9_postings 2 = .ok (.iconst 0, 1) := by decide +kernel
theorem dX9_postings_3 : decode cX9_postings 3 = .ok (.bipush 30, 2) := by decide +kernel
theorem dX9_postings_5 : decode cX9_postings 5 = .ok (.invokestatic 101, 3) := by decide +kernel
theorem dX9_postings_8 : decode cX9_postings 8 = .ok (.iconst 1, 1) := by decide +kernel
theorem dX9_postings_9 : decode cX9_postings 9 = .ok (.invokevirtual 108, 3) := by decide +kernel
theorem dX9_postings_12 : decode cX9_postings 12 = .ok (.ifCond .eq 5, 3) := by decide +kernel
theorem dX9_postings_15 : decode cX9_postings 15 = .ok (.iconst 0, 1) := by decide +kernel
theorem dX9_postings_16 : decode cX9_postings 16 = .ok (.ireturn, 1) := by decide +kernel
theorem dX9_postings_17 : decode cX9_postings 17 = .ok (.iconst 0, 1) := by decide +kernel
theorem dX9_postings_18 : decode cX9_postings 18 = .ok (.istore_n 2, 1) := by decide +kernel
theorem dX9_postings_19 : decode cX9_postings 19 = .ok (.iconst 0, 1) := by decide +kernel
theorem dX9_postings_20 : decode cX9_postings 20 = .ok (.istore_n 3, 1) := by decide +kernel
theorem dX9_postings_21 : decode cX9_postings 21 = .ok (.iload_n 3, 1) := by decide +kernel
theorem dX9_postings_22 : decode cX9_postings 22 = .ok (.aload_n 0, 1) := by decide +kernel
theorem dX9_postings_23 : decode cX9_postings 23 = .ok (.getfield 118, 3) := by decide +kernel
theorem dX9_postings_26 : decode cX9_postings 26 = .ok (.if_icmp .ge 26, 3) := by decide +kernel
theorem dX9_postings_29 : decode cX9_postings 29 = .ok (.iload_n 2, 1) := by decide +kernel
theorem dX9_postings_30 : decode cX9_postings 30 = .ok (.aload_n 0, 1) := by decide +kernel
theorem dX9_postings_31 : decode cX9_postings 31 = .ok (.iload_n 3, 1) := by decide +kernel
theorem dX9_postings_32 : decode cX9_postings 32 = .ok (.iload_n 1, 1) := by decide +kernel
theorem dX9_postings_33 : decode cX9_postings 33 = .ok (.invokevirtual 164, 3) := by decide +kernel
theorem dX9_postings_36 : decode cX9_postings 36 = .ok (.ifCond .eq 7, 3) := by decide +kernel
theorem dX9_postings_39 : decode cX9_postings 39 = .ok (.iconst 1, 1) := by decide +kernel
theorem dX9_postings_40 : decode cX9_postings 40 = .ok (.goto 4, 3) := by decide +kernel
theorem dX9_postings_43 : decode cX9_postings 43 = .ok (.iconst 0, 1) := by decide +kernel
theorem dX9_postings_44 : decode cX9_postings 44 = .ok (.iadd, 1) := by decide +kernel
theorem dX9_postings_45 : decode cX9_postings 45 = .ok (.istore_n 2, 1) := by decide +kernel
theorem dX9_postings_46 : decode cX9_postings 46 = .ok (.iinc 3 1, 3) := by decide +kernel
theorem dX9_postings_49 : decode cX9_postings 49 = .ok (.goto (-28), 3) := by decide +kernel
theorem dX9_postings_52 : decode cX9_postings 52 = .ok (.iload_n 2, 1) := by decide +kernel
theorem dX9_postings_53 : decode cX9_postings 53 = .ok (.ireturn, 1) := by decide +kernel
theorem dX9_ahead_0 : decode cX9_ahead 0 = .ok (.aload_n 0, 1) := by decide +kernel
theorem dX9_ahead_1 : decode cX9_ahead 1 = .ok (.getfield 26, 3) := by decide +kernel
theorem dX9_ahead_4 : decode cX9_ahead 4 = .ok (.iload_n 1, 1) := by decide +kernel
theorem dX9_ahead_5 : decode cX9_ahead 5 = .ok (.iaload, 1) := by decide +kernel
theorem dX9_ahead_6 : decode cX9_ahead 6 = .ok (.aload_n 0, 1) := by decide +kernel
theorem dX9_ahead_7 : decode cX9_ahead 7 = .ok (.getfield 26, 3) := by decide +kernel
theorem dX9_ahead_10 : decode cX9_ahead 10 = .ok (.iload_n 2, 1) := by decide +kernel
theorem dX9_ahead_11 : decode cX9_ahead 11 = .ok (.iaload, 1) := by decide +kernel
theorem dX9_ahead_12 : decode cX9_ahead 12 = .ok (.if_icmp .eq 24, 3) := by decide +kernel
theorem dX9_ahead_15 : decode cX9_ahead 15 = .ok (.aload_n 0, 1) := by decide +kernel
theorem dX9_ahead_16 : decode cX9_ahead 16 = .ok (.getfield 26, 3) := by decide +kernel
theorem dX9_ahead_19 : decode cX9_ahead 19 = .ok (.iload_n 1, 1) := by decide +kernel
theorem dX9_ahead_20 : decode cX9_ahead 20 = .ok (.iaload, 1) := by decide +kernel
theorem dX9_ahead_21 : decode cX9_ahead 21 = .ok (.aload_n 0, 1) := by decide +kernel
theorem dX9_ahead_22 : decode cX9_ahead 22 = .ok (.getfield 26, 3) := by decide +kernel
theorem dX9_ahead_25 : decode cX9_ahead 25 = .ok (.iload_n 2, 1) := by decide +kernel
theorem dX9_ahead_26 : decode cX9_ahead 26 = .ok (.iaload, 1) := by decide +kernel
theorem dX9_ahead_27 : decode cX9_ahead 27 = .ok (.if_icmp .ge 7, 3) := by decide +kernel
theorem dX9_ahead_30 : decode cX9_ahead 30 = .ok (.iconst 1, 1) := by decide +kernel
theorem dX9_ahead_31 : decode cX9_ahead 31 = .ok (.goto 4, 3) := by decide +kernel
theorem dX9_ahead_34 : decode cX9_ahead 34 = .ok (.iconst 0, 1) := by decide +kernel
theorem dX9_ahead_35 : decode cX9_ahead 35 = .ok (.ireturn, 1) := by decide +kernel
theorem dX9_ahead_36 : decode cX9_ahead 36 = .ok (.aload_n 0, 1) := by decide +kernel
theorem dX9_ahead_37 : decode cX9_ahead 37 = .ok (.getfield 29, 3) := by decide +kernel
theorem dX9_ahead_40 : decode cX9_ahead 40 = .ok (.iload_n 1, 1) := by decide +kernel
theorem dX9_ahead_41 : decode cX9_ahead 41 = .ok (.iaload, 1) := by decide +kernel
theorem dX9_ahead_42 : decode cX9_ahead 42 = .ok (.aload_n 0, 1) := by decide +kernel
theorem dX9_ahead_43 : decode cX9_ahead 43 = .ok (.getfield 29, 3) := by decide +kernel
theorem dX9_ahead_46 : decode cX9_ahead 46 = .ok (.iload_n 2, 1) := by decide +kernel
theorem dX9_ahead_47 : decode cX9_ahead 47 = .ok (.iaload, 1) := by decide +kernel
theorem dX9_ahead_48 : decode cX9_ahead 48 = .ok (.if_icmp .eq 26, 3) := by decide +kernel
theorem dX9_ahead_51 : decode cX9_ahead 51 = .ok (.aload_n 0, 1) := by decide +kernel
theorem dX9_ahead_52 : decode cX9_ahead 52 = .ok (.getfield 29, 3) := by decide +kernel
theorem dX9_ahead_55 : decode cX9_ahead 55 = .ok (.iload_n 1, 1) := by decide +kernel
theorem dX9_ahead_56 : decode cX9_ahead 56 = .ok (.iaload, 1) := by decide +kernel
theorem dX9_ahead_57 : decode cX9_ahead 57 = .ok (.aload_n 0, 1) := by decide +kernel
theorem dX9_ahead_58 : decode cX9_ahead 58 = .ok (.getfield 29, 3) := by decide +kernel
theorem dX9_ahead_61 : decode cX9_ahead 61 = .ok (.iload_n 2, 1) := by decide +kernel
theorem dX9_ahead_62 : decode cX9_ahead 62 = .ok (.iaload, 1) := by decide +kernel
theorem dX9_ahead_63 : decode cX9_ahead 63 = .ok (.if_icmp .ge 7, 3) := by decide +kernel
theorem dX9_ahead_66 : decode cX9_ahead 66 = .ok (.iconst 1, 1) := by decide +kernel
theorem dX9_ahead_67 : decode cX9_ahead 67 = .ok (.goto 17, 3) := by decide +kernel
theorem dX9_ahead_70 : decode cX9_ahead 70 = .ok (.iconst 0, 1) := by decide +kernel
theorem dX9_ahead_71 : decode cX9_ahead 71 = .ok (.goto 13, 3) := by decide +kernel
theorem dX9_ahead_74 : decode cX9_ahead 74 = .ok (.iload_n 1, 1) := by decide +kernel
theorem dX9_ahead_75 : decode cX9_ahead 75 = .ok (.iload_n 2, 1) := by decide +kernel
theorem dX9_ahead_76 : decode cX9_ahead 76 = .ok (.if_icmp .ge 7, 3) := by decide +kernel
theorem dX9_ahead_79 : decode cX9_ahead 79 = .ok (.iconst 1, 1) := by decide +kernel
theorem dX9_ahead_80 : decode cX9_ahead 80 = .ok (.goto 4, 3) := by decide +kernel
theorem dX9_ahead_83 : decode cX9_ahead 83 = .ok (.iconst 0, 1) := by decide +kernel
theorem dX9_ahead_84 : decode cX9_ahead 84 = .ok (.ireturn, 1) := by decide +kernel
set_option maxRecDepth 20000 in
theorem ggX9_posting_X9_isIn : GoodIn wsX9_posting wsX9_isIn := goodIn_r _ [5] (by decide +kernel) (by decide +kernel)
set_option maxRecDepth 20000 in
theorem gX9_posting_X9_isIn : GoodIn wsX9_posting (va_wsS RX9 101 yX9_isIn wsX9_isIn) := goodIn_app (goodIn_of _ (by decide +kernel)) ggX9_posting_X9_isIn
set_option maxRecDepth 20000 in
theorem ggX9_posting_X9_no : GoodIn wsX9_posting wsX9_no := goodIn_r _ [9, 10, 24, 25, 26, 27, 28, 29, 30, 31, 32, 33, 34, 35, 36, 37, 38, 39, 40, 41, 42, 43, 44, 45, 46, 47, 48, 49, 50, 51, 52, 53, 54, 55, 56, 57, 58] (by decide +kernel) (by decide +kernel)
set_option maxRecDepth 20000 in
theorem gX9_posting_X9_no : GoodIn wsX9_posting (wsV RX9 108 RX9 yX9_no wsX9_no) := goodIn_app (goodIn_of _ (by decide +kernel)) ggX9_posting_X9_no
set_option maxRecDepth 20000 in
theorem ggX9_posting_X9_isPosting : GoodIn wsX9_posting wsX9_isPosting := goodIn_ca (goodIn_r _ [14, 15, 16, 17, 24, 25, 26, 27, 28, 29, 30, 31, 32, 33, 34, 35, 36, 37, 38, 39, 40, 41, 42, 43, 44, 45, 46, 47, 48, 49, 50, 51, 52, 53, 54, 55, 56, 57, 58] (by decide +kernel) (by decide +kernel)) (goodIn_sub (fun _ h => List.mem_cons_of_mem _ (List.mem_append_right _ h)) (by decide +kernel))
set_option maxRecDepth 20000 in
theorem gX9_posting_X9_isPosting : GoodIn wsX9_posting (wsV RX9 164 RX9 yX9_isPosting wsX9_isPosting) := goodIn_app (goodIn_of _ (by decide +kernel)) ggX9_posting_X9_isPosting
set_option maxRecDepth 20000 in
theorem ggX9_posting_X9_ahead : GoodIn wsX9_posting wsX9_ahead := goodIn_ca (goodIn_r _ [21, 22, 23, 24, 25, 26, 27, 28, 29, 30, 31, 32, 33, 34, 35, 36, 37, 38, 39, 40, 41, 42, 43, 44, 45, 46, 47, 48, 49, 50, 51, 52, 53, 54, 55, 56, 57, 58] (by decide +kernel) (by decide +kernel)) (goodIn_sub (fun _ h => List.mem_cons_of_mem _ (List.mem_append_right _ h)) (by decide +kernel))
set_option maxRecDepth 20000 in
theorem gX9_posting_X9_ahead : GoodIn wsX9_posting (wsV RX9 167 RX9 yX9_ahead wsX9_ahead) := goodIn_app (goodIn_of _ (by decide +kernel)) ggX9_posting_X9_ahead
theorem dX9_posting_0 : decode cX9_posting 0 = .ok (.aload_n 0, 1) := by decide +kernel
theorem dX9_posting_1 : decode cX9_posting 1 = .ok (.iload_n 1, 1) := by decide +kernel
theorem dX9_posting_2 : decode cX9_posting 2 = .ok (.iconst 0, 1) := by decide +kernel
theorem dX9_posting_3 : decode cX9_posting 3 = .ok (.bipush 30, 2) := by decide +kernel
theorem dX9_posting_5 : decode cX9_posting 5 = .ok (.invokestatic 101, 3) := by decide +kernel
theorem dX9_posting_8 : decode cX9_posting 8 = .ok (.iconst 1, 1) := by decide +kernel
theorem dX9_posting_9 : decode cX9_posting 9 = .ok (.invokevirtual 108, 3) := by decide +kernel
theorem dX9_posting_12 : decode cX9_posting 12 = .ok (.ifCond .eq 5, 3) := by decide +kernel
theorem dX9_posting_15 : decode cX9_posting 15 = .ok (.iconst 0, 1) := by decide +kernel
theorem dX9_posting_16 : decode cX9_posting 16 = .ok (.ireturn, 1) := by decide +kernel
theorem dX9_posting_17 : decode cX9_posting 17 = .ok (.iconst (-1), 1) := by decide +kernel
theorem dX9_posting_18 : decode cX9_posting 18 = .ok (.istore_n 3, 1) := by decide +kernel
theorem dX9_posting_19 : decode cX9_posting 19 = .ok (.iconst 0, 1) := by decide +kernel
theorem dX9_posting_20 : decode cX9_posting 20 = .ok (.istore 4, 2) := by decide +kernel
theorem dX9_posting_22 : decode cX9_posting 22 = .ok (.iload 4, 2) := by decide +kernel
theorem dX9_posting_24 : decode cX9_posting 24 = .ok (.aload_n 0, 1) := by decide +kernel
theorem dX9_posting_25 : decode cX9_posting 25 = .ok (.getfield 118, 3) := by decide +kernel
theorem dX9_posting_28 : decode cX9_posting 28 = .ok (.if_icmp .ge 87, 3) := by decide +kernel
theorem dX9_posting_31 : decode cX9_posting 31 = .ok (.aload_n 0, 1) := by decide +kernel
theorem dX9_posting_32 : decode cX9_posting 32 = .ok (.iload 4, 2) := by decide +kernel
theorem dX9_posting_34 : decode cX9_posting 34 = .ok (.iload_n 1, 1) := by decide +kernel
theorem dX9_posting_35 : decode cX9_posting 35 = .ok (.invokevirtual 164, 3) := by decide +kernel
theorem dX9_posting_38 : decode cX9_posting 38 = .ok (.ifCond .ne 6, 3) := by decide +kernel
theorem dX9_posting_41 : decode cX9_posting 41 = .ok (.goto 68, 3) := by decide +kernel
theorem dX9_posting_44 : decode cX9_posting 44 = .ok (.iconst 0, 1) := by decide +kernel
theorem dX9_posting_45 : decode cX9_posting 45 = .ok (.istore 5, 2) := by decide +kernel
theorem dX9_posting_47 : decode cX9_posting 47 = .ok (.iconst 0, 1) := by decide +kernel
theorem dX9_posting_48 : decode cX9_posting 48 = .ok (.istore 6, 2) := by decide +kernel
theorem dX9_posting_50 : decode cX9_posting 50 = .ok (.iload 6, 2) := by decide +kernel
theorem dX9_posting_52 : decode cX9_posting 52 = .ok (.aload_n 0, 1) := by decide +kernel
theorem dX9_posting_53 : decode cX9_posting 53 = .ok (.getfield 118, 3) := by decide +kernel
theorem dX9_posting_56 : decode cX9_posting 56 = .ok (.if_icmp .ge 40, 3) := by decide +kernel
theorem dX9_posting_59 : decode cX9_posting 59 = .ok (.iload 5, 2) := by decide +kernel
theorem dX9_posting_61 : decode cX9_posting 61 = .ok (.aload_n 0, 1) := by decide +kernel
theorem dX9_posting_62 : decode cX9_posting 62 = .ok (.iload 6, 2) := by decide +kernel
theorem dX9_posting_64 : decode cX9_posting 64 = .ok (.iload_n 1, 1) := by decide +kernel
theorem dX9_posting_65 : decode cX9_posting 65 = .ok (.invokevirtual 164, 3) := by decide +kernel
theorem dX9_posting_68 : decode cX9_posting 68 = .ok (.ifCond .eq 18, 3) := by decide +kernel
theorem dX9_posting_71 : decode cX9_posting 71 = .ok (.aload_n 0, 1) := by decide +kernel
theorem dX9_posting_72 : decode cX9_posting 72 = .ok (.iload 6, 2) := by decide +kernel
theorem dX9_posting_74 : decode cX9_posting 74 = .ok (.iload 4, 2) := by decide +kernel
theorem dX9_posting_76 : decode cX9_posting 76 = .ok (.invokevirtual 167, 3) := by decide +kernel
theorem dX9_posting_79 : decode cX9_posting 79 = .ok (.ifCond .eq 7, 3) := by decide +kernel
theorem dX9_posting_82 : decode cX9_posting 82 = .ok (.iconst 1, 1) := by decide +kernel
theorem dX9_posting_83 : decode cX9_posting 83 = .ok (.goto 4, 3) := by decide +kernel
theorem dX9_posting_86 : decode cX9_posting 86 = .ok (.iconst 0, 1) := by decide +kernel
theorem dX9_posting_87 : decode cX9_posting 87 = .ok (.iadd, 1) := by decide +kernel
theorem dX9_posting_88 : decode cX9_posting 88 = .ok (.istore 5, 2) := by decide +kernel
theorem dX9_posting_90 : decode cX9_posting 90 = .ok (.iinc 6 1, 3) := by decide +kernel
theorem dX9_posting_93 : decode cX9_posting 93 = .ok (.goto (-43), 3) := by decide +kernel
theorem dX9_posting_96 : decode cX9_posting 96 = .ok (.iload 5, 2) := by decide +kernel
theorem dX9_posting_98 : decode cX9_posting 98 = .ok (.iload_n 2, 1) := by decide +kernel
theorem dX9_posting_99 : decode cX9_posting 99 = .ok (.if_icmp .ne 8, 3) := by decide +kernel
theorem dX9_posting_102 : decode cX9_posting 102 = .ok (.iload 4, 2) := by decide +kernel
theorem dX9_posting_104 : decode cX9_posting 104 = .ok (.goto 4, 3) := by decide +kernel
theorem dX9_posting_107 : decode cX9_posting 107 = .ok (.iload_n 3, 1) := by decide +kernel
theorem dX9_posting_108 : decode cX9_posting 108 = .ok (.istore_n 3, 1) := by decide +kernel
theorem dX9_posting_109 : decode cX9_posting 109 = .ok (.iinc 4 1, 3) := by decide +kernel
theorem dX9_posting_112 : decode cX9_posting 112 = .ok (.goto (-90), 3) := by decide +kernel
theorem dX9_posting_115 : decode cX9_posting 115 = .ok (.aload_n 0, 1) := by decide +kernel
theorem dX9_posting_116 : decode cX9_posting 116 = .ok (.iload_n 3, 1) := by decide +kernel
theorem dX9_posting_117 : decode cX9_posting 117 = .ok (.iconst (-1), 1) := by decide +kernel
theorem dX9_posting_118 : decode cX9_posting 118 = .ok (.if_icmp .eq 7, 3) := by decide +kernel
theorem dX9_posting_121 : decode cX9_posting 121 = .ok (.iconst 1, 1) := by decide +kernel
theorem dX9_posting_122 : decode cX9_posting 122 = .ok (.goto 4, 3) := by decide +kernel
theorem dX9_posting_125 : decode cX9_posting 125 = .ok (.iconst 0, 1) := by decide +kernel
theorem dX9_posting_126 : decode cX9_posting 126 = .ok (.iconst 2, 1) := by decide +kernel
theorem dX9_posting_127 : decode cX9_posting 127 = .ok (.invokevirtual 108, 3) := by decide +kernel
theorem dX9_posting_130 : decode cX9_posting 130 = .ok (.ifCond .eq 7, 3) := by decide +kernel
theorem dX9_posting_133 : decode cX9_posting 133 = .ok (.iconst 0, 1) := by decide +kernel
theorem dX9_posting_134 : decode cX9_posting 134 = .ok (.goto 4, 3) := by decide +kernel
theorem dX9_posting_137 : decode cX9_posting 137 = .ok (.iload_n 3, 1) := by decide +kernel
theorem dX9_posting_138 : decode cX9_posting 138 = .ok (.ireturn, 1) := by decide +kernel
set_option maxRecDepth 20000 in
theorem ggX9_word_X9_isIn : GoodIn wsX9_word wsX9_isIn := goodIn_r _ [7] (by decide +kernel) (by decide +kernel)
set_option maxRecDepth 20000 in
theorem gX9_word_X9_isIn : GoodIn wsX9_word (va_wsS RX9 101 yX9_isIn wsX9_isIn) := goodIn_app (goodIn_of _ (by decide +kernel)) ggX9_word_X9_isIn
set_option maxRecDepth 20000 in
theorem ggX9_word_X9_no : GoodIn wsX9_word wsX9_no := goodIn_r _ [11, 12, 13, 14, 15, 16, 17, 18, 19, 20, 21, 22, 23, 24, 25, 26, 27, 28, 29, 30, 31, 32, 33, 34, 35, 36, 37, 38, 39, 40, 41, 42, 43, 44, 45, 46, 47] (by decide +kernel) (by decide +kernel)
set_option maxRecDepth 20000 in
theorem gX9_word_X9_no : GoodIn wsX9_word (wsV RX9 108 RX9 yX9_no wsX9_no) := goodIn_app (goodIn_of _ (by decide +kernel)) ggX9_word_X9_no
theorem dX9_word_0 : decode cX9_word 0 = .ok (.aload_n 0, 1) := by decide +kernel
theorem dX9_word_1 : decode cX9_word 1 = .ok (.iload_n 1, 1) := by decide +kernel
theorem dX9_word_2 : decode cX9_word 2 = .ok (.iconst 0, 1) := by decide +kernel
theorem dX9_word_3 : decode cX9_word 3 = .ok (.bipush 30, 2) := by decide +kernel
theorem dX9_word_5 : decode cX9_word 5 = .ok (.invokestatic 101, 3) := by decide +kernel
theorem dX9_word_8 : decode cX9_word 8 = .ok (.ifCond .eq 24, 3) := by decide +kernel
theorem dX9_word_11 : decode cX9_word 11 = .ok (.aload_n 0, 1) := by decide +kernel
theorem dX9_word_12 : decode cX9_word 12 = .ok (.getfield 170, 3) := by decide +kernel
theorem dX9_word_15 : decode cX9_word 15 = .ok (.ifCond .eq 13, 3) := by decide +kernel
theorem dX9_word_18 : decode cX9_word 18 = .ok (.iload_n 2, 1) := by decide +kernel
theorem dX9_word_19 : decode cX9_word 19 = .ok (.iconst 0, 1) := by decide +kernel
theorem dX9_word_20 : decode cX9_word 20 = .ok (.bipush 9, 2) := by decide +kernel
theorem dX9_word_22 : decode cX9_word 22 = .ok (.invokestatic 101, 3) := by decide +kernel
theorem dX9_word_25 : decode cX9_word 25 = .ok (.ifCond .eq 7, 3) := by decide +kernel
theorem dX9_word_28 : decode cX9_word 28 = .ok (.iconst 1, 1) := by decide +kernel
theorem dX9_word_29 : decode cX9_word 29 = .ok (.goto 4, 3) := by decide +kernel
theorem dX9_word_32 : decode cX9_word 32 = .ok (.iconst 0, 1) := by decide +kernel
theorem dX9_word_33 : decode cX9_word 33 = .ok (.iconst 1, 1) := by decide +kernel
theorem dX9_word_34 : decode cX9_word 34 = .ok (.invokevirtual 108, 3) := by decide +kernel
theorem dX9_word_37 : decode cX9_word 37 = .ok (.ifCond .ne 24, 3) := by decide +kernel
theorem dX9_word_40 : decode cX9_word 40 = .ok (.aload_n 0, 1) := by decide +kernel
theorem dX9_word_41 : decode cX9_word 41 = .ok (.aload_n 0, 1) := by decide +kernel
theorem dX9_word_42 : decode cX9_word 42 = .ok (.getfield 170, 3) := by decide +kernel
theorem dX9_word_45 : decode cX9_word 45 = .ok (.iconst 4, 1) := by decide +kernel
theorem dX9_word_46 : decode cX9_word 46 = .ok (.if_icmp .ge 7, 3) := by decide +kernel
theorem dX9_word_49 : decode cX9_word 49 = .ok (.iconst 1, 1) := by decide +kernel
theorem dX9_word_50 : decode cX9_word 50 = .ok (.goto 4, 3) := by decide +kernel
theorem dX9_word_53 : decode cX9_word 53 = .ok (.iconst 0, 1) := by decide +kernel
theorem dX9_word_54 : decode cX9_word 54 = .ok (.iconst 2, 1) := by decide +kernel
theorem dX9_word_55 : decode cX9_word 55 = .ok (.invokevirtual 108, 3) := by decide +kernel
theorem dX9_word_58 : decode cX9_word 58 = .ok (.ifCond .eq 5, 3) := by decide +kernel
theorem dX9_word_61 : decode cX9_word 61 = .ok (.iconst 0, 1) := by decide +kernel
theorem dX9_word_62 : decode cX9_word 62 = .ok (.ireturn, 1) := by decide +kernel
theorem dX9_word_63 : decode cX9_word 63 = .ok (.aload_n 0, 1) := by decide +kernel
theorem dX9_word_64 : decode cX9_word 64 = .ok (.getfield 65, 3) := by decide +kernel
theorem dX9_word_67 : decode cX9_word 67 = .ok (.aload_n 0, 1) := by decide +kernel
theorem dX9_word_68 : decode cX9_word 68 = .ok (.getfield 170, 3) := by decide +kernel
theorem dX9_word_71 : decode cX9_word 71 = .ok (.iload_n 1, 1) := by decide +kernel
theorem dX9_word_72 : decode cX9_word 72 = .ok (.iastore, 1) := by decide +kernel
theorem dX9_word_73 : decode cX9_word 73 = .ok (.aload_n 0, 1) := by decide +kernel
theorem dX9_word_74 : decode cX9_word 74 = .ok (.getfield 68, 3) := by decide +kernel
theorem dX9_word_77 : decode cX9_word 77 = .ok (.aload_n 0, 1) := by decide +kernel
theorem dX9_word_78 : decode cX9_word 78 = .ok (.getfield 170, 3) := by decide +kernel
theorem dX9_word_81 : decode cX9_word 81 = .ok (.iload_n 2, 1) := by decide +kernel
theorem dX9_word_82 : decode cX9_word 82 = .ok (.iastore, 1) := by decide +kernel
theorem dX9_word_83 : decode cX9_word 83 = .ok (.aload_n 0, 1) := by decide +kernel
theorem dX9_word_84 : decode cX9_word 84 = .ok (.dup, 1) := by decide +kernel
theorem dX9_word_85 : decode cX9_word 85 = .ok (.getfield 170, 3) := by decide +kernel
theorem dX9_word_88 : decode cX9_word 88 = .ok (.iconst 1, 1) := by decide +kernel
theorem dX9_word_89 : decode cX9_word 89 = .ok (.iadd, 1) := by decide +kernel
theorem dX9_word_90 : decode cX9_word 90 = .ok (.putfield 170, 3) := by decide +kernel
theorem dX9_word_93 : decode cX9_word 93 = .ok (.aload_n 0, 1) := by decide +kernel
theorem dX9_word_94 : decode cX9_word 94 = .ok (.getfield 170, 3) := by decide +kernel
theorem dX9_word_97 : decode cX9_word 97 = .ok (.ireturn, 1) := by decide +kernel
theorem dX9_wipe_0 : decode cX9_wipe 0 = .ok (.aload_n 0, 1) := by decide +kernel
theorem dX9_wipe_1 : decode cX9_wipe 1 = .ok (.getfield 170, 3) := by decide +kernel
theorem dX9_wipe_4 : decode cX9_wipe 4 = .ok (.istore_n 1, 1) := by decide +kernel
theorem dX9_wipe_5 : decode cX9_wipe 5 = .ok (.aload_n 0, 1) := by decide +kernel
theorem dX9_wipe_6 : decode cX9_wipe 6 = .ok (.iconst 0, 1) := by decide +kernel
theorem dX9_wipe_7 : decode cX9_wipe 7 = .ok (.putfield 170, 3) := by decide +kernel
theorem dX9_wipe_10 : decode cX9_wipe 10 = .ok (.iload_n 1, 1) := by decide +kernel
theorem dX9_wipe_11 : decode cX9_wipe 11 = .ok (.ireturn, 1) := by decide +kernel
theorem dX9_asksTyped_0 : decode cX9_asksTyped 0 = .ok (.aload_n 0, 1) := by decide +kernel
theorem dX9_asksTyped_1 : decode cX9_asksTyped 1 = .ok (.aload_n 0, 1) := by decide +kernel
theorem dX9_asksTyped_2 : decode cX9_asksTyped 2 = .ok (.getfield 170, 3) := by decide +kernel
theorem dX9_asksTyped_5 : decode cX9_asksTyped 5 = .ok (.putfield 173, 3) := by decide +kernel
theorem dX9_asksTyped_8 : decode cX9_asksTyped 8 = .ok (.iconst 0, 1) := by decide +kernel
theorem dX9_asksTyped_9 : decode cX9_asksTyped 9 = .ok (.istore_n 1, 1) := by decide +kernel
theorem dX9_asksTyped_10 : decode cX9_asksTyped 10 = .ok (.iload_n 1, 1) := by decide +kernel
theorem dX9_asksTyped_11 : decode cX9_asksTyped 11 = .ok (.aload_n 0, 1) := by decide +kernel
theorem dX9_asksTyped_12 : decode cX9_asksTyped 12 = .ok (.getfield 170, 3) := by decide +kernel
theorem dX9_asksTyped_15 : decode cX9_asksTyped 15 = .ok (.if_icmp .ge 33, 3) := by decide +kernel
theorem dX9_asksTyped_18 : decode cX9_asksTyped 18 = .ok (.aload_n 0, 1) := by decide +kernel
theorem dX9_asksTyped_19 : decode cX9_asksTyped 19 = .ok (.getfield 71, 3) := by decide +kernel
theorem dX9_asksTyped_22 : decode cX9_asksTyped 22 = .ok (.iload_n 1, 1) := by decide +kernel
theorem dX9_asksTyped_23 : decode cX9_asksTyped 23 = .ok (.aload_n 0, 1) := by decide +kernel
theorem dX9_asksTyped_24 : decode cX9_asksTyped 24 = .ok (.getfield 65, 3) := by decide +kernel
theorem dX9_asksTyped_27 : decode cX9_asksTyped 27 = .ok (.iload_n 1, 1) := by decide +kernel
theorem dX9_asksTyped_28 : decode cX9_asksTyped 28 = .ok (.iaload, 1) := by decide +kernel
theorem dX9_asksTyped_29 : decode cX9_asksTyped 29 = .ok (.iastore, 1) := by decide +kernel
theorem dX9_asksTyped_30 : decode cX9_asksTyped 30 = .ok (.aload_n 0, 1) := by decide +kernel
theorem dX9_asksTyped_31 : decode cX9_asksTyped 31 = .ok (.getfield 74, 3) := by decide +kernel
theorem dX9_asksTyped_34 : decode cX9_asksTyped 34 = .ok (.iload_n 1, 1) := by decide +kernel
theorem dX9_asksTyped_35 : decode cX9_asksTyped 35 = .ok (.aload_n 0, 1) := by decide +kernel
theorem dX9_asksTyped_36 : decode cX9_asksTyped 36 = .ok (.getfield 68, 3) := by decide +kernel
theorem dX9_asksTyped_39 : decode cX9_asksTyped 39 = .ok (.iload_n 1, 1) := by decide +kernel
theorem dX9_asksTyped_40 : decode cX9_asksTyped 40 = .ok (.iaload, 1) := by decide +kernel
theorem dX9_asksTyped_41 : decode cX9_asksTyped 41 = .ok (.iastore, 1) := by decide +kernel
theorem dX9_asksTyped_42 : decode cX9_asksTyped 42 = .ok (.iinc 1 1, 3) := by decide +kernel
theorem dX9_asksTyped_45 : decode cX9_asksTyped 45 = .ok (.goto (-35), 3) := by decide +kernel
theorem dX9_asksTyped_48 : decode cX9_asksTyped 48 = .ok (.return_, 1) := by decide +kernel
theorem dX9_asksKept_0 : decode cX9_asksKept 0 = .ok (.aload_n 0, 1) := by decide +kernel
theorem dX9_asksKept_1 : decode cX9_asksKept 1 = .ok (.aload_n 0, 1) := by decide +kernel
theorem dX9_asksKept_2 : decode cX9_asksKept 2 = .ok (.getfield 56, 3) := by decide +kernel
theorem dX9_asksKept_5 : decode cX9_asksKept 5 = .ok (.iload_n 1, 1) := by decide +kernel
theorem dX9_asksKept_6 : decode cX9_asksKept 6 = .ok (.iaload, 1) := by decide +kernel
theorem dX9_asksKept_7 : decode cX9_asksKept 7 = .ok (.putfield 173, 3) := by decide +kernel
theorem dX9_asksKept_10 : decode cX9_asksKept 10 = .ok (.iconst 0, 1) := by decide +kernel
theorem dX9_asksKept_11 : decode cX9_asksKept 11 = .ok (.istore_n 2, 1) := by decide +kernel
theorem dX9_asksKept_12 : decode cX9_asksKept 12 = .ok (.iload_n 2, 1) := by decide +kernel
theorem dX9_asksKept_13 : decode cX9_asksKept 13 = .ok (.aload_n 0, 1) := by decide +kernel
theorem dX9_asksKept_14 : decode cX9_asksKept 14 = .ok (.getfield 173, 3) := by decide +kernel
theorem dX9_asksKept_17 : decode cX9_asksKept 17 = .ok (.if_icmp .ge 41, 3) := by decide +kernel
theorem dX9_asksKept_20 : decode cX9_asksKept 20 = .ok (.aload_n 0, 1) := by decide +kernel
theorem dX9_asksKept_21 : decode cX9_asksKept 21 = .ok (.getfield 71, 3) := by decide +kernel
theorem dX9_asksKept_24 : decode cX9_asksKept 24 = .ok (.iload_n 2, 1) := by decide +kernel
theorem dX9_asksKept_25 : decode cX9_asksKept 25 = .ok (.aload_n 0, 1) := by decide +kernel
theorem dX9_asksKept_26 : decode cX9_asksKept 26 = .ok (.getfield 59, 3) := by decide +kernel
theorem dX9_asksKept_29 : decode cX9_asksKept 29 = .ok (.iconst 4, 1) := by decide +kernel
theorem dX9_asksKept_30 : decode cX9_asksKept 30 = .ok (.iload_n 1, 1) := by decide +kernel
theorem dX9_asksKept_31 : decode cX9_asksKept 31 = .ok (.imul, 1) := by decide +kernel
theorem dX9_asksKept_32 : decode cX9_asksKept 32 = .ok (.iload_n 2, 1) := by decide +kernel
theorem dX9_asksKept_33 : decode cX9_asksKept 33 = .ok (.iadd, 1) := by decide +kernel
theorem dX9_asksKept_34 : decode cX9_asksKept 34 = .ok (.iaload, 1) := by decide +kernel
theorem dX9_asksKept_35 : decode cX9_asksKept 35 = .ok (.iastore, 1) := by decide +kernel
theorem dX9_asksKept_36 : decode cX9_asksKept 36 = .ok (.aload_n 0, 1) := by decide +kernel
theorem dX9_asksKept_37 : decode cX9_asksKept 37 = .ok (.getfield 74, 3) := by decide +kernel
theorem dX9_asksKept_40 : decode cX9_asksKept 40 = .ok (.iload_n 2, 1) := by decide +kernel
theorem dX9_asksKept_41 : decode cX9_asksKept 41 = .ok (.aload_n 0, 1) := by decide +kernel
theorem dX9_asksKept_42 : decode cX9_asksKept 42 = .ok (.getfield 62, 3) := by decide +kernel
theorem dX9_asksKept_45 : decode cX9_asksKept 45 = .ok (.iconst 4, 1) := by decide +kernel
theorem dX9_asksKept_46 : decode cX9_asksKept 46 = .ok (.iload_n 1, 1) := by decide +kernel
theorem dX9_asksKept_47 : decode cX9_asksKept 47 = .ok (.imul, 1) := by decide +kernel
theorem dX9_asksKept_48 : decode cX9_asksKept 48 = .ok (.iload_n 2, 1) := by decide +kernel
theorem dX9_asksKept_49 : decode cX9_asksKept 49 = .ok (.iadd, 1) := by decide +kernel
theorem dX9_asksKept_50 : decode cX9_asksKept 50 = .ok (.iaload, 1) := by decide +kernel
theorem dX9_asksKept_51 : decode cX9_asksKept 51 = .ok (.iastore, 1) := by decide +kernel
theorem dX9_asksKept_52 : decode cX9_asksKept 52 = .ok (.iinc 2 1, 3) := by decide +kernel
theorem dX9_asksKept_55 : decode cX9_asksKept 55 = .ok (.goto (-43), 3) := by decide +kernel
theorem dX9_asksKept_58 : decode cX9_asksKept 58 = .ok (.return_, 1) := by decide +kernel
set_option maxRecDepth 20000 in
theorem ggX9_hitsOn_X9_postingsAt : GoodIn wsX9_hitsOn wsX9_postingsAt := goodIn_ca (goodIn_r _ [10, 11, 12, 13, 14, 15, 16, 9, 17, 18, 19, 20, 21, 22, 23, 24, 25, 26, 27, 28, 29, 30, 31, 32, 33, 34, 35, 36, 37, 38, 39, 40, 41, 42, 43, 44, 45, 46, 47, 48, 49, 50, 51, 52, 53, 54, 55] (by decide +kernel) (by decide +kernel)) (goodIn_sub (fun _ h => List.mem_cons_of_mem _ (List.mem_append_right _ h)) (by decide +kernel))
set_option maxRecDepth 20000 in
theorem gX9_hitsOn_X9_postingsAt : GoodIn wsX9_hitsOn (wsV RX9 176 RX9 yX9_postingsAt wsX9_postingsAt) := goodIn_app (goodIn_of _ (by decide +kernel)) ggX9_hitsOn_X9_postingsAt
theorem dX9_hitsOn_0 : decode cX9_hitsOn 0 = .ok (.iconst 0, 1) := by decide +kernel
theorem dX9_hitsOn_1 : decode cX9_hitsOn 1 = .ok (.istore_n 2, 1) := by decide +kernel
theorem dX9_hitsOn_2 : decode cX9_hitsOn 2 = .ok (.iload_n 2, 1) := by decide +kernel
theorem dX9_hitsOn_3 : decode cX9_hitsOn 3 = .ok (.aload_n 0, 1) := by decide +kernel
theorem dX9_hitsOn_4 : decode cX9_hitsOn 4 = .ok (.getfield 173, 3) := by decide +kernel
theorem dX9_hitsOn_7 : decode cX9_hitsOn 7 = .ok (.if_icmp .ge 127, 3) := by decide +kernel
theorem dX9_hitsOn_10 : decode cX9_hitsOn 10 = .ok (.iconst 0, 1) := by decide +kernel
theorem dX9_hitsOn_11 : decode cX9_hitsOn 11 = .ok (.istore_n 3, 1) := by decide +kernel
theorem dX9_hitsOn_12 : decode cX9_hitsOn 12 = .ok (.iload_n 3, 1) := by decide +kernel
theorem dX9_hitsOn_13 : decode cX9_hitsOn 13 = .ok (.bipush 40, 2) := by decide +kernel
theorem dX9_hitsOn_15 : decode cX9_hitsOn 15 = .ok (.if_icmp .gt 87, 3) := by decide +kernel
theorem dX9_hitsOn_18 : decode cX9_hitsOn 18 = .ok (.iload_n 2, 1) := by decide +kernel
theorem dX9_hitsOn_19 : decode cX9_hitsOn 19 = .ok (.ifCond .ne 7, 3) := by decide +kernel
theorem dX9_hitsOn_22 : decode cX9_hitsOn 22 = .ok (.iconst 1, 1) := by decide +kernel
theorem dX9_hitsOn_23 : decode cX9_hitsOn 23 = .ok (.goto 4, 3) := by decide +kernel
theorem dX9_hitsOn_26 : decode cX9_hitsOn 26 = .ok (.iconst 0, 1) := by decide +kernel
theorem dX9_hitsOn_27 : decode cX9_hitsOn 27 = .ok (.istore 4, 2) := by decide +kernel
theorem dX9_hitsOn_29 : decode cX9_hitsOn 29 = .ok (.iconst 1, 1) := by decide +kernel
theorem dX9_hitsOn_30 : decode cX9_hitsOn 30 = .ok (.istore 5, 2) := by decide +kernel
theorem dX9_hitsOn_32 : decode cX9_hitsOn 32 = .ok (.iload_n 2, 1) := by decide +kernel
theorem dX9_hitsOn_33 : decode cX9_hitsOn 33 = .ok (.ifCond .le 42, 3) := by decide +kernel
theorem dX9_hitsOn_36 : decode cX9_hitsOn 36 = .ok (.iload 5, 2) := by decide +kernel
theorem dX9_hitsOn_38 : decode cX9_hitsOn 38 = .ok (.aload_n 0, 1) := by decide +kernel
theorem dX9_hitsOn_39 : decode cX9_hitsOn 39 = .ok (.getfield 74, 3) := by decide +kernel
theorem dX9_hitsOn_42 : decode cX9_hitsOn 42 = .ok (.iload_n 2, 1) := by decide +kernel
theorem dX9_hitsOn_43 : decode cX9_hitsOn 43 = .ok (.iaload, 1) := by decide +kernel
theorem dX9_hitsOn_44 : decode cX9_hitsOn 44 = .ok (.iconst 1, 1) := by decide +kernel
theorem dX9_hitsOn_45 : decode cX9_hitsOn 45 = .ok (.iadd, 1) := by decide +kernel
theorem dX9_hitsOn_46 : decode cX9_hitsOn 46 = .ok (.if_icmp .gt 29, 3) := by decide +kernel
theorem dX9_hitsOn_49 : decode cX9_hitsOn 49 = .ok (.iload 5, 2) := by decide +kernel
theorem dX9_hitsOn_51 : decode cX9_hitsOn 51 = .ok (.iload_n 3, 1) := by decide +kernel
theorem dX9_hitsOn_52 : decode cX9_hitsOn 52 = .ok (.if_icmp .gt 23, 3) := by decide +kernel
theorem dX9_hitsOn_55 : decode cX9_hitsOn 55 = .ok (.iload 4, 2) := by decide +kernel
theorem dX9_hitsOn_57 : decode cX9_hitsOn 57 = .ok (.aload_n 0, 1) := by decide +kernel
theorem dX9_hitsOn_58 : decode cX9_hitsOn 58 = .ok (.getfield 81, 3) := by decide +kernel
theorem dX9_hitsOn_61 : decode cX9_hitsOn 61 = .ok (.iload_n 3, 1) := by decide +kernel
theorem dX9_hitsOn_62 : decode cX9_hitsOn 62 = .ok (.iload 5, 2) := by decide +kernel
theorem dX9_hitsOn_64 : decode cX9_hitsOn 64 = .ok (.isub, 1) := by decide +kernel
theorem dX9_hitsOn_65 : decode cX9_hitsOn 65 = .ok (.iaload, 1) := by decide +kernel
theorem dX9_hitsOn_66 : decode cX9_hitsOn 66 = .ok (.iadd, 1) := by decide +kernel
theorem dX9_hitsOn_67 : decode cX9_hitsOn 67 = .ok (.istore 4, 2) := by decide +kernel
theorem dX9_hitsOn_69 : decode cX9_hitsOn 69 = .ok (.iinc 5 1, 3) := by decide +kernel
theorem dX9_hitsOn_72 : decode cX9_hitsOn 72 = .ok (.goto (-40), 3) := by decide +kernel
theorem dX9_hitsOn_75 : decode cX9_hitsOn 75 = .ok (.aload_n 0, 1) := by decide +kernel
theorem dX9_hitsOn_76 : decode cX9_hitsOn 76 = .ok (.getfield 84, 3) := by decide +kernel
theorem dX9_hitsOn_79 : decode cX9_hitsOn 79 = .ok (.iload_n 3, 1) := by decide +kernel
theorem dX9_hitsOn_80 : decode cX9_hitsOn 80 = .ok (.iload 4, 2) := by decide +kernel
theorem dX9_hitsOn_82 : decode cX9_hitsOn 82 = .ok (.aload_n 0, 1) := by decide +kernel
theorem dX9_hitsOn_83 : decode cX9_hitsOn 83 = .ok (.aload_n 0, 1) := by decide +kernel
theorem dX9_hitsOn_84 : decode cX9_hitsOn 84 = .ok (.getfield 71, 3) := by decide +kernel
theorem dX9_hitsOn_87 : decode cX9_hitsOn 87 = .ok (.iload_n 2, 1) := by decide +kernel
theorem dX9_hitsOn_88 : decode cX9_hitsOn 88 = .ok (.iaload, 1) := by decide +kernel
theorem dX9_hitsOn_89 : decode cX9_hitsOn 89 = .ok (.iload_n 1, 1) := by decide +kernel
theorem dX9_hitsOn_90 : decode cX9_hitsOn 90 = .ok (.iload_n 3, 1) := by decide +kernel
theorem dX9_hitsOn_91 : decode cX9_hitsOn 91 = .ok (.invokevirtual 176, 3) := by decide +kernel
theorem dX9_hitsOn_94 : decode cX9_hitsOn 94 = .ok (.imul, 1) := by decide +kernel
theorem dX9_hitsOn_95 : decode cX9_hitsOn 95 = .ok (.iastore, 1) := by decide +kernel
theorem dX9_hitsOn_96 : decode cX9_hitsOn 96 = .ok (.iinc 3 1, 3) := by decide +kernel
theorem dX9_hitsOn_99 : decode cX9_hitsOn 99 = .ok (.goto (-87), 3) := by decide +kernel
theorem dX9_hitsOn_102 : decode cX9_hitsOn 102 = .ok (.iconst 0, 1) := by decide +kernel
theorem dX9_hitsOn_103 : decode cX9_hitsOn 103 = .ok (.istore_n 3, 1) := by decide +kernel
theorem dX9_hitsOn_104 : decode cX9_hitsOn 104 = .ok (.iload_n 3, 1) := by decide +kernel
theorem dX9_hitsOn_105 : decode cX9_hitsOn 105 = .ok (.bipush 40, 2) := by decide +kernel
theorem dX9_hitsOn_107 : decode cX9_hitsOn 107 = .ok (.if_icmp .gt 21, 3) := by decide +kernel
theorem dX9_hitsOn_110 : decode cX9_hitsOn 110 = .ok (.aload_n 0, 1) := by decide +kernel
theorem dX9_hitsOn_111 : decode cX9_hitsOn 111 = .ok (.getfield 81, 3) := by decide +kernel
theorem dX9_hitsOn_114 : decode cX9_hitsOn 114 = .ok (.iload_n 3, 1) := by decide +kernel
theorem dX9_hitsOn_115 : decode cX9_hitsOn 115 = .ok (.aload_n 0, 1) := by decide +kernel
theorem dX9_hitsOn_116 : decode cX9_hitsOn 116 = .ok (.getfield 84, 3) := by decide +kernel
theorem dX9_hitsOn_119 : decode cX9_hitsOn 119 = .ok (.iload_n 3, 1) := by decide +kernel
theorem dX9_hitsOn_120 : decode cX9_hitsOn 120 = .ok (.iaload, 1) := by decide +kernel
theorem dX9_hitsOn_121 : decode cX9_hitsOn 121 = .ok (.iastore, 1) := by decide +kernel
theorem dX9_hitsOn_122 : decode cX9_hitsOn 122 = .ok (.iinc 3 1, 3) := by decide +kernel
theorem dX9_hitsOn_125 : decode cX9_hitsOn 125 = .ok (.goto (-21), 3) := by decide +kernel
theorem dX9_hitsOn_128 : decode cX9_hitsOn 128 = .ok (.iinc 2 1, 3) := by decide +kernel
theorem dX9_hitsOn_131 : decode cX9_hitsOn 131 = .ok (.goto (-129), 3) := by decide +kernel
theorem dX9_hitsOn_134 : decode cX9_hitsOn 134 = .ok (.iconst 0, 1) := by decide +kernel
theorem dX9_hitsOn_135 : decode cX9_hitsOn 135 = .ok (.istore_n 2, 1) := by decide +kernel
theorem dX9_hitsOn_136 : decode cX9_hitsOn 136 = .ok (.iconst 0, 1) := by decide +kernel
theorem dX9_hitsOn_137 : decode cX9_hitsOn 137 = .ok (.istore_n 3, 1) := by decide +kernel
theorem dX9_hitsOn_138 : decode cX9_hitsOn 138 = .ok (.iload_n 3, 1) := by decide +kernel
theorem dX9_hitsOn_139 : decode cX9_hitsOn 139 = .ok (.bipush 40, 2) := by decide +kernel
theorem dX9_hitsOn_141 : decode cX9_hitsOn 141 = .ok (.if_icmp .gt 18, 3) := by decide +kernel
theorem dX9_hitsOn_144 : decode cX9_hitsOn 144 = .ok (.iload_n 2, 1) := by decide +kernel
theorem dX9_hitsOn_145 : decode cX9_hitsOn 145 = .ok (.aload_n 0, 1) := by decide +kernel
theorem dX9_hitsOn_146 : decode cX9_hitsOn 146 = .ok (.getfield 81, 3) := by decide +kernel
theorem dX9_hitsOn_149 : decode cX9_hitsOn 149 = .ok (.iload_n 3, 1) := by decide +kernel
theorem dX9_hitsOn_150 : decode cX9_hitsOn 150 = .ok (.iaload, 1) := by decide +kernel
theorem dX9_hitsOn_151 : decode cX9_hitsOn 151 = .ok (.iadd, 1) := by decide +kernel
theorem dX9_hitsOn_152 : decode cX9_hitsOn 152 = .ok (.istore_n 2, 1) := by decide +kernel
theorem dX9_hitsOn_153 : decode cX9_hitsOn 153 = .ok (.iinc 3 1, 3) := by decide +kernel
theorem dX9_hitsOn_156 : decode cX9_hitsOn 156 = .ok (.goto (-18), 3) := by decide +kernel
theorem dX9_hitsOn_159 : decode cX9_hitsOn 159 = .ok (.iload_n 2, 1) := by decide +kernel
theorem dX9_hitsOn_160 : decode cX9_hitsOn 160 = .ok (.ireturn, 1) := by decide +kernel
set_option maxRecDepth 20000 in
theorem ggX9_postingsAt_X9_isPosting : GoodIn wsX9_postingsAt wsX9_isPosting := goodIn_ca (goodIn_r _ [8, 9, 10, 11, 12, 13, 14, 15, 16, 17, 18, 19, 20, 21, 22, 23, 24, 25, 26, 27, 28, 29, 30, 31, 32, 33, 34, 35, 36, 37, 38, 39, 40, 41, 42, 43, 44, 45, 46] (by decide +kernel) (by decide +kernel)) (goodIn_sub (fun _ h => List.mem_cons_of_mem _ (List.mem_append_right _ h)) (by decide +kernel))
set_option maxRecDepth 20000 in
theorem gX9_postingsAt_X9_isPosting : GoodIn wsX9_postingsAt (wsV RX9 164 RX9 yX9_isPosting wsX9_isPosting) := goodIn_app (goodIn_of _ (by decide +kernel)) ggX9_postingsAt_X9_isPosting
theorem dX9_postingsAt_0 : decode cX9_postingsAt 0 = .ok (.iconst 0, 1) := by decide +kernel
theorem dX9_postingsAt_1 : decode cX9_postingsAt 1 = .ok (.istore 4, 2) := by decide +kernel
theorem dX9_postingsAt_3 : decode cX9_postingsAt 3 = .ok (.iconst 0, 1) := by decide +kernel
theorem dX9_postingsAt_4 : decode cX9_postingsAt 4 = .ok (.istore 5, 2) := by decide +kernel
theorem dX9_postingsAt_6 : decode cX9_postingsAt 6 = .ok (.iload 5, 2) := by decide +kernel
theorem dX9_postingsAt_8 : decode cX9_postingsAt 8 = .ok (.aload_n 0, 1) := by decide +kernel
theorem dX9_postingsAt_9 : decode cX9_postingsAt 9 = .ok (.getfield 118, 3) := by decide +kernel
theorem dX9_postingsAt_12 : decode cX9_postingsAt 12 = .ok (.if_icmp .ge 51, 3) := by decide +kernel
theorem dX9_postingsAt_15 : decode cX9_postingsAt 15 = .ok (.iload 4, 2) := by decide +kernel
theorem dX9_postingsAt_17 : decode cX9_postingsAt 17 = .ok (.aload_n 0, 1) := by decide +kernel
theorem dX9_postingsAt_18 : decode cX9_postingsAt 18 = .ok (.iload 5, 2) := by decide +kernel
theorem dX9_postingsAt_20 : decode cX9_postingsAt 20 = .ok (.iload_n 1, 1) := by decide +kernel
theorem dX9_postingsAt_21 : decode cX9_postingsAt 21 = .ok (.invokevirtual 164, 3) := by decide +kernel
theorem dX9_postingsAt_24 : decode cX9_postingsAt 24 = .ok (.ifCond .eq 29, 3) := by decide +kernel
theorem dX9_postingsAt_27 : decode cX9_postingsAt 27 = .ok (.aload_n 0, 1) := by decide +kernel
theorem dX9_postingsAt_28 : decode cX9_postingsAt 28 = .ok (.getfield 26, 3) := by decide +kernel
theorem dX9_postingsAt_31 : decode cX9_postingsAt 31 = .ok (.iload 5, 2) := by decide +kernel
theorem dX9_postingsAt_33 : decode cX9_postingsAt 33 = .ok (.iaload, 1) := by decide +kernel
theorem dX9_postingsAt_34 : decode cX9_postingsAt 34 = .ok (.iload_n 2, 1) := by decide +kernel
theorem dX9_postingsAt_35 : decode cX9_postingsAt 35 = .ok (.if_icmp .ne 18, 3) := by decide +kernel
theorem dX9_postingsAt_38 : decode cX9_postingsAt 38 = .ok (.aload_n 0, 1) := by decide +kernel
theorem dX9_postingsAt_39 : decode cX9_postingsAt 39 = .ok (.getfield 29, 3) := by decide +kernel
theorem dX9_postingsAt_42 : decode cX9_postingsAt 42 = .ok (.iload 5, 2) := by decide +kernel
theorem dX9_postingsAt_44 : decode cX9_postingsAt 44 = .ok (.iaload, 1) := by decide +kernel
theorem dX9_postingsAt_45 : decode cX9_postingsAt 45 = .ok (.iload_n 3, 1) := by decide +kernel
theorem dX9_postingsAt_46 : decode cX9_postingsAt 46 = .ok (.if_icmp .ne 7, 3) := by decide +kernel
theorem dX9_postingsAt_49 : decode cX9_postingsAt 49 = .ok (.iconst 1, 1) := by decide +kernel
theorem dX9_postingsAt_50 : decode cX9_postingsAt 50 = .ok (.goto 4, 3) := by decide +kernel
theorem dX9_postingsAt_53 : decode cX9_postingsAt 53 = .ok (.iconst 0, 1) := by decide +kernel
theorem dX9_postingsAt_54 : decode cX9_postingsAt 54 = .ok (.iadd, 1) := by decide +kernel
theorem dX9_postingsAt_55 : decode cX9_postingsAt 55 = .ok (.istore 4, 2) := by decide +kernel
theorem dX9_postingsAt_57 : decode cX9_postingsAt 57 = .ok (.iinc 5 1, 3) := by decide +kernel
theorem dX9_postingsAt_60 : decode cX9_postingsAt 60 = .ok (.goto (-54), 3) := by decide +kernel
theorem dX9_postingsAt_63 : decode cX9_postingsAt 63 = .ok (.iload 4, 2) := by decide +kernel
theorem dX9_postingsAt_65 : decode cX9_postingsAt 65 = .ok (.ireturn, 1) := by decide +kernel
set_option maxRecDepth 20000 in
theorem ggX9_weightOf_X9_isPosting : GoodIn wsX9_weightOf wsX9_isPosting := goodIn_ca (goodIn_r _ [8, 9, 10, 11, 12, 13, 14, 15, 16, 17, 18, 19, 20, 21, 22, 23, 24, 25, 26, 27, 28, 29, 30, 31, 32, 33, 34, 35, 36, 37, 38, 39, 40, 41, 42, 43, 44, 45, 46] (by decide +kernel) (by decide +kernel)) (goodIn_sub (fun _ h => List.mem_cons_of_mem _ (List.mem_append_right _ h)) (by decide +kernel))
set_option maxRecDepth 20000 in
theorem gX9_weightOf_X9_isPosting : GoodIn wsX9_weightOf (wsV RX9 164 RX9 yX9_isPosting wsX9_isPosting) := goodIn_app (goodIn_of _ (by decide +kernel)) ggX9_weightOf_X9_isPosting
theorem dX9_weightOf_0 : decode cX9_weightOf 0 = .ok (.iconst 0, 1) := by decide +kernel
theorem dX9_weightOf_1 : decode cX9_weightOf 1 = .ok (.istore_n 2, 1) := by decide +kernel
theorem dX9_weightOf_2 : decode cX9_weightOf 2 = .ok (.iconst 0, 1) := by decide +kernel
theorem dX9_weightOf_3 : decode cX9_weightOf 3 = .ok (.istore_n 3, 1) := by decide +kernel
theorem dX9_weightOf_4 : decode cX9_weightOf 4 = .ok (.iload_n 3, 1) := by decide +kernel
theorem dX9_weightOf_5 : decode cX9_weightOf 5 = .ok (.aload_n 0, 1) := by decide +kernel
theorem dX9_weightOf_6 : decode cX9_weightOf 6 = .ok (.getfield 98, 3) := by decide +kernel
theorem dX9_weightOf_9 : decode cX9_weightOf 9 = .ok (.if_icmp .ge 76, 3) := by decide +kernel
theorem dX9_weightOf_12 : decode cX9_weightOf 12 = .ok (.iconst 0, 1) := by decide +kernel
theorem dX9_weightOf_13 : decode cX9_weightOf 13 = .ok (.istore 4, 2) := by decide +kernel
theorem dX9_weightOf_15 : decode cX9_weightOf 15 = .ok (.iconst 0, 1) := by decide +kernel
theorem dX9_weightOf_16 : decode cX9_weightOf 16 = .ok (.istore 5, 2) := by decide +kernel
theorem dX9_weightOf_18 : decode cX9_weightOf 18 = .ok (.iload 5, 2) := by decide +kernel
theorem dX9_weightOf_20 : decode cX9_weightOf 20 = .ok (.aload_n 0, 1) := by decide +kernel
theorem dX9_weightOf_21 : decode cX9_weightOf 21 = .ok (.getfield 118, 3) := by decide +kernel
theorem dX9_weightOf_24 : decode cX9_weightOf 24 = .ok (.if_icmp .ge 42, 3) := by decide +kernel
theorem dX9_weightOf_27 : decode cX9_weightOf 27 = .ok (.iload 4, 2) := by decide +kernel
theorem dX9_weightOf_29 : decode cX9_weightOf 29 = .ok (.ifCond .ne 24, 3) := by decide +kernel
theorem dX9_weightOf_32 : decode cX9_weightOf 32 = .ok (.aload_n 0, 1) := by decide +kernel
theorem dX9_weightOf_33 : decode cX9_weightOf 33 = .ok (.iload 5, 2) := by decide +kernel
theorem dX9_weightOf_35 : decode cX9_weightOf 35 = .ok (.iload_n 1, 1) := by decide +kernel
theorem dX9_weightOf_36 : decode cX9_weightOf 36 = .ok (.invokevirtual 164, 3) := by decide +kernel
theorem dX9_weightOf_39 : decode cX9_weightOf 39 = .ok (.ifCond .eq 18, 3) := by decide +kernel
theorem dX9_weightOf_42 : decode cX9_weightOf 42 = .ok (.aload_n 0, 1) := by decide +kernel
theorem dX9_weightOf_43 : decode cX9_weightOf 43 = .ok (.getfield 26, 3) := by decide +kernel
theorem dX9_weightOf_46 : decode cX9_weightOf 46 = .ok (.iload 5, 2) := by decide +kernel
theorem dX9_weightOf_48 : decode cX9_weightOf 48 = .ok (.iaload, 1) := by decide +kernel
theorem dX9_weightOf_49 : decode cX9_weightOf 49 = .ok (.iload_n 3, 1) := by decide +kernel
theorem dX9_weightOf_50 : decode cX9_weightOf 50 = .ok (.if_icmp .ne 7, 3) := by decide +kernel
theorem dX9_weightOf_53 : decode cX9_weightOf 53 = .ok (.iconst 1, 1) := by decide +kernel
theorem dX9_weightOf_54 : decode cX9_weightOf 54 = .ok (.goto 4, 3) := by decide +kernel
theorem dX9_weightOf_57 : decode cX9_weightOf 57 = .ok (.iconst 0, 1) := by decide +kernel
theorem dX9_weightOf_58 : decode cX9_weightOf 58 = .ok (.istore 4, 2) := by decide +kernel
theorem dX9_weightOf_60 : decode cX9_weightOf 60 = .ok (.iinc 5 1, 3) := by decide +kernel
theorem dX9_weightOf_63 : decode cX9_weightOf 63 = .ok (.goto (-45), 3) := by decide +kernel
theorem dX9_weightOf_66 : decode cX9_weightOf 66 = .ok (.iload_n 2, 1) := by decide +kernel
theorem dX9_weightOf_67 : decode cX9_weightOf 67 = .ok (.iload 4, 2) := by decide +kernel
theorem dX9_weightOf_69 : decode cX9_weightOf 69 = .ok (.ifCond .eq 7, 3) := by decide +kernel
theorem dX9_weightOf_72 : decode cX9_weightOf 72 = .ok (.iconst 1, 1) := by decide +kernel
theorem dX9_weightOf_73 : decode cX9_weightOf 73 = .ok (.goto 4, 3) := by decide +kernel
theorem dX9_weightOf_76 : decode cX9_weightOf 76 = .ok (.iconst 0, 1) := by decide +kernel
theorem dX9_weightOf_77 : decode cX9_weightOf 77 = .ok (.iadd, 1) := by decide +kernel
theorem dX9_weightOf_78 : decode cX9_weightOf 78 = .ok (.istore_n 2, 1) := by decide +kernel
theorem dX9_weightOf_79 : decode cX9_weightOf 79 = .ok (.iinc 3 1, 3) := by decide +kernel
theorem dX9_weightOf_82 : decode cX9_weightOf 82 = .ok (.goto (-78), 3) := by decide +kernel
theorem dX9_weightOf_85 : decode cX9_weightOf 85 = .ok (.fconst 1, 1) := by decide +kernel
theorem dX9_weightOf_86 : decode cX9_weightOf 86 = .ok (.aload_n 0, 1) := by decide +kernel
theorem dX9_weightOf_87 : decode cX9_weightOf 87 = .ok (.getfield 98, 3) := by decide +kernel
theorem dX9_weightOf_90 : decode cX9_weightOf 90 = .ok (.i2f, 1) := by decide +kernel
theorem dX9_weightOf_91 : decode cX9_weightOf 91 = .ok (.iconst 1, 1) := by decide +kernel
theorem dX9_weightOf_92 : decode cX9_weightOf 92 = .ok (.iload_n 2, 1) := by decide +kernel
theorem dX9_weightOf_93 : decode cX9_weightOf 93 = .ok (.iadd, 1) := by decide +kernel
theorem dX9_weightOf_94 : decode cX9_weightOf 94 = .ok (.i2f, 1) := by decide +kernel
theorem dX9_weightOf_95 : decode cX9_weightOf 95 = .ok (.fdiv, 1) := by decide +kernel
theorem dX9_weightOf_96 : decode cX9_weightOf 96 = .ok (.fadd, 1) := by decide +kernel
theorem dX9_weightOf_97 : decode cX9_weightOf 97 = .ok (.freturn, 1) := by decide +kernel
set_option maxRecDepth 20000 in
theorem ggX9_scoreOf_X9_weightOf : GoodIn wsX9_scoreOf wsX9_weightOf := goodIn_ca (goodIn_r _ [7, 8, 9, 10, 11, 12, 13, 6, 14, 15, 16, 17, 30, 31, 32, 33, 34, 35, 36, 37, 38, 39, 40, 41, 42, 43, 44, 45, 46, 47, 48, 49, 50, 51, 52, 53, 54, 55, 56, 57, 58, 59, 60, 61, 62, 63, 64] (by decide +kernel) (by decide +kernel)) (goodIn_sub (fun _ h => List.mem_cons_of_mem _ (List.mem_append_right _ h)) (by decide +kernel))
set_option maxRecDepth 20000 in
theorem gX9_scoreOf_X9_weightOf : GoodIn wsX9_scoreOf (wsV RX9 180 RX9 yX9_weightOf wsX9_weightOf) := goodIn_app (goodIn_of _ (by decide +kernel)) ggX9_scoreOf_X9_weightOf
set_option maxRecDepth 20000 in
theorem ggX9_scoreOf_X9_hitsOn : GoodIn wsX9_scoreOf wsX9_hitsOn := goodIn_ca (goodIn_r _ [21, 1, 22, 23, 24, 2, 25, 26, 27, 6, 28, 9, 10, 29, 11, 12, 13, 14, 15, 16, 17, 30, 31, 32, 33, 34, 35, 36, 37, 38, 39, 40, 41, 42, 43, 44, 45, 46, 47, 48, 49, 50, 51, 52, 53, 54, 55, 56, 57, 58, 59, 60, 61, 62, 63, 64] (by decide +kernel) (by decide +kernel)) (goodIn_sub (fun _ h => List.mem_cons_of_mem _ (List.mem_append_right _ h)) (by decide +kernel))
set_option maxRecDepth 20000 in
theorem gX9_scoreOf_X9_hitsOn : GoodIn wsX9_scoreOf (wsV RX9 184 RX9 yX9_hitsOn wsX9_hitsOn) := goodIn_app (goodIn_of _ (by decide +kernel)) ggX9_scoreOf_X9_hitsOn
theorem dX9_scoreOf_0 : decode cX9_scoreOf 0 = .ok (.fconst 0, 1) := by decide +kernel
theorem dX9_scoreOf_1 : decode cX9_scoreOf 1 = .ok (.fstore_n 2, 1) := by decide +kernel
theorem dX9_scoreOf_2 : decode cX9_scoreOf 2 = .ok (.iconst 0, 1) := by decide +kernel
theorem dX9_scoreOf_3 : decode cX9_scoreOf 3 = .ok (.istore_n 3, 1) := by decide +kernel
theorem dX9_scoreOf_4 : decode cX9_scoreOf 4 = .ok (.iload_n 3, 1) := by decide +kernel
theorem dX9_scoreOf_5 : decode cX9_scoreOf 5 = .ok (.aload_n 0, 1) := by decide +kernel
theorem dX9_scoreOf_6 : decode cX9_scoreOf 6 = .ok (.getfield 173, 3) := by decide +kernel
theorem dX9_scoreOf_9 : decode cX9_scoreOf 9 = .ok (.if_icmp .ge 22, 3) := by decide +kernel
theorem dX9_scoreOf_12 : decode cX9_scoreOf 12 = .ok (.fload_n 2, 1) := by decide +kernel
theorem dX9_scoreOf_13 : decode cX9_scoreOf 13 = .ok (.aload_n 0, 1) := by decide +kernel
theorem dX9_scoreOf_14 : decode cX9_scoreOf 14 = .ok (.aload_n 0, 1) := by decide +kernel
theorem dX9_scoreOf_15 : decode cX9_scoreOf 15 = .ok (.getfield 71, 3) := by decide +kernel
theorem dX9_scoreOf_18 : decode cX9_scoreOf 18 = .ok (.iload_n 3, 1) := by decide +kernel
theorem dX9_scoreOf_19 : decode cX9_scoreOf 19 = .ok (.iaload, 1) := by decide +kernel
theorem dX9_scoreOf_20 : decode cX9_scoreOf 20 = .ok (.invokevirtual 180, 3) := by decide +kernel
theorem dX9_scoreOf_23 : decode cX9_scoreOf 23 = .ok (.fadd, 1) := by decide +kernel
theorem dX9_scoreOf_24 : decode cX9_scoreOf 24 = .ok (.fstore_n 2, 1) := by decide +kernel
theorem dX9_scoreOf_25 : decode cX9_scoreOf 25 = .ok (.iinc 3 1, 3) := by decide +kernel
theorem dX9_scoreOf_28 : decode cX9_scoreOf 28 = .ok (.goto (-24), 3) := by decide +kernel
theorem dX9_scoreOf_31 : decode cX9_scoreOf 31 = .ok (.fload_n 2, 1) := by decide +kernel
theorem dX9_scoreOf_32 : decode cX9_scoreOf 32 = .ok (.aload_n 0, 1) := by decide +kernel
theorem dX9_scoreOf_33 : decode cX9_scoreOf 33 = .ok (.iload_n 1, 1) := by decide +kernel
theorem dX9_scoreOf_34 : decode cX9_scoreOf 34 = .ok (.invokevirtual 184, 3) := by decide +kernel
theorem dX9_scoreOf_37 : decode cX9_scoreOf 37 = .ok (.i2f, 1) := by decide +kernel
theorem dX9_scoreOf_38 : decode cX9_scoreOf 38 = .ok (.fmul, 1) := by decide +kernel
theorem dX9_scoreOf_39 : decode cX9_scoreOf 39 = .ok (.freturn, 1) := by decide +kernel
set_option maxRecDepth 20000 in
theorem ggX9_hits_X9_no : GoodIn wsX9_hits wsX9_no := goodIn_r _ [7, 8, 38, 39, 40, 41, 42, 43, 44, 45, 46, 47, 48, 49, 50, 51, 52, 53, 54, 55, 56, 57, 58, 59, 60, 61, 62, 63, 64, 65, 66, 67, 68, 69, 70, 71, 72] (by decide +kernel) (by decide +kernel)
set_option maxRecDepth 20000 in
theorem gX9_hits_X9_no : GoodIn wsX9_hits (wsV RX9 108 RX9 yX9_no wsX9_no) := goodIn_app (goodIn_of _ (by decide +kernel)) ggX9_hits_X9_no
set_option maxRecDepth 20000 in
theorem ggX9_hits_X9_asksTyped : GoodIn wsX9_hits wsX9_asksTyped := goodIn_ca (goodIn_r _ [12, 1, 13, 14, 15, 16, 17, 38, 39, 40, 41, 42, 43, 44, 45, 46, 47, 48, 49, 50, 51, 52, 53, 54, 55, 56, 57, 58, 59, 60, 61, 62, 63, 64, 65, 66, 67, 68, 69, 70, 71, 72] (by decide +kernel) (by decide +kernel)) (goodIn_sub (fun _ h => List.mem_cons_of_mem _ (List.mem_append_right _ h)) (by decide +kernel))
set_option maxRecDepth 20000 in
theorem gX9_hits_X9_asksTyped : GoodIn wsX9_hits (wsV RX9 187 RX9 yX9_asksTyped wsX9_asksTyped) := goodIn_app (goodIn_of _ (by decide +kernel)) ggX9_hits_X9_asksTyped
set_option maxRecDepth 20000 in
theorem ggX9_hits_X9_hitsOn : GoodIn wsX9_hits wsX9_hitsOn := goodIn_ca (goodIn_r _ [21, 13, 16, 22, 23, 14, 24, 25, 26, 6, 27, 28, 29, 30, 31, 32, 33, 34, 35, 36, 37, 38, 39, 40, 41, 42, 43, 44, 45, 46, 47, 48, 49, 50, 51, 52, 53, 54, 55, 56, 57, 58, 59, 60, 61, 62, 63, 64, 65, 66, 67, 68, 69, 70, 71, 72] (by decide +kernel) (by decide +kernel)) (goodIn_sub (fun _ h => List.mem_cons_of_mem _ (List.mem_append_right _ h)) (by decide +kernel))
set_option maxRecDepth 20000 in
theorem gX9_hits_X9_hitsOn : GoodIn wsX9_hits (wsV RX9 184 RX9 yX9_hitsOn wsX9_hitsOn) := goodIn_app (goodIn_of _ (by decide +kernel)) ggX9_hits_X9_hitsOn
theorem dX9_hits_0 : decode cX9_hits 0 = .ok (.aload_n 0, 1) := by decide +kernel
theorem dX9_hits_1 : decode cX9_hits 1 = .ok (.aload_n 0, 1) := by decide +kernel
theorem dX9_hits_2 : decode cX9_hits 2 = .ok (.getfield 170, 3) := by decide +kernel
theorem dX9_hits_5 : decode cX9_hits 5 = .ok (.ifCond .le 7, 3) := by decide +kernel
theorem dX9_hits_8 : decode cX9_hits 8 = .ok (.iconst 1, 1) := by decide +kernel
theorem dX9_hits_9 : decode cX9_hits 9 = .ok (.goto 4, 3) := by decide +kernel
theorem dX9_hits_12 : decode cX9_hits 12 = .ok (.iconst 0, 1) := by decide +kernel
theorem dX9_hits_13 : decode cX9_hits 13 = .ok (.iconst 1, 1) := by decide +kernel
theorem dX9_hits_14 : decode cX9_hits 14 = .ok (.invokevirtual 108, 3) := by decide +kernel
theorem dX9_hits_17 : decode cX9_hits 17 = .ok (.ifCond .eq 5, 3) := by decide +kernel
theorem dX9_hits_20 : decode cX9_hits 20 = .ok (.iconst 0, 1) := by decide +kernel
theorem dX9_hits_21 : decode cX9_hits 21 = .ok (.ireturn, 1) := by decide +kernel
theorem dX9_hits_22 : decode cX9_hits 22 = .ok (.aload_n 0, 1) := by decide +kernel
theorem dX9_hits_23 : decode cX9_hits 23 = .ok (.invokevirtual 187, 3) := by decide +kernel
theorem dX9_hits_26 : decode cX9_hits 26 = .ok (.iconst 0, 1) := by decide +kernel
theorem dX9_hits_27 : decode cX9_hits 27 = .ok (.istore_n 1, 1) := by decide +kernel
theorem dX9_hits_28 : decode cX9_hits 28 = .ok (.iconst 0, 1) := by decide +kernel
theorem dX9_hits_29 : decode cX9_hits 29 = .ok (.istore_n 2, 1) := by decide +kernel
theorem dX9_hits_30 : decode cX9_hits 30 = .ok (.iload_n 2, 1) := by decide +kernel
theorem dX9_hits_31 : decode cX9_hits 31 = .ok (.aload_n 0, 1) := by decide +kernel
theorem dX9_hits_32 : decode cX9_hits 32 = .ok (.getfield 98, 3) := by decide +kernel
theorem dX9_hits_35 : decode cX9_hits 35 = .ok (.if_icmp .ge 25, 3) := by decide +kernel
theorem dX9_hits_38 : decode cX9_hits 38 = .ok (.iload_n 1, 1) := by decide +kernel
theorem dX9_hits_39 : decode cX9_hits 39 = .ok (.aload_n 0, 1) := by decide +kernel
theorem dX9_hits_40 : decode cX9_hits 40 = .ok (.iload_n 2, 1) := by decide +kernel
theorem dX9_hits_41 : decode cX9_hits 41 = .ok (.invokevirtual 184, 3) := by decide +kernel
theorem dX9_hits_44 : decode cX9_hits 44 = .ok (.ifCond .le 7, 3) := by decide +kernel
theorem dX9_hits_47 : decode cX9_hits 47 = .ok (.iconst 1, 1) := by decide +kernel
theorem dX9_hits_48 : decode cX9_hits 48 = .ok (.goto 4, 3) := by decide +kernel
theorem dX9_hits_51 : decode cX9_hits 51 = .ok (.iconst 0, 1) := by decide +kernel
theorem dX9_hits_52 : decode cX9_hits 52 = .ok (.iadd, 1) := by decide +kernel
theorem dX9_hits_53 : decode cX9_hits 53 = .ok (.istore_n 1, 1) := by decide +kernel
theorem dX9_hits_54 : decode cX9_hits 54 = .ok (.iinc 2 1, 3) := by decide +kernel
theorem dX9_hits_57 : decode cX9_hits 57 = .ok (.goto (-27), 3) := by decide +kernel
theorem dX9_hits_60 : decode cX9_hits 60 = .ok (.iload_n 1, 1) := by decide +kernel
theorem dX9_hits_61 : decode cX9_hits 61 = .ok (.ireturn, 1) := by decide +kernel
theorem dX9_far_0 : decode cX9_far 0 = .ok (.aload_n 0, 1) := by decide +kernel
theorem dX9_far_1 : decode cX9_far 1 = .ok (.getfield 7, 3) := by decide +kernel
theorem dX9_far_4 : decode cX9_far 4 = .ok (.iload_n 2, 1) := by decide +kernel
theorem dX9_far_5 : decode cX9_far 5 = .ok (.iaload, 1) := by decide +kernel
theorem dX9_far_6 : decode cX9_far 6 = .ok (.aload_n 0, 1) := by decide +kernel
theorem dX9_far_7 : decode cX9_far 7 = .ok (.getfield 7, 3) := by decide +kernel
theorem dX9_far_10 : decode cX9_far 10 = .ok (.aload_n 0, 1) := by decide +kernel
theorem dX9_far_11 : decode cX9_far 11 = .ok (.getfield 44, 3) := by decide +kernel
theorem dX9_far_14 : decode cX9_far 14 = .ok (.iload_n 1, 1) := by decide +kernel
theorem dX9_far_15 : decode cX9_far 15 = .ok (.iaload, 1) := by decide +kernel
theorem dX9_far_16 : decode cX9_far 16 = .ok (.iaload, 1) := by decide +kernel
theorem dX9_far_17 : decode cX9_far 17 = .ok (.isub, 1) := by decide +kernel
theorem dX9_far_18 : decode cX9_far 18 = .ok (.istore_n 3, 1) := by decide +kernel
theorem dX9_far_19 : decode cX9_far 19 = .ok (.aload_n 0, 1) := by decide +kernel
theorem dX9_far_20 : decode cX9_far 20 = .ok (.getfield 13, 3) := by decide +kernel
theorem dX9_far_23 : decode cX9_far 23 = .ok (.iload_n 2, 1) := by decide +kernel
theorem dX9_far_24 : decode cX9_far 24 = .ok (.iaload, 1) := by decide +kernel
theorem dX9_far_25 : decode cX9_far 25 = .ok (.aload_n 0, 1) := by decide +kernel
theorem dX9_far_26 : decode cX9_far 26 = .ok (.getfield 13, 3) := by decide +kernel
theorem dX9_far_29 : decode cX9_far 29 = .ok (.aload_n 0, 1) := by decide +kernel
theorem dX9_far_30 : decode cX9_far 30 = .ok (.getfield 44, 3) := by decide +kernel
theorem dX9_far_33 : decode cX9_far 33 = .ok (.iload_n 1, 1) := by decide +kernel
theorem dX9_far_34 : decode cX9_far 34 = .ok (.iaload, 1) := by decide +kernel
theorem dX9_far_35 : decode cX9_far 35 = .ok (.iaload, 1) := by decide +kernel
theorem dX9_far_36 : decode cX9_far 36 = .ok (.isub, 1) := by decide +kernel
theorem dX9_far_37 : decode cX9_far 37 = .ok (.istore 4, 2) := by decide +kernel
theorem dX9_far_39 : decode cX9_far 39 = .ok (.iload_n 3, 1) := by decide +kernel
theorem dX9_far_40 : decode cX9_far 40 = .ok (.iload_n 3, 1) := by decide +kernel
theorem dX9_far_41 : decode cX9_far 41 = .ok (.imul, 1) := by decide +kernel
theorem dX9_far_42 : decode cX9_far 42 = .ok (.iload 4, 2) := by decide +kernel
theorem dX9_far_44 : decode cX9_far 44 = .ok (.iload 4, 2) := by decide +kernel
theorem dX9_far_46 : decode cX9_far 46 = .ok (.imul, 1) := by decide +kernel
theorem dX9_far_47 : decode cX9_far 47 = .ok (.iadd, 1) := by decide +kernel
theorem dX9_far_48 : decode cX9_far 48 = .ok (.ireturn, 1) := by decide +kernel
set_option maxRecDepth 20000 in
theorem ggX9_better_X9_scoreOf : GoodIn wsX9_better wsX9_scoreOf := goodIn_ca (goodIn_r _ [5, 6, 7, 8, 9, 10, 4, 11, 12, 13, 14, 15, 16, 17, 18, 19, 20, 21, 22, 23, 24, 25, 26, 27, 28, 29, 30, 31, 32, 33, 41, 42, 43, 44, 45, 46, 47, 48, 49, 50, 51, 52, 53, 54, 55, 56, 57, 58, 59, 60, 61, 62, 63, 64, 65, 66, 67, 68, 69, 70, 71, 72, 73, 74, 75] (by decide +kernel) (by decide +kernel)) (goodIn_sub (fun _ h => List.mem_cons_of_mem _ (List.mem_append_right _ h)) (by decide +kernel))
set_option maxRecDepth 20000 in
theorem gX9_better_X9_scoreOf : GoodIn wsX9_better (wsV RX9 190 RX9 yX9_scoreOf wsX9_scoreOf) := goodIn_app (goodIn_of _ (by decide +kernel)) ggX9_better_X9_scoreOf
set_option maxRecDepth 20000 in
theorem ggX9_better_X9_far : GoodIn wsX9_better wsX9_far := goodIn_ca (goodIn_r _ [37, 38, 39, 40, 41, 42, 43, 44, 45, 46, 47, 48, 49, 50, 51, 52, 53, 54, 55, 56, 57, 58, 59, 60, 61, 62, 63, 64, 65, 66, 67, 68, 69, 70, 71, 72, 73, 74, 75] (by decide +kernel) (by decide +kernel)) (goodIn_sub (fun _ h => List.mem_cons_of_mem _ (List.mem_append_right _ h)) (by decide +kernel))
set_option maxRecDepth 20000 in
theorem gX9_better_X9_far : GoodIn wsX9_better (wsV RX9 193 RX9 yX9_far wsX9_far) := goodIn_app (goodIn_of _ (by decide +kernel)) ggX9_better_X9_far
theorem dX9_better_0 : decode cX9_better 0 = .ok (.aload_n 0, 1) := by decide +kernel
theorem dX9_better_1 : decode cX9_better 1 = .ok (.iload_n 2, 1) := by decide +kernel
theorem dX9_better_2 : decode cX9_better 2 = .ok (.invokevirtual 190, 3) := by decide +kernel
theorem dX9_better_5 : decode cX9_better 5 = .ok (.fstore 4, 2) := by decide +kernel
theorem dX9_better_7 : decode cX9_better 7 = .ok (.aload_n 0, 1) := by decide +kernel
theorem dX9_better_8 : decode cX9_better 8 = .ok (.iload_n 3, 1) := by decide +kernel
theorem dX9_better_9 : decode cX9_better 9 = .ok (.invokevirtual 190, 3) := by decide +kernel
theorem dX9_better_12 : decode cX9_better 12 = .ok (.fstore 5, 2) := by decide +kernel
theorem dX9_better_14 : decode cX9_better 14 = .ok (.fload 4, 2) := by decide +kernel
theorem dX9_better_16 : decode cX9_better 16 = .ok (.fload 5, 2) := by decide +kernel
theorem dX9_better_18 : decode cX9_better 18 = .ok (.fcmp .l, 1) := by decide +kernel
theorem dX9_better_19 : decode cX9_better 19 = .ok (.ifCond .eq 17, 3) := by decide +kernel
theorem dX9_better_22 : decode cX9_better 22 = .ok (.fload 4, 2) := by decide +kernel
theorem dX9_better_24 : decode cX9_better 24 = .ok (.fload 5, 2) := by decide +kernel
theorem dX9_better_26 : decode cX9_better 26 = .ok (.fcmp .l, 1) := by decide +kernel
theorem dX9_better_27 : decode cX9_better 27 = .ok (.ifCond .le 7, 3) := by decide +kernel
theorem dX9_better_30 : decode cX9_better 30 = .ok (.iconst 1, 1) := by decide +kernel
theorem dX9_better_31 : decode cX9_better 31 = .ok (.goto 4, 3) := by decide +kernel
theorem dX9_better_34 : decode cX9_better 34 = .ok (.iconst 0, 1) := by decide +kernel
theorem dX9_better_35 : decode cX9_better 35 = .ok (.ireturn, 1) := by decide +kernel
theorem dX9_better_36 : decode cX9_better 36 = .ok (.aload_n 0, 1) := by decide +kernel
theorem dX9_better_37 : decode cX9_better 37 = .ok (.iload_n 1, 1) := by decide +kernel
theorem dX9_better_38 : decode cX9_better 38 = .ok (.iload_n 2, 1) := by decide +kernel
theorem dX9_better_39 : decode cX9_better 39 = .ok (.invokevirtual 193, 3) := by decide +kernel
theorem dX9_better_42 : decode cX9_better 42 = .ok (.aload_n 0, 1) := by decide +kernel
theorem dX9_better_43 : decode cX9_better 43 = .ok (.iload_n 1, 1) := by decide +kernel
theorem dX9_better_44 : decode cX9_better 44 = .ok (.iload_n 3, 1) := by decide +kernel
theorem dX9_better_45 : decode cX9_better 45 = .ok (.invokevirtual 193, 3) := by decide +kernel
theorem dX9_better_48 : decode cX9_better 48 = .ok (.isub, 1) := by decide +kernel
theorem dX9_better_49 : decode cX9_better 49 = .ok (.istore 6, 2) := by decide +kernel
theorem dX9_better_51 : decode cX9_better 51 = .ok (.iload 6, 2) := by decide +kernel
theorem dX9_better_53 : decode cX9_better 53 = .ok (.ifCond .eq 16, 3) := by decide +kernel
theorem dX9_better_56 : decode cX9_better 56 = .ok (.iload 6, 2) := by decide +kernel
theorem dX9_better_58 : decode cX9_better 58 = .ok (.ifCond .ge 7, 3) := by decide +kernel
theorem dX9_better_61 : decode cX9_better 61 = .ok (.iconst 1, 1) := by decide +kernel
theorem dX9_better_62 : decode cX9_better 62 = .ok (.goto 17, 3) := by decide +kernel
theorem dX9_better_65 : decode cX9_better 65 = .ok (.iconst 0, 1) := by decide +kernel
theorem dX9_better_66 : decode cX9_better 66 = .ok (.goto 13, 3) := by decide +kernel
theorem dX9_better_69 : decode cX9_better 69 = .ok (.iload_n 2, 1) := by decide +kernel
theorem dX9_better_70 : decode cX9_better 70 = .ok (.iload_n 3, 1) := by decide +kernel
theorem dX9_better_71 : decode cX9_better 71 = .ok (.if_icmp .ge 7, 3) := by decide +kernel
theorem dX9_better_74 : decode cX9_better 74 = .ok (.iconst 1, 1) := by decide +kernel
theorem dX9_better_75 : decode cX9_better 75 = .ok (.goto 4, 3) := by decide +kernel
theorem dX9_better_78 : decode cX9_better 78 = .ok (.iconst 0, 1) := by decide +kernel
theorem dX9_better_79 : decode cX9_better 79 = .ok (.ireturn, 1) := by decide +kernel
set_option maxRecDepth 20000 in
theorem ggX9_ranked_X9_asksTyped : GoodIn wsX9_ranked wsX9_asksTyped := goodIn_ca (goodIn_r _ [6, 7, 8, 9, 10, 11, 12, 52, 53, 54, 55, 56, 57, 58, 59, 60, 61, 62, 63, 64, 65, 66, 67, 68, 69, 70, 71, 72, 73, 74, 75, 76, 77, 78, 79, 80, 81, 82, 83, 84, 85, 86] (by decide +kernel) (by decide +kernel)) (goodIn_sub (fun _ h => List.mem_cons_of_mem _ (List.mem_append_right _ h)) (by decide +kernel))
set_option maxRecDepth 20000 in
theorem gX9_ranked_X9_asksTyped : GoodIn wsX9_ranked (wsV RX9 187 RX9 yX9_asksTyped wsX9_asksTyped) := goodIn_app (goodIn_of _ (by decide +kernel)) ggX9_ranked_X9_asksTyped
set_option maxRecDepth 20000 in
theorem ggX9_ranked_X9_hitsOn : GoodIn wsX9_ranked wsX9_hitsOn := goodIn_ca (goodIn_r _ [16, 8, 11, 17, 18, 9, 19, 20, 21, 5, 22, 23, 24, 25, 26, 27, 28, 29, 30, 31, 32, 52, 53, 54, 55, 56, 57, 58, 59, 60, 61, 62, 63, 64, 65, 66, 67, 68, 69, 70, 71, 72, 73, 74, 75, 76, 77, 78, 79, 80, 81, 82, 83, 84, 85, 86] (by decide +kernel) (by decide +kernel)) (goodIn_sub (fun _ h => List.mem_cons_of_mem _ (List.mem_append_right _ h)) (by decide +kernel))
set_option maxRecDepth 20000 in
theorem gX9_ranked_X9_hitsOn : GoodIn wsX9_ranked (wsV RX9 184 RX9 yX9_hitsOn wsX9_hitsOn) := goodIn_app (goodIn_of _ (by decide +kernel)) ggX9_ranked_X9_hitsOn
set_option maxRecDepth 20000 in
theorem ggX9_ranked_X9_better : GoodIn wsX9_ranked wsX9_better := goodIn_ca (goodIn_r _ [36, 37, 38, 39, 5, 40, 8, 9, 41, 42, 43, 44, 1, 23, 24, 26, 27, 28, 29, 30, 31, 32, 13, 14, 15, 16, 11, 17, 18, 19, 20, 21, 22, 25, 45, 46, 47, 48, 49, 50, 51, 52, 53, 54, 55, 56, 57, 58, 59, 60, 61, 62, 63, 64, 65, 66, 67, 68, 69, 70, 71, 72, 73, 74, 75, 76, 77, 78, 79, 80, 81, 82, 83, 84, 85, 86] (by decide +kernel) (by decide +kernel)) (goodIn_sub (fun _ h => List.mem_cons_of_mem _ (List.mem_append_right _ h)) (by decide +kernel))
set_option maxRecDepth 20000 in
theorem gX9_ranked_X9_better : GoodIn wsX9_ranked (wsV RX9 197 RX9 yX9_better wsX9_better) := goodIn_app (goodIn_of _ (by decide +kernel)) ggX9_ranked_X9_better
theorem dX9_ranked_0 : decode cX9_ranked 0 = .ok (.aload_n 0, 1) := by decide +kernel
theorem dX9_ranked_1 : decode cX9_ranked 1 = .ok (.invokevirtual 187, 3) := by decide +kernel
theorem dX9_ranked_4 : decode cX9_ranked 4 = .ok (.iconst (-1), 1) := by decide +kernel
theorem dX9_ranked_5 : decode cX9_ranked 5 = .ok (.istore_n 3, 1) := by decide +kernel
theorem dX9_ranked_6 : decode cX9_ranked 6 = .ok (.iconst 0, 1) := by decide +kernel
theorem dX9_ranked_7 : decode cX9_ranked 7 = .ok (.istore 4, 2) := by decide +kernel
theorem dX9_ranked_9 : decode cX9_ranked 9 = .ok (.iload 4, 2) := by decide +kernel
theorem dX9_ranked_11 : decode cX9_ranked 11 = .ok (.aload_n 0, 1) := by decide +kernel
theorem dX9_ranked_12 : decode cX9_ranked 12 = .ok (.getfield 98, 3) := by decide +kernel
theorem dX9_ranked_15 : decode cX9_ranked 15 = .ok (.if_icmp .ge 93, 3) := by decide +kernel
theorem dX9_ranked_18 : decode cX9_ranked 18 = .ok (.aload_n 0, 1) := by decide +kernel
theorem dX9_ranked_19 : decode cX9_ranked 19 = .ok (.iload 4, 2) := by decide +kernel
theorem dX9_ranked_21 : decode cX9_ranked 21 = .ok (.invokevirtual 184, 3) := by decide +kernel
theorem dX9_ranked_24 : decode cX9_ranked 24 = .ok (.ifCond .ne 6, 3) := by decide +kernel
theorem dX9_ranked_27 : decode cX9_ranked 27 = .ok (.goto 75, 3) := by decide +kernel
theorem dX9_ranked_30 : decode cX9_ranked 30 = .ok (.iconst 0, 1) := by decide +kernel
theorem dX9_ranked_31 : decode cX9_ranked 31 = .ok (.istore 5, 2) := by decide +kernel
theorem dX9_ranked_33 : decode cX9_ranked 33 = .ok (.iconst 0, 1) := by decide +kernel
theorem dX9_ranked_34 : decode cX9_ranked 34 = .ok (.istore 6, 2) := by decide +kernel
theorem dX9_ranked_36 : decode cX9_ranked 36 = .ok (.iload 6, 2) := by decide +kernel
theorem dX9_ranked_38 : decode cX9_ranked 38 = .ok (.aload_n 0, 1) := by decide +kernel
theorem dX9_ranked_39 : decode cX9_ranked 39 = .ok (.getfield 98, 3) := by decide +kernel
theorem dX9_ranked_42 : decode cX9_ranked 42 = .ok (.if_icmp .ge 47, 3) := by decide +kernel
theorem dX9_ranked_45 : decode cX9_ranked 45 = .ok (.iload 5, 2) := by decide +kernel
theorem dX9_ranked_47 : decode cX9_ranked 47 = .ok (.iload 6, 2) := by decide +kernel
theorem dX9_ranked_49 : decode cX9_ranked 49 = .ok (.iload 4, 2) := by decide +kernel
theorem dX9_ranked_51 : decode cX9_ranked 51 = .ok (.if_icmp .eq 28, 3) := by decide +kernel
theorem dX9_ranked_54 : decode cX9_ranked 54 = .ok (.aload_n 0, 1) := by decide +kernel
theorem dX9_ranked_55 : decode cX9_ranked 55 = .ok (.iload 6, 2) := by decide +kernel
theorem dX9_ranked_57 : decode cX9_ranked 57 = .ok (.invokevirtual 184, 3) := by decide +kernel
theorem dX9_ranked_60 : decode cX9_ranked 60 = .ok (.ifCond .le 19, 3) := by decide +kernel
theorem dX9_ranked_63 : decode cX9_ranked 63 = .ok (.aload_n 0, 1) := by decide +kernel
theorem dX9_ranked_64 : decode cX9_ranked 64 = .ok (.iload_n 1, 1) := by decide +kernel
theorem dX9_ranked_65 : decode cX9_ranked 65 = .ok (.iload 6, 2) := by decide +kernel
theorem dX9_ranked_67 : decode cX9_ranked 67 = .ok (.iload 4, 2) := by decide +kernel
theorem dX9_ranked_69 : decode cX9_ranked 69 = .ok (.invokevirtual 197, 3) := by decide +kernel
theorem dX9_ranked_72 : decode cX9_ranked 72 = .ok (.ifCond .eq 7, 3) := by decide +kernel
theorem dX9_ranked_75 : decode cX9_ranked 75 = .ok (.iconst 1, 1) := by decide +kernel
theorem dX9_ranked_76 : decode cX9_ranked 76 = .ok (.goto 4, 3) := by decide +kernel
theorem dX9_ranked_79 : decode cX9_ranked 79 = .ok (.iconst 0, 1) := by decide +kernel
theorem dX9_ranked_80 : decode cX9_ranked 80 = .ok (.iadd, 1) := by decide +kernel
theorem dX9_ranked_81 : decode cX9_ranked 81 = .ok (.istore 5, 2) := by decide +kernel
theorem dX9_ranked_83 : decode cX9_ranked 83 = .ok (.iinc 6 1, 3) := by decide +kernel
theorem dX9_ranked_86 : decode cX9_ranked 86 = .ok (.goto (-50), 3) := by decide +kernel
theorem dX9_ranked_89 : decode cX9_ranked 89 = .ok (.iload 5, 2) := by decide +kernel
theorem dX9_ranked_91 : decode cX9_ranked 91 = .ok (.iload_n 2, 1) := by decide +kernel
theorem dX9_ranked_92 : decode cX9_ranked 92 = .ok (.if_icmp .ne 8, 3) := by decide +kernel
theorem dX9_ranked_95 : decode cX9_ranked 95 = .ok (.iload 4, 2) := by decide +kernel
theorem dX9_ranked_97 : decode cX9_ranked 97 = .ok (.goto 4, 3) := by decide +kernel
theorem dX9_ranked_100 : decode cX9_ranked 100 = .ok (.iload_n 3, 1) := by decide +kernel
theorem dX9_ranked_101 : decode cX9_ranked 101 = .ok (.istore_n 3, 1) := by decide +kernel
theorem dX9_ranked_102 : decode cX9_ranked 102 = .ok (.iinc 4 1, 3) := by decide +kernel
theorem dX9_ranked_105 : decode cX9_ranked 105 = .ok (.goto (-96), 3) := by decide +kernel
theorem dX9_ranked_108 : decode cX9_ranked 108 = .ok (.iload_n 3, 1) := by decide +kernel
theorem dX9_ranked_109 : decode cX9_ranked 109 = .ok (.ireturn, 1) := by decide +kernel
set_option maxRecDepth 20000 in
theorem ggX9_hit_X9_isShip : GoodIn wsX9_hit wsX9_isShip := goodIn_r _ [6, 7, 8, 9, 5, 10, 69, 70, 71, 72, 73, 74, 75, 76, 77, 78, 79, 80, 81, 82, 83, 84, 85, 86, 87, 88, 89, 90, 91, 92, 93, 94, 95, 96, 97, 98, 99, 100, 101, 102, 103] (by decide +kernel) (by decide +kernel)
set_option maxRecDepth 20000 in
theorem gX9_hit_X9_isShip : GoodIn wsX9_hit (wsV RX9 145 RX9 yX9_isShip wsX9_isShip) := goodIn_app (goodIn_of _ (by decide +kernel)) ggX9_hit_X9_isShip
set_option maxRecDepth 20000 in
theorem ggX9_hit_X9_no : GoodIn wsX9_hit wsX9_no := goodIn_r _ [14, 15, 69, 70, 71, 72, 73, 74, 75, 76, 77, 78, 79, 80, 81, 82, 83, 84, 85, 86, 87, 88, 89, 90, 91, 92, 93, 94, 95, 96, 97, 98, 99, 100, 101, 102, 103] (by decide +kernel) (by decide +kernel)
set_option maxRecDepth 20000 in
theorem gX9_hit_X9_no : GoodIn wsX9_hit (wsV RX9 108 RX9 yX9_no wsX9_no) := goodIn_app (goodIn_of _ (by decide +kernel)) ggX9_hit_X9_no
set_option maxRecDepth 20000 in
theorem ggX9_hit_X9_ranked : GoodIn wsX9_hit wsX9_ranked := goodIn_ca (goodIn_r _ [19, 20, 21, 22, 23, 5, 24, 1, 25, 26, 27, 28, 29, 30, 31, 32, 33, 34, 35, 36, 37, 38, 39, 40, 41, 42, 43, 44, 45, 46, 47, 48, 49, 50, 51, 52, 53, 54, 55, 56, 57, 58, 59, 60, 61, 62, 63, 64, 65, 66, 67, 68, 69, 70, 71, 72, 73, 74, 75, 76, 77, 78, 79, 80, 81, 82, 83, 84, 85, 86, 87, 88, 89, 90, 91, 92, 93, 94, 95, 96, 97, 98, 99, 100, 101, 102, 103] (by decide +kernel) (by decide +kernel)) (goodIn_sub (fun _ h => List.mem_cons_of_mem _ (List.mem_append_right _ h)) (by decide +kernel))
set_option maxRecDepth 20000 in
theorem gX9_hit_X9_ranked : GoodIn wsX9_hit (wsV RX9 200 RX9 yX9_ranked wsX9_ranked) := goodIn_app (goodIn_of _ (by decide +kernel)) ggX9_hit_X9_ranked
theorem dX9_hit_0 : decode cX9_hit 0 = .ok (.aload_n 0, 1) := by decide +kernel
theorem dX9_hit_1 : decode cX9_hit 1 = .ok (.aload_n 0, 1) := by decide +kernel
theorem dX9_hit_2 : decode cX9_hit 2 = .ok (.iload_n 1, 1) := by decide +kernel
theorem dX9_hit_3 : decode cX9_hit 3 = .ok (.invokevirtual 145, 3) := by decide +kernel
theorem dX9_hit_6 : decode cX9_hit 6 = .ok (.iconst 1, 1) := by decide +kernel
theorem dX9_hit_7 : decode cX9_hit 7 = .ok (.invokevirtual 108, 3) := by decide +kernel
theorem dX9_hit_10 : decode cX9_hit 10 = .ok (.ifCond .ne 23, 3) := by decide +kernel
theorem dX9_hit_13 : decode cX9_hit 13 = .ok (.aload_n 0, 1) := by decide +kernel
theorem dX9_hit_14 : decode cX9_hit 14 = .ok (.aload_n 0, 1) := by decide +kernel
theorem dX9_hit_15 : decode cX9_hit 15 = .ok (.getfield 170, 3) := by decide +kernel
theorem dX9_hit_18 : decode cX9_hit 18 = .ok (.ifCond .le 7, 3) := by decide +kernel
theorem dX9_hit_21 : decode cX9_hit 21 = .ok (.iconst 1, 1) := by decide +kernel
theorem dX9_hit_22 : decode cX9_hit 22 = .ok (.goto 4, 3) := by decide +kernel
