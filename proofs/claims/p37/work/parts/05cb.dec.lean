theorem dX8_meanSize_68 : decode cX8_meanSize 68 = .ok (.getfield 137, 3) := by decide +kernel
theorem dX8_meanSize_71 : decode cX8_meanSize 71 = .ok (.invokevirtual 64, 3) := by decide +kernel
theorem dX8_meanSize_74 : decode cX8_meanSize 74 = .ok (.i2d, 1) := by decide +kernel
theorem dX8_meanSize_75 : decode cX8_meanSize 75 = .ok (.ddiv, 1) := by decide +kernel
theorem dX8_meanSize_76 : decode cX8_meanSize 76 = .ok (.dreturn, 1) := by decide +kernel
set_option maxRecDepth 20000 in
theorem ggX8_postings_X8_requireRange : GoodIn wsX8_postings wsX8_requireRange := goodIn_ca (goodIn_r _ [5, 6, 7] (by decide +kernel) (by decide +kernel)) (goodIn_sub (fun _ h => List.mem_cons_of_mem _ (List.mem_append_right _ h)) (by decide +kernel))
set_option maxRecDepth 20000 in
theorem gX8_postings_X8_requireRange : GoodIn wsX8_postings (va_wsS RX8 60 yX8_requireRange wsX8_requireRange) := goodIn_app (goodIn_of _ (by decide +kernel)) ggX8_postings_X8_requireRange
set_option maxRecDepth 20000 in
theorem ggX8_postings_X1_postingsOf : GoodIn wsX8_postings wsX1_postingsOf := goodIn_r _ [12, 13, 14, 15, 16, 17, 18, 19, 20, 21, 22, 23, 24, 25, 26, 27, 28, 29, 30, 31, 32, 33, 34, 35, 36, 37, 38, 48, 49, 50, 51, 52, 53, 54, 55, 56, 57, 58] (by decide +kernel) (by decide +kernel)
set_option maxRecDepth 20000 in
theorem gX8_postings_X1_postingsOf : GoodIn wsX8_postings (wsV RX8 211 RX1 yX1_postingsOf wsX1_postingsOf) := goodIn_app (goodIn_of _ (by decide +kernel)) ggX8_postings_X1_postingsOf
theorem dX8_postings_0 : decode cX8_postings 0 = .ok (.iload_n 1, 1) := by decide +kernel
theorem dX8_postings_1 : decode cX8_postings 1 = .ok (.bipush 30, 2) := by decide +kernel
theorem dX8_postings_3 : decode cX8_postings 3 = .ok (.invokestatic 60, 3) := by decide +kernel
theorem dX8_postings_6 : decode cX8_postings 6 = .ok (.aload_n 0, 1) := by decide +kernel
theorem dX8_postings_7 : decode cX8_postings 7 = .ok (.getfield 22, 3) := by decide +kernel
theorem dX8_postings_10 : decode cX8_postings 10 = .ok (.iload_n 1, 1) := by decide +kernel
theorem dX8_postings_11 : decode cX8_postings 11 = .ok (.invokevirtual 211, 3) := by decide +kernel
theorem dX8_postings_14 : decode cX8_postings 14 = .ok (.ireturn, 1) := by decide +kernel
set_option maxRecDepth 20000 in
theorem ggX8_posting_X8_requireRange : GoodIn wsX8_posting wsX8_requireRange := goodIn_ca (goodIn_r _ [8, 9, 10] (by decide +kernel) (by decide +kernel)) (goodIn_sub (fun _ h => List.mem_cons_of_mem _ (List.mem_append_right _ h)) (by decide +kernel))
set_option maxRecDepth 20000 in
theorem gX8_posting_X8_requireRange : GoodIn wsX8_posting (va_wsS RX8 60 yX8_requireRange wsX8_requireRange) := goodIn_app (goodIn_of _ (by decide +kernel)) ggX8_posting_X8_requireRange
set_option maxRecDepth 20000 in
theorem ggX8_posting_X1_postingAt : GoodIn wsX8_posting wsX1_postingAt := goodIn_r _ [15, 16, 17, 18, 19, 20, 21, 22, 23, 24, 25, 26, 27, 28, 29, 30, 31, 32, 33, 34, 35, 36, 37, 38, 39, 40, 41, 58, 51, 52, 53, 54, 55, 56, 57, 59, 60, 61] (by decide +kernel) (by decide +kernel)
set_option maxRecDepth 20000 in
theorem gX8_posting_X1_postingAt : GoodIn wsX8_posting (wsV RX8 215 RX1 yX1_postingAt wsX1_postingAt) := goodIn_app (goodIn_of _ (by decide +kernel)) ggX8_posting_X1_postingAt
theorem dX8_posting_0 : decode cX8_posting 0 = .ok (.iload_n 1, 1) := by decide +kernel
theorem dX8_posting_1 : decode cX8_posting 1 = .ok (.bipush 30, 2) := by decide +kernel
theorem dX8_posting_3 : decode cX8_posting 3 = .ok (.invokestatic 60, 3) := by decide +kernel
theorem dX8_posting_6 : decode cX8_posting 6 = .ok (.aload_n 0, 1) := by decide +kernel
theorem dX8_posting_7 : decode cX8_posting 7 = .ok (.getfield 22, 3) := by decide +kernel
theorem dX8_posting_10 : decode cX8_posting 10 = .ok (.iload_n 1, 1) := by decide +kernel
theorem dX8_posting_11 : decode cX8_posting 11 = .ok (.iload_n 2, 1) := by decide +kernel
theorem dX8_posting_12 : decode cX8_posting 12 = .ok (.invokevirtual 215, 3) := by decide +kernel
theorem dX8_posting_15 : decode cX8_posting 15 = .ok (.astore_n 3, 1) := by decide +kernel
theorem dX8_posting_16 : decode cX8_posting 16 = .ok (.aload_n 3, 1) := by decide +kernel
theorem dX8_posting_17 : decode cX8_posting 17 = .ok (.ifnonnull 13, 3) := by decide +kernel
theorem dX8_posting_20 : decode cX8_posting 20 = .ok (.new 140, 3) := by decide +kernel
theorem dX8_posting_23 : decode cX8_posting 23 = .ok (.dup, 1) := by decide +kernel
theorem dX8_posting_24 : decode cX8_posting 24 = .ok (.ldc 219, 2) := by decide +kernel
theorem dX8_posting_26 : decode cX8_posting 26 = .ok (.invokespecial 144, 3) := by decide +kernel
theorem dX8_posting_29 : decode cX8_posting 29 = .ok (.athrow, 1) := by decide +kernel
theorem dX8_posting_30 : decode cX8_posting 30 = .ok (.aload_n 3, 1) := by decide +kernel
theorem dX8_posting_31 : decode cX8_posting 31 = .ok (.getfield 221, 3) := by decide +kernel
theorem dX8_posting_34 : decode cX8_posting 34 = .ok (.ireturn, 1) := by decide +kernel
set_option maxRecDepth 20000 in
theorem ggX8_weight_X8_requireRange : GoodIn wsX8_weight wsX8_requireRange := goodIn_ca (goodIn_r _ [4, 5, 6] (by decide +kernel) (by decide +kernel)) (goodIn_sub (fun _ h => List.mem_cons_of_mem _ (List.mem_append_right _ h)) (by decide +kernel))
set_option maxRecDepth 20000 in
theorem gX8_weight_X8_requireRange : GoodIn wsX8_weight (va_wsS RX8 60 yX8_requireRange wsX8_requireRange) := goodIn_app (goodIn_of _ (by decide +kernel)) ggX8_weight_X8_requireRange
set_option maxRecDepth 20000 in
theorem ggX8_weight_X8_weightOf : GoodIn wsX8_weight wsX8_weightOf := goodIn_r _ [10, 11, 12, 13, 14, 15, 16, 17, 18, 19, 20, 21, 22, 23, 24, 25, 26, 27, 28, 29, 30, 31, 32, 33, 34, 35, 36, 37, 38, 39, 40, 41, 42, 43, 44, 45, 46, 47, 48, 49, 50, 51, 52, 53, 54, 55, 56, 57, 58, 59, 60, 61, 62, 63, 64, 65] (by decide +kernel) (by decide +kernel)
set_option maxRecDepth 20000 in
theorem gX8_weight_X8_weightOf : GoodIn wsX8_weight (wsV RX8 222 RX8 yX8_weightOf wsX8_weightOf) := goodIn_app (goodIn_of _ (by decide +kernel)) ggX8_weight_X8_weightOf
theorem dX8_weight_0 : decode cX8_weight 0 = .ok (.iload_n 1, 1) := by decide +kernel
theorem dX8_weight_1 : decode cX8_weight 1 = .ok (.bipush 30, 2) := by decide +kernel
theorem dX8_weight_3 : decode cX8_weight 3 = .ok (.invokestatic 60, 3) := by decide +kernel
theorem dX8_weight_6 : decode cX8_weight 6 = .ok (.aload_n 0, 1) := by decide +kernel
theorem dX8_weight_7 : decode cX8_weight 7 = .ok (.iload_n 1, 1) := by decide +kernel
theorem dX8_weight_8 : decode cX8_weight 8 = .ok (.invokevirtual 222, 3) := by decide +kernel
theorem dX8_weight_11 : decode cX8_weight 11 = .ok (.freturn, 1) := by decide +kernel
set_option maxRecDepth 20000 in
theorem ggX8_word_X8_requireRange : GoodIn wsX8_word wsX8_requireRange := goodIn_ca (goodIn_r _ [8, 9, 10] (by decide +kernel) (by decide +kernel)) (goodIn_sub (fun _ h => List.mem_cons_of_mem _ (List.mem_append_left _ (List.mem_append_right _ h))) (by decide +kernel))
set_option maxRecDepth 20000 in
theorem gX8_word_X8_requireRange : GoodIn wsX8_word (va_wsS RX8 60 yX8_requireRange wsX8_requireRange) := goodIn_app (goodIn_of _ (by decide +kernel)) ggX8_word_X8_requireRange
set_option maxRecDepth 20000 in
theorem ggX8_word_X3_isEmpty : GoodIn wsX8_word wsX3_isEmpty := goodIn_r _ [15, 16, 32, 33, 34] (by decide +kernel) (by decide +kernel)
set_option maxRecDepth 20000 in
theorem gX8_word_X3_isEmpty : GoodIn wsX8_word (wsV RX8 226 RX3 yX3_isEmpty wsX3_isEmpty) := goodIn_app (goodIn_of _ (by decide +kernel)) ggX8_word_X3_isEmpty
set_option maxRecDepth 20000 in
theorem ggX8_word_X3_append : GoodIn wsX8_word wsX3_append := goodIn_ca (goodIn_r _ [20, 16, 21, 22, 32, 33, 34] (by decide +kernel) (by decide +kernel)) (goodIn_sub (fun _ h => List.mem_cons_of_mem _ (List.mem_append_right _ h)) (by decide +kernel))
set_option maxRecDepth 20000 in
theorem gX8_word_X3_append : GoodIn wsX8_word (wsV RX8 232 RX3 yX3_append wsX3_append) := goodIn_app (goodIn_of _ (by decide +kernel)) ggX8_word_X3_append
theorem dX8_word_0 : decode cX8_word 0 = .ok (.iload_n 1, 1) := by decide +kernel
theorem dX8_word_1 : decode cX8_word 1 = .ok (.bipush 30, 2) := by decide +kernel
theorem dX8_word_3 : decode cX8_word 3 = .ok (.invokestatic 60, 3) := by decide +kernel
theorem dX8_word_6 : decode cX8_word 6 = .ok (.aload_n 0, 1) := by decide +kernel
theorem dX8_word_7 : decode cX8_word 7 = .ok (.getfield 46, 3) := by decide +kernel
theorem dX8_word_10 : decode cX8_word 10 = .ok (.invokevirtual 226, 3) := by decide +kernel
theorem dX8_word_13 : decode cX8_word 13 = .ok (.istore_n 3, 1) := by decide +kernel
theorem dX8_word_14 : decode cX8_word 14 = .ok (.iload_n 3, 1) := by decide +kernel
theorem dX8_word_15 : decode cX8_word 15 = .ok (.ifCond .ne 9, 3) := by decide +kernel
theorem dX8_word_18 : decode cX8_word 18 = .ok (.iload_n 2, 1) := by decide +kernel
theorem dX8_word_19 : decode cX8_word 19 = .ok (.bipush 9, 2) := by decide +kernel
theorem dX8_word_21 : decode cX8_word 21 = .ok (.invokestatic 60, 3) := by decide +kernel
theorem dX8_word_24 : decode cX8_word 24 = .ok (.aload_n 0, 1) := by decide +kernel
theorem dX8_word_25 : decode cX8_word 25 = .ok (.getfield 46, 3) := by decide +kernel
theorem dX8_word_28 : decode cX8_word 28 = .ok (.getfield 227, 3) := by decide +kernel
theorem dX8_word_31 : decode cX8_word 31 = .ok (.iconst 4, 1) := by decide +kernel
theorem dX8_word_32 : decode cX8_word 32 = .ok (.if_icmp .lt 13, 3) := by decide +kernel
theorem dX8_word_35 : decode cX8_word 35 = .ok (.new 68, 3) := by decide +kernel
theorem dX8_word_38 : decode cX8_word 38 = .ok (.dup, 1) := by decide +kernel
theorem dX8_word_39 : decode cX8_word 39 = .ok (.ldc 230, 2) := by decide +kernel
theorem dX8_word_41 : decode cX8_word 41 = .ok (.invokespecial 72, 3) := by decide +kernel
theorem dX8_word_44 : decode cX8_word 44 = .ok (.athrow, 1) := by decide +kernel
theorem dX8_word_45 : decode cX8_word 45 = .ok (.aload_n 0, 1) := by decide +kernel
theorem dX8_word_46 : decode cX8_word 46 = .ok (.getfield 46, 3) := by decide +kernel
theorem dX8_word_49 : decode cX8_word 49 = .ok (.iload_n 1, 1) := by decide +kernel
theorem dX8_word_50 : decode cX8_word 50 = .ok (.iload_n 3, 1) := by decide +kernel
theorem dX8_word_51 : decode cX8_word 51 = .ok (.ifCond .eq 7, 3) := by decide +kernel
theorem dX8_word_54 : decode cX8_word 54 = .ok (.iconst 0, 1) := by decide +kernel
theorem dX8_word_55 : decode cX8_word 55 = .ok (.goto 4, 3) := by decide +kernel
theorem dX8_word_58 : decode cX8_word 58 = .ok (.iload_n 2, 1) := by decide +kernel
theorem dX8_word_59 : decode cX8_word 59 = .ok (.invokevirtual 232, 3) := by decide +kernel
theorem dX8_word_62 : decode cX8_word 62 = .ok (.aload_n 0, 1) := by decide +kernel
theorem dX8_word_63 : decode cX8_word 63 = .ok (.getfield 46, 3) := by decide +kernel
theorem dX8_word_66 : decode cX8_word 66 = .ok (.getfield 227, 3) := by decide +kernel
theorem dX8_word_69 : decode cX8_word 69 = .ok (.ireturn, 1) := by decide +kernel
set_option maxRecDepth 20000 in
theorem ggX8_wipe_X3_clear : GoodIn wsX8_wipe wsX3_clear := goodIn_r _ [7, 8, 18, 19, 20] (by decide +kernel) (by decide +kernel)
set_option maxRecDepth 20000 in
theorem gX8_wipe_X3_clear : GoodIn wsX8_wipe (wsV RX8 235 RX3 yX3_clear wsX3_clear) := goodIn_app (goodIn_of _ (by decide +kernel)) ggX8_wipe_X3_clear
theorem dX8_wipe_0 : decode cX8_wipe 0 = .ok (.aload_n 0, 1) := by decide +kernel
theorem dX8_wipe_1 : decode cX8_wipe 1 = .ok (.getfield 46, 3) := by decide +kernel
theorem dX8_wipe_4 : decode cX8_wipe 4 = .ok (.getfield 227, 3) := by decide +kernel
theorem dX8_wipe_7 : decode cX8_wipe 7 = .ok (.istore_n 1, 1) := by decide +kernel
theorem dX8_wipe_8 : decode cX8_wipe 8 = .ok (.aload_n 0, 1) := by decide +kernel
theorem dX8_wipe_9 : decode cX8_wipe 9 = .ok (.getfield 46, 3) := by decide +kernel
theorem dX8_wipe_12 : decode cX8_wipe 12 = .ok (.invokevirtual 235, 3) := by decide +kernel
theorem dX8_wipe_15 : decode cX8_wipe 15 = .ok (.iload_n 1, 1) := by decide +kernel
theorem dX8_wipe_16 : decode cX8_wipe 16 = .ok (.ireturn, 1) := by decide +kernel
set_option maxRecDepth 20000 in
theorem ggX8_hits_X8_requireMap : GoodIn wsX8_hits wsX8_requireMap := goodIn_ca (goodIn_r _ [8, 9, 10, 2, 11, 12, 13, 14, 15, 16, 104, 105, 106, 107, 108, 109, 110, 111, 112, 113, 114, 115] (by decide +kernel) (by decide +kernel)) (goodIn_sub (fun _ h => List.mem_cons_of_mem _ (List.mem_append_left _ (List.mem_append_right _ h))) (by decide +kernel))
set_option maxRecDepth 20000 in
theorem gX8_hits_X8_requireMap : GoodIn wsX8_hits (wsV RX8 238 RX8 yX8_requireMap wsX8_requireMap) := goodIn_app (goodIn_of _ (by decide +kernel)) ggX8_hits_X8_requireMap
set_option maxRecDepth 20000 in
theorem ggX8_hits_Jx4a65c_size_8abf5 : GoodIn wsX8_hits wsJx4a65c_size_8abf5 := goodIn_r _ [21, 22, 116, 117, 118] (by decide +kernel) (by decide +kernel)
set_option maxRecDepth 20000 in
theorem gX8_hits_Jx4a65c_size_8abf5 : GoodIn wsX8_hits (wsV RX8 64 RJx4a65c yJx4a65c_size_8abf5 wsJx4a65c_size_8abf5) := goodIn_app (goodIn_of _ (by decide +kernel)) ggX8_hits_Jx4a65c_size_8abf5
set_option maxRecDepth 20000 in
theorem ggX8_hits_Jx4a65c_get_915e3 : GoodIn wsX8_hits wsJx4a65c_get_915e3 := goodIn_r _ [26, 22, 27, 28, 29, 30, 31, 32, 33, 34, 35, 36, 37, 20, 38, 39, 116, 117, 118] (by decide +kernel) (by decide +kernel)
set_option maxRecDepth 20000 in
theorem gX8_hits_Jx4a65c_get_915e3 : GoodIn wsX8_hits (wsV RX8 114 RJx4a65c yJx4a65c_get_915e3 wsJx4a65c_get_915e3) := goodIn_app (goodIn_of _ (by decide +kernel)) ggX8_hits_Jx4a65c_get_915e3
set_option maxRecDepth 20000 in
theorem ggX8_hits_X8_isHit : GoodIn wsX8_hits wsX8_isHit := goodIn_ca (goodIn_r _ [43, 44, 45, 46, 7, 47, 48, 49, 50, 51, 52, 53, 54, 55, 56, 57, 58, 59, 60, 61, 62, 63, 64, 65, 14, 66, 67, 68, 69, 70, 71, 72, 73, 74, 75, 76, 77, 18, 19, 20, 21, 22, 78, 24, 25, 26, 27, 28, 29, 30, 31, 32, 33, 34, 35, 36, 37, 38, 39, 79, 80, 81, 82, 83, 84, 85, 86, 87, 88, 89, 90, 91, 92, 93, 94, 95, 96, 97, 98, 99, 100, 101, 102, 103, 104, 105, 106, 107, 108, 109, 110, 111, 112, 119, 120, 121, 122, 123, 124, 125, 126, 127, 113, 114, 115, 128, 129, 130, 131, 132, 133, 134, 116, 117, 118] (by decide +kernel) (by decide +kernel)) (goodIn_sub (fun _ h => List.mem_cons_of_mem _ (List.mem_append_right _ h)) (by decide +kernel))
set_option maxRecDepth 20000 in
theorem gX8_hits_X8_isHit : GoodIn wsX8_hits (wsV RX8 241 RX8 yX8_isHit wsX8_isHit) := goodIn_app (goodIn_of _ (by decide +kernel)) ggX8_hits_X8_isHit
theorem dX8_hits_0 : decode cX8_hits 0 = .ok (.aload_n 0, 1) := by decide +kernel
theorem dX8_hits_1 : decode cX8_hits 1 = .ok (.invokevirtual 238, 3) := by decide +kernel
theorem dX8_hits_4 : decode cX8_hits 4 = .ok (.iconst 0, 1) := by decide +kernel
theorem dX8_hits_5 : decode cX8_hits 5 = .ok (.istore_n 1, 1) := by decide +kernel
theorem dX8_hits_6 : decode cX8_hits 6 = .ok (.iconst 0, 1) := by decide +kernel
theorem dX8_hits_7 : decode cX8_hits 7 = .ok (.istore_n 2, 1) := by decide +kernel
theorem dX8_hits_8 : decode cX8_hits 8 = .ok (.iload_n 2, 1) := by decide +kernel
theorem dX8_hits_9 : decode cX8_hits 9 = .ok (.aload_n 0, 1) := by decide +kernel
theorem dX8_hits_10 : decode cX8_hits 10 = .ok (.getfield 10, 3) := by decide +kernel
theorem dX8_hits_13 : decode cX8_hits 13 = .ok (.invokevirtual 64, 3) := by decide +kernel
theorem dX8_hits_16 : decode cX8_hits 16 = .ok (.if_icmp .ge 34, 3) := by decide +kernel
theorem dX8_hits_19 : decode cX8_hits 19 = .ok (.aload_n 0, 1) := by decide +kernel
theorem dX8_hits_20 : decode cX8_hits 20 = .ok (.aload_n 0, 1) := by decide +kernel
theorem dX8_hits_21 : decode cX8_hits 21 = .ok (.getfield 46, 3) := by decide +kernel
theorem dX8_hits_24 : decode cX8_hits 24 = .ok (.aload_n 0, 1) := by decide +kernel
theorem dX8_hits_25 : decode cX8_hits 25 = .ok (.getfield 10, 3) := by decide +kernel
theorem dX8_hits_28 : decode cX8_hits 28 = .ok (.iload_n 2, 1) := by decide +kernel
theorem dX8_hits_29 : decode cX8_hits 29 = .ok (.invokevirtual 114, 3) := by decide +kernel
theorem dX8_hits_32 : decode cX8_hits 32 = .ok (.checkcast 75, 3) := by decide +kernel
theorem dX8_hits_35 : decode cX8_hits 35 = .ok (.invokevirtual 241, 3) := by decide +kernel
theorem dX8_hits_38 : decode cX8_hits 38 = .ok (.ifCond .eq 6, 3) := by decide +kernel
theorem dX8_hits_41 : decode cX8_hits 41 = .ok (.iinc 1 1, 3) := by decide +kernel
theorem dX8_hits_44 : decode cX8_hits 44 = .ok (.iinc 2 1, 3) := by decide +kernel
theorem dX8_hits_47 : decode cX8_hits 47 = .ok (.goto (-39), 3) := by decide +kernel
theorem dX8_hits_50 : decode cX8_hits 50 = .ok (.iload_n 1, 1) := by decide +kernel
theorem dX8_hits_51 : decode cX8_hits 51 = .ok (.ireturn, 1) := by decide +kernel
set_option maxRecDepth 20000 in
theorem ggX8_hit_X8_shipOf : GoodIn wsX8_hit wsX8_shipOf := goodIn_ca (goodIn_r _ [9, 10, 11, 12, 13, 14, 15, 16, 17, 18, 19, 20, 21, 22, 23, 24, 25, 26, 27, 28, 29, 30, 31, 32, 33, 34, 35, 36, 169, 170, 171, 172, 173, 174, 175, 176, 177, 178, 179, 180] (by decide +kernel) (by decide +kernel)) (goodIn_sub (fun _ h => List.mem_cons_of_mem _ (List.mem_append_left _ (List.mem_append_left _ (List.mem_append_right _ h)))) (by decide +kernel))
set_option maxRecDepth 20000 in
theorem gX8_hit_X8_shipOf : GoodIn wsX8_hit (wsV RX8 121 RX8 yX8_shipOf wsX8_shipOf) := goodIn_app (goodIn_of _ (by decide +kernel)) ggX8_hit_X8_shipOf
set_option maxRecDepth 20000 in
theorem ggX8_hit_X8_requireMap : GoodIn wsX8_hit wsX8_requireMap := goodIn_ca (goodIn_r _ [40, 41, 42, 43, 44, 45, 46, 47, 48, 49, 169, 170, 171, 172, 173, 174, 175, 176, 177, 181, 182, 183] (by decide +kernel) (by decide +kernel)) (goodIn_sub (fun _ h => List.mem_cons_of_mem _ (List.mem_append_left _ (List.mem_append_right _ h))) (by decide +kernel))
set_option maxRecDepth 20000 in
theorem gX8_hit_X8_requireMap : GoodIn wsX8_hit (wsV RX8 238 RX8 yX8_requireMap wsX8_requireMap) := goodIn_app (goodIn_of _ (by decide +kernel)) ggX8_hit_X8_requireMap
set_option maxRecDepth 20000 in
theorem ggX8_hit_X8_hitRanked : GoodIn wsX8_hit wsX8_hitRanked := goodIn_ca (goodIn_r _ [53, 54, 55, 56, 57, 58, 59, 8, 60, 43, 61, 62, 63, 64, 65, 66, 67, 68, 47, 69, 70, 71, 72, 73, 74, 75, 14, 15, 16, 17, 18, 19, 76, 77, 78, 79, 80, 81, 82, 83, 84, 85, 86, 21, 22, 23, 24, 25, 26, 27, 28, 29, 30, 31, 32, 33, 34, 35, 36, 20, 87, 88, 89, 90, 91, 92, 4, 93, 94, 95, 96, 97, 98, 99, 100, 101, 102, 103, 104, 105, 106, 107, 108, 109, 110, 111, 112, 113, 114, 115, 116, 117, 118, 119, 120, 121, 122, 123, 124, 125, 126, 127, 128, 129, 130, 131, 132, 133, 134, 135, 136, 137, 138, 139, 140, 141, 142, 143, 144, 145, 146, 147, 148, 149, 150, 151, 152, 153, 154, 155, 156, 157, 169, 170, 171, 172, 173, 174, 175, 176, 177, 163, 164, 165, 166, 167, 168, 181, 182, 183, 178, 179, 180, 184, 185, 186, 187, 188, 189, 190, 191, 192, 193] (by decide +kernel) (by decide +kernel)) (goodIn_sub (fun _ h => List.mem_cons_of_mem _ (List.mem_append_right _ h)) (by decide +kernel))
set_option maxRecDepth 20000 in
theorem gX8_hit_X8_hitRanked : GoodIn wsX8_hit (wsV RX8 249 RX8 yX8_hitRanked wsX8_hitRanked) := goodIn_app (goodIn_of _ (by decide +kernel)) ggX8_hit_X8_hitRanked
theorem dX8_hit_0 : decode cX8_hit 0 = .ok (.aload_n 0, 1) := by decide +kernel
theorem dX8_hit_1 : decode cX8_hit 1 = .ok (.iload_n 1, 1) := by decide +kernel
theorem dX8_hit_2 : decode cX8_hit 2 = .ok (.invokevirtual 121, 3) := by decide +kernel
theorem dX8_hit_5 : decode cX8_hit 5 = .ok (.astore_n 3, 1) := by decide +kernel
theorem dX8_hit_6 : decode cX8_hit 6 = .ok (.aload_n 0, 1) := by decide +kernel
theorem dX8_hit_7 : decode cX8_hit 7 = .ok (.invokevirtual 238, 3) := by decide +kernel
theorem dX8_hit_10 : decode cX8_hit 10 = .ok (.aload_n 0, 1) := by decide +kernel
theorem dX8_hit_11 : decode cX8_hit 11 = .ok (.iload_n 2, 1) := by decide +kernel
theorem dX8_hit_12 : decode cX8_hit 12 = .ok (.aload_n 3, 1) := by decide +kernel
theorem dX8_hit_13 : decode cX8_hit 13 = .ok (.getfield 245, 3) := by decide +kernel
theorem dX8_hit_16 : decode cX8_hit 16 = .ok (.invokevirtual 249, 3) := by decide +kernel
theorem dX8_hit_19 : decode cX8_hit 19 = .ok (.astore 4, 2) := by decide +kernel
theorem dX8_hit_21 : decode cX8_hit 21 = .ok (.aload 4, 2) := by decide +kernel
theorem dX8_hit_23 : decode cX8_hit 23 = .ok (.ifnonnull 13, 3) := by decide +kernel
theorem dX8_hit_26 : decode cX8_hit 26 = .ok (.new 140, 3) := by decide +kernel
theorem dX8_hit_29 : decode cX8_hit 29 = .ok (.dup, 1) := by decide +kernel
theorem dX8_hit_30 : decode cX8_hit 30 = .ok (.ldc 253, 2) := by decide +kernel
theorem dX8_hit_32 : decode cX8_hit 32 = .ok (.invokespecial 144, 3) := by decide +kernel
theorem dX8_hit_35 : decode cX8_hit 35 = .ok (.athrow, 1) := by decide +kernel
theorem dX8_hit_36 : decode cX8_hit 36 = .ok (.aload 4, 2) := by decide +kernel
theorem dX8_hit_38 : decode cX8_hit 38 = .ok (.getfield 84, 3) := by decide +kernel
theorem dX8_hit_41 : decode cX8_hit 41 = .ok (.ireturn, 1) := by decide +kernel
set_option maxRecDepth 20000 in
theorem ggX8_count_X8_isleOf : GoodIn wsX8_count wsX8_isleOf := goodIn_ca (goodIn_r _ [6, 7, 8, 9, 10, 11, 12, 13, 14, 15, 16, 17, 18, 19, 20, 21, 22, 23, 24, 25, 26, 27, 28, 29, 30, 31, 32, 33, 106, 107, 108, 109, 110, 111, 112, 113, 114, 115, 116, 117] (by decide +kernel) (by decide +kernel)) (goodIn_sub (fun _ h => List.mem_cons_of_mem _ (List.mem_append_left _ (List.mem_append_left _ (List.mem_append_right _ h)))) (by decide +kernel))
set_option maxRecDepth 20000 in
theorem gX8_count_X8_isleOf : GoodIn wsX8_count (wsV RX8 88 RX8 yX8_isleOf wsX8_isleOf) := goodIn_app (goodIn_of _ (by decide +kernel)) ggX8_count_X8_isleOf
set_option maxRecDepth 20000 in
theorem ggX8_count_X8_requireMap : GoodIn wsX8_count wsX8_requireMap := goodIn_ca (goodIn_r _ [37, 38, 39, 1, 40, 41, 42, 43, 44, 45, 106, 107, 108, 109, 110, 111, 112, 113, 114, 118, 119, 120] (by decide +kernel) (by decide +kernel)) (goodIn_sub (fun _ h => List.mem_cons_of_mem _ (List.mem_append_left _ (List.mem_append_right _ h))) (by decide +kernel))
set_option maxRecDepth 20000 in
theorem gX8_count_X8_requireMap : GoodIn wsX8_count (wsV RX8 238 RX8 yX8_requireMap wsX8_requireMap) := goodIn_app (goodIn_of _ (by decide +kernel)) ggX8_count_X8_requireMap
set_option maxRecDepth 20000 in
theorem ggX8_count_X8_choicesOn : GoodIn wsX8_count wsX8_choicesOn := goodIn_ca (goodIn_r _ [49, 50, 51, 52, 53, 54, 55, 56, 57, 58, 59, 60, 61, 62, 63, 64, 65, 66, 67, 43, 68, 69, 70, 71, 72, 73, 74, 75, 76, 77, 78, 79, 12, 13, 14, 15, 16, 80, 18, 19, 20, 21, 22, 23, 24, 25, 26, 27, 28, 29, 30, 31, 32, 33, 81, 82, 83, 84, 85, 86, 87, 88, 89, 90, 91, 92, 93, 94, 95, 96, 97, 98, 99, 100, 101, 102, 103, 104, 105, 106, 107, 108, 109, 110, 111, 112, 113, 114, 121, 122, 123, 124, 125, 126, 127, 128, 129, 118, 119, 120, 130, 131, 132, 133, 134, 135, 136, 115, 116, 117] (by decide +kernel) (by decide +kernel)) (goodIn_sub (fun _ h => List.mem_cons_of_mem _ (List.mem_append_right _ h)) (by decide +kernel))
set_option maxRecDepth 20000 in
theorem gX8_count_X8_choicesOn : GoodIn wsX8_count (wsV RX8 255 RX8 yX8_choicesOn wsX8_choicesOn) := goodIn_app (goodIn_of _ (by decide +kernel)) ggX8_count_X8_choicesOn
theorem dX8_count_0 : decode cX8_count 0 = .ok (.aload_n 0, 1) := by decide +kernel
theorem dX8_count_1 : decode cX8_count 1 = .ok (.iload_n 1, 1) := by decide +kernel
theorem dX8_count_2 : decode cX8_count 2 = .ok (.invokevirtual 88, 3) := by decide +kernel
theorem dX8_count_5 : decode cX8_count 5 = .ok (.astore_n 2, 1) := by decide +kernel
theorem dX8_count_6 : decode cX8_count 6 = .ok (.aload_n 0, 1) := by decide +kernel
theorem dX8_count_7 : decode cX8_count 7 = .ok (.invokevirtual 238, 3) := by decide +kernel
theorem dX8_count_10 : decode cX8_count 10 = .ok (.aload_n 0, 1) := by decide +kernel
theorem dX8_count_11 : decode cX8_count 11 = .ok (.aload_n 2, 1) := by decide +kernel
theorem dX8_count_12 : decode cX8_count 12 = .ok (.aload_n 0, 1) := by decide +kernel
theorem dX8_count_13 : decode cX8_count 13 = .ok (.getfield 46, 3) := by decide +kernel
theorem dX8_count_16 : decode cX8_count 16 = .ok (.invokevirtual 255, 3) := by decide +kernel
theorem dX8_count_19 : decode cX8_count 19 = .ok (.ireturn, 1) := by decide +kernel
set_option maxRecDepth 20000 in
theorem ggX8_scoreBits_X8_isleOf : GoodIn wsX8_scoreBits wsX8_isleOf := goodIn_ca (goodIn_r _ [6, 7, 8, 9, 10, 11, 12, 13, 14, 15, 16, 17, 18, 19, 20, 21, 22, 23, 24, 25, 26, 27, 28, 29, 30, 31, 32, 33, 131, 132, 133, 134, 135, 136, 137, 138, 139, 140, 141, 142] (by decide +kernel) (by decide +kernel)) (goodIn_sub (fun _ h => List.mem_cons_of_mem _ (List.mem_append_left _ (List.mem_append_left _ (List.mem_append_right _ h)))) (by decide +kernel))
set_option maxRecDepth 20000 in
theorem gX8_scoreBits_X8_isleOf : GoodIn wsX8_scoreBits (wsV RX8 88 RX8 yX8_isleOf wsX8_isleOf) := goodIn_app (goodIn_of _ (by decide +kernel)) ggX8_scoreBits_X8_isleOf
set_option maxRecDepth 20000 in
theorem ggX8_scoreBits_X8_requireMap : GoodIn wsX8_scoreBits wsX8_requireMap := goodIn_ca (goodIn_r _ [37, 38, 39, 1, 40, 41, 42, 43, 44, 45, 131, 132, 133, 134, 135, 136, 137, 138, 139, 143, 144, 145] (by decide +kernel) (by decide +kernel)) (goodIn_sub (fun _ h => List.mem_cons_of_mem _ (List.mem_append_left _ (List.mem_append_right _ h))) (by decide +kernel))
set_option maxRecDepth 20000 in
theorem gX8_scoreBits_X8_requireMap : GoodIn wsX8_scoreBits (wsV RX8 238 RX8 yX8_requireMap wsX8_requireMap) := goodIn_app (goodIn_of _ (by decide +kernel)) ggX8_scoreBits_X8_requireMap
set_option maxRecDepth 20000 in
theorem ggX8_scoreBits_X8_choicesOn : GoodIn wsX8_scoreBits wsX8_choicesOn := goodIn_ca (goodIn_r _ [49, 50, 51, 52, 53, 54, 55, 56, 57, 58, 59, 60, 61, 62, 63, 64, 65, 66, 67, 43, 68, 69, 70, 71, 72, 73, 74, 75, 76, 77, 78, 79, 12, 13, 14, 15, 16, 80, 18, 19, 20, 21, 22, 23, 24, 25, 26, 27, 28, 29, 30, 31, 32, 33, 81, 82, 83, 84, 85, 86, 87, 88, 89, 90, 91, 92, 93, 94, 95, 96, 97, 98, 99, 100, 101, 102, 103, 104, 105, 131, 132, 133, 134, 135, 136, 137, 138, 139, 146, 147, 148, 149, 150, 151, 152, 153, 154, 143, 144, 145, 155, 156, 157, 158, 159, 160, 161, 140, 141, 142] (by decide +kernel) (by decide +kernel)) (goodIn_sub (fun _ h => List.mem_cons_of_mem _ (List.mem_append_right _ h)) (by decide +kernel))
set_option maxRecDepth 20000 in
theorem gX8_scoreBits_X8_choicesOn : GoodIn wsX8_scoreBits (wsV RX8 255 RX8 yX8_choicesOn wsX8_choicesOn) := goodIn_app (goodIn_of _ (by decide +kernel)) ggX8_scoreBits_X8_choicesOn
set_option maxRecDepth 20000 in
theorem ggX8_scoreBits_X8_weightOfMap : GoodIn wsX8_scoreBits wsX8_weightOfMap := goodIn_ca (goodIn_r _ [109, 110, 111, 66, 67, 43, 68, 69, 112, 113, 114, 5, 115, 9, 51, 11, 12, 13, 14, 15, 16, 116, 117, 118, 119, 120, 121, 122, 123, 124, 125, 126, 18, 19, 20, 21, 22, 23, 24, 25, 26, 27, 28, 29, 30, 31, 32, 33, 143, 144, 145, 131, 132, 133, 134, 135, 136, 137, 138, 139, 140, 141, 142, 146, 155, 156, 157, 158, 159, 160, 161] (by decide +kernel) (by decide +kernel)) (goodIn_sub (fun _ h => List.mem_cons_of_mem _ (List.mem_append_right _ h)) (by decide +kernel))
set_option maxRecDepth 20000 in
theorem gX8_scoreBits_X8_weightOfMap : GoodIn wsX8_scoreBits (wsV RX8 259 RX8 yX8_weightOfMap wsX8_weightOfMap) := goodIn_app (goodIn_of _ (by decide +kernel)) ggX8_scoreBits_X8_weightOfMap
set_option maxRecDepth 20000 in
theorem ggX8_scoreBits_X8_bitsOf : GoodIn wsX8_scoreBits wsX8_bitsOf := goodIn_r _ [129, 130] (by decide +kernel) (by decide +kernel)
set_option maxRecDepth 20000 in
theorem gX8_scoreBits_X8_bitsOf : GoodIn wsX8_scoreBits (va_wsS RX8 263 yX8_bitsOf wsX8_bitsOf) := goodIn_app (goodIn_of _ (by decide +kernel)) ggX8_scoreBits_X8_bitsOf
theorem dX8_scoreBits_0 : decode cX8_scoreBits 0 = .ok (.aload_n 0, 1) := by decide +kernel
theorem dX8_scoreBits_1 : decode cX8_scoreBits 1 = .ok (.iload_n 1, 1) := by decide +kernel
theorem dX8_scoreBits_2 : decode cX8_scoreBits 2 = .ok (.invokevirtual 88, 3) := by decide +kernel
theorem dX8_scoreBits_5 : decode cX8_scoreBits 5 = .ok (.astore_n 2, 1) := by decide +kernel
theorem dX8_scoreBits_6 : decode cX8_scoreBits 6 = .ok (.aload_n 0, 1) := by decide +kernel
theorem dX8_scoreBits_7 : decode cX8_scoreBits 7 = .ok (.invokevirtual 238, 3) := by decide +kernel
theorem dX8_scoreBits_10 : decode cX8_scoreBits 10 = .ok (.aload_n 0, 1) := by decide +kernel
theorem dX8_scoreBits_11 : decode cX8_scoreBits 11 = .ok (.aload_n 2, 1) := by decide +kernel
theorem dX8_scoreBits_12 : decode cX8_scoreBits 12 = .ok (.aload_n 0, 1) := by decide +kernel
theorem dX8_scoreBits_13 : decode cX8_scoreBits 13 = .ok (.getfield 46, 3) := by decide +kernel
theorem dX8_scoreBits_16 : decode cX8_scoreBits 16 = .ok (.invokevirtual 255, 3) := by decide +kernel
theorem dX8_scoreBits_19 : decode cX8_scoreBits 19 = .ok (.istore_n 3, 1) := by decide +kernel
theorem dX8_scoreBits_20 : decode cX8_scoreBits 20 = .ok (.iload_n 3, 1) := by decide +kernel
theorem dX8_scoreBits_21 : decode cX8_scoreBits 21 = .ok (.ifCond .ne 7, 3) := by decide +kernel
theorem dX8_scoreBits_24 : decode cX8_scoreBits 24 = .ok (.iconst 0, 1) := by decide +kernel
theorem dX8_scoreBits_25 : decode cX8_scoreBits 25 = .ok (.goto 17, 3) := by decide +kernel
theorem dX8_scoreBits_28 : decode cX8_scoreBits 28 = .ok (.aload_n 0, 1) := by decide +kernel
theorem dX8_scoreBits_29 : decode cX8_scoreBits 29 = .ok (.aload_n 0, 1) := by decide +kernel
theorem dX8_scoreBits_30 : decode cX8_scoreBits 30 = .ok (.getfield 46, 3) := by decide +kernel
theorem dX8_scoreBits_33 : decode cX8_scoreBits 33 = .ok (.invokevirtual 259, 3) := by decide +kernel
theorem dX8_scoreBits_36 : decode cX8_scoreBits 36 = .ok (.iload_n 3, 1) := by decide +kernel
theorem dX8_scoreBits_37 : decode cX8_scoreBits 37 = .ok (.i2f, 1) := by decide +kernel
theorem dX8_scoreBits_38 : decode cX8_scoreBits 38 = .ok (.fmul, 1) := by decide +kernel
theorem dX8_scoreBits_39 : decode cX8_scoreBits 39 = .ok (.invokestatic 263, 3) := by decide +kernel
theorem dX8_scoreBits_42 : decode cX8_scoreBits 42 = .ok (.ireturn, 1) := by decide +kernel
set_option maxRecDepth 20000 in
theorem ggX8_sail_X8_shipOf : GoodIn wsX8_sail wsX8_shipOf := goodIn_ca (goodIn_r _ [13, 14, 15, 16, 17, 18, 19, 20, 21, 22, 23, 24, 25, 26, 27, 28, 29, 30, 31, 32, 33, 34, 35, 36, 37, 38, 39, 40, 342, 343, 344, 345, 346, 347, 348, 349, 350, 357, 358, 359] (by decide +kernel) (by decide +kernel)) (goodIn_sub (fun _ h => List.mem_cons_of_mem _ (List.mem_append_left _ (List.mem_append_left _ (List.mem_append_right _ h)))) (by decide +kernel))
set_option maxRecDepth 20000 in
theorem gX8_sail_X8_shipOf : GoodIn wsX8_sail (wsV RX8 121 RX8 yX8_shipOf wsX8_shipOf) := goodIn_app (goodIn_of _ (by decide +kernel)) ggX8_sail_X8_shipOf
set_option maxRecDepth 20000 in
theorem ggX8_sail_X8_requireMap : GoodIn wsX8_sail wsX8_requireMap := goodIn_ca (goodIn_r _ [44, 45, 46, 7, 47, 48, 49, 50, 51, 52, 342, 343, 344, 345, 346, 347, 348, 349, 350, 360, 361, 362] (by decide +kernel) (by decide +kernel)) (goodIn_sub (fun _ h => List.mem_cons_of_mem _ (List.mem_append_left _ (List.mem_append_right _ h))) (by decide +kernel))
set_option maxRecDepth 20000 in
theorem gX8_sail_X8_requireMap : GoodIn wsX8_sail (wsV RX8 238 RX8 yX8_requireMap wsX8_requireMap) := goodIn_app (goodIn_of _ (by decide +kernel)) ggX8_sail_X8_requireMap
set_option maxRecDepth 20000 in
theorem ggX8_sail_X8_hitRanked : GoodIn wsX8_sail wsX8_hitRanked := goodIn_ca (goodIn_r _ [56, 57, 58, 59, 60, 61, 62, 12, 63, 7, 64, 65, 66, 67, 68, 69, 70, 71, 50, 72, 73, 74, 75, 76, 77, 78, 18, 19, 20, 21, 22, 23, 79, 80, 81, 82, 83, 84, 85, 86, 87, 88, 89, 25, 26, 27, 28, 29, 30, 31, 32, 33, 34, 35, 36, 37, 38, 39, 40, 24, 90, 91, 92, 93, 94, 95, 8, 96, 97, 98, 99, 100, 101, 102, 103, 104, 105, 106, 107, 108, 109, 110, 111, 112, 113, 114, 115, 116, 117, 118, 119, 120, 121, 122, 123, 124, 125, 126, 127, 128, 129, 130, 131, 132, 133, 134, 135, 136, 137, 138, 139, 140, 141, 142, 143, 144, 145, 146, 147, 148, 149, 150, 151, 152, 153, 154, 155, 156, 157, 158, 159, 160, 342, 343, 344, 345, 346, 347, 348, 349, 350, 351, 352, 353, 354, 355, 356, 360, 361, 362, 357, 358, 359, 363, 364, 365, 366, 367, 368, 369, 370, 371, 372] (by decide +kernel) (by decide +kernel)) (goodIn_sub (fun _ h => List.mem_cons_of_mem _ (List.mem_append_right _ h)) (by decide +kernel))
set_option maxRecDepth 20000 in
theorem gX8_sail_X8_hitRanked : GoodIn wsX8_sail (wsV RX8 249 RX8 yX8_hitRanked wsX8_hitRanked) := goodIn_app (goodIn_of _ (by decide +kernel)) ggX8_sail_X8_hitRanked
set_option maxRecDepth 20000 in
theorem ggX8_sail_X8_leaveCause : GoodIn wsX8_sail wsX8_leaveCause := goodIn_r _ [164, 165, 166, 167, 168, 169, 170, 171, 172, 173, 174, 175, 176, 177, 178, 179, 180, 181, 182, 183, 184, 185, 186, 187, 188, 189, 190, 191, 192, 193, 194, 195, 196, 197, 198, 199, 200, 125, 201, 202, 203, 204, 205, 206, 207, 105, 208, 209, 210, 211, 212, 213, 214, 215, 216, 124, 126, 217, 128, 129, 130, 218, 219, 220, 221, 222, 223, 224, 225, 226, 227, 228, 229, 230, 231, 232, 233, 234, 235, 236, 237, 238, 239, 240, 241, 242, 243, 244, 245, 246, 247, 248, 249, 250, 251, 252, 253, 254, 255, 256, 257, 258, 259, 260, 261, 262, 263, 264, 265, 266, 267, 268, 269, 270, 271, 272, 273, 274, 275, 276, 277, 278, 279, 280, 281, 282, 283, 284, 285, 34, 286, 287, 288, 289, 290, 291, 292, 293, 294, 295, 296, 297, 298, 299, 300, 301, 302, 33, 35, 342, 343, 344, 345, 346, 347, 348, 349, 350, 373, 374, 375, 376, 377, 378, 379, 380, 381, 382, 383, 384, 385, 386, 387, 388] (by decide +kernel) (by decide +kernel)
set_option maxRecDepth 20000 in
theorem gX8_sail_X8_leaveCause : GoodIn wsX8_sail (wsV RX8 188 RX8 yX8_leaveCause wsX8_leaveCause) := goodIn_app (goodIn_of _ (by decide +kernel)) ggX8_sail_X8_leaveCause
set_option maxRecDepth 20000 in
theorem ggX8_sail_X2_squareTo : GoodIn wsX8_sail wsX2_squareTo := goodIn_r _ [158, 159, 160, 351, 352, 353, 354, 355, 356] (by decide +kernel) (by decide +kernel)
set_option maxRecDepth 20000 in
theorem gX8_sail_X2_squareTo : GoodIn wsX8_sail (wsV RX8 269 RX2 yX2_squareTo wsX2_squareTo) := goodIn_app (goodIn_of _ (by decide +kernel)) ggX8_sail_X2_squareTo
set_option maxRecDepth 20000 in
theorem ggX8_sail_X8_rootOf : GoodIn wsX8_sail wsX8_rootOf := goodIn_r _ [306] (by decide +kernel) (by decide +kernel)
set_option maxRecDepth 20000 in
theorem gX8_sail_X8_rootOf : GoodIn wsX8_sail (va_wsS RX8 273 yX8_rootOf wsX8_rootOf) := goodIn_app (goodIn_of _ (by decide +kernel)) ggX8_sail_X8_rootOf
set_option maxRecDepth 20000 in
theorem ggX8_sail_X6_sailTo : GoodIn wsX8_sail wsX6_sailTo := goodIn_ca (goodIn_r _ [311, 312, 313, 314, 315, 316, 317, 318, 310, 319, 320, 321, 124, 125, 126, 322, 323, 324, 50, 325, 52, 326, 327, 328, 329, 330, 70, 71, 72, 73, 331, 132, 133, 134, 135, 332, 333, 334, 335, 337, 338, 339, 340, 341, 360, 361, 362] (by decide +kernel) (by decide +kernel)) (goodIn_sub (fun _ h => List.mem_cons_of_mem _ (List.mem_append_right _ h)) (by decide +kernel))
set_option maxRecDepth 20000 in
theorem gX8_sail_X6_sailTo : GoodIn wsX8_sail (wsV RX8 276 RX6 yX6_sailTo wsX6_sailTo) := goodIn_app (goodIn_of _ (by decide +kernel)) ggX8_sail_X6_sailTo
set_option maxRecDepth 20000 in
theorem ggX8_sail_X3_clear : GoodIn wsX8_sail wsX3_clear := goodIn_r _ [329, 52, 360, 361, 362] (by decide +kernel) (by decide +kernel)
set_option maxRecDepth 20000 in
theorem gX8_sail_X3_clear : GoodIn wsX8_sail (wsV RX8 235 RX3 yX3_clear wsX3_clear) := goodIn_app (goodIn_of _ (by decide +kernel)) ggX8_sail_X3_clear
theorem dX8_sail_0 : decode cX8_sail 0 = .ok (.aload_n 0, 1) := by decide +kernel
theorem dX8_sail_1 : decode cX8_sail 1 = .ok (.iload_n 1, 1) := by decide +kernel
theorem dX8_sail_2 : decode cX8_sail 2 = .ok (.invokevirtual 121, 3) := by decide +kernel
theorem dX8_sail_5 : decode cX8_sail 5 = .ok (.astore_n 2, 1) := by decide +kernel
theorem dX8_sail_6 : decode cX8_sail 6 = .ok (.aload_n 0, 1) := by decide +kernel
theorem dX8_sail_7 : decode cX8_sail 7 = .ok (.invokevirtual 238, 3) := by decide +kernel
theorem dX8_sail_10 : decode cX8_sail 10 = .ok (.aload_n 0, 1) := by decide +kernel
theorem dX8_sail_11 : decode cX8_sail 11 = .ok (.iconst 0, 1) := by decide +kernel
theorem dX8_sail_12 : decode cX8_sail 12 = .ok (.aload_n 2, 1) := by decide +kernel
theorem dX8_sail_13 : decode cX8_sail 13 = .ok (.getfield 245, 3) := by decide +kernel
theorem dX8_sail_16 : decode cX8_sail 16 = .ok (.invokevirtual 249, 3) := by decide +kernel
theorem dX8_sail_19 : decode cX8_sail 19 = .ok (.astore_n 3, 1) := by decide +kernel
theorem dX8_sail_20 : decode cX8_sail 20 = .ok (.aload_n 3, 1) := by decide +kernel
theorem dX8_sail_21 : decode cX8_sail 21 = .ok (.ifnonnull 20, 3) := by decide +kernel
theorem dX8_sail_24 : decode cX8_sail 24 = .ok (.aload_n 0, 1) := by decide +kernel
theorem dX8_sail_25 : decode cX8_sail 25 = .ok (.bipush 104, 2) := by decide +kernel
theorem dX8_sail_27 : decode cX8_sail 27 = .ok (.invokevirtual 188, 3) := by decide +kernel
theorem dX8_sail_30 : decode cX8_sail 30 = .ok (.new 140, 3) := by decide +kernel
theorem dX8_sail_33 : decode cX8_sail 33 = .ok (.dup, 1) := by decide +kernel
theorem dX8_sail_34 : decode cX8_sail 34 = .ok (.ldc_w 267, 3) := by decide +kernel
theorem dX8_sail_37 : decode cX8_sail 37 = .ok (.invokespecial 144, 3) := by decide +kernel
theorem dX8_sail_40 : decode cX8_sail 40 = .ok (.athrow, 1) := by decide +kernel
theorem dX8_sail_41 : decode cX8_sail 41 = .ok (.aload_n 3, 1) := by decide +kernel
theorem dX8_sail_42 : decode cX8_sail 42 = .ok (.aload_n 2, 1) := by decide +kernel
theorem dX8_sail_43 : decode cX8_sail 43 = .ok (.getfield 245, 3) := by decide +kernel
theorem dX8_sail_46 : decode cX8_sail 46 = .ok (.invokevirtual 269, 3) := by decide +kernel
theorem dX8_sail_49 : decode cX8_sail 49 = .ok (.invokestatic 273, 3) := by decide +kernel
theorem dX8_sail_52 : decode cX8_sail 52 = .ok (.istore 4, 2) := by decide +kernel
theorem dX8_sail_54 : decode cX8_sail 54 = .ok (.aload_n 2, 1) := by decide +kernel
theorem dX8_sail_55 : decode cX8_sail 55 = .ok (.getfield 125, 3) := by decide +kernel
theorem dX8_sail_58 : decode cX8_sail 58 = .ok (.iload 4, 2) := by decide +kernel
theorem dX8_sail_60 : decode cX8_sail 60 = .ok (.if_icmp .ge 19, 3) := by decide +kernel
theorem dX8_sail_63 : decode cX8_sail 63 = .ok (.aload_n 0, 1) := by decide +kernel
theorem dX8_sail_64 : decode cX8_sail 64 = .ok (.bipush 99, 2) := by decide +kernel
theorem dX8_sail_66 : decode cX8_sail 66 = .ok (.invokevirtual 188, 3) := by decide +kernel
theorem dX8_sail_69 : decode cX8_sail 69 = .ok (.new 68, 3) := by decide +kernel
theorem dX8_sail_72 : decode cX8_sail 72 = .ok (.dup, 1) := by decide +kernel
theorem dX8_sail_73 : decode cX8_sail 73 = .ok (.ldc 130, 2) := by decide +kernel
theorem dX8_sail_75 : decode cX8_sail 75 = .ok (.invokespecial 72, 3) := by decide +kernel
theorem dX8_sail_78 : decode cX8_sail 78 = .ok (.athrow, 1) := by decide +kernel
theorem dX8_sail_79 : decode cX8_sail 79 = .ok (.aload_n 2, 1) := by decide +kernel
theorem dX8_sail_80 : decode cX8_sail 80 = .ok (.aload_n 3, 1) := by decide +kernel
theorem dX8_sail_81 : decode cX8_sail 81 = .ok (.aload_n 0, 1) := by decide +kernel
theorem dX8_sail_82 : decode cX8_sail 82 = .ok (.getfield 46, 3) := by decide +kernel
theorem dX8_sail_85 : decode cX8_sail 85 = .ok (.iload 4, 2) := by decide +kernel
theorem dX8_sail_87 : decode cX8_sail 87 = .ok (.invokevirtual 276, 3) := by decide +kernel
theorem dX8_sail_90 : decode cX8_sail 90 = .ok (.aload_n 0, 1) := by decide +kernel
theorem dX8_sail_91 : decode cX8_sail 91 = .ok (.getfield 46, 3) := by decide +kernel
theorem dX8_sail_94 : decode cX8_sail 94 = .ok (.invokevirtual 235, 3) := by decide +kernel
theorem dX8_sail_97 : decode cX8_sail 97 = .ok (.aload_n 3, 1) := by decide +kernel
theorem dX8_sail_98 : decode cX8_sail 98 = .ok (.getfield 84, 3) := by decide +kernel
theorem dX8_sail_101 : decode cX8_sail 101 = .ok (.ireturn, 1) := by decide +kernel
set_option maxRecDepth 20000 in
theorem ggX8_dig_X8_shipOf : GoodIn wsX8_dig wsX8_shipOf := goodIn_ca (goodIn_r _ [10, 11, 12, 13, 14, 15, 16, 17, 18, 19, 20, 21, 22, 23, 24, 25, 26, 27, 28, 29, 30, 31, 32, 33, 34, 35, 36, 37, 129, 130, 131, 132, 133, 134, 135, 136, 137, 138, 139, 140] (by decide +kernel) (by decide +kernel)) (goodIn_sub (fun _ h => List.mem_cons_of_mem _ (List.mem_append_left _ (List.mem_append_right _ h))) (by decide +kernel))
set_option maxRecDepth 20000 in
theorem gX8_dig_X8_shipOf : GoodIn wsX8_dig (wsV RX8 121 RX8 yX8_shipOf wsX8_shipOf) := goodIn_app (goodIn_of _ (by decide +kernel)) ggX8_dig_X8_shipOf
set_option maxRecDepth 20000 in
theorem ggX8_dig_X3_isEmpty : GoodIn wsX8_dig wsX3_isEmpty := goodIn_r _ [42, 43, 141, 142, 143] (by decide +kernel) (by decide +kernel)
set_option maxRecDepth 20000 in
theorem gX8_dig_X3_isEmpty : GoodIn wsX8_dig (wsV RX8 226 RX3 yX3_isEmpty wsX3_isEmpty) := goodIn_app (goodIn_of _ (by decide +kernel)) ggX8_dig_X3_isEmpty
set_option maxRecDepth 20000 in
theorem ggX8_dig_X8_isHit : GoodIn wsX8_dig wsX8_isHit := goodIn_ca (goodIn_r _ [47, 48, 49, 50, 9, 51, 52, 53, 54, 55, 56, 57, 58, 59, 60, 61, 62, 63, 64, 65, 66, 67, 68, 69, 41, 70, 71, 72, 73, 74, 75, 76, 77, 78, 79, 80, 81, 16, 17, 18, 19, 20, 82, 22, 23, 24, 25, 26, 27, 28, 29, 30, 31, 32, 33, 34, 35, 36, 37, 83, 84, 85, 86, 87, 88, 89, 90, 91, 92, 93, 94, 95, 96, 97, 98, 99, 100, 101, 102, 103, 104, 105, 106, 107, 129, 130, 131, 132, 133, 134, 135, 136, 137, 144, 123, 124, 125, 126, 127, 128, 145, 146, 141, 142, 143, 147, 148, 149, 150, 151, 152, 153, 138, 139, 140] (by decide +kernel) (by decide +kernel)) (goodIn_sub (fun _ h => List.mem_cons_of_mem _ (List.mem_append_right _ h)) (by decide +kernel))
set_option maxRecDepth 20000 in
theorem gX8_dig_X8_isHit : GoodIn wsX8_dig (wsV RX8 241 RX8 yX8_isHit wsX8_isHit) := goodIn_app (goodIn_of _ (by decide +kernel)) ggX8_dig_X8_isHit
set_option maxRecDepth 20000 in
theorem ggX8_dig_X6_takeTreasure : GoodIn wsX8_dig wsX6_takeTreasure := goodIn_r _ [112, 113, 114, 115, 116, 117, 118, 119, 120, 121, 122, 123, 124, 125, 126, 127, 128] (by decide +kernel) (by decide +kernel)
set_option maxRecDepth 20000 in
theorem gX8_dig_X6_takeTreasure : GoodIn wsX8_dig (wsV RX8 293 RX6 yX6_takeTreasure wsX6_takeTreasure) := goodIn_app (goodIn_of _ (by decide +kernel)) ggX8_dig_X6_takeTreasure
theorem dX8_dig_0 : decode cX8_dig 0 = .ok (.aload_n 0, 1) := by decide +kernel
theorem dX8_dig_1 : decode cX8_dig 1 = .ok (.iload_n 1, 1) := by decide +kernel
theorem dX8_dig_2 : decode cX8_dig 2 = .ok (.invokevirtual 121, 3) := by decide +kernel
theorem dX8_dig_5 : decode cX8_dig 5 = .ok (.astore_n 2, 1) := by decide +kernel
theorem dX8_dig_6 : decode cX8_dig 6 = .ok (.aload_n 2, 1) := by decide +kernel
theorem dX8_dig_7 : decode cX8_dig 7 = .ok (.getfield 280, 3) := by decide +kernel
theorem dX8_dig_10 : decode cX8_dig 10 = .ok (.invokevirtual 226, 3) := by decide +kernel
theorem dX8_dig_13 : decode cX8_dig 13 = .ok (.ifCond .eq 14, 3) := by decide +kernel
theorem dX8_dig_16 : decode cX8_dig 16 = .ok (.new 128, 3) := by decide +kernel
theorem dX8_dig_19 : decode cX8_dig 19 = .ok (.dup, 1) := by decide +kernel
theorem dX8_dig_20 : decode cX8_dig 20 = .ok (.ldc_w 283, 3) := by decide +kernel
theorem dX8_dig_23 : decode cX8_dig 23 = .ok (.invokespecial 132, 3) := by decide +kernel
theorem dX8_dig_26 : decode cX8_dig 26 = .ok (.athrow, 1) := by decide +kernel
theorem dX8_dig_27 : decode cX8_dig 27 = .ok (.aload_n 2, 1) := by decide +kernel
theorem dX8_dig_28 : decode cX8_dig 28 = .ok (.getfield 245, 3) := by decide +kernel
theorem dX8_dig_31 : decode cX8_dig 31 = .ok (.getfield 285, 3) := by decide +kernel
theorem dX8_dig_34 : decode cX8_dig 34 = .ok (.ifCond .ne 14, 3) := by decide +kernel
theorem dX8_dig_37 : decode cX8_dig 37 = .ok (.new 128, 3) := by decide +kernel
theorem dX8_dig_40 : decode cX8_dig 40 = .ok (.dup, 1) := by decide +kernel
theorem dX8_dig_41 : decode cX8_dig 41 = .ok (.ldc_w 289, 3) := by decide +kernel
theorem dX8_dig_44 : decode cX8_dig 44 = .ok (.invokespecial 132, 3) := by decide +kernel
theorem dX8_dig_47 : decode cX8_dig 47 = .ok (.athrow, 1) := by decide +kernel
theorem dX8_dig_48 : decode cX8_dig 48 = .ok (.aload_n 0, 1) := by decide +kernel
theorem dX8_dig_49 : decode cX8_dig 49 = .ok (.aload_n 2, 1) := by decide +kernel
theorem dX8_dig_50 : decode cX8_dig 50 = .ok (.getfield 280, 3) := by decide +kernel
theorem dX8_dig_53 : decode cX8_dig 53 = .ok (.aload_n 2, 1) := by decide +kernel
theorem dX8_dig_54 : decode cX8_dig 54 = .ok (.getfield 245, 3) := by decide +kernel
theorem dX8_dig_57 : decode cX8_dig 57 = .ok (.invokevirtual 241, 3) := by decide +kernel
theorem dX8_dig_60 : decode cX8_dig 60 = .ok (.ifCond .ne 14, 3) := by decide +kernel
theorem dX8_dig_63 : decode cX8_dig 63 = .ok (.new 128, 3) := by decide +kernel
theorem dX8_dig_66 : decode cX8_dig 66 = .ok (.dup, 1) := by decide +kernel
theorem dX8_dig_67 : decode cX8_dig 67 = .ok (.ldc_w 291, 3) := by decide +kernel
theorem dX8_dig_70 : decode cX8_dig 70 = .ok (.invokespecial 132, 3) := by decide +kernel
theorem dX8_dig_73 : decode cX8_dig 73 = .ok (.athrow, 1) := by decide +kernel
theorem dX8_dig_74 : decode cX8_dig 74 = .ok (.aload_n 2, 1) := by decide +kernel
theorem dX8_dig_75 : decode cX8_dig 75 = .ok (.invokevirtual 293, 3) := by decide +kernel
theorem dX8_dig_78 : decode cX8_dig 78 = .ok (.ireturn, 1) := by decide +kernel
set_option maxRecDepth 20000 in
theorem ggX8_at_X8_shipOf : GoodIn wsX8_at wsX8_shipOf := goodIn_ca (goodIn_r _ [7, 8, 9, 10, 11, 12, 13, 14, 15, 16, 17, 18, 19, 20, 21, 22, 23, 24, 25, 26, 27, 28, 29, 30, 31, 32, 33, 34, 46, 47, 48, 49, 50, 51, 52, 53, 54, 55, 56, 57] (by decide +kernel) (by decide +kernel)) (goodIn_sub (fun _ h => List.mem_cons_of_mem _ (List.mem_append_right _ h)) (by decide +kernel))
set_option maxRecDepth 20000 in
theorem gX8_at_X8_shipOf : GoodIn wsX8_at (wsV RX8 121 RX8 yX8_shipOf wsX8_shipOf) := goodIn_app (goodIn_of _ (by decide +kernel)) ggX8_at_X8_shipOf
theorem dX8_at_0 : decode cX8_at 0 = .ok (.aload_n 0, 1) := by decide +kernel
theorem dX8_at_1 : decode cX8_at 1 = .ok (.iload_n 1, 1) := by decide +kernel
theorem dX8_at_2 : decode cX8_at 2 = .ok (.invokevirtual 121, 3) := by decide +kernel
theorem dX8_at_5 : decode cX8_at 5 = .ok (.getfield 245, 3) := by decide +kernel
theorem dX8_at_8 : decode cX8_at 8 = .ok (.getfield 84, 3) := by decide +kernel
theorem dX8_at_11 : decode cX8_at 11 = .ok (.ireturn, 1) := by decide +kernel
set_option maxRecDepth 20000 in
theorem ggX8_coins_X8_shipOf : GoodIn wsX8_coins wsX8_shipOf := goodIn_ca (goodIn_r _ [6, 7, 8, 9, 10, 11, 12, 13, 14, 15, 16, 17, 18, 19, 20, 21, 22, 23, 24, 25, 26, 27, 28, 29, 30, 31, 32, 33, 39, 40, 41, 42, 43, 44, 45, 46, 47, 48, 49, 50] (by decide +kernel) (by decide +kernel)) (goodIn_sub (fun _ h => List.mem_cons_of_mem _ (List.mem_append_right _ h)) (by decide +kernel))
set_option maxRecDepth 20000 in
theorem gX8_coins_X8_shipOf : GoodIn wsX8_coins (wsV RX8 121 RX8 yX8_shipOf wsX8_shipOf) := goodIn_app (goodIn_of _ (by decide +kernel)) ggX8_coins_X8_shipOf
theorem dX8_coins_0 : decode cX8_coins 0 = .ok (.aload_n 0, 1) := by decide +kernel
theorem dX8_coins_1 : decode cX8_coins 1 = .ok (.iload_n 1, 1) := by decide +kernel
theorem dX8_coins_2 : decode cX8_coins 2 = .ok (.invokevirtual 121, 3) := by decide +kernel
theorem dX8_coins_5 : decode cX8_coins 5 = .ok (.getfield 125, 3) := by decide +kernel
theorem dX8_coins_8 : decode cX8_coins 8 = .ok (.ireturn, 1) := by decide +kernel
set_option maxRecDepth 20000 in
theorem ggX8_hasMap_X8_shipOf : GoodIn wsX8_hasMap wsX8_shipOf := goodIn_ca (goodIn_r _ [6, 7, 8, 9, 10, 11, 12, 13, 14, 15, 16, 17, 18, 19, 20, 21, 22, 23, 24, 25, 26, 27, 28, 29, 30, 31, 32, 33, 45, 46, 47, 48, 49, 50, 51, 52, 53, 54, 55, 56] (by decide +kernel) (by decide +kernel)) (goodIn_sub (fun _ h => List.mem_cons_of_mem _ (List.mem_append_right _ h)) (by decide +kernel))
set_option maxRecDepth 20000 in
theorem gX8_hasMap_X8_shipOf : GoodIn wsX8_hasMap (wsV RX8 121 RX8 yX8_shipOf wsX8_shipOf) := goodIn_app (goodIn_of _ (by decide +kernel)) ggX8_hasMap_X8_shipOf
set_option maxRecDepth 20000 in
theorem ggX8_hasMap_X3_isEmpty : GoodIn wsX8_hasMap wsX3_isEmpty := goodIn_r _ [38, 39, 57, 58, 59] (by decide +kernel) (by decide +kernel)
set_option maxRecDepth 20000 in
theorem gX8_hasMap_X3_isEmpty : GoodIn wsX8_hasMap (wsV RX8 226 RX3 yX3_isEmpty wsX3_isEmpty) := goodIn_app (goodIn_of _ (by decide +kernel)) ggX8_hasMap_X3_isEmpty
theorem dX8_hasMap_0 : decode cX8_hasMap 0 = .ok (.aload_n 0, 1) := by decide +kernel
theorem dX8_hasMap_1 : decode cX8_hasMap 1 = .ok (.iload_n 1, 1) := by decide +kernel
theorem dX8_hasMap_2 : decode cX8_hasMap 2 = .ok (.invokevirtual 121, 3) := by decide +kernel
theorem dX8_hasMap_5 : decode cX8_hasMap 5 = .ok (.getfield 280, 3) := by decide +kernel
theorem dX8_hasMap_8 : decode cX8_hasMap 8 = .ok (.invokevirtual 226, 3) := by decide +kernel
theorem dX8_hasMap_11 : decode cX8_hasMap 11 = .ok (.ifCond .ne 7, 3) := by decide +kernel
theorem dX8_hasMap_14 : decode cX8_hasMap 14 = .ok (.iconst 1, 1) := by decide +kernel
theorem dX8_hasMap_15 : decode cX8_hasMap 15 = .ok (.goto 4, 3) := by decide +kernel
theorem dX8_hasMap_18 : decode cX8_hasMap 18 = .ok (.iconst 0, 1) := by decide +kernel
theorem dX8_hasMap_19 : decode cX8_hasMap 19 = .ok (.ireturn, 1) := by decide +kernel
set_option maxRecDepth 20000 in
theorem ggX8_isThere_X8_isleOf : GoodIn wsX8_isThere wsX8_isleOf := goodIn_ca (goodIn_r _ [6, 7, 8, 9, 10, 11, 12, 13, 14, 15, 16, 17, 18, 19, 20, 21, 22, 23, 24, 25, 26, 27, 28, 29, 30, 31, 32, 33, 40, 41, 42, 43, 44, 45, 46, 47, 48, 49, 50, 51] (by decide +kernel) (by decide +kernel)) (goodIn_sub (fun _ h => List.mem_cons_of_mem _ (List.mem_append_right _ h)) (by decide +kernel))
set_option maxRecDepth 20000 in
theorem gX8_isThere_X8_isleOf : GoodIn wsX8_isThere (wsV RX8 88 RX8 yX8_isleOf wsX8_isleOf) := goodIn_app (goodIn_of _ (by decide +kernel)) ggX8_isThere_X8_isleOf
theorem dX8_isThere_0 : decode cX8_isThere 0 = .ok (.aload_n 0, 1) := by decide +kernel
theorem dX8_isThere_1 : decode cX8_isThere 1 = .ok (.iload_n 1, 1) := by decide +kernel
theorem dX8_isThere_2 : decode cX8_isThere 2 = .ok (.invokevirtual 88, 3) := by decide +kernel
theorem dX8_isThere_5 : decode cX8_isThere 5 = .ok (.getfield 285, 3) := by decide +kernel
theorem dX8_isThere_8 : decode cX8_isThere 8 = .ok (.ireturn, 1) := by decide +kernel
set_option maxRecDepth 20000 in
theorem ggX8_strike_X8_findNumbered : GoodIn wsX8_strike wsX8_findNumbered := goodIn_ca (goodIn_r _ [10, 11, 12, 13, 14, 15, 16, 17, 18, 19, 20, 21, 22, 23, 24, 25, 26, 27, 28, 29, 30, 31, 32, 33, 34, 35, 36, 37, 163, 164, 165, 166, 167, 168, 169, 170, 171, 172, 173, 174] (by decide +kernel) (by decide +kernel)) (goodIn_sub (fun _ h => List.mem_cons_of_mem _ (List.mem_append_left _ (List.mem_append_right _ h))) (by decide +kernel))
set_option maxRecDepth 20000 in
theorem gX8_strike_X8_findNumbered : GoodIn wsX8_strike (wsV RX8 201 RX8 yX8_findNumbered wsX8_findNumbered) := goodIn_app (goodIn_of _ (by decide +kernel)) ggX8_strike_X8_findNumbered
set_option maxRecDepth 20000 in
theorem ggX8_strike_X1_leave : GoodIn wsX8_strike wsX1_leave := goodIn_r _ [42, 43, 44, 16, 17, 18, 19, 20, 45, 22, 23, 24, 25, 26, 27, 28, 29, 30, 31, 32, 33, 34, 35, 36, 37, 46, 47, 48, 49, 50, 51, 52, 53, 54, 55, 56, 57, 58, 59, 175, 172, 173, 174] (by decide +kernel) (by decide +kernel)
set_option maxRecDepth 20000 in
theorem gX8_strike_X1_leave : GoodIn wsX8_strike (wsV RX8 301 RX1 yX1_leave wsX1_leave) := goodIn_app (goodIn_of _ (by decide +kernel)) ggX8_strike_X1_leave
set_option maxRecDepth 20000 in
theorem ggX8_strike_X6_pay : GoodIn wsX8_strike wsX6_pay := goodIn_r _ [64, 65, 66, 67, 68, 69, 176, 177, 178, 179, 180] (by decide +kernel) (by decide +kernel)
set_option maxRecDepth 20000 in
theorem gX8_strike_X6_pay : GoodIn wsX8_strike (wsV RX8 133 RX6 yX6_pay wsX6_pay) := goodIn_app (goodIn_of _ (by decide +kernel)) ggX8_strike_X6_pay
set_option maxRecDepth 20000 in
theorem ggX8_strike_X8_sendShipsBack : GoodIn wsX8_strike wsX8_sendShipsBack := goodIn_ca (goodIn_r _ [73, 74, 75, 76, 77, 15, 16, 17, 18, 19, 20, 21, 22, 23, 24, 25, 26, 27, 28, 29, 30, 31, 32, 33, 34, 35, 36, 37, 78, 79, 80, 81, 82, 83, 84, 85, 86, 9, 87, 88, 89, 90, 91, 92, 4, 93, 94, 95, 96, 97, 98, 99, 100, 101, 102, 103, 104, 105, 106, 107, 108, 109, 110, 111, 112, 113, 114, 115, 116, 117, 118, 119, 120, 121, 122, 123, 124, 125, 126, 67, 68, 69, 127, 57, 58, 59, 128, 129, 130, 131, 132, 133, 134, 135, 136, 137, 138, 139, 140, 141, 142, 143, 63, 144, 145, 146, 147, 148, 149, 150, 151, 61, 62, 64, 65, 66, 152, 153, 154, 155, 163, 164, 165, 166, 167, 168, 169, 170, 171, 176, 177, 178, 179, 180, 172, 173, 174, 181, 182, 183, 175, 184, 185, 186, 187, 188, 189, 190, 191, 156, 157, 158, 159, 160, 161, 162] (by decide +kernel) (by decide +kernel)) (goodIn_sub (fun _ h => List.mem_cons_of_mem _ (List.mem_append_right _ h)) (by decide +kernel))
set_option maxRecDepth 20000 in
theorem gX8_strike_X8_sendShipsBack : GoodIn wsX8_strike (wsV RX8 308 RX8 yX8_sendShipsBack wsX8_sendShipsBack) := goodIn_app (goodIn_of _ (by decide +kernel)) ggX8_strike_X8_sendShipsBack
theorem dX8_strike_0 : decode cX8_strike 0 = .ok (.aload_n 0, 1) := by decide +kernel
theorem dX8_strike_1 : decode cX8_strike 1 = .ok (.iload_n 1, 1) := by decide +kernel
theorem dX8_strike_2 : decode cX8_strike 2 = .ok (.invokevirtual 201, 3) := by decide +kernel
theorem dX8_strike_5 : decode cX8_strike 5 = .ok (.astore_n 2, 1) := by decide +kernel
theorem dX8_strike_6 : decode cX8_strike 6 = .ok (.aload_n 2, 1) := by decide +kernel
theorem dX8_strike_7 : decode cX8_strike 7 = .ok (.getfield 296, 3) := by decide +kernel
theorem dX8_strike_10 : decode cX8_strike 10 = .ok (.ifCond .eq 14, 3) := by decide +kernel
theorem dX8_strike_13 : decode cX8_strike 13 = .ok (.new 128, 3) := by decide +kernel
theorem dX8_strike_16 : decode cX8_strike 16 = .ok (.dup, 1) := by decide +kernel
theorem dX8_strike_17 : decode cX8_strike 17 = .ok (.ldc_w 299, 3) := by decide +kernel
theorem dX8_strike_20 : decode cX8_strike 20 = .ok (.invokespecial 132, 3) := by decide +kernel
theorem dX8_strike_23 : decode cX8_strike 23 = .ok (.athrow, 1) := by decide +kernel
theorem dX8_strike_24 : decode cX8_strike 24 = .ok (.aload_n 2, 1) := by decide +kernel
theorem dX8_strike_25 : decode cX8_strike 25 = .ok (.iconst 1, 1) := by decide +kernel
theorem dX8_strike_26 : decode cX8_strike 26 = .ok (.putfield 296, 3) := by decide +kernel
theorem dX8_strike_29 : decode cX8_strike 29 = .ok (.aload_n 0, 1) := by decide +kernel
theorem dX8_strike_30 : decode cX8_strike 30 = .ok (.getfield 22, 3) := by decide +kernel
theorem dX8_strike_33 : decode cX8_strike 33 = .ok (.aload_n 2, 1) := by decide +kernel
theorem dX8_strike_34 : decode cX8_strike 34 = .ok (.invokevirtual 301, 3) := by decide +kernel
theorem dX8_strike_37 : decode cX8_strike 37 = .ok (.aload_n 2, 1) := by decide +kernel
theorem dX8_strike_38 : decode cX8_strike 38 = .ok (.getfield 304, 3) := by decide +kernel
theorem dX8_strike_41 : decode cX8_strike 41 = .ok (.ifnull 12, 3) := by decide +kernel
theorem dX8_strike_44 : decode cX8_strike 44 = .ok (.aload_n 2, 1) := by decide +kernel
theorem dX8_strike_45 : decode cX8_strike 45 = .ok (.getfield 304, 3) := by decide +kernel
theorem dX8_strike_48 : decode cX8_strike 48 = .ok (.bipush 10, 2) := by decide +kernel
theorem dX8_strike_50 : decode cX8_strike 50 = .ok (.invokevirtual 133, 3) := by decide +kernel
theorem dX8_strike_53 : decode cX8_strike 53 = .ok (.aload_n 0, 1) := by decide +kernel
theorem dX8_strike_54 : decode cX8_strike 54 = .ok (.invokevirtual 308, 3) := by decide +kernel
theorem dX8_strike_57 : decode cX8_strike 57 = .ok (.ireturn, 1) := by decide +kernel
set_option maxRecDepth 20000 in
theorem ggX8_isStruck_X8_findNumbered : GoodIn wsX8_isStruck wsX8_findNumbered := goodIn_ca (goodIn_r _ [6, 7, 8, 9, 10, 11, 12, 13, 14, 15, 16, 17, 18, 19, 20, 21, 22, 23, 24, 25, 26, 27, 28, 29, 30, 31, 32, 33, 41, 42, 43, 44, 45, 46, 47, 48, 49, 50, 51, 52] (by decide +kernel) (by decide +kernel)) (goodIn_sub (fun _ h => List.mem_cons_of_mem _ (List.mem_append_right _ h)) (by decide +kernel))
set_option maxRecDepth 20000 in
theorem gX8_isStruck_X8_findNumbered : GoodIn wsX8_isStruck (wsV RX8 201 RX8 yX8_findNumbered wsX8_findNumbered) := goodIn_app (goodIn_of _ (by decide +kernel)) ggX8_isStruck_X8_findNumbered
theorem dX8_isStruck_0 : decode cX8_isStruck 0 = .ok (.aload_n 0, 1) := by decide +kernel
theorem dX8_isStruck_1 : decode cX8_isStruck 1 = .ok (.iload_n 1, 1) := by decide +kernel
theorem dX8_isStruck_2 : decode cX8_isStruck 2 = .ok (.invokevirtual 201, 3) := by decide +kernel
theorem dX8_isStruck_5 : decode cX8_isStruck 5 = .ok (.getfield 296, 3) := by decide +kernel
theorem dX8_isStruck_8 : decode cX8_isStruck 8 = .ok (.ireturn, 1) := by decide +kernel
set_option maxRecDepth 20000 in
theorem ggX8_struckShare_Jx4a65c_isEmpty_aae02 : GoodIn wsX8_struckShare wsJx4a65c_isEmpty_aae02 := goodIn_r _ [10, 11, 49, 50, 51] (by decide +kernel) (by decide +kernel)
set_option maxRecDepth 20000 in
theorem gX8_struckShare_Jx4a65c_isEmpty_aae02 : GoodIn wsX8_struckShare (wsV RX8 106 RJx4a65c yJx4a65c_isEmpty_aae02 wsJx4a65c_isEmpty_aae02) := goodIn_app (goodIn_of _ (by decide +kernel)) ggX8_struckShare_Jx4a65c_isEmpty_aae02
set_option maxRecDepth 20000 in
theorem ggX8_struckShare_Jx4a65c_size_8abf5 : GoodIn wsX8_struckShare wsJx4a65c_size_8abf5 := goodIn_r _ [15, 11, 49, 50, 51] (by decide +kernel) (by decide +kernel)
set_option maxRecDepth 20000 in
theorem gX8_struckShare_Jx4a65c_size_8abf5 : GoodIn wsX8_struckShare (wsV RX8 64 RJx4a65c yJx4a65c_size_8abf5 wsJx4a65c_size_8abf5) := goodIn_app (goodIn_of _ (by decide +kernel)) ggX8_struckShare_Jx4a65c_size_8abf5
set_option maxRecDepth 20000 in
theorem ggX8_struckShare_Jx4a65c_get_915e3 : GoodIn wsX8_struckShare wsJx4a65c_get_915e3 := goodIn_r _ [19, 11, 20, 21, 22, 23, 24, 25, 26, 27, 28, 29, 30, 9, 31, 32, 49, 50, 51] (by decide +kernel) (by decide +kernel)
set_option maxRecDepth 20000 in
theorem gX8_struckShare_Jx4a65c_get_915e3 : GoodIn wsX8_struckShare (wsV RX8 114 RJx4a65c yJx4a65c_get_915e3 wsJx4a65c_get_915e3) := goodIn_app (goodIn_of _ (by decide +kernel)) ggX8_struckShare_Jx4a65c_get_915e3
theorem dX8_struckShare_0 : decode cX8_struckShare 0 = .ok (.aload_n 0, 1) := by decide +kernel
theorem dX8_struckShare_1 : decode cX8_struckShare 1 = .ok (.getfield 16, 3) := by decide +kernel
theorem dX8_struckShare_4 : decode cX8_struckShare 4 = .ok (.invokevirtual 106, 3) := by decide +kernel
theorem dX8_struckShare_7 : decode cX8_struckShare 7 = .ok (.ifCond .eq 14, 3) := by decide +kernel
theorem dX8_struckShare_10 : decode cX8_struckShare 10 = .ok (.new 311, 3) := by decide +kernel
theorem dX8_struckShare_13 : decode cX8_struckShare 13 = .ok (.dup, 1) := by decide +kernel
theorem dX8_struckShare_14 : decode cX8_struckShare 14 = .ok (.ldc_w 313, 3) := by decide +kernel
theorem dX8_struckShare_17 : decode cX8_struckShare 17 = .ok (.invokespecial 315, 3) := by decide +kernel
theorem dX8_struckShare_20 : decode cX8_struckShare 20 = .ok (.athrow, 1) := by decide +kernel
theorem dX8_struckShare_21 : decode cX8_struckShare 21 = .ok (.iconst 0, 1) := by decide +kernel
theorem dX8_struckShare_22 : decode cX8_struckShare 22 = .ok (.istore_n 1, 1) := by decide +kernel
theorem dX8_struckShare_23 : decode cX8_struckShare 23 = .ok (.iconst 0, 1) := by decide +kernel
theorem dX8_struckShare_24 : decode cX8_struckShare 24 = .ok (.istore_n 2, 1) := by decide +kernel
theorem dX8_struckShare_25 : decode cX8_struckShare 25 = .ok (.iload_n 2, 1) := by decide +kernel
theorem dX8_struckShare_26 : decode cX8_struckShare 26 = .ok (.aload_n 0, 1) := by decide +kernel
theorem dX8_struckShare_27 : decode cX8_struckShare 27 = .ok (.getfield 16, 3) := by decide +kernel
theorem dX8_struckShare_30 : decode cX8_struckShare 30 = .ok (.invokevirtual 64, 3) := by decide +kernel
theorem dX8_struckShare_33 : decode cX8_struckShare 33 = .ok (.if_icmp .ge 29, 3) := by decide +kernel
theorem dX8_struckShare_36 : decode cX8_struckShare 36 = .ok (.aload_n 0, 1) := by decide +kernel
theorem dX8_struckShare_37 : decode cX8_struckShare 37 = .ok (.getfield 16, 3) := by decide +kernel
theorem dX8_struckShare_40 : decode cX8_struckShare 40 = .ok (.iload_n 2, 1) := by decide +kernel
theorem dX8_struckShare_41 : decode cX8_struckShare 41 = .ok (.invokevirtual 114, 3) := by decide +kernel
theorem dX8_struckShare_44 : decode cX8_struckShare 44 = .ok (.checkcast 95, 3) := by decide +kernel
theorem dX8_struckShare_47 : decode cX8_struckShare 47 = .ok (.getfield 296, 3) := by decide +kernel
theorem dX8_struckShare_50 : decode cX8_struckShare 50 = .ok (.ifCond .eq 6, 3) := by decide +kernel
theorem dX8_struckShare_53 : decode cX8_struckShare 53 = .ok (.iinc 1 1, 3) := by decide +kernel
theorem dX8_struckShare_56 : decode cX8_struckShare 56 = .ok (.iinc 2 1, 3) := by decide +kernel
theorem dX8_struckShare_59 : decode cX8_struckShare 59 = .ok (.goto (-34), 3) := by decide +kernel
theorem dX8_struckShare_62 : decode cX8_struckShare 62 = .ok (.iload_n 1, 1) := by decide +kernel
theorem dX8_struckShare_63 : decode cX8_struckShare 63 = .ok (.i2f, 1) := by decide +kernel
theorem dX8_struckShare_64 : decode cX8_struckShare 64 = .ok (.aload_n 0, 1) := by decide +kernel
theorem dX8_struckShare_65 : decode cX8_struckShare 65 = .ok (.getfield 16, 3) := by decide +kernel
theorem dX8_struckShare_68 : decode cX8_struckShare 68 = .ok (.invokevirtual 64, 3) := by decide +kernel
theorem dX8_struckShare_71 : decode cX8_struckShare 71 = .ok (.i2f, 1) := by decide +kernel
theorem dX8_struckShare_72 : decode cX8_struckShare 72 = .ok (.fdiv, 1) := by decide +kernel
theorem dX8_struckShare_73 : decode cX8_struckShare 73 = .ok (.freturn, 1) := by decide +kernel
set_option maxRecDepth 20000 in
theorem ggX8_causes_J4_length_8abf5 : GoodIn wsX8_causes wsJ4_length_8abf5 := goodIn_r _ [6, 7, 8, 9, 10, 11, 12, 13, 23, 24, 25, 26] (by decide +kernel) (by decide +kernel)
set_option maxRecDepth 20000 in
theorem gX8_causes_J4_length_8abf5 : GoodIn wsX8_causes (wsV RX8 316 RJ4 yJ4_length_8abf5 wsJ4_length_8abf5) := goodIn_app (goodIn_of _ (by decide +kernel)) ggX8_causes_J4_length_8abf5
theorem dX8_causes_0 : decode cX8_causes 0 = .ok (.aload_n 0, 1) := by decide +kernel
theorem dX8_causes_1 : decode cX8_causes 1 = .ok (.getfield 53, 3) := by decide +kernel
theorem dX8_causes_4 : decode cX8_causes 4 = .ok (.invokevirtual 316, 3) := by decide +kernel
theorem dX8_causes_7 : decode cX8_causes 7 = .ok (.ireturn, 1) := by decide +kernel
set_option maxRecDepth 20000 in
theorem ggX8_cause_J4_length_8abf5 : GoodIn wsX8_cause wsJ4_length_8abf5 := goodIn_r _ [8, 9, 10, 11, 12, 13, 14, 15, 58, 59, 60, 61] (by decide +kernel) (by decide +kernel)
set_option maxRecDepth 20000 in
theorem gX8_cause_J4_length_8abf5 : GoodIn wsX8_cause (wsV RX8 316 RJ4 yJ4_length_8abf5 wsJ4_length_8abf5) := goodIn_app (goodIn_of _ (by decide +kernel)) ggX8_cause_J4_length_8abf5
set_option maxRecDepth 20000 in
theorem ggX8_cause_J4_charAt_5068e : GoodIn wsX8_cause wsJ4_charAt_5068e := goodIn_r _ [19, 20, 21, 11, 22, 13, 23, 24, 25, 15, 26, 27, 28, 29, 30, 31, 32, 33, 34, 35, 36, 37, 38, 39, 40, 41, 42, 43, 44, 45, 46, 47, 48, 58, 59, 60, 61] (by decide +kernel) (by decide +kernel)
set_option maxRecDepth 20000 in
theorem gX8_cause_J4_charAt_5068e : GoodIn wsX8_cause (wsV RX8 320 RJ4 yJ4_charAt_5068e wsJ4_charAt_5068e) := goodIn_app (goodIn_of _ (by decide +kernel)) ggX8_cause_J4_charAt_5068e
theorem dX8_cause_0 : decode cX8_cause 0 = .ok (.iload_n 1, 1) := by decide +kernel
theorem dX8_cause_1 : decode cX8_cause 1 = .ok (.ifCond .lt 14, 3) := by decide +kernel
theorem dX8_cause_4 : decode cX8_cause 4 = .ok (.iload_n 1, 1) := by decide +kernel
theorem dX8_cause_5 : decode cX8_cause 5 = .ok (.aload_n 0, 1) := by decide +kernel
theorem dX8_cause_6 : decode cX8_cause 6 = .ok (.getfield 53, 3) := by decide +kernel
theorem dX8_cause_9 : decode cX8_cause 9 = .ok (.invokevirtual 316, 3) := by decide +kernel
theorem dX8_cause_12 : decode cX8_cause 12 = .ok (.if_icmp .lt 14, 3) := by decide +kernel
theorem dX8_cause_15 : decode cX8_cause 15 = .ok (.new 140, 3) := by decide +kernel
theorem dX8_cause_18 : decode cX8_cause 18 = .ok (.dup, 1) := by decide +kernel
theorem dX8_cause_19 : decode cX8_cause 19 = .ok (.ldc_w 318, 3) := by decide +kernel
theorem dX8_cause_22 : decode cX8_cause 22 = .ok (.invokespecial 144, 3) := by decide +kernel
theorem dX8_cause_25 : decode cX8_cause 25 = .ok (.athrow, 1) := by decide +kernel
theorem dX8_cause_26 : decode cX8_cause 26 = .ok (.aload_n 0, 1) := by decide +kernel
theorem dX8_cause_27 : decode cX8_cause 27 = .ok (.getfield 53, 3) := by decide +kernel
theorem dX8_cause_30 : decode cX8_cause 30 = .ok (.iload_n 1, 1) := by decide +kernel
theorem dX8_cause_31 : decode cX8_cause 31 = .ok (.invokevirtual 320, 3) := by decide +kernel
theorem dX8_cause_34 : decode cX8_cause 34 = .ok (.ireturn, 1) := by decide +kernel
set_option maxRecDepth 20000 in
theorem ggX8_checksum_Jx4a65c_size_8abf5 : GoodIn wsX8_checksum wsJx4a65c_size_8abf5 := goodIn_r _ [14, 15, 49, 50, 51] (by decide +kernel) (by decide +kernel)
set_option maxRecDepth 20000 in
theorem gX8_checksum_Jx4a65c_size_8abf5 : GoodIn wsX8_checksum (wsV RX8 64 RJx4a65c yJx4a65c_size_8abf5 wsJx4a65c_size_8abf5) := goodIn_app (goodIn_of _ (by decide +kernel)) ggX8_checksum_Jx4a65c_size_8abf5
set_option maxRecDepth 20000 in
theorem ggX8_checksum_Jx4a65c_get_915e3 : GoodIn wsX8_checksum wsJx4a65c_get_915e3 := goodIn_r _ [19, 15, 20, 21, 22, 23, 24, 25, 26, 27, 28, 29, 30, 13, 31, 32, 49, 50, 51] (by decide +kernel) (by decide +kernel)
set_option maxRecDepth 20000 in
theorem gX8_checksum_Jx4a65c_get_915e3 : GoodIn wsX8_checksum (wsV RX8 114 RJx4a65c yJx4a65c_get_915e3 wsJx4a65c_get_915e3) := goodIn_app (goodIn_of _ (by decide +kernel)) ggX8_checksum_Jx4a65c_get_915e3
theorem dX8_checksum_0 : decode cX8_checksum 0 = .ok (.ldc2_w 324, 3) := by decide +kernel
theorem dX8_checksum_3 : decode cX8_checksum 3 = .ok (.lstore_n 1, 1) := by decide +kernel
theorem dX8_checksum_4 : decode cX8_checksum 4 = .ok (.iconst 0, 1) := by decide +kernel
theorem dX8_checksum_5 : decode cX8_checksum 5 = .ok (.istore_n 3, 1) := by decide +kernel
theorem dX8_checksum_6 : decode cX8_checksum 6 = .ok (.iload_n 3, 1) := by decide +kernel
theorem dX8_checksum_7 : decode cX8_checksum 7 = .ok (.aload_n 0, 1) := by decide +kernel
theorem dX8_checksum_8 : decode cX8_checksum 8 = .ok (.getfield 16, 3) := by decide +kernel
theorem dX8_checksum_11 : decode cX8_checksum 11 = .ok (.invokevirtual 64, 3) := by decide +kernel
theorem dX8_checksum_14 : decode cX8_checksum 14 = .ok (.if_icmp .ge 75, 3) := by decide +kernel
theorem dX8_checksum_17 : decode cX8_checksum 17 = .ok (.aload_n 0, 1) := by decide +kernel
theorem dX8_checksum_18 : decode cX8_checksum 18 = .ok (.getfield 16, 3) := by decide +kernel
theorem dX8_checksum_21 : decode cX8_checksum 21 = .ok (.iload_n 3, 1) := by decide +kernel
theorem dX8_checksum_22 : decode cX8_checksum 22 = .ok (.invokevirtual 114, 3) := by decide +kernel
theorem dX8_checksum_25 : decode cX8_checksum 25 = .ok (.checkcast 95, 3) := by decide +kernel
theorem dX8_checksum_28 : decode cX8_checksum 28 = .ok (.astore 4, 2) := by decide +kernel
theorem dX8_checksum_30 : decode cX8_checksum 30 = .ok (.ldc2_w 326, 3) := by decide +kernel
theorem dX8_checksum_33 : decode cX8_checksum 33 = .ok (.lload_n 1, 1) := by decide +kernel
theorem dX8_checksum_34 : decode cX8_checksum 34 = .ok (.lmul, 1) := by decide +kernel
theorem dX8_checksum_35 : decode cX8_checksum 35 = .ok (.aload 4, 2) := by decide +kernel
theorem dX8_checksum_37 : decode cX8_checksum 37 = .ok (.getfield 328, 3) := by decide +kernel
theorem dX8_checksum_40 : decode cX8_checksum 40 = .ok (.i2l, 1) := by decide +kernel
theorem dX8_checksum_41 : decode cX8_checksum 41 = .ok (.ladd, 1) := by decide +kernel
theorem dX8_checksum_42 : decode cX8_checksum 42 = .ok (.lstore_n 1, 1) := by decide +kernel
theorem dX8_checksum_43 : decode cX8_checksum 43 = .ok (.ldc2_w 326, 3) := by decide +kernel
theorem dX8_checksum_46 : decode cX8_checksum 46 = .ok (.lload_n 1, 1) := by decide +kernel
theorem dX8_checksum_47 : decode cX8_checksum 47 = .ok (.lmul, 1) := by decide +kernel
theorem dX8_checksum_48 : decode cX8_checksum 48 = .ok (.aload 4, 2) := by decide +kernel
theorem dX8_checksum_50 : decode cX8_checksum 50 = .ok (.getfield 331, 3) := by decide +kernel
theorem dX8_checksum_53 : decode cX8_checksum 53 = .ok (.i2l, 1) := by decide +kernel
theorem dX8_checksum_54 : decode cX8_checksum 54 = .ok (.ladd, 1) := by decide +kernel
theorem dX8_checksum_55 : decode cX8_checksum 55 = .ok (.lstore_n 1, 1) := by decide +kernel
theorem dX8_checksum_56 : decode cX8_checksum 56 = .ok (.ldc2_w 326, 3) := by decide +kernel
theorem dX8_checksum_59 : decode cX8_checksum 59 = .ok (.lload_n 1, 1) := by decide +kernel
theorem dX8_checksum_60 : decode cX8_checksum 60 = .ok (.lmul, 1) := by decide +kernel
theorem dX8_checksum_61 : decode cX8_checksum 61 = .ok (.aload 4, 2) := by decide +kernel
theorem dX8_checksum_63 : decode cX8_checksum 63 = .ok (.getfield 334, 3) := by decide +kernel
theorem dX8_checksum_66 : decode cX8_checksum 66 = .ok (.i2l, 1) := by decide +kernel
theorem dX8_checksum_67 : decode cX8_checksum 67 = .ok (.ladd, 1) := by decide +kernel
theorem dX8_checksum_68 : decode cX8_checksum 68 = .ok (.lstore_n 1, 1) := by decide +kernel
theorem dX8_checksum_69 : decode cX8_checksum 69 = .ok (.aload 4, 2) := by decide +kernel
theorem dX8_checksum_71 : decode cX8_checksum 71 = .ok (.getfield 296, 3) := by decide +kernel
theorem dX8_checksum_74 : decode cX8_checksum 74 = .ok (.ifCond .eq 9, 3) := by decide +kernel
theorem dX8_checksum_77 : decode cX8_checksum 77 = .ok (.lload_n 1, 1) := by decide +kernel
theorem dX8_checksum_78 : decode cX8_checksum 78 = .ok (.ldc2_w 337, 3) := by decide +kernel
theorem dX8_checksum_81 : decode cX8_checksum 81 = .ok (.ladd, 1) := by decide +kernel
theorem dX8_checksum_82 : decode cX8_checksum 82 = .ok (.lstore_n 1, 1) := by decide +kernel
theorem dX8_checksum_83 : decode cX8_checksum 83 = .ok (.iinc 3 1, 3) := by decide +kernel
theorem dX8_checksum_86 : decode cX8_checksum 86 = .ok (.goto (-80), 3) := by decide +kernel
theorem dX8_checksum_89 : decode cX8_checksum 89 = .ok (.lload_n 1, 1) := by decide +kernel
theorem dX8_checksum_90 : decode cX8_checksum 90 = .ok (.lreturn, 1) := by decide +kernel
set_option maxRecDepth 20000 in
theorem ggX8_isTrue_X8_findsAreInOneSegment : GoodIn wsX8_isTrue wsX8_findsAreInOneSegment := goodIn_r _ [5, 6, 7, 8, 9, 10, 11, 12, 13, 14, 15, 16, 17, 18, 19, 20, 21, 22, 23, 24, 25, 26, 27, 28, 29, 30, 31, 32, 33, 34, 35, 36, 37, 38, 39, 40, 41, 42, 180, 181, 182, 183, 184, 185, 186, 187, 188, 189, 190, 191, 192, 193, 194, 195, 196, 197, 198, 199, 200, 201, 202, 203] (by decide +kernel) (by decide +kernel)
set_option maxRecDepth 20000 in
theorem gX8_isTrue_X8_findsAreInOneSegment : GoodIn wsX8_isTrue (wsV RX8 339 RX8 yX8_findsAreInOneSegment wsX8_findsAreInOneSegment) := goodIn_app (goodIn_of _ (by decide +kernel)) ggX8_isTrue_X8_findsAreInOneSegment
set_option maxRecDepth 20000 in
theorem ggX8_isTrue_X8_postingsAreUnstruck : GoodIn wsX8_isTrue wsX8_postingsAreUnstruck := goodIn_r _ [46, 47, 48, 7, 49, 10, 11, 12, 13, 14, 15, 16, 17, 18, 19, 20, 21, 22, 23, 24, 25, 26, 27, 28, 29, 30, 31, 32, 180, 181, 182, 183, 184, 185, 186, 187, 188, 204, 189, 190, 191, 192, 193, 194, 195, 196, 197, 198] (by decide +kernel) (by decide +kernel)
set_option maxRecDepth 20000 in
theorem gX8_isTrue_X8_postingsAreUnstruck : GoodIn wsX8_isTrue (wsV RX8 342 RX8 yX8_postingsAreUnstruck wsX8_postingsAreUnstruck) := goodIn_app (goodIn_of _ (by decide +kernel)) ggX8_isTrue_X8_postingsAreUnstruck
set_option maxRecDepth 20000 in
theorem ggX8_isTrue_X8_pursesHold : GoodIn wsX8_isTrue wsX8_pursesHold := goodIn_r _ [53, 54, 55, 56, 10, 11, 12, 13, 14, 15, 16, 17, 18, 19, 20, 21, 22, 23, 24, 25, 26, 27, 28, 29, 30, 31, 32, 180, 181, 182, 183, 184, 185, 186, 187, 188, 205, 206, 207, 208, 209, 196, 197, 198] (by decide +kernel) (by decide +kernel)
set_option maxRecDepth 20000 in
theorem gX8_isTrue_X8_pursesHold : GoodIn wsX8_isTrue (wsV RX8 345 RX8 yX8_pursesHold wsX8_pursesHold) := goodIn_app (goodIn_of _ (by decide +kernel)) ggX8_isTrue_X8_pursesHold
set_option maxRecDepth 20000 in
theorem ggX8_isTrue_X8_hitsAgree : GoodIn wsX8_isTrue wsX8_hitsAgree := goodIn_ca (goodIn_r _ [60, 8, 61, 62, 63, 64, 65, 66, 67, 68, 69, 36, 70, 38, 39, 40, 71, 72, 73, 74, 75, 13, 76, 77, 78, 32, 15, 41, 11, 12, 14, 42, 17, 18, 19, 20, 21, 22, 23, 24, 25, 26, 27, 28, 29, 30, 31, 79, 80, 81, 82, 83, 84, 85, 86, 87, 88, 89, 90, 91, 92, 93, 94, 95, 96, 97, 98, 99, 100, 101, 102, 103, 104, 105, 106, 107, 108, 109, 110, 111, 112, 113, 114, 115, 116, 117, 118, 119, 120, 121, 122, 123, 124, 125, 126, 127, 128, 129, 10, 16, 130, 131, 132, 133, 134, 135, 136, 137, 138, 139, 140, 141, 142, 143, 144, 145, 146, 147, 148, 149, 150, 151, 152, 153, 154, 155, 156, 157, 158, 159, 160, 161, 162, 163, 164, 165, 166, 167, 168, 169, 170, 171, 172, 173, 174, 175, 176, 177, 178, 4, 179, 47, 48, 180, 181, 182, 183, 184, 185, 186, 187, 188, 210, 211, 212, 213, 214, 215, 199, 200, 201, 202, 203, 189, 190, 191, 192, 193, 194, 195, 196, 197, 198, 216, 217, 218, 219, 220, 204] (by decide +kernel) (by decide +kernel)) (goodIn_sub (fun _ h => List.mem_cons_of_mem _ (List.mem_append_right _ h)) (by decide +kernel))
set_option maxRecDepth 20000 in
theorem gX8_isTrue_X8_hitsAgree : GoodIn wsX8_isTrue (wsV RX8 348 RX8 yX8_hitsAgree wsX8_hitsAgree) := goodIn_app (goodIn_of _ (by decide +kernel)) ggX8_isTrue_X8_hitsAgree
theorem dX8_isTrue_0 : decode cX8_isTrue 0 = .ok (.aload_n 0, 1) := by decide +kernel
theorem dX8_isTrue_1 : decode cX8_isTrue 1 = .ok (.invokevirtual 339, 3) := by decide +kernel
theorem dX8_isTrue_4 : decode cX8_isTrue 4 = .ok (.ifCond .eq 28, 3) := by decide +kernel
theorem dX8_isTrue_7 : decode cX8_isTrue 7 = .ok (.aload_n 0, 1) := by decide +kernel
theorem dX8_isTrue_8 : decode cX8_isTrue 8 = .ok (.invokevirtual 342, 3) := by decide +kernel
theorem dX8_isTrue_11 : decode cX8_isTrue 11 = .ok (.ifCond .eq 21, 3) := by decide +kernel
theorem dX8_isTrue_14 : decode cX8_isTrue 14 = .ok (.aload_n 0, 1) := by decide +kernel
theorem dX8_isTrue_15 : decode cX8_isTrue 15 = .ok (.invokevirtual 345, 3) := by decide +kernel
theorem dX8_isTrue_18 : decode cX8_isTrue 18 = .ok (.ifCond .eq 14, 3) := by decide +kernel
theorem dX8_isTrue_21 : decode cX8_isTrue 21 = .ok (.aload_n 0, 1) := by decide +kernel
theorem dX8_isTrue_22 : decode cX8_isTrue 22 = .ok (.invokevirtual 348, 3) := by decide +kernel
theorem dX8_isTrue_25 : decode cX8_isTrue 25 = .ok (.ifCond .eq 7, 3) := by decide +kernel
theorem dX8_isTrue_28 : decode cX8_isTrue 28 = .ok (.iconst 1, 1) := by decide +kernel
theorem dX8_isTrue_29 : decode cX8_isTrue 29 = .ok (.goto 4, 3) := by decide +kernel
theorem dX8_isTrue_32 : decode cX8_isTrue 32 = .ok (.iconst 0, 1) := by decide +kernel
theorem dX8_isTrue_33 : decode cX8_isTrue 33 = .ok (.ireturn, 1) := by decide +kernel
theorem dX8_requireRange_0 : decode cX8_requireRange 0 = .ok (.iload_n 0, 1) := by decide +kernel
theorem dX8_requireRange_1 : decode cX8_requireRange 1 = .ok (.ifCond .lt 8, 3) := by decide +kernel
theorem dX8_requireRange_4 : decode cX8_requireRange 4 = .ok (.iload_n 0, 1) := by decide +kernel
theorem dX8_requireRange_5 : decode cX8_requireRange 5 = .ok (.iload_n 1, 1) := by decide +kernel
theorem dX8_requireRange_6 : decode cX8_requireRange 6 = .ok (.if_icmp .le 14, 3) := by decide +kernel
theorem dX8_requireRange_9 : decode cX8_requireRange 9 = .ok (.new 155, 3) := by decide +kernel
theorem dX8_requireRange_12 : decode cX8_requireRange 12 = .ok (.dup, 1) := by decide +kernel
theorem dX8_requireRange_13 : decode cX8_requireRange 13 = .ok (.ldc_w 351, 3) := by decide +kernel
theorem dX8_requireRange_16 : decode cX8_requireRange 16 = .ok (.invokespecial 159, 3) := by decide +kernel
theorem dX8_requireRange_19 : decode cX8_requireRange 19 = .ok (.athrow, 1) := by decide +kernel
theorem dX8_requireRange_20 : decode cX8_requireRange 20 = .ok (.return_, 1) := by decide +kernel
set_option maxRecDepth 20000 in
theorem ggX8_isleOf_Jx4a65c_size_8abf5 : GoodIn wsX8_isleOf wsJx4a65c_size_8abf5 := goodIn_r _ [9, 10, 37, 38, 39] (by decide +kernel) (by decide +kernel)
set_option maxRecDepth 20000 in
theorem gX8_isleOf_Jx4a65c_size_8abf5 : GoodIn wsX8_isleOf (wsV RX8 64 RJx4a65c yJx4a65c_size_8abf5 wsJx4a65c_size_8abf5) := goodIn_app (goodIn_of _ (by decide +kernel)) ggX8_isleOf_Jx4a65c_size_8abf5
set_option maxRecDepth 20000 in
theorem ggX8_isleOf_Jx4a65c_get_915e3 : GoodIn wsX8_isleOf wsJx4a65c_get_915e3 := goodIn_r _ [14, 10, 15, 16, 17, 18, 19, 20, 21, 22, 23, 24, 25, 8, 26, 27, 37, 38, 39] (by decide +kernel) (by decide +kernel)
set_option maxRecDepth 20000 in
theorem gX8_isleOf_Jx4a65c_get_915e3 : GoodIn wsX8_isleOf (wsV RX8 114 RJx4a65c yJx4a65c_get_915e3 wsJx4a65c_get_915e3) := goodIn_app (goodIn_of _ (by decide +kernel)) ggX8_isleOf_Jx4a65c_get_915e3
theorem dX8_isleOf_0 : decode cX8_isleOf 0 = .ok (.iload_n 1, 1) := by decide +kernel
theorem dX8_isleOf_1 : decode cX8_isleOf 1 = .ok (.ifCond .lt 14, 3) := by decide +kernel
theorem dX8_isleOf_4 : decode cX8_isleOf 4 = .ok (.iload_n 1, 1) := by decide +kernel
theorem dX8_isleOf_5 : decode cX8_isleOf 5 = .ok (.aload_n 0, 1) := by decide +kernel
theorem dX8_isleOf_6 : decode cX8_isleOf 6 = .ok (.getfield 10, 3) := by decide +kernel
theorem dX8_isleOf_9 : decode cX8_isleOf 9 = .ok (.invokevirtual 64, 3) := by decide +kernel
theorem dX8_isleOf_12 : decode cX8_isleOf 12 = .ok (.if_icmp .lt 14, 3) := by decide +kernel
theorem dX8_isleOf_15 : decode cX8_isleOf 15 = .ok (.new 353, 3) := by decide +kernel
theorem dX8_isleOf_18 : decode cX8_isleOf 18 = .ok (.dup, 1) := by decide +kernel
theorem dX8_isleOf_19 : decode cX8_isleOf 19 = .ok (.ldc_w 355, 3) := by decide +kernel
theorem dX8_isleOf_22 : decode cX8_isleOf 22 = .ok (.invokespecial 357, 3) := by decide +kernel
theorem dX8_isleOf_25 : decode cX8_isleOf 25 = .ok (.athrow, 1) := by decide +kernel
theorem dX8_isleOf_26 : decode cX8_isleOf 26 = .ok (.aload_n 0, 1) := by decide +kernel
theorem dX8_isleOf_27 : decode cX8_isleOf 27 = .ok (.getfield 10, 3) := by decide +kernel
theorem dX8_isleOf_30 : decode cX8_isleOf 30 = .ok (.iload_n 1, 1) := by decide +kernel
theorem dX8_isleOf_31 : decode cX8_isleOf 31 = .ok (.invokevirtual 114, 3) := by decide +kernel
theorem dX8_isleOf_34 : decode cX8_isleOf 34 = .ok (.checkcast 75, 3) := by decide +kernel
theorem dX8_isleOf_37 : decode cX8_isleOf 37 = .ok (.areturn, 1) := by decide +kernel
set_option maxRecDepth 20000 in
theorem ggX8_shipOf_Jx4a65c_size_8abf5 : GoodIn wsX8_shipOf wsJx4a65c_size_8abf5 := goodIn_r _ [9, 10, 37, 38, 39] (by decide +kernel) (by decide +kernel)
set_option maxRecDepth 20000 in
theorem gX8_shipOf_Jx4a65c_size_8abf5 : GoodIn wsX8_shipOf (wsV RX8 64 RJx4a65c yJx4a65c_size_8abf5 wsJx4a65c_size_8abf5) := goodIn_app (goodIn_of _ (by decide +kernel)) ggX8_shipOf_Jx4a65c_size_8abf5
set_option maxRecDepth 20000 in
theorem ggX8_shipOf_Jx4a65c_get_915e3 : GoodIn wsX8_shipOf wsJx4a65c_get_915e3 := goodIn_r _ [14, 10, 15, 16, 17, 18, 19, 20, 21, 22, 23, 24, 25, 8, 26, 27, 37, 38, 39] (by decide +kernel) (by decide +kernel)
set_option maxRecDepth 20000 in
theorem gX8_shipOf_Jx4a65c_get_915e3 : GoodIn wsX8_shipOf (wsV RX8 114 RJx4a65c yJx4a65c_get_915e3 wsJx4a65c_get_915e3) := goodIn_app (goodIn_of _ (by decide +kernel)) ggX8_shipOf_Jx4a65c_get_915e3
theorem dX8_shipOf_0 : decode cX8_shipOf 0 = .ok (.iload_n 1, 1) := by decide +kernel
theorem dX8_shipOf_1 : decode cX8_shipOf 1 = .ok (.ifCond .lt 14, 3) := by decide +kernel
theorem dX8_shipOf_4 : decode cX8_shipOf 4 = .ok (.iload_n 1, 1) := by decide +kernel
theorem dX8_shipOf_5 : decode cX8_shipOf 5 = .ok (.aload_n 0, 1) := by decide +kernel
theorem dX8_shipOf_6 : decode cX8_shipOf 6 = .ok (.getfield 40, 3) := by decide +kernel
theorem dX8_shipOf_9 : decode cX8_shipOf 9 = .ok (.invokevirtual 64, 3) := by decide +kernel
theorem dX8_shipOf_12 : decode cX8_shipOf 12 = .ok (.if_icmp .lt 14, 3) := by decide +kernel
theorem dX8_shipOf_15 : decode cX8_shipOf 15 = .ok (.new 353, 3) := by decide +kernel
theorem dX8_shipOf_18 : decode cX8_shipOf 18 = .ok (.dup, 1) := by decide +kernel
theorem dX8_shipOf_19 : decode cX8_shipOf 19 = .ok (.ldc_w 358, 3) := by decide +kernel
theorem dX8_shipOf_22 : decode cX8_shipOf 22 = .ok (.invokespecial 357, 3) := by decide +kernel
theorem dX8_shipOf_25 : decode cX8_shipOf 25 = .ok (.athrow, 1) := by decide +kernel
theorem dX8_shipOf_26 : decode cX8_shipOf 26 = .ok (.aload_n 0, 1) := by decide +kernel
theorem dX8_shipOf_27 : decode cX8_shipOf 27 = .ok (.getfield 40, 3) := by decide +kernel
theorem dX8_shipOf_30 : decode cX8_shipOf 30 = .ok (.iload_n 1, 1) := by decide +kernel
theorem dX8_shipOf_31 : decode cX8_shipOf 31 = .ok (.invokevirtual 114, 3) := by decide +kernel
theorem dX8_shipOf_34 : decode cX8_shipOf 34 = .ok (.checkcast 112, 3) := by decide +kernel
theorem dX8_shipOf_37 : decode cX8_shipOf 37 = .ok (.areturn, 1) := by decide +kernel
set_option maxRecDepth 20000 in
theorem ggX8_findNumbered_Jx4a65c_size_8abf5 : GoodIn wsX8_findNumbered wsJx4a65c_size_8abf5 := goodIn_r _ [9, 10, 37, 38, 39] (by decide +kernel) (by decide +kernel)
set_option maxRecDepth 20000 in
theorem gX8_findNumbered_Jx4a65c_size_8abf5 : GoodIn wsX8_findNumbered (wsV RX8 64 RJx4a65c yJx4a65c_size_8abf5 wsJx4a65c_size_8abf5) := goodIn_app (goodIn_of _ (by decide +kernel)) ggX8_findNumbered_Jx4a65c_size_8abf5
set_option maxRecDepth 20000 in
theorem ggX8_findNumbered_Jx4a65c_get_915e3 : GoodIn wsX8_findNumbered wsJx4a65c_get_915e3 := goodIn_r _ [14, 10, 15, 16, 17, 18, 19, 20, 21, 22, 23, 24, 25, 8, 26, 27, 37, 38, 39] (by decide +kernel) (by decide +kernel)
set_option maxRecDepth 20000 in
theorem gX8_findNumbered_Jx4a65c_get_915e3 : GoodIn wsX8_findNumbered (wsV RX8 114 RJx4a65c yJx4a65c_get_915e3 wsJx4a65c_get_915e3) := goodIn_app (goodIn_of _ (by decide +kernel)) ggX8_findNumbered_Jx4a65c_get_915e3
theorem dX8_findNumbered_0 : decode cX8_findNumbered 0 = .ok (.iload_n 1, 1) := by decide +kernel
theorem dX8_findNumbered_1 : decode cX8_findNumbered 1 = .ok (.ifCond .lt 14, 3) := by decide +kernel
theorem dX8_findNumbered_4 : decode cX8_findNumbered 4 = .ok (.iload_n 1, 1) := by decide +kernel
theorem dX8_findNumbered_5 : decode cX8_findNumbered 5 = .ok (.aload_n 0, 1) := by decide +kernel
theorem dX8_findNumbered_6 : decode cX8_findNumbered 6 = .ok (.getfield 16, 3) := by decide +kernel
theorem dX8_findNumbered_9 : decode cX8_findNumbered 9 = .ok (.invokevirtual 64, 3) := by decide +kernel
theorem dX8_findNumbered_12 : decode cX8_findNumbered 12 = .ok (.if_icmp .lt 14, 3) := by decide +kernel
theorem dX8_findNumbered_15 : decode cX8_findNumbered 15 = .ok (.new 353, 3) := by decide +kernel
theorem dX8_findNumbered_18 : decode cX8_findNumbered 18 = .ok (.dup, 1) := by decide +kernel
theorem dX8_findNumbered_19 : decode cX8_findNumbered 19 = .ok (.ldc_w 360, 3) := by decide +kernel
theorem dX8_findNumbered_22 : decode cX8_findNumbered 22 = .ok (.invokespecial 357, 3) := by decide +kernel
theorem dX8_findNumbered_25 : decode cX8_findNumbered 25 = .ok (.athrow, 1) := by decide +kernel
theorem dX8_findNumbered_26 : decode cX8_findNumbered 26 = .ok (.aload_n 0, 1) := by decide +kernel
theorem dX8_findNumbered_27 : decode cX8_findNumbered 27 = .ok (.getfield 16, 3) := by decide +kernel
theorem dX8_findNumbered_30 : decode cX8_findNumbered 30 = .ok (.iload_n 1, 1) := by decide +kernel
theorem dX8_findNumbered_31 : decode cX8_findNumbered 31 = .ok (.invokevirtual 114, 3) := by decide +kernel
theorem dX8_findNumbered_34 : decode cX8_findNumbered 34 = .ok (.checkcast 95, 3) := by decide +kernel
theorem dX8_findNumbered_37 : decode cX8_findNumbered 37 = .ok (.areturn, 1) := by decide +kernel
set_option maxRecDepth 20000 in
theorem ggX8_segmentNumbered_X5_numbered : GoodIn wsX8_segmentNumbered wsX5_numbered := goodIn_r _ [8, 9, 10, 11, 12, 13, 14, 15, 16, 17, 18, 19, 20, 21, 22, 23, 24, 25, 26, 27, 28, 29, 30, 31, 32, 33, 34, 44, 45, 46, 47, 48, 49, 50, 51] (by decide +kernel) (by decide +kernel)
set_option maxRecDepth 20000 in
theorem gX8_segmentNumbered_X5_numbered : GoodIn wsX8_segmentNumbered (wsV RX8 160 RX5 yX5_numbered wsX5_numbered) := goodIn_app (goodIn_of _ (by decide +kernel)) ggX8_segmentNumbered_X5_numbered
theorem dX8_segmentNumbered_0 : decode cX8_segmentNumbered 0 = .ok (.aload_n 0, 1) := by decide +kernel
theorem dX8_segmentNumbered_1 : decode cX8_segmentNumbered 1 = .ok (.getfield 36, 3) := by decide +kernel
theorem dX8_segmentNumbered_4 : decode cX8_segmentNumbered 4 = .ok (.iload_n 1, 1) := by decide +kernel
theorem dX8_segmentNumbered_5 : decode cX8_segmentNumbered 5 = .ok (.invokevirtual 160, 3) := by decide +kernel
theorem dX8_segmentNumbered_8 : decode cX8_segmentNumbered 8 = .ok (.astore_n 2, 1) := by decide +kernel
theorem dX8_segmentNumbered_9 : decode cX8_segmentNumbered 9 = .ok (.aload_n 2, 1) := by decide +kernel
theorem dX8_segmentNumbered_10 : decode cX8_segmentNumbered 10 = .ok (.ifnonnull 13, 3) := by decide +kernel
theorem dX8_segmentNumbered_13 : decode cX8_segmentNumbered 13 = .ok (.new 140, 3) := by decide +kernel
theorem dX8_segmentNumbered_16 : decode cX8_segmentNumbered 16 = .ok (.dup, 1) := by decide +kernel
theorem dX8_segmentNumbered_17 : decode cX8_segmentNumbered 17 = .ok (.ldc 142, 2) := by decide +kernel
theorem dX8_segmentNumbered_19 : decode cX8_segmentNumbered 19 = .ok (.invokespecial 144, 3) := by decide +kernel
theorem dX8_segmentNumbered_22 : decode cX8_segmentNumbered 22 = .ok (.athrow, 1) := by decide +kernel
theorem dX8_segmentNumbered_23 : decode cX8_segmentNumbered 23 = .ok (.aload_n 2, 1) := by decide +kernel
theorem dX8_segmentNumbered_24 : decode cX8_segmentNumbered 24 = .ok (.areturn, 1) := by decide +kernel
set_option maxRecDepth 20000 in
theorem ggX8_requireClosed_X5_isOpen : GoodIn wsX8_requireClosed wsX5_isOpen := goodIn_r _ [8, 9, 19, 20, 21] (by decide +kernel) (by decide +kernel)
set_option maxRecDepth 20000 in
theorem gX8_requireClosed_X5_isOpen : GoodIn wsX8_requireClosed (wsV RX8 362 RX5 yX5_isOpen wsX5_isOpen) := goodIn_app (goodIn_of _ (by decide +kernel)) ggX8_requireClosed_X5_isOpen
theorem dX8_requireClosed_0 : decode cX8_requireClosed 0 = .ok (.aload_n 0, 1) := by decide +kernel
theorem dX8_requireClosed_1 : decode cX8_requireClosed 1 = .ok (.getfield 36, 3) := by decide +kernel
theorem dX8_requireClosed_4 : decode cX8_requireClosed 4 = .ok (.aload_n 1, 1) := by decide +kernel
theorem dX8_requireClosed_5 : decode cX8_requireClosed 5 = .ok (.invokevirtual 362, 3) := by decide +kernel
theorem dX8_requireClosed_8 : decode cX8_requireClosed 8 = .ok (.ifCond .eq 14, 3) := by decide +kernel
theorem dX8_requireClosed_11 : decode cX8_requireClosed 11 = .ok (.new 128, 3) := by decide +kernel
theorem dX8_requireClosed_14 : decode cX8_requireClosed 14 = .ok (.dup, 1) := by decide +kernel
theorem dX8_requireClosed_15 : decode cX8_requireClosed 15 = .ok (.ldc_w 366, 3) := by decide +kernel
theorem dX8_requireClosed_18 : decode cX8_requireClosed 18 = .ok (.invokespecial 132, 3) := by decide +kernel
theorem dX8_requireClosed_21 : decode cX8_requireClosed 21 = .ok (.athrow, 1) := by decide +kernel
theorem dX8_requireClosed_22 : decode cX8_requireClosed 22 = .ok (.return_, 1) := by decide +kernel
set_option maxRecDepth 20000 in
theorem ggX8_requireMap_X3_isEmpty : GoodIn wsX8_requireMap wsX3_isEmpty := goodIn_r _ [8, 9, 19, 20, 21] (by decide +kernel) (by decide +kernel)
set_option maxRecDepth 20000 in
theorem gX8_requireMap_X3_isEmpty : GoodIn wsX8_requireMap (wsV RX8 226 RX3 yX3_isEmpty wsX3_isEmpty) := goodIn_app (goodIn_of _ (by decide +kernel)) ggX8_requireMap_X3_isEmpty
theorem dX8_requireMap_0 : decode cX8_requireMap 0 = .ok (.aload_n 0, 1) := by decide +kernel
theorem dX8_requireMap_1 : decode cX8_requireMap 1 = .ok (.getfield 46, 3) := by decide +kernel
theorem dX8_requireMap_4 : decode cX8_requireMap 4 = .ok (.invokevirtual 226, 3) := by decide +kernel
theorem dX8_requireMap_7 : decode cX8_requireMap 7 = .ok (.ifCond .eq 14, 3) := by decide +kernel
theorem dX8_requireMap_10 : decode cX8_requireMap 10 = .ok (.new 128, 3) := by decide +kernel
theorem dX8_requireMap_13 : decode cX8_requireMap 13 = .ok (.dup, 1) := by decide +kernel
theorem dX8_requireMap_14 : decode cX8_requireMap 14 = .ok (.ldc_w 368, 3) := by decide +kernel
theorem dX8_requireMap_17 : decode cX8_requireMap 17 = .ok (.invokespecial 132, 3) := by decide +kernel
theorem dX8_requireMap_20 : decode cX8_requireMap 20 = .ok (.athrow, 1) := by decide +kernel
theorem dX8_requireMap_21 : decode cX8_requireMap 21 = .ok (.return_, 1) := by decide +kernel
set_option maxRecDepth 20000 in
theorem ggX8_requireRoomForFind_Jx4a65c_size_8abf5 : GoodIn wsX8_requireRoomForFind wsJx4a65c_size_8abf5 := goodIn_r _ [9, 10, 29, 30, 31] (by decide +kernel) (by decide +kernel)
set_option maxRecDepth 20000 in
theorem gX8_requireRoomForFind_Jx4a65c_size_8abf5 : GoodIn wsX8_requireRoomForFind (wsV RX8 64 RJx4a65c yJx4a65c_size_8abf5 wsJx4a65c_size_8abf5) := goodIn_app (goodIn_of _ (by decide +kernel)) ggX8_requireRoomForFind_Jx4a65c_size_8abf5
set_option maxRecDepth 20000 in
theorem ggX8_requireRoomForFind_X5_hasRoomFor : GoodIn wsX8_requireRoomForFind wsX5_hasRoomFor := goodIn_r _ [15, 16, 17, 18, 19, 6, 7, 8, 9, 10, 32, 33, 34, 35, 36, 29, 30, 31] (by decide +kernel) (by decide +kernel)
set_option maxRecDepth 20000 in
theorem gX8_requireRoomForFind_X5_hasRoomFor : GoodIn wsX8_requireRoomForFind (wsV RX8 184 RX5 yX5_hasRoomFor wsX5_hasRoomFor) := goodIn_app (goodIn_of _ (by decide +kernel)) ggX8_requireRoomForFind_X5_hasRoomFor
theorem dX8_requireRoomForFind_0 : decode cX8_requireRoomForFind 0 = .ok (.aload_n 0, 1) := by decide +kernel
theorem dX8_requireRoomForFind_1 : decode cX8_requireRoomForFind 1 = .ok (.getfield 16, 3) := by decide +kernel
theorem dX8_requireRoomForFind_4 : decode cX8_requireRoomForFind 4 = .ok (.invokevirtual 64, 3) := by decide +kernel
theorem dX8_requireRoomForFind_7 : decode cX8_requireRoomForFind 7 = .ok (.bipush 120, 2) := by decide +kernel
theorem dX8_requireRoomForFind_9 : decode cX8_requireRoomForFind 9 = .ok (.if_icmp .lt 14, 3) := by decide +kernel
theorem dX8_requireRoomForFind_12 : decode cX8_requireRoomForFind 12 = .ok (.new 68, 3) := by decide +kernel
theorem dX8_requireRoomForFind_15 : decode cX8_requireRoomForFind 15 = .ok (.dup, 1) := by decide +kernel
theorem dX8_requireRoomForFind_16 : decode cX8_requireRoomForFind 16 = .ok (.ldc_w 370, 3) := by decide +kernel
theorem dX8_requireRoomForFind_19 : decode cX8_requireRoomForFind 19 = .ok (.invokespecial 72, 3) := by decide +kernel
theorem dX8_requireRoomForFind_22 : decode cX8_requireRoomForFind 22 = .ok (.athrow, 1) := by decide +kernel
theorem dX8_requireRoomForFind_23 : decode cX8_requireRoomForFind 23 = .ok (.aload_n 0, 1) := by decide +kernel
theorem dX8_requireRoomForFind_24 : decode cX8_requireRoomForFind 24 = .ok (.getfield 36, 3) := by decide +kernel
theorem dX8_requireRoomForFind_27 : decode cX8_requireRoomForFind 27 = .ok (.iconst 1, 1) := by decide +kernel
theorem dX8_requireRoomForFind_28 : decode cX8_requireRoomForFind 28 = .ok (.invokevirtual 184, 3) := by decide +kernel
theorem dX8_requireRoomForFind_31 : decode cX8_requireRoomForFind 31 = .ok (.ifCond .ne 14, 3) := by decide +kernel
theorem dX8_requireRoomForFind_34 : decode cX8_requireRoomForFind 34 = .ok (.new 68, 3) := by decide +kernel
theorem dX8_requireRoomForFind_37 : decode cX8_requireRoomForFind 37 = .ok (.dup, 1) := by decide +kernel
theorem dX8_requireRoomForFind_38 : decode cX8_requireRoomForFind 38 = .ok (.ldc_w 372, 3) := by decide +kernel
theorem dX8_requireRoomForFind_41 : decode cX8_requireRoomForFind 41 = .ok (.invokespecial 72, 3) := by decide +kernel
theorem dX8_requireRoomForFind_44 : decode cX8_requireRoomForFind 44 = .ok (.athrow, 1) := by decide +kernel
theorem dX8_requireRoomForFind_45 : decode cX8_requireRoomForFind 45 = .ok (.return_, 1) := by decide +kernel
set_option maxRecDepth 20000 in
theorem ggX8_enter_Jx4a65c_add_9ea2d : GoodIn wsX8_enter wsJx4a65c_add_9ea2d := goodIn_r _ [7, 8, 9, 10, 11, 12, 13, 14, 6, 15, 16, 17, 18, 19, 20, 21, 22, 23, 24, 25, 26, 27, 28, 29, 30, 31, 32, 33, 34, 35, 36, 37, 38, 39, 40, 41, 42, 43, 44, 45, 46, 47, 48, 49, 50, 51, 52, 53, 54, 55, 56, 57, 58, 173, 174, 175] (by decide +kernel) (by decide +kernel)
set_option maxRecDepth 20000 in
theorem gX8_enter_Jx4a65c_add_9ea2d : GoodIn wsX8_enter (wsV RX8 80 RJx4a65c yJx4a65c_add_9ea2d wsJx4a65c_add_9ea2d) := goodIn_app (goodIn_of _ (by decide +kernel)) ggX8_enter_Jx4a65c_add_9ea2d
set_option maxRecDepth 20000 in
theorem ggX8_enter_X8_store : GoodIn wsX8_enter wsX8_store := goodIn_r _ [63, 64, 65, 66, 67, 68, 69, 70, 71, 72, 73, 74, 75, 76, 77, 78, 79, 80, 81, 82, 83, 84, 85, 86, 87, 88, 89, 90, 6, 91, 92, 93, 94, 24, 10, 95, 96, 97, 98, 99, 100, 101, 102, 103, 104, 105, 4, 5, 7, 8, 9, 11, 12, 13, 14, 15, 16, 17, 18, 19, 20, 21, 22, 23, 25, 26, 27, 28, 29, 30, 31, 32, 33, 34, 35, 36, 37, 38, 39, 40, 41, 42, 43, 44, 45, 46, 47, 48, 49, 50, 51, 52, 53, 54, 55, 56, 57, 58, 106, 107, 108, 109, 110, 111, 112, 113, 114, 115, 116, 117, 118, 119, 120, 121, 122, 123, 124, 125, 126, 127, 128, 129, 130, 131, 132, 133, 134, 135, 136, 137, 138, 139, 140, 141, 142, 143, 144, 145, 146, 147, 148, 149, 150, 151, 152, 153, 154, 155, 156, 157, 158, 159, 160, 161, 162, 163, 164, 165, 176, 177, 178, 179, 180, 173, 174, 175, 166, 167, 168, 169, 170, 171, 172, 181] (by decide +kernel) (by decide +kernel)
set_option maxRecDepth 20000 in
theorem gX8_enter_X8_store : GoodIn wsX8_enter (wsV RX8 197 RX8 yX8_store wsX8_store) := goodIn_app (goodIn_of _ (by decide +kernel)) ggX8_enter_X8_store
theorem dX8_enter_0 : decode cX8_enter 0 = .ok (.aload_n 0, 1) := by decide +kernel
theorem dX8_enter_1 : decode cX8_enter 1 = .ok (.getfield 16, 3) := by decide +kernel
theorem dX8_enter_4 : decode cX8_enter 4 = .ok (.aload_n 1, 1) := by decide +kernel
theorem dX8_enter_5 : decode cX8_enter 5 = .ok (.invokevirtual 80, 3) := by decide +kernel
theorem dX8_enter_8 : decode cX8_enter 8 = .ok (.pop, 1) := by decide +kernel
theorem dX8_enter_9 : decode cX8_enter 9 = .ok (.aload_n 0, 1) := by decide +kernel
theorem dX8_enter_10 : decode cX8_enter 10 = .ok (.aload_n 1, 1) := by decide +kernel
theorem dX8_enter_11 : decode cX8_enter 11 = .ok (.invokevirtual 197, 3) := by decide +kernel
theorem dX8_enter_14 : decode cX8_enter 14 = .ok (.aload_n 1, 1) := by decide +kernel
theorem dX8_enter_15 : decode cX8_enter 15 = .ok (.getfield 221, 3) := by decide +kernel
theorem dX8_enter_18 : decode cX8_enter 18 = .ok (.ireturn, 1) := by decide +kernel
set_option maxRecDepth 20000 in
theorem ggX8_store_X5_put : GoodIn wsX8_store wsX5_put := goodIn_r _ [7, 8, 9, 10, 11, 12, 6, 13, 14, 15, 16, 17, 18, 19, 20, 21, 22, 23, 24, 25, 26, 27, 28, 29, 30, 31, 32, 33, 34, 35, 36, 37, 38, 39, 40, 41, 42, 43, 44, 45, 46, 47, 48, 49, 50, 51, 52, 53, 54, 55, 56, 57, 58, 59, 60, 61, 62, 63, 64, 65, 66, 67, 68, 69, 70, 71, 72, 73, 74, 75, 76, 77, 78, 79, 80, 81, 82, 83, 84, 85, 86, 87, 88, 89, 90, 91, 92, 93, 94, 95, 96, 97, 98, 99, 100, 101, 102, 103, 104, 105, 106, 107, 158, 159, 160, 161, 162, 163, 164, 165, 166, 167, 168, 169, 170, 171, 172] (by decide +kernel) (by decide +kernel)
set_option maxRecDepth 20000 in
theorem gX8_store_X5_put : GoodIn wsX8_store (wsV RX8 374 RX5 yX5_put wsX5_put) := goodIn_app (goodIn_of _ (by decide +kernel)) ggX8_store_X5_put
set_option maxRecDepth 20000 in
theorem ggX8_store_X1_enter : GoodIn wsX8_store wsX1_enter := goodIn_r _ [112, 113, 114, 115, 105, 106, 28, 107, 51, 116, 117, 118, 119, 120, 121, 122, 123, 124, 125, 126, 127, 128, 129, 130, 131, 34, 132, 133, 134, 135, 136, 137, 138, 139, 140, 141, 142, 143, 49, 50, 144, 95, 96, 97, 145, 146, 147, 148, 56, 57, 58, 59, 60, 61, 62, 63, 33, 64, 65, 66, 67, 68, 69, 70, 71, 72, 73, 74, 75, 76, 77, 78, 79, 80, 81, 82, 83, 84, 85, 86, 87, 88, 89, 90, 91, 92, 93, 94, 173, 163, 164, 165, 166, 167, 168, 169, 170, 171, 172] (by decide +kernel) (by decide +kernel)
set_option maxRecDepth 20000 in
theorem gX8_store_X1_enter : GoodIn wsX8_store (wsV RX8 377 RX1 yX1_enter wsX1_enter) := goodIn_app (goodIn_of _ (by decide +kernel)) ggX8_store_X1_enter
theorem dX8_store_0 : decode cX8_store 0 = .ok (.aload_n 0, 1) := by decide +kernel
theorem dX8_store_1 : decode cX8_store 1 = .ok (.getfield 36, 3) := by decide +kernel
theorem dX8_store_4 : decode cX8_store 4 = .ok (.aload_n 1, 1) := by decide +kernel
theorem dX8_store_5 : decode cX8_store 5 = .ok (.invokevirtual 374, 3) := by decide +kernel
theorem dX8_store_8 : decode cX8_store 8 = .ok (.aload_n 0, 1) := by decide +kernel
theorem dX8_store_9 : decode cX8_store 9 = .ok (.getfield 22, 3) := by decide +kernel
theorem dX8_store_12 : decode cX8_store 12 = .ok (.aload_n 1, 1) := by decide +kernel
theorem dX8_store_13 : decode cX8_store 13 = .ok (.invokevirtual 377, 3) := by decide +kernel
theorem dX8_store_16 : decode cX8_store 16 = .ok (.return_, 1) := by decide +kernel
set_option maxRecDepth 20000 in
theorem ggX8_takeFromIndex_Jx4a65c_size_8abf5 : GoodIn wsX8_takeFromIndex wsJx4a65c_size_8abf5 := goodIn_r _ [8, 9, 60, 61, 62] (by decide +kernel) (by decide +kernel)
set_option maxRecDepth 20000 in
theorem gX8_takeFromIndex_Jx4a65c_size_8abf5 : GoodIn wsX8_takeFromIndex (wsV RX8 64 RJx4a65c yJx4a65c_size_8abf5 wsJx4a65c_size_8abf5) := goodIn_app (goodIn_of _ (by decide +kernel)) ggX8_takeFromIndex_Jx4a65c_size_8abf5
set_option maxRecDepth 20000 in
theorem ggX8_takeFromIndex_Jx4a65c_get_915e3 : GoodIn wsX8_takeFromIndex wsJx4a65c_get_915e3 := goodIn_r _ [13, 9, 14, 15, 16, 17, 18, 19, 20, 21, 22, 23, 24, 7, 25, 26, 60, 61, 62] (by decide +kernel) (by decide +kernel)
set_option maxRecDepth 20000 in
theorem gX8_takeFromIndex_Jx4a65c_get_915e3 : GoodIn wsX8_takeFromIndex (wsV RX8 114 RJx4a65c yJx4a65c_get_915e3 wsJx4a65c_get_915e3) := goodIn_app (goodIn_of _ (by decide +kernel)) ggX8_takeFromIndex_Jx4a65c_get_915e3
set_option maxRecDepth 20000 in
theorem ggX8_takeFromIndex_X1_leave : GoodIn wsX8_takeFromIndex wsX1_leave := goodIn_r _ [31, 32, 33, 5, 6, 7, 8, 9, 34, 11, 12, 13, 14, 15, 16, 17, 18, 19, 20, 21, 22, 23, 24, 25, 26, 35, 36, 37, 38, 39, 40, 41, 42, 43, 44, 45, 46, 47, 48, 63, 60, 61, 62] (by decide +kernel) (by decide +kernel)
set_option maxRecDepth 20000 in
theorem gX8_takeFromIndex_X1_leave : GoodIn wsX8_takeFromIndex (wsV RX8 301 RX1 yX1_leave wsX1_leave) := goodIn_app (goodIn_of _ (by decide +kernel)) ggX8_takeFromIndex_X1_leave
theorem dX8_takeFromIndex_0 : decode cX8_takeFromIndex 0 = .ok (.iconst 0, 1) := by decide +kernel
theorem dX8_takeFromIndex_1 : decode cX8_takeFromIndex 1 = .ok (.istore_n 2, 1) := by decide +kernel
theorem dX8_takeFromIndex_2 : decode cX8_takeFromIndex 2 = .ok (.iload_n 2, 1) := by decide +kernel
theorem dX8_takeFromIndex_3 : decode cX8_takeFromIndex 3 = .ok (.aload_n 1, 1) := by decide +kernel
theorem dX8_takeFromIndex_4 : decode cX8_takeFromIndex 4 = .ok (.getfield 152, 3) := by decide +kernel
theorem dX8_takeFromIndex_7 : decode cX8_takeFromIndex 7 = .ok (.invokevirtual 64, 3) := by decide +kernel
theorem dX8_takeFromIndex_10 : decode cX8_takeFromIndex 10 = .ok (.if_icmp .ge 27, 3) := by decide +kernel
theorem dX8_takeFromIndex_13 : decode cX8_takeFromIndex 13 = .ok (.aload_n 0, 1) := by decide +kernel
theorem dX8_takeFromIndex_14 : decode cX8_takeFromIndex 14 = .ok (.getfield 22, 3) := by decide +kernel
theorem dX8_takeFromIndex_17 : decode cX8_takeFromIndex 17 = .ok (.aload_n 1, 1) := by decide +kernel
theorem dX8_takeFromIndex_18 : decode cX8_takeFromIndex 18 = .ok (.getfield 152, 3) := by decide +kernel
theorem dX8_takeFromIndex_21 : decode cX8_takeFromIndex 21 = .ok (.iload_n 2, 1) := by decide +kernel
theorem dX8_takeFromIndex_22 : decode cX8_takeFromIndex 22 = .ok (.invokevirtual 114, 3) := by decide +kernel
theorem dX8_takeFromIndex_25 : decode cX8_takeFromIndex 25 = .ok (.checkcast 95, 3) := by decide +kernel
theorem dX8_takeFromIndex_28 : decode cX8_takeFromIndex 28 = .ok (.invokevirtual 301, 3) := by decide +kernel
theorem dX8_takeFromIndex_31 : decode cX8_takeFromIndex 31 = .ok (.iinc 2 1, 3) := by decide +kernel
theorem dX8_takeFromIndex_34 : decode cX8_takeFromIndex 34 = .ok (.goto (-32), 3) := by decide +kernel
theorem dX8_takeFromIndex_37 : decode cX8_takeFromIndex 37 = .ok (.return_, 1) := by decide +kernel
set_option maxRecDepth 20000 in
theorem ggX8_lostFinds_Jx4a65c_size_8abf5 : GoodIn wsX8_lostFinds wsJx4a65c_size_8abf5 := goodIn_r _ [7, 8, 42, 43, 44] (by decide +kernel) (by decide +kernel)
set_option maxRecDepth 20000 in
theorem gX8_lostFinds_Jx4a65c_size_8abf5 : GoodIn wsX8_lostFinds (wsV RX8 64 RJx4a65c yJx4a65c_size_8abf5 wsJx4a65c_size_8abf5) := goodIn_app (goodIn_of _ (by decide +kernel)) ggX8_lostFinds_Jx4a65c_size_8abf5
set_option maxRecDepth 20000 in
theorem ggX8_lostFinds_Jx4a65c_get_915e3 : GoodIn wsX8_lostFinds wsJx4a65c_get_915e3 := goodIn_r _ [12, 8, 13, 14, 15, 16, 17, 18, 19, 20, 21, 22, 23, 6, 24, 25, 42, 43, 44] (by decide +kernel) (by decide +kernel)
set_option maxRecDepth 20000 in
theorem gX8_lostFinds_Jx4a65c_get_915e3 : GoodIn wsX8_lostFinds (wsV RX8 114 RJx4a65c yJx4a65c_get_915e3 wsJx4a65c_get_915e3) := goodIn_app (goodIn_of _ (by decide +kernel)) ggX8_lostFinds_Jx4a65c_get_915e3
set_option maxRecDepth 20000 in
theorem ggX8_lostFinds_X0_isLost : GoodIn wsX8_lostFinds wsX0_isLost := goodIn_r _ [30, 31, 32, 45, 46, 47, 48, 49, 50, 51] (by decide +kernel) (by decide +kernel)
set_option maxRecDepth 20000 in
theorem gX8_lostFinds_X0_isLost : GoodIn wsX8_lostFinds (wsV RX8 194 RX0 yX0_isLost wsX0_isLost) := goodIn_app (goodIn_of _ (by decide +kernel)) ggX8_lostFinds_X0_isLost
theorem dX8_lostFinds_0 : decode cX8_lostFinds 0 = .ok (.iconst 0, 1) := by decide +kernel
theorem dX8_lostFinds_1 : decode cX8_lostFinds 1 = .ok (.istore_n 1, 1) := by decide +kernel
theorem dX8_lostFinds_2 : decode cX8_lostFinds 2 = .ok (.iconst 0, 1) := by decide +kernel
theorem dX8_lostFinds_3 : decode cX8_lostFinds 3 = .ok (.istore_n 2, 1) := by decide +kernel
theorem dX8_lostFinds_4 : decode cX8_lostFinds 4 = .ok (.iload_n 2, 1) := by decide +kernel
theorem dX8_lostFinds_5 : decode cX8_lostFinds 5 = .ok (.aload_n 0, 1) := by decide +kernel
theorem dX8_lostFinds_6 : decode cX8_lostFinds 6 = .ok (.getfield 16, 3) := by decide +kernel
theorem dX8_lostFinds_9 : decode cX8_lostFinds 9 = .ok (.invokevirtual 64, 3) := by decide +kernel
theorem dX8_lostFinds_12 : decode cX8_lostFinds 12 = .ok (.if_icmp .ge 29, 3) := by decide +kernel
theorem dX8_lostFinds_15 : decode cX8_lostFinds 15 = .ok (.aload_n 0, 1) := by decide +kernel
theorem dX8_lostFinds_16 : decode cX8_lostFinds 16 = .ok (.getfield 16, 3) := by decide +kernel
theorem dX8_lostFinds_19 : decode cX8_lostFinds 19 = .ok (.iload_n 2, 1) := by decide +kernel
theorem dX8_lostFinds_20 : decode cX8_lostFinds 20 = .ok (.invokevirtual 114, 3) := by decide +kernel
theorem dX8_lostFinds_23 : decode cX8_lostFinds 23 = .ok (.checkcast 95, 3) := by decide +kernel
theorem dX8_lostFinds_26 : decode cX8_lostFinds 26 = .ok (.invokevirtual 194, 3) := by decide +kernel
theorem dX8_lostFinds_29 : decode cX8_lostFinds 29 = .ok (.ifCond .eq 6, 3) := by decide +kernel
theorem dX8_lostFinds_32 : decode cX8_lostFinds 32 = .ok (.iinc 1 1, 3) := by decide +kernel
theorem dX8_lostFinds_35 : decode cX8_lostFinds 35 = .ok (.iinc 2 1, 3) := by decide +kernel
theorem dX8_lostFinds_38 : decode cX8_lostFinds 38 = .ok (.goto (-34), 3) := by decide +kernel
theorem dX8_lostFinds_41 : decode cX8_lostFinds 41 = .ok (.iload_n 1, 1) := by decide +kernel
theorem dX8_lostFinds_42 : decode cX8_lostFinds 42 = .ok (.ireturn, 1) := by decide +kernel
set_option maxRecDepth 20000 in
theorem ggX8_leaveCause_J4_setLength_d00df : GoodIn wsX8_leaveCause wsJ4_setLength_d00df := goodIn_r _ [6, 7, 8, 9, 10, 11, 12, 13, 14, 15, 16, 17, 18, 19, 20, 21, 22, 23, 24, 25, 26, 27, 28, 29, 30, 31, 32, 33, 34, 35, 36, 37, 38, 39, 40, 41, 42, 43, 44, 45, 46, 47, 48, 49, 50, 51, 52, 53, 54, 55, 56, 57, 58, 59, 60, 61, 62, 63, 64, 65, 66, 67, 68, 69, 70, 71, 72, 73, 74, 75, 76, 77, 78, 5, 79, 80, 81, 82, 83, 84, 85, 86, 158, 159, 160, 161, 162, 163, 164, 165, 166, 167, 168, 169, 170, 171, 172, 173] (by decide +kernel) (by decide +kernel)
set_option maxRecDepth 20000 in
theorem gX8_leaveCause_J4_setLength_d00df : GoodIn wsX8_leaveCause (wsV RX8 379 RJ4 yJ4_setLength_d00df wsJ4_setLength_d00df) := goodIn_app (goodIn_of _ (by decide +kernel)) ggX8_leaveCause_J4_setLength_d00df
set_option maxRecDepth 20000 in
theorem ggX8_leaveCause_J4_append_cf468 : GoodIn wsX8_leaveCause wsJ4_append_cf468 := goodIn_r _ [90, 91, 92, 9, 93, 11, 94, 16, 17, 19, 20, 21, 22, 23, 24, 25, 26, 27, 28, 29, 30, 31, 32, 33, 34, 35, 36, 37, 38, 39, 40, 41, 42, 43, 44, 45, 46, 47, 48, 49, 50, 51, 52, 53, 54, 55, 56, 57, 58, 59, 60, 61, 62, 63, 64, 65, 66, 95, 96, 69, 97, 98, 99, 100, 101, 102, 103, 104, 84, 105, 106, 107, 108, 109, 110, 111, 112, 113, 114, 115, 116, 117, 118, 119, 120, 121, 122, 123, 124, 125, 126, 127, 128, 129, 130, 131, 132, 133, 134, 135, 136, 137, 138, 139, 140, 141, 142, 143, 144, 145, 146, 147, 148, 164, 165, 166, 167] (by decide +kernel) (by decide +kernel)
set_option maxRecDepth 20000 in
theorem gX8_leaveCause_J4_append_cf468 : GoodIn wsX8_leaveCause (wsV RX8 382 RJ4 yJ4_append_cf468 wsJ4_append_cf468) := goodIn_app (goodIn_of _ (by decide +kernel)) ggX8_leaveCause_J4_append_cf468
theorem dX8_leaveCause_0 : decode cX8_leaveCause 0 = .ok (.aload_n 0, 1) := by decide +kernel
theorem dX8_leaveCause_1 : decode cX8_leaveCause 1 = .ok (.getfield 53, 3) := by decide +kernel
theorem dX8_leaveCause_4 : decode cX8_leaveCause 4 = .ok (.iconst 0, 1) := by decide +kernel
theorem dX8_leaveCause_5 : decode cX8_leaveCause 5 = .ok (.invokevirtual 379, 3) := by decide +kernel
theorem dX8_leaveCause_8 : decode cX8_leaveCause 8 = .ok (.aload_n 0, 1) := by decide +kernel
theorem dX8_leaveCause_9 : decode cX8_leaveCause 9 = .ok (.getfield 53, 3) := by decide +kernel
theorem dX8_leaveCause_12 : decode cX8_leaveCause 12 = .ok (.iload_n 1, 1) := by decide +kernel
theorem dX8_leaveCause_13 : decode cX8_leaveCause 13 = .ok (.invokevirtual 382, 3) := by decide +kernel
theorem dX8_leaveCause_16 : decode cX8_leaveCause 16 = .ok (.pop, 1) := by decide +kernel
theorem dX8_leaveCause_17 : decode cX8_leaveCause 17 = .ok (.return_, 1) := by decide +kernel
set_option maxRecDepth 20000 in
theorem ggX8_leaveMergeCauses_X5_isOpen : GoodIn wsX8_leaveMergeCauses wsX5_isOpen := goodIn_r _ [7, 8, 165, 166, 167] (by decide +kernel) (by decide +kernel)
set_option maxRecDepth 20000 in
theorem gX8_leaveMergeCauses_X5_isOpen : GoodIn wsX8_leaveMergeCauses (wsV RX8 362 RX5 yX5_isOpen wsX5_isOpen) := goodIn_app (goodIn_of _ (by decide +kernel)) ggX8_leaveMergeCauses_X5_isOpen
set_option maxRecDepth 20000 in
theorem ggX8_leaveMergeCauses_J4_setLength_d00df : GoodIn wsX8_leaveMergeCauses wsJ4_setLength_d00df := goodIn_r _ [13, 14, 15, 16, 17, 18, 19, 20, 21, 22, 23, 24, 25, 26, 27, 28, 29, 30, 31, 32, 33, 34, 35, 36, 37, 38, 39, 40, 41, 42, 43, 44, 45, 46, 47, 48, 49, 50, 51, 52, 53, 54, 55, 56, 57, 58, 59, 60, 61, 62, 63, 64, 65, 66, 67, 68, 69, 70, 71, 72, 73, 74, 75, 76, 77, 78, 79, 80, 81, 82, 83, 84, 85, 12, 86, 87, 88, 89, 90, 91, 92, 93, 168, 169, 170, 171, 172, 173, 174, 175, 176, 177, 178, 179, 180, 181, 182, 183] (by decide +kernel) (by decide +kernel)
set_option maxRecDepth 20000 in
theorem gX8_leaveMergeCauses_J4_setLength_d00df : GoodIn wsX8_leaveMergeCauses (wsV RX8 379 RJ4 yJ4_setLength_d00df wsJ4_setLength_d00df) := goodIn_app (goodIn_of _ (by decide +kernel)) ggX8_leaveMergeCauses_J4_setLength_d00df
set_option maxRecDepth 20000 in
theorem ggX8_leaveMergeCauses_J4_append_cf468 : GoodIn wsX8_leaveMergeCauses wsJ4_append_cf468 := goodIn_r _ [97, 98, 99, 16, 100, 18, 101, 23, 24, 26, 27, 28, 29, 30, 31, 32, 33, 34, 35, 36, 37, 38, 39, 40, 41, 42, 43, 44, 45, 46, 47, 48, 49, 50, 51, 52, 53, 54, 55, 56, 57, 58, 59, 60, 61, 62, 63, 64, 65, 66, 67, 68, 69, 70, 71, 72, 73, 102, 103, 76, 104, 105, 106, 107, 108, 109, 110, 111, 91, 112, 113, 114, 115, 116, 117, 118, 119, 120, 121, 122, 123, 124, 125, 126, 127, 128, 129, 130, 131, 132, 133, 134, 135, 136, 137, 138, 139, 140, 141, 142, 143, 144, 145, 146, 147, 148, 149, 150, 151, 152, 153, 154, 155, 174, 175, 176, 177] (by decide +kernel) (by decide +kernel)
set_option maxRecDepth 20000 in
theorem gX8_leaveMergeCauses_J4_append_cf468 : GoodIn wsX8_leaveMergeCauses (wsV RX8 382 RJ4 yJ4_append_cf468 wsJ4_append_cf468) := goodIn_app (goodIn_of _ (by decide +kernel)) ggX8_leaveMergeCauses_J4_append_cf468
theorem dX8_leaveMergeCauses_0 : decode cX8_leaveMergeCauses 0 = .ok (.aload_n 1, 1) := by decide +kernel
theorem dX8_leaveMergeCauses_1 : decode cX8_leaveMergeCauses 1 = .ok (.ifnull 7, 3) := by decide +kernel
theorem dX8_leaveMergeCauses_4 : decode cX8_leaveMergeCauses 4 = .ok (.aload_n 2, 1) := by decide +kernel
theorem dX8_leaveMergeCauses_5 : decode cX8_leaveMergeCauses 5 = .ok (.ifnonnull 7, 3) := by decide +kernel
theorem dX8_leaveMergeCauses_8 : decode cX8_leaveMergeCauses 8 = .ok (.iconst 1, 1) := by decide +kernel
theorem dX8_leaveMergeCauses_9 : decode cX8_leaveMergeCauses 9 = .ok (.goto 4, 3) := by decide +kernel
theorem dX8_leaveMergeCauses_12 : decode cX8_leaveMergeCauses 12 = .ok (.iconst 0, 1) := by decide +kernel
theorem dX8_leaveMergeCauses_13 : decode cX8_leaveMergeCauses 13 = .ok (.istore_n 3, 1) := by decide +kernel
theorem dX8_leaveMergeCauses_14 : decode cX8_leaveMergeCauses 14 = .ok (.aload_n 0, 1) := by decide +kernel
theorem dX8_leaveMergeCauses_15 : decode cX8_leaveMergeCauses 15 = .ok (.getfield 36, 3) := by decide +kernel
theorem dX8_leaveMergeCauses_18 : decode cX8_leaveMergeCauses 18 = .ok (.aload_n 1, 1) := by decide +kernel
theorem dX8_leaveMergeCauses_19 : decode cX8_leaveMergeCauses 19 = .ok (.invokevirtual 362, 3) := by decide +kernel
theorem dX8_leaveMergeCauses_22 : decode cX8_leaveMergeCauses 22 = .ok (.ifCond .ne 14, 3) := by decide +kernel
theorem dX8_leaveMergeCauses_25 : decode cX8_leaveMergeCauses 25 = .ok (.aload_n 0, 1) := by decide +kernel
theorem dX8_leaveMergeCauses_26 : decode cX8_leaveMergeCauses 26 = .ok (.getfield 36, 3) := by decide +kernel
theorem dX8_leaveMergeCauses_29 : decode cX8_leaveMergeCauses 29 = .ok (.aload_n 2, 1) := by decide +kernel
theorem dX8_leaveMergeCauses_30 : decode cX8_leaveMergeCauses 30 = .ok (.invokevirtual 362, 3) := by decide +kernel
theorem dX8_leaveMergeCauses_33 : decode cX8_leaveMergeCauses 33 = .ok (.ifCond .eq 7, 3) := by decide +kernel
theorem dX8_leaveMergeCauses_36 : decode cX8_leaveMergeCauses 36 = .ok (.iconst 1, 1) := by decide +kernel
theorem dX8_leaveMergeCauses_37 : decode cX8_leaveMergeCauses 37 = .ok (.goto 4, 3) := by decide +kernel
theorem dX8_leaveMergeCauses_40 : decode cX8_leaveMergeCauses 40 = .ok (.iconst 0, 1) := by decide +kernel
theorem dX8_leaveMergeCauses_41 : decode cX8_leaveMergeCauses 41 = .ok (.istore 4, 2) := by decide +kernel
theorem dX8_leaveMergeCauses_43 : decode cX8_leaveMergeCauses 43 = .ok (.iload_n 3, 1) := by decide +kernel
theorem dX8_leaveMergeCauses_44 : decode cX8_leaveMergeCauses 44 = .ok (.ifCond .ne 9, 3) := by decide +kernel
theorem dX8_leaveMergeCauses_47 : decode cX8_leaveMergeCauses 47 = .ok (.iload 4, 2) := by decide +kernel
theorem dX8_leaveMergeCauses_49 : decode cX8_leaveMergeCauses 49 = .ok (.ifCond .ne 4, 3) := by decide +kernel
theorem dX8_leaveMergeCauses_52 : decode cX8_leaveMergeCauses 52 = .ok (.return_, 1) := by decide +kernel
theorem dX8_leaveMergeCauses_53 : decode cX8_leaveMergeCauses 53 = .ok (.aload_n 0, 1) := by decide +kernel
theorem dX8_leaveMergeCauses_54 : decode cX8_leaveMergeCauses 54 = .ok (.getfield 53, 3) := by decide +kernel
theorem dX8_leaveMergeCauses_57 : decode cX8_leaveMergeCauses 57 = .ok (.iconst 0, 1) := by decide +kernel
theorem dX8_leaveMergeCauses_58 : decode cX8_leaveMergeCauses 58 = .ok (.invokevirtual 379, 3) := by decide +kernel
theorem dX8_leaveMergeCauses_61 : decode cX8_leaveMergeCauses 61 = .ok (.aload_n 1, 1) := by decide +kernel
theorem dX8_leaveMergeCauses_62 : decode cX8_leaveMergeCauses 62 = .ok (.ifnonnull 13, 3) := by decide +kernel
theorem dX8_leaveMergeCauses_65 : decode cX8_leaveMergeCauses 65 = .ok (.aload_n 0, 1) := by decide +kernel
theorem dX8_leaveMergeCauses_66 : decode cX8_leaveMergeCauses 66 = .ok (.getfield 53, 3) := by decide +kernel
theorem dX8_leaveMergeCauses_69 : decode cX8_leaveMergeCauses 69 = .ok (.bipush 115, 2) := by decide +kernel
theorem dX8_leaveMergeCauses_71 : decode cX8_leaveMergeCauses 71 = .ok (.invokevirtual 382, 3) := by decide +kernel
theorem dX8_leaveMergeCauses_74 : decode cX8_leaveMergeCauses 74 = .ok (.pop, 1) := by decide +kernel
theorem dX8_leaveMergeCauses_75 : decode cX8_leaveMergeCauses 75 = .ok (.aload_n 2, 1) := by decide +kernel
theorem dX8_leaveMergeCauses_76 : decode cX8_leaveMergeCauses 76 = .ok (.ifnonnull 13, 3) := by decide +kernel
theorem dX8_leaveMergeCauses_79 : decode cX8_leaveMergeCauses 79 = .ok (.aload_n 0, 1) := by decide +kernel
theorem dX8_leaveMergeCauses_80 : decode cX8_leaveMergeCauses 80 = .ok (.getfield 53, 3) := by decide +kernel
theorem dX8_leaveMergeCauses_83 : decode cX8_leaveMergeCauses 83 = .ok (.bipush 115, 2) := by decide +kernel
theorem dX8_leaveMergeCauses_85 : decode cX8_leaveMergeCauses 85 = .ok (.invokevirtual 382, 3) := by decide +kernel
theorem dX8_leaveMergeCauses_88 : decode cX8_leaveMergeCauses 88 = .ok (.pop, 1) := by decide +kernel
theorem dX8_leaveMergeCauses_89 : decode cX8_leaveMergeCauses 89 = .ok (.iload 4, 2) := by decide +kernel
theorem dX8_leaveMergeCauses_91 : decode cX8_leaveMergeCauses 91 = .ok (.ifCond .eq 13, 3) := by decide +kernel
theorem dX8_leaveMergeCauses_94 : decode cX8_leaveMergeCauses 94 = .ok (.aload_n 0, 1) := by decide +kernel
theorem dX8_leaveMergeCauses_95 : decode cX8_leaveMergeCauses 95 = .ok (.getfield 53, 3) := by decide +kernel
theorem dX8_leaveMergeCauses_98 : decode cX8_leaveMergeCauses 98 = .ok (.bipush 111, 2) := by decide +kernel
theorem dX8_leaveMergeCauses_100 : decode cX8_leaveMergeCauses 100 = .ok (.invokevirtual 382, 3) := by decide +kernel
theorem dX8_leaveMergeCauses_103 : decode cX8_leaveMergeCauses 103 = .ok (.pop, 1) := by decide +kernel
theorem dX8_leaveMergeCauses_104 : decode cX8_leaveMergeCauses 104 = .ok (.return_, 1) := by decide +kernel
set_option maxRecDepth 20000 in
theorem ggX8_sendShipsBack_Jx4a65c_size_8abf5 : GoodIn wsX8_sendShipsBack wsJx4a65c_size_8abf5 := goodIn_r _ [9, 10, 134, 135, 136] (by decide +kernel) (by decide +kernel)
set_option maxRecDepth 20000 in
theorem gX8_sendShipsBack_Jx4a65c_size_8abf5 : GoodIn wsX8_sendShipsBack (wsV RX8 64 RJx4a65c yJx4a65c_size_8abf5 wsJx4a65c_size_8abf5) := goodIn_app (goodIn_of _ (by decide +kernel)) ggX8_sendShipsBack_Jx4a65c_size_8abf5
set_option maxRecDepth 20000 in
theorem ggX8_sendShipsBack_Jx4a65c_get_915e3 : GoodIn wsX8_sendShipsBack wsJx4a65c_get_915e3 := goodIn_r _ [14, 10, 15, 16, 17, 18, 19, 20, 21, 22, 23, 24, 25, 8, 26, 27, 134, 135, 136] (by decide +kernel) (by decide +kernel)
set_option maxRecDepth 20000 in
theorem gX8_sendShipsBack_Jx4a65c_get_915e3 : GoodIn wsX8_sendShipsBack (wsV RX8 114 RJx4a65c yJx4a65c_get_915e3 wsJx4a65c_get_915e3) := goodIn_app (goodIn_of _ (by decide +kernel)) ggX8_sendShipsBack_Jx4a65c_get_915e3
set_option maxRecDepth 20000 in
theorem ggX8_sendShipsBack_X3_isEmpty : GoodIn wsX8_sendShipsBack wsX3_isEmpty := goodIn_r _ [32, 33, 137, 138, 139] (by decide +kernel) (by decide +kernel)
set_option maxRecDepth 20000 in
theorem gX8_sendShipsBack_X3_isEmpty : GoodIn wsX8_sendShipsBack (wsV RX8 226 RX3 yX3_isEmpty wsX3_isEmpty) := goodIn_app (goodIn_of _ (by decide +kernel)) ggX8_sendShipsBack_X3_isEmpty
set_option maxRecDepth 20000 in
theorem ggX8_sendShipsBack_X8_isHit : GoodIn wsX8_sendShipsBack wsX8_isHit := goodIn_ca (goodIn_r _ [38, 39, 40, 41, 37, 42, 43, 44, 45, 46, 47, 48, 49, 50, 51, 52, 53, 54, 55, 56, 57, 58, 59, 60, 31, 61, 62, 63, 64, 65, 66, 67, 68, 69, 70, 71, 72, 6, 7, 8, 9, 10, 73, 12, 13, 14, 15, 16, 17, 18, 19, 20, 21, 22, 23, 24, 25, 26, 27, 74, 75, 76, 77, 78, 79, 80, 81, 82, 83, 84, 85, 86, 87, 88, 89, 90, 91, 92, 93, 94, 95, 96, 97, 98, 120, 121, 122, 123, 124, 125, 126, 127, 128, 140, 141, 142, 143, 144, 145, 146, 147, 148, 137, 138, 139, 149, 150, 151, 152, 153, 154, 155, 134, 135, 136] (by decide +kernel) (by decide +kernel)) (goodIn_sub (fun _ h => List.mem_cons_of_mem _ (List.mem_append_right _ h)) (by decide +kernel))
set_option maxRecDepth 20000 in
theorem gX8_sendShipsBack_X8_isHit : GoodIn wsX8_sendShipsBack (wsV RX8 241 RX8 yX8_isHit wsX8_isHit) := goodIn_app (goodIn_of _ (by decide +kernel)) ggX8_sendShipsBack_X8_isHit
set_option maxRecDepth 20000 in
theorem ggX8_sendShipsBack_X6_goBack : GoodIn wsX8_sendShipsBack wsX6_goBack := goodIn_r _ [103, 104, 105, 106, 107, 108, 109, 110, 111, 112, 102, 113, 114, 115, 79, 80, 81, 116, 117, 118, 31, 119, 33, 129, 130, 131, 132, 133, 141, 142, 143, 144, 145, 146, 137, 138, 139] (by decide +kernel) (by decide +kernel)
set_option maxRecDepth 20000 in
theorem gX8_sendShipsBack_X6_goBack : GoodIn wsX8_sendShipsBack (wsV RX8 385 RX6 yX6_goBack wsX6_goBack) := goodIn_app (goodIn_of _ (by decide +kernel)) ggX8_sendShipsBack_X6_goBack
theorem dX8_sendShipsBack_0 : decode cX8_sendShipsBack 0 = .ok (.iconst 0, 1) := by decide +kernel
theorem dX8_sendShipsBack_1 : decode cX8_sendShipsBack 1 = .ok (.istore_n 1, 1) := by decide +kernel
theorem dX8_sendShipsBack_2 : decode cX8_sendShipsBack 2 = .ok (.iconst 0, 1) := by decide +kernel
theorem dX8_sendShipsBack_3 : decode cX8_sendShipsBack 3 = .ok (.istore_n 2, 1) := by decide +kernel
theorem dX8_sendShipsBack_4 : decode cX8_sendShipsBack 4 = .ok (.iload_n 2, 1) := by decide +kernel
theorem dX8_sendShipsBack_5 : decode cX8_sendShipsBack 5 = .ok (.aload_n 0, 1) := by decide +kernel
theorem dX8_sendShipsBack_6 : decode cX8_sendShipsBack 6 = .ok (.getfield 40, 3) := by decide +kernel
theorem dX8_sendShipsBack_9 : decode cX8_sendShipsBack 9 = .ok (.invokevirtual 64, 3) := by decide +kernel
theorem dX8_sendShipsBack_12 : decode cX8_sendShipsBack 12 = .ok (.if_icmp .ge 53, 3) := by decide +kernel
theorem dX8_sendShipsBack_15 : decode cX8_sendShipsBack 15 = .ok (.aload_n 0, 1) := by decide +kernel
theorem dX8_sendShipsBack_16 : decode cX8_sendShipsBack 16 = .ok (.getfield 40, 3) := by decide +kernel
theorem dX8_sendShipsBack_19 : decode cX8_sendShipsBack 19 = .ok (.iload_n 2, 1) := by decide +kernel
theorem dX8_sendShipsBack_20 : decode cX8_sendShipsBack 20 = .ok (.invokevirtual 114, 3) := by decide +kernel
theorem dX8_sendShipsBack_23 : decode cX8_sendShipsBack 23 = .ok (.checkcast 112, 3) := by decide +kernel
theorem dX8_sendShipsBack_26 : decode cX8_sendShipsBack 26 = .ok (.astore_n 3, 1) := by decide +kernel
theorem dX8_sendShipsBack_27 : decode cX8_sendShipsBack 27 = .ok (.aload_n 3, 1) := by decide +kernel
theorem dX8_sendShipsBack_28 : decode cX8_sendShipsBack 28 = .ok (.getfield 280, 3) := by decide +kernel
theorem dX8_sendShipsBack_31 : decode cX8_sendShipsBack 31 = .ok (.invokevirtual 226, 3) := by decide +kernel
theorem dX8_sendShipsBack_34 : decode cX8_sendShipsBack 34 = .ok (.ifCond .ne 25, 3) := by decide +kernel
theorem dX8_sendShipsBack_37 : decode cX8_sendShipsBack 37 = .ok (.aload_n 0, 1) := by decide +kernel
theorem dX8_sendShipsBack_38 : decode cX8_sendShipsBack 38 = .ok (.aload_n 3, 1) := by decide +kernel
theorem dX8_sendShipsBack_39 : decode cX8_sendShipsBack 39 = .ok (.getfield 280, 3) := by decide +kernel
theorem dX8_sendShipsBack_42 : decode cX8_sendShipsBack 42 = .ok (.aload_n 3, 1) := by decide +kernel
theorem dX8_sendShipsBack_43 : decode cX8_sendShipsBack 43 = .ok (.getfield 245, 3) := by decide +kernel
theorem dX8_sendShipsBack_46 : decode cX8_sendShipsBack 46 = .ok (.invokevirtual 241, 3) := by decide +kernel
theorem dX8_sendShipsBack_49 : decode cX8_sendShipsBack 49 = .ok (.ifCond .ne 10, 3) := by decide +kernel
theorem dX8_sendShipsBack_52 : decode cX8_sendShipsBack 52 = .ok (.aload_n 3, 1) := by decide +kernel
theorem dX8_sendShipsBack_53 : decode cX8_sendShipsBack 53 = .ok (.invokevirtual 385, 3) := by decide +kernel
theorem dX8_sendShipsBack_56 : decode cX8_sendShipsBack 56 = .ok (.iinc 1 1, 3) := by decide +kernel
theorem dX8_sendShipsBack_59 : decode cX8_sendShipsBack 59 = .ok (.iinc 2 1, 3) := by decide +kernel
theorem dX8_sendShipsBack_62 : decode cX8_sendShipsBack 62 = .ok (.goto (-58), 3) := by decide +kernel
theorem dX8_sendShipsBack_65 : decode cX8_sendShipsBack 65 = .ok (.iload_n 1, 1) := by decide +kernel
theorem dX8_sendShipsBack_66 : decode cX8_sendShipsBack 66 = .ok (.ireturn, 1) := by decide +kernel
set_option maxRecDepth 20000 in
theorem ggX8_choicesOn_X7_choices : GoodIn wsX8_choicesOn wsX7_choices := goodIn_ca (goodIn_r _ [9, 10, 11, 12, 13, 14, 15, 16, 17, 18, 19, 20, 21, 22, 23, 24, 8, 25, 26, 27, 28, 29, 30, 31, 32, 33, 34, 35, 36, 37, 38, 39, 40, 41, 42, 43, 44, 45, 46, 47, 48, 49, 50, 51, 52, 53, 54, 55, 56, 57, 58, 59, 60, 61, 62, 63, 64, 65, 66, 67, 68, 69, 70, 71, 72, 73, 74, 75, 76, 77, 78, 95, 96, 97, 98, 99, 100, 101, 102, 103, 104, 105, 106, 107, 108, 109] (by decide +kernel) (by decide +kernel)) (goodIn_sub (fun _ h => List.mem_cons_of_mem _ (List.mem_append_right _ h)) (by decide +kernel))
set_option maxRecDepth 20000 in
theorem gX8_choicesOn_X7_choices : GoodIn wsX8_choicesOn (wsV RX8 389 RX7 yX7_choices wsX7_choices) := goodIn_app (goodIn_of _ (by decide +kernel)) ggX8_choicesOn_X7_choices
theorem dX8_choicesOn_0 : decode cX8_choicesOn 0 = .ok (.aload_n 0, 1) := by decide +kernel
theorem dX8_choicesOn_1 : decode cX8_choicesOn 1 = .ok (.getfield 29, 3) := by decide +kernel
theorem dX8_choicesOn_4 : decode cX8_choicesOn 4 = .ok (.aload_n 0, 1) := by decide +kernel
theorem dX8_choicesOn_5 : decode cX8_choicesOn 5 = .ok (.getfield 22, 3) := by decide +kernel
theorem dX8_choicesOn_8 : decode cX8_choicesOn 8 = .ok (.getfield 388, 3) := by decide +kernel
theorem dX8_choicesOn_11 : decode cX8_choicesOn 11 = .ok (.aload_n 2, 1) := by decide +kernel
theorem dX8_choicesOn_12 : decode cX8_choicesOn 12 = .ok (.aload_n 1, 1) := by decide +kernel
theorem dX8_choicesOn_13 : decode cX8_choicesOn 13 = .ok (.getfield 84, 3) := by decide +kernel
theorem dX8_choicesOn_16 : decode cX8_choicesOn 16 = .ok (.invokevirtual 389, 3) := by decide +kernel
theorem dX8_choicesOn_19 : decode cX8_choicesOn 19 = .ok (.ireturn, 1) := by decide +kernel
set_option maxRecDepth 20000 in
theorem ggX8_isHit_X8_choicesOn : GoodIn wsX8_isHit wsX8_choicesOn := goodIn_ca (goodIn_r _ [5, 6, 7, 8, 9, 10, 11, 12, 13, 14, 15, 16, 17, 18, 19, 20, 21, 22, 23, 24, 25, 26, 27, 28, 29, 30, 31, 32, 33, 34, 35, 36, 37, 38, 39, 40, 41, 42, 43, 44, 45, 46, 47, 48, 49, 50, 51, 52, 53, 54, 55, 56, 57, 58, 59, 60, 61, 62, 63, 64, 65, 66, 67, 68, 69, 70, 71, 72, 73, 74, 75, 76, 77, 78, 79, 80, 81, 82, 83, 84, 85, 86, 87, 88, 89, 90, 91, 92, 93, 94, 95, 96, 97, 98, 99, 100, 101, 102, 103, 104, 105, 106, 107, 108, 109, 110, 111, 112, 113, 114] (by decide +kernel) (by decide +kernel)) (goodIn_sub (fun _ h => List.mem_cons_of_mem _ (List.mem_append_right _ h)) (by decide +kernel))
set_option maxRecDepth 20000 in
theorem gX8_isHit_X8_choicesOn : GoodIn wsX8_isHit (wsV RX8 255 RX8 yX8_choicesOn wsX8_choicesOn) := goodIn_app (goodIn_of _ (by decide +kernel)) ggX8_isHit_X8_choicesOn
theorem dX8_isHit_0 : decode cX8_isHit 0 = .ok (.aload_n 0, 1) := by decide +kernel
theorem dX8_isHit_1 : decode cX8_isHit 1 = .ok (.aload_n 2, 1) := by decide +kernel
theorem dX8_isHit_2 : decode cX8_isHit 2 = .ok (.aload_n 1, 1) := by decide +kernel
theorem dX8_isHit_3 : decode cX8_isHit 3 = .ok (.invokevirtual 255, 3) := by decide +kernel
theorem dX8_isHit_6 : decode cX8_isHit 6 = .ok (.ifCond .le 7, 3) := by decide +kernel
theorem dX8_isHit_9 : decode cX8_isHit 9 = .ok (.iconst 1, 1) := by decide +kernel
theorem dX8_isHit_10 : decode cX8_isHit 10 = .ok (.goto 4, 3) := by decide +kernel
theorem dX8_isHit_13 : decode cX8_isHit 13 = .ok (.iconst 0, 1) := by decide +kernel
theorem dX8_isHit_14 : decode cX8_isHit 14 = .ok (.ireturn, 1) := by decide +kernel
set_option maxRecDepth 20000 in
theorem ggX8_weightOf_Jx4a65c_size_8abf5 : GoodIn wsX8_weightOf wsJx4a65c_size_8abf5 := goodIn_r _ [7, 8, 45, 46, 47] (by decide +kernel) (by decide +kernel)
set_option maxRecDepth 20000 in
theorem gX8_weightOf_Jx4a65c_size_8abf5 : GoodIn wsX8_weightOf (wsV RX8 64 RJx4a65c yJx4a65c_size_8abf5 wsJx4a65c_size_8abf5) := goodIn_app (goodIn_of _ (by decide +kernel)) ggX8_weightOf_Jx4a65c_size_8abf5
set_option maxRecDepth 20000 in
theorem ggX8_weightOf_X1_islandsOf : GoodIn wsX8_weightOf wsX1_islandsOf := goodIn_r _ [13, 14, 15, 16, 17, 18, 4, 5, 6, 7, 8, 19, 20, 21, 22, 23, 24, 25, 26, 27, 28, 29, 30, 31, 32, 33, 34, 35, 48, 49, 50, 51, 52, 53, 54, 55, 45, 46, 47] (by decide +kernel) (by decide +kernel)
set_option maxRecDepth 20000 in
theorem gX8_weightOf_X1_islandsOf : GoodIn wsX8_weightOf (wsV RX8 393 RX1 yX1_islandsOf wsX1_islandsOf) := goodIn_app (goodIn_of _ (by decide +kernel)) ggX8_weightOf_X1_islandsOf
theorem dX8_weightOf_0 : decode cX8_weightOf 0 = .ok (.fconst 1, 1) := by decide +kernel
theorem dX8_weightOf_1 : decode cX8_weightOf 1 = .ok (.aload_n 0, 1) := by decide +kernel
theorem dX8_weightOf_2 : decode cX8_weightOf 2 = .ok (.getfield 10, 3) := by decide +kernel
theorem dX8_weightOf_5 : decode cX8_weightOf 5 = .ok (.invokevirtual 64, 3) := by decide +kernel
theorem dX8_weightOf_8 : decode cX8_weightOf 8 = .ok (.i2f, 1) := by decide +kernel
theorem dX8_weightOf_9 : decode cX8_weightOf 9 = .ok (.iconst 1, 1) := by decide +kernel
theorem dX8_weightOf_10 : decode cX8_weightOf 10 = .ok (.aload_n 0, 1) := by decide +kernel
theorem dX8_weightOf_11 : decode cX8_weightOf 11 = .ok (.getfield 22, 3) := by decide +kernel
theorem dX8_weightOf_14 : decode cX8_weightOf 14 = .ok (.iload_n 1, 1) := by decide +kernel
theorem dX8_weightOf_15 : decode cX8_weightOf 15 = .ok (.invokevirtual 393, 3) := by decide +kernel
theorem dX8_weightOf_18 : decode cX8_weightOf 18 = .ok (.iadd, 1) := by decide +kernel
theorem dX8_weightOf_19 : decode cX8_weightOf 19 = .ok (.i2f, 1) := by decide +kernel
theorem dX8_weightOf_20 : decode cX8_weightOf 20 = .ok (.fdiv, 1) := by decide +kernel
theorem dX8_weightOf_21 : decode cX8_weightOf 21 = .ok (.fadd, 1) := by decide +kernel
theorem dX8_weightOf_22 : decode cX8_weightOf 22 = .ok (.freturn, 1) := by decide +kernel
set_option maxRecDepth 20000 in
theorem ggX8_weightOfMap_X3_wordAt : GoodIn wsX8_weightOfMap wsX3_wordAt := goodIn_ca (goodIn_r _ [6, 7, 48, 49, 50] (by decide +kernel) (by decide +kernel)) (goodIn_sub (fun _ h => List.mem_cons_of_mem _ (List.mem_append_right _ h)) (by decide +kernel))
set_option maxRecDepth 20000 in
theorem gX8_weightOfMap_X3_wordAt : GoodIn wsX8_weightOfMap (wsV RX8 396 RX3 yX3_wordAt wsX3_wordAt) := goodIn_app (goodIn_of _ (by decide +kernel)) ggX8_weightOfMap_X3_wordAt
set_option maxRecDepth 20000 in
theorem ggX8_weightOfMap_X8_weightOf : GoodIn wsX8_weightOfMap wsX8_weightOf := goodIn_r _ [12, 13, 14, 15, 16, 17, 18, 19, 20, 21, 22, 23, 24, 25, 26, 27, 28, 29, 30, 31, 32, 33, 34, 35, 36, 37, 38, 39, 40, 41, 42, 43, 44, 45, 46, 47, 51, 52, 53, 54, 55, 56, 57, 58, 59, 60, 61, 62, 63, 64, 65, 66, 67, 68, 69, 70] (by decide +kernel) (by decide +kernel)
set_option maxRecDepth 20000 in
theorem gX8_weightOfMap_X8_weightOf : GoodIn wsX8_weightOfMap (wsV RX8 222 RX8 yX8_weightOf wsX8_weightOf) := goodIn_app (goodIn_of _ (by decide +kernel)) ggX8_weightOfMap_X8_weightOf
theorem dX8_weightOfMap_0 : decode cX8_weightOfMap 0 = .ok (.fconst 0, 1) := by decide +kernel
theorem dX8_weightOfMap_1 : decode cX8_weightOfMap 1 = .ok (.fstore_n 2, 1) := by decide +kernel
theorem dX8_weightOfMap_2 : decode cX8_weightOfMap 2 = .ok (.iconst 0, 1) := by decide +kernel
theorem dX8_weightOfMap_3 : decode cX8_weightOfMap 3 = .ok (.istore_n 3, 1) := by decide +kernel
theorem dX8_weightOfMap_4 : decode cX8_weightOfMap 4 = .ok (.iload_n 3, 1) := by decide +kernel
theorem dX8_weightOfMap_5 : decode cX8_weightOfMap 5 = .ok (.aload_n 1, 1) := by decide +kernel
theorem dX8_weightOfMap_6 : decode cX8_weightOfMap 6 = .ok (.getfield 227, 3) := by decide +kernel
theorem dX8_weightOfMap_9 : decode cX8_weightOfMap 9 = .ok (.if_icmp .ge 21, 3) := by decide +kernel
theorem dX8_weightOfMap_12 : decode cX8_weightOfMap 12 = .ok (.fload_n 2, 1) := by decide +kernel
theorem dX8_weightOfMap_13 : decode cX8_weightOfMap 13 = .ok (.aload_n 0, 1) := by decide +kernel
theorem dX8_weightOfMap_14 : decode cX8_weightOfMap 14 = .ok (.aload_n 1, 1) := by decide +kernel
theorem dX8_weightOfMap_15 : decode cX8_weightOfMap 15 = .ok (.iload_n 3, 1) := by decide +kernel
theorem dX8_weightOfMap_16 : decode cX8_weightOfMap 16 = .ok (.invokevirtual 396, 3) := by decide +kernel
theorem dX8_weightOfMap_19 : decode cX8_weightOfMap 19 = .ok (.invokevirtual 222, 3) := by decide +kernel
theorem dX8_weightOfMap_22 : decode cX8_weightOfMap 22 = .ok (.fadd, 1) := by decide +kernel
theorem dX8_weightOfMap_23 : decode cX8_weightOfMap 23 = .ok (.fstore_n 2, 1) := by decide +kernel
theorem dX8_weightOfMap_24 : decode cX8_weightOfMap 24 = .ok (.iinc 3 1, 3) := by decide +kernel
theorem dX8_weightOfMap_27 : decode cX8_weightOfMap 27 = .ok (.goto (-23), 3) := by decide +kernel
theorem dX8_weightOfMap_30 : decode cX8_weightOfMap 30 = .ok (.fload_n 2, 1) := by decide +kernel
theorem dX8_weightOfMap_31 : decode cX8_weightOfMap 31 = .ok (.freturn, 1) := by decide +kernel
set_option maxRecDepth 20000 in
theorem ggX8_scoreIsles_X8_weightOfMap : GoodIn wsX8_scoreIsles wsX8_weightOfMap := goodIn_ca (goodIn_r _ [9, 10, 11, 12, 13, 14, 15, 16, 17, 18, 19, 8, 20, 2, 21, 22, 23, 24, 25, 26, 27, 28, 29, 30, 31, 32, 33, 34, 35, 36, 37, 38, 39, 40, 41, 42, 43, 44, 45, 46, 47, 48, 49, 50, 51, 52, 53, 54, 126, 127, 128, 111, 112, 113, 114, 115, 116, 117, 118, 119, 129, 130, 131, 132, 133, 134, 135, 136, 137, 138, 139] (by decide +kernel) (by decide +kernel)) (goodIn_sub (fun _ h => List.mem_cons_of_mem _ (List.mem_append_right _ h)) (by decide +kernel))
set_option maxRecDepth 20000 in
theorem gX8_scoreIsles_X8_weightOfMap : GoodIn wsX8_scoreIsles (wsV RX8 259 RX8 yX8_weightOfMap wsX8_weightOfMap) := goodIn_app (goodIn_of _ (by decide +kernel)) ggX8_scoreIsles_X8_weightOfMap
set_option maxRecDepth 20000 in
theorem ggX8_scoreIsles_Jx4a65c_size_8abf5 : GoodIn wsX8_scoreIsles wsJx4a65c_size_8abf5 := goodIn_r _ [26, 27, 129, 130, 131] (by decide +kernel) (by decide +kernel)
set_option maxRecDepth 20000 in
theorem gX8_scoreIsles_Jx4a65c_size_8abf5 : GoodIn wsX8_scoreIsles (wsV RX8 64 RJx4a65c yJx4a65c_size_8abf5 wsJx4a65c_size_8abf5) := goodIn_app (goodIn_of _ (by decide +kernel)) ggX8_scoreIsles_Jx4a65c_size_8abf5
set_option maxRecDepth 20000 in
theorem ggX8_scoreIsles_Jx4a65c_get_915e3 : GoodIn wsX8_scoreIsles wsJx4a65c_get_915e3 := goodIn_r _ [41, 27, 42, 43, 44, 45, 46, 47, 48, 49, 50, 51, 52, 25, 53, 54, 129, 130, 131] (by decide +kernel) (by decide +kernel)
set_option maxRecDepth 20000 in
theorem gX8_scoreIsles_Jx4a65c_get_915e3 : GoodIn wsX8_scoreIsles (wsV RX8 114 RJx4a65c yJx4a65c_get_915e3 wsJx4a65c_get_915e3) := goodIn_app (goodIn_of _ (by decide +kernel)) ggX8_scoreIsles_Jx4a65c_get_915e3
set_option maxRecDepth 20000 in
theorem ggX8_scoreIsles_X8_choicesOn : GoodIn wsX8_scoreIsles wsX8_choicesOn := goodIn_ca (goodIn_r _ [59, 60, 21, 61, 62, 63, 64, 65, 66, 67, 68, 69, 70, 71, 72, 73, 74, 12, 13, 14, 15, 16, 75, 76, 77, 78, 79, 80, 81, 82, 83, 84, 23, 24, 25, 26, 27, 85, 39, 40, 41, 42, 43, 44, 45, 46, 47, 48, 49, 50, 51, 52, 53, 54, 86, 87, 88, 89, 90, 91, 92, 93, 94, 95, 96, 97, 98, 99, 100, 101, 102, 103, 104, 105, 106, 107, 108, 109, 110, 111, 112, 113, 114, 115, 116, 117, 118, 119, 132, 120, 121, 122, 123, 124, 125, 140, 141, 126, 127, 128, 133, 134, 135, 136, 137, 138, 139, 129, 130, 131] (by decide +kernel) (by decide +kernel)) (goodIn_sub (fun _ h => List.mem_cons_of_mem _ (List.mem_append_right _ h)) (by decide +kernel))
set_option maxRecDepth 20000 in
theorem gX8_scoreIsles_X8_choicesOn : GoodIn wsX8_scoreIsles (wsV RX8 255 RX8 yX8_choicesOn wsX8_choicesOn) := goodIn_app (goodIn_of _ (by decide +kernel)) ggX8_scoreIsles_X8_choicesOn
theorem dX8_scoreIsles_0 : decode cX8_scoreIsles 0 = .ok (.aload_n 0, 1) := by decide +kernel
theorem dX8_scoreIsles_1 : decode cX8_scoreIsles 1 = .ok (.aload_n 0, 1) := by decide +kernel
theorem dX8_scoreIsles_2 : decode cX8_scoreIsles 2 = .ok (.getfield 46, 3) := by decide +kernel
theorem dX8_scoreIsles_5 : decode cX8_scoreIsles 5 = .ok (.invokevirtual 259, 3) := by decide +kernel
theorem dX8_scoreIsles_8 : decode cX8_scoreIsles 8 = .ok (.fstore_n 1, 1) := by decide +kernel
theorem dX8_scoreIsles_9 : decode cX8_scoreIsles 9 = .ok (.iconst 0, 1) := by decide +kernel
theorem dX8_scoreIsles_10 : decode cX8_scoreIsles 10 = .ok (.istore_n 2, 1) := by decide +kernel
theorem dX8_scoreIsles_11 : decode cX8_scoreIsles 11 = .ok (.iload_n 2, 1) := by decide +kernel
theorem dX8_scoreIsles_12 : decode cX8_scoreIsles 12 = .ok (.aload_n 0, 1) := by decide +kernel
theorem dX8_scoreIsles_13 : decode cX8_scoreIsles 13 = .ok (.getfield 10, 3) := by decide +kernel
theorem dX8_scoreIsles_16 : decode cX8_scoreIsles 16 = .ok (.invokevirtual 64, 3) := by decide +kernel
theorem dX8_scoreIsles_19 : decode cX8_scoreIsles 19 = .ok (.if_icmp .ge 37, 3) := by decide +kernel
theorem dX8_scoreIsles_22 : decode cX8_scoreIsles 22 = .ok (.aload_n 0, 1) := by decide +kernel
theorem dX8_scoreIsles_23 : decode cX8_scoreIsles 23 = .ok (.getfield 10, 3) := by decide +kernel
theorem dX8_scoreIsles_26 : decode cX8_scoreIsles 26 = .ok (.iload_n 2, 1) := by decide +kernel
theorem dX8_scoreIsles_27 : decode cX8_scoreIsles 27 = .ok (.invokevirtual 114, 3) := by decide +kernel
theorem dX8_scoreIsles_30 : decode cX8_scoreIsles 30 = .ok (.checkcast 75, 3) := by decide +kernel
theorem dX8_scoreIsles_33 : decode cX8_scoreIsles 33 = .ok (.astore_n 3, 1) := by decide +kernel
theorem dX8_scoreIsles_34 : decode cX8_scoreIsles 34 = .ok (.aload_n 3, 1) := by decide +kernel
theorem dX8_scoreIsles_35 : decode cX8_scoreIsles 35 = .ok (.fload_n 1, 1) := by decide +kernel
theorem dX8_scoreIsles_36 : decode cX8_scoreIsles 36 = .ok (.aload_n 0, 1) := by decide +kernel
theorem dX8_scoreIsles_37 : decode cX8_scoreIsles 37 = .ok (.aload_n 3, 1) := by decide +kernel
theorem dX8_scoreIsles_38 : decode cX8_scoreIsles 38 = .ok (.aload_n 0, 1) := by decide +kernel
theorem dX8_scoreIsles_39 : decode cX8_scoreIsles 39 = .ok (.getfield 46, 3) := by decide +kernel
theorem dX8_scoreIsles_42 : decode cX8_scoreIsles 42 = .ok (.invokevirtual 255, 3) := by decide +kernel
theorem dX8_scoreIsles_45 : decode cX8_scoreIsles 45 = .ok (.i2f, 1) := by decide +kernel
theorem dX8_scoreIsles_46 : decode cX8_scoreIsles 46 = .ok (.fmul, 1) := by decide +kernel
theorem dX8_scoreIsles_47 : decode cX8_scoreIsles 47 = .ok (.putfield 399, 3) := by decide +kernel
theorem dX8_scoreIsles_50 : decode cX8_scoreIsles 50 = .ok (.iinc 2 1, 3) := by decide +kernel
theorem dX8_scoreIsles_53 : decode cX8_scoreIsles 53 = .ok (.goto (-42), 3) := by decide +kernel
theorem dX8_scoreIsles_56 : decode cX8_scoreIsles 56 = .ok (.return_, 1) := by decide +kernel
set_option maxRecDepth 20000 in
theorem ggX8_hitRanked_X8_scoreIsles : GoodIn wsX8_hitRanked wsX8_scoreIsles := goodIn_ca (goodIn_r _ [8, 9, 1, 2, 3, 10, 11, 12, 7, 13, 14, 15, 16, 17, 18, 19, 20, 21, 22, 23, 24, 25, 26, 27, 28, 29, 30, 31, 32, 33, 34, 35, 36, 37, 38, 39, 40, 41, 42, 43, 44, 45, 46, 47, 48, 49, 50, 51, 52, 53, 54, 55, 56, 57, 58, 59, 60, 61, 62, 63, 64, 65, 66, 67, 68, 69, 70, 71, 72, 73, 74, 75, 76, 77, 78, 79, 80, 81, 82, 83, 84, 85, 86, 87, 88, 89, 90, 91, 92, 93, 94, 95, 96, 97, 98, 99, 100, 101, 102, 103, 104, 105, 106, 107, 108, 109, 110, 111, 112, 113, 114, 132, 133, 134, 135, 136, 137, 138, 139, 140, 141, 142, 143, 144, 145, 146, 147, 148, 149, 150, 151, 152, 153, 154, 155, 156, 157, 158, 159, 160, 161, 162] (by decide +kernel) (by decide +kernel)) (goodIn_sub (fun _ h => List.mem_cons_of_mem _ (List.mem_append_right _ h)) (by decide +kernel))
set_option maxRecDepth 20000 in
theorem gX8_hitRanked_X8_scoreIsles : GoodIn wsX8_hitRanked (wsV RX8 403 RX8 yX8_scoreIsles wsX8_scoreIsles) := goodIn_app (goodIn_of _ (by decide +kernel)) ggX8_hitRanked_X8_scoreIsles
set_option maxRecDepth 20000 in
theorem ggX8_hitRanked_Jx4a65c_size_8abf5 : GoodIn wsX8_hitRanked wsJx4a65c_size_8abf5 := goodIn_r _ [30, 31, 150, 151, 152] (by decide +kernel) (by decide +kernel)
set_option maxRecDepth 20000 in
theorem gX8_hitRanked_Jx4a65c_size_8abf5 : GoodIn wsX8_hitRanked (wsV RX8 64 RJx4a65c yJx4a65c_size_8abf5 wsJx4a65c_size_8abf5) := goodIn_app (goodIn_of _ (by decide +kernel)) ggX8_hitRanked_Jx4a65c_size_8abf5
set_option maxRecDepth 20000 in
theorem ggX8_hitRanked_Jx4a65c_get_915e3 : GoodIn wsX8_hitRanked wsJx4a65c_get_915e3 := goodIn_r _ [45, 31, 46, 47, 48, 49, 50, 51, 52, 53, 54, 55, 56, 29, 57, 58, 150, 151, 152] (by decide +kernel) (by decide +kernel)
set_option maxRecDepth 20000 in
theorem gX8_hitRanked_Jx4a65c_get_915e3 : GoodIn wsX8_hitRanked (wsV RX8 114 RJx4a65c yJx4a65c_get_915e3 wsJx4a65c_get_915e3) := goodIn_app (goodIn_of _ (by decide +kernel)) ggX8_hitRanked_Jx4a65c_get_915e3
set_option maxRecDepth 20000 in
theorem ggX8_hitRanked_X8_hitsAheadOf : GoodIn wsX8_hitRanked wsX8_hitsAheadOf := goodIn_r _ [118, 1, 2, 26, 27, 28, 29, 30, 31, 59, 43, 44, 45, 46, 47, 48, 49, 50, 51, 52, 53, 54, 55, 56, 57, 58, 119, 120, 121, 122, 123, 124, 125, 126, 127, 128, 129, 130, 131, 132, 133, 134, 135, 136, 137, 138, 139, 140, 150, 151, 152, 141, 142, 143, 144, 145, 146] (by decide +kernel) (by decide +kernel)
set_option maxRecDepth 20000 in
theorem gX8_hitRanked_X8_hitsAheadOf : GoodIn wsX8_hitRanked (wsV RX8 406 RX8 yX8_hitsAheadOf wsX8_hitsAheadOf) := goodIn_app (goodIn_of _ (by decide +kernel)) ggX8_hitRanked_X8_hitsAheadOf
theorem dX8_hitRanked_0 : decode cX8_hitRanked 0 = .ok (.aload_n 0, 1) := by decide +kernel
theorem dX8_hitRanked_1 : decode cX8_hitRanked 1 = .ok (.invokevirtual 403, 3) := by decide +kernel
theorem dX8_hitRanked_4 : decode cX8_hitRanked 4 = .ok (.iconst 0, 1) := by decide +kernel
theorem dX8_hitRanked_5 : decode cX8_hitRanked 5 = .ok (.istore_n 3, 1) := by decide +kernel
theorem dX8_hitRanked_6 : decode cX8_hitRanked 6 = .ok (.iload_n 3, 1) := by decide +kernel
theorem dX8_hitRanked_7 : decode cX8_hitRanked 7 = .ok (.aload_n 0, 1) := by decide +kernel
theorem dX8_hitRanked_8 : decode cX8_hitRanked 8 = .ok (.getfield 10, 3) := by decide +kernel
theorem dX8_hitRanked_11 : decode cX8_hitRanked 11 = .ok (.invokevirtual 64, 3) := by decide +kernel
theorem dX8_hitRanked_14 : decode cX8_hitRanked 14 = .ok (.if_icmp .ge 46, 3) := by decide +kernel
theorem dX8_hitRanked_17 : decode cX8_hitRanked 17 = .ok (.aload_n 0, 1) := by decide +kernel
theorem dX8_hitRanked_18 : decode cX8_hitRanked 18 = .ok (.getfield 10, 3) := by decide +kernel
theorem dX8_hitRanked_21 : decode cX8_hitRanked 21 = .ok (.iload_n 3, 1) := by decide +kernel
theorem dX8_hitRanked_22 : decode cX8_hitRanked 22 = .ok (.invokevirtual 114, 3) := by decide +kernel
theorem dX8_hitRanked_25 : decode cX8_hitRanked 25 = .ok (.checkcast 75, 3) := by decide +kernel
theorem dX8_hitRanked_28 : decode cX8_hitRanked 28 = .ok (.astore 4, 2) := by decide +kernel
theorem dX8_hitRanked_30 : decode cX8_hitRanked 30 = .ok (.aload 4, 2) := by decide +kernel
theorem dX8_hitRanked_32 : decode cX8_hitRanked 32 = .ok (.getfield 399, 3) := by decide +kernel
theorem dX8_hitRanked_35 : decode cX8_hitRanked 35 = .ok (.fconst 0, 1) := by decide +kernel
theorem dX8_hitRanked_36 : decode cX8_hitRanked 36 = .ok (.fcmp .l, 1) := by decide +kernel
theorem dX8_hitRanked_37 : decode cX8_hitRanked 37 = .ok (.ifCond .le 17, 3) := by decide +kernel
theorem dX8_hitRanked_40 : decode cX8_hitRanked 40 = .ok (.aload_n 0, 1) := by decide +kernel
theorem dX8_hitRanked_41 : decode cX8_hitRanked 41 = .ok (.aload 4, 2) := by decide +kernel
theorem dX8_hitRanked_43 : decode cX8_hitRanked 43 = .ok (.aload_n 2, 1) := by decide +kernel
theorem dX8_hitRanked_44 : decode cX8_hitRanked 44 = .ok (.invokevirtual 406, 3) := by decide +kernel
theorem dX8_hitRanked_47 : decode cX8_hitRanked 47 = .ok (.iload_n 1, 1) := by decide +kernel
theorem dX8_hitRanked_48 : decode cX8_hitRanked 48 = .ok (.if_icmp .ne 6, 3) := by decide +kernel
theorem dX8_hitRanked_51 : decode cX8_hitRanked 51 = .ok (.aload 4, 2) := by decide +kernel
theorem dX8_hitRanked_53 : decode cX8_hitRanked 53 = .ok (.areturn, 1) := by decide +kernel
theorem dX8_hitRanked_54 : decode cX8_hitRanked 54 = .ok (.iinc 3 1, 3) := by decide +kernel
theorem dX8_hitRanked_57 : decode cX8_hitRanked 57 = .ok (.goto (-51), 3) := by decide +kernel
theorem dX8_hitRanked_60 : decode cX8_hitRanked 60 = .ok (.aconst_null, 1) := by decide +kernel
theorem dX8_hitRanked_61 : decode cX8_hitRanked 61 = .ok (.areturn, 1) := by decide +kernel
set_option maxRecDepth 20000 in
theorem ggX8_hitsAheadOf_Jx4a65c_size_8abf5 : GoodIn wsX8_hitsAheadOf wsJx4a65c_size_8abf5 := goodIn_r _ [7, 8, 48, 49, 50] (by decide +kernel) (by decide +kernel)
set_option maxRecDepth 20000 in
theorem gX8_hitsAheadOf_Jx4a65c_size_8abf5 : GoodIn wsX8_hitsAheadOf (wsV RX8 64 RJx4a65c yJx4a65c_size_8abf5 wsJx4a65c_size_8abf5) := goodIn_app (goodIn_of _ (by decide +kernel)) ggX8_hitsAheadOf_Jx4a65c_size_8abf5
set_option maxRecDepth 20000 in
theorem ggX8_hitsAheadOf_Jx4a65c_get_915e3 : GoodIn wsX8_hitsAheadOf wsJx4a65c_get_915e3 := goodIn_r _ [12, 8, 13, 14, 15, 16, 17, 18, 19, 20, 21, 22, 23, 6, 24, 25, 48, 49, 50] (by decide +kernel) (by decide +kernel)
set_option maxRecDepth 20000 in
theorem gX8_hitsAheadOf_Jx4a65c_get_915e3 : GoodIn wsX8_hitsAheadOf (wsV RX8 114 RJx4a65c yJx4a65c_get_915e3 wsJx4a65c_get_915e3) := goodIn_app (goodIn_of _ (by decide +kernel)) ggX8_hitsAheadOf_Jx4a65c_get_915e3
set_option maxRecDepth 20000 in
theorem ggX8_hitsAheadOf_X2_ranksAheadOf : GoodIn wsX8_hitsAheadOf wsX2_ranksAheadOf := goodIn_r _ [30, 31, 32, 33, 34, 35, 29, 36, 37, 38, 51, 52, 53, 54, 55, 56] (by decide +kernel) (by decide +kernel)
set_option maxRecDepth 20000 in
theorem gX8_hitsAheadOf_X2_ranksAheadOf : GoodIn wsX8_hitsAheadOf (wsV RX8 410 RX2 yX2_ranksAheadOf wsX2_ranksAheadOf) := goodIn_app (goodIn_of _ (by decide +kernel)) ggX8_hitsAheadOf_X2_ranksAheadOf
theorem dX8_hitsAheadOf_0 : decode cX8_hitsAheadOf 0 = .ok (.iconst 0, 1) := by decide +kernel
theorem dX8_hitsAheadOf_1 : decode cX8_hitsAheadOf 1 = .ok (.istore_n 3, 1) := by decide +kernel
theorem dX8_hitsAheadOf_2 : decode cX8_hitsAheadOf 2 = .ok (.iconst 0, 1) := by decide +kernel
theorem dX8_hitsAheadOf_3 : decode cX8_hitsAheadOf 3 = .ok (.istore 4, 2) := by decide +kernel
theorem dX8_hitsAheadOf_5 : decode cX8_hitsAheadOf 5 = .ok (.iload 4, 2) := by decide +kernel
theorem dX8_hitsAheadOf_7 : decode cX8_hitsAheadOf 7 = .ok (.aload_n 0, 1) := by decide +kernel
theorem dX8_hitsAheadOf_8 : decode cX8_hitsAheadOf 8 = .ok (.getfield 10, 3) := by decide +kernel
theorem dX8_hitsAheadOf_11 : decode cX8_hitsAheadOf 11 = .ok (.invokevirtual 64, 3) := by decide +kernel
theorem dX8_hitsAheadOf_14 : decode cX8_hitsAheadOf 14 = .ok (.if_icmp .ge 32, 3) := by decide +kernel
theorem dX8_hitsAheadOf_17 : decode cX8_hitsAheadOf 17 = .ok (.aload_n 0, 1) := by decide +kernel
theorem dX8_hitsAheadOf_18 : decode cX8_hitsAheadOf 18 = .ok (.getfield 10, 3) := by decide +kernel
theorem dX8_hitsAheadOf_21 : decode cX8_hitsAheadOf 21 = .ok (.iload 4, 2) := by decide +kernel
theorem dX8_hitsAheadOf_23 : decode cX8_hitsAheadOf 23 = .ok (.invokevirtual 114, 3) := by decide +kernel
theorem dX8_hitsAheadOf_26 : decode cX8_hitsAheadOf 26 = .ok (.checkcast 75, 3) := by decide +kernel
theorem dX8_hitsAheadOf_29 : decode cX8_hitsAheadOf 29 = .ok (.aload_n 1, 1) := by decide +kernel
theorem dX8_hitsAheadOf_30 : decode cX8_hitsAheadOf 30 = .ok (.aload_n 2, 1) := by decide +kernel
theorem dX8_hitsAheadOf_31 : decode cX8_hitsAheadOf 31 = .ok (.invokevirtual 410, 3) := by decide +kernel
theorem dX8_hitsAheadOf_34 : decode cX8_hitsAheadOf 34 = .ok (.ifCond .eq 6, 3) := by decide +kernel
theorem dX8_hitsAheadOf_37 : decode cX8_hitsAheadOf 37 = .ok (.iinc 3 1, 3) := by decide +kernel
theorem dX8_hitsAheadOf_40 : decode cX8_hitsAheadOf 40 = .ok (.iinc 4 1, 3) := by decide +kernel
theorem dX8_hitsAheadOf_43 : decode cX8_hitsAheadOf 43 = .ok (.goto (-38), 3) := by decide +kernel
theorem dX8_hitsAheadOf_46 : decode cX8_hitsAheadOf 46 = .ok (.iload_n 3, 1) := by decide +kernel
theorem dX8_hitsAheadOf_47 : decode cX8_hitsAheadOf 47 = .ok (.ireturn, 1) := by decide +kernel
theorem dX8_bitsOf_0 : decode cX8_bitsOf 0 = .ok (.bipush 127, 2) := by decide +kernel
theorem dX8_bitsOf_2 : decode cX8_bitsOf 2 = .ok (.istore_n 1, 1) := by decide +kernel
theorem dX8_bitsOf_3 : decode cX8_bitsOf 3 = .ok (.fload_n 0, 1) := by decide +kernel
theorem dX8_bitsOf_4 : decode cX8_bitsOf 4 = .ok (.fstore_n 2, 1) := by decide +kernel
theorem dX8_bitsOf_5 : decode cX8_bitsOf 5 = .ok (.fload_n 2, 1) := by decide +kernel
theorem dX8_bitsOf_6 : decode cX8_bitsOf 6 = .ok (.fconst 2, 1) := by decide +kernel
theorem dX8_bitsOf_7 : decode cX8_bitsOf 7 = .ok (.fcmp .l, 1) := by decide +kernel
theorem dX8_bitsOf_8 : decode cX8_bitsOf 8 = .ok (.ifCond .lt 20, 3) := by decide +kernel
theorem dX8_bitsOf_11 : decode cX8_bitsOf 11 = .ok (.iload_n 1, 1) := by decide +kernel
theorem dX8_bitsOf_12 : decode cX8_bitsOf 12 = .ok (.sipush 254, 3) := by decide +kernel
theorem dX8_bitsOf_15 : decode cX8_bitsOf 15 = .ok (.if_icmp .ge 13, 3) := by decide +kernel
theorem dX8_bitsOf_18 : decode cX8_bitsOf 18 = .ok (.fload_n 2, 1) := by decide +kernel
theorem dX8_bitsOf_19 : decode cX8_bitsOf 19 = .ok (.fconst 2, 1) := by decide +kernel
theorem dX8_bitsOf_20 : decode cX8_bitsOf 20 = .ok (.fdiv, 1) := by decide +kernel
theorem dX8_bitsOf_21 : decode cX8_bitsOf 21 = .ok (.fstore_n 2, 1) := by decide +kernel
theorem dX8_bitsOf_22 : decode cX8_bitsOf 22 = .ok (.iinc 1 1, 3) := by decide +kernel
theorem dX8_bitsOf_25 : decode cX8_bitsOf 25 = .ok (.goto (-20), 3) := by decide +kernel
theorem dX8_bitsOf_28 : decode cX8_bitsOf 28 = .ok (.fload_n 2, 1) := by decide +kernel
theorem dX8_bitsOf_29 : decode cX8_bitsOf 29 = .ok (.fconst 1, 1) := by decide +kernel
theorem dX8_bitsOf_30 : decode cX8_bitsOf 30 = .ok (.fsub, 1) := by decide +kernel
theorem dX8_bitsOf_31 : decode cX8_bitsOf 31 = .ok (.ldc_w 414, 3) := by decide +kernel
theorem dX8_bitsOf_34 : decode cX8_bitsOf 34 = .ok (.fmul, 1) := by decide +kernel
theorem dX8_bitsOf_35 : decode cX8_bitsOf 35 = .ok (.f2i, 1) := by decide +kernel
theorem dX8_bitsOf_36 : decode cX8_bitsOf 36 = .ok (.istore_n 3, 1) := by decide +kernel
theorem dX8_bitsOf_37 : decode cX8_bitsOf 37 = .ok (.iload_n 1, 1) := by decide +kernel
theorem dX8_bitsOf_38 : decode cX8_bitsOf 38 = .ok (.bipush 23, 2) := by decide +kernel
theorem dX8_bitsOf_40 : decode cX8_bitsOf 40 = .ok (.ishl, 1) := by decide +kernel
theorem dX8_bitsOf_41 : decode cX8_bitsOf 41 = .ok (.iload_n 3, 1) := by decide +kernel
theorem dX8_bitsOf_42 : decode cX8_bitsOf 42 = .ok (.iadd, 1) := by decide +kernel
theorem dX8_bitsOf_43 : decode cX8_bitsOf 43 = .ok (.ireturn, 1) := by decide +kernel
theorem dX8_rootOf_0 : decode cX8_rootOf 0 = .ok (.iconst 0, 1) := by decide +kernel
theorem dX8_rootOf_1 : decode cX8_rootOf 1 = .ok (.istore_n 1, 1) := by decide +kernel
theorem dX8_rootOf_2 : decode cX8_rootOf 2 = .ok (.iload_n 1, 1) := by decide +kernel
theorem dX8_rootOf_3 : decode cX8_rootOf 3 = .ok (.sipush 198, 3) := by decide +kernel
theorem dX8_rootOf_6 : decode cX8_rootOf 6 = .ok (.if_icmp .ge 20, 3) := by decide +kernel
theorem dX8_rootOf_9 : decode cX8_rootOf 9 = .ok (.iload_n 1, 1) := by decide +kernel
theorem dX8_rootOf_10 : decode cX8_rootOf 10 = .ok (.iconst 1, 1) := by decide +kernel
theorem dX8_rootOf_11 : decode cX8_rootOf 11 = .ok (.iadd, 1) := by decide +kernel
theorem dX8_rootOf_12 : decode cX8_rootOf 12 = .ok (.iload_n 1, 1) := by decide +kernel
theorem dX8_rootOf_13 : decode cX8_rootOf 13 = .ok (.iconst 1, 1) := by decide +kernel
theorem dX8_rootOf_14 : decode cX8_rootOf 14 = .ok (.iadd, 1) := by decide +kernel
theorem dX8_rootOf_15 : decode cX8_rootOf 15 = .ok (.imul, 1) := by decide +kernel
theorem dX8_rootOf_16 : decode cX8_rootOf 16 = .ok (.iload_n 0, 1) := by decide +kernel
theorem dX8_rootOf_17 : decode cX8_rootOf 17 = .ok (.if_icmp .gt 9, 3) := by decide +kernel
theorem dX8_rootOf_20 : decode cX8_rootOf 20 = .ok (.iinc 1 1, 3) := by decide +kernel
theorem dX8_rootOf_23 : decode cX8_rootOf 23 = .ok (.goto (-21), 3) := by decide +kernel
theorem dX8_rootOf_26 : decode cX8_rootOf 26 = .ok (.iload_n 1, 1) := by decide +kernel
theorem dX8_rootOf_27 : decode cX8_rootOf 27 = .ok (.ireturn, 1) := by decide +kernel
set_option maxRecDepth 20000 in
theorem ggX8_findsAreInOneSegment_Jx4a65c_size_8abf5 : GoodIn wsX8_findsAreInOneSegment wsJx4a65c_size_8abf5 := goodIn_r _ [9, 10, 54, 55, 56] (by decide +kernel) (by decide +kernel)
set_option maxRecDepth 20000 in
theorem gX8_findsAreInOneSegment_Jx4a65c_size_8abf5 : GoodIn wsX8_findsAreInOneSegment (wsV RX8 64 RJx4a65c yJx4a65c_size_8abf5 wsJx4a65c_size_8abf5) := goodIn_app (goodIn_of _ (by decide +kernel)) ggX8_findsAreInOneSegment_Jx4a65c_size_8abf5
set_option maxRecDepth 20000 in
theorem ggX8_findsAreInOneSegment_Jx4a65c_get_915e3 : GoodIn wsX8_findsAreInOneSegment wsJx4a65c_get_915e3 := goodIn_r _ [14, 10, 15, 16, 17, 18, 19, 20, 21, 22, 23, 24, 25, 8, 26, 27, 54, 55, 56] (by decide +kernel) (by decide +kernel)
set_option maxRecDepth 20000 in
theorem gX8_findsAreInOneSegment_Jx4a65c_get_915e3 : GoodIn wsX8_findsAreInOneSegment (wsV RX8 114 RJx4a65c yJx4a65c_get_915e3 wsJx4a65c_get_915e3) := goodIn_app (goodIn_of _ (by decide +kernel)) ggX8_findsAreInOneSegment_Jx4a65c_get_915e3
set_option maxRecDepth 20000 in
theorem ggX8_findsAreInOneSegment_X5_timesHeld : GoodIn wsX8_findsAreInOneSegment wsX5_timesHeld := goodIn_r _ [32, 33, 34, 35, 36, 6, 7, 8, 9, 10, 37, 12, 13, 14, 15, 16, 17, 18, 19, 20, 21, 22, 23, 24, 25, 26, 27, 57, 58, 59, 60, 61, 54, 55, 56] (by decide +kernel) (by decide +kernel)
set_option maxRecDepth 20000 in
theorem gX8_findsAreInOneSegment_X5_timesHeld : GoodIn wsX8_findsAreInOneSegment (wsV RX8 415 RX5 yX5_timesHeld wsX5_timesHeld) := goodIn_app (goodIn_of _ (by decide +kernel)) ggX8_findsAreInOneSegment_X5_timesHeld
theorem dX8_findsAreInOneSegment_0 : decode cX8_findsAreInOneSegment 0 = .ok (.iconst 0, 1) := by decide +kernel
theorem dX8_findsAreInOneSegment_1 : decode cX8_findsAreInOneSegment 1 = .ok (.istore_n 1, 1) := by decide +kernel
theorem dX8_findsAreInOneSegment_2 : decode cX8_findsAreInOneSegment 2 = .ok (.iload_n 1, 1) := by decide +kernel
theorem dX8_findsAreInOneSegment_3 : decode cX8_findsAreInOneSegment 3 = .ok (.aload_n 0, 1) := by decide +kernel
theorem dX8_findsAreInOneSegment_4 : decode cX8_findsAreInOneSegment 4 = .ok (.getfield 16, 3) := by decide +kernel
theorem dX8_findsAreInOneSegment_7 : decode cX8_findsAreInOneSegment 7 = .ok (.invokevirtual 64, 3) := by decide +kernel
theorem dX8_findsAreInOneSegment_10 : decode cX8_findsAreInOneSegment 10 = .ok (.if_icmp .ge 46, 3) := by decide +kernel
theorem dX8_findsAreInOneSegment_13 : decode cX8_findsAreInOneSegment 13 = .ok (.aload_n 0, 1) := by decide +kernel
theorem dX8_findsAreInOneSegment_14 : decode cX8_findsAreInOneSegment 14 = .ok (.getfield 16, 3) := by decide +kernel
theorem dX8_findsAreInOneSegment_17 : decode cX8_findsAreInOneSegment 17 = .ok (.iload_n 1, 1) := by decide +kernel
theorem dX8_findsAreInOneSegment_18 : decode cX8_findsAreInOneSegment 18 = .ok (.invokevirtual 114, 3) := by decide +kernel
theorem dX8_findsAreInOneSegment_21 : decode cX8_findsAreInOneSegment 21 = .ok (.checkcast 95, 3) := by decide +kernel
theorem dX8_findsAreInOneSegment_24 : decode cX8_findsAreInOneSegment 24 = .ok (.astore_n 2, 1) := by decide +kernel
theorem dX8_findsAreInOneSegment_25 : decode cX8_findsAreInOneSegment 25 = .ok (.aload_n 0, 1) := by decide +kernel
theorem dX8_findsAreInOneSegment_26 : decode cX8_findsAreInOneSegment 26 = .ok (.getfield 36, 3) := by decide +kernel
theorem dX8_findsAreInOneSegment_29 : decode cX8_findsAreInOneSegment 29 = .ok (.aload_n 2, 1) := by decide +kernel
theorem dX8_findsAreInOneSegment_30 : decode cX8_findsAreInOneSegment 30 = .ok (.invokevirtual 415, 3) := by decide +kernel
theorem dX8_findsAreInOneSegment_33 : decode cX8_findsAreInOneSegment 33 = .ok (.aload_n 2, 1) := by decide +kernel
theorem dX8_findsAreInOneSegment_34 : decode cX8_findsAreInOneSegment 34 = .ok (.getfield 205, 3) := by decide +kernel
theorem dX8_findsAreInOneSegment_37 : decode cX8_findsAreInOneSegment 37 = .ok (.ifnonnull 7, 3) := by decide +kernel
theorem dX8_findsAreInOneSegment_40 : decode cX8_findsAreInOneSegment 40 = .ok (.iconst 0, 1) := by decide +kernel
theorem dX8_findsAreInOneSegment_41 : decode cX8_findsAreInOneSegment 41 = .ok (.goto 4, 3) := by decide +kernel
theorem dX8_findsAreInOneSegment_44 : decode cX8_findsAreInOneSegment 44 = .ok (.iconst 1, 1) := by decide +kernel
theorem dX8_findsAreInOneSegment_45 : decode cX8_findsAreInOneSegment 45 = .ok (.if_icmp .eq 5, 3) := by decide +kernel
theorem dX8_findsAreInOneSegment_48 : decode cX8_findsAreInOneSegment 48 = .ok (.iconst 0, 1) := by decide +kernel
theorem dX8_findsAreInOneSegment_49 : decode cX8_findsAreInOneSegment 49 = .ok (.ireturn, 1) := by decide +kernel
theorem dX8_findsAreInOneSegment_50 : decode cX8_findsAreInOneSegment 50 = .ok (.iinc 1 1, 3) := by decide +kernel
theorem dX8_findsAreInOneSegment_53 : decode cX8_findsAreInOneSegment 53 = .ok (.goto (-51), 3) := by decide +kernel
theorem dX8_findsAreInOneSegment_56 : decode cX8_findsAreInOneSegment 56 = .ok (.iconst 1, 1) := by decide +kernel
theorem dX8_findsAreInOneSegment_57 : decode cX8_findsAreInOneSegment 57 = .ok (.ireturn, 1) := by decide +kernel
set_option maxRecDepth 20000 in
theorem ggX8_postingsAreUnstruck_Jx4a65c_size_8abf5 : GoodIn wsX8_postingsAreUnstruck wsJx4a65c_size_8abf5 := goodIn_r _ [9, 10, 45, 46, 47] (by decide +kernel) (by decide +kernel)
set_option maxRecDepth 20000 in
theorem gX8_postingsAreUnstruck_Jx4a65c_size_8abf5 : GoodIn wsX8_postingsAreUnstruck (wsV RX8 64 RJx4a65c yJx4a65c_size_8abf5 wsJx4a65c_size_8abf5) := goodIn_app (goodIn_of _ (by decide +kernel)) ggX8_postingsAreUnstruck_Jx4a65c_size_8abf5
set_option maxRecDepth 20000 in
theorem ggX8_postingsAreUnstruck_Jx4a65c_get_915e3 : GoodIn wsX8_postingsAreUnstruck wsJx4a65c_get_915e3 := goodIn_r _ [14, 10, 15, 16, 17, 18, 19, 20, 21, 22, 23, 24, 25, 8, 26, 27, 45, 46, 47] (by decide +kernel) (by decide +kernel)
set_option maxRecDepth 20000 in
theorem gX8_postingsAreUnstruck_Jx4a65c_get_915e3 : GoodIn wsX8_postingsAreUnstruck (wsV RX8 114 RJx4a65c yJx4a65c_get_915e3 wsJx4a65c_get_915e3) := goodIn_app (goodIn_of _ (by decide +kernel)) ggX8_postingsAreUnstruck_Jx4a65c_get_915e3
theorem dX8_postingsAreUnstruck_0 : decode cX8_postingsAreUnstruck 0 = .ok (.iconst 0, 1) := by decide +kernel
theorem dX8_postingsAreUnstruck_1 : decode cX8_postingsAreUnstruck 1 = .ok (.istore_n 1, 1) := by decide +kernel
theorem dX8_postingsAreUnstruck_2 : decode cX8_postingsAreUnstruck 2 = .ok (.iload_n 1, 1) := by decide +kernel
theorem dX8_postingsAreUnstruck_3 : decode cX8_postingsAreUnstruck 3 = .ok (.aload_n 0, 1) := by decide +kernel
theorem dX8_postingsAreUnstruck_4 : decode cX8_postingsAreUnstruck 4 = .ok (.getfield 22, 3) := by decide +kernel
theorem dX8_postingsAreUnstruck_7 : decode cX8_postingsAreUnstruck 7 = .ok (.getfield 388, 3) := by decide +kernel
theorem dX8_postingsAreUnstruck_10 : decode cX8_postingsAreUnstruck 10 = .ok (.invokevirtual 64, 3) := by decide +kernel
theorem dX8_postingsAreUnstruck_13 : decode cX8_postingsAreUnstruck 13 = .ok (.if_icmp .ge 31, 3) := by decide +kernel
theorem dX8_postingsAreUnstruck_16 : decode cX8_postingsAreUnstruck 16 = .ok (.aload_n 0, 1) := by decide +kernel
theorem dX8_postingsAreUnstruck_17 : decode cX8_postingsAreUnstruck 17 = .ok (.getfield 22, 3) := by decide +kernel
theorem dX8_postingsAreUnstruck_20 : decode cX8_postingsAreUnstruck 20 = .ok (.getfield 388, 3) := by decide +kernel
theorem dX8_postingsAreUnstruck_23 : decode cX8_postingsAreUnstruck 23 = .ok (.iload_n 1, 1) := by decide +kernel
theorem dX8_postingsAreUnstruck_24 : decode cX8_postingsAreUnstruck 24 = .ok (.invokevirtual 114, 3) := by decide +kernel
theorem dX8_postingsAreUnstruck_27 : decode cX8_postingsAreUnstruck 27 = .ok (.checkcast 95, 3) := by decide +kernel
theorem dX8_postingsAreUnstruck_30 : decode cX8_postingsAreUnstruck 30 = .ok (.getfield 296, 3) := by decide +kernel
theorem dX8_postingsAreUnstruck_33 : decode cX8_postingsAreUnstruck 33 = .ok (.ifCond .eq 5, 3) := by decide +kernel
theorem dX8_postingsAreUnstruck_36 : decode cX8_postingsAreUnstruck 36 = .ok (.iconst 0, 1) := by decide +kernel
theorem dX8_postingsAreUnstruck_37 : decode cX8_postingsAreUnstruck 37 = .ok (.ireturn, 1) := by decide +kernel
theorem dX8_postingsAreUnstruck_38 : decode cX8_postingsAreUnstruck 38 = .ok (.iinc 1 1, 3) := by decide +kernel
theorem dX8_postingsAreUnstruck_41 : decode cX8_postingsAreUnstruck 41 = .ok (.goto (-39), 3) := by decide +kernel
theorem dX8_postingsAreUnstruck_44 : decode cX8_postingsAreUnstruck 44 = .ok (.iconst 1, 1) := by decide +kernel
theorem dX8_postingsAreUnstruck_45 : decode cX8_postingsAreUnstruck 45 = .ok (.ireturn, 1) := by decide +kernel
set_option maxRecDepth 20000 in
theorem ggX8_pursesHold_Jx4a65c_size_8abf5 : GoodIn wsX8_pursesHold wsJx4a65c_size_8abf5 := goodIn_r _ [8, 9, 41, 42, 43] (by decide +kernel) (by decide +kernel)
set_option maxRecDepth 20000 in
theorem gX8_pursesHold_Jx4a65c_size_8abf5 : GoodIn wsX8_pursesHold (wsV RX8 64 RJx4a65c yJx4a65c_size_8abf5 wsJx4a65c_size_8abf5) := goodIn_app (goodIn_of _ (by decide +kernel)) ggX8_pursesHold_Jx4a65c_size_8abf5
set_option maxRecDepth 20000 in
theorem ggX8_pursesHold_Jx4a65c_get_915e3 : GoodIn wsX8_pursesHold wsJx4a65c_get_915e3 := goodIn_r _ [13, 9, 14, 15, 16, 17, 18, 19, 20, 21, 22, 23, 24, 7, 25, 26, 41, 42, 43] (by decide +kernel) (by decide +kernel)
set_option maxRecDepth 20000 in
theorem gX8_pursesHold_Jx4a65c_get_915e3 : GoodIn wsX8_pursesHold (wsV RX8 114 RJx4a65c yJx4a65c_get_915e3 wsJx4a65c_get_915e3) := goodIn_app (goodIn_of _ (by decide +kernel)) ggX8_pursesHold_Jx4a65c_get_915e3
theorem dX8_pursesHold_0 : decode cX8_pursesHold 0 = .ok (.iconst 0, 1) := by decide +kernel
theorem dX8_pursesHold_1 : decode cX8_pursesHold 1 = .ok (.istore_n 1, 1) := by decide +kernel
theorem dX8_pursesHold_2 : decode cX8_pursesHold 2 = .ok (.iload_n 1, 1) := by decide +kernel
theorem dX8_pursesHold_3 : decode cX8_pursesHold 3 = .ok (.aload_n 0, 1) := by decide +kernel
theorem dX8_pursesHold_4 : decode cX8_pursesHold 4 = .ok (.getfield 40, 3) := by decide +kernel
theorem dX8_pursesHold_7 : decode cX8_pursesHold 7 = .ok (.invokevirtual 64, 3) := by decide +kernel
theorem dX8_pursesHold_10 : decode cX8_pursesHold 10 = .ok (.if_icmp .ge 28, 3) := by decide +kernel
theorem dX8_pursesHold_13 : decode cX8_pursesHold 13 = .ok (.aload_n 0, 1) := by decide +kernel
theorem dX8_pursesHold_14 : decode cX8_pursesHold 14 = .ok (.getfield 40, 3) := by decide +kernel
theorem dX8_pursesHold_17 : decode cX8_pursesHold 17 = .ok (.iload_n 1, 1) := by decide +kernel
theorem dX8_pursesHold_18 : decode cX8_pursesHold 18 = .ok (.invokevirtual 114, 3) := by decide +kernel
theorem dX8_pursesHold_21 : decode cX8_pursesHold 21 = .ok (.checkcast 112, 3) := by decide +kernel
theorem dX8_pursesHold_24 : decode cX8_pursesHold 24 = .ok (.getfield 125, 3) := by decide +kernel
theorem dX8_pursesHold_27 : decode cX8_pursesHold 27 = .ok (.ifCond .ge 5, 3) := by decide +kernel
theorem dX8_pursesHold_30 : decode cX8_pursesHold 30 = .ok (.iconst 0, 1) := by decide +kernel
theorem dX8_pursesHold_31 : decode cX8_pursesHold 31 = .ok (.ireturn, 1) := by decide +kernel
theorem dX8_pursesHold_32 : decode cX8_pursesHold 32 = .ok (.iinc 1 1, 3) := by decide +kernel
theorem dX8_pursesHold_35 : decode cX8_pursesHold 35 = .ok (.goto (-33), 3) := by decide +kernel
theorem dX8_pursesHold_38 : decode cX8_pursesHold 38 = .ok (.iconst 1, 1) := by decide +kernel
theorem dX8_pursesHold_39 : decode cX8_pursesHold 39 = .ok (.ireturn, 1) := by decide +kernel
set_option maxRecDepth 20000 in
theorem ggX8_hitsAgree_X5_gatherUnstruck : GoodIn wsX8_hitsAgree wsX5_gatherUnstruck := goodIn_r _ [12, 13, 14, 15, 16, 17, 18, 19, 20, 21, 22, 23, 24, 25, 26, 27, 28, 29, 30, 31, 32, 33, 34, 35, 36, 37, 38, 39, 40, 41, 42, 43, 44, 45, 46, 47, 48, 49, 50, 51, 52, 53, 54, 55, 56, 57, 58, 59, 60, 61, 62, 63, 64, 65, 66, 67, 68, 69, 70, 71, 72, 73, 74, 75, 76, 77, 78, 79, 80, 81, 82, 83, 84, 85, 86, 87, 88, 89, 90, 91, 92, 93, 94, 95, 96, 97, 168, 169, 170, 171, 172, 173, 174, 175, 176, 177, 178, 179, 180, 181, 182] (by decide +kernel) (by decide +kernel)
set_option maxRecDepth 20000 in
theorem gX8_hitsAgree_X5_gatherUnstruck : GoodIn wsX8_hitsAgree (wsV RX8 418 RX5 yX5_gatherUnstruck wsX5_gatherUnstruck) := goodIn_app (goodIn_of _ (by decide +kernel)) ggX8_hitsAgree_X5_gatherUnstruck
set_option maxRecDepth 20000 in
theorem ggX8_hitsAgree_Jx4a65c_size_8abf5 : GoodIn wsX8_hitsAgree wsJx4a65c_size_8abf5 := goodIn_r _ [30, 26, 180, 181, 182] (by decide +kernel) (by decide +kernel)
set_option maxRecDepth 20000 in
theorem gX8_hitsAgree_Jx4a65c_size_8abf5 : GoodIn wsX8_hitsAgree (wsV RX8 64 RJx4a65c yJx4a65c_size_8abf5 wsJx4a65c_size_8abf5) := goodIn_app (goodIn_of _ (by decide +kernel)) ggX8_hitsAgree_Jx4a65c_size_8abf5
set_option maxRecDepth 20000 in
theorem ggX8_hitsAgree_Jx4a65c_get_915e3 : GoodIn wsX8_hitsAgree wsJx4a65c_get_915e3 := goodIn_r _ [34, 26, 35, 36, 37, 38, 39, 40, 41, 42, 43, 44, 45, 21, 46, 25, 180, 181, 182] (by decide +kernel) (by decide +kernel)
set_option maxRecDepth 20000 in
theorem gX8_hitsAgree_Jx4a65c_get_915e3 : GoodIn wsX8_hitsAgree (wsV RX8 114 RJx4a65c yJx4a65c_get_915e3 wsJx4a65c_get_915e3) := goodIn_app (goodIn_of _ (by decide +kernel)) ggX8_hitsAgree_Jx4a65c_get_915e3
set_option maxRecDepth 20000 in
theorem ggX8_hitsAgree_X7_choices : GoodIn wsX8_hitsAgree wsX7_choices := goodIn_ca (goodIn_r _ [104, 105, 106, 107, 108, 80, 109, 110, 111, 112, 113, 114, 115, 116, 117, 118, 103, 119, 120, 121, 122, 123, 124, 125, 28, 29, 21, 30, 26, 126, 32, 33, 34, 35, 36, 37, 38, 39, 40, 41, 42, 43, 44, 45, 46, 25, 127, 128, 129, 130, 131, 92, 66, 93, 132, 95, 96, 97, 133, 134, 135, 136, 137, 138, 139, 140, 141, 142, 143, 144, 145, 183, 184, 185, 186, 187, 173, 174, 175, 176, 177, 178, 179, 180, 181, 182] (by decide +kernel) (by decide +kernel)) (goodIn_sub (fun _ h => List.mem_cons_of_mem _ (List.mem_append_right _ h)) (by decide +kernel))
set_option maxRecDepth 20000 in
theorem gX8_hitsAgree_X7_choices : GoodIn wsX8_hitsAgree (wsV RX8 389 RX7 yX7_choices wsX7_choices) := goodIn_app (goodIn_of _ (by decide +kernel)) ggX8_hitsAgree_X7_choices
set_option maxRecDepth 20000 in
theorem ggX8_hitsAgree_X8_choicesOn : GoodIn wsX8_hitsAgree wsX8_choicesOn := goodIn_ca (goodIn_r _ [150, 5, 151, 152, 7, 100, 101, 102, 103, 104, 105, 106, 107, 108, 80, 109, 110, 111, 112, 113, 114, 115, 116, 117, 118, 119, 120, 121, 122, 123, 124, 125, 28, 29, 21, 30, 26, 126, 32, 33, 34, 35, 36, 37, 38, 39, 40, 41, 42, 43, 44, 45, 46, 25, 127, 128, 129, 130, 131, 92, 66, 93, 132, 95, 96, 97, 133, 134, 135, 136, 137, 138, 139, 140, 141, 142, 143, 144, 145, 153, 154, 155, 156, 157, 158, 159, 160, 161, 188, 162, 163, 164, 165, 166, 167, 183, 184, 185, 186, 187, 173, 174, 175, 176, 177, 178, 179, 180, 181, 182] (by decide +kernel) (by decide +kernel)) (goodIn_sub (fun _ h => List.mem_cons_of_mem _ (List.mem_append_right _ h)) (by decide +kernel))
set_option maxRecDepth 20000 in
theorem gX8_hitsAgree_X8_choicesOn : GoodIn wsX8_hitsAgree (wsV RX8 255 RX8 yX8_choicesOn wsX8_choicesOn) := goodIn_app (goodIn_of _ (by decide +kernel)) ggX8_hitsAgree_X8_choicesOn
theorem dX8_hitsAgree_0 : decode cX8_hitsAgree 0 = .ok (.aload_n 0, 1) := by decide +kernel
theorem dX8_hitsAgree_1 : decode cX8_hitsAgree 1 = .ok (.getfield 36, 3) := by decide +kernel
theorem dX8_hitsAgree_4 : decode cX8_hitsAgree 4 = .ok (.aload_n 0, 1) := by decide +kernel
theorem dX8_hitsAgree_5 : decode cX8_hitsAgree 5 = .ok (.getfield 57, 3) := by decide +kernel
theorem dX8_hitsAgree_8 : decode cX8_hitsAgree 8 = .ok (.invokevirtual 418, 3) := by decide +kernel
theorem dX8_hitsAgree_11 : decode cX8_hitsAgree 11 = .ok (.iconst 0, 1) := by decide +kernel
theorem dX8_hitsAgree_12 : decode cX8_hitsAgree 12 = .ok (.istore_n 1, 1) := by decide +kernel
theorem dX8_hitsAgree_13 : decode cX8_hitsAgree 13 = .ok (.iload_n 1, 1) := by decide +kernel
theorem dX8_hitsAgree_14 : decode cX8_hitsAgree 14 = .ok (.aload_n 0, 1) := by decide +kernel
theorem dX8_hitsAgree_15 : decode cX8_hitsAgree 15 = .ok (.getfield 10, 3) := by decide +kernel
theorem dX8_hitsAgree_18 : decode cX8_hitsAgree 18 = .ok (.invokevirtual 64, 3) := by decide +kernel
theorem dX8_hitsAgree_21 : decode cX8_hitsAgree 21 = .ok (.if_icmp .ge 54, 3) := by decide +kernel
theorem dX8_hitsAgree_24 : decode cX8_hitsAgree 24 = .ok (.aload_n 0, 1) := by decide +kernel
theorem dX8_hitsAgree_25 : decode cX8_hitsAgree 25 = .ok (.getfield 10, 3) := by decide +kernel
theorem dX8_hitsAgree_28 : decode cX8_hitsAgree 28 = .ok (.iload_n 1, 1) := by decide +kernel
theorem dX8_hitsAgree_29 : decode cX8_hitsAgree 29 = .ok (.invokevirtual 114, 3) := by decide +kernel
theorem dX8_hitsAgree_32 : decode cX8_hitsAgree 32 = .ok (.checkcast 75, 3) := by decide +kernel
theorem dX8_hitsAgree_35 : decode cX8_hitsAgree 35 = .ok (.astore_n 2, 1) := by decide +kernel
theorem dX8_hitsAgree_36 : decode cX8_hitsAgree 36 = .ok (.aload_n 0, 1) := by decide +kernel
theorem dX8_hitsAgree_37 : decode cX8_hitsAgree 37 = .ok (.getfield 29, 3) := by decide +kernel
theorem dX8_hitsAgree_40 : decode cX8_hitsAgree 40 = .ok (.aload_n 0, 1) := by decide +kernel
theorem dX8_hitsAgree_41 : decode cX8_hitsAgree 41 = .ok (.getfield 57, 3) := by decide +kernel
theorem dX8_hitsAgree_44 : decode cX8_hitsAgree 44 = .ok (.aload_n 0, 1) := by decide +kernel
theorem dX8_hitsAgree_45 : decode cX8_hitsAgree 45 = .ok (.getfield 46, 3) := by decide +kernel
theorem dX8_hitsAgree_48 : decode cX8_hitsAgree 48 = .ok (.aload_n 2, 1) := by decide +kernel
theorem dX8_hitsAgree_49 : decode cX8_hitsAgree 49 = .ok (.getfield 84, 3) := by decide +kernel
theorem dX8_hitsAgree_52 : decode cX8_hitsAgree 52 = .ok (.invokevirtual 389, 3) := by decide +kernel
theorem dX8_hitsAgree_55 : decode cX8_hitsAgree 55 = .ok (.aload_n 0, 1) := by decide +kernel
theorem dX8_hitsAgree_56 : decode cX8_hitsAgree 56 = .ok (.aload_n 2, 1) := by decide +kernel
theorem dX8_hitsAgree_57 : decode cX8_hitsAgree 57 = .ok (.aload_n 0, 1) := by decide +kernel
theorem dX8_hitsAgree_58 : decode cX8_hitsAgree 58 = .ok (.getfield 46, 3) := by decide +kernel
theorem dX8_hitsAgree_61 : decode cX8_hitsAgree 61 = .ok (.invokevirtual 255, 3) := by decide +kernel
theorem dX8_hitsAgree_64 : decode cX8_hitsAgree 64 = .ok (.if_icmp .eq 5, 3) := by decide +kernel
theorem dX8_hitsAgree_67 : decode cX8_hitsAgree 67 = .ok (.iconst 0, 1) := by decide +kernel
theorem dX8_hitsAgree_68 : decode cX8_hitsAgree 68 = .ok (.ireturn, 1) := by decide +kernel
theorem dX8_hitsAgree_69 : decode cX8_hitsAgree 69 = .ok (.iinc 1 1, 3) := by decide +kernel
theorem dX8_hitsAgree_72 : decode cX8_hitsAgree 72 = .ok (.goto (-59), 3) := by decide +kernel
theorem dX8_hitsAgree_75 : decode cX8_hitsAgree 75 = .ok (.iconst 1, 1) := by decide +kernel
theorem dX8_hitsAgree_76 : decode cX8_hitsAgree 76 = .ok (.ireturn, 1) := by decide +kernel
theorem dX9_init_0 : decode cX9_init 0 = .ok (.aload_n 0, 1) := by decide +kernel
theorem dX9_init_1 : decode cX9_init 1 = .ok (.invokespecial 1, 3) := by decide +kernel
theorem dX9_init_4 : decode cX9_init 4 = .ok (.aload_n 0, 1) := by decide +kernel
theorem dX9_init_5 : decode cX9_init 5 = .ok (.iload_n 1, 1) := by decide +kernel
theorem dX9_init_6 : decode cX9_init 6 = .ok (.ldc 7, 2) := by decide +kernel
theorem dX9_init_8 : decode cX9_init 8 = .ok (.imul, 1) := by decide +kernel
theorem dX9_init_9 : decode cX9_init 9 = .ok (.sipush 12345, 3) := by decide +kernel
theorem dX9_init_12 : decode cX9_init 12 = .ok (.iadd, 1) := by decide +kernel
theorem dX9_init_13 : decode cX9_init 13 = .ok (.putfield 8, 3) := by decide +kernel
theorem dX9_init_16 : decode cX9_init 16 = .ok (.return_, 1) := by decide +kernel
theorem dX9_next_0 : decode cX9_next 0 = .ok (.aload_n 0, 1) := by decide +kernel
theorem dX9_next_1 : decode cX9_next 1 = .ok (.aload_n 0, 1) := by decide +kernel
theorem dX9_next_2 : decode cX9_next 2 = .ok (.getfield 8, 3) := by decide +kernel
theorem dX9_next_5 : decode cX9_next 5 = .ok (.ldc 14, 2) := by decide +kernel
theorem dX9_next_7 : decode cX9_next 7 = .ok (.imul, 1) := by decide +kernel
theorem dX9_next_8 : decode cX9_next 8 = .ok (.sipush 12345, 3) := by decide +kernel
theorem dX9_next_11 : decode cX9_next 11 = .ok (.iadd, 1) := by decide +kernel
theorem dX9_next_12 : decode cX9_next 12 = .ok (.putfield 8, 3) := by decide +kernel
theorem dX9_next_15 : decode cX9_next 15 = .ok (.aload_n 0, 1) := by decide +kernel
theorem dX9_next_16 : decode cX9_next 16 = .ok (.getfield 8, 3) := by decide +kernel
theorem dX9_next_19 : decode cX9_next 19 = .ok (.bipush 16, 2) := by decide +kernel
theorem dX9_next_21 : decode cX9_next 21 = .ok (.iushr, 1) := by decide +kernel
theorem dX9_next_22 : decode cX9_next 22 = .ok (.sipush 32767, 3) := by decide +kernel
theorem dX9_next_25 : decode cX9_next 25 = .ok (.iand, 1) := by decide +kernel
theorem dX9_next_26 : decode cX9_next 26 = .ok (.iconst 1, 1) := by decide +kernel
theorem dX9_next_27 : decode cX9_next 27 = .ok (.iload_n 1, 1) := by decide +kernel
theorem dX9_next_28 : decode cX9_next 28 = .ok (.invokestatic 15, 3) := by decide +kernel
theorem dX9_next_31 : decode cX9_next 31 = .ok (.irem, 1) := by decide +kernel
theorem dX9_next_32 : decode cX9_next 32 = .ok (.ireturn, 1) := by decide +kernel
set_option maxRecDepth 20000 in
theorem ggJ5_init_d00df_J2_newBytesFor_77867 : GoodIn wsJ5_init_d00df wsJ2_newBytesFor_77867 := goodIn_r _ [11, 5, 12, 13, 10, 14, 15] (by decide +kernel) (by decide +kernel)
set_option maxRecDepth 20000 in
theorem gJ5_init_d00df_J2_newBytesFor_77867 : GoodIn wsJ5_init_d00df (va_wsS RJ5 26 yJ2_newBytesFor_77867 wsJ2_newBytesFor_77867) := goodIn_app (goodIn_of _ (by decide +kernel)) ggJ5_init_d00df_J2_newBytesFor_77867
theorem dJ5_init_d00df_0 : decode cJ5_init_d00df 0 = .ok (.aload_n 0, 1) := by decide +kernel
theorem dJ5_init_d00df_1 : decode cJ5_init_d00df 1 = .ok (.invokespecial 3, 3) := by decide +kernel
theorem dJ5_init_d00df_4 : decode cJ5_init_d00df 4 = .ok (.getstatic 18, 3) := by decide +kernel
theorem dJ5_init_d00df_7 : decode cJ5_init_d00df 7 = .ok (.ifCond .eq 18, 3) := by decide +kernel
theorem dJ5_init_d00df_10 : decode cJ5_init_d00df 10 = .ok (.aload_n 0, 1) := by decide +kernel
theorem dJ5_init_d00df_11 : decode cJ5_init_d00df 11 = .ok (.iload_n 1, 1) := by decide +kernel
theorem dJ5_init_d00df_12 : decode cJ5_init_d00df 12 = .ok (.newarray .byte, 2) := by decide +kernel
theorem dJ5_init_d00df_14 : decode cJ5_init_d00df 14 = .ok (.putfield 15, 3) := by decide +kernel
theorem dJ5_init_d00df_17 : decode cJ5_init_d00df 17 = .ok (.aload_n 0, 1) := by decide +kernel
theorem dJ5_init_d00df_18 : decode cJ5_init_d00df 18 = .ok (.iconst 0, 1) := by decide +kernel
theorem dJ5_init_d00df_19 : decode cJ5_init_d00df 19 = .ok (.putfield 22, 3) := by decide +kernel
theorem dJ5_init_d00df_22 : decode cJ5_init_d00df 22 = .ok (.goto 16, 3) := by decide +kernel
theorem dJ5_init_d00df_25 : decode cJ5_init_d00df 25 = .ok (.aload_n 0, 1) := by decide +kernel
theorem dJ5_init_d00df_26 : decode cJ5_init_d00df 26 = .ok (.iload_n 1, 1) := by decide +kernel
theorem dJ5_init_d00df_27 : decode cJ5_init_d00df 27 = .ok (.invokestatic 26, 3) := by decide +kernel
theorem dJ5_init_d00df_30 : decode cJ5_init_d00df 30 = .ok (.putfield 15, 3) := by decide +kernel
theorem dJ5_init_d00df_33 : decode cJ5_init_d00df 33 = .ok (.aload_n 0, 1) := by decide +kernel
theorem dJ5_init_d00df_34 : decode cJ5_init_d00df 34 = .ok (.iconst 1, 1) := by decide +kernel
theorem dJ5_init_d00df_35 : decode cJ5_init_d00df 35 = .ok (.putfield 22, 3) := by decide +kernel
theorem dJ5_init_d00df_38 : decode cJ5_init_d00df 38 = .ok (.return_, 1) := by decide +kernel
theorem dJ5_length_8abf5_0 : decode cJ5_length_8abf5 0 = .ok (.aload_n 0, 1) := by decide +kernel
theorem dJ5_length_8abf5_1 : decode cJ5_length_8abf5 1 = .ok (.getfield 79, 3) := by decide +kernel
theorem dJ5_length_8abf5_4 : decode cJ5_length_8abf5 4 = .ok (.ireturn, 1) := by decide +kernel
set_option maxRecDepth 20000 in
theorem ggJ5_ensureCapacityInternal_d00df_J5_newCapacity_0f7a4 : GoodIn wsJ5_ensureCapacityInternal_d00df wsJ5_newCapacity_0f7a4 := goodIn_r _ [8, 1, 2, 9, 10, 11, 12, 13, 14, 15, 16, 17, 18, 19, 20, 21, 40, 41, 42, 43] (by decide +kernel) (by decide +kernel)
set_option maxRecDepth 20000 in
theorem gJ5_ensureCapacityInternal_d00df_J5_newCapacity_0f7a4_u104J4 : GoodIn wsJ5_ensureCapacityInternal_d00df (va_wsU RJ5 104 RJ4 "java/lang/AbstractStringBuilder" ⟨"java/lang/AbstractStringBuilder", "newCapacity", "(I)I"⟩ yJ5_newCapacity_0f7a4 wsJ5_newCapacity_0f7a4) := goodIn_app (goodIn_of _ (by decide +kernel)) ggJ5_ensureCapacityInternal_d00df_J5_newCapacity_0f7a4
set_option maxRecDepth 20000 in
theorem ggJ5_ensureCapacityInternal_d00df_J7_copyOf_9075b : GoodIn wsJ5_ensureCapacityInternal_d00df wsJ7_copyOf_9075b := goodIn_r _ [25, 26, 27, 28, 29, 30, 31, 32, 33, 34, 16, 35, 36, 37, 38, 39] (by decide +kernel) (by decide +kernel)
set_option maxRecDepth 20000 in
theorem gJ5_ensureCapacityInternal_d00df_J7_copyOf_9075b : GoodIn wsJ5_ensureCapacityInternal_d00df (va_wsS RJ5 108 yJ7_copyOf_9075b wsJ7_copyOf_9075b) := goodIn_app (goodIn_of _ (by decide +kernel)) ggJ5_ensureCapacityInternal_d00df_J7_copyOf_9075b
theorem dJ5_ensureCapacityInternal_d00df_0 : decode cJ5_ensureCapacityInternal_d00df 0 = .ok (.aload_n 0, 1) := by decide +kernel
theorem dJ5_ensureCapacityInternal_d00df_1 : decode cJ5_ensureCapacityInternal_d00df 1 = .ok (.getfield 15, 3) := by decide +kernel
theorem dJ5_ensureCapacityInternal_d00df_4 : decode cJ5_ensureCapacityInternal_d00df 4 = .ok (.arraylength, 1) := by decide +kernel
theorem dJ5_ensureCapacityInternal_d00df_5 : decode cJ5_ensureCapacityInternal_d00df 5 = .ok (.aload_n 0, 1) := by decide +kernel
theorem dJ5_ensureCapacityInternal_d00df_6 : decode cJ5_ensureCapacityInternal_d00df 6 = .ok (.getfield 22, 3) := by decide +kernel
theorem dJ5_ensureCapacityInternal_d00df_9 : decode cJ5_ensureCapacityInternal_d00df 9 = .ok (.ishr, 1) := by decide +kernel
theorem dJ5_ensureCapacityInternal_d00df_10 : decode cJ5_ensureCapacityInternal_d00df 10 = .ok (.istore_n 2, 1) := by decide +kernel
theorem dJ5_ensureCapacityInternal_d00df_11 : decode cJ5_ensureCapacityInternal_d00df 11 = .ok (.iload_n 1, 1) := by decide +kernel
theorem dJ5_ensureCapacityInternal_d00df_12 : decode cJ5_ensureCapacityInternal_d00df 12 = .ok (.iload_n 2, 1) := by decide +kernel
theorem dJ5_ensureCapacityInternal_d00df_13 : decode cJ5_ensureCapacityInternal_d00df 13 = .ok (.isub, 1) := by decide +kernel
theorem dJ5_ensureCapacityInternal_d00df_14 : decode cJ5_ensureCapacityInternal_d00df 14 = .ok (.ifCond .le 24, 3) := by decide +kernel
theorem dJ5_ensureCapacityInternal_d00df_17 : decode cJ5_ensureCapacityInternal_d00df 17 = .ok (.aload_n 0, 1) := by decide +kernel
theorem dJ5_ensureCapacityInternal_d00df_18 : decode cJ5_ensureCapacityInternal_d00df 18 = .ok (.aload_n 0, 1) := by decide +kernel
theorem dJ5_ensureCapacityInternal_d00df_19 : decode cJ5_ensureCapacityInternal_d00df 19 = .ok (.getfield 15, 3) := by decide +kernel
theorem dJ5_ensureCapacityInternal_d00df_22 : decode cJ5_ensureCapacityInternal_d00df 22 = .ok (.aload_n 0, 1) := by decide +kernel
theorem dJ5_ensureCapacityInternal_d00df_23 : decode cJ5_ensureCapacityInternal_d00df 23 = .ok (.iload_n 1, 1) := by decide +kernel
theorem dJ5_ensureCapacityInternal_d00df_24 : decode cJ5_ensureCapacityInternal_d00df 24 = .ok (.invokevirtual 104, 3) := by decide +kernel
theorem dJ5_ensureCapacityInternal_d00df_27 : decode cJ5_ensureCapacityInternal_d00df 27 = .ok (.aload_n 0, 1) := by decide +kernel
theorem dJ5_ensureCapacityInternal_d00df_28 : decode cJ5_ensureCapacityInternal_d00df 28 = .ok (.getfield 22, 3) := by decide +kernel
theorem dJ5_ensureCapacityInternal_d00df_31 : decode cJ5_ensureCapacityInternal_d00df 31 = .ok (.ishl, 1) := by decide +kernel
theorem dJ5_ensureCapacityInternal_d00df_32 : decode cJ5_ensureCapacityInternal_d00df 32 = .ok (.invokestatic 108, 3) := by decide +kernel
theorem dJ5_ensureCapacityInternal_d00df_35 : decode cJ5_ensureCapacityInternal_d00df 35 = .ok (.putfield 15, 3) := by decide +kernel
theorem dJ5_ensureCapacityInternal_d00df_38 : decode cJ5_ensureCapacityInternal_d00df 38 = .ok (.return_, 1) := by decide +kernel
set_option maxRecDepth 20000 in
theorem ggJ5_newCapacity_0f7a4_J8_newLength_cabcc : GoodIn wsJ5_newCapacity_0f7a4 wsJ8_newLength_cabcc := goodIn_r _ [7, 8, 9, 10, 11, 12, 13, 14, 6, 15] (by decide +kernel) (by decide +kernel)
set_option maxRecDepth 20000 in
theorem gJ5_newCapacity_0f7a4_J8_newLength_cabcc : GoodIn wsJ5_newCapacity_0f7a4 (va_wsS RJ5 114 yJ8_newLength_cabcc wsJ8_newLength_cabcc) := goodIn_app (goodIn_of _ (by decide +kernel)) ggJ5_newCapacity_0f7a4_J8_newLength_cabcc
theorem dJ5_newCapacity_0f7a4_0 : decode cJ5_newCapacity_0f7a4 0 = .ok (.aload_n 0, 1) := by decide +kernel
theorem dJ5_newCapacity_0f7a4_1 : decode cJ5_newCapacity_0f7a4 1 = .ok (.getfield 15, 3) := by decide +kernel
theorem dJ5_newCapacity_0f7a4_4 : decode cJ5_newCapacity_0f7a4 4 = .ok (.arraylength, 1) := by decide +kernel
theorem dJ5_newCapacity_0f7a4_5 : decode cJ5_newCapacity_0f7a4 5 = .ok (.istore_n 2, 1) := by decide +kernel
theorem dJ5_newCapacity_0f7a4_6 : decode cJ5_newCapacity_0f7a4 6 = .ok (.iload_n 1, 1) := by decide +kernel
theorem dJ5_newCapacity_0f7a4_7 : decode cJ5_newCapacity_0f7a4 7 = .ok (.aload_n 0, 1) := by decide +kernel
theorem dJ5_newCapacity_0f7a4_8 : decode cJ5_newCapacity_0f7a4 8 = .ok (.getfield 22, 3) := by decide +kernel
theorem dJ5_newCapacity_0f7a4_11 : decode cJ5_newCapacity_0f7a4 11 = .ok (.ishl, 1) := by decide +kernel
theorem dJ5_newCapacity_0f7a4_12 : decode cJ5_newCapacity_0f7a4 12 = .ok (.istore_n 3, 1) := by decide +kernel
theorem dJ5_newCapacity_0f7a4_13 : decode cJ5_newCapacity_0f7a4 13 = .ok (.iload_n 3, 1) := by decide +kernel
theorem dJ5_newCapacity_0f7a4_14 : decode cJ5_newCapacity_0f7a4 14 = .ok (.iload_n 2, 1) := by decide +kernel
theorem dJ5_newCapacity_0f7a4_15 : decode cJ5_newCapacity_0f7a4 15 = .ok (.isub, 1) := by decide +kernel
theorem dJ5_newCapacity_0f7a4_16 : decode cJ5_newCapacity_0f7a4 16 = .ok (.istore 4, 2) := by decide +kernel
theorem dJ5_newCapacity_0f7a4_18 : decode cJ5_newCapacity_0f7a4 18 = .ok (.iload_n 2, 1) := by decide +kernel
theorem dJ5_newCapacity_0f7a4_19 : decode cJ5_newCapacity_0f7a4 19 = .ok (.iload 4, 2) := by decide +kernel
theorem dJ5_newCapacity_0f7a4_21 : decode cJ5_newCapacity_0f7a4 21 = .ok (.iload_n 2, 1) := by decide +kernel
theorem dJ5_newCapacity_0f7a4_22 : decode cJ5_newCapacity_0f7a4 22 = .ok (.iconst 2, 1) := by decide +kernel
theorem dJ5_newCapacity_0f7a4_23 : decode cJ5_newCapacity_0f7a4 23 = .ok (.aload_n 0, 1) := by decide +kernel
theorem dJ5_newCapacity_0f7a4_24 : decode cJ5_newCapacity_0f7a4 24 = .ok (.getfield 22, 3) := by decide +kernel
theorem dJ5_newCapacity_0f7a4_27 : decode cJ5_newCapacity_0f7a4 27 = .ok (.ishl, 1) := by decide +kernel
theorem dJ5_newCapacity_0f7a4_28 : decode cJ5_newCapacity_0f7a4 28 = .ok (.iadd, 1) := by decide +kernel
theorem dJ5_newCapacity_0f7a4_29 : decode cJ5_newCapacity_0f7a4 29 = .ok (.invokestatic 114, 3) := by decide +kernel
theorem dJ5_newCapacity_0f7a4_32 : decode cJ5_newCapacity_0f7a4 32 = .ok (.istore 5, 2) := by decide +kernel
theorem dJ5_newCapacity_0f7a4_34 : decode cJ5_newCapacity_0f7a4 34 = .ok (.iload 5, 2) := by decide +kernel
theorem dJ5_newCapacity_0f7a4_36 : decode cJ5_newCapacity_0f7a4 36 = .ok (.ldc 39, 2) := by decide +kernel
theorem dJ5_newCapacity_0f7a4_38 : decode cJ5_newCapacity_0f7a4 38 = .ok (.if_icmp .ne 13, 3) := by decide +kernel
theorem dJ5_newCapacity_0f7a4_41 : decode cJ5_newCapacity_0f7a4 41 = .ok (.new 120, 3) := by decide +kernel
theorem dJ5_newCapacity_0f7a4_44 : decode cJ5_newCapacity_0f7a4 44 = .ok (.dup, 1) := by decide +kernel
theorem dJ5_newCapacity_0f7a4_45 : decode cJ5_newCapacity_0f7a4 45 = .ok (.ldc 122, 2) := by decide +kernel
theorem dJ5_newCapacity_0f7a4_47 : decode cJ5_newCapacity_0f7a4 47 = .ok (.invokespecial 124, 3) := by decide +kernel
theorem dJ5_newCapacity_0f7a4_50 : decode cJ5_newCapacity_0f7a4 50 = .ok (.athrow, 1) := by decide +kernel
theorem dJ5_newCapacity_0f7a4_51 : decode cJ5_newCapacity_0f7a4 51 = .ok (.iload 5, 2) := by decide +kernel
theorem dJ5_newCapacity_0f7a4_53 : decode cJ5_newCapacity_0f7a4 53 = .ok (.aload_n 0, 1) := by decide +kernel
theorem dJ5_newCapacity_0f7a4_54 : decode cJ5_newCapacity_0f7a4 54 = .ok (.getfield 22, 3) := by decide +kernel
theorem dJ5_newCapacity_0f7a4_57 : decode cJ5_newCapacity_0f7a4 57 = .ok (.ishr, 1) := by decide +kernel
theorem dJ5_newCapacity_0f7a4_58 : decode cJ5_newCapacity_0f7a4 58 = .ok (.ireturn, 1) := by decide +kernel
set_option maxRecDepth 20000 in
theorem ggJ5_inflate_da8c8_J5_isLatin1_aae02 : GoodIn wsJ5_inflate_da8c8 wsJ5_isLatin1_aae02 := goodIn_r _ [9, 10, 3, 48, 49, 50, 51] (by decide +kernel) (by decide +kernel)
set_option maxRecDepth 20000 in
theorem gJ5_inflate_da8c8_J5_isLatin1_aae02_u83J4 : GoodIn wsJ5_inflate_da8c8 (va_wsU RJ5 83 RJ4 "java/lang/AbstractStringBuilder" ⟨"java/lang/AbstractStringBuilder", "isLatin1", "()Z"⟩ yJ5_isLatin1_aae02 wsJ5_isLatin1_aae02) := goodIn_app (goodIn_of _ (by decide +kernel)) ggJ5_inflate_da8c8_J5_isLatin1_aae02
set_option maxRecDepth 20000 in
theorem ggJ5_inflate_da8c8_J2_newBytesFor_77867 : GoodIn wsJ5_inflate_da8c8 wsJ2_newBytesFor_77867 := goodIn_r _ [14, 15, 16, 17, 13, 18, 19] (by decide +kernel) (by decide +kernel)
set_option maxRecDepth 20000 in
theorem gJ5_inflate_da8c8_J2_newBytesFor_77867 : GoodIn wsJ5_inflate_da8c8 (va_wsS RJ5 26 yJ2_newBytesFor_77867 wsJ2_newBytesFor_77867) := goodIn_app (goodIn_of _ (by decide +kernel)) ggJ5_inflate_da8c8_J2_newBytesFor_77867
set_option maxRecDepth 20000 in
theorem ggJ5_inflate_da8c8_J1_inflate_0e8fd : GoodIn wsJ5_inflate_da8c8 wsJ1_inflate_0e8fd := goodIn_r _ [23, 24, 25, 13, 26, 27, 28, 29, 30, 31, 32, 33, 34, 35, 36, 37, 38, 39, 40, 41, 42, 43, 44, 45, 46, 47] (by decide +kernel) (by decide +kernel)
set_option maxRecDepth 20000 in
theorem gJ5_inflate_da8c8_J1_inflate_0e8fd : GoodIn wsJ5_inflate_da8c8 (va_wsS RJ5 125 yJ1_inflate_0e8fd wsJ1_inflate_0e8fd) := goodIn_app (goodIn_of _ (by decide +kernel)) ggJ5_inflate_da8c8_J1_inflate_0e8fd
theorem dJ5_inflate_da8c8_0 : decode cJ5_inflate_da8c8 0 = .ok (.aload_n 0, 1) := by decide +kernel
theorem dJ5_inflate_da8c8_1 : decode cJ5_inflate_da8c8 1 = .ok (.invokevirtual 83, 3) := by decide +kernel
theorem dJ5_inflate_da8c8_4 : decode cJ5_inflate_da8c8 4 = .ok (.ifCond .ne 4, 3) := by decide +kernel
theorem dJ5_inflate_da8c8_7 : decode cJ5_inflate_da8c8 7 = .ok (.return_, 1) := by decide +kernel
theorem dJ5_inflate_da8c8_8 : decode cJ5_inflate_da8c8 8 = .ok (.aload_n 0, 1) := by decide +kernel
theorem dJ5_inflate_da8c8_9 : decode cJ5_inflate_da8c8 9 = .ok (.getfield 15, 3) := by decide +kernel
theorem dJ5_inflate_da8c8_12 : decode cJ5_inflate_da8c8 12 = .ok (.arraylength, 1) := by decide +kernel
theorem dJ5_inflate_da8c8_13 : decode cJ5_inflate_da8c8 13 = .ok (.invokestatic 26, 3) := by decide +kernel
theorem dJ5_inflate_da8c8_16 : decode cJ5_inflate_da8c8 16 = .ok (.astore_n 1, 1) := by decide +kernel
theorem dJ5_inflate_da8c8_17 : decode cJ5_inflate_da8c8 17 = .ok (.aload_n 0, 1) := by decide +kernel
theorem dJ5_inflate_da8c8_18 : decode cJ5_inflate_da8c8 18 = .ok (.getfield 15, 3) := by decide +kernel
theorem dJ5_inflate_da8c8_21 : decode cJ5_inflate_da8c8 21 = .ok (.iconst 0, 1) := by decide +kernel
theorem dJ5_inflate_da8c8_22 : decode cJ5_inflate_da8c8 22 = .ok (.aload_n 1, 1) := by decide +kernel
theorem dJ5_inflate_da8c8_23 : decode cJ5_inflate_da8c8 23 = .ok (.iconst 0, 1) := by decide +kernel
theorem dJ5_inflate_da8c8_24 : decode cJ5_inflate_da8c8 24 = .ok (.aload_n 0, 1) := by decide +kernel
theorem dJ5_inflate_da8c8_25 : decode cJ5_inflate_da8c8 25 = .ok (.getfield 79, 3) := by decide +kernel
theorem dJ5_inflate_da8c8_28 : decode cJ5_inflate_da8c8 28 = .ok (.invokestatic 125, 3) := by decide +kernel
theorem dJ5_inflate_da8c8_31 : decode cJ5_inflate_da8c8 31 = .ok (.aload_n 0, 1) := by decide +kernel
theorem dJ5_inflate_da8c8_32 : decode cJ5_inflate_da8c8 32 = .ok (.aload_n 1, 1) := by decide +kernel
theorem dJ5_inflate_da8c8_33 : decode cJ5_inflate_da8c8 33 = .ok (.putfield 15, 3) := by decide +kernel
theorem dJ5_inflate_da8c8_36 : decode cJ5_inflate_da8c8 36 = .ok (.aload_n 0, 1) := by decide +kernel
theorem dJ5_inflate_da8c8_37 : decode cJ5_inflate_da8c8 37 = .ok (.iconst 1, 1) := by decide +kernel
theorem dJ5_inflate_da8c8_38 : decode cJ5_inflate_da8c8 38 = .ok (.putfield 22, 3) := by decide +kernel
theorem dJ5_inflate_da8c8_41 : decode cJ5_inflate_da8c8 41 = .ok (.return_, 1) := by decide +kernel
set_option maxRecDepth 20000 in
theorem ggJ5_setLength_d00df_J5_ensureCapacityInternal_d00df : GoodIn wsJ5_setLength_d00df wsJ5_ensureCapacityInternal_d00df := goodIn_r _ [12, 5, 13, 14, 15, 16, 17, 11, 18, 19, 20, 21, 22, 23, 24, 25, 26, 27, 28, 29, 30, 31, 32, 33, 34, 35, 36, 37, 38, 39, 40, 41, 42, 43, 44, 45, 46, 47, 48, 49, 83, 84, 85, 86] (by decide +kernel) (by decide +kernel)
set_option maxRecDepth 20000 in
theorem gJ5_setLength_d00df_J5_ensureCapacityInternal_d00df_u100J4 : GoodIn wsJ5_setLength_d00df (va_wsU RJ5 100 RJ4 "java/lang/AbstractStringBuilder" ⟨"java/lang/AbstractStringBuilder", "ensureCapacityInternal", "(I)V"⟩ yJ5_ensureCapacityInternal_d00df wsJ5_ensureCapacityInternal_d00df) := goodIn_app (goodIn_of _ (by decide +kernel)) ggJ5_setLength_d00df_J5_ensureCapacityInternal_d00df
set_option maxRecDepth 20000 in
theorem ggJ5_setLength_d00df_J5_isLatin1_aae02 : GoodIn wsJ5_setLength_d00df wsJ5_isLatin1_aae02 := goodIn_r _ [54, 55, 13, 83, 84, 85, 86] (by decide +kernel) (by decide +kernel)
set_option maxRecDepth 20000 in
theorem gJ5_setLength_d00df_J5_isLatin1_aae02_u83J4 : GoodIn wsJ5_setLength_d00df (va_wsU RJ5 83 RJ4 "java/lang/AbstractStringBuilder" ⟨"java/lang/AbstractStringBuilder", "isLatin1", "()Z"⟩ yJ5_isLatin1_aae02 wsJ5_isLatin1_aae02) := goodIn_app (goodIn_of _ (by decide +kernel)) ggJ5_setLength_d00df_J5_isLatin1_aae02
set_option maxRecDepth 20000 in
theorem ggJ5_setLength_d00df_J1_fillNull_b72d1 : GoodIn wsJ5_setLength_d00df wsJ1_fillNull_b72d1 := goodIn_r _ [59, 60, 61, 34, 62, 63, 64, 65, 66, 67, 68, 69, 70, 71, 83, 84, 85, 86, 87, 88, 89, 90, 91, 92] (by decide +kernel) (by decide +kernel)
set_option maxRecDepth 20000 in
theorem gJ5_setLength_d00df_J1_fillNull_b72d1 : GoodIn wsJ5_setLength_d00df (va_wsS RJ5 133 yJ1_fillNull_b72d1 wsJ1_fillNull_b72d1) := goodIn_app (goodIn_of _ (by decide +kernel)) ggJ5_setLength_d00df_J1_fillNull_b72d1
set_option maxRecDepth 20000 in
theorem ggJ5_setLength_d00df_J2_fillNull_b72d1 : GoodIn wsJ5_setLength_d00df wsJ2_fillNull_b72d1 := goodIn_r _ [75, 76, 61, 34, 62, 63, 64, 65, 66, 67, 68, 69, 70, 71, 83, 84, 85, 86, 87, 88, 89, 90, 91, 92] (by decide +kernel) (by decide +kernel)
set_option maxRecDepth 20000 in
theorem gJ5_setLength_d00df_J2_fillNull_b72d1 : GoodIn wsJ5_setLength_d00df (va_wsS RJ5 137 yJ2_fillNull_b72d1 wsJ2_fillNull_b72d1) := goodIn_app (goodIn_of _ (by decide +kernel)) ggJ5_setLength_d00df_J2_fillNull_b72d1
theorem dJ5_setLength_d00df_0 : decode cJ5_setLength_d00df 0 = .ok (.iload_n 1, 1) := by decide +kernel
theorem dJ5_setLength_d00df_1 : decode cJ5_setLength_d00df 1 = .ok (.ifCond .ge 12, 3) := by decide +kernel
theorem dJ5_setLength_d00df_4 : decode cJ5_setLength_d00df 4 = .ok (.new 129, 3) := by decide +kernel
theorem dJ5_setLength_d00df_7 : decode cJ5_setLength_d00df 7 = .ok (.dup, 1) := by decide +kernel
theorem dJ5_setLength_d00df_8 : decode cJ5_setLength_d00df 8 = .ok (.iload_n 1, 1) := by decide +kernel
theorem dJ5_setLength_d00df_9 : decode cJ5_setLength_d00df 9 = .ok (.invokespecial 131, 3) := by decide +kernel
theorem dJ5_setLength_d00df_12 : decode cJ5_setLength_d00df 12 = .ok (.athrow, 1) := by decide +kernel
theorem dJ5_setLength_d00df_13 : decode cJ5_setLength_d00df 13 = .ok (.aload_n 0, 1) := by decide +kernel
theorem dJ5_setLength_d00df_14 : decode cJ5_setLength_d00df 14 = .ok (.iload_n 1, 1) := by decide +kernel
theorem dJ5_setLength_d00df_15 : decode cJ5_setLength_d00df 15 = .ok (.invokevirtual 100, 3) := by decide +kernel
theorem dJ5_setLength_d00df_18 : decode cJ5_setLength_d00df 18 = .ok (.aload_n 0, 1) := by decide +kernel
theorem dJ5_setLength_d00df_19 : decode cJ5_setLength_d00df 19 = .ok (.getfield 79, 3) := by decide +kernel
theorem dJ5_setLength_d00df_22 : decode cJ5_setLength_d00df 22 = .ok (.iload_n 1, 1) := by decide +kernel
theorem dJ5_setLength_d00df_23 : decode cJ5_setLength_d00df 23 = .ok (.if_icmp .ge 40, 3) := by decide +kernel
theorem dJ5_setLength_d00df_26 : decode cJ5_setLength_d00df 26 = .ok (.aload_n 0, 1) := by decide +kernel
theorem dJ5_setLength_d00df_27 : decode cJ5_setLength_d00df 27 = .ok (.invokevirtual 83, 3) := by decide +kernel
theorem dJ5_setLength_d00df_30 : decode cJ5_setLength_d00df 30 = .ok (.ifCond .eq 18, 3) := by decide +kernel
theorem dJ5_setLength_d00df_33 : decode cJ5_setLength_d00df 33 = .ok (.aload_n 0, 1) := by decide +kernel
theorem dJ5_setLength_d00df_34 : decode cJ5_setLength_d00df 34 = .ok (.getfield 15, 3) := by decide +kernel
theorem dJ5_setLength_d00df_37 : decode cJ5_setLength_d00df 37 = .ok (.aload_n 0, 1) := by decide +kernel
theorem dJ5_setLength_d00df_38 : decode cJ5_setLength_d00df 38 = .ok (.getfield 79, 3) := by decide +kernel
theorem dJ5_setLength_d00df_41 : decode cJ5_setLength_d00df 41 = .ok (.iload_n 1, 1) := by decide +kernel
theorem dJ5_setLength_d00df_42 : decode cJ5_setLength_d00df 42 = .ok (.invokestatic 133, 3) := by decide +kernel
theorem dJ5_setLength_d00df_45 : decode cJ5_setLength_d00df 45 = .ok (.goto 31, 3) := by decide +kernel
theorem dJ5_setLength_d00df_48 : decode cJ5_setLength_d00df 48 = .ok (.aload_n 0, 1) := by decide +kernel
theorem dJ5_setLength_d00df_49 : decode cJ5_setLength_d00df 49 = .ok (.getfield 15, 3) := by decide +kernel
theorem dJ5_setLength_d00df_52 : decode cJ5_setLength_d00df 52 = .ok (.aload_n 0, 1) := by decide +kernel
theorem dJ5_setLength_d00df_53 : decode cJ5_setLength_d00df 53 = .ok (.getfield 79, 3) := by decide +kernel
theorem dJ5_setLength_d00df_56 : decode cJ5_setLength_d00df 56 = .ok (.iload_n 1, 1) := by decide +kernel
theorem dJ5_setLength_d00df_57 : decode cJ5_setLength_d00df 57 = .ok (.invokestatic 137, 3) := by decide +kernel
theorem dJ5_setLength_d00df_60 : decode cJ5_setLength_d00df 60 = .ok (.goto 16, 3) := by decide +kernel
theorem dJ5_setLength_d00df_63 : decode cJ5_setLength_d00df 63 = .ok (.aload_n 0, 1) := by decide +kernel
theorem dJ5_setLength_d00df_64 : decode cJ5_setLength_d00df 64 = .ok (.getfield 79, 3) := by decide +kernel
theorem dJ5_setLength_d00df_67 : decode cJ5_setLength_d00df 67 = .ok (.iload_n 1, 1) := by decide +kernel
theorem dJ5_setLength_d00df_68 : decode cJ5_setLength_d00df 68 = .ok (.if_icmp .le 8, 3) := by decide +kernel
theorem dJ5_setLength_d00df_71 : decode cJ5_setLength_d00df 71 = .ok (.aload_n 0, 1) := by decide +kernel
theorem dJ5_setLength_d00df_72 : decode cJ5_setLength_d00df 72 = .ok (.iconst 1, 1) := by decide +kernel
theorem dJ5_setLength_d00df_73 : decode cJ5_setLength_d00df 73 = .ok (.putfield 73, 3) := by decide +kernel
theorem dJ5_setLength_d00df_76 : decode cJ5_setLength_d00df 76 = .ok (.aload_n 0, 1) := by decide +kernel
theorem dJ5_setLength_d00df_77 : decode cJ5_setLength_d00df 77 = .ok (.iload_n 1, 1) := by decide +kernel
theorem dJ5_setLength_d00df_78 : decode cJ5_setLength_d00df 78 = .ok (.putfield 79, 3) := by decide +kernel
theorem dJ5_setLength_d00df_81 : decode cJ5_setLength_d00df 81 = .ok (.return_, 1) := by decide +kernel
set_option maxRecDepth 20000 in
theorem ggJ5_charAt_5068e_J0_checkIndex_df160 : GoodIn wsJ5_charAt_5068e wsJ0_checkIndex_df160 := goodIn_r _ [11, 12, 13, 14, 15, 16] (by decide +kernel) (by decide +kernel)
set_option maxRecDepth 20000 in
theorem gJ5_charAt_5068e_J0_checkIndex_df160 : GoodIn wsJ5_charAt_5068e (va_wsS RJ5 144 yJ0_checkIndex_df160 wsJ0_checkIndex_df160) := goodIn_app (goodIn_of _ (by decide +kernel)) ggJ5_charAt_5068e_J0_checkIndex_df160
set_option maxRecDepth 20000 in
theorem ggJ5_charAt_5068e_J2_getChar_3b067 : GoodIn wsJ5_charAt_5068e wsJ2_getChar_3b067 := goodIn_r _ [20, 21, 22, 23, 24, 25, 19, 26] (by decide +kernel) (by decide +kernel)
set_option maxRecDepth 20000 in
theorem gJ5_charAt_5068e_J2_getChar_3b067 : GoodIn wsJ5_charAt_5068e (va_wsS RJ5 148 yJ2_getChar_3b067 wsJ2_getChar_3b067) := goodIn_app (goodIn_of _ (by decide +kernel)) ggJ5_charAt_5068e_J2_getChar_3b067
theorem dJ5_charAt_5068e_0 : decode cJ5_charAt_5068e 0 = .ok (.aload_n 0, 1) := by decide +kernel
theorem dJ5_charAt_5068e_1 : decode cJ5_charAt_5068e 1 = .ok (.getfield 22, 3) := by decide +kernel
theorem dJ5_charAt_5068e_4 : decode cJ5_charAt_5068e 4 = .ok (.istore_n 2, 1) := by decide +kernel
theorem dJ5_charAt_5068e_5 : decode cJ5_charAt_5068e 5 = .ok (.aload_n 0, 1) := by decide +kernel
theorem dJ5_charAt_5068e_6 : decode cJ5_charAt_5068e 6 = .ok (.getfield 15, 3) := by decide +kernel
theorem dJ5_charAt_5068e_9 : decode cJ5_charAt_5068e 9 = .ok (.astore_n 3, 1) := by decide +kernel
theorem dJ5_charAt_5068e_10 : decode cJ5_charAt_5068e 10 = .ok (.aload_n 0, 1) := by decide +kernel
theorem dJ5_charAt_5068e_11 : decode cJ5_charAt_5068e 11 = .ok (.getfield 79, 3) := by decide +kernel
theorem dJ5_charAt_5068e_14 : decode cJ5_charAt_5068e 14 = .ok (.aload_n 3, 1) := by decide +kernel
theorem dJ5_charAt_5068e_15 : decode cJ5_charAt_5068e 15 = .ok (.arraylength, 1) := by decide +kernel
theorem dJ5_charAt_5068e_16 : decode cJ5_charAt_5068e 16 = .ok (.iload_n 2, 1) := by decide +kernel
theorem dJ5_charAt_5068e_17 : decode cJ5_charAt_5068e 17 = .ok (.ishr, 1) := by decide +kernel
theorem dJ5_charAt_5068e_18 : decode cJ5_charAt_5068e 18 = .ok (.invokestatic 138, 3) := by decide +kernel
theorem dJ5_charAt_5068e_21 : decode cJ5_charAt_5068e 21 = .ok (.istore 4, 2) := by decide +kernel
theorem dJ5_charAt_5068e_23 : decode cJ5_charAt_5068e 23 = .ok (.iload_n 1, 1) := by decide +kernel
theorem dJ5_charAt_5068e_24 : decode cJ5_charAt_5068e 24 = .ok (.iload 4, 2) := by decide +kernel
theorem dJ5_charAt_5068e_26 : decode cJ5_charAt_5068e 26 = .ok (.invokestatic 144, 3) := by decide +kernel
theorem dJ5_charAt_5068e_29 : decode cJ5_charAt_5068e 29 = .ok (.iload_n 2, 1) := by decide +kernel
theorem dJ5_charAt_5068e_30 : decode cJ5_charAt_5068e 30 = .ok (.ifCond .ne 12, 3) := by decide +kernel
theorem dJ5_charAt_5068e_33 : decode cJ5_charAt_5068e 33 = .ok (.aload_n 3, 1) := by decide +kernel
theorem dJ5_charAt_5068e_34 : decode cJ5_charAt_5068e 34 = .ok (.iload_n 1, 1) := by decide +kernel
theorem dJ5_charAt_5068e_35 : decode cJ5_charAt_5068e 35 = .ok (.baload, 1) := by decide +kernel
theorem dJ5_charAt_5068e_36 : decode cJ5_charAt_5068e 36 = .ok (.sipush 255, 3) := by decide +kernel
theorem dJ5_charAt_5068e_39 : decode cJ5_charAt_5068e 39 = .ok (.iand, 1) := by decide +kernel
theorem dJ5_charAt_5068e_40 : decode cJ5_charAt_5068e 40 = .ok (.i2c, 1) := by decide +kernel
theorem dJ5_charAt_5068e_41 : decode cJ5_charAt_5068e 41 = .ok (.ireturn, 1) := by decide +kernel
theorem dJ5_charAt_5068e_42 : decode cJ5_charAt_5068e 42 = .ok (.aload_n 3, 1) := by decide +kernel
theorem dJ5_charAt_5068e_43 : decode cJ5_charAt_5068e 43 = .ok (.iload_n 1, 1) := by decide +kernel
theorem dJ5_charAt_5068e_44 : decode cJ5_charAt_5068e 44 = .ok (.invokestatic 148, 3) := by decide +kernel
theorem dJ5_charAt_5068e_47 : decode cJ5_charAt_5068e 47 = .ok (.ireturn, 1) := by decide +kernel
set_option maxRecDepth 20000 in
theorem ggJ5_append_cf1ce_J5_appendNull_278bc : GoodIn wsJ5_append_cf1ce wsJ5_appendNull_278bc := goodIn_r _ [7, 1, 8, 9, 10, 11, 12, 6, 13, 14, 15, 16, 17, 18, 19, 20, 21, 22, 23, 24, 25, 26, 27, 28, 29, 30, 31, 32, 33, 34, 35, 36, 37, 38, 39, 40, 41, 42, 43, 44, 45, 46, 47, 48, 49, 50, 51, 52, 53, 54, 55, 56, 57, 58, 59, 60, 61, 62, 63, 64, 65, 66, 67, 68, 69, 70, 71, 72, 73, 74, 75, 76, 77, 78, 79, 80, 81, 138, 139, 140, 141] (by decide +kernel) (by decide +kernel)
set_option maxRecDepth 20000 in
theorem gJ5_append_cf1ce_J5_appendNull_278bc_u204J4 : GoodIn wsJ5_append_cf1ce (va_wsU RJ5 204 RJ4 "java/lang/AbstractStringBuilder" ⟨"java/lang/AbstractStringBuilder", "appendNull", "()Ljava/lang/AbstractStringBuilder;"⟩ yJ5_appendNull_278bc wsJ5_appendNull_278bc) := goodIn_app (goodIn_of _ (by decide +kernel)) ggJ5_append_cf1ce_J5_appendNull_278bc
set_option maxRecDepth 20000 in
theorem ggJ5_append_cf1ce_J0_length_8abf5 : GoodIn wsJ5_append_cf1ce wsJ0_length_8abf5 := goodIn_r _ [85, 86, 87, 88, 89, 70, 90, 91, 92, 142, 143, 144, 145] (by decide +kernel) (by decide +kernel)
set_option maxRecDepth 20000 in
theorem gJ5_append_cf1ce_J0_length_8abf5 : GoodIn wsJ5_append_cf1ce (wsV RJ5 32 RJ0 yJ0_length_8abf5 wsJ0_length_8abf5) := goodIn_app (goodIn_of _ (by decide +kernel)) ggJ5_append_cf1ce_J0_length_8abf5
set_option maxRecDepth 20000 in
theorem ggJ5_append_cf1ce_J5_ensureCapacityInternal_d00df : GoodIn wsJ5_append_cf1ce wsJ5_ensureCapacityInternal_d00df := goodIn_r _ [13, 8, 14, 15, 16, 17, 18, 6, 19, 20, 21, 22, 23, 24, 25, 26, 27, 28, 29, 30, 31, 32, 33, 34, 35, 36, 37, 38, 39, 40, 41, 42, 43, 44, 45, 46, 47, 48, 49, 50, 138, 139, 140, 141] (by decide +kernel) (by decide +kernel)
set_option maxRecDepth 20000 in
theorem gJ5_append_cf1ce_J5_ensureCapacityInternal_d00df_u100J4 : GoodIn wsJ5_append_cf1ce (va_wsU RJ5 100 RJ4 "java/lang/AbstractStringBuilder" ⟨"java/lang/AbstractStringBuilder", "ensureCapacityInternal", "(I)V"⟩ yJ5_ensureCapacityInternal_d00df wsJ5_ensureCapacityInternal_d00df) := goodIn_app (goodIn_of _ (by decide +kernel)) ggJ5_append_cf1ce_J5_ensureCapacityInternal_d00df
set_option maxRecDepth 20000 in
theorem ggJ5_append_cf1ce_J5_putStringAt_47b60 : GoodIn wsJ5_append_cf1ce wsJ5_putStringAt_47b60 := goodIn_r _ [97, 8, 14, 98, 99, 100, 101, 6, 102, 56, 103, 88, 89, 70, 90, 91, 92, 104, 105, 106, 107, 108, 1, 51, 52, 53, 54, 55, 109, 110, 59, 111, 43, 112, 113, 114, 115, 116, 117, 118, 119, 120, 121, 122, 123, 124, 125, 65, 66, 67, 126, 127, 128, 72, 129, 130, 75, 131, 77, 78, 79, 61, 80, 81, 132, 133, 134, 135, 86, 136, 48, 49, 50, 87, 137, 138, 139, 140, 141, 142, 143, 144, 145] (by decide +kernel) (by decide +kernel)
set_option maxRecDepth 20000 in
theorem gJ5_append_cf1ce_J5_putStringAt_47b60_u208J4 : GoodIn wsJ5_append_cf1ce (va_wsU RJ5 208 RJ4 "java/lang/AbstractStringBuilder" ⟨"java/lang/AbstractStringBuilder", "putStringAt", "(ILjava/lang/String;)V"⟩ yJ5_putStringAt_47b60 wsJ5_putStringAt_47b60) := goodIn_app (goodIn_of _ (by decide +kernel)) ggJ5_append_cf1ce_J5_putStringAt_47b60
theorem dJ5_append_cf1ce_0 : decode cJ5_append_cf1ce 0 = .ok (.aload_n 1, 1) := by decide +kernel
theorem dJ5_append_cf1ce_1 : decode cJ5_append_cf1ce 1 = .ok (.ifnonnull 8, 3) := by decide +kernel
theorem dJ5_append_cf1ce_4 : decode cJ5_append_cf1ce 4 = .ok (.aload_n 0, 1) := by decide +kernel
theorem dJ5_append_cf1ce_5 : decode cJ5_append_cf1ce 5 = .ok (.invokevirtual 204, 3) := by decide +kernel
theorem dJ5_append_cf1ce_8 : decode cJ5_append_cf1ce 8 = .ok (.areturn, 1) := by decide +kernel
theorem dJ5_append_cf1ce_9 : decode cJ5_append_cf1ce 9 = .ok (.aload_n 1, 1) := by decide +kernel
theorem dJ5_append_cf1ce_10 : decode cJ5_append_cf1ce 10 = .ok (.invokevirtual 32, 3) := by decide +kernel
theorem dJ5_append_cf1ce_13 : decode cJ5_append_cf1ce 13 = .ok (.istore_n 2, 1) := by decide +kernel
theorem dJ5_append_cf1ce_14 : decode cJ5_append_cf1ce 14 = .ok (.aload_n 0, 1) := by decide +kernel
theorem dJ5_append_cf1ce_15 : decode cJ5_append_cf1ce 15 = .ok (.aload_n 0, 1) := by decide +kernel
theorem dJ5_append_cf1ce_16 : decode cJ5_append_cf1ce 16 = .ok (.getfield 79, 3) := by decide +kernel
theorem dJ5_append_cf1ce_19 : decode cJ5_append_cf1ce 19 = .ok (.iload_n 2, 1) := by decide +kernel
theorem dJ5_append_cf1ce_20 : decode cJ5_append_cf1ce 20 = .ok (.iadd, 1) := by decide +kernel
theorem dJ5_append_cf1ce_21 : decode cJ5_append_cf1ce 21 = .ok (.invokevirtual 100, 3) := by decide +kernel
theorem dJ5_append_cf1ce_24 : decode cJ5_append_cf1ce 24 = .ok (.aload_n 0, 1) := by decide +kernel
theorem dJ5_append_cf1ce_25 : decode cJ5_append_cf1ce 25 = .ok (.aload_n 0, 1) := by decide +kernel
theorem dJ5_append_cf1ce_26 : decode cJ5_append_cf1ce 26 = .ok (.getfield 79, 3) := by decide +kernel
theorem dJ5_append_cf1ce_29 : decode cJ5_append_cf1ce 29 = .ok (.aload_n 1, 1) := by decide +kernel
theorem dJ5_append_cf1ce_30 : decode cJ5_append_cf1ce 30 = .ok (.invokevirtual 208, 3) := by decide +kernel
theorem dJ5_append_cf1ce_33 : decode cJ5_append_cf1ce 33 = .ok (.aload_n 0, 1) := by decide +kernel
theorem dJ5_append_cf1ce_34 : decode cJ5_append_cf1ce 34 = .ok (.dup, 1) := by decide +kernel
theorem dJ5_append_cf1ce_35 : decode cJ5_append_cf1ce 35 = .ok (.getfield 79, 3) := by decide +kernel
theorem dJ5_append_cf1ce_38 : decode cJ5_append_cf1ce 38 = .ok (.iload_n 2, 1) := by decide +kernel
theorem dJ5_append_cf1ce_39 : decode cJ5_append_cf1ce 39 = .ok (.iadd, 1) := by decide +kernel
theorem dJ5_append_cf1ce_40 : decode cJ5_append_cf1ce 40 = .ok (.putfield 79, 3) := by decide +kernel
theorem dJ5_append_cf1ce_43 : decode cJ5_append_cf1ce 43 = .ok (.aload_n 0, 1) := by decide +kernel
theorem dJ5_append_cf1ce_44 : decode cJ5_append_cf1ce 44 = .ok (.areturn, 1) := by decide +kernel
set_option maxRecDepth 20000 in
theorem ggJ5_append_2ceeb_J5_appendNull_278bc : GoodIn wsJ5_append_2ceeb wsJ5_appendNull_278bc := goodIn_r _ [10, 1, 2, 11, 12, 13, 14, 9, 15, 3, 16, 17, 18, 19, 20, 21, 22, 23, 24, 25, 26, 27, 28, 29, 30, 31, 32, 33, 34, 35, 36, 37, 38, 39, 40, 41, 42, 43, 44, 45, 46, 47, 48, 49, 50, 51, 52, 53, 54, 55, 56, 57, 58, 59, 60, 61, 62, 63, 64, 65, 66, 67, 68, 69, 70, 71, 72, 73, 74, 75, 76, 77, 78, 79, 80, 81, 82, 138, 139, 140, 141] (by decide +kernel) (by decide +kernel)
set_option maxRecDepth 20000 in
theorem gJ5_append_2ceeb_J5_appendNull_278bc_u204J4 : GoodIn wsJ5_append_2ceeb (va_wsU RJ5 204 RJ4 "java/lang/AbstractStringBuilder" ⟨"java/lang/AbstractStringBuilder", "appendNull", "()Ljava/lang/AbstractStringBuilder;"⟩ yJ5_appendNull_278bc wsJ5_appendNull_278bc) := goodIn_app (goodIn_of _ (by decide +kernel)) ggJ5_append_2ceeb_J5_appendNull_278bc
set_option maxRecDepth 20000 in
theorem ggJ5_append_2ceeb_J4_length_8abf5 : GoodIn wsJ5_append_2ceeb wsJ4_length_8abf5 := goodIn_r _ [89, 90, 84, 91, 92, 9, 93, 1, 138, 139, 140, 141] (by decide +kernel) (by decide +kernel)
