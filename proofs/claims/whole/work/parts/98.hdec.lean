set_option maxRecDepth 20000 in
theorem ggL_island_X8_island : GoodIn wsL_island wsX8_island := goodIn_ca (goodIn_ca (goodIn_r _ [7, 8, 9, 10, 11, 12, 13, 14, 15, 16, 6, 17, 18, 19, 20, 21, 22, 23, 24, 25, 26, 27, 28, 29, 30, 31, 32, 33, 34, 35, 36, 37, 38, 39, 40, 41, 42, 43, 44, 45, 46, 47, 48, 49, 50, 51, 52, 53, 54, 55, 56, 57, 58, 59, 60, 61, 62, 63, 64, 65, 66, 67, 68, 69, 70, 71, 72, 73, 74, 75, 76, 77, 78, 79, 80, 81, 82, 83, 84, 85, 86, 87, 88, 89, 90, 91, 92, 93, 94, 95, 96, 97, 98, 99, 100, 101, 102, 103, 104, 105, 106, 107, 108] (by decide +kernel) (by decide +kernel)) (goodIn_sub (fun _ h => List.mem_cons_of_mem _ (List.mem_append_left _ (List.mem_append_right _ h))) (by decide +kernel))) (goodIn_sub (fun _ h => List.mem_cons_of_mem _ (List.mem_append_right _ h)) (by decide +kernel))
set_option maxRecDepth 20000 in
theorem gL_island_X8_island : GoodIn wsL_island (wsV RL 7 RX8 yX8_island wsX8_island) := goodIn_app (goodIn_of _ (by decide +kernel)) ggL_island_X8_island
theorem dL_island_0 : decode cL_island 0 = .ok (.aload 4, 2) := by decide +kernel
theorem dL_island_2 : decode cL_island 2 = .ok (.iconst 0, 1) := by decide +kernel
theorem dL_island_3 : decode cL_island 3 = .ok (.aload_n 0, 1) := by decide +kernel
theorem dL_island_4 : decode cL_island 4 = .ok (.iload_n 1, 1) := by decide +kernel
theorem dL_island_5 : decode cL_island 5 = .ok (.iload_n 2, 1) := by decide +kernel
theorem dL_island_6 : decode cL_island 6 = .ok (.iload_n 3, 1) := by decide +kernel
theorem dL_island_7 : decode cL_island 7 = .ok (.invokevirtual 7, 3) := by decide +kernel
theorem dL_island_10 : decode cL_island 10 = .ok (.i2l, 1) := by decide +kernel
theorem dL_island_11 : decode cL_island 11 = .ok (.lastore, 1) := by decide +kernel
theorem dL_island_12 : decode cL_island 12 = .ok (.goto 11, 3) := by decide +kernel
theorem dL_island_15 : decode cL_island 15 = .ok (.astore 5, 2) := by decide +kernel
theorem dL_island_17 : decode cL_island 17 = .ok (.iconst 1, 1) := by decide +kernel
theorem dL_island_18 : decode cL_island 18 = .ok (.ireturn, 1) := by decide +kernel
theorem dL_island_19 : decode cL_island 19 = .ok (.astore 5, 2) := by decide +kernel
theorem dL_island_21 : decode cL_island 21 = .ok (.iconst 2, 1) := by decide +kernel
theorem dL_island_22 : decode cL_island 22 = .ok (.ireturn, 1) := by decide +kernel
theorem dL_island_23 : decode cL_island 23 = .ok (.iconst 0, 1) := by decide +kernel
theorem dL_island_24 : decode cL_island 24 = .ok (.ireturn, 1) := by decide +kernel
set_option maxRecDepth 20000 in
theorem ggL_find_X8_find : GoodIn wsL_find wsX8_find := goodIn_ca (goodIn_ca (goodIn_ca (goodIn_r _ [8, 9, 10, 11, 12, 13, 14, 15, 7, 16, 17, 18, 19, 20, 21, 22, 23, 24, 25, 26, 27, 28, 29, 30, 31, 32, 33, 34, 35, 36, 37, 38, 39, 40, 41, 42, 43, 44, 45, 46, 47, 48, 49, 50, 51, 52, 53, 54, 55, 56, 57, 58, 59, 60, 61, 62, 63, 64, 65, 66, 67, 68, 69, 70, 71, 72, 73, 74, 75, 76, 77, 78, 79, 80, 81, 82, 83, 84, 85, 86, 87, 88, 89, 90, 91, 92, 93, 94, 95, 96, 97, 98, 99, 100, 101, 102, 103, 104, 105, 106, 107, 108, 109, 110, 111, 112, 113, 114, 115, 116, 117, 118, 119, 120, 121, 122, 123, 124, 125, 126, 127, 128, 129, 130, 131, 132, 133, 134, 135, 136, 137, 138, 139, 140, 141, 142, 143, 144, 145, 146, 147, 148, 149, 150, 151, 152, 153, 154, 155, 156, 157, 158, 159, 160, 161, 162, 163, 164, 165, 166, 167, 168, 169, 170, 171, 172, 173, 174, 175, 176, 177, 178, 179, 180, 181, 182, 183, 184, 185, 186, 187, 188, 189, 190, 191, 192, 193, 194, 195, 196, 197, 198, 199, 200, 201, 202, 203, 204, 205, 206, 207, 208, 209, 210, 211, 212, 213, 214, 215, 216, 217, 218, 219, 220, 221, 222, 223, 224, 225] (by decide +kernel) (by decide +kernel)) (goodIn_sub (fun _ h => List.mem_cons_of_mem _ (List.mem_append_left _ (List.mem_append_left _ (List.mem_append_right _ h)))) (by decide +kernel))) (goodIn_sub (fun _ h => List.mem_cons_of_mem _ (List.mem_append_left _ (List.mem_append_right _ h))) (by decide +kernel))) (goodIn_sub (fun _ h => List.mem_cons_of_mem _ (List.mem_append_right _ h)) (by decide +kernel))
set_option maxRecDepth 20000 in
theorem gL_find_X8_find : GoodIn wsL_find (wsV RL 17 RX8 yX8_find wsX8_find) := goodIn_app (goodIn_of _ (by decide +kernel)) ggL_find_X8_find
theorem dL_find_0 : decode cL_find 0 = .ok (.aload 4, 2) := by decide +kernel
theorem dL_find_2 : decode cL_find 2 = .ok (.iconst 0, 1) := by decide +kernel
theorem dL_find_3 : decode cL_find 3 = .ok (.aload_n 0, 1) := by decide +kernel
theorem dL_find_4 : decode cL_find 4 = .ok (.iload_n 1, 1) := by decide +kernel
theorem dL_find_5 : decode cL_find 5 = .ok (.iload_n 2, 1) := by decide +kernel
theorem dL_find_6 : decode cL_find 6 = .ok (.iload_n 3, 1) := by decide +kernel
theorem dL_find_7 : decode cL_find 7 = .ok (.invokevirtual 17, 3) := by decide +kernel
theorem dL_find_10 : decode cL_find 10 = .ok (.i2l, 1) := by decide +kernel
theorem dL_find_11 : decode cL_find 11 = .ok (.lastore, 1) := by decide +kernel
theorem dL_find_12 : decode cL_find 12 = .ok (.goto 15, 3) := by decide +kernel
theorem dL_find_15 : decode cL_find 15 = .ok (.astore 5, 2) := by decide +kernel
theorem dL_find_17 : decode cL_find 17 = .ok (.iconst 1, 1) := by decide +kernel
theorem dL_find_18 : decode cL_find 18 = .ok (.ireturn, 1) := by decide +kernel
theorem dL_find_19 : decode cL_find 19 = .ok (.astore 5, 2) := by decide +kernel
theorem dL_find_21 : decode cL_find 21 = .ok (.iconst 2, 1) := by decide +kernel
theorem dL_find_22 : decode cL_find 22 = .ok (.ireturn, 1) := by decide +kernel
theorem dL_find_23 : decode cL_find 23 = .ok (.astore 5, 2) := by decide +kernel
theorem dL_find_25 : decode cL_find 25 = .ok (.iconst 3, 1) := by decide +kernel
theorem dL_find_26 : decode cL_find 26 = .ok (.ireturn, 1) := by decide +kernel
theorem dL_find_27 : decode cL_find 27 = .ok (.iconst 0, 1) := by decide +kernel
theorem dL_find_28 : decode cL_find 28 = .ok (.ireturn, 1) := by decide +kernel
set_option maxRecDepth 20000 in
theorem ggL_ship_X8_ship : GoodIn wsL_ship wsX8_ship := goodIn_ca (goodIn_r _ [6, 7, 8, 9, 10, 11, 12, 13, 14, 15, 16, 17, 18, 19, 20, 21, 22, 23, 24, 25, 26, 27, 28, 29, 30, 31, 32, 33, 34, 35, 36, 37, 38, 39, 40, 41, 42, 43, 44, 45, 46, 47, 48, 49, 50, 51, 52, 53, 54, 55, 56, 57, 58, 59, 60, 61, 62, 63, 64, 65, 66, 67, 68, 69, 70, 71, 72, 73, 74, 75, 76, 77, 78, 79, 80, 81, 82, 83, 84, 85, 86, 87, 88, 89, 90, 91, 92, 93, 94, 95, 96, 97, 98, 99, 100, 101, 102, 103, 104, 105, 106, 107, 108, 109, 110, 111, 112, 113, 114, 115, 116, 117, 118, 119, 120, 121, 122, 123, 124, 125, 126, 127, 128, 129, 130, 131, 132, 133, 134] (by decide +kernel) (by decide +kernel)) (goodIn_sub (fun _ h => List.mem_cons_of_mem _ (List.mem_append_right _ h)) (by decide +kernel))
set_option maxRecDepth 20000 in
theorem gL_ship_X8_ship : GoodIn wsL_ship (wsV RL 22 RX8 yX8_ship wsX8_ship) := goodIn_app (goodIn_of _ (by decide +kernel)) ggL_ship_X8_ship
theorem dL_ship_0 : decode cL_ship 0 = .ok (.aload_n 1, 1) := by decide +kernel
theorem dL_ship_1 : decode cL_ship 1 = .ok (.iconst 0, 1) := by decide +kernel
theorem dL_ship_2 : decode cL_ship 2 = .ok (.aload_n 0, 1) := by decide +kernel
theorem dL_ship_3 : decode cL_ship 3 = .ok (.invokevirtual 22, 3) := by decide +kernel
theorem dL_ship_6 : decode cL_ship 6 = .ok (.i2l, 1) := by decide +kernel
theorem dL_ship_7 : decode cL_ship 7 = .ok (.lastore, 1) := by decide +kernel
theorem dL_ship_8 : decode cL_ship 8 = .ok (.goto 6, 3) := by decide +kernel
theorem dL_ship_11 : decode cL_ship 11 = .ok (.astore_n 2, 1) := by decide +kernel
theorem dL_ship_12 : decode cL_ship 12 = .ok (.iconst 1, 1) := by decide +kernel
theorem dL_ship_13 : decode cL_ship 13 = .ok (.ireturn, 1) := by decide +kernel
theorem dL_ship_14 : decode cL_ship 14 = .ok (.iconst 0, 1) := by decide +kernel
theorem dL_ship_15 : decode cL_ship 15 = .ok (.ireturn, 1) := by decide +kernel
set_option maxRecDepth 20000 in
theorem ggL_plant_X8_plant : GoodIn wsL_plant wsX8_plant := goodIn_ca (goodIn_ca (goodIn_ca (goodIn_ca (goodIn_r _ [9, 10, 11, 12, 13, 14, 15, 16, 17, 18, 19, 8, 20, 21, 22, 23, 24, 25, 26, 27, 28, 29, 30, 31, 32, 33, 34, 35, 36, 37, 38, 39, 40, 41, 42, 43, 44, 45, 46, 47, 48, 49, 50, 51, 52, 53, 54, 55, 56, 57, 58, 59, 60, 61, 62, 63, 64, 65, 66, 67, 68, 69, 70, 71, 72, 73, 74, 75, 76, 77, 78, 79, 80, 81, 82, 83, 84, 85, 86, 87, 88, 89, 90, 91, 92, 93, 94, 95, 96, 97, 98, 99, 100, 101, 102, 103, 104, 105, 106, 107, 108, 109, 110, 111, 112, 113, 114, 115, 116, 117, 118, 119, 120, 121, 122, 123, 124, 125, 126, 127, 128, 129, 130, 131, 132, 133, 134, 135, 136, 137, 138, 139, 140, 141, 142, 143, 144, 145, 146, 147, 148, 149, 150, 151, 152, 153, 154, 155, 156, 157, 158, 159, 160, 161, 162, 163, 164, 165, 166, 167, 168, 169, 170, 171, 172, 173, 174, 175, 176, 177, 178, 179, 180, 181, 182, 183, 184, 185, 186, 187, 188, 189, 190, 191, 192, 193, 194, 195, 196, 197, 198, 199, 200, 201, 202, 203, 204, 205, 206, 207, 208, 209, 210, 211, 212, 213, 214, 215, 216, 217, 218, 219, 220, 221, 222, 223, 224, 225, 226, 227, 228, 229, 230, 231, 232, 233, 234, 235, 236, 237, 238, 239, 240, 241, 242, 243, 244, 245, 246, 247] (by decide +kernel) (by decide +kernel)) (goodIn_sub (fun _ h => List.mem_cons_of_mem _ (List.mem_append_left _ (List.mem_append_left _ (List.mem_append_left _ (List.mem_append_right _ h))))) (by decide +kernel))) (goodIn_sub (fun _ h => List.mem_cons_of_mem _ (List.mem_append_left _ (List.mem_append_left _ (List.mem_append_right _ h)))) (by decide +kernel))) (goodIn_sub (fun _ h => List.mem_cons_of_mem _ (List.mem_append_left _ (List.mem_append_right _ h))) (by decide +kernel))) (goodIn_sub (fun _ h => List.mem_cons_of_mem _ (List.mem_append_right _ h)) (by decide +kernel))
set_option maxRecDepth 20000 in
theorem gL_plant_X8_plant : GoodIn wsL_plant (wsV RL 26 RX8 yX8_plant wsX8_plant) := goodIn_app (goodIn_of _ (by decide +kernel)) ggL_plant_X8_plant
theorem dL_plant_0 : decode cL_plant 0 = .ok (.aload 5, 2) := by decide +kernel
theorem dL_plant_2 : decode cL_plant 2 = .ok (.iconst 0, 1) := by decide +kernel
theorem dL_plant_3 : decode cL_plant 3 = .ok (.aload_n 0, 1) := by decide +kernel
theorem dL_plant_4 : decode cL_plant 4 = .ok (.iload_n 1, 1) := by decide +kernel
theorem dL_plant_5 : decode cL_plant 5 = .ok (.iload_n 2, 1) := by decide +kernel
theorem dL_plant_6 : decode cL_plant 6 = .ok (.iload_n 3, 1) := by decide +kernel
theorem dL_plant_7 : decode cL_plant 7 = .ok (.iload 4, 2) := by decide +kernel
theorem dL_plant_9 : decode cL_plant 9 = .ok (.invokevirtual 26, 3) := by decide +kernel
theorem dL_plant_12 : decode cL_plant 12 = .ok (.i2l, 1) := by decide +kernel
theorem dL_plant_13 : decode cL_plant 13 = .ok (.lastore, 1) := by decide +kernel
theorem dL_plant_14 : decode cL_plant 14 = .ok (.goto 19, 3) := by decide +kernel
theorem dL_plant_17 : decode cL_plant 17 = .ok (.astore 6, 2) := by decide +kernel
theorem dL_plant_19 : decode cL_plant 19 = .ok (.iconst 1, 1) := by decide +kernel
theorem dL_plant_20 : decode cL_plant 20 = .ok (.ireturn, 1) := by decide +kernel
theorem dL_plant_21 : decode cL_plant 21 = .ok (.astore 6, 2) := by decide +kernel
theorem dL_plant_23 : decode cL_plant 23 = .ok (.iconst 2, 1) := by decide +kernel
theorem dL_plant_24 : decode cL_plant 24 = .ok (.ireturn, 1) := by decide +kernel
theorem dL_plant_25 : decode cL_plant 25 = .ok (.astore 6, 2) := by decide +kernel
theorem dL_plant_27 : decode cL_plant 27 = .ok (.iconst 3, 1) := by decide +kernel
theorem dL_plant_28 : decode cL_plant 28 = .ok (.ireturn, 1) := by decide +kernel
theorem dL_plant_29 : decode cL_plant 29 = .ok (.astore 6, 2) := by decide +kernel
theorem dL_plant_31 : decode cL_plant 31 = .ok (.iconst 4, 1) := by decide +kernel
theorem dL_plant_32 : decode cL_plant 32 = .ok (.ireturn, 1) := by decide +kernel
theorem dL_plant_33 : decode cL_plant 33 = .ok (.iconst 0, 1) := by decide +kernel
theorem dL_plant_34 : decode cL_plant 34 = .ok (.ireturn, 1) := by decide +kernel
set_option maxRecDepth 20000 in
theorem ggL_segment_X8_segment : GoodIn wsL_segment wsX8_segment := goodIn_ca (goodIn_r _ [6, 7, 8, 9, 10, 11, 12, 13, 14, 15, 16, 17, 18, 19, 20, 21, 22, 23, 24, 25, 26, 27, 28, 29, 30, 31, 32, 33, 34, 35, 36, 37, 38, 39, 40, 41, 42, 43, 44, 45, 46, 47, 48, 49, 50, 51, 52] (by decide +kernel) (by decide +kernel)) (goodIn_sub (fun _ h => List.mem_cons_of_mem _ (List.mem_append_right _ h)) (by decide +kernel))
set_option maxRecDepth 20000 in
theorem gL_segment_X8_segment : GoodIn wsL_segment (wsV RL 32 RX8 yX8_segment wsX8_segment) := goodIn_app (goodIn_of _ (by decide +kernel)) ggL_segment_X8_segment
theorem dL_segment_0 : decode cL_segment 0 = .ok (.aload_n 2, 1) := by decide +kernel
theorem dL_segment_1 : decode cL_segment 1 = .ok (.iconst 0, 1) := by decide +kernel
theorem dL_segment_2 : decode cL_segment 2 = .ok (.aload_n 0, 1) := by decide +kernel
theorem dL_segment_3 : decode cL_segment 3 = .ok (.iload_n 1, 1) := by decide +kernel
theorem dL_segment_4 : decode cL_segment 4 = .ok (.invokevirtual 32, 3) := by decide +kernel
theorem dL_segment_7 : decode cL_segment 7 = .ok (.i2l, 1) := by decide +kernel
theorem dL_segment_8 : decode cL_segment 8 = .ok (.lastore, 1) := by decide +kernel
theorem dL_segment_9 : decode cL_segment 9 = .ok (.goto 6, 3) := by decide +kernel
theorem dL_segment_12 : decode cL_segment 12 = .ok (.astore_n 3, 1) := by decide +kernel
theorem dL_segment_13 : decode cL_segment 13 = .ok (.iconst 1, 1) := by decide +kernel
theorem dL_segment_14 : decode cL_segment 14 = .ok (.ireturn, 1) := by decide +kernel
theorem dL_segment_15 : decode cL_segment 15 = .ok (.iconst 0, 1) := by decide +kernel
theorem dL_segment_16 : decode cL_segment 16 = .ok (.ireturn, 1) := by decide +kernel
set_option maxRecDepth 20000 in
theorem ggL_size_X8_size : GoodIn wsL_size wsX8_size := goodIn_ca (goodIn_r _ [6, 7, 8, 9, 10, 5, 11, 12, 13, 14, 15, 16, 17, 18, 19, 20, 21, 22, 23, 24, 25, 26, 27, 28, 29, 30, 31, 32, 33, 34, 35, 36, 37, 38, 39, 40, 41, 42, 43, 44, 45, 46, 47, 48, 49, 50, 51, 52, 53, 54, 55, 56, 57, 58, 59, 60, 61, 62, 63] (by decide +kernel) (by decide +kernel)) (goodIn_sub (fun _ h => List.mem_cons_of_mem _ (List.mem_append_right _ h)) (by decide +kernel))
set_option maxRecDepth 20000 in
theorem gL_size_X8_size : GoodIn wsL_size (wsV RL 38 RX8 yX8_size wsX8_size) := goodIn_app (goodIn_of _ (by decide +kernel)) ggL_size_X8_size
theorem dL_size_0 : decode cL_size 0 = .ok (.aload_n 2, 1) := by decide +kernel
theorem dL_size_1 : decode cL_size 1 = .ok (.iconst 0, 1) := by decide +kernel
theorem dL_size_2 : decode cL_size 2 = .ok (.aload_n 0, 1) := by decide +kernel
theorem dL_size_3 : decode cL_size 3 = .ok (.iload_n 1, 1) := by decide +kernel
theorem dL_size_4 : decode cL_size 4 = .ok (.invokevirtual 38, 3) := by decide +kernel
theorem dL_size_7 : decode cL_size 7 = .ok (.i2l, 1) := by decide +kernel
theorem dL_size_8 : decode cL_size 8 = .ok (.lastore, 1) := by decide +kernel
theorem dL_size_9 : decode cL_size 9 = .ok (.goto 6, 3) := by decide +kernel
theorem dL_size_12 : decode cL_size 12 = .ok (.astore_n 3, 1) := by decide +kernel
theorem dL_size_13 : decode cL_size 13 = .ok (.iconst 1, 1) := by decide +kernel
theorem dL_size_14 : decode cL_size 14 = .ok (.ireturn, 1) := by decide +kernel
theorem dL_size_15 : decode cL_size 15 = .ok (.iconst 0, 1) := by decide +kernel
theorem dL_size_16 : decode cL_size 16 = .ok (.ireturn, 1) := by decide +kernel
set_option maxRecDepth 20000 in
theorem ggL_merge_X8_merge : GoodIn wsL_merge wsX8_merge := goodIn_ca (goodIn_ca (goodIn_ca (goodIn_r _ [8, 9, 10, 11, 12, 13, 14, 15, 16, 17, 18, 19, 20, 21, 22, 23, 24, 25, 26, 27, 28, 29, 30, 31, 32, 33, 34, 35, 36, 37, 38, 39, 40, 41, 42, 43, 44, 45, 46, 47, 7, 48, 49, 50, 51, 52, 53, 54, 55, 56, 57, 58, 59, 60, 61, 62, 63, 64, 65, 66, 67, 68, 69, 70, 71, 72, 73, 74, 75, 76, 77, 78, 79, 80, 81, 82, 83, 84, 85, 86, 87, 88, 89, 90, 91, 92, 93, 94, 95, 96, 97, 98, 99, 100, 101, 102, 103, 104, 105, 106, 107, 108, 109, 110, 111, 112, 113, 114, 115, 116, 117, 118, 119, 120, 121, 122, 123, 124, 125, 126, 127, 128, 129, 130, 131, 132, 133, 134, 135, 136, 137, 138, 139, 140, 141, 142, 143, 144, 145, 146, 147, 148, 149, 150, 151, 152, 153, 154, 155, 156, 157, 158, 159, 160, 161, 162, 163, 164, 165, 166, 167, 168, 169, 170, 171, 172, 173, 174, 175, 176, 177, 178, 179, 180, 181, 182, 183, 184, 185, 186, 187, 188, 189, 190, 191, 192, 193, 194, 195, 196, 197, 198, 199, 200, 201, 202, 203, 204, 205, 206, 207, 208, 209, 210, 211, 212, 213, 214, 215, 216, 217, 218, 219, 220, 221, 222, 223, 224, 225, 226, 227, 228, 229, 230, 231, 232, 233, 234, 235, 236, 237, 238, 239, 240, 241, 242, 243, 244, 245, 246, 247, 248, 249, 250, 251, 252, 253, 254, 255, 256, 257, 258, 259, 260, 261, 262, 263, 264, 265, 266, 267, 268, 269, 270, 271, 272, 273, 274, 275, 276, 277, 278, 279, 280, 281, 282, 283, 284, 285, 286, 287, 288, 289, 290, 291, 292, 293, 294, 295, 296, 297, 298, 299, 300, 301, 302, 303, 304, 305, 306, 307, 308, 309, 310, 311, 312, 313, 314, 315, 316, 317, 318, 319, 320, 321, 322, 323, 324, 325, 326, 327, 328, 329, 330, 331, 332, 333, 334, 335, 336, 337, 338, 339, 340] (by decide +kernel) (by decide +kernel)) (goodIn_sub (fun _ h => List.mem_cons_of_mem _ (List.mem_append_left _ (List.mem_append_left _ (List.mem_append_right _ h)))) (by decide +kernel))) (goodIn_sub (fun _ h => List.mem_cons_of_mem _ (List.mem_append_left _ (List.mem_append_right _ h))) (by decide +kernel))) (goodIn_sub (fun _ h => List.mem_cons_of_mem _ (List.mem_append_right _ h)) (by decide +kernel))
set_option maxRecDepth 20000 in
theorem gL_merge_X8_merge : GoodIn wsL_merge (wsV RL 41 RX8 yX8_merge wsX8_merge) := goodIn_app (goodIn_of _ (by decide +kernel)) ggL_merge_X8_merge
theorem dL_merge_0 : decode cL_merge 0 = .ok (.aload_n 3, 1) := by decide +kernel
theorem dL_merge_1 : decode cL_merge 1 = .ok (.iconst 0, 1) := by decide +kernel
theorem dL_merge_2 : decode cL_merge 2 = .ok (.aload_n 0, 1) := by decide +kernel
theorem dL_merge_3 : decode cL_merge 3 = .ok (.iload_n 1, 1) := by decide +kernel
theorem dL_merge_4 : decode cL_merge 4 = .ok (.iload_n 2, 1) := by decide +kernel
theorem dL_merge_5 : decode cL_merge 5 = .ok (.invokevirtual 41, 3) := by decide +kernel
theorem dL_merge_8 : decode cL_merge 8 = .ok (.i2l, 1) := by decide +kernel
theorem dL_merge_9 : decode cL_merge 9 = .ok (.lastore, 1) := by decide +kernel
theorem dL_merge_10 : decode cL_merge 10 = .ok (.goto 15, 3) := by decide +kernel
theorem dL_merge_13 : decode cL_merge 13 = .ok (.astore 4, 2) := by decide +kernel
theorem dL_merge_15 : decode cL_merge 15 = .ok (.iconst 1, 1) := by decide +kernel
theorem dL_merge_16 : decode cL_merge 16 = .ok (.ireturn, 1) := by decide +kernel
theorem dL_merge_17 : decode cL_merge 17 = .ok (.astore 4, 2) := by decide +kernel
theorem dL_merge_19 : decode cL_merge 19 = .ok (.iconst 2, 1) := by decide +kernel
theorem dL_merge_20 : decode cL_merge 20 = .ok (.ireturn, 1) := by decide +kernel
theorem dL_merge_21 : decode cL_merge 21 = .ok (.astore 4, 2) := by decide +kernel
theorem dL_merge_23 : decode cL_merge 23 = .ok (.iconst 3, 1) := by decide +kernel
theorem dL_merge_24 : decode cL_merge 24 = .ok (.ireturn, 1) := by decide +kernel
theorem dL_merge_25 : decode cL_merge 25 = .ok (.iconst 0, 1) := by decide +kernel
theorem dL_merge_26 : decode cL_merge 26 = .ok (.ireturn, 1) := by decide +kernel
set_option maxRecDepth 20000 in
theorem ggL_storm_X8_storm : GoodIn wsL_storm wsX8_storm := goodIn_ca (goodIn_ca (goodIn_r _ [7, 8, 9, 10, 11, 6, 12, 13, 14, 15, 16, 17, 18, 19, 20, 21, 22, 23, 24, 25, 26, 27, 28, 29, 30, 31, 32, 33, 34, 35, 36, 37, 38, 39, 40, 41, 42, 43, 44, 45, 46, 47, 48, 49, 50, 51, 52, 53, 54, 55, 56, 57, 58, 59, 60, 61, 62, 63, 64, 65, 66, 67, 68, 69, 70, 71, 72, 73, 74, 75, 76, 77, 78, 79, 80, 81, 82, 83, 84, 85, 86, 87, 88, 89, 90, 91, 92, 93, 94, 95, 96, 97, 98, 99, 100, 101, 102, 103, 104, 105, 106, 107, 108, 109, 110, 111, 112, 113, 114, 115, 116, 117, 118, 119, 120, 121, 122, 123, 124, 125, 126, 127, 128, 129, 130, 131, 132, 133, 134, 135, 136] (by decide +kernel) (by decide +kernel)) (goodIn_sub (fun _ h => List.mem_cons_of_mem _ (List.mem_append_left _ (List.mem_append_right _ h))) (by decide +kernel))) (goodIn_sub (fun _ h => List.mem_cons_of_mem _ (List.mem_append_right _ h)) (by decide +kernel))
set_option maxRecDepth 20000 in
theorem gL_storm_X8_storm : GoodIn wsL_storm (wsV RL 45 RX8 yX8_storm wsX8_storm) := goodIn_app (goodIn_of _ (by decide +kernel)) ggL_storm_X8_storm
theorem dL_storm_0 : decode cL_storm 0 = .ok (.aload_n 2, 1) := by decide +kernel
theorem dL_storm_1 : decode cL_storm 1 = .ok (.iconst 0, 1) := by decide +kernel
theorem dL_storm_2 : decode cL_storm 2 = .ok (.aload_n 0, 1) := by decide +kernel
theorem dL_storm_3 : decode cL_storm 3 = .ok (.iload_n 1, 1) := by decide +kernel
theorem dL_storm_4 : decode cL_storm 4 = .ok (.invokevirtual 45, 3) := by decide +kernel
theorem dL_storm_7 : decode cL_storm 7 = .ok (.i2l, 1) := by decide +kernel
theorem dL_storm_8 : decode cL_storm 8 = .ok (.lastore, 1) := by decide +kernel
theorem dL_storm_9 : decode cL_storm 9 = .ok (.goto 9, 3) := by decide +kernel
theorem dL_storm_12 : decode cL_storm 12 = .ok (.astore_n 3, 1) := by decide +kernel
theorem dL_storm_13 : decode cL_storm 13 = .ok (.iconst 1, 1) := by decide +kernel
theorem dL_storm_14 : decode cL_storm 14 = .ok (.ireturn, 1) := by decide +kernel
theorem dL_storm_15 : decode cL_storm 15 = .ok (.astore_n 3, 1) := by decide +kernel
theorem dL_storm_16 : decode cL_storm 16 = .ok (.iconst 2, 1) := by decide +kernel
theorem dL_storm_17 : decode cL_storm 17 = .ok (.ireturn, 1) := by decide +kernel
theorem dL_storm_18 : decode cL_storm 18 = .ok (.iconst 0, 1) := by decide +kernel
theorem dL_storm_19 : decode cL_storm 19 = .ok (.ireturn, 1) := by decide +kernel
set_option maxRecDepth 20000 in
theorem ggL_rebuild_X8_rebuild : GoodIn wsL_rebuild wsX8_rebuild := goodIn_ca (goodIn_r _ [6, 7, 8, 9, 10, 11, 12, 13, 14, 5, 15, 16, 17, 18, 19, 20, 21, 22, 23, 24, 25, 26, 27, 28, 29, 30, 31, 32, 33, 34, 35, 36, 37, 38, 39, 40, 41, 42, 43, 44, 45, 46, 47, 48, 49, 50, 51, 52, 53, 54, 55, 56, 57, 58, 59, 60, 61, 62, 63, 64, 65, 66, 67, 68, 69, 70, 71, 72, 73, 74, 75, 76, 77, 78, 79, 80, 81, 82, 83, 84, 85, 86, 87, 88, 89, 90, 91, 92, 93, 94, 95, 96, 97, 98, 99, 100, 101, 102, 103, 104, 105, 106, 107, 108, 109, 110, 111, 112, 113, 114, 115, 116, 117, 118, 119, 120, 121, 122, 123, 124, 125, 126, 127, 128, 129, 130, 131, 132, 133, 134, 135, 136, 137, 138, 139, 140, 141, 142, 143, 144, 145, 146, 147, 148, 149, 150, 151, 152, 153, 154, 155, 156, 157, 158, 159, 160, 161, 162, 163, 164, 165, 166, 167, 168, 169, 170, 171, 172, 173, 174, 175, 176, 177, 178, 179, 180, 181, 182, 183, 184, 185, 186, 187, 188, 189, 190, 191, 192, 193, 194, 195, 196, 197, 198, 199, 200, 201, 202, 203, 204, 205, 206, 207, 208, 209, 210, 211, 212, 213, 214, 215, 216, 217, 218, 219, 220, 221, 222, 223, 224, 225, 226, 227, 228, 229, 230, 231, 232, 233, 234, 235, 236, 237, 238, 239, 240, 241, 242, 243, 244, 245, 246, 247, 248, 249, 250, 251, 252, 253, 254, 255, 256, 257, 258, 259, 260, 261, 262, 263, 264, 265, 266, 267, 268, 269, 270, 271, 272, 273, 274, 275, 276, 277, 278, 279, 280, 281, 282, 283, 284, 285, 286, 287, 288, 289, 290, 291, 292, 293, 294, 295, 296, 297, 298, 299, 300, 301, 302, 303, 304, 305, 306, 307, 308, 309, 310, 311, 312, 313, 314, 315, 316, 317, 318, 319, 320, 321, 322, 323, 324, 325, 326, 327, 328, 329, 330, 331, 332, 333, 334, 335, 336, 337, 338, 339, 340, 341, 342, 343, 344, 345, 346, 347, 348, 349] (by decide +kernel) (by decide +kernel)) (goodIn_sub (fun _ h => List.mem_cons_of_mem _ (List.mem_append_right _ h)) (by decide +kernel))
set_option maxRecDepth 20000 in
theorem gL_rebuild_X8_rebuild : GoodIn wsL_rebuild (wsV RL 48 RX8 yX8_rebuild wsX8_rebuild) := goodIn_app (goodIn_of _ (by decide +kernel)) ggL_rebuild_X8_rebuild
theorem dL_rebuild_0 : decode cL_rebuild 0 = .ok (.aload_n 1, 1) := by decide +kernel
theorem dL_rebuild_1 : decode cL_rebuild 1 = .ok (.iconst 0, 1) := by decide +kernel
theorem dL_rebuild_2 : decode cL_rebuild 2 = .ok (.aload_n 0, 1) := by decide +kernel
theorem dL_rebuild_3 : decode cL_rebuild 3 = .ok (.invokevirtual 48, 3) := by decide +kernel
theorem dL_rebuild_6 : decode cL_rebuild 6 = .ok (.i2l, 1) := by decide +kernel
theorem dL_rebuild_7 : decode cL_rebuild 7 = .ok (.lastore, 1) := by decide +kernel
theorem dL_rebuild_8 : decode cL_rebuild 8 = .ok (.goto 6, 3) := by decide +kernel
theorem dL_rebuild_11 : decode cL_rebuild 11 = .ok (.astore_n 2, 1) := by decide +kernel
theorem dL_rebuild_12 : decode cL_rebuild 12 = .ok (.iconst 1, 1) := by decide +kernel
theorem dL_rebuild_13 : decode cL_rebuild 13 = .ok (.ireturn, 1) := by decide +kernel
theorem dL_rebuild_14 : decode cL_rebuild 14 = .ok (.iconst 0, 1) := by decide +kernel
theorem dL_rebuild_15 : decode cL_rebuild 15 = .ok (.ireturn, 1) := by decide +kernel
set_option maxRecDepth 20000 in
theorem ggL_segmentOf_X8_segmentOf : GoodIn wsL_segmentOf wsX8_segmentOf := goodIn_ca (goodIn_ca (goodIn_r _ [7, 8, 9, 10, 11, 12, 13, 14, 6, 15, 16, 17, 18, 19, 20, 21, 22, 23, 24, 25, 26, 27, 28, 29, 30, 31, 32, 33, 34, 35, 36, 37, 38, 39, 40, 41, 42, 43, 44, 45, 46, 47, 48, 49, 50, 51, 52, 53, 54, 55, 56, 57, 58, 59, 60, 61, 62, 63] (by decide +kernel) (by decide +kernel)) (goodIn_sub (fun _ h => List.mem_cons_of_mem _ (List.mem_append_left _ (List.mem_append_right _ h))) (by decide +kernel))) (goodIn_sub (fun _ h => List.mem_cons_of_mem _ (List.mem_append_right _ h)) (by decide +kernel))
set_option maxRecDepth 20000 in
theorem gL_segmentOf_X8_segmentOf : GoodIn wsL_segmentOf (wsV RL 51 RX8 yX8_segmentOf wsX8_segmentOf) := goodIn_app (goodIn_of _ (by decide +kernel)) ggL_segmentOf_X8_segmentOf
theorem dL_segmentOf_0 : decode cL_segmentOf 0 = .ok (.aload_n 2, 1) := by decide +kernel
theorem dL_segmentOf_1 : decode cL_segmentOf 1 = .ok (.iconst 0, 1) := by decide +kernel
theorem dL_segmentOf_2 : decode cL_segmentOf 2 = .ok (.aload_n 0, 1) := by decide +kernel
theorem dL_segmentOf_3 : decode cL_segmentOf 3 = .ok (.iload_n 1, 1) := by decide +kernel
theorem dL_segmentOf_4 : decode cL_segmentOf 4 = .ok (.invokevirtual 51, 3) := by decide +kernel
theorem dL_segmentOf_7 : decode cL_segmentOf 7 = .ok (.i2l, 1) := by decide +kernel
theorem dL_segmentOf_8 : decode cL_segmentOf 8 = .ok (.lastore, 1) := by decide +kernel
theorem dL_segmentOf_9 : decode cL_segmentOf 9 = .ok (.goto 9, 3) := by decide +kernel
theorem dL_segmentOf_12 : decode cL_segmentOf 12 = .ok (.astore_n 3, 1) := by decide +kernel
theorem dL_segmentOf_13 : decode cL_segmentOf 13 = .ok (.iconst 1, 1) := by decide +kernel
theorem dL_segmentOf_14 : decode cL_segmentOf 14 = .ok (.ireturn, 1) := by decide +kernel
theorem dL_segmentOf_15 : decode cL_segmentOf 15 = .ok (.astore_n 3, 1) := by decide +kernel
theorem dL_segmentOf_16 : decode cL_segmentOf 16 = .ok (.iconst 2, 1) := by decide +kernel
theorem dL_segmentOf_17 : decode cL_segmentOf 17 = .ok (.ireturn, 1) := by decide +kernel
theorem dL_segmentOf_18 : decode cL_segmentOf 18 = .ok (.iconst 0, 1) := by decide +kernel
theorem dL_segmentOf_19 : decode cL_segmentOf 19 = .ok (.ireturn, 1) := by decide +kernel
set_option maxRecDepth 20000 in
theorem ggL_postings_X8_postings : GoodIn wsL_postings wsX8_postings := goodIn_ca (goodIn_r _ [6, 7, 8, 9, 5, 10, 11, 12, 13, 14, 15, 16, 17, 18, 19, 20, 21, 22, 23, 24, 25, 26, 27, 28, 29, 30, 31, 32, 33, 34, 35, 36, 37, 38, 39, 40, 41, 42, 43, 44, 45, 46, 47, 48, 49, 50, 51, 52, 53, 54, 55, 56, 57, 58, 59, 60, 61, 62, 63] (by decide +kernel) (by decide +kernel)) (goodIn_sub (fun _ h => List.mem_cons_of_mem _ (List.mem_append_right _ h)) (by decide +kernel))
set_option maxRecDepth 20000 in
theorem gL_postings_X8_postings : GoodIn wsL_postings (wsV RL 54 RX8 yX8_postings wsX8_postings) := goodIn_app (goodIn_of _ (by decide +kernel)) ggL_postings_X8_postings
theorem dL_postings_0 : decode cL_postings 0 = .ok (.aload_n 2, 1) := by decide +kernel
theorem dL_postings_1 : decode cL_postings 1 = .ok (.iconst 0, 1) := by decide +kernel
theorem dL_postings_2 : decode cL_postings 2 = .ok (.aload_n 0, 1) := by decide +kernel
theorem dL_postings_3 : decode cL_postings 3 = .ok (.iload_n 1, 1) := by decide +kernel
theorem dL_postings_4 : decode cL_postings 4 = .ok (.invokevirtual 54, 3) := by decide +kernel
theorem dL_postings_7 : decode cL_postings 7 = .ok (.i2l, 1) := by decide +kernel
theorem dL_postings_8 : decode cL_postings 8 = .ok (.lastore, 1) := by decide +kernel
theorem dL_postings_9 : decode cL_postings 9 = .ok (.goto 6, 3) := by decide +kernel
theorem dL_postings_12 : decode cL_postings 12 = .ok (.astore_n 3, 1) := by decide +kernel
theorem dL_postings_13 : decode cL_postings 13 = .ok (.iconst 1, 1) := by decide +kernel
theorem dL_postings_14 : decode cL_postings 14 = .ok (.ireturn, 1) := by decide +kernel
theorem dL_postings_15 : decode cL_postings 15 = .ok (.iconst 0, 1) := by decide +kernel
theorem dL_postings_16 : decode cL_postings 16 = .ok (.ireturn, 1) := by decide +kernel
set_option maxRecDepth 20000 in
theorem ggL_posting_X8_posting : GoodIn wsL_posting wsX8_posting := goodIn_ca (goodIn_ca (goodIn_r _ [7, 8, 9, 10, 11, 12, 13, 6, 14, 15, 16, 17, 18, 19, 20, 21, 22, 23, 24, 25, 26, 27, 28, 29, 30, 31, 32, 33, 34, 35, 36, 37, 38, 39, 40, 41, 42, 43, 44, 45, 46, 47, 48, 49, 50, 51, 52, 53, 54, 55, 56, 57, 58, 59, 60, 61, 62, 63, 64, 65, 66, 67] (by decide +kernel) (by decide +kernel)) (goodIn_sub (fun _ h => List.mem_cons_of_mem _ (List.mem_append_left _ (List.mem_append_right _ h))) (by decide +kernel))) (goodIn_sub (fun _ h => List.mem_cons_of_mem _ (List.mem_append_right _ h)) (by decide +kernel))
set_option maxRecDepth 20000 in
theorem gL_posting_X8_posting : GoodIn wsL_posting (wsV RL 57 RX8 yX8_posting wsX8_posting) := goodIn_app (goodIn_of _ (by decide +kernel)) ggL_posting_X8_posting
theorem dL_posting_0 : decode cL_posting 0 = .ok (.aload_n 3, 1) := by decide +kernel
theorem dL_posting_1 : decode cL_posting 1 = .ok (.iconst 0, 1) := by decide +kernel
theorem dL_posting_2 : decode cL_posting 2 = .ok (.aload_n 0, 1) := by decide +kernel
theorem dL_posting_3 : decode cL_posting 3 = .ok (.iload_n 1, 1) := by decide +kernel
theorem dL_posting_4 : decode cL_posting 4 = .ok (.iload_n 2, 1) := by decide +kernel
theorem dL_posting_5 : decode cL_posting 5 = .ok (.invokevirtual 57, 3) := by decide +kernel
theorem dL_posting_8 : decode cL_posting 8 = .ok (.i2l, 1) := by decide +kernel
theorem dL_posting_9 : decode cL_posting 9 = .ok (.lastore, 1) := by decide +kernel
theorem dL_posting_10 : decode cL_posting 10 = .ok (.goto 11, 3) := by decide +kernel
theorem dL_posting_13 : decode cL_posting 13 = .ok (.astore 4, 2) := by decide +kernel
theorem dL_posting_15 : decode cL_posting 15 = .ok (.iconst 1, 1) := by decide +kernel
theorem dL_posting_16 : decode cL_posting 16 = .ok (.ireturn, 1) := by decide +kernel
theorem dL_posting_17 : decode cL_posting 17 = .ok (.astore 4, 2) := by decide +kernel
theorem dL_posting_19 : decode cL_posting 19 = .ok (.iconst 2, 1) := by decide +kernel
theorem dL_posting_20 : decode cL_posting 20 = .ok (.ireturn, 1) := by decide +kernel
theorem dL_posting_21 : decode cL_posting 21 = .ok (.iconst 0, 1) := by decide +kernel
theorem dL_posting_22 : decode cL_posting 22 = .ok (.ireturn, 1) := by decide +kernel
set_option maxRecDepth 20000 in
theorem ggL_word_X8_word : GoodIn wsL_word wsX8_word := goodIn_ca (goodIn_ca (goodIn_ca (goodIn_r _ [7, 8, 9, 10, 11, 12, 13, 6, 14, 15, 16, 17, 18, 19, 20, 21, 22, 23, 24, 25, 26, 27, 28, 29, 30, 31, 32, 33, 34, 35, 36, 37, 38, 39, 40] (by decide +kernel) (by decide +kernel)) (goodIn_sub (fun _ h => List.mem_cons_of_mem _ (List.mem_append_left _ (List.mem_append_right _ h))) (by decide +kernel))) (goodIn_sub (fun _ h => List.mem_cons_of_mem _ (List.mem_append_right _ h)) (by decide +kernel))) (goodIn_sub (fun _ h => List.mem_cons_of_mem _ (List.mem_append_left _ (List.mem_append_left _ (List.mem_append_right _ h)))) (by decide +kernel))
set_option maxRecDepth 20000 in
theorem gL_word_X8_word : GoodIn wsL_word (wsV RL 60 RX8 yX8_word wsX8_word) := goodIn_app (goodIn_of _ (by decide +kernel)) ggL_word_X8_word
theorem dL_word_0 : decode cL_word 0 = .ok (.aload_n 3, 1) := by decide +kernel
theorem dL_word_1 : decode cL_word 1 = .ok (.iconst 0, 1) := by decide +kernel
theorem dL_word_2 : decode cL_word 2 = .ok (.aload_n 0, 1) := by decide +kernel
theorem dL_word_3 : decode cL_word 3 = .ok (.iload_n 1, 1) := by decide +kernel
theorem dL_word_4 : decode cL_word 4 = .ok (.iload_n 2, 1) := by decide +kernel
theorem dL_word_5 : decode cL_word 5 = .ok (.invokevirtual 60, 3) := by decide +kernel
theorem dL_word_8 : decode cL_word 8 = .ok (.i2l, 1) := by decide +kernel
theorem dL_word_9 : decode cL_word 9 = .ok (.lastore, 1) := by decide +kernel
theorem dL_word_10 : decode cL_word 10 = .ok (.goto 11, 3) := by decide +kernel
theorem dL_word_13 : decode cL_word 13 = .ok (.astore 4, 2) := by decide +kernel
theorem dL_word_15 : decode cL_word 15 = .ok (.iconst 1, 1) := by decide +kernel
theorem dL_word_16 : decode cL_word 16 = .ok (.ireturn, 1) := by decide +kernel
theorem dL_word_17 : decode cL_word 17 = .ok (.astore 4, 2) := by decide +kernel
theorem dL_word_19 : decode cL_word 19 = .ok (.iconst 2, 1) := by decide +kernel
theorem dL_word_20 : decode cL_word 20 = .ok (.ireturn, 1) := by decide +kernel
theorem dL_word_21 : decode cL_word 21 = .ok (.iconst 0, 1) := by decide +kernel
theorem dL_word_22 : decode cL_word 22 = .ok (.ireturn, 1) := by decide +kernel
set_option maxRecDepth 20000 in
theorem ggL_hits_X8_hits : GoodIn wsL_hits wsX8_hits := goodIn_ca (goodIn_ca (goodIn_r _ [6, 7, 8, 9, 10, 11, 12, 5, 13, 14, 15, 16, 17, 18, 19, 20, 21, 22, 23, 24, 25, 26, 27, 28, 29, 30, 31, 32, 33, 34, 35, 36, 37, 38, 39, 40, 41, 42, 43, 44, 45, 46, 47, 48, 49, 50, 51, 52, 53, 54, 55, 56, 57, 58, 59, 60, 61, 62, 63, 64, 65, 66, 67, 68, 69, 70, 71, 72, 73, 74, 75, 76, 77, 78, 79, 80, 81, 82, 83, 84, 85, 86, 87, 88, 89, 90, 91, 92, 93, 94, 95, 96, 97, 98, 99, 100, 101, 102, 103, 104, 105, 106, 107, 108, 109, 110, 111, 112, 113, 114, 115, 116, 117, 118, 119, 120, 121, 122, 123, 124, 125, 126, 127, 128, 129, 130, 131, 132, 133, 134, 135, 136, 137, 138, 139] (by decide +kernel) (by decide +kernel)) (goodIn_sub (fun _ h => List.mem_cons_of_mem _ (List.mem_append_right _ h)) (by decide +kernel))) (goodIn_sub (fun _ h => List.mem_cons_of_mem _ (List.mem_append_left _ (List.mem_append_right _ h))) (by decide +kernel))
set_option maxRecDepth 20000 in
theorem gL_hits_X8_hits : GoodIn wsL_hits (wsV RL 63 RX8 yX8_hits wsX8_hits) := goodIn_app (goodIn_of _ (by decide +kernel)) ggL_hits_X8_hits
theorem dL_hits_0 : decode cL_hits 0 = .ok (.aload_n 1, 1) := by decide +kernel
theorem dL_hits_1 : decode cL_hits 1 = .ok (.iconst 0, 1) := by decide +kernel
theorem dL_hits_2 : decode cL_hits 2 = .ok (.aload_n 0, 1) := by decide +kernel
theorem dL_hits_3 : decode cL_hits 3 = .ok (.invokevirtual 63, 3) := by decide +kernel
theorem dL_hits_6 : decode cL_hits 6 = .ok (.i2l, 1) := by decide +kernel
theorem dL_hits_7 : decode cL_hits 7 = .ok (.lastore, 1) := by decide +kernel
theorem dL_hits_8 : decode cL_hits 8 = .ok (.goto 6, 3) := by decide +kernel
theorem dL_hits_11 : decode cL_hits 11 = .ok (.astore_n 2, 1) := by decide +kernel
theorem dL_hits_12 : decode cL_hits 12 = .ok (.iconst 1, 1) := by decide +kernel
theorem dL_hits_13 : decode cL_hits 13 = .ok (.ireturn, 1) := by decide +kernel
theorem dL_hits_14 : decode cL_hits 14 = .ok (.iconst 0, 1) := by decide +kernel
theorem dL_hits_15 : decode cL_hits 15 = .ok (.ireturn, 1) := by decide +kernel
set_option maxRecDepth 20000 in
theorem ggL_hit_X8_hit : GoodIn wsL_hit wsX8_hit := goodIn_ca (goodIn_ca (goodIn_ca (goodIn_ca (goodIn_r _ [8, 9, 10, 11, 12, 13, 14, 15, 7, 16, 17, 18, 19, 20, 21, 22, 23, 24, 25, 26, 27, 28, 29, 30, 31, 32, 33, 34, 35, 36, 37, 38, 39, 40, 41, 42, 43, 44, 45, 46, 47, 48, 49, 50, 51, 52, 53, 54, 55, 56, 57, 58, 59, 60, 61, 62, 63, 64, 65, 66, 67, 68, 69, 70, 71, 72, 73, 74, 75, 76, 77, 78, 79, 80, 81, 82, 83, 84, 85, 86, 87, 88, 89, 90, 91, 92, 93, 94, 95, 96, 97, 98, 99, 100, 101, 102, 103, 104, 105, 106, 107, 108, 109, 110, 111, 112, 113, 114, 115, 116, 117, 118, 119, 120, 121, 122, 123, 124, 125, 126, 127, 128, 129, 130, 131, 132, 133, 134, 135, 136, 137, 138, 139, 140, 141, 142, 143, 144, 145, 146, 147, 148, 149, 150, 151, 152, 153, 154, 155, 156, 157, 158, 159, 160, 161, 162, 163, 164, 165, 166, 167, 168, 169, 170, 171, 172, 173, 174, 175, 176, 177, 178, 179, 180, 181, 182, 183, 184, 185, 186, 187, 188, 189, 190, 191, 192, 193, 194, 195, 196, 197, 198, 199, 200] (by decide +kernel) (by decide +kernel)) (goodIn_sub (fun _ h => List.mem_cons_of_mem _ (List.mem_append_left _ (List.mem_append_left _ (List.mem_append_right _ h)))) (by decide +kernel))) (goodIn_sub (fun _ h => List.mem_cons_of_mem _ (List.mem_append_left _ (List.mem_append_right _ h))) (by decide +kernel))) (goodIn_sub (fun _ h => List.mem_cons_of_mem _ (List.mem_append_right _ h)) (by decide +kernel))) (goodIn_sub (fun _ h => List.mem_cons_of_mem _ (List.mem_append_left _ (List.mem_append_left _ (List.mem_append_left _ (List.mem_append_right _ h))))) (by decide +kernel))
set_option maxRecDepth 20000 in
theorem gL_hit_X8_hit : GoodIn wsL_hit (wsV RL 66 RX8 yX8_hit wsX8_hit) := goodIn_app (goodIn_of _ (by decide +kernel)) ggL_hit_X8_hit
theorem dL_hit_0 : decode cL_hit 0 = .ok (.aload_n 3, 1) := by decide +kernel
theorem dL_hit_1 : decode cL_hit 1 = .ok (.iconst 0, 1) := by decide +kernel
theorem dL_hit_2 : decode cL_hit 2 = .ok (.aload_n 0, 1) := by decide +kernel
theorem dL_hit_3 : decode cL_hit 3 = .ok (.iload_n 1, 1) := by decide +kernel
theorem dL_hit_4 : decode cL_hit 4 = .ok (.iload_n 2, 1) := by decide +kernel
theorem dL_hit_5 : decode cL_hit 5 = .ok (.invokevirtual 66, 3) := by decide +kernel
theorem dL_hit_8 : decode cL_hit 8 = .ok (.i2l, 1) := by decide +kernel
theorem dL_hit_9 : decode cL_hit 9 = .ok (.lastore, 1) := by decide +kernel
theorem dL_hit_10 : decode cL_hit 10 = .ok (.goto 15, 3) := by decide +kernel
theorem dL_hit_13 : decode cL_hit 13 = .ok (.astore 4, 2) := by decide +kernel
theorem dL_hit_15 : decode cL_hit 15 = .ok (.iconst 1, 1) := by decide +kernel
theorem dL_hit_16 : decode cL_hit 16 = .ok (.ireturn, 1) := by decide +kernel
theorem dL_hit_17 : decode cL_hit 17 = .ok (.astore 4, 2) := by decide +kernel
theorem dL_hit_19 : decode cL_hit 19 = .ok (.iconst 2, 1) := by decide +kernel
theorem dL_hit_20 : decode cL_hit 20 = .ok (.ireturn, 1) := by decide +kernel
theorem dL_hit_21 : decode cL_hit 21 = .ok (.astore 4, 2) := by decide +kernel
theorem dL_hit_23 : decode cL_hit 23 = .ok (.iconst 3, 1) := by decide +kernel
theorem dL_hit_24 : decode cL_hit 24 = .ok (.ireturn, 1) := by decide +kernel
theorem dL_hit_25 : decode cL_hit 25 = .ok (.iconst 0, 1) := by decide +kernel
theorem dL_hit_26 : decode cL_hit 26 = .ok (.ireturn, 1) := by decide +kernel
set_option maxRecDepth 20000 in
theorem ggL_count_X8_count : GoodIn wsL_count wsX8_count := goodIn_ca (goodIn_ca (goodIn_ca (goodIn_r _ [7, 8, 9, 10, 11, 6, 12, 13, 14, 15, 16, 17, 18, 19, 20, 21, 22, 23, 24, 25, 26, 27, 28, 29, 30, 31, 32, 33, 34, 35, 36, 37, 38, 39, 40, 41, 42, 43, 44, 45, 46, 47, 48, 49, 50, 51, 52, 53, 54, 55, 56, 57, 58, 59, 60, 61, 62, 63, 64, 65, 66, 67, 68, 69, 70, 71, 72, 73, 74, 75, 76, 77, 78, 79, 80, 81, 82, 83, 84, 85, 86, 87, 88, 89, 90, 91, 92, 93, 94, 95, 96, 97, 98, 99, 100, 101, 102, 103, 104, 105, 106, 107, 108, 109, 110, 111, 112, 113, 114, 115, 116, 117, 118, 119, 120, 121, 122, 123, 124, 125, 126, 127, 128, 129, 130, 131, 132, 133, 134, 135, 136, 137, 138, 139, 140, 141, 142] (by decide +kernel) (by decide +kernel)) (goodIn_sub (fun _ h => List.mem_cons_of_mem _ (List.mem_append_left _ (List.mem_append_right _ h))) (by decide +kernel))) (goodIn_sub (fun _ h => List.mem_cons_of_mem _ (List.mem_append_right _ h)) (by decide +kernel))) (goodIn_sub (fun _ h => List.mem_cons_of_mem _ (List.mem_append_left _ (List.mem_append_left _ (List.mem_append_right _ h)))) (by decide +kernel))
set_option maxRecDepth 20000 in
theorem gL_count_X8_count : GoodIn wsL_count (wsV RL 69 RX8 yX8_count wsX8_count) := goodIn_app (goodIn_of _ (by decide +kernel)) ggL_count_X8_count
theorem dL_count_0 : decode cL_count 0 = .ok (.aload_n 2, 1) := by decide +kernel
theorem dL_count_1 : decode cL_count 1 = .ok (.iconst 0, 1) := by decide +kernel
theorem dL_count_2 : decode cL_count 2 = .ok (.aload_n 0, 1) := by decide +kernel
theorem dL_count_3 : decode cL_count 3 = .ok (.iload_n 1, 1) := by decide +kernel
theorem dL_count_4 : decode cL_count 4 = .ok (.invokevirtual 69, 3) := by decide +kernel
theorem dL_count_7 : decode cL_count 7 = .ok (.i2l, 1) := by decide +kernel
theorem dL_count_8 : decode cL_count 8 = .ok (.lastore, 1) := by decide +kernel
theorem dL_count_9 : decode cL_count 9 = .ok (.goto 9, 3) := by decide +kernel
theorem dL_count_12 : decode cL_count 12 = .ok (.astore_n 3, 1) := by decide +kernel
theorem dL_count_13 : decode cL_count 13 = .ok (.iconst 1, 1) := by decide +kernel
theorem dL_count_14 : decode cL_count 14 = .ok (.ireturn, 1) := by decide +kernel
theorem dL_count_15 : decode cL_count 15 = .ok (.astore_n 3, 1) := by decide +kernel
theorem dL_count_16 : decode cL_count 16 = .ok (.iconst 2, 1) := by decide +kernel
theorem dL_count_17 : decode cL_count 17 = .ok (.ireturn, 1) := by decide +kernel
theorem dL_count_18 : decode cL_count 18 = .ok (.iconst 0, 1) := by decide +kernel
theorem dL_count_19 : decode cL_count 19 = .ok (.ireturn, 1) := by decide +kernel
set_option maxRecDepth 20000 in
theorem ggL_scoreBits_X8_scoreBits : GoodIn wsL_scoreBits wsX8_scoreBits := goodIn_ca (goodIn_ca (goodIn_ca (goodIn_r _ [7, 8, 9, 10, 11, 6, 12, 13, 14, 15, 16, 17, 18, 19, 20, 21, 22, 23, 24, 25, 26, 27, 28, 29, 30, 31, 32, 33, 34, 35, 36, 37, 38, 39, 40, 41, 42, 43, 44, 45, 46, 47, 48, 49, 50, 51, 52, 53, 54, 55, 56, 57, 58, 59, 60, 61, 62, 63, 64, 65, 66, 67, 68, 69, 70, 71, 72, 73, 74, 75, 76, 77, 78, 79, 80, 81, 82, 83, 84, 85, 86, 87, 88, 89, 90, 91, 92, 93, 94, 95, 96, 97, 98, 99, 100, 101, 102, 103, 104, 105, 106, 107, 108, 109, 110, 111, 112, 113, 114, 115, 116, 117, 118, 119, 120, 121, 122, 123, 124, 125, 126, 127, 128, 129, 130, 131, 132, 133, 134, 135, 136, 137, 138, 139, 140, 141, 142, 143, 144, 145, 146, 147, 148, 149, 150, 151, 152, 153, 154, 155, 156, 157, 158, 159, 160, 161, 162, 163, 164, 165, 166, 167] (by decide +kernel) (by decide +kernel)) (goodIn_sub (fun _ h => List.mem_cons_of_mem _ (List.mem_append_left _ (List.mem_append_right _ h))) (by decide +kernel))) (goodIn_sub (fun _ h => List.mem_cons_of_mem _ (List.mem_append_right _ h)) (by decide +kernel))) (goodIn_sub (fun _ h => List.mem_cons_of_mem _ (List.mem_append_left _ (List.mem_append_left _ (List.mem_append_right _ h)))) (by decide +kernel))
set_option maxRecDepth 20000 in
theorem gL_scoreBits_X8_scoreBits : GoodIn wsL_scoreBits (wsV RL 72 RX8 yX8_scoreBits wsX8_scoreBits) := goodIn_app (goodIn_of _ (by decide +kernel)) ggL_scoreBits_X8_scoreBits
theorem dL_scoreBits_0 : decode cL_scoreBits 0 = .ok (.aload_n 2, 1) := by decide +kernel
theorem dL_scoreBits_1 : decode cL_scoreBits 1 = .ok (.iconst 0, 1) := by decide +kernel
theorem dL_scoreBits_2 : decode cL_scoreBits 2 = .ok (.aload_n 0, 1) := by decide +kernel
theorem dL_scoreBits_3 : decode cL_scoreBits 3 = .ok (.iload_n 1, 1) := by decide +kernel
theorem dL_scoreBits_4 : decode cL_scoreBits 4 = .ok (.invokevirtual 72, 3) := by decide +kernel
theorem dL_scoreBits_7 : decode cL_scoreBits 7 = .ok (.i2l, 1) := by decide +kernel
theorem dL_scoreBits_8 : decode cL_scoreBits 8 = .ok (.lastore, 1) := by decide +kernel
theorem dL_scoreBits_9 : decode cL_scoreBits 9 = .ok (.goto 9, 3) := by decide +kernel
theorem dL_scoreBits_12 : decode cL_scoreBits 12 = .ok (.astore_n 3, 1) := by decide +kernel
theorem dL_scoreBits_13 : decode cL_scoreBits 13 = .ok (.iconst 1, 1) := by decide +kernel
theorem dL_scoreBits_14 : decode cL_scoreBits 14 = .ok (.ireturn, 1) := by decide +kernel
theorem dL_scoreBits_15 : decode cL_scoreBits 15 = .ok (.astore_n 3, 1) := by decide +kernel
theorem dL_scoreBits_16 : decode cL_scoreBits 16 = .ok (.iconst 2, 1) := by decide +kernel
theorem dL_scoreBits_17 : decode cL_scoreBits 17 = .ok (.ireturn, 1) := by decide +kernel
theorem dL_scoreBits_18 : decode cL_scoreBits 18 = .ok (.iconst 0, 1) := by decide +kernel
theorem dL_scoreBits_19 : decode cL_scoreBits 19 = .ok (.ireturn, 1) := by decide +kernel
set_option maxRecDepth 20000 in
theorem ggL_weight_X8_weight : GoodIn wsL_weight wsX8_weight := goodIn_ca (goodIn_r _ [6, 7, 8, 5, 9, 10, 11, 12, 13, 14, 15, 16, 17, 18, 19, 20, 21, 22, 23, 24, 25, 26, 27, 28, 29, 30, 31, 32, 33, 34, 35, 36, 37, 38, 39, 40, 41, 42, 43, 44, 45, 46, 47, 48, 49, 50, 51, 52, 53, 54, 55, 56, 57, 58, 59, 60, 61, 62, 63, 64, 65, 66, 67, 68, 69, 70] (by decide +kernel) (by decide +kernel)) (goodIn_sub (fun _ h => List.mem_cons_of_mem _ (List.mem_append_right _ h)) (by decide +kernel))
set_option maxRecDepth 20000 in
theorem gL_weight_X8_weight : GoodIn wsL_weight (wsV RL 75 RX8 yX8_weight wsX8_weight) := goodIn_app (goodIn_of _ (by decide +kernel)) ggL_weight_X8_weight
theorem dL_weight_0 : decode cL_weight 0 = .ok (.aload_n 2, 1) := by decide +kernel
theorem dL_weight_1 : decode cL_weight 1 = .ok (.iconst 0, 1) := by decide +kernel
theorem dL_weight_2 : decode cL_weight 2 = .ok (.aload_n 0, 1) := by decide +kernel
theorem dL_weight_3 : decode cL_weight 3 = .ok (.iload_n 1, 1) := by decide +kernel
theorem dL_weight_4 : decode cL_weight 4 = .ok (.invokevirtual 75, 3) := by decide +kernel
theorem dL_weight_7 : decode cL_weight 7 = .ok (.f2d, 1) := by decide +kernel
theorem dL_weight_8 : decode cL_weight 8 = .ok (.dastore, 1) := by decide +kernel
theorem dL_weight_9 : decode cL_weight 9 = .ok (.goto 6, 3) := by decide +kernel
theorem dL_weight_12 : decode cL_weight 12 = .ok (.astore_n 3, 1) := by decide +kernel
theorem dL_weight_13 : decode cL_weight 13 = .ok (.iconst 1, 1) := by decide +kernel
theorem dL_weight_14 : decode cL_weight 14 = .ok (.ireturn, 1) := by decide +kernel
theorem dL_weight_15 : decode cL_weight 15 = .ok (.iconst 0, 1) := by decide +kernel
theorem dL_weight_16 : decode cL_weight 16 = .ok (.ireturn, 1) := by decide +kernel
set_option maxRecDepth 20000 in
theorem ggL_sail_X8_sail : GoodIn wsL_sail wsX8_sail := goodIn_ca (goodIn_ca (goodIn_ca (goodIn_ca (goodIn_ca (goodIn_r _ [9, 10, 11, 12, 13, 14, 15, 16, 17, 18, 19, 20, 8, 21, 22, 23, 24, 25, 26, 27, 28, 29, 30, 31, 32, 33, 34, 35, 36, 37, 38, 39, 40, 41, 42, 43, 44, 45, 46, 47, 48, 49, 50, 51, 52, 53, 54, 55, 56, 57, 58, 59, 60, 61, 62, 63, 64, 65, 66, 67, 68, 69, 70, 71, 72, 73, 74, 75, 76, 77, 78, 79, 80, 81, 82, 83, 84, 85, 86, 87, 88, 89, 90, 91, 92, 93, 94, 95, 96, 97, 98, 99, 100, 101, 102, 103, 104, 105, 106, 107, 108, 109, 110, 111, 112, 113, 114, 115, 116, 117, 118, 119, 120, 121, 122, 123, 124, 125, 126, 127, 128, 129, 130, 131, 132, 133, 134, 135, 136, 137, 138, 139, 140, 141, 142, 143, 144, 145, 146, 147, 148, 149, 150, 151, 152, 153, 154, 155, 156, 157, 158, 159, 160, 161, 162, 163, 164, 165, 166, 167, 168, 169, 170, 171, 172, 173, 174, 175, 176, 177, 178, 179, 180, 181, 182, 183, 184, 185, 186, 187, 188, 189, 190, 191, 192, 193, 194, 195, 196, 197, 198, 199, 200, 201, 202, 203, 204, 205, 206, 207, 208, 209, 210, 211, 212, 213, 214, 215, 216, 217, 218, 219, 220, 221, 222, 223, 224, 225, 226, 227, 228, 229, 230, 231, 232, 233, 234, 235, 236, 237, 238, 239, 240, 241, 242, 243, 244, 245, 246, 247, 248, 249, 250, 251, 252, 253, 254, 255, 256, 257, 258, 259, 260, 261, 262, 263, 264, 265, 266, 267, 268, 269, 270, 271, 272, 273, 274, 275, 276, 277, 278, 279, 280, 281, 282, 283, 284, 285, 286, 287, 288, 289, 290, 291, 292, 293, 294, 295, 296, 297, 298, 299, 300, 301, 302, 303, 304, 305, 306, 307, 308, 309, 310, 311, 312, 313, 314, 315, 316, 317, 318, 319, 320, 321, 322, 323, 324, 325, 326, 327, 328, 329, 330, 331, 332, 333, 334, 335, 336, 337, 338, 339, 340, 341, 342, 343, 344, 345, 346, 347, 348, 349, 350, 351, 352, 353, 354, 355, 356, 357, 358, 359, 360, 361, 362, 363, 364, 365, 366, 367, 368, 369, 370, 371, 372, 373, 374, 375, 376, 377, 378, 379, 380, 381, 382, 383, 384, 385, 386, 387, 388, 389, 390, 391, 392, 393, 394, 395, 396] (by decide +kernel) (by decide +kernel)) (goodIn_sub (fun _ h => List.mem_cons_of_mem _ (List.mem_append_left _ (List.mem_append_left _ (List.mem_append_left _ (List.mem_append_right _ h))))) (by decide +kernel))) (goodIn_sub (fun _ h => List.mem_cons_of_mem _ (List.mem_append_left _ (List.mem_append_left _ (List.mem_append_right _ h)))) (by decide +kernel))) (goodIn_sub (fun _ h => List.mem_cons_of_mem _ (List.mem_append_left _ (List.mem_append_right _ h))) (by decide +kernel))) (goodIn_sub (fun _ h => List.mem_cons_of_mem _ (List.mem_append_right _ h)) (by decide +kernel))) (goodIn_sub (fun _ h => List.mem_cons_of_mem _ (List.mem_append_left _ (List.mem_append_left _ (List.mem_append_left _ (List.mem_append_left _ (List.mem_append_right _ h)))))) (by decide +kernel))
set_option maxRecDepth 20000 in
theorem gL_sail_X8_sail : GoodIn wsL_sail (wsV RL 79 RX8 yX8_sail wsX8_sail) := goodIn_app (goodIn_of _ (by decide +kernel)) ggL_sail_X8_sail
theorem dL_sail_0 : decode cL_sail 0 = .ok (.aload_n 2, 1) := by decide +kernel
theorem dL_sail_1 : decode cL_sail 1 = .ok (.iconst 0, 1) := by decide +kernel
theorem dL_sail_2 : decode cL_sail 2 = .ok (.aload_n 0, 1) := by decide +kernel
theorem dL_sail_3 : decode cL_sail 3 = .ok (.iload_n 1, 1) := by decide +kernel
theorem dL_sail_4 : decode cL_sail 4 = .ok (.invokevirtual 79, 3) := by decide +kernel
theorem dL_sail_7 : decode cL_sail 7 = .ok (.i2l, 1) := by decide +kernel
theorem dL_sail_8 : decode cL_sail 8 = .ok (.lastore, 1) := by decide +kernel
theorem dL_sail_9 : decode cL_sail 9 = .ok (.goto 15, 3) := by decide +kernel
theorem dL_sail_12 : decode cL_sail 12 = .ok (.astore_n 3, 1) := by decide +kernel
theorem dL_sail_13 : decode cL_sail 13 = .ok (.iconst 1, 1) := by decide +kernel
theorem dL_sail_14 : decode cL_sail 14 = .ok (.ireturn, 1) := by decide +kernel
theorem dL_sail_15 : decode cL_sail 15 = .ok (.astore_n 3, 1) := by decide +kernel
theorem dL_sail_16 : decode cL_sail 16 = .ok (.iconst 2, 1) := by decide +kernel
theorem dL_sail_17 : decode cL_sail 17 = .ok (.ireturn, 1) := by decide +kernel
theorem dL_sail_18 : decode cL_sail 18 = .ok (.astore_n 3, 1) := by decide +kernel
theorem dL_sail_19 : decode cL_sail 19 = .ok (.iconst 3, 1) := by decide +kernel
theorem dL_sail_20 : decode cL_sail 20 = .ok (.ireturn, 1) := by decide +kernel
theorem dL_sail_21 : decode cL_sail 21 = .ok (.astore_n 3, 1) := by decide +kernel
theorem dL_sail_22 : decode cL_sail 22 = .ok (.iconst 4, 1) := by decide +kernel
theorem dL_sail_23 : decode cL_sail 23 = .ok (.ireturn, 1) := by decide +kernel
theorem dL_sail_24 : decode cL_sail 24 = .ok (.iconst 0, 1) := by decide +kernel
theorem dL_sail_25 : decode cL_sail 25 = .ok (.ireturn, 1) := by decide +kernel
set_option maxRecDepth 20000 in
theorem ggL_dig_X8_dig : GoodIn wsL_dig wsX8_dig := goodIn_ca (goodIn_ca (goodIn_ca (goodIn_r _ [7, 8, 9, 10, 11, 12, 13, 14, 15, 6, 16, 17, 18, 19, 20, 21, 22, 23, 24, 25, 26, 27, 28, 29, 30, 31, 32, 33, 34, 35, 36, 37, 38, 39, 40, 41, 42, 43, 44, 45, 46, 47, 48, 49, 50, 51, 52, 53, 54, 55, 56, 57, 58, 59, 60, 61, 62, 63, 64, 65, 66, 67, 68, 69, 70, 71, 72, 73, 74, 75, 76, 77, 78, 79, 80, 81, 82, 83, 84, 85, 86, 87, 88, 89, 90, 91, 92, 93, 94, 95, 96, 97, 98, 99, 100, 101, 102, 103, 104, 105, 106, 107, 108, 109, 110, 111, 112, 113, 114, 115, 116, 117, 118, 119, 120, 121, 122, 123, 124, 125, 126, 127, 128, 129, 130, 131, 132, 133, 134, 135, 136, 137, 138, 139, 140, 141, 142, 143, 144, 145, 146, 147, 148, 149, 150, 151, 152, 153, 154, 155, 156, 157, 158, 159] (by decide +kernel) (by decide +kernel)) (goodIn_sub (fun _ h => List.mem_cons_of_mem _ (List.mem_append_left _ (List.mem_append_right _ h))) (by decide +kernel))) (goodIn_sub (fun _ h => List.mem_cons_of_mem _ (List.mem_append_right _ h)) (by decide +kernel))) (goodIn_sub (fun _ h => List.mem_cons_of_mem _ (List.mem_append_left _ (List.mem_append_left _ (List.mem_append_right _ h)))) (by decide +kernel))
set_option maxRecDepth 20000 in
theorem gL_dig_X8_dig : GoodIn wsL_dig (wsV RL 82 RX8 yX8_dig wsX8_dig) := goodIn_app (goodIn_of _ (by decide +kernel)) ggL_dig_X8_dig
theorem dL_dig_0 : decode cL_dig 0 = .ok (.aload_n 2, 1) := by decide +kernel
theorem dL_dig_1 : decode cL_dig 1 = .ok (.iconst 0, 1) := by decide +kernel
theorem dL_dig_2 : decode cL_dig 2 = .ok (.aload_n 0, 1) := by decide +kernel
theorem dL_dig_3 : decode cL_dig 3 = .ok (.iload_n 1, 1) := by decide +kernel
theorem dL_dig_4 : decode cL_dig 4 = .ok (.invokevirtual 82, 3) := by decide +kernel
theorem dL_dig_7 : decode cL_dig 7 = .ok (.i2l, 1) := by decide +kernel
theorem dL_dig_8 : decode cL_dig 8 = .ok (.lastore, 1) := by decide +kernel
theorem dL_dig_9 : decode cL_dig 9 = .ok (.goto 9, 3) := by decide +kernel
theorem dL_dig_12 : decode cL_dig 12 = .ok (.astore_n 3, 1) := by decide +kernel
theorem dL_dig_13 : decode cL_dig 13 = .ok (.iconst 1, 1) := by decide +kernel
theorem dL_dig_14 : decode cL_dig 14 = .ok (.ireturn, 1) := by decide +kernel
theorem dL_dig_15 : decode cL_dig 15 = .ok (.astore_n 3, 1) := by decide +kernel
theorem dL_dig_16 : decode cL_dig 16 = .ok (.iconst 2, 1) := by decide +kernel
theorem dL_dig_17 : decode cL_dig 17 = .ok (.ireturn, 1) := by decide +kernel
theorem dL_dig_18 : decode cL_dig 18 = .ok (.iconst 0, 1) := by decide +kernel
theorem dL_dig_19 : decode cL_dig 19 = .ok (.ireturn, 1) := by decide +kernel
set_option maxRecDepth 20000 in
theorem ggL_strike_X8_strike : GoodIn wsL_strike wsX8_strike := goodIn_ca (goodIn_ca (goodIn_ca (goodIn_r _ [7, 8, 9, 10, 11, 12, 13, 14, 15, 6, 16, 17, 18, 19, 20, 21, 22, 23, 24, 25, 26, 27, 28, 29, 30, 31, 32, 33, 34, 35, 36, 37, 38, 39, 40, 41, 42, 43, 44, 45, 46, 47, 48, 49, 50, 51, 52, 53, 54, 55, 56, 57, 58, 59, 60, 61, 62, 63, 64, 65, 66, 67, 68, 69, 70, 71, 72, 73, 74, 75, 76, 77, 78, 79, 80, 81, 82, 83, 84, 85, 86, 87, 88, 89, 90, 91, 92, 93, 94, 95, 96, 97, 98, 99, 100, 101, 102, 103, 104, 105, 106, 107, 108, 109, 110, 111, 112, 113, 114, 115, 116, 117, 118, 119, 120, 121, 122, 123, 124, 125, 126, 127, 128, 129, 130, 131, 132, 133, 134, 135, 136, 137, 138, 139, 140, 141, 142, 143, 144, 145, 146, 147, 148, 149, 150, 151, 152, 153, 154, 155, 156, 157, 158, 159, 160, 161, 162, 163, 164, 165, 166, 167, 168, 169, 170, 171, 172, 173, 174, 175, 176, 177, 178, 179, 180, 181, 182, 183, 184, 185, 186, 187, 188, 189, 190, 191, 192, 193, 194, 195, 196, 197] (by decide +kernel) (by decide +kernel)) (goodIn_sub (fun _ h => List.mem_cons_of_mem _ (List.mem_append_left _ (List.mem_append_right _ h))) (by decide +kernel))) (goodIn_sub (fun _ h => List.mem_cons_of_mem _ (List.mem_append_right _ h)) (by decide +kernel))) (goodIn_sub (fun _ h => List.mem_cons_of_mem _ (List.mem_append_left _ (List.mem_append_left _ (List.mem_append_right _ h)))) (by decide +kernel))
set_option maxRecDepth 20000 in
theorem gL_strike_X8_strike : GoodIn wsL_strike (wsV RL 85 RX8 yX8_strike wsX8_strike) := goodIn_app (goodIn_of _ (by decide +kernel)) ggL_strike_X8_strike
theorem dL_strike_0 : decode cL_strike 0 = .ok (.aload_n 2, 1) := by decide +kernel
theorem dL_strike_1 : decode cL_strike 1 = .ok (.iconst 0, 1) := by decide +kernel
theorem dL_strike_2 : decode cL_strike 2 = .ok (.aload_n 0, 1) := by decide +kernel
theorem dL_strike_3 : decode cL_strike 3 = .ok (.iload_n 1, 1) := by decide +kernel
theorem dL_strike_4 : decode cL_strike 4 = .ok (.invokevirtual 85, 3) := by decide +kernel
theorem dL_strike_7 : decode cL_strike 7 = .ok (.i2l, 1) := by decide +kernel
theorem dL_strike_8 : decode cL_strike 8 = .ok (.lastore, 1) := by decide +kernel
theorem dL_strike_9 : decode cL_strike 9 = .ok (.goto 9, 3) := by decide +kernel
theorem dL_strike_12 : decode cL_strike 12 = .ok (.astore_n 3, 1) := by decide +kernel
theorem dL_strike_13 : decode cL_strike 13 = .ok (.iconst 1, 1) := by decide +kernel
theorem dL_strike_14 : decode cL_strike 14 = .ok (.ireturn, 1) := by decide +kernel
theorem dL_strike_15 : decode cL_strike 15 = .ok (.astore_n 3, 1) := by decide +kernel
theorem dL_strike_16 : decode cL_strike 16 = .ok (.iconst 2, 1) := by decide +kernel
theorem dL_strike_17 : decode cL_strike 17 = .ok (.ireturn, 1) := by decide +kernel
theorem dL_strike_18 : decode cL_strike 18 = .ok (.iconst 0, 1) := by decide +kernel
theorem dL_strike_19 : decode cL_strike 19 = .ok (.ireturn, 1) := by decide +kernel
set_option maxRecDepth 20000 in
theorem ggL_at_X8_at : GoodIn wsL_at wsX8_at := goodIn_ca (goodIn_r _ [6, 7, 8, 9, 10, 11, 5, 12, 13, 14, 15, 16, 17, 18, 19, 20, 21, 22, 23, 24, 25, 26, 27, 28, 29, 30, 31, 32, 33, 34, 35, 36, 37, 38, 39, 40, 41, 42, 43, 44, 45, 46, 47, 48, 49, 50, 51, 52, 53, 54, 55, 56, 57, 58, 59, 60, 61, 62] (by decide +kernel) (by decide +kernel)) (goodIn_sub (fun _ h => List.mem_cons_of_mem _ (List.mem_append_right _ h)) (by decide +kernel))
set_option maxRecDepth 20000 in
theorem gL_at_X8_at : GoodIn wsL_at (wsV RL 88 RX8 yX8_at wsX8_at) := goodIn_app (goodIn_of _ (by decide +kernel)) ggL_at_X8_at
theorem dL_at_0 : decode cL_at 0 = .ok (.aload_n 2, 1) := by decide +kernel
theorem dL_at_1 : decode cL_at 1 = .ok (.iconst 0, 1) := by decide +kernel
theorem dL_at_2 : decode cL_at 2 = .ok (.aload_n 0, 1) := by decide +kernel
theorem dL_at_3 : decode cL_at 3 = .ok (.iload_n 1, 1) := by decide +kernel
theorem dL_at_4 : decode cL_at 4 = .ok (.invokevirtual 88, 3) := by decide +kernel
theorem dL_at_7 : decode cL_at 7 = .ok (.i2l, 1) := by decide +kernel
theorem dL_at_8 : decode cL_at 8 = .ok (.lastore, 1) := by decide +kernel
theorem dL_at_9 : decode cL_at 9 = .ok (.goto 6, 3) := by decide +kernel
theorem dL_at_12 : decode cL_at 12 = .ok (.astore_n 3, 1) := by decide +kernel
theorem dL_at_13 : decode cL_at 13 = .ok (.iconst 1, 1) := by decide +kernel
theorem dL_at_14 : decode cL_at 14 = .ok (.ireturn, 1) := by decide +kernel
theorem dL_at_15 : decode cL_at 15 = .ok (.iconst 0, 1) := by decide +kernel
theorem dL_at_16 : decode cL_at 16 = .ok (.ireturn, 1) := by decide +kernel
set_option maxRecDepth 20000 in
theorem ggL_coins_X8_coins : GoodIn wsL_coins wsX8_coins := goodIn_ca (goodIn_r _ [6, 7, 8, 9, 10, 5, 11, 12, 13, 14, 15, 16, 17, 18, 19, 20, 21, 22, 23, 24, 25, 26, 27, 28, 29, 30, 31, 32, 33, 34, 35, 36, 37, 38, 39, 40, 41, 42, 43, 44, 45, 46, 47, 48, 49, 50, 51, 52, 53, 54, 55] (by decide +kernel) (by decide +kernel)) (goodIn_sub (fun _ h => List.mem_cons_of_mem _ (List.mem_append_right _ h)) (by decide +kernel))
set_option maxRecDepth 20000 in
theorem gL_coins_X8_coins : GoodIn wsL_coins (wsV RL 91 RX8 yX8_coins wsX8_coins) := goodIn_app (goodIn_of _ (by decide +kernel)) ggL_coins_X8_coins
theorem dL_coins_0 : decode cL_coins 0 = .ok (.aload_n 2, 1) := by decide +kernel
theorem dL_coins_1 : decode cL_coins 1 = .ok (.iconst 0, 1) := by decide +kernel
theorem dL_coins_2 : decode cL_coins 2 = .ok (.aload_n 0, 1) := by decide +kernel
theorem dL_coins_3 : decode cL_coins 3 = .ok (.iload_n 1, 1) := by decide +kernel
theorem dL_coins_4 : decode cL_coins 4 = .ok (.invokevirtual 91, 3) := by decide +kernel
theorem dL_coins_7 : decode cL_coins 7 = .ok (.i2l, 1) := by decide +kernel
theorem dL_coins_8 : decode cL_coins 8 = .ok (.lastore, 1) := by decide +kernel
theorem dL_coins_9 : decode cL_coins 9 = .ok (.goto 6, 3) := by decide +kernel
theorem dL_coins_12 : decode cL_coins 12 = .ok (.astore_n 3, 1) := by decide +kernel
theorem dL_coins_13 : decode cL_coins 13 = .ok (.iconst 1, 1) := by decide +kernel
theorem dL_coins_14 : decode cL_coins 14 = .ok (.ireturn, 1) := by decide +kernel
theorem dL_coins_15 : decode cL_coins 15 = .ok (.iconst 0, 1) := by decide +kernel
theorem dL_coins_16 : decode cL_coins 16 = .ok (.ireturn, 1) := by decide +kernel
set_option maxRecDepth 20000 in
theorem ggL_hasMap_X8_hasMap : GoodIn wsL_hasMap wsX8_hasMap := goodIn_ca (goodIn_r _ [6, 7, 8, 9, 10, 5, 11, 12, 13, 14, 15, 16, 17, 18, 19, 20, 21, 22, 23, 24, 25, 26, 27, 28, 29, 30, 31, 32, 33, 34, 35, 36, 37, 38, 39, 40, 41, 42, 43, 44, 45, 46, 47, 48, 49, 50, 51, 52, 53, 54, 55, 56, 57, 58, 59, 60, 61, 62, 63, 64] (by decide +kernel) (by decide +kernel)) (goodIn_sub (fun _ h => List.mem_cons_of_mem _ (List.mem_append_right _ h)) (by decide +kernel))
set_option maxRecDepth 20000 in
theorem gL_hasMap_X8_hasMap : GoodIn wsL_hasMap (wsV RL 94 RX8 yX8_hasMap wsX8_hasMap) := goodIn_app (goodIn_of _ (by decide +kernel)) ggL_hasMap_X8_hasMap
theorem dL_hasMap_0 : decode cL_hasMap 0 = .ok (.aload_n 2, 1) := by decide +kernel
theorem dL_hasMap_1 : decode cL_hasMap 1 = .ok (.iconst 0, 1) := by decide +kernel
theorem dL_hasMap_2 : decode cL_hasMap 2 = .ok (.aload_n 0, 1) := by decide +kernel
theorem dL_hasMap_3 : decode cL_hasMap 3 = .ok (.iload_n 1, 1) := by decide +kernel
theorem dL_hasMap_4 : decode cL_hasMap 4 = .ok (.invokevirtual 94, 3) := by decide +kernel
theorem dL_hasMap_7 : decode cL_hasMap 7 = .ok (.ifCond .eq 7, 3) := by decide +kernel
theorem dL_hasMap_10 : decode cL_hasMap 10 = .ok (.lconst 1, 1) := by decide +kernel
theorem dL_hasMap_11 : decode cL_hasMap 11 = .ok (.goto 4, 3) := by decide +kernel
theorem dL_hasMap_14 : decode cL_hasMap 14 = .ok (.lconst 0, 1) := by decide +kernel
theorem dL_hasMap_15 : decode cL_hasMap 15 = .ok (.lastore, 1) := by decide +kernel
theorem dL_hasMap_16 : decode cL_hasMap 16 = .ok (.goto 6, 3) := by decide +kernel
theorem dL_hasMap_19 : decode cL_hasMap 19 = .ok (.astore_n 3, 1) := by decide +kernel
theorem dL_hasMap_20 : decode cL_hasMap 20 = .ok (.iconst 1, 1) := by decide +kernel
theorem dL_hasMap_21 : decode cL_hasMap 21 = .ok (.ireturn, 1) := by decide +kernel
theorem dL_hasMap_22 : decode cL_hasMap 22 = .ok (.iconst 0, 1) := by decide +kernel
theorem dL_hasMap_23 : decode cL_hasMap 23 = .ok (.ireturn, 1) := by decide +kernel
set_option maxRecDepth 20000 in
theorem ggL_isThere_X8_isThere : GoodIn wsL_isThere wsX8_isThere := goodIn_ca (goodIn_r _ [6, 7, 8, 9, 10, 5, 11, 12, 13, 14, 15, 16, 17, 18, 19, 20, 21, 22, 23, 24, 25, 26, 27, 28, 29, 30, 31, 32, 33, 34, 35, 36, 37, 38, 39, 40, 41, 42, 43, 44, 45, 46, 47, 48, 49, 50, 51, 52, 53, 54, 55, 56] (by decide +kernel) (by decide +kernel)) (goodIn_sub (fun _ h => List.mem_cons_of_mem _ (List.mem_append_right _ h)) (by decide +kernel))
set_option maxRecDepth 20000 in
theorem gL_isThere_X8_isThere : GoodIn wsL_isThere (wsV RL 98 RX8 yX8_isThere wsX8_isThere) := goodIn_app (goodIn_of _ (by decide +kernel)) ggL_isThere_X8_isThere
theorem dL_isThere_0 : decode cL_isThere 0 = .ok (.aload_n 2, 1) := by decide +kernel
theorem dL_isThere_1 : decode cL_isThere 1 = .ok (.iconst 0, 1) := by decide +kernel
theorem dL_isThere_2 : decode cL_isThere 2 = .ok (.aload_n 0, 1) := by decide +kernel
theorem dL_isThere_3 : decode cL_isThere 3 = .ok (.iload_n 1, 1) := by decide +kernel
theorem dL_isThere_4 : decode cL_isThere 4 = .ok (.invokevirtual 98, 3) := by decide +kernel
theorem dL_isThere_7 : decode cL_isThere 7 = .ok (.ifCond .eq 7, 3) := by decide +kernel
theorem dL_isThere_10 : decode cL_isThere 10 = .ok (.lconst 1, 1) := by decide +kernel
theorem dL_isThere_11 : decode cL_isThere 11 = .ok (.goto 4, 3) := by decide +kernel
theorem dL_isThere_14 : decode cL_isThere 14 = .ok (.lconst 0, 1) := by decide +kernel
theorem dL_isThere_15 : decode cL_isThere 15 = .ok (.lastore, 1) := by decide +kernel
theorem dL_isThere_16 : decode cL_isThere 16 = .ok (.goto 6, 3) := by decide +kernel
theorem dL_isThere_19 : decode cL_isThere 19 = .ok (.astore_n 3, 1) := by decide +kernel
theorem dL_isThere_20 : decode cL_isThere 20 = .ok (.iconst 1, 1) := by decide +kernel
theorem dL_isThere_21 : decode cL_isThere 21 = .ok (.ireturn, 1) := by decide +kernel
theorem dL_isThere_22 : decode cL_isThere 22 = .ok (.iconst 0, 1) := by decide +kernel
theorem dL_isThere_23 : decode cL_isThere 23 = .ok (.ireturn, 1) := by decide +kernel
set_option maxRecDepth 20000 in
theorem ggL_isStruck_X8_isStruck : GoodIn wsL_isStruck wsX8_isStruck := goodIn_ca (goodIn_r _ [6, 7, 8, 9, 10, 5, 11, 12, 13, 14, 15, 16, 17, 18, 19, 20, 21, 22, 23, 24, 25, 26, 27, 28, 29, 30, 31, 32, 33, 34, 35, 36, 37, 38, 39, 40, 41, 42, 43, 44, 45, 46, 47, 48, 49, 50, 51, 52, 53, 54, 55, 56, 57] (by decide +kernel) (by decide +kernel)) (goodIn_sub (fun _ h => List.mem_cons_of_mem _ (List.mem_append_right _ h)) (by decide +kernel))
set_option maxRecDepth 20000 in
theorem gL_isStruck_X8_isStruck : GoodIn wsL_isStruck (wsV RL 101 RX8 yX8_isStruck wsX8_isStruck) := goodIn_app (goodIn_of _ (by decide +kernel)) ggL_isStruck_X8_isStruck
theorem dL_isStruck_0 : decode cL_isStruck 0 = .ok (.aload_n 2, 1) := by decide +kernel
theorem dL_isStruck_1 : decode cL_isStruck 1 = .ok (.iconst 0, 1) := by decide +kernel
theorem dL_isStruck_2 : decode cL_isStruck 2 = .ok (.aload_n 0, 1) := by decide +kernel
theorem dL_isStruck_3 : decode cL_isStruck 3 = .ok (.iload_n 1, 1) := by decide +kernel
theorem dL_isStruck_4 : decode cL_isStruck 4 = .ok (.invokevirtual 101, 3) := by decide +kernel
theorem dL_isStruck_7 : decode cL_isStruck 7 = .ok (.ifCond .eq 7, 3) := by decide +kernel
theorem dL_isStruck_10 : decode cL_isStruck 10 = .ok (.lconst 1, 1) := by decide +kernel
theorem dL_isStruck_11 : decode cL_isStruck 11 = .ok (.goto 4, 3) := by decide +kernel
theorem dL_isStruck_14 : decode cL_isStruck 14 = .ok (.lconst 0, 1) := by decide +kernel
theorem dL_isStruck_15 : decode cL_isStruck 15 = .ok (.lastore, 1) := by decide +kernel
theorem dL_isStruck_16 : decode cL_isStruck 16 = .ok (.goto 6, 3) := by decide +kernel
theorem dL_isStruck_19 : decode cL_isStruck 19 = .ok (.astore_n 3, 1) := by decide +kernel
theorem dL_isStruck_20 : decode cL_isStruck 20 = .ok (.iconst 1, 1) := by decide +kernel
theorem dL_isStruck_21 : decode cL_isStruck 21 = .ok (.ireturn, 1) := by decide +kernel
theorem dL_isStruck_22 : decode cL_isStruck 22 = .ok (.iconst 0, 1) := by decide +kernel
theorem dL_isStruck_23 : decode cL_isStruck 23 = .ok (.ireturn, 1) := by decide +kernel
set_option maxRecDepth 20000 in
theorem ggL_cause_X8_cause : GoodIn wsL_cause wsX8_cause := goodIn_ca (goodIn_r _ [6, 7, 8, 9, 10, 11, 12, 13, 14, 15, 16, 17, 18, 19, 20, 21, 22, 23, 24, 25, 26, 27, 28, 29, 30, 31, 32, 33, 34, 35, 36, 37, 38, 39, 40, 41, 42, 43, 44, 45, 46, 47, 48, 49, 50, 51, 52, 53, 54, 55, 56, 57, 58, 59, 60, 61, 62, 63, 64, 65, 66, 67] (by decide +kernel) (by decide +kernel)) (goodIn_sub (fun _ h => List.mem_cons_of_mem _ (List.mem_append_right _ h)) (by decide +kernel))
set_option maxRecDepth 20000 in
theorem gL_cause_X8_cause : GoodIn wsL_cause (wsV RL 104 RX8 yX8_cause wsX8_cause) := goodIn_app (goodIn_of _ (by decide +kernel)) ggL_cause_X8_cause
theorem dL_cause_0 : decode cL_cause 0 = .ok (.aload_n 2, 1) := by decide +kernel
theorem dL_cause_1 : decode cL_cause 1 = .ok (.iconst 0, 1) := by decide +kernel
theorem dL_cause_2 : decode cL_cause 2 = .ok (.aload_n 0, 1) := by decide +kernel
theorem dL_cause_3 : decode cL_cause 3 = .ok (.iload_n 1, 1) := by decide +kernel
theorem dL_cause_4 : decode cL_cause 4 = .ok (.invokevirtual 104, 3) := by decide +kernel
theorem dL_cause_7 : decode cL_cause 7 = .ok (.i2l, 1) := by decide +kernel
theorem dL_cause_8 : decode cL_cause 8 = .ok (.lastore, 1) := by decide +kernel
theorem dL_cause_9 : decode cL_cause 9 = .ok (.goto 6, 3) := by decide +kernel
theorem dL_cause_12 : decode cL_cause 12 = .ok (.astore_n 3, 1) := by decide +kernel
theorem dL_cause_13 : decode cL_cause 13 = .ok (.iconst 1, 1) := by decide +kernel
theorem dL_cause_14 : decode cL_cause 14 = .ok (.ireturn, 1) := by decide +kernel
theorem dL_cause_15 : decode cL_cause 15 = .ok (.iconst 0, 1) := by decide +kernel
theorem dL_cause_16 : decode cL_cause 16 = .ok (.ireturn, 1) := by decide +kernel
set_option maxRecDepth 20000 in
theorem ggL_struckShare_X8_struckShare : GoodIn wsL_struckShare wsX8_struckShare := goodIn_ca (goodIn_r _ [6, 7, 8, 9, 10, 11, 12, 13, 14, 15, 16, 17, 18, 19, 20, 21, 22, 23, 24, 25, 26, 27, 28, 29, 30, 31, 32, 33, 34, 35, 36, 37, 38, 39, 40, 41, 42, 43, 44, 45, 46, 47, 48, 49, 50, 51, 52, 53, 54, 55, 56, 57] (by decide +kernel) (by decide +kernel)) (goodIn_sub (fun _ h => List.mem_cons_of_mem _ (List.mem_append_right _ h)) (by decide +kernel))
set_option maxRecDepth 20000 in
theorem gL_struckShare_X8_struckShare : GoodIn wsL_struckShare (wsV RL 108 RX8 yX8_struckShare wsX8_struckShare) := goodIn_app (goodIn_of _ (by decide +kernel)) ggL_struckShare_X8_struckShare
theorem dL_struckShare_0 : decode cL_struckShare 0 = .ok (.aload_n 1, 1) := by decide +kernel
theorem dL_struckShare_1 : decode cL_struckShare 1 = .ok (.iconst 0, 1) := by decide +kernel
theorem dL_struckShare_2 : decode cL_struckShare 2 = .ok (.aload_n 0, 1) := by decide +kernel
theorem dL_struckShare_3 : decode cL_struckShare 3 = .ok (.invokevirtual 108, 3) := by decide +kernel
theorem dL_struckShare_6 : decode cL_struckShare 6 = .ok (.f2d, 1) := by decide +kernel
theorem dL_struckShare_7 : decode cL_struckShare 7 = .ok (.dastore, 1) := by decide +kernel
theorem dL_struckShare_8 : decode cL_struckShare 8 = .ok (.goto 6, 3) := by decide +kernel
theorem dL_struckShare_11 : decode cL_struckShare 11 = .ok (.astore_n 2, 1) := by decide +kernel
theorem dL_struckShare_12 : decode cL_struckShare 12 = .ok (.iconst 1, 1) := by decide +kernel
theorem dL_struckShare_13 : decode cL_struckShare 13 = .ok (.ireturn, 1) := by decide +kernel
theorem dL_struckShare_14 : decode cL_struckShare 14 = .ok (.iconst 0, 1) := by decide +kernel
theorem dL_struckShare_15 : decode cL_struckShare 15 = .ok (.ireturn, 1) := by decide +kernel
