theorem dL_cell_0 : decode cL_cell 0 = .ok (.aload_n 0, 1) := by decide +kernel
theorem dL_cell_1 : decode cL_cell 1 = .ok (.arraylength, 1) := by decide +kernel
theorem dL_cell_2 : decode cL_cell 2 = .ok (.ifCond .ne 13, 3) := by decide +kernel
theorem dL_cell_5 : decode cL_cell 5 = .ok (.bipush 71, 2) := by decide +kernel
theorem dL_cell_7 : decode cL_cell 7 = .ok (.iload_n 1, 1) := by decide +kernel
theorem dL_cell_8 : decode cL_cell 8 = .ok (.imul, 1) := by decide +kernel
theorem dL_cell_9 : decode cL_cell 9 = .ok (.bipush 13, 2) := by decide +kernel
theorem dL_cell_11 : decode cL_cell 11 = .ok (.iadd, 1) := by decide +kernel
theorem dL_cell_12 : decode cL_cell 12 = .ok (.goto 12, 3) := by decide +kernel
theorem dL_cell_15 : decode cL_cell 15 = .ok (.aload_n 0, 1) := by decide +kernel
theorem dL_cell_16 : decode cL_cell 16 = .ok (.iload_n 1, 1) := by decide +kernel
theorem dL_cell_17 : decode cL_cell 17 = .ok (.ldc 7, 2) := by decide +kernel
theorem dL_cell_19 : decode cL_cell 19 = .ok (.iand, 1) := by decide +kernel
theorem dL_cell_20 : decode cL_cell 20 = .ok (.aload_n 0, 1) := by decide +kernel
theorem dL_cell_21 : decode cL_cell 21 = .ok (.arraylength, 1) := by decide +kernel
theorem dL_cell_22 : decode cL_cell 22 = .ok (.irem, 1) := by decide +kernel
theorem dL_cell_23 : decode cL_cell 23 = .ok (.iaload, 1) := by decide +kernel
theorem dL_cell_24 : decode cL_cell 24 = .ok (.ireturn, 1) := by decide +kernel
set_option maxRecDepth 20000 in
theorem ggL_island_X8_island : GoodIn wsL_island wsX8_island := goodIn_ca (goodIn_ca (goodIn_r _ [6, 7, 8, 9, 10, 11, 12, 13, 14, 15, 5, 16, 17, 18, 19, 20, 21, 22, 23, 24, 25, 26, 27, 28, 29, 30, 31, 32, 33, 34, 35, 36, 37, 38, 39, 40, 41, 42, 43, 44, 45, 46, 47, 48, 49, 50, 51, 52, 53, 54, 55, 56, 57, 58, 59, 60, 61, 62, 63, 64, 65, 66, 67, 68, 69, 70, 71, 72, 73, 74, 75, 76, 77, 78, 79, 80, 81, 82, 83, 84, 85, 86, 87, 88, 89, 90, 91, 92, 93, 94, 95, 96, 97, 98, 99, 100, 101, 102, 103, 104, 105, 106, 107] (by decide +kernel) (by decide +kernel)) (goodIn_sub (fun _ h => List.mem_cons_of_mem _ (List.mem_append_left _ (List.mem_append_right _ h))) (by decide +kernel))) (goodIn_sub (fun _ h => List.mem_cons_of_mem _ (List.mem_append_right _ h)) (by decide +kernel))
set_option maxRecDepth 20000 in
theorem gL_island_X8_island : GoodIn wsL_island (wsV RL 8 RX8 yX8_island wsX8_island) := goodIn_app (goodIn_of _ (by decide +kernel)) ggL_island_X8_island
theorem dL_island_0 : decode cL_island 0 = .ok (.aload_n 0, 1) := by decide +kernel
theorem dL_island_1 : decode cL_island 1 = .ok (.iload_n 1, 1) := by decide +kernel
theorem dL_island_2 : decode cL_island 2 = .ok (.iload_n 2, 1) := by decide +kernel
theorem dL_island_3 : decode cL_island 3 = .ok (.iload_n 3, 1) := by decide +kernel
theorem dL_island_4 : decode cL_island 4 = .ok (.invokevirtual 8, 3) := by decide +kernel
theorem dL_island_7 : decode cL_island 7 = .ok (.ireturn, 1) := by decide +kernel
theorem dL_island_8 : decode cL_island 8 = .ok (.astore 4, 2) := by decide +kernel
theorem dL_island_10 : decode cL_island 10 = .ok (.iconst (-1), 1) := by decide +kernel
theorem dL_island_11 : decode cL_island 11 = .ok (.ireturn, 1) := by decide +kernel
theorem dL_island_12 : decode cL_island 12 = .ok (.astore 4, 2) := by decide +kernel
theorem dL_island_14 : decode cL_island 14 = .ok (.bipush (-2), 2) := by decide +kernel
theorem dL_island_16 : decode cL_island 16 = .ok (.ireturn, 1) := by decide +kernel
set_option maxRecDepth 20000 in
theorem ggL_find_X8_find : GoodIn wsL_find wsX8_find := goodIn_ca (goodIn_ca (goodIn_ca (goodIn_r _ [6, 7, 8, 9, 10, 11, 12, 13, 5, 14, 15, 16, 17, 18, 19, 20, 21, 22, 23, 24, 25, 26, 27, 28, 29, 30, 31, 32, 33, 34, 35, 36, 37, 38, 39, 40, 41, 42, 43, 44, 45, 46, 47, 48, 49, 50, 51, 52, 53, 54, 55, 56, 57, 58, 59, 60, 61, 62, 63, 64, 65, 66, 67, 68, 69, 70, 71, 72, 73, 74, 75, 76, 77, 78, 79, 80, 81, 82, 83, 84, 85, 86, 87, 88, 89, 90, 91, 92, 93, 94, 95, 96, 97, 98, 99, 100, 101, 102, 103, 104, 105, 106, 107, 108, 109, 110, 111, 112, 113, 114, 115, 116, 117, 118, 119, 120, 121, 122, 123, 124, 125, 126, 127, 128, 129, 130, 131, 132, 133, 134, 135, 136, 137, 138, 139, 140, 141, 142, 143, 144, 145, 146, 147, 148, 149, 150, 151, 152, 153, 154, 155, 156, 157, 158, 159, 160, 161, 162, 163, 164, 165, 166, 167, 168, 169, 170, 171, 172, 173, 174, 175, 176, 177, 178, 179, 180, 181, 182, 183, 184, 185, 186, 187, 188, 189, 190, 191, 192, 193, 194, 195, 196, 197, 198, 199, 200, 201, 202, 203, 204, 205, 206, 207, 208, 209, 210, 211, 212, 213, 214, 215, 216, 217, 218, 219, 220, 221, 222, 223] (by decide +kernel) (by decide +kernel)) (goodIn_sub (fun _ h => List.mem_cons_of_mem _ (List.mem_append_left _ (List.mem_append_left _ (List.mem_append_right _ h)))) (by decide +kernel))) (goodIn_sub (fun _ h => List.mem_cons_of_mem _ (List.mem_append_left _ (List.mem_append_right _ h))) (by decide +kernel))) (goodIn_sub (fun _ h => List.mem_cons_of_mem _ (List.mem_append_right _ h)) (by decide +kernel))
set_option maxRecDepth 20000 in
theorem gL_find_X8_find : GoodIn wsL_find (wsV RL 18 RX8 yX8_find wsX8_find) := goodIn_app (goodIn_of _ (by decide +kernel)) ggL_find_X8_find
theorem dL_find_0 : decode cL_find 0 = .ok (.aload_n 0, 1) := by decide +kernel
theorem dL_find_1 : decode cL_find 1 = .ok (.iload_n 1, 1) := by decide +kernel
theorem dL_find_2 : decode cL_find 2 = .ok (.iload_n 2, 1) := by decide +kernel
theorem dL_find_3 : decode cL_find 3 = .ok (.iload_n 3, 1) := by decide +kernel
theorem dL_find_4 : decode cL_find 4 = .ok (.invokevirtual 18, 3) := by decide +kernel
theorem dL_find_7 : decode cL_find 7 = .ok (.ireturn, 1) := by decide +kernel
theorem dL_find_8 : decode cL_find 8 = .ok (.astore 4, 2) := by decide +kernel
theorem dL_find_10 : decode cL_find 10 = .ok (.iconst (-1), 1) := by decide +kernel
theorem dL_find_11 : decode cL_find 11 = .ok (.ireturn, 1) := by decide +kernel
theorem dL_find_12 : decode cL_find 12 = .ok (.astore 4, 2) := by decide +kernel
theorem dL_find_14 : decode cL_find 14 = .ok (.bipush (-2), 2) := by decide +kernel
theorem dL_find_16 : decode cL_find 16 = .ok (.ireturn, 1) := by decide +kernel
theorem dL_find_17 : decode cL_find 17 = .ok (.astore 4, 2) := by decide +kernel
theorem dL_find_19 : decode cL_find 19 = .ok (.bipush (-3), 2) := by decide +kernel
theorem dL_find_21 : decode cL_find 21 = .ok (.ireturn, 1) := by decide +kernel
set_option maxRecDepth 20000 in
theorem ggL_ship_X8_ship : GoodIn wsL_ship wsX8_ship := goodIn_ca (goodIn_r _ [6, 7, 8, 9, 10, 11, 12, 13, 14, 15, 16, 17, 18, 19, 20, 21, 22, 23, 24, 25, 26, 27, 28, 29, 30, 31, 32, 33, 34, 35, 36, 37, 38, 39, 40, 41, 42, 43, 44, 45, 46, 47, 48, 49, 50, 51, 52, 53, 54, 55, 56, 57, 58, 59, 60, 61, 62, 63, 64, 65, 66, 67, 68, 69, 70, 71, 72, 73, 74, 75, 76, 77, 78, 79, 80, 81, 82, 83, 84, 85, 86, 87, 88, 89, 90, 91, 92, 93, 94, 95, 96, 97, 98, 99, 100, 101, 102, 103, 104, 105, 106, 107, 108, 109, 110, 111, 112, 113, 114, 115, 116, 117, 118, 119, 120, 121, 122, 123, 124, 125, 126, 127, 128, 129, 130, 131, 132, 133, 134] (by decide +kernel) (by decide +kernel)) (goodIn_sub (fun _ h => List.mem_cons_of_mem _ (List.mem_append_right _ h)) (by decide +kernel))
set_option maxRecDepth 20000 in
theorem gL_ship_X8_ship : GoodIn wsL_ship (wsV RL 23 RX8 yX8_ship wsX8_ship) := goodIn_app (goodIn_of _ (by decide +kernel)) ggL_ship_X8_ship
theorem dL_ship_0 : decode cL_ship 0 = .ok (.aload_n 0, 1) := by decide +kernel
theorem dL_ship_1 : decode cL_ship 1 = .ok (.invokevirtual 23, 3) := by decide +kernel
theorem dL_ship_4 : decode cL_ship 4 = .ok (.ireturn, 1) := by decide +kernel
theorem dL_ship_5 : decode cL_ship 5 = .ok (.astore_n 1, 1) := by decide +kernel
theorem dL_ship_6 : decode cL_ship 6 = .ok (.iconst (-1), 1) := by decide +kernel
theorem dL_ship_7 : decode cL_ship 7 = .ok (.ireturn, 1) := by decide +kernel
set_option maxRecDepth 20000 in
theorem ggL_plant_X8_plant : GoodIn wsL_plant wsX8_plant := goodIn_ca (goodIn_ca (goodIn_ca (goodIn_ca (goodIn_r _ [6, 7, 8, 9, 10, 11, 12, 13, 14, 15, 16, 5, 17, 18, 19, 20, 21, 22, 23, 24, 25, 26, 27, 28, 29, 30, 31, 32, 33, 34, 35, 36, 37, 38, 39, 40, 41, 42, 43, 44, 45, 46, 47, 48, 49, 50, 51, 52, 53, 54, 55, 56, 57, 58, 59, 60, 61, 62, 63, 64, 65, 66, 67, 68, 69, 70, 71, 72, 73, 74, 75, 76, 77, 78, 79, 80, 81, 82, 83, 84, 85, 86, 87, 88, 89, 90, 91, 92, 93, 94, 95, 96, 97, 98, 99, 100, 101, 102, 103, 104, 105, 106, 107, 108, 109, 110, 111, 112, 113, 114, 115, 116, 117, 118, 119, 120, 121, 122, 123, 124, 125, 126, 127, 128, 129, 130, 131, 132, 133, 134, 135, 136, 137, 138, 139, 140, 141, 142, 143, 144, 145, 146, 147, 148, 149, 150, 151, 152, 153, 154, 155, 156, 157, 158, 159, 160, 161, 162, 163, 164, 165, 166, 167, 168, 169, 170, 171, 172, 173, 174, 175, 176, 177, 178, 179, 180, 181, 182, 183, 184, 185, 186, 187, 188, 189, 190, 191, 192, 193, 194, 195, 196, 197, 198, 199, 200, 201, 202, 203, 204, 205, 206, 207, 208, 209, 210, 211, 212, 213, 214, 215, 216, 217, 218, 219, 220, 221, 222, 223, 224, 225, 226, 227, 228, 229, 230, 231, 232, 233, 234, 235, 236, 237, 238, 239, 240, 241, 242, 243, 244] (by decide +kernel) (by decide +kernel)) (goodIn_sub (fun _ h => List.mem_cons_of_mem _ (List.mem_append_left _ (List.mem_append_left _ (List.mem_append_left _ (List.mem_append_right _ h))))) (by decide +kernel))) (goodIn_sub (fun _ h => List.mem_cons_of_mem _ (List.mem_append_left _ (List.mem_append_left _ (List.mem_append_right _ h)))) (by decide +kernel))) (goodIn_sub (fun _ h => List.mem_cons_of_mem _ (List.mem_append_left _ (List.mem_append_right _ h))) (by decide +kernel))) (goodIn_sub (fun _ h => List.mem_cons_of_mem _ (List.mem_append_right _ h)) (by decide +kernel))
set_option maxRecDepth 20000 in
theorem gL_plant_X8_plant : GoodIn wsL_plant (wsV RL 27 RX8 yX8_plant wsX8_plant) := goodIn_app (goodIn_of _ (by decide +kernel)) ggL_plant_X8_plant
theorem dL_plant_0 : decode cL_plant 0 = .ok (.aload_n 0, 1) := by decide +kernel
theorem dL_plant_1 : decode cL_plant 1 = .ok (.iload_n 1, 1) := by decide +kernel
theorem dL_plant_2 : decode cL_plant 2 = .ok (.iload_n 2, 1) := by decide +kernel
theorem dL_plant_3 : decode cL_plant 3 = .ok (.iload_n 3, 1) := by decide +kernel
theorem dL_plant_4 : decode cL_plant 4 = .ok (.iload 4, 2) := by decide +kernel
theorem dL_plant_6 : decode cL_plant 6 = .ok (.invokevirtual 27, 3) := by decide +kernel
theorem dL_plant_9 : decode cL_plant 9 = .ok (.ireturn, 1) := by decide +kernel
theorem dL_plant_10 : decode cL_plant 10 = .ok (.astore 5, 2) := by decide +kernel
theorem dL_plant_12 : decode cL_plant 12 = .ok (.iconst (-1), 1) := by decide +kernel
theorem dL_plant_13 : decode cL_plant 13 = .ok (.ireturn, 1) := by decide +kernel
theorem dL_plant_14 : decode cL_plant 14 = .ok (.astore 5, 2) := by decide +kernel
theorem dL_plant_16 : decode cL_plant 16 = .ok (.bipush (-2), 2) := by decide +kernel
theorem dL_plant_18 : decode cL_plant 18 = .ok (.ireturn, 1) := by decide +kernel
theorem dL_plant_19 : decode cL_plant 19 = .ok (.astore 5, 2) := by decide +kernel
theorem dL_plant_21 : decode cL_plant 21 = .ok (.bipush (-3), 2) := by decide +kernel
theorem dL_plant_23 : decode cL_plant 23 = .ok (.ireturn, 1) := by decide +kernel
theorem dL_plant_24 : decode cL_plant 24 = .ok (.astore 5, 2) := by decide +kernel
theorem dL_plant_26 : decode cL_plant 26 = .ok (.bipush (-4), 2) := by decide +kernel
theorem dL_plant_28 : decode cL_plant 28 = .ok (.ireturn, 1) := by decide +kernel
set_option maxRecDepth 20000 in
theorem ggL_segment_X8_segment : GoodIn wsL_segment wsX8_segment := goodIn_ca (goodIn_r _ [6, 7, 8, 9, 10, 11, 12, 13, 14, 15, 16, 17, 18, 19, 20, 21, 22, 23, 24, 25, 26, 27, 28, 29, 30, 31, 32, 33, 34, 35, 36, 37, 38, 39, 40, 41, 42, 43, 44, 45, 46, 47, 48, 49, 50, 51, 52] (by decide +kernel) (by decide +kernel)) (goodIn_sub (fun _ h => List.mem_cons_of_mem _ (List.mem_append_right _ h)) (by decide +kernel))
set_option maxRecDepth 20000 in
theorem gL_segment_X8_segment : GoodIn wsL_segment (wsV RL 33 RX8 yX8_segment wsX8_segment) := goodIn_app (goodIn_of _ (by decide +kernel)) ggL_segment_X8_segment
theorem dL_segment_0 : decode cL_segment 0 = .ok (.aload_n 0, 1) := by decide +kernel
theorem dL_segment_1 : decode cL_segment 1 = .ok (.iload_n 1, 1) := by decide +kernel
theorem dL_segment_2 : decode cL_segment 2 = .ok (.invokevirtual 33, 3) := by decide +kernel
theorem dL_segment_5 : decode cL_segment 5 = .ok (.ireturn, 1) := by decide +kernel
theorem dL_segment_6 : decode cL_segment 6 = .ok (.astore_n 2, 1) := by decide +kernel
theorem dL_segment_7 : decode cL_segment 7 = .ok (.iconst (-1), 1) := by decide +kernel
theorem dL_segment_8 : decode cL_segment 8 = .ok (.ireturn, 1) := by decide +kernel
set_option maxRecDepth 20000 in
theorem ggL_size_X8_size : GoodIn wsL_size wsX8_size := goodIn_ca (goodIn_r _ [6, 7, 8, 9, 10, 5, 11, 12, 13, 14, 15, 16, 17, 18, 19, 20, 21, 22, 23, 24, 25, 26, 27, 28, 29, 30, 31, 32, 33, 34, 35, 36, 37, 38, 39, 40, 41, 42, 43, 44, 45, 46, 47, 48, 49, 50, 51, 52, 53, 54, 55, 56, 57, 58, 59, 60, 61, 62, 63] (by decide +kernel) (by decide +kernel)) (goodIn_sub (fun _ h => List.mem_cons_of_mem _ (List.mem_append_right _ h)) (by decide +kernel))
set_option maxRecDepth 20000 in
theorem gL_size_X8_size : GoodIn wsL_size (wsV RL 39 RX8 yX8_size wsX8_size) := goodIn_app (goodIn_of _ (by decide +kernel)) ggL_size_X8_size
theorem dL_size_0 : decode cL_size 0 = .ok (.aload_n 0, 1) := by decide +kernel
theorem dL_size_1 : decode cL_size 1 = .ok (.iload_n 1, 1) := by decide +kernel
theorem dL_size_2 : decode cL_size 2 = .ok (.invokevirtual 39, 3) := by decide +kernel
theorem dL_size_5 : decode cL_size 5 = .ok (.ireturn, 1) := by decide +kernel
theorem dL_size_6 : decode cL_size 6 = .ok (.astore_n 2, 1) := by decide +kernel
theorem dL_size_7 : decode cL_size 7 = .ok (.iconst (-1), 1) := by decide +kernel
theorem dL_size_8 : decode cL_size 8 = .ok (.ireturn, 1) := by decide +kernel
set_option maxRecDepth 20000 in
theorem ggL_merge_X8_merge : GoodIn wsL_merge wsX8_merge := goodIn_ca (goodIn_ca (goodIn_ca (goodIn_r _ [6, 7, 8, 9, 10, 11, 12, 13, 14, 15, 16, 17, 18, 19, 20, 21, 22, 23, 24, 25, 26, 27, 28, 29, 30, 31, 32, 33, 34, 35, 36, 37, 38, 39, 40, 41, 42, 43, 44, 45, 5, 46, 47, 48, 49, 50, 51, 52, 53, 54, 55, 56, 57, 58, 59, 60, 61, 62, 63, 64, 65, 66, 67, 68, 69, 70, 71, 72, 73, 74, 75, 76, 77, 78, 79, 80, 81, 82, 83, 84, 85, 86, 87, 88, 89, 90, 91, 92, 93, 94, 95, 96, 97, 98, 99, 100, 101, 102, 103, 104, 105, 106, 107, 108, 109, 110, 111, 112, 113, 114, 115, 116, 117, 118, 119, 120, 121, 122, 123, 124, 125, 126, 127, 128, 129, 130, 131, 132, 133, 134, 135, 136, 137, 138, 139, 140, 141, 142, 143, 144, 145, 146, 147, 148, 149, 150, 151, 152, 153, 154, 155, 156, 157, 158, 159, 160, 161, 162, 163, 164, 165, 166, 167, 168, 169, 170, 171, 172, 173, 174, 175, 176, 177, 178, 179, 180, 181, 182, 183, 184, 185, 186, 187, 188, 189, 190, 191, 192, 193, 194, 195, 196, 197, 198, 199, 200, 201, 202, 203, 204, 205, 206, 207, 208, 209, 210, 211, 212, 213, 214, 215, 216, 217, 218, 219, 220, 221, 222, 223, 224, 225, 226, 227, 228, 229, 230, 231, 232, 233, 234, 235, 236, 237, 238, 239, 240, 241, 242, 243, 244, 245, 246, 247, 248, 249, 250, 251, 252, 253, 254, 255, 256, 257, 258, 259, 260, 261, 262, 263, 264, 265, 266, 267, 268, 269, 270, 271, 272, 273, 274, 275, 276, 277, 278, 279, 280, 281, 282, 283, 284, 285, 286, 287, 288, 289, 290, 291, 292, 293, 294, 295, 296, 297, 298, 299, 300, 301, 302, 303, 304, 305, 306, 307, 308, 309, 310, 311, 312, 313, 314, 315, 316, 317, 318, 319, 320, 321, 322, 323, 324, 325, 326, 327, 328, 329, 330, 331, 332, 333, 334, 335, 336, 337, 338] (by decide +kernel) (by decide +kernel)) (goodIn_sub (fun _ h => List.mem_cons_of_mem _ (List.mem_append_left _ (List.mem_append_left _ (List.mem_append_right _ h)))) (by decide +kernel))) (goodIn_sub (fun _ h => List.mem_cons_of_mem _ (List.mem_append_left _ (List.mem_append_right _ h))) (by decide +kernel))) (goodIn_sub (fun _ h => List.mem_cons_of_mem _ (List.mem_append_right _ h)) (by decide +kernel))
set_option maxRecDepth 20000 in
theorem gL_merge_X8_merge : GoodIn wsL_merge (wsV RL 42 RX8 yX8_merge wsX8_merge) := goodIn_app (goodIn_of _ (by decide +kernel)) ggL_merge_X8_merge
theorem dL_merge_0 : decode cL_merge 0 = .ok (.aload_n 0, 1) := by decide +kernel
theorem dL_merge_1 : decode cL_merge 1 = .ok (.iload_n 1, 1) := by decide +kernel
theorem dL_merge_2 : decode cL_merge 2 = .ok (.iload_n 2, 1) := by decide +kernel
theorem dL_merge_3 : decode cL_merge 3 = .ok (.invokevirtual 42, 3) := by decide +kernel
theorem dL_merge_6 : decode cL_merge 6 = .ok (.ireturn, 1) := by decide +kernel
theorem dL_merge_7 : decode cL_merge 7 = .ok (.astore_n 3, 1) := by decide +kernel
theorem dL_merge_8 : decode cL_merge 8 = .ok (.iconst (-1), 1) := by decide +kernel
theorem dL_merge_9 : decode cL_merge 9 = .ok (.ireturn, 1) := by decide +kernel
theorem dL_merge_10 : decode cL_merge 10 = .ok (.astore_n 3, 1) := by decide +kernel
theorem dL_merge_11 : decode cL_merge 11 = .ok (.bipush (-2), 2) := by decide +kernel
theorem dL_merge_13 : decode cL_merge 13 = .ok (.ireturn, 1) := by decide +kernel
theorem dL_merge_14 : decode cL_merge 14 = .ok (.astore_n 3, 1) := by decide +kernel
theorem dL_merge_15 : decode cL_merge 15 = .ok (.bipush (-3), 2) := by decide +kernel
theorem dL_merge_17 : decode cL_merge 17 = .ok (.ireturn, 1) := by decide +kernel
set_option maxRecDepth 20000 in
theorem ggL_storm_X8_storm : GoodIn wsL_storm wsX8_storm := goodIn_ca (goodIn_ca (goodIn_r _ [6, 7, 8, 9, 10, 5, 11, 12, 13, 14, 15, 16, 17, 18, 19, 20, 21, 22, 23, 24, 25, 26, 27, 28, 29, 30, 31, 32, 33, 34, 35, 36, 37, 38, 39, 40, 41, 42, 43, 44, 45, 46, 47, 48, 49, 50, 51, 52, 53, 54, 55, 56, 57, 58, 59, 60, 61, 62, 63, 64, 65, 66, 67, 68, 69, 70, 71, 72, 73, 74, 75, 76, 77, 78, 79, 80, 81, 82, 83, 84, 85, 86, 87, 88, 89, 90, 91, 92, 93, 94, 95, 96, 97, 98, 99, 100, 101, 102, 103, 104, 105, 106, 107, 108, 109, 110, 111, 112, 113, 114, 115, 116, 117, 118, 119, 120, 121, 122, 123, 124, 125, 126, 127, 128, 129, 130, 131, 132, 133, 134, 135] (by decide +kernel) (by decide +kernel)) (goodIn_sub (fun _ h => List.mem_cons_of_mem _ (List.mem_append_left _ (List.mem_append_right _ h))) (by decide +kernel))) (goodIn_sub (fun _ h => List.mem_cons_of_mem _ (List.mem_append_right _ h)) (by decide +kernel))
set_option maxRecDepth 20000 in
theorem gL_storm_X8_storm : GoodIn wsL_storm (wsV RL 46 RX8 yX8_storm wsX8_storm) := goodIn_app (goodIn_of _ (by decide +kernel)) ggL_storm_X8_storm
theorem dL_storm_0 : decode cL_storm 0 = .ok (.aload_n 0, 1) := by decide +kernel
theorem dL_storm_1 : decode cL_storm 1 = .ok (.iload_n 1, 1) := by decide +kernel
theorem dL_storm_2 : decode cL_storm 2 = .ok (.invokevirtual 46, 3) := by decide +kernel
theorem dL_storm_5 : decode cL_storm 5 = .ok (.ireturn, 1) := by decide +kernel
theorem dL_storm_6 : decode cL_storm 6 = .ok (.astore_n 2, 1) := by decide +kernel
theorem dL_storm_7 : decode cL_storm 7 = .ok (.iconst (-1), 1) := by decide +kernel
theorem dL_storm_8 : decode cL_storm 8 = .ok (.ireturn, 1) := by decide +kernel
theorem dL_storm_9 : decode cL_storm 9 = .ok (.astore_n 2, 1) := by decide +kernel
theorem dL_storm_10 : decode cL_storm 10 = .ok (.bipush (-2), 2) := by decide +kernel
theorem dL_storm_12 : decode cL_storm 12 = .ok (.ireturn, 1) := by decide +kernel
set_option maxRecDepth 20000 in
theorem ggL_rebuild_X8_rebuild : GoodIn wsL_rebuild wsX8_rebuild := goodIn_ca (goodIn_r _ [6, 7, 8, 9, 10, 11, 12, 13, 14, 5, 15, 16, 17, 18, 19, 20, 21, 22, 23, 24, 25, 26, 27, 28, 29, 30, 31, 32, 33, 34, 35, 36, 37, 38, 39, 40, 41, 42, 43, 44, 45, 46, 47, 48, 49, 50, 51, 52, 53, 54, 55, 56, 57, 58, 59, 60, 61, 62, 63, 64, 65, 66, 67, 68, 69, 70, 71, 72, 73, 74, 75, 76, 77, 78, 79, 80, 81, 82, 83, 84, 85, 86, 87, 88, 89, 90, 91, 92, 93, 94, 95, 96, 97, 98, 99, 100, 101, 102, 103, 104, 105, 106, 107, 108, 109, 110, 111, 112, 113, 114, 115, 116, 117, 118, 119, 120, 121, 122, 123, 124, 125, 126, 127, 128, 129, 130, 131, 132, 133, 134, 135, 136, 137, 138, 139, 140, 141, 142, 143, 144, 145, 146, 147, 148, 149, 150, 151, 152, 153, 154, 155, 156, 157, 158, 159, 160, 161, 162, 163, 164, 165, 166, 167, 168, 169, 170, 171, 172, 173, 174, 175, 176, 177, 178, 179, 180, 181, 182, 183, 184, 185, 186, 187, 188, 189, 190, 191, 192, 193, 194, 195, 196, 197, 198, 199, 200, 201, 202, 203, 204, 205, 206, 207, 208, 209, 210, 211, 212, 213, 214, 215, 216, 217, 218, 219, 220, 221, 222, 223, 224, 225, 226, 227, 228, 229, 230, 231, 232, 233, 234, 235, 236, 237, 238, 239, 240, 241, 242, 243, 244, 245, 246, 247, 248, 249, 250, 251, 252, 253, 254, 255, 256, 257, 258, 259, 260, 261, 262, 263, 264, 265, 266, 267, 268, 269, 270, 271, 272, 273, 274, 275, 276, 277, 278, 279, 280, 281, 282, 283, 284, 285, 286, 287, 288, 289, 290, 291, 292, 293, 294, 295, 296, 297, 298, 299, 300, 301, 302, 303, 304, 305, 306, 307, 308, 309, 310, 311, 312, 313, 314, 315, 316, 317, 318, 319, 320, 321, 322, 323, 324, 325, 326, 327, 328, 329, 330, 331, 332, 333, 334, 335, 336, 337, 338, 339, 340, 341, 342, 343, 344, 345, 346, 347, 348, 349] (by decide +kernel) (by decide +kernel)) (goodIn_sub (fun _ h => List.mem_cons_of_mem _ (List.mem_append_right _ h)) (by decide +kernel))
set_option maxRecDepth 20000 in
theorem gL_rebuild_X8_rebuild : GoodIn wsL_rebuild (wsV RL 49 RX8 yX8_rebuild wsX8_rebuild) := goodIn_app (goodIn_of _ (by decide +kernel)) ggL_rebuild_X8_rebuild
theorem dL_rebuild_0 : decode cL_rebuild 0 = .ok (.aload_n 0, 1) := by decide +kernel
theorem dL_rebuild_1 : decode cL_rebuild 1 = .ok (.invokevirtual 49, 3) := by decide +kernel
theorem dL_rebuild_4 : decode cL_rebuild 4 = .ok (.ireturn, 1) := by decide +kernel
theorem dL_rebuild_5 : decode cL_rebuild 5 = .ok (.astore_n 1, 1) := by decide +kernel
theorem dL_rebuild_6 : decode cL_rebuild 6 = .ok (.iconst (-1), 1) := by decide +kernel
theorem dL_rebuild_7 : decode cL_rebuild 7 = .ok (.ireturn, 1) := by decide +kernel
set_option maxRecDepth 20000 in
theorem ggL_segmentOf_X8_segmentOf : GoodIn wsL_segmentOf wsX8_segmentOf := goodIn_ca (goodIn_ca (goodIn_r _ [6, 7, 8, 9, 10, 11, 12, 13, 5, 14, 15, 16, 17, 18, 19, 20, 21, 22, 23, 24, 25, 26, 27, 28, 29, 30, 31, 32, 33, 34, 35, 36, 37, 38, 39, 40, 41, 42, 43, 44, 45, 46, 47, 48, 49, 50, 51, 52, 53, 54, 55, 56, 57, 58, 59, 60, 61, 62] (by decide +kernel) (by decide +kernel)) (goodIn_sub (fun _ h => List.mem_cons_of_mem _ (List.mem_append_left _ (List.mem_append_right _ h))) (by decide +kernel))) (goodIn_sub (fun _ h => List.mem_cons_of_mem _ (List.mem_append_right _ h)) (by decide +kernel))
set_option maxRecDepth 20000 in
theorem gL_segmentOf_X8_segmentOf : GoodIn wsL_segmentOf (wsV RL 52 RX8 yX8_segmentOf wsX8_segmentOf) := goodIn_app (goodIn_of _ (by decide +kernel)) ggL_segmentOf_X8_segmentOf
theorem dL_segmentOf_0 : decode cL_segmentOf 0 = .ok (.aload_n 0, 1) := by decide +kernel
theorem dL_segmentOf_1 : decode cL_segmentOf 1 = .ok (.iload_n 1, 1) := by decide +kernel
theorem dL_segmentOf_2 : decode cL_segmentOf 2 = .ok (.invokevirtual 52, 3) := by decide +kernel
theorem dL_segmentOf_5 : decode cL_segmentOf 5 = .ok (.ireturn, 1) := by decide +kernel
theorem dL_segmentOf_6 : decode cL_segmentOf 6 = .ok (.astore_n 2, 1) := by decide +kernel
theorem dL_segmentOf_7 : decode cL_segmentOf 7 = .ok (.iconst (-1), 1) := by decide +kernel
theorem dL_segmentOf_8 : decode cL_segmentOf 8 = .ok (.ireturn, 1) := by decide +kernel
theorem dL_segmentOf_9 : decode cL_segmentOf 9 = .ok (.astore_n 2, 1) := by decide +kernel
theorem dL_segmentOf_10 : decode cL_segmentOf 10 = .ok (.bipush (-2), 2) := by decide +kernel
theorem dL_segmentOf_12 : decode cL_segmentOf 12 = .ok (.ireturn, 1) := by decide +kernel
set_option maxRecDepth 20000 in
theorem ggL_postings_X8_postings : GoodIn wsL_postings wsX8_postings := goodIn_ca (goodIn_r _ [6, 7, 8, 9, 5, 10, 11, 12, 13, 14, 15, 16, 17, 18, 19, 20, 21, 22, 23, 24, 25, 26, 27, 28, 29, 30, 31, 32, 33, 34, 35, 36, 37, 38, 39, 40, 41, 42, 43, 44, 45, 46, 47, 48, 49, 50, 51, 52, 53, 54, 55, 56, 57, 58, 59, 60, 61, 62, 63] (by decide +kernel) (by decide +kernel)) (goodIn_sub (fun _ h => List.mem_cons_of_mem _ (List.mem_append_right _ h)) (by decide +kernel))
set_option maxRecDepth 20000 in
theorem gL_postings_X8_postings : GoodIn wsL_postings (wsV RL 55 RX8 yX8_postings wsX8_postings) := goodIn_app (goodIn_of _ (by decide +kernel)) ggL_postings_X8_postings
theorem dL_postings_0 : decode cL_postings 0 = .ok (.aload_n 0, 1) := by decide +kernel
theorem dL_postings_1 : decode cL_postings 1 = .ok (.iload_n 1, 1) := by decide +kernel
theorem dL_postings_2 : decode cL_postings 2 = .ok (.invokevirtual 55, 3) := by decide +kernel
theorem dL_postings_5 : decode cL_postings 5 = .ok (.ireturn, 1) := by decide +kernel
theorem dL_postings_6 : decode cL_postings 6 = .ok (.astore_n 2, 1) := by decide +kernel
theorem dL_postings_7 : decode cL_postings 7 = .ok (.iconst (-1), 1) := by decide +kernel
theorem dL_postings_8 : decode cL_postings 8 = .ok (.ireturn, 1) := by decide +kernel
set_option maxRecDepth 20000 in
theorem ggL_posting_X8_posting : GoodIn wsL_posting wsX8_posting := goodIn_ca (goodIn_ca (goodIn_r _ [6, 7, 8, 9, 10, 11, 12, 5, 13, 14, 15, 16, 17, 18, 19, 20, 21, 22, 23, 24, 25, 26, 27, 28, 29, 30, 31, 32, 33, 34, 35, 36, 37, 38, 39, 40, 41, 42, 43, 44, 45, 46, 47, 48, 49, 50, 51, 52, 53, 54, 55, 56, 57, 58, 59, 60, 61, 62, 63, 64, 65, 66] (by decide +kernel) (by decide +kernel)) (goodIn_sub (fun _ h => List.mem_cons_of_mem _ (List.mem_append_left _ (List.mem_append_right _ h))) (by decide +kernel))) (goodIn_sub (fun _ h => List.mem_cons_of_mem _ (List.mem_append_right _ h)) (by decide +kernel))
set_option maxRecDepth 20000 in
theorem gL_posting_X8_posting : GoodIn wsL_posting (wsV RL 58 RX8 yX8_posting wsX8_posting) := goodIn_app (goodIn_of _ (by decide +kernel)) ggL_posting_X8_posting
theorem dL_posting_0 : decode cL_posting 0 = .ok (.aload_n 0, 1) := by decide +kernel
theorem dL_posting_1 : decode cL_posting 1 = .ok (.iload_n 1, 1) := by decide +kernel
theorem dL_posting_2 : decode cL_posting 2 = .ok (.iload_n 2, 1) := by decide +kernel
theorem dL_posting_3 : decode cL_posting 3 = .ok (.invokevirtual 58, 3) := by decide +kernel
theorem dL_posting_6 : decode cL_posting 6 = .ok (.ireturn, 1) := by decide +kernel
theorem dL_posting_7 : decode cL_posting 7 = .ok (.astore_n 3, 1) := by decide +kernel
theorem dL_posting_8 : decode cL_posting 8 = .ok (.iconst (-1), 1) := by decide +kernel
theorem dL_posting_9 : decode cL_posting 9 = .ok (.ireturn, 1) := by decide +kernel
theorem dL_posting_10 : decode cL_posting 10 = .ok (.astore_n 3, 1) := by decide +kernel
theorem dL_posting_11 : decode cL_posting 11 = .ok (.bipush (-2), 2) := by decide +kernel
theorem dL_posting_13 : decode cL_posting 13 = .ok (.ireturn, 1) := by decide +kernel
set_option maxRecDepth 20000 in
theorem ggL_word_X8_word : GoodIn wsL_word wsX8_word := goodIn_ca (goodIn_ca (goodIn_ca (goodIn_r _ [6, 7, 8, 9, 10, 11, 12, 5, 13, 14, 15, 16, 17, 18, 19, 20, 21, 22, 23, 24, 25, 26, 27, 28, 29, 30, 31, 32, 33, 34, 35, 36, 37, 38, 39] (by decide +kernel) (by decide +kernel)) (goodIn_sub (fun _ h => List.mem_cons_of_mem _ (List.mem_append_left _ (List.mem_append_left _ (List.mem_append_right _ h)))) (by decide +kernel))) (goodIn_sub (fun _ h => List.mem_cons_of_mem _ (List.mem_append_left _ (List.mem_append_right _ h))) (by decide +kernel))) (goodIn_sub (fun _ h => List.mem_cons_of_mem _ (List.mem_append_right _ h)) (by decide +kernel))
set_option maxRecDepth 20000 in
theorem gL_word_X8_word : GoodIn wsL_word (wsV RL 61 RX8 yX8_word wsX8_word) := goodIn_app (goodIn_of _ (by decide +kernel)) ggL_word_X8_word
theorem dL_word_0 : decode cL_word 0 = .ok (.aload_n 0, 1) := by decide +kernel
theorem dL_word_1 : decode cL_word 1 = .ok (.iload_n 1, 1) := by decide +kernel
theorem dL_word_2 : decode cL_word 2 = .ok (.iload_n 2, 1) := by decide +kernel
theorem dL_word_3 : decode cL_word 3 = .ok (.invokevirtual 61, 3) := by decide +kernel
theorem dL_word_6 : decode cL_word 6 = .ok (.ireturn, 1) := by decide +kernel
theorem dL_word_7 : decode cL_word 7 = .ok (.astore_n 3, 1) := by decide +kernel
theorem dL_word_8 : decode cL_word 8 = .ok (.iconst (-1), 1) := by decide +kernel
theorem dL_word_9 : decode cL_word 9 = .ok (.ireturn, 1) := by decide +kernel
theorem dL_word_10 : decode cL_word 10 = .ok (.astore_n 3, 1) := by decide +kernel
theorem dL_word_11 : decode cL_word 11 = .ok (.bipush (-2), 2) := by decide +kernel
theorem dL_word_13 : decode cL_word 13 = .ok (.ireturn, 1) := by decide +kernel
set_option maxRecDepth 20000 in
theorem ggL_hits_X8_hits : GoodIn wsL_hits wsX8_hits := goodIn_ca (goodIn_ca (goodIn_r _ [6, 7, 8, 9, 10, 11, 12, 5, 13, 14, 15, 16, 17, 18, 19, 20, 21, 22, 23, 24, 25, 26, 27, 28, 29, 30, 31, 32, 33, 34, 35, 36, 37, 38, 39, 40, 41, 42, 43, 44, 45, 46, 47, 48, 49, 50, 51, 52, 53, 54, 55, 56, 57, 58, 59, 60, 61, 62, 63, 64, 65, 66, 67, 68, 69, 70, 71, 72, 73, 74, 75, 76, 77, 78, 79, 80, 81, 82, 83, 84, 85, 86, 87, 88, 89, 90, 91, 92, 93, 94, 95, 96, 97, 98, 99, 100, 101, 102, 103, 104, 105, 106, 107, 108, 109, 110, 111, 112, 113, 114, 115, 116, 117, 118, 119, 120, 121, 122, 123, 124, 125, 126, 127, 128, 129, 130, 131, 132, 133, 134, 135, 136, 137, 138, 139] (by decide +kernel) (by decide +kernel)) (goodIn_sub (fun _ h => List.mem_cons_of_mem _ (List.mem_append_left _ (List.mem_append_right _ h))) (by decide +kernel))) (goodIn_sub (fun _ h => List.mem_cons_of_mem _ (List.mem_append_right _ h)) (by decide +kernel))
set_option maxRecDepth 20000 in
theorem gL_hits_X8_hits : GoodIn wsL_hits (wsV RL 64 RX8 yX8_hits wsX8_hits) := goodIn_app (goodIn_of _ (by decide +kernel)) ggL_hits_X8_hits
theorem dL_hits_0 : decode cL_hits 0 = .ok (.aload_n 0, 1) := by decide +kernel
theorem dL_hits_1 : decode cL_hits 1 = .ok (.invokevirtual 64, 3) := by decide +kernel
theorem dL_hits_4 : decode cL_hits 4 = .ok (.ireturn, 1) := by decide +kernel
theorem dL_hits_5 : decode cL_hits 5 = .ok (.astore_n 1, 1) := by decide +kernel
theorem dL_hits_6 : decode cL_hits 6 = .ok (.iconst (-1), 1) := by decide +kernel
theorem dL_hits_7 : decode cL_hits 7 = .ok (.ireturn, 1) := by decide +kernel
set_option maxRecDepth 20000 in
theorem ggL_hit_X8_hit : GoodIn wsL_hit wsX8_hit := goodIn_ca (goodIn_ca (goodIn_ca (goodIn_ca (goodIn_r _ [6, 7, 8, 9, 10, 11, 12, 13, 5, 14, 15, 16, 17, 18, 19, 20, 21, 22, 23, 24, 25, 26, 27, 28, 29, 30, 31, 32, 33, 34, 35, 36, 37, 38, 39, 40, 41, 42, 43, 44, 45, 46, 47, 48, 49, 50, 51, 52, 53, 54, 55, 56, 57, 58, 59, 60, 61, 62, 63, 64, 65, 66, 67, 68, 69, 70, 71, 72, 73, 74, 75, 76, 77, 78, 79, 80, 81, 82, 83, 84, 85, 86, 87, 88, 89, 90, 91, 92, 93, 94, 95, 96, 97, 98, 99, 100, 101, 102, 103, 104, 105, 106, 107, 108, 109, 110, 111, 112, 113, 114, 115, 116, 117, 118, 119, 120, 121, 122, 123, 124, 125, 126, 127, 128, 129, 130, 131, 132, 133, 134, 135, 136, 137, 138, 139, 140, 141, 142, 143, 144, 145, 146, 147, 148, 149, 150, 151, 152, 153, 154, 155, 156, 157, 158, 159, 160, 161, 162, 163, 164, 165, 166, 167, 168, 169, 170, 171, 172, 173, 174, 175, 176, 177, 178, 179, 180, 181, 182, 183, 184, 185, 186, 187, 188, 189, 190, 191, 192, 193, 194, 195, 196, 197, 198] (by decide +kernel) (by decide +kernel)) (goodIn_sub (fun _ h => List.mem_cons_of_mem _ (List.mem_append_left _ (List.mem_append_left _ (List.mem_append_left _ (List.mem_append_right _ h))))) (by decide +kernel))) (goodIn_sub (fun _ h => List.mem_cons_of_mem _ (List.mem_append_left _ (List.mem_append_left _ (List.mem_append_right _ h)))) (by decide +kernel))) (goodIn_sub (fun _ h => List.mem_cons_of_mem _ (List.mem_append_left _ (List.mem_append_right _ h))) (by decide +kernel))) (goodIn_sub (fun _ h => List.mem_cons_of_mem _ (List.mem_append_right _ h)) (by decide +kernel))
set_option maxRecDepth 20000 in
theorem gL_hit_X8_hit : GoodIn wsL_hit (wsV RL 67 RX8 yX8_hit wsX8_hit) := goodIn_app (goodIn_of _ (by decide +kernel)) ggL_hit_X8_hit
theorem dL_hit_0 : decode cL_hit 0 = .ok (.aload_n 0, 1) := by decide +kernel
theorem dL_hit_1 : decode cL_hit 1 = .ok (.iload_n 1, 1) := by decide +kernel
theorem dL_hit_2 : decode cL_hit 2 = .ok (.iload_n 2, 1) := by decide +kernel
theorem dL_hit_3 : decode cL_hit 3 = .ok (.invokevirtual 67, 3) := by decide +kernel
theorem dL_hit_6 : decode cL_hit 6 = .ok (.ireturn, 1) := by decide +kernel
theorem dL_hit_7 : decode cL_hit 7 = .ok (.astore_n 3, 1) := by decide +kernel
theorem dL_hit_8 : decode cL_hit 8 = .ok (.iconst (-1), 1) := by decide +kernel
theorem dL_hit_9 : decode cL_hit 9 = .ok (.ireturn, 1) := by decide +kernel
theorem dL_hit_10 : decode cL_hit 10 = .ok (.astore_n 3, 1) := by decide +kernel
theorem dL_hit_11 : decode cL_hit 11 = .ok (.bipush (-2), 2) := by decide +kernel
theorem dL_hit_13 : decode cL_hit 13 = .ok (.ireturn, 1) := by decide +kernel
theorem dL_hit_14 : decode cL_hit 14 = .ok (.astore_n 3, 1) := by decide +kernel
theorem dL_hit_15 : decode cL_hit 15 = .ok (.bipush (-3), 2) := by decide +kernel
theorem dL_hit_17 : decode cL_hit 17 = .ok (.ireturn, 1) := by decide +kernel
set_option maxRecDepth 20000 in
theorem ggL_count_X8_count : GoodIn wsL_count wsX8_count := goodIn_ca (goodIn_ca (goodIn_ca (goodIn_r _ [6, 7, 8, 9, 10, 5, 11, 12, 13, 14, 15, 16, 17, 18, 19, 20, 21, 22, 23, 24, 25, 26, 27, 28, 29, 30, 31, 32, 33, 34, 35, 36, 37, 38, 39, 40, 41, 42, 43, 44, 45, 46, 47, 48, 49, 50, 51, 52, 53, 54, 55, 56, 57, 58, 59, 60, 61, 62, 63, 64, 65, 66, 67, 68, 69, 70, 71, 72, 73, 74, 75, 76, 77, 78, 79, 80, 81, 82, 83, 84, 85, 86, 87, 88, 89, 90, 91, 92, 93, 94, 95, 96, 97, 98, 99, 100, 101, 102, 103, 104, 105, 106, 107, 108, 109, 110, 111, 112, 113, 114, 115, 116, 117, 118, 119, 120, 121, 122, 123, 124, 125, 126, 127, 128, 129, 130, 131, 132, 133, 134, 135, 136, 137, 138, 139, 140, 141] (by decide +kernel) (by decide +kernel)) (goodIn_sub (fun _ h => List.mem_cons_of_mem _ (List.mem_append_left _ (List.mem_append_left _ (List.mem_append_right _ h)))) (by decide +kernel))) (goodIn_sub (fun _ h => List.mem_cons_of_mem _ (List.mem_append_left _ (List.mem_append_right _ h))) (by decide +kernel))) (goodIn_sub (fun _ h => List.mem_cons_of_mem _ (List.mem_append_right _ h)) (by decide +kernel))
set_option maxRecDepth 20000 in
theorem gL_count_X8_count : GoodIn wsL_count (wsV RL 70 RX8 yX8_count wsX8_count) := goodIn_app (goodIn_of _ (by decide +kernel)) ggL_count_X8_count
theorem dL_count_0 : decode cL_count 0 = .ok (.aload_n 0, 1) := by decide +kernel
theorem dL_count_1 : decode cL_count 1 = .ok (.iload_n 1, 1) := by decide +kernel
theorem dL_count_2 : decode cL_count 2 = .ok (.invokevirtual 70, 3) := by decide +kernel
theorem dL_count_5 : decode cL_count 5 = .ok (.ireturn, 1) := by decide +kernel
theorem dL_count_6 : decode cL_count 6 = .ok (.astore_n 2, 1) := by decide +kernel
theorem dL_count_7 : decode cL_count 7 = .ok (.iconst (-1), 1) := by decide +kernel
theorem dL_count_8 : decode cL_count 8 = .ok (.ireturn, 1) := by decide +kernel
theorem dL_count_9 : decode cL_count 9 = .ok (.astore_n 2, 1) := by decide +kernel
theorem dL_count_10 : decode cL_count 10 = .ok (.bipush (-2), 2) := by decide +kernel
theorem dL_count_12 : decode cL_count 12 = .ok (.ireturn, 1) := by decide +kernel
set_option maxRecDepth 20000 in
theorem ggL_scoreBits_X8_scoreBits : GoodIn wsL_scoreBits wsX8_scoreBits := goodIn_ca (goodIn_ca (goodIn_ca (goodIn_r _ [6, 7, 8, 9, 10, 5, 11, 12, 13, 14, 15, 16, 17, 18, 19, 20, 21, 22, 23, 24, 25, 26, 27, 28, 29, 30, 31, 32, 33, 34, 35, 36, 37, 38, 39, 40, 41, 42, 43, 44, 45, 46, 47, 48, 49, 50, 51, 52, 53, 54, 55, 56, 57, 58, 59, 60, 61, 62, 63, 64, 65, 66, 67, 68, 69, 70, 71, 72, 73, 74, 75, 76, 77, 78, 79, 80, 81, 82, 83, 84, 85, 86, 87, 88, 89, 90, 91, 92, 93, 94, 95, 96, 97, 98, 99, 100, 101, 102, 103, 104, 105, 106, 107, 108, 109, 110, 111, 112, 113, 114, 115, 116, 117, 118, 119, 120, 121, 122, 123, 124, 125, 126, 127, 128, 129, 130, 131, 132, 133, 134, 135, 136, 137, 138, 139, 140, 141, 142, 143, 144, 145, 146, 147, 148, 149, 150, 151, 152, 153, 154, 155, 156, 157, 158, 159, 160, 161, 162, 163, 164, 165, 166] (by decide +kernel) (by decide +kernel)) (goodIn_sub (fun _ h => List.mem_cons_of_mem _ (List.mem_append_left _ (List.mem_append_left _ (List.mem_append_right _ h)))) (by decide +kernel))) (goodIn_sub (fun _ h => List.mem_cons_of_mem _ (List.mem_append_left _ (List.mem_append_right _ h))) (by decide +kernel))) (goodIn_sub (fun _ h => List.mem_cons_of_mem _ (List.mem_append_right _ h)) (by decide +kernel))
set_option maxRecDepth 20000 in
theorem gL_scoreBits_X8_scoreBits : GoodIn wsL_scoreBits (wsV RL 73 RX8 yX8_scoreBits wsX8_scoreBits) := goodIn_app (goodIn_of _ (by decide +kernel)) ggL_scoreBits_X8_scoreBits
theorem dL_scoreBits_0 : decode cL_scoreBits 0 = .ok (.aload_n 0, 1) := by decide +kernel
theorem dL_scoreBits_1 : decode cL_scoreBits 1 = .ok (.iload_n 1, 1) := by decide +kernel
theorem dL_scoreBits_2 : decode cL_scoreBits 2 = .ok (.invokevirtual 73, 3) := by decide +kernel
theorem dL_scoreBits_5 : decode cL_scoreBits 5 = .ok (.ireturn, 1) := by decide +kernel
theorem dL_scoreBits_6 : decode cL_scoreBits 6 = .ok (.astore_n 2, 1) := by decide +kernel
theorem dL_scoreBits_7 : decode cL_scoreBits 7 = .ok (.iconst (-1), 1) := by decide +kernel
theorem dL_scoreBits_8 : decode cL_scoreBits 8 = .ok (.ireturn, 1) := by decide +kernel
theorem dL_scoreBits_9 : decode cL_scoreBits 9 = .ok (.astore_n 2, 1) := by decide +kernel
theorem dL_scoreBits_10 : decode cL_scoreBits 10 = .ok (.bipush (-2), 2) := by decide +kernel
theorem dL_scoreBits_12 : decode cL_scoreBits 12 = .ok (.ireturn, 1) := by decide +kernel
set_option maxRecDepth 20000 in
theorem ggL_weight_X8_weight : GoodIn wsL_weight wsX8_weight := goodIn_ca (goodIn_r _ [7, 8, 9, 6, 10, 11, 12, 13, 14, 15, 16, 17, 18, 19, 20, 21, 22, 23, 24, 25, 26, 27, 28, 29, 30, 31, 32, 33, 34, 35, 36, 37, 38, 39, 40, 41, 42, 43, 44, 45, 46, 47, 48, 49, 50, 51, 52, 53, 54, 55, 56, 57, 58, 59, 60, 61, 62, 63, 64, 65, 66, 67, 68, 69, 70, 71] (by decide +kernel) (by decide +kernel)) (goodIn_sub (fun _ h => List.mem_cons_of_mem _ (List.mem_append_right _ h)) (by decide +kernel))
set_option maxRecDepth 20000 in
theorem gL_weight_X8_weight : GoodIn wsL_weight (wsV RL 76 RX8 yX8_weight wsX8_weight) := goodIn_app (goodIn_of _ (by decide +kernel)) ggL_weight_X8_weight
theorem dL_weight_0 : decode cL_weight 0 = .ok (.aload_n 0, 1) := by decide +kernel
theorem dL_weight_1 : decode cL_weight 1 = .ok (.iload_n 1, 1) := by decide +kernel
theorem dL_weight_2 : decode cL_weight 2 = .ok (.invokevirtual 76, 3) := by decide +kernel
theorem dL_weight_5 : decode cL_weight 5 = .ok (.freturn, 1) := by decide +kernel
theorem dL_weight_6 : decode cL_weight 6 = .ok (.astore_n 2, 1) := by decide +kernel
theorem dL_weight_7 : decode cL_weight 7 = .ok (.ldc 80, 2) := by decide +kernel
theorem dL_weight_9 : decode cL_weight 9 = .ok (.freturn, 1) := by decide +kernel
set_option maxRecDepth 20000 in
theorem ggL_sail_X8_sail : GoodIn wsL_sail wsX8_sail := goodIn_ca (goodIn_ca (goodIn_ca (goodIn_ca (goodIn_ca (goodIn_r _ [6, 7, 8, 9, 10, 11, 12, 13, 14, 15, 16, 17, 5, 18, 19, 20, 21, 22, 23, 24, 25, 26, 27, 28, 29, 30, 31, 32, 33, 34, 35, 36, 37, 38, 39, 40, 41, 42, 43, 44, 45, 46, 47, 48, 49, 50, 51, 52, 53, 54, 55, 56, 57, 58, 59, 60, 61, 62, 63, 64, 65, 66, 67, 68, 69, 70, 71, 72, 73, 74, 75, 76, 77, 78, 79, 80, 81, 82, 83, 84, 85, 86, 87, 88, 89, 90, 91, 92, 93, 94, 95, 96, 97, 98, 99, 100, 101, 102, 103, 104, 105, 106, 107, 108, 109, 110, 111, 112, 113, 114, 115, 116, 117, 118, 119, 120, 121, 122, 123, 124, 125, 126, 127, 128, 129, 130, 131, 132, 133, 134, 135, 136, 137, 138, 139, 140, 141, 142, 143, 144, 145, 146, 147, 148, 149, 150, 151, 152, 153, 154, 155, 156, 157, 158, 159, 160, 161, 162, 163, 164, 165, 166, 167, 168, 169, 170, 171, 172, 173, 174, 175, 176, 177, 178, 179, 180, 181, 182, 183, 184, 185, 186, 187, 188, 189, 190, 191, 192, 193, 194, 195, 196, 197, 198, 199, 200, 201, 202, 203, 204, 205, 206, 207, 208, 209, 210, 211, 212, 213, 214, 215, 216, 217, 218, 219, 220, 221, 222, 223, 224, 225, 226, 227, 228, 229, 230, 231, 232, 233, 234, 235, 236, 237, 238, 239, 240, 241, 242, 243, 244, 245, 246, 247, 248, 249, 250, 251, 252, 253, 254, 255, 256, 257, 258, 259, 260, 261, 262, 263, 264, 265, 266, 267, 268, 269, 270, 271, 272, 273, 274, 275, 276, 277, 278, 279, 280, 281, 282, 283, 284, 285, 286, 287, 288, 289, 290, 291, 292, 293, 294, 295, 296, 297, 298, 299, 300, 301, 302, 303, 304, 305, 306, 307, 308, 309, 310, 311, 312, 313, 314, 315, 316, 317, 318, 319, 320, 321, 322, 323, 324, 325, 326, 327, 328, 329, 330, 331, 332, 333, 334, 335, 336, 337, 338, 339, 340, 341, 342, 343, 344, 345, 346, 347, 348, 349, 350, 351, 352, 353, 354, 355, 356, 357, 358, 359, 360, 361, 362, 363, 364, 365, 366, 367, 368, 369, 370, 371, 372, 373, 374, 375, 376, 377, 378, 379, 380, 381, 382, 383, 384, 385, 386, 387, 388, 389, 390, 391, 392, 393] (by decide +kernel) (by decide +kernel)) (goodIn_sub (fun _ h => List.mem_cons_of_mem _ (List.mem_append_left _ (List.mem_append_left _ (List.mem_append_left _ (List.mem_append_left _ (List.mem_append_right _ h)))))) (by decide +kernel))) (goodIn_sub (fun _ h => List.mem_cons_of_mem _ (List.mem_append_left _ (List.mem_append_left _ (List.mem_append_left _ (List.mem_append_right _ h))))) (by decide +kernel))) (goodIn_sub (fun _ h => List.mem_cons_of_mem _ (List.mem_append_left _ (List.mem_append_left _ (List.mem_append_right _ h)))) (by decide +kernel))) (goodIn_sub (fun _ h => List.mem_cons_of_mem _ (List.mem_append_left _ (List.mem_append_right _ h))) (by decide +kernel))) (goodIn_sub (fun _ h => List.mem_cons_of_mem _ (List.mem_append_right _ h)) (by decide +kernel))
set_option maxRecDepth 20000 in
theorem gL_sail_X8_sail : GoodIn wsL_sail (wsV RL 81 RX8 yX8_sail wsX8_sail) := goodIn_app (goodIn_of _ (by decide +kernel)) ggL_sail_X8_sail
theorem dL_sail_0 : decode cL_sail 0 = .ok (.aload_n 0, 1) := by decide +kernel
theorem dL_sail_1 : decode cL_sail 1 = .ok (.iload_n 1, 1) := by decide +kernel
theorem dL_sail_2 : decode cL_sail 2 = .ok (.invokevirtual 81, 3) := by decide +kernel
theorem dL_sail_5 : decode cL_sail 5 = .ok (.ireturn, 1) := by decide +kernel
theorem dL_sail_6 : decode cL_sail 6 = .ok (.astore_n 2, 1) := by decide +kernel
theorem dL_sail_7 : decode cL_sail 7 = .ok (.iconst (-1), 1) := by decide +kernel
theorem dL_sail_8 : decode cL_sail 8 = .ok (.ireturn, 1) := by decide +kernel
theorem dL_sail_9 : decode cL_sail 9 = .ok (.astore_n 2, 1) := by decide +kernel
theorem dL_sail_10 : decode cL_sail 10 = .ok (.bipush (-2), 2) := by decide +kernel
theorem dL_sail_12 : decode cL_sail 12 = .ok (.ireturn, 1) := by decide +kernel
theorem dL_sail_13 : decode cL_sail 13 = .ok (.astore_n 2, 1) := by decide +kernel
theorem dL_sail_14 : decode cL_sail 14 = .ok (.bipush (-3), 2) := by decide +kernel
theorem dL_sail_16 : decode cL_sail 16 = .ok (.ireturn, 1) := by decide +kernel
theorem dL_sail_17 : decode cL_sail 17 = .ok (.astore_n 2, 1) := by decide +kernel
theorem dL_sail_18 : decode cL_sail 18 = .ok (.bipush (-4), 2) := by decide +kernel
theorem dL_sail_20 : decode cL_sail 20 = .ok (.ireturn, 1) := by decide +kernel
set_option maxRecDepth 20000 in
theorem ggL_dig_X8_dig : GoodIn wsL_dig wsX8_dig := goodIn_ca (goodIn_ca (goodIn_ca (goodIn_r _ [6, 7, 8, 9, 10, 11, 12, 13, 14, 5, 15, 16, 17, 18, 19, 20, 21, 22, 23, 24, 25, 26, 27, 28, 29, 30, 31, 32, 33, 34, 35, 36, 37, 38, 39, 40, 41, 42, 43, 44, 45, 46, 47, 48, 49, 50, 51, 52, 53, 54, 55, 56, 57, 58, 59, 60, 61, 62, 63, 64, 65, 66, 67, 68, 69, 70, 71, 72, 73, 74, 75, 76, 77, 78, 79, 80, 81, 82, 83, 84, 85, 86, 87, 88, 89, 90, 91, 92, 93, 94, 95, 96, 97, 98, 99, 100, 101, 102, 103, 104, 105, 106, 107, 108, 109, 110, 111, 112, 113, 114, 115, 116, 117, 118, 119, 120, 121, 122, 123, 124, 125, 126, 127, 128, 129, 130, 131, 132, 133, 134, 135, 136, 137, 138, 139, 140, 141, 142, 143, 144, 145, 146, 147, 148, 149, 150, 151, 152, 153, 154, 155, 156, 157, 158] (by decide +kernel) (by decide +kernel)) (goodIn_sub (fun _ h => List.mem_cons_of_mem _ (List.mem_append_left _ (List.mem_append_left _ (List.mem_append_right _ h)))) (by decide +kernel))) (goodIn_sub (fun _ h => List.mem_cons_of_mem _ (List.mem_append_left _ (List.mem_append_right _ h))) (by decide +kernel))) (goodIn_sub (fun _ h => List.mem_cons_of_mem _ (List.mem_append_right _ h)) (by decide +kernel))
set_option maxRecDepth 20000 in
theorem gL_dig_X8_dig : GoodIn wsL_dig (wsV RL 84 RX8 yX8_dig wsX8_dig) := goodIn_app (goodIn_of _ (by decide +kernel)) ggL_dig_X8_dig
theorem dL_dig_0 : decode cL_dig 0 = .ok (.aload_n 0, 1) := by decide +kernel
theorem dL_dig_1 : decode cL_dig 1 = .ok (.iload_n 1, 1) := by decide +kernel
theorem dL_dig_2 : decode cL_dig 2 = .ok (.invokevirtual 84, 3) := by decide +kernel
theorem dL_dig_5 : decode cL_dig 5 = .ok (.ireturn, 1) := by decide +kernel
theorem dL_dig_6 : decode cL_dig 6 = .ok (.astore_n 2, 1) := by decide +kernel
theorem dL_dig_7 : decode cL_dig 7 = .ok (.iconst (-1), 1) := by decide +kernel
theorem dL_dig_8 : decode cL_dig 8 = .ok (.ireturn, 1) := by decide +kernel
theorem dL_dig_9 : decode cL_dig 9 = .ok (.astore_n 2, 1) := by decide +kernel
theorem dL_dig_10 : decode cL_dig 10 = .ok (.bipush (-2), 2) := by decide +kernel
theorem dL_dig_12 : decode cL_dig 12 = .ok (.ireturn, 1) := by decide +kernel
set_option maxRecDepth 20000 in
theorem ggL_strike_X8_strike : GoodIn wsL_strike wsX8_strike := goodIn_ca (goodIn_ca (goodIn_ca (goodIn_r _ [6, 7, 8, 9, 10, 11, 12, 13, 14, 5, 15, 16, 17, 18, 19, 20, 21, 22, 23, 24, 25, 26, 27, 28, 29, 30, 31, 32, 33, 34, 35, 36, 37, 38, 39, 40, 41, 42, 43, 44, 45, 46, 47, 48, 49, 50, 51, 52, 53, 54, 55, 56, 57, 58, 59, 60, 61, 62, 63, 64, 65, 66, 67, 68, 69, 70, 71, 72, 73, 74, 75, 76, 77, 78, 79, 80, 81, 82, 83, 84, 85, 86, 87, 88, 89, 90, 91, 92, 93, 94, 95, 96, 97, 98, 99, 100, 101, 102, 103, 104, 105, 106, 107, 108, 109, 110, 111, 112, 113, 114, 115, 116, 117, 118, 119, 120, 121, 122, 123, 124, 125, 126, 127, 128, 129, 130, 131, 132, 133, 134, 135, 136, 137, 138, 139, 140, 141, 142, 143, 144, 145, 146, 147, 148, 149, 150, 151, 152, 153, 154, 155, 156, 157, 158, 159, 160, 161, 162, 163, 164, 165, 166, 167, 168, 169, 170, 171, 172, 173, 174, 175, 176, 177, 178, 179, 180, 181, 182, 183, 184, 185, 186, 187, 188, 189, 190, 191, 192, 193, 194, 195, 196] (by decide +kernel) (by decide +kernel)) (goodIn_sub (fun _ h => List.mem_cons_of_mem _ (List.mem_append_left _ (List.mem_append_left _ (List.mem_append_right _ h)))) (by decide +kernel))) (goodIn_sub (fun _ h => List.mem_cons_of_mem _ (List.mem_append_left _ (List.mem_append_right _ h))) (by decide +kernel))) (goodIn_sub (fun _ h => List.mem_cons_of_mem _ (List.mem_append_right _ h)) (by decide +kernel))
set_option maxRecDepth 20000 in
theorem gL_strike_X8_strike : GoodIn wsL_strike (wsV RL 87 RX8 yX8_strike wsX8_strike) := goodIn_app (goodIn_of _ (by decide +kernel)) ggL_strike_X8_strike
theorem dL_strike_0 : decode cL_strike 0 = .ok (.aload_n 0, 1) := by decide +kernel
theorem dL_strike_1 : decode cL_strike 1 = .ok (.iload_n 1, 1) := by decide +kernel
theorem dL_strike_2 : decode cL_strike 2 = .ok (.invokevirtual 87, 3) := by decide +kernel
theorem dL_strike_5 : decode cL_strike 5 = .ok (.ireturn, 1) := by decide +kernel
theorem dL_strike_6 : decode cL_strike 6 = .ok (.astore_n 2, 1) := by decide +kernel
theorem dL_strike_7 : decode cL_strike 7 = .ok (.iconst (-1), 1) := by decide +kernel
theorem dL_strike_8 : decode cL_strike 8 = .ok (.ireturn, 1) := by decide +kernel
theorem dL_strike_9 : decode cL_strike 9 = .ok (.astore_n 2, 1) := by decide +kernel
theorem dL_strike_10 : decode cL_strike 10 = .ok (.bipush (-2), 2) := by decide +kernel
theorem dL_strike_12 : decode cL_strike 12 = .ok (.ireturn, 1) := by decide +kernel
set_option maxRecDepth 20000 in
theorem ggL_at_X8_at : GoodIn wsL_at wsX8_at := goodIn_ca (goodIn_r _ [6, 7, 8, 9, 10, 11, 5, 12, 13, 14, 15, 16, 17, 18, 19, 20, 21, 22, 23, 24, 25, 26, 27, 28, 29, 30, 31, 32, 33, 34, 35, 36, 37, 38, 39, 40, 41, 42, 43, 44, 45, 46, 47, 48, 49, 50, 51, 52, 53, 54, 55, 56, 57, 58, 59, 60, 61, 62] (by decide +kernel) (by decide +kernel)) (goodIn_sub (fun _ h => List.mem_cons_of_mem _ (List.mem_append_right _ h)) (by decide +kernel))
set_option maxRecDepth 20000 in
theorem gL_at_X8_at : GoodIn wsL_at (wsV RL 90 RX8 yX8_at wsX8_at) := goodIn_app (goodIn_of _ (by decide +kernel)) ggL_at_X8_at
theorem dL_at_0 : decode cL_at 0 = .ok (.aload_n 0, 1) := by decide +kernel
theorem dL_at_1 : decode cL_at 1 = .ok (.iload_n 1, 1) := by decide +kernel
theorem dL_at_2 : decode cL_at 2 = .ok (.invokevirtual 90, 3) := by decide +kernel
theorem dL_at_5 : decode cL_at 5 = .ok (.ireturn, 1) := by decide +kernel
theorem dL_at_6 : decode cL_at 6 = .ok (.astore_n 2, 1) := by decide +kernel
theorem dL_at_7 : decode cL_at 7 = .ok (.iconst (-1), 1) := by decide +kernel
theorem dL_at_8 : decode cL_at 8 = .ok (.ireturn, 1) := by decide +kernel
set_option maxRecDepth 20000 in
theorem ggL_coins_X8_coins : GoodIn wsL_coins wsX8_coins := goodIn_ca (goodIn_r _ [6, 7, 8, 9, 10, 5, 11, 12, 13, 14, 15, 16, 17, 18, 19, 20, 21, 22, 23, 24, 25, 26, 27, 28, 29, 30, 31, 32, 33, 34, 35, 36, 37, 38, 39, 40, 41, 42, 43, 44, 45, 46, 47, 48, 49, 50, 51, 52, 53, 54, 55] (by decide +kernel) (by decide +kernel)) (goodIn_sub (fun _ h => List.mem_cons_of_mem _ (List.mem_append_right _ h)) (by decide +kernel))
set_option maxRecDepth 20000 in
theorem gL_coins_X8_coins : GoodIn wsL_coins (wsV RL 93 RX8 yX8_coins wsX8_coins) := goodIn_app (goodIn_of _ (by decide +kernel)) ggL_coins_X8_coins
theorem dL_coins_0 : decode cL_coins 0 = .ok (.aload_n 0, 1) := by decide +kernel
theorem dL_coins_1 : decode cL_coins 1 = .ok (.iload_n 1, 1) := by decide +kernel
theorem dL_coins_2 : decode cL_coins 2 = .ok (.invokevirtual 93, 3) := by decide +kernel
theorem dL_coins_5 : decode cL_coins 5 = .ok (.ireturn, 1) := by decide +kernel
theorem dL_coins_6 : decode cL_coins 6 = .ok (.astore_n 2, 1) := by decide +kernel
theorem dL_coins_7 : decode cL_coins 7 = .ok (.iconst (-1), 1) := by decide +kernel
theorem dL_coins_8 : decode cL_coins 8 = .ok (.ireturn, 1) := by decide +kernel
set_option maxRecDepth 20000 in
theorem ggL_hasMap_X8_hasMap : GoodIn wsL_hasMap wsX8_hasMap := goodIn_ca (goodIn_r _ [6, 7, 8, 9, 10, 5, 11, 12, 13, 14, 15, 16, 17, 18, 19, 20, 21, 22, 23, 24, 25, 26, 27, 28, 29, 30, 31, 32, 33, 34, 35, 36, 37, 38, 39, 40, 41, 42, 43, 44, 45, 46, 47, 48, 49, 50, 51, 52, 53, 54, 55, 56, 57, 58, 59, 60, 61, 62, 63, 64] (by decide +kernel) (by decide +kernel)) (goodIn_sub (fun _ h => List.mem_cons_of_mem _ (List.mem_append_right _ h)) (by decide +kernel))
set_option maxRecDepth 20000 in
theorem gL_hasMap_X8_hasMap : GoodIn wsL_hasMap (wsV RL 96 RX8 yX8_hasMap wsX8_hasMap) := goodIn_app (goodIn_of _ (by decide +kernel)) ggL_hasMap_X8_hasMap
theorem dL_hasMap_0 : decode cL_hasMap 0 = .ok (.aload_n 0, 1) := by decide +kernel
theorem dL_hasMap_1 : decode cL_hasMap 1 = .ok (.iload_n 1, 1) := by decide +kernel
theorem dL_hasMap_2 : decode cL_hasMap 2 = .ok (.invokevirtual 96, 3) := by decide +kernel
theorem dL_hasMap_5 : decode cL_hasMap 5 = .ok (.ifCond .eq 7, 3) := by decide +kernel
theorem dL_hasMap_8 : decode cL_hasMap 8 = .ok (.iconst 1, 1) := by decide +kernel
theorem dL_hasMap_9 : decode cL_hasMap 9 = .ok (.goto 4, 3) := by decide +kernel
theorem dL_hasMap_12 : decode cL_hasMap 12 = .ok (.iconst 0, 1) := by decide +kernel
theorem dL_hasMap_13 : decode cL_hasMap 13 = .ok (.ireturn, 1) := by decide +kernel
theorem dL_hasMap_14 : decode cL_hasMap 14 = .ok (.astore_n 2, 1) := by decide +kernel
theorem dL_hasMap_15 : decode cL_hasMap 15 = .ok (.iconst (-1), 1) := by decide +kernel
theorem dL_hasMap_16 : decode cL_hasMap 16 = .ok (.ireturn, 1) := by decide +kernel
set_option maxRecDepth 20000 in
theorem ggL_isThere_X8_isThere : GoodIn wsL_isThere wsX8_isThere := goodIn_ca (goodIn_r _ [6, 7, 8, 9, 10, 5, 11, 12, 13, 14, 15, 16, 17, 18, 19, 20, 21, 22, 23, 24, 25, 26, 27, 28, 29, 30, 31, 32, 33, 34, 35, 36, 37, 38, 39, 40, 41, 42, 43, 44, 45, 46, 47, 48, 49, 50, 51, 52, 53, 54, 55, 56] (by decide +kernel) (by decide +kernel)) (goodIn_sub (fun _ h => List.mem_cons_of_mem _ (List.mem_append_right _ h)) (by decide +kernel))
set_option maxRecDepth 20000 in
theorem gL_isThere_X8_isThere : GoodIn wsL_isThere (wsV RL 100 RX8 yX8_isThere wsX8_isThere) := goodIn_app (goodIn_of _ (by decide +kernel)) ggL_isThere_X8_isThere
theorem dL_isThere_0 : decode cL_isThere 0 = .ok (.aload_n 0, 1) := by decide +kernel
theorem dL_isThere_1 : decode cL_isThere 1 = .ok (.iload_n 1, 1) := by decide +kernel
theorem dL_isThere_2 : decode cL_isThere 2 = .ok (.invokevirtual 100, 3) := by decide +kernel
theorem dL_isThere_5 : decode cL_isThere 5 = .ok (.ifCond .eq 7, 3) := by decide +kernel
theorem dL_isThere_8 : decode cL_isThere 8 = .ok (.iconst 1, 1) := by decide +kernel
theorem dL_isThere_9 : decode cL_isThere 9 = .ok (.goto 4, 3) := by decide +kernel
theorem dL_isThere_12 : decode cL_isThere 12 = .ok (.iconst 0, 1) := by decide +kernel
theorem dL_isThere_13 : decode cL_isThere 13 = .ok (.ireturn, 1) := by decide +kernel
theorem dL_isThere_14 : decode cL_isThere 14 = .ok (.astore_n 2, 1) := by decide +kernel
theorem dL_isThere_15 : decode cL_isThere 15 = .ok (.iconst (-1), 1) := by decide +kernel
theorem dL_isThere_16 : decode cL_isThere 16 = .ok (.ireturn, 1) := by decide +kernel
set_option maxRecDepth 20000 in
theorem ggL_isStruck_X8_isStruck : GoodIn wsL_isStruck wsX8_isStruck := goodIn_ca (goodIn_r _ [6, 7, 8, 9, 10, 5, 11, 12, 13, 14, 15, 16, 17, 18, 19, 20, 21, 22, 23, 24, 25, 26, 27, 28, 29, 30, 31, 32, 33, 34, 35, 36, 37, 38, 39, 40, 41, 42, 43, 44, 45, 46, 47, 48, 49, 50, 51, 52, 53, 54, 55, 56, 57] (by decide +kernel) (by decide +kernel)) (goodIn_sub (fun _ h => List.mem_cons_of_mem _ (List.mem_append_right _ h)) (by decide +kernel))
set_option maxRecDepth 20000 in
theorem gL_isStruck_X8_isStruck : GoodIn wsL_isStruck (wsV RL 103 RX8 yX8_isStruck wsX8_isStruck) := goodIn_app (goodIn_of _ (by decide +kernel)) ggL_isStruck_X8_isStruck
theorem dL_isStruck_0 : decode cL_isStruck 0 = .ok (.aload_n 0, 1) := by decide +kernel
theorem dL_isStruck_1 : decode cL_isStruck 1 = .ok (.iload_n 1, 1) := by decide +kernel
theorem dL_isStruck_2 : decode cL_isStruck 2 = .ok (.invokevirtual 103, 3) := by decide +kernel
theorem dL_isStruck_5 : decode cL_isStruck 5 = .ok (.ifCond .eq 7, 3) := by decide +kernel
theorem dL_isStruck_8 : decode cL_isStruck 8 = .ok (.iconst 1, 1) := by decide +kernel
theorem dL_isStruck_9 : decode cL_isStruck 9 = .ok (.goto 4, 3) := by decide +kernel
theorem dL_isStruck_12 : decode cL_isStruck 12 = .ok (.iconst 0, 1) := by decide +kernel
theorem dL_isStruck_13 : decode cL_isStruck 13 = .ok (.ireturn, 1) := by decide +kernel
theorem dL_isStruck_14 : decode cL_isStruck 14 = .ok (.astore_n 2, 1) := by decide +kernel
theorem dL_isStruck_15 : decode cL_isStruck 15 = .ok (.iconst (-1), 1) := by decide +kernel
theorem dL_isStruck_16 : decode cL_isStruck 16 = .ok (.ireturn, 1) := by decide +kernel
set_option maxRecDepth 20000 in
theorem ggL_cause_X8_cause : GoodIn wsL_cause wsX8_cause := goodIn_ca (goodIn_r _ [6, 7, 8, 9, 10, 11, 12, 13, 14, 15, 16, 17, 18, 19, 20, 21, 22, 23, 24, 25, 26, 27, 28, 29, 30, 31, 32, 33, 34, 35, 36, 37, 38, 39, 40, 41, 42, 43, 44, 45, 46, 47, 48, 49, 50, 51, 52, 53, 54, 55, 56, 57, 58, 59, 60, 61, 62, 63, 64, 65, 66, 67] (by decide +kernel) (by decide +kernel)) (goodIn_sub (fun _ h => List.mem_cons_of_mem _ (List.mem_append_right _ h)) (by decide +kernel))
set_option maxRecDepth 20000 in
theorem gL_cause_X8_cause : GoodIn wsL_cause (wsV RL 106 RX8 yX8_cause wsX8_cause) := goodIn_app (goodIn_of _ (by decide +kernel)) ggL_cause_X8_cause
theorem dL_cause_0 : decode cL_cause 0 = .ok (.aload_n 0, 1) := by decide +kernel
theorem dL_cause_1 : decode cL_cause 1 = .ok (.iload_n 1, 1) := by decide +kernel
theorem dL_cause_2 : decode cL_cause 2 = .ok (.invokevirtual 106, 3) := by decide +kernel
theorem dL_cause_5 : decode cL_cause 5 = .ok (.ireturn, 1) := by decide +kernel
theorem dL_cause_6 : decode cL_cause 6 = .ok (.astore_n 2, 1) := by decide +kernel
theorem dL_cause_7 : decode cL_cause 7 = .ok (.iconst (-1), 1) := by decide +kernel
theorem dL_cause_8 : decode cL_cause 8 = .ok (.ireturn, 1) := by decide +kernel
set_option maxRecDepth 20000 in
theorem ggL_struckShare_X8_struckShare : GoodIn wsL_struckShare wsX8_struckShare := goodIn_ca (goodIn_r _ [7, 8, 9, 10, 11, 12, 13, 14, 15, 16, 17, 18, 19, 20, 21, 22, 23, 24, 25, 26, 27, 28, 29, 30, 31, 32, 33, 34, 35, 36, 37, 38, 39, 40, 41, 42, 43, 44, 45, 46, 47, 48, 49, 50, 51, 52, 53, 54, 55, 56, 57, 58] (by decide +kernel) (by decide +kernel)) (goodIn_sub (fun _ h => List.mem_cons_of_mem _ (List.mem_append_right _ h)) (by decide +kernel))
set_option maxRecDepth 20000 in
theorem gL_struckShare_X8_struckShare : GoodIn wsL_struckShare (wsV RL 110 RX8 yX8_struckShare wsX8_struckShare) := goodIn_app (goodIn_of _ (by decide +kernel)) ggL_struckShare_X8_struckShare
theorem dL_struckShare_0 : decode cL_struckShare 0 = .ok (.aload_n 0, 1) := by decide +kernel
theorem dL_struckShare_1 : decode cL_struckShare 1 = .ok (.invokevirtual 110, 3) := by decide +kernel
theorem dL_struckShare_4 : decode cL_struckShare 4 = .ok (.freturn, 1) := by decide +kernel
theorem dL_struckShare_5 : decode cL_struckShare 5 = .ok (.astore_n 1, 1) := by decide +kernel
theorem dL_struckShare_6 : decode cL_struckShare 6 = .ok (.ldc 80, 2) := by decide +kernel
theorem dL_struckShare_8 : decode cL_struckShare 8 = .ok (.freturn, 1) := by decide +kernel
set_option maxRecDepth 20000 in
theorem ggL_acts_X9_next : GoodIn wsL_acts wsX9_next := goodIn_ca (goodIn_r _ [5, 6, 7, 8, 9, 10, 11, 697] (by decide +kernel) (by decide +kernel)) (goodIn_sub (fun _ h => List.mem_cons_of_mem _ (List.mem_append_left _ (List.mem_append_left _ (List.mem_append_left _ (List.mem_append_left _ (List.mem_append_left _ (List.mem_append_left _ (List.mem_append_right _ h)))))))) (by decide +kernel))
set_option maxRecDepth 20000 in
theorem gL_acts_X9_next : GoodIn wsL_acts (wsV RL 116 RX9 yX9_next wsX9_next) := goodIn_app (goodIn_of _ (by decide +kernel)) ggL_acts_X9_next
set_option maxRecDepth 20000 in
theorem ggL_acts_L_find : GoodIn wsL_acts wsL_find := goodIn_ca (goodIn_ca (goodIn_ca (goodIn_r _ [15, 16, 17, 18, 19, 20, 21, 22, 23, 24, 25, 26, 27, 28, 29, 30, 31, 32, 33, 34, 35, 36, 37, 38, 39, 40, 41, 42, 43, 44, 45, 46, 47, 48, 49, 50, 51, 52, 53, 54, 55, 56, 57, 58, 59, 60, 61, 62, 63, 64, 65, 66, 67, 68, 69, 70, 71, 72, 73, 74, 75, 76, 77, 78, 79, 80, 81, 82, 83, 84, 85, 86, 87, 88, 89, 90, 91, 92, 93, 94, 95, 96, 97, 98, 99, 100, 101, 102, 103, 104, 105, 106, 107, 108, 109, 110, 111, 112, 113, 9, 10, 11, 114, 115, 116, 117, 118, 119, 120, 121, 122, 123, 124, 125, 126, 127, 128, 129, 130, 131, 132, 133, 134, 135, 136, 137, 138, 139, 140, 141, 142, 143, 144, 145, 146, 147, 148, 149, 150, 151, 152, 153, 154, 155, 156, 157, 158, 159, 160, 161, 162, 163, 164, 165, 166, 167, 168, 169, 170, 171, 172, 173, 174, 175, 176, 177, 178, 179, 180, 181, 182, 183, 184, 185, 186, 187, 188, 189, 190, 191, 192, 193, 194, 195, 196, 197, 198, 199, 200, 201, 202, 203, 204, 205, 206, 207, 208, 209, 210, 698, 699, 700, 701, 702, 703, 704, 705, 706, 707, 708, 709, 710, 711, 712, 713, 714, 715, 716, 717, 718, 719, 720, 721, 722] (by decide +kernel) (by decide +kernel)) (goodIn_sub (fun _ h => List.mem_cons_of_mem _ (List.mem_append_left _ (List.mem_append_left _ (List.mem_append_left _ (List.mem_append_left _ (List.mem_append_left _ (List.mem_append_right _ h))))))) (by decide +kernel))) (goodIn_sub (fun _ h => List.mem_cons_of_mem _ (List.mem_append_left _ (List.mem_append_left _ (List.mem_append_left _ (List.mem_append_left _ (List.mem_append_right _ h)))))) (by decide +kernel))) (goodIn_sub (fun _ h => List.mem_cons_of_mem _ (List.mem_append_left _ (List.mem_append_left _ (List.mem_append_left _ (List.mem_append_right _ h))))) (by decide +kernel))
set_option maxRecDepth 20000 in
theorem gL_acts_L_find : GoodIn wsL_acts (va_wsS RL 121 yL_find wsL_find) := goodIn_app (goodIn_of _ (by decide +kernel)) ggL_acts_L_find
set_option maxRecDepth 20000 in
theorem ggL_acts_L_plant : GoodIn wsL_acts wsL_plant := goodIn_ca (goodIn_ca (goodIn_ca (goodIn_ca (goodIn_r _ [213, 16, 214, 215, 216, 20, 217, 218, 219, 220, 22, 23, 24, 25, 221, 222, 223, 224, 30, 31, 225, 226, 34, 35, 36, 37, 38, 39, 40, 41, 42, 43, 44, 45, 46, 47, 48, 49, 50, 51, 52, 53, 54, 55, 56, 26, 27, 28, 29, 32, 33, 57, 58, 59, 60, 61, 62, 63, 64, 65, 66, 67, 68, 69, 70, 71, 72, 73, 74, 75, 76, 77, 227, 228, 229, 230, 231, 232, 233, 138, 10, 139, 78, 79, 80, 81, 82, 83, 84, 85, 86, 87, 88, 89, 90, 91, 92, 93, 94, 95, 96, 97, 98, 99, 100, 101, 102, 103, 104, 105, 106, 107, 108, 109, 110, 111, 112, 113, 9, 11, 114, 115, 116, 117, 118, 119, 120, 121, 122, 123, 124, 125, 126, 127, 128, 129, 130, 131, 132, 133, 134, 135, 136, 137, 140, 141, 142, 143, 144, 145, 146, 147, 148, 149, 150, 151, 152, 153, 154, 155, 156, 157, 158, 159, 160, 161, 162, 163, 164, 165, 166, 167, 168, 169, 170, 171, 172, 173, 174, 175, 176, 177, 178, 179, 180, 181, 182, 183, 184, 185, 186, 187, 188, 189, 190, 191, 192, 193, 194, 195, 196, 197, 198, 199, 200, 201, 202, 203, 204, 205, 206, 207, 208, 209, 210, 723, 724, 725, 726, 727, 698, 699, 700, 701, 702, 703, 704, 705, 706, 707, 708, 709, 710, 711, 712, 713, 714, 715, 716, 717, 718, 719, 720, 721, 722] (by decide +kernel) (by decide +kernel)) (goodIn_sub (fun _ h => List.mem_cons_of_mem _ (List.mem_append_left _ (List.mem_append_left _ (List.mem_append_right _ h)))) (by decide +kernel))) (goodIn_sub (fun _ h => List.mem_cons_of_mem _ (List.mem_append_left _ (List.mem_append_left _ (List.mem_append_left _ (List.mem_append_left _ (List.mem_append_left _ (List.mem_append_right _ h))))))) (by decide +kernel))) (goodIn_sub (fun _ h => List.mem_cons_of_mem _ (List.mem_append_left _ (List.mem_append_left _ (List.mem_append_left _ (List.mem_append_left _ (List.mem_append_right _ h)))))) (by decide +kernel))) (goodIn_sub (fun _ h => List.mem_cons_of_mem _ (List.mem_append_left _ (List.mem_append_left _ (List.mem_append_left _ (List.mem_append_right _ h))))) (by decide +kernel))
set_option maxRecDepth 20000 in
theorem gL_acts_L_plant : GoodIn wsL_acts (va_wsS RL 126 yL_plant wsL_plant) := goodIn_app (goodIn_of _ (by decide +kernel)) ggL_acts_L_plant
set_option maxRecDepth 20000 in
theorem ggL_acts_L_word : GoodIn wsL_acts wsL_word := goodIn_ca (goodIn_ca (goodIn_ca (goodIn_r _ [236, 237, 238, 239, 240, 20, 241, 66, 67, 242, 243, 57, 58, 59, 60, 61, 244, 245, 246, 247, 248, 249, 250, 251, 252, 253, 254, 255, 705, 706, 707, 708, 709, 710, 711, 712, 713, 728, 729, 730] (by decide +kernel) (by decide +kernel)) (goodIn_sub (fun _ h => List.mem_cons_of_mem _ (List.mem_append_left _ (List.mem_append_left _ (List.mem_append_left _ (List.mem_append_right _ h))))) (by decide +kernel))) (goodIn_sub (fun _ h => List.mem_cons_of_mem _ (List.mem_append_left _ (List.mem_append_left _ (List.mem_append_left _ (List.mem_append_left _ (List.mem_append_right _ h)))))) (by decide +kernel))) (goodIn_sub (fun _ h => List.mem_cons_of_mem _ (List.mem_append_left _ (List.mem_append_right _ h))) (by decide +kernel))
set_option maxRecDepth 20000 in
theorem gL_acts_L_word : GoodIn wsL_acts (va_wsS RL 129 yL_word wsL_word) := goodIn_app (goodIn_of _ (by decide +kernel)) ggL_acts_L_word
set_option maxRecDepth 20000 in
theorem ggL_acts_X8_wipe : GoodIn wsL_acts wsX8_wipe := goodIn_r _ [259, 242, 243, 260, 261, 262, 247, 263, 249, 705, 706, 707, 708, 709, 710, 711, 712, 713, 728, 729, 730] (by decide +kernel) (by decide +kernel)
set_option maxRecDepth 20000 in
theorem gL_acts_X8_wipe : GoodIn wsL_acts (wsV RL 132 RX8 yX8_wipe wsX8_wipe) := goodIn_app (goodIn_of _ (by decide +kernel)) ggL_acts_X8_wipe
set_option maxRecDepth 20000 in
theorem ggL_acts_L_island : GoodIn wsL_acts wsL_island := goodIn_ca (goodIn_ca (goodIn_r _ [266, 237, 267, 268, 269, 20, 270, 66, 67, 32, 271, 272, 273, 274, 57, 58, 59, 60, 61, 34, 35, 36, 37, 38, 39, 275, 276, 277, 278, 82, 83, 279, 280, 281, 282, 283, 94, 95, 96, 97, 98, 99, 56, 100, 101, 102, 103, 104, 105, 106, 107, 108, 109, 110, 111, 112, 113, 9, 10, 11, 114, 115, 116, 117, 118, 119, 120, 121, 122, 123, 124, 125, 126, 127, 128, 129, 130, 131, 132, 133, 134, 135, 136, 137, 138, 139, 140, 141, 142, 143, 705, 706, 707, 708, 709, 710, 711, 712, 713, 731, 732, 733, 734, 735, 736, 714, 715, 716] (by decide +kernel) (by decide +kernel)) (goodIn_sub (fun _ h => List.mem_cons_of_mem _ (List.mem_append_left _ (List.mem_append_left _ (List.mem_append_left _ (List.mem_append_right _ h))))) (by decide +kernel))) (goodIn_sub (fun _ h => List.mem_cons_of_mem _ (List.mem_append_left _ (List.mem_append_left _ (List.mem_append_left _ (List.mem_append_left _ (List.mem_append_right _ h)))))) (by decide +kernel))
set_option maxRecDepth 20000 in
theorem gL_acts_L_island : GoodIn wsL_acts (va_wsS RL 135 yL_island wsL_island) := goodIn_app (goodIn_of _ (by decide +kernel)) ggL_acts_L_island
set_option maxRecDepth 20000 in
theorem ggL_acts_L_sail : GoodIn wsL_acts wsL_sail := goodIn_ca (goodIn_ca (goodIn_ca (goodIn_ca (goodIn_ca (goodIn_r _ [286, 16, 287, 288, 289, 20, 290, 291, 292, 66, 67, 293, 220, 242, 274, 221, 222, 223, 224, 30, 31, 225, 226, 34, 35, 36, 37, 38, 39, 40, 41, 42, 43, 44, 45, 46, 47, 48, 49, 50, 51, 52, 53, 54, 55, 56, 294, 295, 296, 297, 218, 219, 244, 245, 246, 247, 248, 249, 298, 299, 300, 301, 32, 33, 302, 303, 304, 305, 306, 307, 308, 309, 310, 243, 311, 312, 313, 314, 254, 315, 316, 317, 318, 148, 319, 320, 321, 192, 322, 194, 195, 323, 324, 196, 197, 325, 326, 327, 328, 329, 330, 331, 332, 333, 334, 335, 336, 337, 338, 339, 126, 340, 341, 342, 343, 344, 345, 346, 347, 348, 349, 350, 351, 352, 353, 354, 355, 356, 357, 138, 10, 139, 358, 141, 142, 143, 359, 360, 361, 362, 255, 363, 364, 365, 366, 367, 368, 369, 370, 371, 372, 373, 374, 375, 376, 377, 273, 378, 379, 279, 380, 381, 382, 383, 280, 281, 384, 385, 386, 387, 388, 389, 390, 391, 392, 393, 394, 395, 396, 397, 398, 399, 400, 401, 402, 403, 404, 405, 406, 407, 408, 409, 410, 411, 412, 413, 414, 415, 416, 417, 418, 116, 117, 118, 119, 9, 11, 120, 121, 122, 123, 419, 420, 421, 422, 423, 424, 425, 426, 427, 428, 137, 140, 429, 430, 431, 432, 433, 434, 435, 436, 437, 438, 439, 440, 441, 442, 443, 444, 445, 446, 447, 448, 449, 450, 451, 452, 453, 454, 455, 456, 457, 458, 459, 460, 461, 462, 463, 464, 465, 466, 467, 468, 469, 470, 471, 472, 473, 474, 475, 476, 477, 478, 479, 480, 481, 482, 483, 484, 485, 486, 487, 488, 489, 490, 491, 492, 493, 494, 495, 496, 497, 498, 499, 500, 501, 502, 503, 504, 505, 506, 507, 508, 509, 510, 511, 512, 513, 514, 515, 516, 517, 518, 519, 520, 230, 521, 522, 523, 524, 525, 526, 228, 229, 231, 232, 233, 527, 528, 529, 530, 531, 261, 262, 263, 532, 533, 534, 251, 252, 253, 260, 723, 724, 725, 726, 727, 705, 706, 707, 708, 709, 710, 711, 712, 713, 731, 732, 733, 734, 735, 736, 714, 715, 716, 728, 729, 730, 722, 698, 699, 700, 701, 702, 703, 704, 737, 738, 739, 740, 741, 742, 743, 744, 745, 746, 747, 748, 749, 750, 751, 752, 753, 754] (by decide +kernel) (by decide +kernel)) (goodIn_sub (fun _ h => List.mem_cons_of_mem _ (List.mem_append_right _ h)) (by decide +kernel))) (goodIn_sub (fun _ h => List.mem_cons_of_mem _ (List.mem_append_left _ (List.mem_append_left _ (List.mem_append_left _ (List.mem_append_right _ h))))) (by decide +kernel))) (goodIn_sub (fun _ h => List.mem_cons_of_mem _ (List.mem_append_left _ (List.mem_append_left _ (List.mem_append_left _ (List.mem_append_left _ (List.mem_append_left _ (List.mem_append_right _ h))))))) (by decide +kernel))) (goodIn_sub (fun _ h => List.mem_cons_of_mem _ (List.mem_append_left _ (List.mem_append_left _ (List.mem_append_right _ h)))) (by decide +kernel))) (goodIn_sub (fun _ h => List.mem_cons_of_mem _ (List.mem_append_left _ (List.mem_append_right _ h))) (by decide +kernel))
set_option maxRecDepth 20000 in
theorem gL_acts_L_sail : GoodIn wsL_acts (va_wsS RL 137 yL_sail wsL_sail) := goodIn_app (goodIn_of _ (by decide +kernel)) ggL_acts_L_sail
set_option maxRecDepth 20000 in
theorem ggL_acts_L_dig : GoodIn wsL_acts wsL_dig := goodIn_ca (goodIn_ca (goodIn_ca (goodIn_r _ [537, 16, 538, 539, 540, 20, 541, 218, 219, 542, 293, 543, 221, 222, 223, 224, 30, 31, 225, 226, 34, 35, 36, 37, 38, 39, 40, 41, 42, 43, 44, 45, 46, 47, 48, 49, 50, 51, 52, 53, 54, 55, 56, 244, 245, 246, 247, 248, 249, 544, 545, 546, 547, 325, 326, 327, 328, 329, 148, 330, 274, 331, 332, 333, 334, 335, 336, 337, 338, 339, 126, 340, 341, 312, 313, 314, 254, 342, 343, 344, 345, 346, 347, 348, 349, 350, 351, 352, 353, 354, 355, 356, 357, 138, 10, 139, 358, 141, 142, 143, 359, 360, 361, 362, 255, 363, 364, 365, 366, 367, 368, 369, 370, 548, 549, 550, 230, 551, 523, 552, 232, 553, 525, 723, 724, 725, 726, 727, 731, 732, 733, 734, 735, 736, 705, 706, 707, 708, 709, 710, 711, 712, 713, 714, 715, 716, 728, 729, 730, 722, 737, 738, 698, 699, 700, 701, 702, 703, 704] (by decide +kernel) (by decide +kernel)) (goodIn_sub (fun _ h => List.mem_cons_of_mem _ (List.mem_append_left _ (List.mem_append_left _ (List.mem_append_right _ h)))) (by decide +kernel))) (goodIn_sub (fun _ h => List.mem_cons_of_mem _ (List.mem_append_left _ (List.mem_append_left _ (List.mem_append_left _ (List.mem_append_left _ (List.mem_append_left _ (List.mem_append_right _ h))))))) (by decide +kernel))) (goodIn_sub (fun _ h => List.mem_cons_of_mem _ (List.mem_append_left _ (List.mem_append_right _ h))) (by decide +kernel))
set_option maxRecDepth 20000 in
theorem gL_acts_L_dig : GoodIn wsL_acts (va_wsS RL 140 yL_dig wsL_dig) := goodIn_app (goodIn_of _ (by decide +kernel)) ggL_acts_L_dig
set_option maxRecDepth 20000 in
theorem ggL_acts_L_strike : GoodIn wsL_acts wsL_strike := goodIn_ca (goodIn_ca (goodIn_ca (goodIn_r _ [556, 16, 557, 558, 559, 20, 560, 218, 219, 561, 148, 562, 563, 564, 565, 566, 30, 31, 25, 567, 34, 35, 36, 37, 38, 39, 40, 41, 42, 43, 44, 45, 46, 47, 48, 49, 50, 51, 52, 53, 54, 55, 56, 568, 569, 570, 192, 571, 194, 196, 197, 572, 573, 574, 575, 576, 577, 578, 579, 98, 99, 206, 141, 142, 143, 227, 228, 229, 230, 231, 232, 233, 138, 10, 139, 580, 581, 582, 583, 225, 226, 542, 293, 244, 245, 246, 247, 248, 249, 544, 545, 546, 547, 325, 326, 327, 328, 329, 330, 274, 331, 332, 333, 334, 335, 336, 337, 338, 339, 126, 340, 341, 312, 313, 314, 254, 342, 343, 344, 345, 346, 347, 348, 349, 350, 351, 352, 353, 354, 355, 356, 357, 358, 359, 360, 361, 362, 255, 363, 364, 365, 366, 367, 368, 369, 370, 584, 585, 586, 587, 525, 523, 553, 552, 524, 522, 526, 588, 261, 262, 263, 698, 699, 700, 701, 702, 703, 704, 705, 706, 707, 708, 709, 710, 711, 712, 713, 714, 715, 716, 722, 723, 724, 725, 726, 727, 728, 729, 730, 731, 732, 733, 734, 735, 736, 737, 738] (by decide +kernel) (by decide +kernel)) (goodIn_sub (fun _ h => List.mem_cons_of_mem _ (List.mem_append_left _ (List.mem_append_left _ (List.mem_append_right _ h)))) (by decide +kernel))) (goodIn_sub (fun _ h => List.mem_cons_of_mem _ (List.mem_append_left _ (List.mem_append_left _ (List.mem_append_left _ (List.mem_append_left _ (List.mem_append_left _ (List.mem_append_right _ h))))))) (by decide +kernel))) (goodIn_sub (fun _ h => List.mem_cons_of_mem _ (List.mem_append_left _ (List.mem_append_right _ h))) (by decide +kernel))
set_option maxRecDepth 20000 in
theorem gL_acts_L_strike : GoodIn wsL_acts (va_wsS RL 142 yL_strike wsL_strike) := goodIn_app (goodIn_of _ (by decide +kernel)) ggL_acts_L_strike
set_option maxRecDepth 20000 in
theorem ggL_acts_L_merge : GoodIn wsL_acts wsL_merge := goodIn_ca (goodIn_ca (goodIn_ca (goodIn_r _ [591, 237, 592, 593, 594, 20, 595, 60, 61, 68, 25, 596, 597, 598, 599, 72, 600, 76, 601, 602, 77, 35, 36, 37, 38, 39, 603, 41, 42, 43, 44, 45, 46, 47, 48, 49, 50, 51, 52, 53, 54, 55, 56, 604, 605, 606, 607, 388, 608, 609, 610, 611, 74, 389, 390, 391, 392, 393, 394, 395, 396, 397, 398, 399, 400, 401, 402, 403, 404, 405, 406, 407, 408, 409, 410, 411, 412, 413, 414, 415, 416, 417, 418, 116, 117, 118, 119, 9, 10, 11, 120, 121, 122, 123, 419, 420, 126, 421, 422, 423, 424, 425, 426, 427, 428, 137, 138, 139, 140, 141, 142, 143, 429, 430, 431, 432, 433, 434, 435, 436, 437, 438, 439, 440, 441, 442, 443, 444, 445, 446, 447, 448, 449, 450, 451, 452, 453, 454, 455, 456, 457, 458, 459, 460, 461, 462, 463, 464, 465, 466, 467, 468, 469, 470, 471, 472, 473, 474, 475, 476, 477, 478, 479, 480, 481, 482, 483, 484, 485, 486, 487, 488, 489, 490, 491, 492, 493, 494, 495, 496, 497, 498, 499, 500, 501, 502, 503, 504, 505, 506, 507, 508, 509, 510, 511, 512, 513, 612, 613, 614, 615, 291, 292, 616, 617, 618, 619, 218, 219, 620, 621, 622, 623, 624, 625, 626, 627, 628, 629, 630, 573, 574, 575, 576, 577, 578, 579, 98, 99, 206, 153, 154, 155, 156, 157, 158, 159, 160, 161, 162, 163, 164, 82, 83, 165, 166, 167, 168, 169, 170, 171, 112, 172, 173, 174, 175, 176, 177, 178, 179, 180, 181, 182, 95, 96, 97, 100, 101, 102, 103, 104, 105, 106, 107, 108, 109, 110, 111, 113, 114, 115, 124, 125, 127, 128, 129, 130, 131, 132, 133, 134, 135, 136, 183, 184, 185, 186, 187, 188, 705, 706, 707, 708, 709, 710, 711, 712, 713, 720, 721, 717, 718, 719, 714, 715, 716, 739, 740, 741, 742, 743, 744, 745, 746, 747, 748, 749, 750, 751, 752, 753, 754, 698, 699, 700, 701, 702, 703, 704] (by decide +kernel) (by decide +kernel)) (goodIn_sub (fun _ h => List.mem_cons_of_mem _ (List.mem_append_left _ (List.mem_append_left _ (List.mem_append_left _ (List.mem_append_left _ (List.mem_append_right _ h)))))) (by decide +kernel))) (goodIn_sub (fun _ h => List.mem_cons_of_mem _ (List.mem_append_right _ h)) (by decide +kernel))) (goodIn_sub (fun _ h => List.mem_cons_of_mem _ (List.mem_append_left _ (List.mem_append_left _ (List.mem_append_right _ h)))) (by decide +kernel))
set_option maxRecDepth 20000 in
theorem gL_acts_L_merge : GoodIn wsL_acts (va_wsS RL 144 yL_merge wsL_merge) := goodIn_app (goodIn_of _ (by decide +kernel)) ggL_acts_L_merge
set_option maxRecDepth 20000 in
theorem ggL_acts_L_storm : GoodIn wsL_acts wsL_storm := goodIn_ca (goodIn_ca (goodIn_r _ [633, 634, 635, 636, 637, 20, 638, 68, 612, 613, 614, 615, 291, 292, 597, 598, 599, 72, 600, 76, 601, 602, 77, 35, 36, 37, 38, 39, 603, 41, 42, 43, 44, 45, 46, 47, 48, 49, 50, 51, 52, 53, 54, 55, 56, 616, 617, 618, 619, 218, 219, 608, 609, 610, 611, 74, 639, 640, 641, 642, 75, 624, 625, 626, 627, 628, 629, 630, 573, 574, 575, 576, 577, 578, 579, 98, 99, 206, 141, 142, 143, 643, 644, 645, 646, 647, 148, 567, 34, 40, 568, 569, 570, 192, 571, 194, 196, 197, 572, 648, 649, 650, 651, 25, 652, 653, 654, 24, 655, 656, 657, 705, 706, 707, 708, 709, 710, 711, 712, 713, 717, 718, 719, 720, 721, 714, 715, 716, 698, 699, 700, 701, 702, 703, 704, 722] (by decide +kernel) (by decide +kernel)) (goodIn_sub (fun _ h => List.mem_cons_of_mem _ (List.mem_append_right _ h)) (by decide +kernel))) (goodIn_sub (fun _ h => List.mem_cons_of_mem _ (List.mem_append_left _ (List.mem_append_left _ (List.mem_append_right _ h)))) (by decide +kernel))
set_option maxRecDepth 20000 in
theorem gL_acts_L_storm : GoodIn wsL_acts (va_wsS RL 146 yL_storm wsL_storm) := goodIn_app (goodIn_of _ (by decide +kernel)) ggL_acts_L_storm
set_option maxRecDepth 20000 in
theorem ggL_acts_L_rebuild : GoodIn wsL_acts wsL_rebuild := goodIn_ca (goodIn_r _ [660, 661, 662, 663, 664, 20, 665, 66, 67, 68, 25, 567, 648, 649, 650, 651, 34, 35, 36, 37, 38, 39, 40, 41, 42, 43, 44, 45, 46, 47, 48, 49, 50, 51, 52, 53, 54, 55, 56, 652, 653, 654, 24, 655, 656, 657, 69, 70, 71, 72, 73, 74, 75, 76, 77, 384, 385, 386, 387, 388, 389, 390, 391, 392, 393, 394, 395, 396, 397, 398, 399, 400, 401, 402, 403, 404, 405, 406, 407, 408, 409, 410, 411, 412, 413, 414, 415, 416, 417, 418, 116, 117, 118, 119, 9, 10, 11, 120, 121, 122, 123, 419, 420, 126, 421, 422, 423, 424, 425, 426, 427, 428, 137, 138, 139, 140, 141, 142, 143, 429, 430, 431, 432, 433, 434, 435, 436, 437, 438, 439, 440, 441, 442, 443, 444, 445, 446, 447, 448, 449, 450, 451, 452, 453, 454, 455, 456, 457, 458, 459, 460, 461, 462, 463, 464, 465, 466, 467, 468, 469, 470, 471, 472, 473, 474, 475, 476, 477, 478, 479, 480, 481, 482, 483, 484, 485, 486, 487, 488, 489, 490, 491, 492, 493, 494, 495, 496, 497, 498, 499, 500, 501, 502, 503, 504, 505, 506, 507, 508, 509, 510, 511, 512, 513, 144, 145, 146, 147, 148, 149, 150, 151, 152, 153, 154, 155, 156, 157, 158, 159, 160, 161, 162, 163, 164, 82, 83, 165, 166, 167, 168, 169, 170, 171, 112, 172, 173, 174, 175, 176, 177, 178, 179, 180, 181, 182, 95, 96, 97, 98, 99, 100, 101, 102, 103, 104, 105, 106, 107, 108, 109, 110, 111, 113, 114, 115, 124, 125, 127, 128, 129, 130, 131, 132, 133, 134, 135, 136, 183, 184, 185, 186, 187, 188, 189, 190, 191, 192, 193, 194, 195, 196, 197, 198, 199, 200, 201, 86, 87, 84, 202, 203, 204, 205, 206, 207, 208, 209, 210, 705, 706, 707, 708, 709, 710, 711, 712, 713, 714, 715, 716, 698, 699, 700, 701, 702, 703, 704, 717, 718, 719, 720, 721, 739, 740, 741, 742, 743, 744, 745, 746, 747, 748, 749, 750, 751, 752, 753, 754, 722] (by decide +kernel) (by decide +kernel)) (goodIn_sub (fun _ h => List.mem_cons_of_mem _ (List.mem_append_left _ (List.mem_append_left _ (List.mem_append_left _ (List.mem_append_right _ h))))) (by decide +kernel))
set_option maxRecDepth 20000 in
theorem gL_acts_L_rebuild : GoodIn wsL_acts (va_wsS RL 148 yL_rebuild wsL_rebuild) := goodIn_app (goodIn_of _ (by decide +kernel)) ggL_acts_L_rebuild
set_option maxRecDepth 20000 in
theorem ggL_acts_L_ship : GoodIn wsL_acts wsL_ship := goodIn_ca (goodIn_r _ [668, 661, 669, 670, 671, 20, 672, 66, 67, 225, 32, 673, 674, 230, 33, 34, 35, 36, 37, 38, 39, 675, 676, 677, 678, 40, 41, 42, 43, 44, 45, 46, 47, 48, 49, 50, 51, 52, 53, 54, 55, 56, 679, 680, 681, 682, 82, 83, 683, 684, 247, 522, 523, 524, 232, 685, 686, 687, 688, 689, 254, 255, 94, 95, 96, 97, 98, 99, 100, 101, 102, 103, 104, 105, 106, 107, 108, 109, 110, 111, 112, 113, 9, 10, 11, 114, 115, 116, 117, 118, 119, 120, 121, 122, 123, 124, 125, 126, 127, 128, 129, 130, 131, 132, 133, 134, 135, 136, 137, 138, 139, 140, 141, 142, 143, 705, 706, 707, 708, 709, 710, 711, 712, 713, 723, 724, 725, 726, 727, 714, 715, 716, 728, 729, 730] (by decide +kernel) (by decide +kernel)) (goodIn_sub (fun _ h => List.mem_cons_of_mem _ (List.mem_append_left _ (List.mem_append_left _ (List.mem_append_left _ (List.mem_append_right _ h))))) (by decide +kernel))
set_option maxRecDepth 20000 in
theorem gL_acts_L_ship : GoodIn wsL_acts (va_wsS RL 151 yL_ship wsL_ship) := goodIn_app (goodIn_of _ (by decide +kernel)) ggL_acts_L_ship
set_option maxRecDepth 20000 in
theorem ggL_acts_L_hit : GoodIn wsL_acts wsL_hit := goodIn_ca (goodIn_ca (goodIn_ca (goodIn_ca (goodIn_r _ [692, 16, 693, 694, 695, 20, 696, 291, 292, 293, 274, 221, 222, 223, 224, 30, 31, 225, 226, 34, 35, 36, 37, 38, 39, 40, 41, 42, 43, 44, 45, 46, 47, 48, 49, 50, 51, 52, 53, 54, 55, 56, 294, 295, 296, 297, 218, 219, 242, 244, 245, 246, 247, 248, 249, 298, 299, 300, 301, 32, 33, 302, 303, 304, 305, 306, 307, 308, 309, 310, 243, 311, 312, 313, 314, 254, 315, 316, 317, 318, 148, 319, 320, 321, 192, 322, 194, 195, 323, 324, 196, 197, 325, 326, 327, 328, 329, 330, 331, 332, 333, 334, 335, 336, 337, 338, 339, 126, 340, 341, 342, 343, 344, 345, 346, 347, 348, 349, 350, 351, 352, 353, 354, 355, 356, 357, 138, 10, 139, 358, 141, 142, 143, 359, 360, 361, 362, 255, 363, 364, 365, 366, 367, 368, 369, 370, 371, 372, 373, 374, 375, 376, 377, 273, 378, 379, 279, 380, 381, 382, 383, 280, 281, 723, 724, 725, 726, 727, 731, 732, 733, 734, 735, 736, 705, 706, 707, 708, 709, 710, 711, 712, 713, 714, 715, 716, 728, 729, 730, 722, 698, 699, 700, 701, 702, 703, 704, 737, 738] (by decide +kernel) (by decide +kernel)) (goodIn_sub (fun _ h => List.mem_cons_of_mem _ (List.mem_append_right _ h)) (by decide +kernel))) (goodIn_sub (fun _ h => List.mem_cons_of_mem _ (List.mem_append_left _ (List.mem_append_left _ (List.mem_append_left _ (List.mem_append_left _ (List.mem_append_left _ (List.mem_append_right _ h))))))) (by decide +kernel))) (goodIn_sub (fun _ h => List.mem_cons_of_mem _ (List.mem_append_left _ (List.mem_append_left _ (List.mem_append_right _ h)))) (by decide +kernel))) (goodIn_sub (fun _ h => List.mem_cons_of_mem _ (List.mem_append_left _ (List.mem_append_right _ h))) (by decide +kernel))
set_option maxRecDepth 20000 in
theorem gL_acts_L_hit : GoodIn wsL_acts (va_wsS RL 153 yL_hit wsL_hit) := goodIn_app (goodIn_of _ (by decide +kernel)) ggL_acts_L_hit
theorem dL_acts_0 : decode cL_acts 0 = .ok (.aload_n 2, 1) := by decide +kernel
theorem dL_acts_1 : decode cL_acts 1 = .ok (.bipush 40, 2) := by decide +kernel
theorem dL_acts_3 : decode cL_acts 3 = .ok (.invokevirtual 116, 3) := by decide +kernel
theorem dL_acts_6 : decode cL_acts 6 = .ok (.ifCond .ne 7, 3) := by decide +kernel
theorem dL_acts_9 : decode cL_acts 9 = .ok (.iconst 1, 1) := by decide +kernel
theorem dL_acts_10 : decode cL_acts 10 = .ok (.goto 4, 3) := by decide +kernel
theorem dL_acts_13 : decode cL_acts 13 = .ok (.iconst 0, 1) := by decide +kernel
theorem dL_acts_14 : decode cL_acts 14 = .ok (.istore_n 3, 1) := by decide +kernel
theorem dL_acts_15 : decode cL_acts 15 = .ok (.aload_n 2, 1) := by decide +kernel
theorem dL_acts_16 : decode cL_acts 16 = .ok (.iload_n 3, 1) := by decide +kernel
theorem dL_acts_17 : decode cL_acts 17 = .ok (.ifCond .eq 8, 3) := by decide +kernel
theorem dL_acts_20 : decode cL_acts 20 = .ok (.bipush 13, 2) := by decide +kernel
theorem dL_acts_22 : decode cL_acts 22 = .ok (.goto 4, 3) := by decide +kernel
theorem dL_acts_25 : decode cL_acts 25 = .ok (.iconst 3, 1) := by decide +kernel
theorem dL_acts_26 : decode cL_acts 26 = .ok (.invokevirtual 116, 3) := by decide +kernel
theorem dL_acts_29 : decode cL_acts 29 = .ok (.istore 4, 2) := by decide +kernel
theorem dL_acts_31 : decode cL_acts 31 = .ok (.aload_n 2, 1) := by decide +kernel
theorem dL_acts_32 : decode cL_acts 32 = .ok (.iload_n 3, 1) := by decide +kernel
theorem dL_acts_33 : decode cL_acts 33 = .ok (.ifCond .eq 8, 3) := by decide +kernel
theorem dL_acts_36 : decode cL_acts 36 = .ok (.bipush 6, 2) := by decide +kernel
theorem dL_acts_38 : decode cL_acts 38 = .ok (.goto 4, 3) := by decide +kernel
theorem dL_acts_41 : decode cL_acts 41 = .ok (.iconst 2, 1) := by decide +kernel
theorem dL_acts_42 : decode cL_acts 42 = .ok (.invokevirtual 116, 3) := by decide +kernel
theorem dL_acts_45 : decode cL_acts 45 = .ok (.istore 5, 2) := by decide +kernel
theorem dL_acts_47 : decode cL_acts 47 = .ok (.iload_n 3, 1) := by decide +kernel
theorem dL_acts_48 : decode cL_acts 48 = .ok (.ifCond .eq 8, 3) := by decide +kernel
theorem dL_acts_51 : decode cL_acts 51 = .ok (.bipush 31, 2) := by decide +kernel
theorem dL_acts_53 : decode cL_acts 53 = .ok (.goto 8, 3) := by decide +kernel
theorem dL_acts_56 : decode cL_acts 56 = .ok (.aload_n 2, 1) := by decide +kernel
theorem dL_acts_57 : decode cL_acts 57 = .ok (.iconst 4, 1) := by decide +kernel
theorem dL_acts_58 : decode cL_acts 58 = .ok (.invokevirtual 116, 3) := by decide +kernel
theorem dL_acts_61 : decode cL_acts 61 = .ok (.istore 6, 2) := by decide +kernel
theorem dL_acts_63 : decode cL_acts 63 = .ok (.iload_n 1, 1) := by decide +kernel
theorem dL_acts_64 : decode cL_acts 64 = .ok (.bipush 18, 2) := by decide +kernel
theorem dL_acts_66 : decode cL_acts 66 = .ok (.irem, 1) := by decide +kernel
theorem dL_acts_67 : decode cL_acts 67 = .ok (.tableswitch 247 0 16 #[81, 81, 81, 81, 81, 96, 113, 113, 134, 182, 182, 189, 189, 196, 217, 232, 242], 81) := by decide +kernel
