theorem dL_acts_148 : decode cL_acts 148 = .ok (.aload_n 0, 1) := by decide +kernel
theorem dL_acts_149 : decode cL_acts 149 = .ok (.iload 6, 2) := by decide +kernel
theorem dL_acts_151 : decode cL_acts 151 = .ok (.iload 4, 2) := by decide +kernel
theorem dL_acts_153 : decode cL_acts 153 = .ok (.aload_n 2, 1) := by decide +kernel
theorem dL_acts_154 : decode cL_acts 154 = .ok (.bipush 9, 2) := by decide +kernel
theorem dL_acts_156 : decode cL_acts 156 = .ok (.invokevirtual 116, 3) := by decide +kernel
theorem dL_acts_159 : decode cL_acts 159 = .ok (.invokestatic 121, 3) := by decide +kernel
theorem dL_acts_162 : decode cL_acts 162 = .ok (.ireturn, 1) := by decide +kernel
theorem dL_acts_163 : decode cL_acts 163 = .ok (.aload_n 0, 1) := by decide +kernel
theorem dL_acts_164 : decode cL_acts 164 = .ok (.iload 5, 2) := by decide +kernel
theorem dL_acts_166 : decode cL_acts 166 = .ok (.iload 6, 2) := by decide +kernel
theorem dL_acts_168 : decode cL_acts 168 = .ok (.iload 4, 2) := by decide +kernel
theorem dL_acts_170 : decode cL_acts 170 = .ok (.aload_n 2, 1) := by decide +kernel
theorem dL_acts_171 : decode cL_acts 171 = .ok (.bipush 9, 2) := by decide +kernel
theorem dL_acts_173 : decode cL_acts 173 = .ok (.invokevirtual 116, 3) := by decide +kernel
theorem dL_acts_176 : decode cL_acts 176 = .ok (.invokestatic 126, 3) := by decide +kernel
theorem dL_acts_179 : decode cL_acts 179 = .ok (.ireturn, 1) := by decide +kernel
theorem dL_acts_180 : decode cL_acts 180 = .ok (.aload_n 0, 1) := by decide +kernel
theorem dL_acts_181 : decode cL_acts 181 = .ok (.iload 6, 2) := by decide +kernel
theorem dL_acts_183 : decode cL_acts 183 = .ok (.aload_n 2, 1) := by decide +kernel
theorem dL_acts_184 : decode cL_acts 184 = .ok (.iload_n 3, 1) := by decide +kernel
theorem dL_acts_185 : decode cL_acts 185 = .ok (.ifCond .eq 8, 3) := by decide +kernel
theorem dL_acts_188 : decode cL_acts 188 = .ok (.bipush 11, 2) := by decide +kernel
theorem dL_acts_190 : decode cL_acts 190 = .ok (.goto 4, 3) := by decide +kernel
theorem dL_acts_193 : decode cL_acts 193 = .ok (.iconst 5, 1) := by decide +kernel
theorem dL_acts_194 : decode cL_acts 194 = .ok (.invokevirtual 116, 3) := by decide +kernel
theorem dL_acts_197 : decode cL_acts 197 = .ok (.invokestatic 129, 3) := by decide +kernel
theorem dL_acts_200 : decode cL_acts 200 = .ok (.ireturn, 1) := by decide +kernel
theorem dL_acts_201 : decode cL_acts 201 = .ok (.aload_n 2, 1) := by decide +kernel
theorem dL_acts_202 : decode cL_acts 202 = .ok (.iconst 2, 1) := by decide +kernel
theorem dL_acts_203 : decode cL_acts 203 = .ok (.invokevirtual 116, 3) := by decide +kernel
theorem dL_acts_206 : decode cL_acts 206 = .ok (.ifCond .ne 10, 3) := by decide +kernel
theorem dL_acts_209 : decode cL_acts 209 = .ok (.aload_n 0, 1) := by decide +kernel
theorem dL_acts_210 : decode cL_acts 210 = .ok (.invokevirtual 132, 3) := by decide +kernel
theorem dL_acts_213 : decode cL_acts 213 = .ok (.goto 35, 3) := by decide +kernel
theorem dL_acts_216 : decode cL_acts 216 = .ok (.aload_n 0, 1) := by decide +kernel
theorem dL_acts_217 : decode cL_acts 217 = .ok (.aload_n 2, 1) := by decide +kernel
theorem dL_acts_218 : decode cL_acts 218 = .ok (.bipush 100, 2) := by decide +kernel
theorem dL_acts_220 : decode cL_acts 220 = .ok (.invokevirtual 116, 3) := by decide +kernel
theorem dL_acts_223 : decode cL_acts 223 = .ok (.aload_n 2, 1) := by decide +kernel
theorem dL_acts_224 : decode cL_acts 224 = .ok (.bipush 100, 2) := by decide +kernel
theorem dL_acts_226 : decode cL_acts 226 = .ok (.invokevirtual 116, 3) := by decide +kernel
theorem dL_acts_229 : decode cL_acts 229 = .ok (.aload_n 2, 1) := by decide +kernel
theorem dL_acts_230 : decode cL_acts 230 = .ok (.iload_n 3, 1) := by decide +kernel
theorem dL_acts_231 : decode cL_acts 231 = .ok (.ifCond .eq 9, 3) := by decide +kernel
theorem dL_acts_234 : decode cL_acts 234 = .ok (.sipush 2000, 3) := by decide +kernel
theorem dL_acts_237 : decode cL_acts 237 = .ok (.goto 5, 3) := by decide +kernel
theorem dL_acts_240 : decode cL_acts 240 = .ok (.bipush 60, 2) := by decide +kernel
theorem dL_acts_242 : decode cL_acts 242 = .ok (.invokevirtual 116, 3) := by decide +kernel
theorem dL_acts_245 : decode cL_acts 245 = .ok (.invokestatic 135, 3) := by decide +kernel
theorem dL_acts_248 : decode cL_acts 248 = .ok (.ireturn, 1) := by decide +kernel
theorem dL_acts_249 : decode cL_acts 249 = .ok (.aload_n 0, 1) := by decide +kernel
theorem dL_acts_250 : decode cL_acts 250 = .ok (.iload 5, 2) := by decide +kernel
theorem dL_acts_252 : decode cL_acts 252 = .ok (.invokestatic 137, 3) := by decide +kernel
theorem dL_acts_255 : decode cL_acts 255 = .ok (.ireturn, 1) := by decide +kernel
theorem dL_acts_256 : decode cL_acts 256 = .ok (.aload_n 0, 1) := by decide +kernel
theorem dL_acts_257 : decode cL_acts 257 = .ok (.iload 5, 2) := by decide +kernel
theorem dL_acts_259 : decode cL_acts 259 = .ok (.invokestatic 140, 3) := by decide +kernel
theorem dL_acts_262 : decode cL_acts 262 = .ok (.ireturn, 1) := by decide +kernel
theorem dL_acts_263 : decode cL_acts 263 = .ok (.aload_n 0, 1) := by decide +kernel
theorem dL_acts_264 : decode cL_acts 264 = .ok (.aload_n 2, 1) := by decide +kernel
theorem dL_acts_265 : decode cL_acts 265 = .ok (.iload_n 3, 1) := by decide +kernel
theorem dL_acts_266 : decode cL_acts 266 = .ok (.ifCond .eq 9, 3) := by decide +kernel
theorem dL_acts_269 : decode cL_acts 269 = .ok (.sipush 200, 3) := by decide +kernel
theorem dL_acts_272 : decode cL_acts 272 = .ok (.goto 5, 3) := by decide +kernel
theorem dL_acts_275 : decode cL_acts 275 = .ok (.bipush 12, 2) := by decide +kernel
theorem dL_acts_277 : decode cL_acts 277 = .ok (.invokevirtual 116, 3) := by decide +kernel
theorem dL_acts_280 : decode cL_acts 280 = .ok (.invokestatic 142, 3) := by decide +kernel
theorem dL_acts_283 : decode cL_acts 283 = .ok (.ireturn, 1) := by decide +kernel
theorem dL_acts_284 : decode cL_acts 284 = .ok (.aload_n 0, 1) := by decide +kernel
theorem dL_acts_285 : decode cL_acts 285 = .ok (.aload_n 2, 1) := by decide +kernel
theorem dL_acts_286 : decode cL_acts 286 = .ok (.iconst 4, 1) := by decide +kernel
theorem dL_acts_287 : decode cL_acts 287 = .ok (.invokevirtual 116, 3) := by decide +kernel
theorem dL_acts_290 : decode cL_acts 290 = .ok (.aload_n 2, 1) := by decide +kernel
theorem dL_acts_291 : decode cL_acts 291 = .ok (.iconst 4, 1) := by decide +kernel
theorem dL_acts_292 : decode cL_acts 292 = .ok (.invokevirtual 116, 3) := by decide +kernel
theorem dL_acts_295 : decode cL_acts 295 = .ok (.invokestatic 144, 3) := by decide +kernel
theorem dL_acts_298 : decode cL_acts 298 = .ok (.ireturn, 1) := by decide +kernel
theorem dL_acts_299 : decode cL_acts 299 = .ok (.aload_n 0, 1) := by decide +kernel
theorem dL_acts_300 : decode cL_acts 300 = .ok (.aload_n 2, 1) := by decide +kernel
theorem dL_acts_301 : decode cL_acts 301 = .ok (.iconst 4, 1) := by decide +kernel
theorem dL_acts_302 : decode cL_acts 302 = .ok (.invokevirtual 116, 3) := by decide +kernel
theorem dL_acts_305 : decode cL_acts 305 = .ok (.invokestatic 146, 3) := by decide +kernel
theorem dL_acts_308 : decode cL_acts 308 = .ok (.ireturn, 1) := by decide +kernel
theorem dL_acts_309 : decode cL_acts 309 = .ok (.aload_n 0, 1) := by decide +kernel
theorem dL_acts_310 : decode cL_acts 310 = .ok (.invokestatic 148, 3) := by decide +kernel
theorem dL_acts_313 : decode cL_acts 313 = .ok (.ireturn, 1) := by decide +kernel
theorem dL_acts_314 : decode cL_acts 314 = .ok (.aload_n 2, 1) := by decide +kernel
theorem dL_acts_315 : decode cL_acts 315 = .ok (.iconst 4, 1) := by decide +kernel
theorem dL_acts_316 : decode cL_acts 316 = .ok (.invokevirtual 116, 3) := by decide +kernel
theorem dL_acts_319 : decode cL_acts 319 = .ok (.ifCond .ne 10, 3) := by decide +kernel
theorem dL_acts_322 : decode cL_acts 322 = .ok (.aload_n 0, 1) := by decide +kernel
theorem dL_acts_323 : decode cL_acts 323 = .ok (.invokestatic 151, 3) := by decide +kernel
theorem dL_acts_326 : decode cL_acts 326 = .ok (.goto 14, 3) := by decide +kernel
theorem dL_acts_329 : decode cL_acts 329 = .ok (.aload_n 0, 1) := by decide +kernel
theorem dL_acts_330 : decode cL_acts 330 = .ok (.iload 5, 2) := by decide +kernel
theorem dL_acts_332 : decode cL_acts 332 = .ok (.aload_n 2, 1) := by decide +kernel
theorem dL_acts_333 : decode cL_acts 333 = .ok (.iconst 3, 1) := by decide +kernel
theorem dL_acts_334 : decode cL_acts 334 = .ok (.invokevirtual 116, 3) := by decide +kernel
theorem dL_acts_337 : decode cL_acts 337 = .ok (.invokestatic 153, 3) := by decide +kernel
theorem dL_acts_340 : decode cL_acts 340 = .ok (.ireturn, 1) := by decide +kernel
set_option maxRecDepth 20000 in
theorem ggL_told_J4_init_da8c8 : GoodIn wsL_told wsJ4_init_da8c8 := goodIn_r _ [6, 7, 8, 9, 10, 11, 12, 13, 14, 15, 16, 17, 18, 19, 20, 21, 22, 23, 24, 25, 895, 896, 897, 898] (by decide +kernel) (by decide +kernel)
set_option maxRecDepth 20000 in
theorem gL_told_J4_init_da8c8 : GoodIn wsL_told (wsJ4_init_da8c8) := ggL_told_J4_init_da8c8
set_option maxRecDepth 20000 in
theorem ggL_told_X8_checksum : GoodIn wsL_told wsX8_checksum := goodIn_r _ [30, 31, 32, 33, 34, 35, 36, 37, 38, 39, 40, 41, 42, 43, 44, 45, 46, 47, 48, 49, 50, 51, 52, 53, 54, 55, 56, 57, 58, 59, 60, 61, 62, 899, 900, 901, 902, 903, 904, 905, 906, 907, 908, 909, 910, 911, 912, 913, 914, 915, 916, 917] (by decide +kernel) (by decide +kernel)
set_option maxRecDepth 20000 in
theorem gL_told_X8_checksum : GoodIn wsL_told (wsV RL 158 RX8 yX8_checksum wsX8_checksum) := goodIn_app (goodIn_of _ (by decide +kernel)) ggL_told_X8_checksum
set_option maxRecDepth 20000 in
theorem ggL_told_J4_append_f7089 : GoodIn wsL_told wsJ4_append_f7089 := goodIn_r _ [66, 67, 68, 69, 70, 9, 71, 72, 16, 73, 74, 75, 76, 77, 78, 79, 80, 81, 82, 83, 17, 84, 85, 86, 87, 88, 89, 90, 91, 92, 93, 94, 95, 96, 97, 98, 99, 100, 101, 102, 103, 104, 105, 106, 107, 108, 109, 110, 111, 15, 112, 113, 114, 115, 116, 117, 118, 119, 120, 121, 122, 123, 14, 124, 125, 126, 127, 128, 129, 130, 131, 132, 20, 133, 134, 135, 136, 137, 138, 139, 140, 141, 142, 143, 144, 145, 146, 147, 56, 148, 149, 150, 151, 152, 153, 154, 155, 156, 157, 158, 159, 160, 895, 896, 897, 898] (by decide +kernel) (by decide +kernel)
set_option maxRecDepth 20000 in
theorem gL_told_J4_append_f7089 : GoodIn wsL_told (wsV RL 162 RJ4 yJ4_append_f7089 wsJ4_append_f7089) := goodIn_app (goodIn_of _ (by decide +kernel)) ggL_told_J4_append_f7089
set_option maxRecDepth 20000 in
theorem ggL_told_J4_append_cf468 : GoodIn wsL_told wsJ4_append_cf468 := goodIn_r _ [164, 165, 166, 69, 167, 9, 168, 72, 16, 79, 80, 81, 82, 83, 17, 84, 85, 86, 87, 88, 89, 90, 91, 92, 93, 94, 95, 96, 97, 98, 99, 100, 101, 102, 103, 104, 105, 106, 107, 108, 109, 110, 111, 15, 112, 113, 114, 115, 116, 117, 118, 119, 120, 121, 122, 123, 14, 169, 170, 171, 172, 173, 174, 175, 176, 177, 18, 19, 20, 21, 22, 23, 24, 25, 178, 179, 180, 181, 182, 183, 184, 185, 186, 138, 139, 140, 187, 188, 143, 189, 145, 190, 191, 56, 192, 156, 157, 158, 134, 159, 160, 193, 194, 195, 196, 197, 198, 199, 200, 201, 202, 55, 57, 895, 896, 897, 898] (by decide +kernel) (by decide +kernel)
set_option maxRecDepth 20000 in
theorem gL_told_J4_append_cf468 : GoodIn wsL_told (wsV RL 166 RJ4 yJ4_append_cf468 wsJ4_append_cf468) := goodIn_app (goodIn_of _ (by decide +kernel)) ggL_told_J4_append_cf468
set_option maxRecDepth 20000 in
theorem ggL_told_X8_segments : GoodIn wsL_told wsX8_segments := goodIn_r _ [206, 207, 208, 40, 41, 42, 43, 44, 45, 899, 900, 901, 902, 903, 904, 905, 906, 907, 918, 919, 920, 915, 916, 917] (by decide +kernel) (by decide +kernel)
set_option maxRecDepth 20000 in
theorem gL_told_X8_segments : GoodIn wsL_told (wsV RL 169 RX8 yX8_segments wsX8_segments) := goodIn_app (goodIn_of _ (by decide +kernel)) ggL_told_X8_segments
set_option maxRecDepth 20000 in
theorem ggL_told_J4_append_bf812 : GoodIn wsL_told wsJ4_append_bf812 := goodIn_r _ [212, 213, 214, 69, 215, 9, 216, 72, 16, 217, 218, 219, 220, 79, 80, 81, 82, 83, 17, 84, 85, 86, 87, 88, 89, 90, 91, 92, 93, 94, 95, 96, 97, 98, 99, 100, 101, 102, 103, 104, 105, 106, 107, 108, 109, 110, 111, 15, 112, 113, 114, 115, 116, 117, 118, 119, 120, 121, 122, 123, 14, 221, 222, 223, 224, 225, 226, 227, 20, 228, 134, 135, 136, 137, 138, 139, 140, 141, 142, 143, 144, 145, 146, 147, 56, 148, 229, 230, 231, 154, 155, 156, 157, 158, 159, 160, 895, 896, 897, 898] (by decide +kernel) (by decide +kernel)
set_option maxRecDepth 20000 in
theorem gL_told_J4_append_bf812 : GoodIn wsL_told (wsV RL 172 RJ4 yJ4_append_bf812 wsJ4_append_bf812) := goodIn_app (goodIn_of _ (by decide +kernel)) ggL_told_J4_append_bf812
set_option maxRecDepth 20000 in
theorem ggL_told_X8_meanSize : GoodIn wsL_told wsX8_meanSize := goodIn_r _ [235, 207, 208, 236, 237, 238, 239, 240, 43, 241, 45, 40, 41, 42, 44, 46, 47, 48, 49, 50, 51, 52, 53, 54, 55, 56, 57, 58, 59, 60, 61, 62, 899, 900, 901, 902, 903, 904, 905, 906, 907, 918, 919, 920, 921, 922, 915, 916, 917] (by decide +kernel) (by decide +kernel)
set_option maxRecDepth 20000 in
theorem gL_told_X8_meanSize : GoodIn wsL_told (wsV RL 175 RX8 yX8_meanSize wsX8_meanSize) := goodIn_app (goodIn_of _ (by decide +kernel)) ggL_told_X8_meanSize
set_option maxRecDepth 20000 in
theorem ggL_told_J4_append_ec4c5 : GoodIn wsL_told wsJ4_append_ec4c5 := goodIn_r _ [245, 246, 247, 69, 248, 9, 249, 250, 251, 252, 253, 254, 255, 256, 257, 258, 259, 12, 13, 15, 260, 261, 262, 263, 264, 265, 266, 267, 268, 269, 270, 271, 272, 273, 274, 275, 276, 277, 278, 279, 280, 281, 282, 283, 284, 285, 286, 287, 288, 289, 290, 291, 292, 293, 294, 75, 295, 296, 297, 219, 298, 299, 300, 301, 302, 303, 304, 305, 306, 307, 308, 309, 310, 311, 312, 313, 314, 315, 316, 317, 318, 319, 320, 321, 322, 323, 324, 325, 326, 327, 328, 329, 330, 331, 332, 333, 334, 335, 336, 337, 338, 339, 340, 341, 342, 343, 344, 345, 346, 347, 348, 349, 350, 351, 352, 353, 354, 355, 356, 357, 358, 359, 360, 361, 362, 363, 364, 365, 366, 367, 368, 369, 370, 371, 372, 373, 374, 375, 376, 377, 378, 379, 3, 380, 381, 382, 383, 384, 72, 79, 80, 81, 82, 83, 16, 17, 84, 85, 86, 87, 88, 89, 90, 91, 92, 93, 94, 95, 96, 97, 98, 99, 100, 101, 102, 103, 104, 105, 106, 107, 108, 109, 110, 111, 112, 113, 114, 115, 116, 117, 118, 385, 386, 387, 388, 389, 119, 120, 121, 122, 123, 14, 169, 170, 171, 172, 173, 174, 175, 176, 177, 18, 19, 20, 21, 22, 23, 24, 25, 178, 179, 180, 181, 182, 183, 184, 185, 186, 138, 139, 140, 187, 188, 143, 189, 145, 190, 191, 56, 192, 156, 157, 158, 134, 159, 160, 390, 391, 392, 135, 136, 137, 141, 142, 144, 146, 147, 148, 393, 394, 395, 396, 397, 398, 399, 400, 162, 163, 164, 165, 166, 167, 168, 193, 194, 195, 196, 197, 198, 199, 200, 201, 202, 55, 57, 401, 402, 403, 404, 405, 406, 407, 408, 409, 410, 411, 412, 413, 414, 415, 416, 417, 418, 419, 420, 421, 422, 423, 424, 425, 426, 427, 428, 429, 430, 431, 432, 433, 434, 435, 436, 437, 438, 439, 440, 441, 442, 443, 444, 445, 446, 447, 448, 449, 450, 451, 452, 453, 454, 455, 456, 457, 458, 459, 460, 461, 462, 463, 464, 465, 466, 467, 468, 469, 470, 471, 472, 473, 474, 475, 476, 477, 478, 479, 480, 481, 482, 483, 484, 485, 486, 487, 488, 489, 490, 491, 492, 493, 494, 495, 496, 497, 498, 499, 500, 501, 502, 503, 504, 505, 506, 507, 508, 509, 510, 511, 512, 513, 514, 515, 516, 517, 518, 519, 520, 521, 522, 523, 524, 525, 526, 527, 528, 529, 530, 531, 532, 533, 534, 535, 536, 537, 538, 539, 540, 541, 542, 543, 544, 545, 546, 547, 548, 549, 550, 551, 552, 553, 554, 555, 556, 557, 558, 559, 560, 561, 923, 924, 895, 896, 897, 898, 925, 926, 927, 928] (by decide +kernel) (by decide +kernel)
set_option maxRecDepth 20000 in
theorem gL_told_J4_append_ec4c5 : GoodIn wsL_told (wsV RL 179 RJ4 yJ4_append_ec4c5 wsJ4_append_ec4c5) := goodIn_app (goodIn_of _ (by decide +kernel)) ggL_told_J4_append_ec4c5
set_option maxRecDepth 20000 in
theorem ggL_told_L_struckShare : GoodIn wsL_told wsL_struckShare := goodIn_ca (goodIn_r _ [565, 566, 567, 568, 569, 570, 29, 571, 572, 573, 32, 33, 38, 238, 239, 240, 43, 241, 45, 40, 41, 42, 44, 46, 47, 48, 49, 50, 51, 52, 53, 54, 55, 56, 57, 58, 59, 60, 61, 62, 899, 900, 901, 902, 903, 904, 905, 906, 907, 908, 909, 910, 911, 912, 913, 914, 915, 916, 917] (by decide +kernel) (by decide +kernel)) (goodIn_sub (fun _ h => List.mem_cons_of_mem _ (List.mem_append_left _ (List.mem_append_left _ (List.mem_append_left _ (List.mem_append_left _ (List.mem_append_left _ (List.mem_append_right _ h))))))) (by decide +kernel))
set_option maxRecDepth 20000 in
theorem gL_told_L_struckShare : GoodIn wsL_told (va_wsS RL 182 yL_struckShare wsL_struckShare) := goodIn_app (goodIn_of _ (by decide +kernel)) ggL_told_L_struckShare
set_option maxRecDepth 20000 in
theorem ggL_told_J4_append_9d4c8 : GoodIn wsL_told wsJ4_append_9d4c8 := goodIn_r _ [577, 578, 579, 69, 580, 9, 581, 582, 583, 584, 585, 586, 587, 588, 589, 590, 591, 12, 13, 15, 592, 593, 594, 595, 596, 597, 266, 598, 599, 600, 601, 602, 603, 604, 605, 606, 607, 608, 609, 610, 611, 612, 613, 614, 615, 616, 617, 618, 619, 620, 297, 219, 298, 299, 621, 301, 302, 303, 304, 622, 306, 307, 308, 623, 624, 625, 626, 627, 628, 629, 630, 631, 632, 633, 634, 635, 636, 637, 310, 311, 312, 313, 638, 639, 640, 641, 642, 643, 644, 645, 646, 647, 648, 649, 650, 651, 652, 653, 654, 655, 656, 657, 658, 659, 660, 661, 662, 663, 664, 359, 360, 361, 665, 363, 364, 365, 666, 367, 368, 369, 667, 668, 669, 670, 671, 378, 379, 3, 380, 381, 382, 383, 384, 72, 79, 80, 81, 82, 83, 16, 17, 84, 85, 86, 87, 88, 89, 90, 91, 92, 93, 94, 95, 96, 97, 98, 99, 100, 101, 102, 103, 104, 105, 106, 107, 108, 109, 110, 111, 112, 113, 114, 115, 116, 117, 118, 385, 386, 387, 388, 389, 119, 120, 121, 122, 123, 14, 169, 170, 171, 172, 173, 174, 175, 176, 177, 18, 19, 20, 21, 22, 23, 24, 25, 178, 179, 180, 181, 182, 183, 184, 185, 186, 138, 139, 140, 187, 188, 143, 189, 145, 190, 191, 56, 192, 156, 157, 158, 134, 159, 160, 390, 391, 392, 135, 136, 137, 141, 142, 144, 146, 147, 148, 393, 394, 395, 672, 397, 398, 399, 400, 162, 163, 164, 165, 166, 167, 168, 193, 194, 195, 196, 197, 198, 199, 200, 201, 202, 55, 57, 673, 402, 403, 404, 405, 406, 407, 408, 409, 410, 411, 412, 413, 414, 415, 416, 417, 418, 419, 420, 421, 422, 423, 424, 425, 426, 427, 428, 429, 430, 431, 432, 433, 434, 435, 436, 437, 438, 439, 440, 441, 442, 443, 444, 445, 446, 447, 448, 449, 450, 451, 452, 453, 454, 455, 456, 457, 458, 459, 460, 461, 462, 463, 464, 465, 466, 467, 468, 469, 470, 471, 472, 473, 474, 475, 476, 477, 478, 479, 480, 481, 482, 483, 484, 485, 486, 487, 488, 489, 490, 491, 492, 493, 494, 495, 496, 497, 498, 499, 500, 501, 502, 503, 504, 505, 506, 507, 508, 509, 510, 511, 512, 513, 514, 515, 516, 517, 518, 519, 520, 521, 522, 523, 524, 525, 526, 527, 528, 529, 530, 531, 532, 533, 534, 535, 536, 537, 538, 539, 540, 541, 542, 543, 544, 545, 546, 547, 548, 549, 550, 551, 552, 553, 554, 555, 556, 557, 558, 559, 560, 561, 929, 930, 895, 896, 897, 898, 925, 926, 927, 928] (by decide +kernel) (by decide +kernel)
set_option maxRecDepth 20000 in
theorem gL_told_J4_append_9d4c8 : GoodIn wsL_told (wsV RL 185 RJ4 yJ4_append_9d4c8 wsJ4_append_9d4c8) := goodIn_app (goodIn_of _ (by decide +kernel)) ggL_told_J4_append_9d4c8
set_option maxRecDepth 20000 in
theorem ggL_told_L_at : GoodIn wsL_told wsL_at := goodIn_ca (goodIn_r _ [676, 677, 678, 679, 680, 29, 681, 682, 683, 684, 685, 686, 687, 688, 689, 690, 691, 40, 41, 42, 43, 44, 45, 46, 47, 48, 49, 50, 51, 52, 53, 54, 55, 56, 57, 58, 59, 60, 61, 62, 931, 932, 933, 934, 935, 936, 937, 938, 939, 940, 941, 899, 900, 901, 902, 903, 904, 905, 906, 907, 915, 916, 917] (by decide +kernel) (by decide +kernel)) (goodIn_sub (fun _ h => List.mem_cons_of_mem _ (List.mem_append_left _ (List.mem_append_left _ (List.mem_append_left _ (List.mem_append_left _ (List.mem_append_right _ h)))))) (by decide +kernel))
set_option maxRecDepth 20000 in
theorem gL_told_L_at : GoodIn wsL_told (va_wsS RL 188 yL_at wsL_at) := goodIn_app (goodIn_of _ (by decide +kernel)) ggL_told_L_at
set_option maxRecDepth 20000 in
theorem ggL_told_L_coins : GoodIn wsL_told wsL_coins := goodIn_ca (goodIn_r _ [694, 677, 695, 696, 697, 29, 698, 699, 684, 685, 686, 687, 688, 689, 690, 691, 40, 41, 42, 43, 44, 45, 46, 47, 48, 49, 50, 51, 52, 53, 54, 55, 56, 57, 58, 59, 60, 61, 62, 931, 932, 933, 934, 935, 899, 900, 901, 902, 903, 904, 905, 906, 907, 915, 916, 917] (by decide +kernel) (by decide +kernel)) (goodIn_sub (fun _ h => List.mem_cons_of_mem _ (List.mem_append_left _ (List.mem_append_left _ (List.mem_append_left _ (List.mem_append_left _ (List.mem_append_right _ h)))))) (by decide +kernel))
set_option maxRecDepth 20000 in
theorem gL_told_L_coins : GoodIn wsL_told (va_wsS RL 190 yL_coins wsL_coins) := goodIn_app (goodIn_of _ (by decide +kernel)) ggL_told_L_coins
set_option maxRecDepth 20000 in
theorem ggL_told_L_hasMap : GoodIn wsL_told wsL_hasMap := goodIn_ca (goodIn_r _ [702, 677, 703, 704, 705, 29, 706, 707, 684, 685, 686, 687, 688, 689, 690, 691, 40, 41, 42, 43, 44, 45, 46, 47, 48, 49, 50, 51, 52, 53, 54, 55, 56, 57, 58, 59, 60, 61, 62, 708, 709, 710, 711, 712, 713, 931, 932, 933, 934, 935, 899, 900, 901, 902, 903, 904, 905, 906, 907, 915, 916, 917, 942, 943, 944] (by decide +kernel) (by decide +kernel)) (goodIn_sub (fun _ h => List.mem_cons_of_mem _ (List.mem_append_left _ (List.mem_append_left _ (List.mem_append_left _ (List.mem_append_left _ (List.mem_append_right _ h)))))) (by decide +kernel))
set_option maxRecDepth 20000 in
theorem gL_told_L_hasMap : GoodIn wsL_told (va_wsS RL 192 yL_hasMap wsL_hasMap) := goodIn_app (goodIn_of _ (by decide +kernel)) ggL_told_L_hasMap
set_option maxRecDepth 20000 in
theorem ggL_told_L_isThere : GoodIn wsL_told wsL_isThere := goodIn_ca (goodIn_r _ [716, 677, 717, 718, 719, 29, 720, 721, 722, 723, 724, 725, 688, 689, 726, 727, 40, 41, 42, 43, 44, 45, 46, 47, 48, 49, 50, 51, 52, 53, 54, 55, 56, 57, 58, 59, 60, 61, 62, 936, 937, 938, 939, 940, 941, 899, 900, 901, 902, 903, 904, 905, 906, 907, 915, 916, 917] (by decide +kernel) (by decide +kernel)) (goodIn_sub (fun _ h => List.mem_cons_of_mem _ (List.mem_append_left _ (List.mem_append_left _ (List.mem_append_left _ (List.mem_append_left _ (List.mem_append_right _ h)))))) (by decide +kernel))
set_option maxRecDepth 20000 in
theorem gL_told_L_isThere : GoodIn wsL_told (va_wsS RL 194 yL_isThere wsL_isThere) := goodIn_app (goodIn_of _ (by decide +kernel)) ggL_told_L_isThere
set_option maxRecDepth 20000 in
theorem ggL_told_L_segment : GoodIn wsL_told wsL_segment := goodIn_ca (goodIn_r _ [730, 731, 732, 733, 734, 29, 735, 736, 737, 207, 208, 236, 738, 40, 41, 42, 43, 44, 45, 46, 47, 48, 49, 50, 51, 52, 53, 54, 55, 56, 57, 58, 59, 60, 61, 62, 899, 900, 901, 902, 903, 904, 905, 906, 907, 918, 919, 920, 921, 922, 915, 916, 917] (by decide +kernel) (by decide +kernel)) (goodIn_sub (fun _ h => List.mem_cons_of_mem _ (List.mem_append_left _ (List.mem_append_left _ (List.mem_append_left _ (List.mem_append_right _ h))))) (by decide +kernel))
set_option maxRecDepth 20000 in
theorem gL_told_L_segment : GoodIn wsL_told (va_wsS RL 196 yL_segment wsL_segment) := goodIn_app (goodIn_of _ (by decide +kernel)) ggL_told_L_segment
set_option maxRecDepth 20000 in
theorem ggL_told_L_postings : GoodIn wsL_told wsL_postings := goodIn_ca (goodIn_r _ [741, 742, 743, 744, 745, 29, 746, 747, 748, 749, 750, 751, 752, 753, 754, 755, 756, 757, 758, 759, 760, 761, 41, 42, 43, 44, 45, 762, 47, 48, 49, 50, 51, 52, 53, 54, 55, 56, 57, 58, 59, 60, 61, 62, 899, 900, 901, 902, 903, 904, 905, 906, 907, 945, 908, 909, 910, 911, 912, 913, 914, 915, 916, 917] (by decide +kernel) (by decide +kernel)) (goodIn_sub (fun _ h => List.mem_cons_of_mem _ (List.mem_append_left _ (List.mem_append_left _ (List.mem_append_right _ h)))) (by decide +kernel))
set_option maxRecDepth 20000 in
theorem gL_told_L_postings : GoodIn wsL_told (va_wsS RL 198 yL_postings wsL_postings) := goodIn_app (goodIn_of _ (by decide +kernel)) ggL_told_L_postings
set_option maxRecDepth 20000 in
theorem ggL_told_L_count : GoodIn wsL_told wsL_count := goodIn_ca (goodIn_ca (goodIn_ca (goodIn_r _ [765, 677, 766, 767, 768, 29, 769, 770, 722, 723, 724, 725, 688, 689, 726, 727, 40, 41, 42, 43, 44, 45, 46, 47, 48, 49, 50, 51, 52, 53, 54, 55, 56, 57, 58, 59, 60, 61, 62, 771, 772, 773, 774, 775, 776, 708, 709, 710, 711, 712, 713, 777, 778, 779, 780, 781, 747, 782, 683, 783, 784, 785, 786, 787, 788, 789, 790, 791, 104, 792, 793, 794, 795, 796, 797, 798, 799, 800, 801, 802, 803, 804, 805, 806, 807, 808, 809, 810, 811, 812, 813, 113, 96, 114, 814, 116, 117, 118, 815, 816, 817, 818, 819, 820, 821, 822, 823, 824, 825, 826, 827, 899, 900, 901, 902, 903, 904, 905, 906, 907, 915, 916, 917, 942, 943, 944, 945, 936, 937, 938, 939, 940, 941, 946, 947, 908, 909, 910, 911, 912, 913, 914] (by decide +kernel) (by decide +kernel)) (goodIn_sub (fun _ h => List.mem_cons_of_mem _ (List.mem_append_left _ (List.mem_append_left _ (List.mem_append_left _ (List.mem_append_left _ (List.mem_append_right _ h)))))) (by decide +kernel))) (goodIn_sub (fun _ h => List.mem_cons_of_mem _ (List.mem_append_left _ (List.mem_append_right _ h))) (by decide +kernel))) (goodIn_sub (fun _ h => List.mem_cons_of_mem _ (List.mem_append_right _ h)) (by decide +kernel))
set_option maxRecDepth 20000 in
theorem gL_told_L_count : GoodIn wsL_told (va_wsS RL 200 yL_count wsL_count) := goodIn_app (goodIn_of _ (by decide +kernel)) ggL_told_L_count
set_option maxRecDepth 20000 in
theorem ggL_told_L_scoreBits : GoodIn wsL_told wsL_scoreBits := goodIn_ca (goodIn_ca (goodIn_ca (goodIn_r _ [830, 677, 831, 832, 833, 29, 834, 770, 722, 723, 724, 725, 688, 689, 726, 727, 40, 41, 42, 43, 44, 45, 46, 47, 48, 49, 50, 51, 52, 53, 54, 55, 56, 57, 58, 59, 60, 61, 62, 771, 772, 773, 774, 775, 776, 708, 709, 710, 711, 712, 713, 777, 778, 779, 780, 781, 747, 782, 683, 783, 784, 785, 786, 787, 788, 789, 790, 791, 104, 792, 793, 794, 795, 796, 797, 798, 799, 800, 801, 802, 803, 804, 805, 806, 807, 808, 809, 810, 811, 812, 813, 113, 96, 114, 814, 116, 117, 118, 815, 816, 817, 818, 819, 820, 821, 822, 823, 824, 825, 826, 827, 835, 836, 837, 838, 839, 840, 841, 842, 843, 844, 845, 846, 847, 756, 848, 758, 759, 760, 849, 761, 762, 850, 851, 852, 853, 899, 900, 901, 902, 903, 904, 905, 906, 907, 915, 916, 917, 942, 943, 944, 945, 936, 937, 938, 939, 940, 941, 946, 947, 908, 909, 910, 911, 912, 913, 914] (by decide +kernel) (by decide +kernel)) (goodIn_sub (fun _ h => List.mem_cons_of_mem _ (List.mem_append_left _ (List.mem_append_left _ (List.mem_append_left _ (List.mem_append_left _ (List.mem_append_right _ h)))))) (by decide +kernel))) (goodIn_sub (fun _ h => List.mem_cons_of_mem _ (List.mem_append_left _ (List.mem_append_right _ h))) (by decide +kernel))) (goodIn_sub (fun _ h => List.mem_cons_of_mem _ (List.mem_append_right _ h)) (by decide +kernel))
set_option maxRecDepth 20000 in
theorem gL_told_L_scoreBits : GoodIn wsL_told (va_wsS RL 202 yL_scoreBits wsL_scoreBits) := goodIn_app (goodIn_of _ (by decide +kernel)) ggL_told_L_scoreBits
set_option maxRecDepth 20000 in
theorem ggL_told_J4_toString_0e30d : GoodIn wsL_told wsJ4_toString_0e30d := goodIn_r _ [857, 858, 859, 143, 860, 861, 862, 863, 864, 865, 866, 12, 13, 446, 440, 445, 867, 868, 869, 870, 871, 9, 872, 16, 873, 471, 472, 473, 474, 3, 475, 476, 69, 477, 478, 72, 874, 120, 121, 122, 123, 14, 17, 875, 876, 104, 877, 106, 107, 108, 109, 110, 111, 878, 879, 880, 15, 112, 113, 96, 114, 115, 116, 117, 118, 881, 882, 883, 884, 2, 885, 886, 20, 887, 888, 889, 890, 184, 185, 186, 138, 139, 140, 187, 188, 189, 145, 190, 191, 56, 192, 538, 539, 540, 134, 159, 160, 22, 23, 24, 25, 891, 892, 893, 894, 925, 926, 927, 928, 895, 896, 897, 898] (by decide +kernel) (by decide +kernel)
set_option maxRecDepth 20000 in
theorem gL_told_J4_toString_0e30d : GoodIn wsL_told (wsV RL 204 RJ4 yJ4_toString_0e30d wsJ4_toString_0e30d) := goodIn_app (goodIn_of _ (by decide +kernel)) ggL_told_J4_toString_0e30d
theorem dL_told_0 : decode cL_told 0 = .ok (.new 155, 3) := by decide +kernel
theorem dL_told_3 : decode cL_told 3 = .ok (.dup, 1) := by decide +kernel
theorem dL_told_4 : decode cL_told 4 = .ok (.invokespecial 157, 3) := by decide +kernel
theorem dL_told_7 : decode cL_told 7 = .ok (.astore_n 1, 1) := by decide +kernel
theorem dL_told_8 : decode cL_told 8 = .ok (.aload_n 1, 1) := by decide +kernel
theorem dL_told_9 : decode cL_told 9 = .ok (.aload_n 0, 1) := by decide +kernel
theorem dL_told_10 : decode cL_told 10 = .ok (.invokevirtual 158, 3) := by decide +kernel
theorem dL_told_13 : decode cL_told 13 = .ok (.invokevirtual 162, 3) := by decide +kernel
theorem dL_told_16 : decode cL_told 16 = .ok (.bipush 47, 2) := by decide +kernel
theorem dL_told_18 : decode cL_told 18 = .ok (.invokevirtual 166, 3) := by decide +kernel
theorem dL_told_21 : decode cL_told 21 = .ok (.aload_n 0, 1) := by decide +kernel
theorem dL_told_22 : decode cL_told 22 = .ok (.invokevirtual 169, 3) := by decide +kernel
theorem dL_told_25 : decode cL_told 25 = .ok (.invokevirtual 172, 3) := by decide +kernel
theorem dL_told_28 : decode cL_told 28 = .ok (.bipush 47, 2) := by decide +kernel
theorem dL_told_30 : decode cL_told 30 = .ok (.invokevirtual 166, 3) := by decide +kernel
theorem dL_told_33 : decode cL_told 33 = .ok (.aload_n 0, 1) := by decide +kernel
theorem dL_told_34 : decode cL_told 34 = .ok (.invokevirtual 175, 3) := by decide +kernel
theorem dL_told_37 : decode cL_told 37 = .ok (.invokevirtual 179, 3) := by decide +kernel
theorem dL_told_40 : decode cL_told 40 = .ok (.bipush 47, 2) := by decide +kernel
theorem dL_told_42 : decode cL_told 42 = .ok (.invokevirtual 166, 3) := by decide +kernel
theorem dL_told_45 : decode cL_told 45 = .ok (.aload_n 0, 1) := by decide +kernel
theorem dL_told_46 : decode cL_told 46 = .ok (.invokestatic 182, 3) := by decide +kernel
theorem dL_told_49 : decode cL_told 49 = .ok (.invokevirtual 185, 3) := by decide +kernel
theorem dL_told_52 : decode cL_told 52 = .ok (.pop, 1) := by decide +kernel
theorem dL_told_53 : decode cL_told 53 = .ok (.iconst 0, 1) := by decide +kernel
theorem dL_told_54 : decode cL_told 54 = .ok (.istore_n 2, 1) := by decide +kernel
theorem dL_told_55 : decode cL_told 55 = .ok (.iload_n 2, 1) := by decide +kernel
theorem dL_told_56 : decode cL_told 56 = .ok (.iconst 4, 1) := by decide +kernel
theorem dL_told_57 : decode cL_told 57 = .ok (.if_icmp .ge 80, 3) := by decide +kernel
theorem dL_told_60 : decode cL_told 60 = .ok (.aload_n 1, 1) := by decide +kernel
theorem dL_told_61 : decode cL_told 61 = .ok (.bipush 59, 2) := by decide +kernel
theorem dL_told_63 : decode cL_told 63 = .ok (.invokevirtual 166, 3) := by decide +kernel
theorem dL_told_66 : decode cL_told 66 = .ok (.aload_n 0, 1) := by decide +kernel
theorem dL_told_67 : decode cL_told 67 = .ok (.iload_n 2, 1) := by decide +kernel
theorem dL_told_68 : decode cL_told 68 = .ok (.invokestatic 188, 3) := by decide +kernel
theorem dL_told_71 : decode cL_told 71 = .ok (.invokevirtual 172, 3) := by decide +kernel
theorem dL_told_74 : decode cL_told 74 = .ok (.aload_n 0, 1) := by decide +kernel
theorem dL_told_75 : decode cL_told 75 = .ok (.iload_n 2, 1) := by decide +kernel
theorem dL_told_76 : decode cL_told 76 = .ok (.invokestatic 190, 3) := by decide +kernel
theorem dL_told_79 : decode cL_told 79 = .ok (.invokevirtual 172, 3) := by decide +kernel
theorem dL_told_82 : decode cL_told 82 = .ok (.aload_n 0, 1) := by decide +kernel
theorem dL_told_83 : decode cL_told 83 = .ok (.iload_n 2, 1) := by decide +kernel
theorem dL_told_84 : decode cL_told 84 = .ok (.invokestatic 192, 3) := by decide +kernel
theorem dL_told_87 : decode cL_told 87 = .ok (.invokevirtual 172, 3) := by decide +kernel
theorem dL_told_90 : decode cL_told 90 = .ok (.aload_n 0, 1) := by decide +kernel
theorem dL_told_91 : decode cL_told 91 = .ok (.iload_n 2, 1) := by decide +kernel
theorem dL_told_92 : decode cL_told 92 = .ok (.invokestatic 194, 3) := by decide +kernel
theorem dL_told_95 : decode cL_told 95 = .ok (.invokevirtual 172, 3) := by decide +kernel
theorem dL_told_98 : decode cL_told 98 = .ok (.aload_n 0, 1) := by decide +kernel
theorem dL_told_99 : decode cL_told 99 = .ok (.iload_n 2, 1) := by decide +kernel
theorem dL_told_100 : decode cL_told 100 = .ok (.invokestatic 196, 3) := by decide +kernel
theorem dL_told_103 : decode cL_told 103 = .ok (.invokevirtual 172, 3) := by decide +kernel
theorem dL_told_106 : decode cL_told 106 = .ok (.aload_n 0, 1) := by decide +kernel
theorem dL_told_107 : decode cL_told 107 = .ok (.iload_n 2, 1) := by decide +kernel
theorem dL_told_108 : decode cL_told 108 = .ok (.invokestatic 198, 3) := by decide +kernel
theorem dL_told_111 : decode cL_told 111 = .ok (.invokevirtual 172, 3) := by decide +kernel
theorem dL_told_114 : decode cL_told 114 = .ok (.aload_n 0, 1) := by decide +kernel
theorem dL_told_115 : decode cL_told 115 = .ok (.iload_n 2, 1) := by decide +kernel
theorem dL_told_116 : decode cL_told 116 = .ok (.invokestatic 200, 3) := by decide +kernel
theorem dL_told_119 : decode cL_told 119 = .ok (.invokevirtual 172, 3) := by decide +kernel
theorem dL_told_122 : decode cL_told 122 = .ok (.aload_n 0, 1) := by decide +kernel
theorem dL_told_123 : decode cL_told 123 = .ok (.iload_n 2, 1) := by decide +kernel
theorem dL_told_124 : decode cL_told 124 = .ok (.invokestatic 202, 3) := by decide +kernel
theorem dL_told_127 : decode cL_told 127 = .ok (.invokevirtual 172, 3) := by decide +kernel
theorem dL_told_130 : decode cL_told 130 = .ok (.pop, 1) := by decide +kernel
theorem dL_told_131 : decode cL_told 131 = .ok (.iinc 2 1, 3) := by decide +kernel
theorem dL_told_134 : decode cL_told 134 = .ok (.goto (-79), 3) := by decide +kernel
theorem dL_told_137 : decode cL_told 137 = .ok (.aload_n 1, 1) := by decide +kernel
theorem dL_told_138 : decode cL_told 138 = .ok (.invokevirtual 204, 3) := by decide +kernel
theorem dL_told_141 : decode cL_told 141 = .ok (.areturn, 1) := by decide +kernel
set_option maxRecDepth 20000 in
theorem ggL_ordered_X8_isTrue : GoodIn wsL_ordered wsX8_isTrue := goodIn_ca (goodIn_r _ [5, 6, 7, 8, 4, 9, 10, 11, 12, 13, 14, 15, 16, 17, 18, 19, 20, 21, 22, 23, 24, 25, 26, 27, 28, 29, 30, 31, 32, 33, 34, 35, 36, 37, 38, 39, 40, 41, 42, 43, 44, 45, 46, 47, 48, 49, 50, 51, 52, 53, 54, 55, 56, 57, 58, 59, 60, 61, 62, 63, 64, 65, 66, 67, 68, 69, 70, 71, 72, 73, 74, 75, 76, 77, 78, 79, 80, 81, 82, 83, 84, 85, 86, 87, 88, 89, 90, 91, 92, 93, 94, 95, 96, 97, 98, 99, 100, 101, 102, 103, 104, 105, 106, 107, 108, 109, 110, 111, 112, 113, 114, 115, 116, 117, 118, 119, 120, 121, 122, 123, 124, 125, 126, 127, 128, 129, 130, 131, 132, 133, 134, 135, 136, 137, 138, 139, 140, 141, 142, 143, 144, 145, 146, 147, 148, 149, 150, 151, 152, 153, 154, 155, 156, 157, 158, 159, 160, 161, 162, 163, 164, 165, 166, 167, 168, 169, 170, 171, 172, 173, 174, 175, 176, 177, 178, 179, 180, 181, 182, 183, 337, 338, 339, 340, 341, 342, 343, 344, 345, 346, 347, 348, 349, 350, 351, 352, 353, 354, 355, 356, 357, 358, 359, 360, 361, 362, 363, 364, 365, 366, 367, 368, 369, 370, 371, 372, 373, 374, 375, 376, 377] (by decide +kernel) (by decide +kernel)) (goodIn_sub (fun _ h => List.mem_cons_of_mem _ (List.mem_append_left _ (List.mem_append_left _ (List.mem_append_left _ (List.mem_append_left _ (List.mem_append_right _ h)))))) (by decide +kernel))
set_option maxRecDepth 20000 in
theorem gL_ordered_X8_isTrue : GoodIn wsL_ordered (wsV RL 208 RX8 yX8_isTrue wsX8_isTrue) := goodIn_app (goodIn_of _ (by decide +kernel)) ggL_ordered_X8_isTrue
set_option maxRecDepth 20000 in
theorem ggL_ordered_X8_segments : GoodIn wsL_ordered wsX8_segments := goodIn_r _ [187, 12, 188, 14, 15, 16, 17, 18, 19, 337, 338, 339, 340, 341, 342, 343, 344, 345, 356, 357, 358, 353, 354, 355] (by decide +kernel) (by decide +kernel)
set_option maxRecDepth 20000 in
theorem gL_ordered_X8_segments : GoodIn wsL_ordered (wsV RL 169 RX8 yX8_segments wsX8_segments) := goodIn_app (goodIn_of _ (by decide +kernel)) ggL_ordered_X8_segments
set_option maxRecDepth 20000 in
theorem ggL_ordered_L_segment : GoodIn wsL_ordered wsL_segment := goodIn_ca (goodIn_r _ [192, 193, 194, 195, 196, 4, 197, 198, 199, 12, 188, 200, 201, 14, 15, 16, 17, 18, 19, 20, 21, 22, 23, 24, 25, 26, 27, 28, 29, 30, 31, 32, 33, 34, 35, 36, 337, 338, 339, 340, 341, 342, 343, 344, 345, 356, 357, 358, 359, 360, 353, 354, 355] (by decide +kernel) (by decide +kernel)) (goodIn_sub (fun _ h => List.mem_cons_of_mem _ (List.mem_append_left _ (List.mem_append_left _ (List.mem_append_left _ (List.mem_append_right _ h))))) (by decide +kernel))
set_option maxRecDepth 20000 in
theorem gL_ordered_L_segment : GoodIn wsL_ordered (va_wsS RL 196 yL_segment wsL_segment) := goodIn_app (goodIn_of _ (by decide +kernel)) ggL_ordered_L_segment
set_option maxRecDepth 20000 in
theorem ggL_ordered_L_size : GoodIn wsL_ordered wsL_size := goodIn_ca (goodIn_r _ [204, 193, 205, 206, 207, 4, 208, 209, 210, 211, 212, 213, 198, 199, 12, 214, 215, 216, 40, 217, 42, 43, 218, 45, 15, 16, 17, 18, 19, 46, 21, 22, 23, 24, 25, 26, 27, 28, 29, 30, 31, 32, 33, 34, 35, 36, 14, 359, 360, 337, 338, 339, 340, 341, 342, 343, 344, 345, 356, 357, 358, 353, 354, 355] (by decide +kernel) (by decide +kernel)) (goodIn_sub (fun _ h => List.mem_cons_of_mem _ (List.mem_append_left _ (List.mem_append_left _ (List.mem_append_left _ (List.mem_append_right _ h))))) (by decide +kernel))
set_option maxRecDepth 20000 in
theorem gL_ordered_L_size : GoodIn wsL_ordered (va_wsS RL 212 yL_size wsL_size) := goodIn_app (goodIn_of _ (by decide +kernel)) ggL_ordered_L_size
set_option maxRecDepth 20000 in
theorem ggL_ordered_L_isStruck : GoodIn wsL_ordered wsL_isStruck := goodIn_ca (goodIn_r _ [221, 222, 223, 224, 225, 4, 226, 53, 227, 228, 229, 230, 231, 232, 10, 11, 14, 15, 16, 17, 18, 19, 20, 21, 22, 23, 24, 25, 26, 27, 28, 29, 30, 31, 32, 33, 34, 35, 36, 346, 347, 348, 349, 350, 351, 352, 337, 338, 339, 340, 341, 342, 343, 344, 345, 353, 354, 355] (by decide +kernel) (by decide +kernel)) (goodIn_sub (fun _ h => List.mem_cons_of_mem _ (List.mem_append_left _ (List.mem_append_left _ (List.mem_append_right _ h)))) (by decide +kernel))
set_option maxRecDepth 20000 in
theorem gL_ordered_L_isStruck : GoodIn wsL_ordered (va_wsS RL 214 yL_isStruck wsL_isStruck) := goodIn_app (goodIn_of _ (by decide +kernel)) ggL_ordered_L_isStruck
set_option maxRecDepth 20000 in
theorem ggL_ordered_L_segmentOf : GoodIn wsL_ordered wsL_segmentOf := goodIn_ca (goodIn_ca (goodIn_r _ [235, 222, 236, 237, 238, 4, 239, 198, 199, 13, 201, 227, 228, 229, 230, 231, 232, 10, 11, 14, 15, 16, 17, 18, 19, 20, 21, 22, 23, 24, 25, 26, 27, 28, 29, 30, 31, 32, 33, 34, 35, 36, 346, 347, 348, 349, 350, 351, 352, 359, 360, 337, 338, 339, 340, 341, 342, 343, 344, 345, 353, 354, 355] (by decide +kernel) (by decide +kernel)) (goodIn_sub (fun _ h => List.mem_cons_of_mem _ (List.mem_append_left _ (List.mem_append_left _ (List.mem_append_left _ (List.mem_append_right _ h))))) (by decide +kernel))) (goodIn_sub (fun _ h => List.mem_cons_of_mem _ (List.mem_append_left _ (List.mem_append_left _ (List.mem_append_right _ h)))) (by decide +kernel))
set_option maxRecDepth 20000 in
theorem gL_ordered_L_segmentOf : GoodIn wsL_ordered (va_wsS RL 216 yL_segmentOf wsL_segmentOf) := goodIn_app (goodIn_of _ (by decide +kernel)) ggL_ordered_L_segmentOf
set_option maxRecDepth 20000 in
theorem ggL_ordered_L_postings : GoodIn wsL_ordered wsL_postings := goodIn_ca (goodIn_r _ [242, 243, 244, 245, 246, 4, 247, 51, 248, 249, 250, 251, 252, 253, 254, 255, 256, 257, 258, 259, 260, 261, 15, 16, 17, 18, 19, 262, 21, 22, 23, 24, 25, 26, 27, 28, 29, 30, 31, 32, 33, 34, 35, 36, 337, 338, 339, 340, 341, 342, 343, 344, 345, 361, 346, 347, 348, 349, 350, 351, 352, 353, 354, 355] (by decide +kernel) (by decide +kernel)) (goodIn_sub (fun _ h => List.mem_cons_of_mem _ (List.mem_append_left _ (List.mem_append_right _ h))) (by decide +kernel))
set_option maxRecDepth 20000 in
theorem gL_ordered_L_postings : GoodIn wsL_ordered (va_wsS RL 198 yL_postings wsL_postings) := goodIn_app (goodIn_of _ (by decide +kernel)) ggL_ordered_L_postings
set_option maxRecDepth 20000 in
theorem ggL_ordered_L_posting : GoodIn wsL_ordered wsL_posting := goodIn_ca (goodIn_ca (goodIn_r _ [265, 243, 266, 267, 268, 4, 269, 198, 199, 51, 270, 248, 249, 250, 251, 252, 271, 272, 273, 256, 274, 258, 259, 260, 261, 15, 16, 17, 18, 19, 262, 21, 22, 23, 24, 25, 26, 27, 28, 29, 30, 31, 32, 33, 34, 35, 36, 337, 338, 339, 340, 341, 342, 343, 344, 345, 346, 347, 348, 349, 350, 351, 352, 361, 353, 354, 355] (by decide +kernel) (by decide +kernel)) (goodIn_sub (fun _ h => List.mem_cons_of_mem _ (List.mem_append_left _ (List.mem_append_left _ (List.mem_append_left _ (List.mem_append_right _ h))))) (by decide +kernel))) (goodIn_sub (fun _ h => List.mem_cons_of_mem _ (List.mem_append_left _ (List.mem_append_right _ h))) (by decide +kernel))
set_option maxRecDepth 20000 in
theorem gL_ordered_L_posting : GoodIn wsL_ordered (va_wsS RL 218 yL_posting wsL_posting) := goodIn_app (goodIn_of _ (by decide +kernel)) ggL_ordered_L_posting
set_option maxRecDepth 20000 in
theorem ggL_ordered_L_weight : GoodIn wsL_ordered wsL_weight := goodIn_ca (goodIn_r _ [277, 243, 278, 279, 280, 281, 4, 282, 248, 249, 250, 251, 252, 283, 284, 285, 286, 66, 51, 14, 15, 16, 17, 18, 19, 287, 288, 289, 256, 290, 258, 259, 260, 291, 261, 262, 21, 22, 23, 24, 25, 26, 27, 28, 29, 30, 31, 32, 33, 34, 35, 36, 337, 338, 339, 340, 341, 342, 343, 344, 345, 353, 354, 355, 361, 346, 347, 348, 349, 350, 351, 352] (by decide +kernel) (by decide +kernel)) (goodIn_sub (fun _ h => List.mem_cons_of_mem _ (List.mem_append_left _ (List.mem_append_right _ h))) (by decide +kernel))
set_option maxRecDepth 20000 in
theorem gL_ordered_L_weight : GoodIn wsL_ordered (va_wsS RL 220 yL_weight wsL_weight) := goodIn_app (goodIn_of _ (by decide +kernel)) ggL_ordered_L_weight
set_option maxRecDepth 20000 in
theorem ggL_ordered_L_struckShare : GoodIn wsL_ordered wsL_struckShare := goodIn_ca (goodIn_r _ [294, 295, 278, 296, 297, 298, 4, 299, 300, 301, 10, 11, 53, 302, 303, 304, 17, 305, 19, 14, 15, 16, 18, 20, 21, 22, 23, 24, 25, 26, 27, 28, 29, 30, 31, 32, 33, 34, 35, 36, 337, 338, 339, 340, 341, 342, 343, 344, 345, 346, 347, 348, 349, 350, 351, 352, 353, 354, 355] (by decide +kernel) (by decide +kernel)) (goodIn_sub (fun _ h => List.mem_cons_of_mem _ (List.mem_append_right _ h)) (by decide +kernel))
set_option maxRecDepth 20000 in
theorem gL_ordered_L_struckShare : GoodIn wsL_ordered (va_wsS RL 182 yL_struckShare wsL_struckShare) := goodIn_app (goodIn_of _ (by decide +kernel)) ggL_ordered_L_struckShare
set_option maxRecDepth 20000 in
theorem ggL_ordered_L_coins : GoodIn wsL_ordered wsL_coins := goodIn_ca (goodIn_r _ [308, 222, 309, 310, 311, 4, 312, 60, 313, 314, 315, 316, 231, 232, 58, 59, 14, 15, 16, 17, 18, 19, 20, 21, 22, 23, 24, 25, 26, 27, 28, 29, 30, 31, 32, 33, 34, 35, 36, 362, 363, 364, 365, 366, 337, 338, 339, 340, 341, 342, 343, 344, 345, 353, 354, 355] (by decide +kernel) (by decide +kernel)) (goodIn_sub (fun _ h => List.mem_cons_of_mem _ (List.mem_append_left _ (List.mem_append_left _ (List.mem_append_right _ h)))) (by decide +kernel))
set_option maxRecDepth 20000 in
theorem gL_ordered_L_coins : GoodIn wsL_ordered (va_wsS RL 190 yL_coins wsL_coins) := goodIn_app (goodIn_of _ (by decide +kernel)) ggL_ordered_L_coins
set_option maxRecDepth 20000 in
theorem ggL_ordered_L_at : GoodIn wsL_ordered wsL_at := goodIn_ca (goodIn_r _ [319, 222, 320, 321, 322, 4, 323, 324, 70, 313, 314, 315, 316, 231, 232, 58, 59, 14, 15, 16, 17, 18, 19, 20, 21, 22, 23, 24, 25, 26, 27, 28, 29, 30, 31, 32, 33, 34, 35, 36, 362, 363, 364, 365, 366, 367, 368, 369, 370, 371, 372, 337, 338, 339, 340, 341, 342, 343, 344, 345, 353, 354, 355] (by decide +kernel) (by decide +kernel)) (goodIn_sub (fun _ h => List.mem_cons_of_mem _ (List.mem_append_left _ (List.mem_append_left _ (List.mem_append_right _ h)))) (by decide +kernel))
set_option maxRecDepth 20000 in
theorem gL_ordered_L_at : GoodIn wsL_ordered (va_wsS RL 188 yL_at wsL_at) := goodIn_app (goodIn_of _ (by decide +kernel)) ggL_ordered_L_at
set_option maxRecDepth 20000 in
theorem ggL_ordered_L_isThere : GoodIn wsL_ordered wsL_isThere := goodIn_ca (goodIn_r _ [327, 222, 328, 329, 330, 4, 331, 332, 333, 334, 335, 336, 231, 232, 66, 67, 14, 15, 16, 17, 18, 19, 20, 21, 22, 23, 24, 25, 26, 27, 28, 29, 30, 31, 32, 33, 34, 35, 36, 367, 368, 369, 370, 371, 372, 337, 338, 339, 340, 341, 342, 343, 344, 345, 353, 354, 355] (by decide +kernel) (by decide +kernel)) (goodIn_sub (fun _ h => List.mem_cons_of_mem _ (List.mem_append_left _ (List.mem_append_left _ (List.mem_append_right _ h)))) (by decide +kernel))
set_option maxRecDepth 20000 in
theorem gL_ordered_L_isThere : GoodIn wsL_ordered (va_wsS RL 194 yL_isThere wsL_isThere) := goodIn_app (goodIn_of _ (by decide +kernel)) ggL_ordered_L_isThere
theorem dL_ordered_0 : decode cL_ordered 0 = .ok (.iconst 0, 1) := by decide +kernel
theorem dL_ordered_1 : decode cL_ordered 1 = .ok (.istore_n 1, 1) := by decide +kernel
theorem dL_ordered_2 : decode cL_ordered 2 = .ok (.iconst (-1), 1) := by decide +kernel
theorem dL_ordered_3 : decode cL_ordered 3 = .ok (.istore_n 2, 1) := by decide +kernel
theorem dL_ordered_4 : decode cL_ordered 4 = .ok (.aload_n 0, 1) := by decide +kernel
theorem dL_ordered_5 : decode cL_ordered 5 = .ok (.invokevirtual 208, 3) := by decide +kernel
theorem dL_ordered_8 : decode cL_ordered 8 = .ok (.ifCond .eq 28, 3) := by decide +kernel
theorem dL_ordered_11 : decode cL_ordered 11 = .ok (.aload_n 0, 1) := by decide +kernel
theorem dL_ordered_12 : decode cL_ordered 12 = .ok (.aload_n 0, 1) := by decide +kernel
theorem dL_ordered_13 : decode cL_ordered 13 = .ok (.invokevirtual 169, 3) := by decide +kernel
theorem dL_ordered_16 : decode cL_ordered 16 = .ok (.invokestatic 196, 3) := by decide +kernel
theorem dL_ordered_19 : decode cL_ordered 19 = .ok (.iconst (-1), 1) := by decide +kernel
theorem dL_ordered_20 : decode cL_ordered 20 = .ok (.if_icmp .ne 16, 3) := by decide +kernel
theorem dL_ordered_23 : decode cL_ordered 23 = .ok (.aload_n 0, 1) := by decide +kernel
theorem dL_ordered_24 : decode cL_ordered 24 = .ok (.invokevirtual 169, 3) := by decide +kernel
theorem dL_ordered_27 : decode cL_ordered 27 = .ok (.bipush 20, 2) := by decide +kernel
theorem dL_ordered_29 : decode cL_ordered 29 = .ok (.if_icmp .gt 7, 3) := by decide +kernel
theorem dL_ordered_32 : decode cL_ordered 32 = .ok (.iconst 1, 1) := by decide +kernel
theorem dL_ordered_33 : decode cL_ordered 33 = .ok (.goto 4, 3) := by decide +kernel
theorem dL_ordered_36 : decode cL_ordered 36 = .ok (.iconst 0, 1) := by decide +kernel
theorem dL_ordered_37 : decode cL_ordered 37 = .ok (.istore_n 3, 1) := by decide +kernel
theorem dL_ordered_38 : decode cL_ordered 38 = .ok (.iconst 0, 1) := by decide +kernel
theorem dL_ordered_39 : decode cL_ordered 39 = .ok (.istore 4, 2) := by decide +kernel
theorem dL_ordered_41 : decode cL_ordered 41 = .ok (.iload 4, 2) := by decide +kernel
theorem dL_ordered_43 : decode cL_ordered 43 = .ok (.aload_n 0, 1) := by decide +kernel
theorem dL_ordered_44 : decode cL_ordered 44 = .ok (.invokevirtual 169, 3) := by decide +kernel
theorem dL_ordered_47 : decode cL_ordered 47 = .ok (.if_icmp .ge 52, 3) := by decide +kernel
theorem dL_ordered_50 : decode cL_ordered 50 = .ok (.aload_n 0, 1) := by decide +kernel
theorem dL_ordered_51 : decode cL_ordered 51 = .ok (.iload 4, 2) := by decide +kernel
theorem dL_ordered_53 : decode cL_ordered 53 = .ok (.invokestatic 196, 3) := by decide +kernel
theorem dL_ordered_56 : decode cL_ordered 56 = .ok (.istore 5, 2) := by decide +kernel
theorem dL_ordered_58 : decode cL_ordered 58 = .ok (.iload_n 3, 1) := by decide +kernel
theorem dL_ordered_59 : decode cL_ordered 59 = .ok (.iload 5, 2) := by decide +kernel
theorem dL_ordered_61 : decode cL_ordered 61 = .ok (.iload_n 2, 1) := by decide +kernel
theorem dL_ordered_62 : decode cL_ordered 62 = .ok (.if_icmp .le 16, 3) := by decide +kernel
theorem dL_ordered_65 : decode cL_ordered 65 = .ok (.aload_n 0, 1) := by decide +kernel
theorem dL_ordered_66 : decode cL_ordered 66 = .ok (.iload 5, 2) := by decide +kernel
theorem dL_ordered_68 : decode cL_ordered 68 = .ok (.invokestatic 212, 3) := by decide +kernel
theorem dL_ordered_71 : decode cL_ordered 71 = .ok (.ifCond .lt 7, 3) := by decide +kernel
theorem dL_ordered_74 : decode cL_ordered 74 = .ok (.iconst 1, 1) := by decide +kernel
theorem dL_ordered_75 : decode cL_ordered 75 = .ok (.goto 4, 3) := by decide +kernel
theorem dL_ordered_78 : decode cL_ordered 78 = .ok (.iconst 0, 1) := by decide +kernel
theorem dL_ordered_79 : decode cL_ordered 79 = .ok (.iand, 1) := by decide +kernel
theorem dL_ordered_80 : decode cL_ordered 80 = .ok (.istore_n 3, 1) := by decide +kernel
theorem dL_ordered_81 : decode cL_ordered 81 = .ok (.iload_n 1, 1) := by decide +kernel
theorem dL_ordered_82 : decode cL_ordered 82 = .ok (.aload_n 0, 1) := by decide +kernel
theorem dL_ordered_83 : decode cL_ordered 83 = .ok (.iload 5, 2) := by decide +kernel
theorem dL_ordered_85 : decode cL_ordered 85 = .ok (.invokestatic 212, 3) := by decide +kernel
theorem dL_ordered_88 : decode cL_ordered 88 = .ok (.iadd, 1) := by decide +kernel
theorem dL_ordered_89 : decode cL_ordered 89 = .ok (.istore_n 1, 1) := by decide +kernel
theorem dL_ordered_90 : decode cL_ordered 90 = .ok (.iload 5, 2) := by decide +kernel
theorem dL_ordered_92 : decode cL_ordered 92 = .ok (.istore_n 2, 1) := by decide +kernel
theorem dL_ordered_93 : decode cL_ordered 93 = .ok (.iinc 4 1, 3) := by decide +kernel
theorem dL_ordered_96 : decode cL_ordered 96 = .ok (.goto (-55), 3) := by decide +kernel
theorem dL_ordered_99 : decode cL_ordered 99 = .ok (.iconst 0, 1) := by decide +kernel
theorem dL_ordered_100 : decode cL_ordered 100 = .ok (.istore 4, 2) := by decide +kernel
theorem dL_ordered_102 : decode cL_ordered 102 = .ok (.iconst 0, 1) := by decide +kernel
theorem dL_ordered_103 : decode cL_ordered 103 = .ok (.istore 5, 2) := by decide +kernel
theorem dL_ordered_105 : decode cL_ordered 105 = .ok (.iconst 0, 1) := by decide +kernel
theorem dL_ordered_106 : decode cL_ordered 106 = .ok (.istore 6, 2) := by decide +kernel
theorem dL_ordered_108 : decode cL_ordered 108 = .ok (.aload_n 0, 1) := by decide +kernel
theorem dL_ordered_109 : decode cL_ordered 109 = .ok (.iload 4, 2) := by decide +kernel
theorem dL_ordered_111 : decode cL_ordered 111 = .ok (.invokestatic 214, 3) := by decide +kernel
theorem dL_ordered_114 : decode cL_ordered 114 = .ok (.ifCond .lt 67, 3) := by decide +kernel
theorem dL_ordered_117 : decode cL_ordered 117 = .ok (.aload_n 0, 1) := by decide +kernel
theorem dL_ordered_118 : decode cL_ordered 118 = .ok (.iload 4, 2) := by decide +kernel
theorem dL_ordered_120 : decode cL_ordered 120 = .ok (.invokestatic 216, 3) := by decide +kernel
theorem dL_ordered_123 : decode cL_ordered 123 = .ok (.istore 7, 2) := by decide +kernel
theorem dL_ordered_125 : decode cL_ordered 125 = .ok (.iload 5, 2) := by decide +kernel
theorem dL_ordered_127 : decode cL_ordered 127 = .ok (.iload 7, 2) := by decide +kernel
theorem dL_ordered_129 : decode cL_ordered 129 = .ok (.ifCond .lt 7, 3) := by decide +kernel
theorem dL_ordered_132 : decode cL_ordered 132 = .ok (.iconst 1, 1) := by decide +kernel
theorem dL_ordered_133 : decode cL_ordered 133 = .ok (.goto 4, 3) := by decide +kernel
theorem dL_ordered_136 : decode cL_ordered 136 = .ok (.iconst 0, 1) := by decide +kernel
theorem dL_ordered_137 : decode cL_ordered 137 = .ok (.iadd, 1) := by decide +kernel
theorem dL_ordered_138 : decode cL_ordered 138 = .ok (.istore 5, 2) := by decide +kernel
theorem dL_ordered_140 : decode cL_ordered 140 = .ok (.iload 6, 2) := by decide +kernel
theorem dL_ordered_142 : decode cL_ordered 142 = .ok (.aload_n 0, 1) := by decide +kernel
theorem dL_ordered_143 : decode cL_ordered 143 = .ok (.iload 4, 2) := by decide +kernel
theorem dL_ordered_145 : decode cL_ordered 145 = .ok (.invokestatic 214, 3) := by decide +kernel
theorem dL_ordered_148 : decode cL_ordered 148 = .ok (.iadd, 1) := by decide +kernel
theorem dL_ordered_149 : decode cL_ordered 149 = .ok (.istore 6, 2) := by decide +kernel
theorem dL_ordered_151 : decode cL_ordered 151 = .ok (.iload_n 3, 1) := by decide +kernel
theorem dL_ordered_152 : decode cL_ordered 152 = .ok (.iload 7, 2) := by decide +kernel
theorem dL_ordered_154 : decode cL_ordered 154 = .ok (.bipush (-2), 2) := by decide +kernel
theorem dL_ordered_156 : decode cL_ordered 156 = .ok (.if_icmp .eq 12, 3) := by decide +kernel
theorem dL_ordered_159 : decode cL_ordered 159 = .ok (.aload_n 0, 1) := by decide +kernel
theorem dL_ordered_160 : decode cL_ordered 160 = .ok (.iload 7, 2) := by decide +kernel
theorem dL_ordered_162 : decode cL_ordered 162 = .ok (.invokestatic 212, 3) := by decide +kernel
theorem dL_ordered_165 : decode cL_ordered 165 = .ok (.ifCond .le 7, 3) := by decide +kernel
theorem dL_ordered_168 : decode cL_ordered 168 = .ok (.iconst 1, 1) := by decide +kernel
theorem dL_ordered_169 : decode cL_ordered 169 = .ok (.goto 4, 3) := by decide +kernel
theorem dL_ordered_172 : decode cL_ordered 172 = .ok (.iconst 0, 1) := by decide +kernel
theorem dL_ordered_173 : decode cL_ordered 173 = .ok (.iand, 1) := by decide +kernel
theorem dL_ordered_174 : decode cL_ordered 174 = .ok (.istore_n 3, 1) := by decide +kernel
theorem dL_ordered_175 : decode cL_ordered 175 = .ok (.iinc 4 1, 3) := by decide +kernel
theorem dL_ordered_178 : decode cL_ordered 178 = .ok (.goto (-70), 3) := by decide +kernel
theorem dL_ordered_181 : decode cL_ordered 181 = .ok (.iconst 0, 1) := by decide +kernel
theorem dL_ordered_182 : decode cL_ordered 182 = .ok (.istore 7, 2) := by decide +kernel
theorem dL_ordered_184 : decode cL_ordered 184 = .ok (.iconst 0, 1) := by decide +kernel
theorem dL_ordered_185 : decode cL_ordered 185 = .ok (.istore 8, 2) := by decide +kernel
theorem dL_ordered_187 : decode cL_ordered 187 = .ok (.iload 8, 2) := by decide +kernel
theorem dL_ordered_189 : decode cL_ordered 189 = .ok (.bipush 31, 2) := by decide +kernel
theorem dL_ordered_191 : decode cL_ordered 191 = .ok (.if_icmp .ge 108, 3) := by decide +kernel
theorem dL_ordered_194 : decode cL_ordered 194 = .ok (.aload_n 0, 1) := by decide +kernel
theorem dL_ordered_195 : decode cL_ordered 195 = .ok (.iload 8, 2) := by decide +kernel
theorem dL_ordered_197 : decode cL_ordered 197 = .ok (.invokestatic 198, 3) := by decide +kernel
theorem dL_ordered_200 : decode cL_ordered 200 = .ok (.istore 9, 2) := by decide +kernel
theorem dL_ordered_202 : decode cL_ordered 202 = .ok (.iconst 0, 1) := by decide +kernel
theorem dL_ordered_203 : decode cL_ordered 203 = .ok (.istore 10, 2) := by decide +kernel
theorem dL_ordered_205 : decode cL_ordered 205 = .ok (.iload 10, 2) := by decide +kernel
theorem dL_ordered_207 : decode cL_ordered 207 = .ok (.iload 9, 2) := by decide +kernel
theorem dL_ordered_209 : decode cL_ordered 209 = .ok (.if_icmp .ge 45, 3) := by decide +kernel
theorem dL_ordered_212 : decode cL_ordered 212 = .ok (.aload_n 0, 1) := by decide +kernel
theorem dL_ordered_213 : decode cL_ordered 213 = .ok (.iload 8, 2) := by decide +kernel
theorem dL_ordered_215 : decode cL_ordered 215 = .ok (.iload 10, 2) := by decide +kernel
theorem dL_ordered_217 : decode cL_ordered 217 = .ok (.invokestatic 218, 3) := by decide +kernel
theorem dL_ordered_220 : decode cL_ordered 220 = .ok (.istore 11, 2) := by decide +kernel
theorem dL_ordered_222 : decode cL_ordered 222 = .ok (.iload_n 3, 1) := by decide +kernel
theorem dL_ordered_223 : decode cL_ordered 223 = .ok (.aload_n 0, 1) := by decide +kernel
theorem dL_ordered_224 : decode cL_ordered 224 = .ok (.iload 11, 2) := by decide +kernel
theorem dL_ordered_226 : decode cL_ordered 226 = .ok (.invokestatic 214, 3) := by decide +kernel
theorem dL_ordered_229 : decode cL_ordered 229 = .ok (.ifCond .ne 16, 3) := by decide +kernel
theorem dL_ordered_232 : decode cL_ordered 232 = .ok (.aload_n 0, 1) := by decide +kernel
theorem dL_ordered_233 : decode cL_ordered 233 = .ok (.iload 11, 2) := by decide +kernel
theorem dL_ordered_235 : decode cL_ordered 235 = .ok (.invokestatic 216, 3) := by decide +kernel
theorem dL_ordered_238 : decode cL_ordered 238 = .ok (.ifCond .lt 7, 3) := by decide +kernel
theorem dL_ordered_241 : decode cL_ordered 241 = .ok (.iconst 1, 1) := by decide +kernel
theorem dL_ordered_242 : decode cL_ordered 242 = .ok (.goto 4, 3) := by decide +kernel
theorem dL_ordered_245 : decode cL_ordered 245 = .ok (.iconst 0, 1) := by decide +kernel
theorem dL_ordered_246 : decode cL_ordered 246 = .ok (.iand, 1) := by decide +kernel
theorem dL_ordered_247 : decode cL_ordered 247 = .ok (.istore_n 3, 1) := by decide +kernel
theorem dL_ordered_248 : decode cL_ordered 248 = .ok (.iinc 10 1, 3) := by decide +kernel
theorem dL_ordered_251 : decode cL_ordered 251 = .ok (.goto (-46), 3) := by decide +kernel
theorem dL_ordered_254 : decode cL_ordered 254 = .ok (.iload 7, 2) := by decide +kernel
theorem dL_ordered_256 : decode cL_ordered 256 = .ok (.iload 9, 2) := by decide +kernel
theorem dL_ordered_258 : decode cL_ordered 258 = .ok (.iadd, 1) := by decide +kernel
theorem dL_ordered_259 : decode cL_ordered 259 = .ok (.istore 7, 2) := by decide +kernel
theorem dL_ordered_261 : decode cL_ordered 261 = .ok (.iload_n 3, 1) := by decide +kernel
theorem dL_ordered_262 : decode cL_ordered 262 = .ok (.aload_n 0, 1) := by decide +kernel
theorem dL_ordered_263 : decode cL_ordered 263 = .ok (.iload 8, 2) := by decide +kernel
theorem dL_ordered_265 : decode cL_ordered 265 = .ok (.iload 9, 2) := by decide +kernel
theorem dL_ordered_267 : decode cL_ordered 267 = .ok (.invokestatic 218, 3) := by decide +kernel
theorem dL_ordered_270 : decode cL_ordered 270 = .ok (.bipush (-2), 2) := by decide +kernel
theorem dL_ordered_272 : decode cL_ordered 272 = .ok (.if_icmp .ne 18, 3) := by decide +kernel
theorem dL_ordered_275 : decode cL_ordered 275 = .ok (.aload_n 0, 1) := by decide +kernel
theorem dL_ordered_276 : decode cL_ordered 276 = .ok (.iload 8, 2) := by decide +kernel
theorem dL_ordered_278 : decode cL_ordered 278 = .ok (.invokestatic 220, 3) := by decide +kernel
theorem dL_ordered_281 : decode cL_ordered 281 = .ok (.fconst 1, 1) := by decide +kernel
theorem dL_ordered_282 : decode cL_ordered 282 = .ok (.fcmp .l, 1) := by decide +kernel
theorem dL_ordered_283 : decode cL_ordered 283 = .ok (.ifCond .lt 7, 3) := by decide +kernel
theorem dL_ordered_286 : decode cL_ordered 286 = .ok (.iconst 1, 1) := by decide +kernel
theorem dL_ordered_287 : decode cL_ordered 287 = .ok (.goto 4, 3) := by decide +kernel
theorem dL_ordered_290 : decode cL_ordered 290 = .ok (.iconst 0, 1) := by decide +kernel
theorem dL_ordered_291 : decode cL_ordered 291 = .ok (.iand, 1) := by decide +kernel
theorem dL_ordered_292 : decode cL_ordered 292 = .ok (.istore_n 3, 1) := by decide +kernel
theorem dL_ordered_293 : decode cL_ordered 293 = .ok (.iinc 8 1, 3) := by decide +kernel
theorem dL_ordered_296 : decode cL_ordered 296 = .ok (.goto (-109), 3) := by decide +kernel
theorem dL_ordered_299 : decode cL_ordered 299 = .ok (.iload_n 3, 1) := by decide +kernel
theorem dL_ordered_300 : decode cL_ordered 300 = .ok (.iload 5, 2) := by decide +kernel
theorem dL_ordered_302 : decode cL_ordered 302 = .ok (.iload_n 1, 1) := by decide +kernel
theorem dL_ordered_303 : decode cL_ordered 303 = .ok (.if_icmp .ne 44, 3) := by decide +kernel
theorem dL_ordered_306 : decode cL_ordered 306 = .ok (.iload 7, 2) := by decide +kernel
theorem dL_ordered_308 : decode cL_ordered 308 = .ok (.iload 5, 2) := by decide +kernel
theorem dL_ordered_310 : decode cL_ordered 310 = .ok (.if_icmp .gt 37, 3) := by decide +kernel
theorem dL_ordered_313 : decode cL_ordered 313 = .ok (.iload 7, 2) := by decide +kernel
theorem dL_ordered_315 : decode cL_ordered 315 = .ok (.iload 5, 2) := by decide +kernel
theorem dL_ordered_317 : decode cL_ordered 317 = .ok (.iload 6, 2) := by decide +kernel
theorem dL_ordered_319 : decode cL_ordered 319 = .ok (.isub, 1) := by decide +kernel
theorem dL_ordered_320 : decode cL_ordered 320 = .ok (.if_icmp .lt 27, 3) := by decide +kernel
theorem dL_ordered_323 : decode cL_ordered 323 = .ok (.iload 4, 2) := by decide +kernel
theorem dL_ordered_325 : decode cL_ordered 325 = .ok (.ifCond .eq 18, 3) := by decide +kernel
theorem dL_ordered_328 : decode cL_ordered 328 = .ok (.aload_n 0, 1) := by decide +kernel
theorem dL_ordered_329 : decode cL_ordered 329 = .ok (.invokestatic 182, 3) := by decide +kernel
theorem dL_ordered_332 : decode cL_ordered 332 = .ok (.iload 6, 2) := by decide +kernel
theorem dL_ordered_334 : decode cL_ordered 334 = .ok (.i2f, 1) := by decide +kernel
theorem dL_ordered_335 : decode cL_ordered 335 = .ok (.iload 4, 2) := by decide +kernel
theorem dL_ordered_337 : decode cL_ordered 337 = .ok (.i2f, 1) := by decide +kernel
theorem dL_ordered_338 : decode cL_ordered 338 = .ok (.fdiv, 1) := by decide +kernel
theorem dL_ordered_339 : decode cL_ordered 339 = .ok (.fcmp .l, 1) := by decide +kernel
theorem dL_ordered_340 : decode cL_ordered 340 = .ok (.ifCond .ne 7, 3) := by decide +kernel
theorem dL_ordered_343 : decode cL_ordered 343 = .ok (.iconst 1, 1) := by decide +kernel
theorem dL_ordered_344 : decode cL_ordered 344 = .ok (.goto 4, 3) := by decide +kernel
theorem dL_ordered_347 : decode cL_ordered 347 = .ok (.iconst 0, 1) := by decide +kernel
theorem dL_ordered_348 : decode cL_ordered 348 = .ok (.iand, 1) := by decide +kernel
theorem dL_ordered_349 : decode cL_ordered 349 = .ok (.istore_n 3, 1) := by decide +kernel
theorem dL_ordered_350 : decode cL_ordered 350 = .ok (.iconst 0, 1) := by decide +kernel
theorem dL_ordered_351 : decode cL_ordered 351 = .ok (.istore 8, 2) := by decide +kernel
theorem dL_ordered_353 : decode cL_ordered 353 = .ok (.aload_n 0, 1) := by decide +kernel
theorem dL_ordered_354 : decode cL_ordered 354 = .ok (.iload 8, 2) := by decide +kernel
theorem dL_ordered_356 : decode cL_ordered 356 = .ok (.invokestatic 190, 3) := by decide +kernel
theorem dL_ordered_359 : decode cL_ordered 359 = .ok (.iconst (-1), 1) := by decide +kernel
theorem dL_ordered_360 : decode cL_ordered 360 = .ok (.if_icmp .eq 39, 3) := by decide +kernel
theorem dL_ordered_363 : decode cL_ordered 363 = .ok (.iload_n 3, 1) := by decide +kernel
theorem dL_ordered_364 : decode cL_ordered 364 = .ok (.aload_n 0, 1) := by decide +kernel
theorem dL_ordered_365 : decode cL_ordered 365 = .ok (.iload 8, 2) := by decide +kernel
theorem dL_ordered_367 : decode cL_ordered 367 = .ok (.invokestatic 190, 3) := by decide +kernel
theorem dL_ordered_370 : decode cL_ordered 370 = .ok (.ifCond .lt 20, 3) := by decide +kernel
theorem dL_ordered_373 : decode cL_ordered 373 = .ok (.aload_n 0, 1) := by decide +kernel
theorem dL_ordered_374 : decode cL_ordered 374 = .ok (.aload_n 0, 1) := by decide +kernel
theorem dL_ordered_375 : decode cL_ordered 375 = .ok (.iload 8, 2) := by decide +kernel
