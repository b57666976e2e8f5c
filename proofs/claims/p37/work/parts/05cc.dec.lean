set_option maxRecDepth 20000 in
theorem gJ5_append_2ceeb_J4_length_8abf5_u160J4 : GoodIn wsJ5_append_2ceeb (va_wsO RJ5 160 RJ4 "java/lang/AbstractStringBuilder" ⟨"java/lang/AbstractStringBuilder", "length", "()I"⟩ yJ4_length_8abf5 wsJ4_length_8abf5) := goodIn_app (goodIn_of _ (by decide +kernel)) ggJ5_append_2ceeb_J4_length_8abf5
set_option maxRecDepth 20000 in
theorem ggJ5_append_2ceeb_J5_ensureCapacityInternal_d00df : GoodIn wsJ5_append_2ceeb wsJ5_ensureCapacityInternal_d00df := goodIn_r _ [15, 2, 3, 16, 17, 18, 19, 9, 20, 21, 22, 23, 24, 25, 26, 27, 28, 29, 30, 31, 32, 33, 34, 35, 36, 37, 38, 39, 40, 41, 42, 43, 44, 45, 46, 47, 48, 49, 50, 51, 138, 139, 140, 141] (by decide +kernel) (by decide +kernel)
set_option maxRecDepth 20000 in
theorem gJ5_append_2ceeb_J5_ensureCapacityInternal_d00df_u100J4 : GoodIn wsJ5_append_2ceeb (va_wsU RJ5 100 RJ4 "java/lang/AbstractStringBuilder" ⟨"java/lang/AbstractStringBuilder", "ensureCapacityInternal", "(I)V"⟩ yJ5_ensureCapacityInternal_d00df wsJ5_ensureCapacityInternal_d00df) := goodIn_app (goodIn_of _ (by decide +kernel)) ggJ5_append_2ceeb_J5_ensureCapacityInternal_d00df
set_option maxRecDepth 20000 in
theorem ggJ5_append_2ceeb_J5_inflateIfNeededFor_56e69 : GoodIn wsJ5_append_2ceeb wsJ5_inflateIfNeededFor_56e69 := goodIn_r _ [98, 57, 3, 99, 100, 101, 102, 9, 103, 104, 105, 106, 107, 108, 2, 1, 52, 53, 54, 55, 56, 109, 110, 60, 111, 44, 112, 113, 114, 115, 116, 117, 118, 119, 120, 121, 122, 123, 124, 125, 66, 67, 68, 126, 127, 71, 128, 73, 129, 130, 76, 131, 78, 79, 80, 62, 81, 82, 138, 139, 140, 141] (by decide +kernel) (by decide +kernel)
set_option maxRecDepth 20000 in
theorem gJ5_append_2ceeb_J5_inflateIfNeededFor_56e69_u215J4 : GoodIn wsJ5_append_2ceeb (va_wsU RJ5 215 RJ4 "java/lang/AbstractStringBuilder" ⟨"java/lang/AbstractStringBuilder", "inflateIfNeededFor", "(Ljava/lang/AbstractStringBuilder;)V"⟩ yJ5_inflateIfNeededFor_56e69 wsJ5_inflateIfNeededFor_56e69) := goodIn_app (goodIn_of _ (by decide +kernel)) ggJ5_append_2ceeb_J5_inflateIfNeededFor_56e69
set_option maxRecDepth 20000 in
theorem ggJ5_append_2ceeb_J5_getBytes_840e7 : GoodIn wsJ5_append_2ceeb wsJ5_getBytes_840e7 := goodIn_r _ [136, 3, 2, 1, 137, 49, 50, 51, 116, 117, 118, 119, 120, 121, 60, 122, 123, 124, 125, 66, 67, 68, 126, 127, 71, 128, 73, 129, 130, 76, 131, 78, 79, 80, 62, 81, 82, 138, 139, 140, 141] (by decide +kernel) (by decide +kernel)
set_option maxRecDepth 20000 in
theorem gJ5_append_2ceeb_J5_getBytes_840e7_u219J4 : GoodIn wsJ5_append_2ceeb (va_wsU RJ5 219 RJ4 "java/lang/AbstractStringBuilder" ⟨"java/lang/AbstractStringBuilder", "getBytes", "([BIB)V"⟩ yJ5_getBytes_840e7 wsJ5_getBytes_840e7) := goodIn_app (goodIn_of _ (by decide +kernel)) ggJ5_append_2ceeb_J5_getBytes_840e7
theorem dJ5_append_2ceeb_0 : decode cJ5_append_2ceeb 0 = .ok (.aload_n 1, 1) := by decide +kernel
theorem dJ5_append_2ceeb_1 : decode cJ5_append_2ceeb 1 = .ok (.ifnonnull 8, 3) := by decide +kernel
theorem dJ5_append_2ceeb_4 : decode cJ5_append_2ceeb 4 = .ok (.aload_n 0, 1) := by decide +kernel
theorem dJ5_append_2ceeb_5 : decode cJ5_append_2ceeb 5 = .ok (.invokevirtual 204, 3) := by decide +kernel
theorem dJ5_append_2ceeb_8 : decode cJ5_append_2ceeb 8 = .ok (.areturn, 1) := by decide +kernel
theorem dJ5_append_2ceeb_9 : decode cJ5_append_2ceeb 9 = .ok (.aload_n 1, 1) := by decide +kernel
theorem dJ5_append_2ceeb_10 : decode cJ5_append_2ceeb 10 = .ok (.invokevirtual 160, 3) := by decide +kernel
theorem dJ5_append_2ceeb_13 : decode cJ5_append_2ceeb 13 = .ok (.istore_n 2, 1) := by decide +kernel
theorem dJ5_append_2ceeb_14 : decode cJ5_append_2ceeb 14 = .ok (.aload_n 0, 1) := by decide +kernel
theorem dJ5_append_2ceeb_15 : decode cJ5_append_2ceeb 15 = .ok (.aload_n 0, 1) := by decide +kernel
theorem dJ5_append_2ceeb_16 : decode cJ5_append_2ceeb 16 = .ok (.getfield 79, 3) := by decide +kernel
theorem dJ5_append_2ceeb_19 : decode cJ5_append_2ceeb 19 = .ok (.iload_n 2, 1) := by decide +kernel
theorem dJ5_append_2ceeb_20 : decode cJ5_append_2ceeb 20 = .ok (.iadd, 1) := by decide +kernel
theorem dJ5_append_2ceeb_21 : decode cJ5_append_2ceeb 21 = .ok (.invokevirtual 100, 3) := by decide +kernel
theorem dJ5_append_2ceeb_24 : decode cJ5_append_2ceeb 24 = .ok (.aload_n 0, 1) := by decide +kernel
theorem dJ5_append_2ceeb_25 : decode cJ5_append_2ceeb 25 = .ok (.aload_n 1, 1) := by decide +kernel
theorem dJ5_append_2ceeb_26 : decode cJ5_append_2ceeb 26 = .ok (.invokevirtual 215, 3) := by decide +kernel
theorem dJ5_append_2ceeb_29 : decode cJ5_append_2ceeb 29 = .ok (.aload_n 1, 1) := by decide +kernel
theorem dJ5_append_2ceeb_30 : decode cJ5_append_2ceeb 30 = .ok (.aload_n 0, 1) := by decide +kernel
theorem dJ5_append_2ceeb_31 : decode cJ5_append_2ceeb 31 = .ok (.getfield 15, 3) := by decide +kernel
theorem dJ5_append_2ceeb_34 : decode cJ5_append_2ceeb 34 = .ok (.aload_n 0, 1) := by decide +kernel
theorem dJ5_append_2ceeb_35 : decode cJ5_append_2ceeb 35 = .ok (.getfield 79, 3) := by decide +kernel
theorem dJ5_append_2ceeb_38 : decode cJ5_append_2ceeb 38 = .ok (.aload_n 0, 1) := by decide +kernel
theorem dJ5_append_2ceeb_39 : decode cJ5_append_2ceeb 39 = .ok (.getfield 22, 3) := by decide +kernel
theorem dJ5_append_2ceeb_42 : decode cJ5_append_2ceeb 42 = .ok (.invokevirtual 219, 3) := by decide +kernel
theorem dJ5_append_2ceeb_45 : decode cJ5_append_2ceeb 45 = .ok (.aload_n 0, 1) := by decide +kernel
theorem dJ5_append_2ceeb_46 : decode cJ5_append_2ceeb 46 = .ok (.dup, 1) := by decide +kernel
theorem dJ5_append_2ceeb_47 : decode cJ5_append_2ceeb 47 = .ok (.getfield 79, 3) := by decide +kernel
theorem dJ5_append_2ceeb_50 : decode cJ5_append_2ceeb 50 = .ok (.iload_n 2, 1) := by decide +kernel
theorem dJ5_append_2ceeb_51 : decode cJ5_append_2ceeb 51 = .ok (.iadd, 1) := by decide +kernel
theorem dJ5_append_2ceeb_52 : decode cJ5_append_2ceeb 52 = .ok (.putfield 79, 3) := by decide +kernel
theorem dJ5_append_2ceeb_55 : decode cJ5_append_2ceeb 55 = .ok (.aload_n 0, 1) := by decide +kernel
theorem dJ5_append_2ceeb_56 : decode cJ5_append_2ceeb 56 = .ok (.dup, 1) := by decide +kernel
theorem dJ5_append_2ceeb_57 : decode cJ5_append_2ceeb 57 = .ok (.getfield 73, 3) := by decide +kernel
theorem dJ5_append_2ceeb_60 : decode cJ5_append_2ceeb 60 = .ok (.aload_n 1, 1) := by decide +kernel
theorem dJ5_append_2ceeb_61 : decode cJ5_append_2ceeb 61 = .ok (.getfield 73, 3) := by decide +kernel
theorem dJ5_append_2ceeb_64 : decode cJ5_append_2ceeb 64 = .ok (.ior, 1) := by decide +kernel
theorem dJ5_append_2ceeb_65 : decode cJ5_append_2ceeb 65 = .ok (.putfield 73, 3) := by decide +kernel
theorem dJ5_append_2ceeb_68 : decode cJ5_append_2ceeb 68 = .ok (.aload_n 0, 1) := by decide +kernel
theorem dJ5_append_2ceeb_69 : decode cJ5_append_2ceeb 69 = .ok (.areturn, 1) := by decide +kernel
set_option maxRecDepth 20000 in
theorem ggJ5_append_8f9a3_J5_appendNull_278bc : GoodIn wsJ5_append_8f9a3 wsJ5_appendNull_278bc := goodIn_r _ [8, 9, 10, 11, 12, 13, 14, 7, 15, 16, 17, 18, 19, 20, 21, 22, 23, 24, 25, 26, 27, 28, 29, 30, 31, 32, 33, 34, 35, 36, 37, 38, 39, 40, 41, 42, 43, 44, 45, 46, 47, 48, 49, 50, 51, 52, 53, 54, 55, 56, 57, 58, 59, 60, 61, 62, 63, 64, 65, 66, 67, 68, 69, 70, 71, 72, 73, 74, 75, 76, 77, 78, 79, 80, 81, 82, 83, 268, 269, 270, 271] (by decide +kernel) (by decide +kernel)
set_option maxRecDepth 20000 in
theorem gJ5_append_8f9a3_J5_appendNull_278bc_u204J4 : GoodIn wsJ5_append_8f9a3 (va_wsU RJ5 204 RJ4 "java/lang/AbstractStringBuilder" ⟨"java/lang/AbstractStringBuilder", "appendNull", "()Ljava/lang/AbstractStringBuilder;"⟩ yJ5_appendNull_278bc wsJ5_appendNull_278bc) := goodIn_app (goodIn_of _ (by decide +kernel)) ggJ5_append_8f9a3_J5_appendNull_278bc
set_option maxRecDepth 20000 in
theorem ggJ5_append_8f9a3_J4_append_cf1ce : GoodIn wsJ5_append_8f9a3 wsJ4_append_cf1ce := goodIn_r _ [90, 91, 92, 93, 89, 94, 95, 85, 96, 97, 7, 98, 9, 3, 4, 5, 6, 8, 10, 11, 12, 13, 14, 15, 16, 17, 18, 19, 20, 21, 22, 23, 24, 25, 26, 27, 28, 29, 30, 31, 32, 33, 34, 35, 36, 37, 38, 39, 40, 41, 42, 43, 44, 45, 46, 47, 48, 49, 50, 51, 52, 53, 54, 55, 56, 57, 58, 59, 60, 61, 62, 63, 64, 65, 66, 67, 68, 69, 70, 71, 72, 73, 74, 75, 76, 77, 78, 79, 80, 81, 82, 83, 99, 100, 101, 102, 103, 104, 105, 106, 107, 108, 109, 110, 111, 112, 113, 114, 115, 116, 117, 118, 119, 120, 121, 122, 123, 124, 125, 126, 127, 128, 129, 130, 131, 132, 133, 134, 135, 136, 137, 138, 139, 140, 141, 142, 143, 144, 145, 146, 147, 148, 149, 150, 151, 152, 153, 154, 268, 269, 270, 271, 272, 273, 274, 275] (by decide +kernel) (by decide +kernel)
set_option maxRecDepth 20000 in
theorem gJ5_append_8f9a3_J4_append_cf1ce_u43J4 : GoodIn wsJ5_append_8f9a3 (va_wsO RJ5 43 RJ4 "java/lang/AbstractStringBuilder" ⟨"java/lang/AbstractStringBuilder", "append", "(Ljava/lang/String;)Ljava/lang/AbstractStringBuilder;"⟩ yJ4_append_cf1ce wsJ4_append_cf1ce) := goodIn_app (goodIn_of _ (by decide +kernel)) ggJ5_append_8f9a3_J4_append_cf1ce
set_option maxRecDepth 20000 in
theorem ggJ5_append_8f9a3_J5_append_2ceeb : GoodIn wsJ5_append_8f9a3 wsJ5_append_2ceeb := goodIn_r _ [159, 9, 10, 16, 160, 3, 4, 5, 6, 7, 8, 11, 12, 13, 14, 15, 17, 18, 19, 20, 21, 22, 23, 24, 25, 26, 27, 28, 29, 30, 31, 32, 33, 34, 35, 36, 37, 38, 39, 40, 41, 42, 43, 44, 45, 46, 47, 48, 49, 50, 51, 52, 53, 54, 55, 56, 57, 58, 59, 60, 61, 62, 63, 64, 65, 66, 67, 68, 69, 70, 71, 72, 73, 74, 75, 76, 77, 78, 79, 80, 81, 82, 83, 161, 162, 163, 164, 165, 89, 166, 167, 96, 168, 169, 170, 171, 172, 173, 174, 175, 176, 177, 178, 179, 121, 122, 123, 124, 125, 126, 127, 128, 129, 130, 131, 132, 133, 134, 135, 136, 137, 138, 139, 140, 141, 142, 143, 144, 145, 146, 147, 148, 180, 181, 182, 183, 184, 185, 268, 269, 270, 271] (by decide +kernel) (by decide +kernel)
set_option maxRecDepth 20000 in
theorem gJ5_append_8f9a3_J5_append_2ceeb_u212J4 : GoodIn wsJ5_append_8f9a3 (va_wsU RJ5 212 RJ4 "java/lang/AbstractStringBuilder" ⟨"java/lang/AbstractStringBuilder", "append", "(Ljava/lang/AbstractStringBuilder;)Ljava/lang/AbstractStringBuilder;"⟩ yJ5_append_2ceeb wsJ5_append_2ceeb) := goodIn_app (goodIn_of _ (by decide +kernel)) ggJ5_append_8f9a3_J5_append_2ceeb
set_option maxRecDepth 20000 in
theorem ggJ5_append_8f9a3_J0_length_8abf5 : GoodIn wsJ5_append_8f9a3 wsJ0_length_8abf5 := goodIn_r _ [102, 103, 104, 105, 106, 72, 107, 108, 109, 272, 273, 274, 275] (by decide +kernel) (by decide +kernel)
set_option maxRecDepth 20000 in
theorem gJ5_append_8f9a3_J0_length_8abf5_f47J0 : GoodIn wsJ5_append_8f9a3 (va_wsF RJ5 47 RJ0 ⟨"java/lang/CharSequence", "length", "()I"⟩ yJ0_length_8abf5 wsJ0_length_8abf5) := goodIn_app (goodIn_of _ (by decide +kernel)) ggJ5_append_8f9a3_J0_length_8abf5
set_option maxRecDepth 20000 in
theorem ggJ5_append_8f9a3_J4_length_8abf5 : GoodIn wsJ5_append_8f9a3 wsJ4_length_8abf5 := goodIn_r _ [166, 167, 162, 96, 168, 7, 169, 9, 268, 269, 270, 271] (by decide +kernel) (by decide +kernel)
set_option maxRecDepth 20000 in
theorem gJ5_append_8f9a3_J4_length_8abf5_f47J4 : GoodIn wsJ5_append_8f9a3 (va_wsF RJ5 47 RJ4 ⟨"java/lang/CharSequence", "length", "()I"⟩ yJ4_length_8abf5 wsJ4_length_8abf5) := goodIn_app (goodIn_of _ (by decide +kernel)) ggJ5_append_8f9a3_J4_length_8abf5
set_option maxRecDepth 20000 in
theorem ggJ5_append_8f9a3_J4_append_e1f22 : GoodIn wsJ5_append_8f9a3 wsJ4_append_e1f22 := goodIn_r _ [194, 195, 196, 197, 89, 198, 199, 190, 96, 200, 7, 201, 202, 9, 1, 186, 187, 100, 72, 102, 103, 104, 105, 106, 107, 108, 109, 188, 165, 166, 167, 162, 168, 169, 203, 76, 77, 78, 11, 12, 13, 14, 15, 10, 16, 17, 18, 19, 20, 21, 22, 23, 24, 25, 26, 27, 28, 29, 30, 31, 32, 33, 34, 35, 36, 37, 38, 39, 40, 41, 42, 43, 44, 45, 46, 47, 48, 49, 50, 51, 52, 204, 205, 206, 207, 208, 185, 53, 54, 55, 56, 57, 58, 209, 210, 211, 212, 213, 214, 215, 216, 217, 218, 219, 220, 221, 222, 223, 135, 224, 225, 226, 227, 74, 228, 229, 230, 231, 232, 61, 233, 234, 235, 236, 67, 68, 69, 237, 238, 239, 240, 63, 82, 83, 241, 242, 243, 121, 122, 123, 124, 125, 126, 127, 128, 129, 130, 131, 132, 133, 134, 136, 137, 138, 139, 140, 141, 142, 143, 144, 145, 146, 147, 148, 79, 80, 81, 244, 245, 246, 64, 65, 66, 70, 71, 73, 75, 247, 248, 249, 250, 251, 252, 253, 254, 255, 256, 257, 258, 259, 260, 261, 262, 263, 264, 265, 266, 267, 268, 269, 270, 271, 272, 273, 274, 275] (by decide +kernel) (by decide +kernel)
set_option maxRecDepth 20000 in
theorem gJ5_append_8f9a3_J4_append_e1f22_u223J4 : GoodIn wsJ5_append_8f9a3 (va_wsO RJ5 223 RJ4 "java/lang/AbstractStringBuilder" ⟨"java/lang/AbstractStringBuilder", "append", "(Ljava/lang/CharSequence;II)Ljava/lang/AbstractStringBuilder;"⟩ yJ4_append_e1f22 wsJ4_append_e1f22) := goodIn_app (goodIn_of _ (by decide +kernel)) ggJ5_append_8f9a3_J4_append_e1f22
theorem dJ5_append_8f9a3_0 : decode cJ5_append_8f9a3 0 = .ok (.aload_n 1, 1) := by decide +kernel
theorem dJ5_append_8f9a3_1 : decode cJ5_append_8f9a3 1 = .ok (.ifnonnull 8, 3) := by decide +kernel
theorem dJ5_append_8f9a3_4 : decode cJ5_append_8f9a3 4 = .ok (.aload_n 0, 1) := by decide +kernel
theorem dJ5_append_8f9a3_5 : decode cJ5_append_8f9a3 5 = .ok (.invokevirtual 204, 3) := by decide +kernel
theorem dJ5_append_8f9a3_8 : decode cJ5_append_8f9a3 8 = .ok (.areturn, 1) := by decide +kernel
theorem dJ5_append_8f9a3_9 : decode cJ5_append_8f9a3 9 = .ok (.aload_n 1, 1) := by decide +kernel
theorem dJ5_append_8f9a3_10 : decode cJ5_append_8f9a3 10 = .ok (.instanceof 1, 3) := by decide +kernel
theorem dJ5_append_8f9a3_13 : decode cJ5_append_8f9a3 13 = .ok (.ifCond .eq 12, 3) := by decide +kernel
theorem dJ5_append_8f9a3_16 : decode cJ5_append_8f9a3 16 = .ok (.aload_n 0, 1) := by decide +kernel
theorem dJ5_append_8f9a3_17 : decode cJ5_append_8f9a3 17 = .ok (.aload_n 1, 1) := by decide +kernel
theorem dJ5_append_8f9a3_18 : decode cJ5_append_8f9a3 18 = .ok (.checkcast 1, 3) := by decide +kernel
theorem dJ5_append_8f9a3_21 : decode cJ5_append_8f9a3 21 = .ok (.invokevirtual 43, 3) := by decide +kernel
theorem dJ5_append_8f9a3_24 : decode cJ5_append_8f9a3 24 = .ok (.areturn, 1) := by decide +kernel
theorem dJ5_append_8f9a3_25 : decode cJ5_append_8f9a3 25 = .ok (.aload_n 1, 1) := by decide +kernel
theorem dJ5_append_8f9a3_26 : decode cJ5_append_8f9a3 26 = .ok (.instanceof 10, 3) := by decide +kernel
theorem dJ5_append_8f9a3_29 : decode cJ5_append_8f9a3 29 = .ok (.ifCond .eq 12, 3) := by decide +kernel
theorem dJ5_append_8f9a3_32 : decode cJ5_append_8f9a3 32 = .ok (.aload_n 0, 1) := by decide +kernel
theorem dJ5_append_8f9a3_33 : decode cJ5_append_8f9a3 33 = .ok (.aload_n 1, 1) := by decide +kernel
theorem dJ5_append_8f9a3_34 : decode cJ5_append_8f9a3 34 = .ok (.checkcast 10, 3) := by decide +kernel
theorem dJ5_append_8f9a3_37 : decode cJ5_append_8f9a3 37 = .ok (.invokevirtual 212, 3) := by decide +kernel
theorem dJ5_append_8f9a3_40 : decode cJ5_append_8f9a3 40 = .ok (.areturn, 1) := by decide +kernel
theorem dJ5_append_8f9a3_41 : decode cJ5_append_8f9a3 41 = .ok (.aload_n 0, 1) := by decide +kernel
theorem dJ5_append_8f9a3_42 : decode cJ5_append_8f9a3 42 = .ok (.aload_n 1, 1) := by decide +kernel
theorem dJ5_append_8f9a3_43 : decode cJ5_append_8f9a3 43 = .ok (.iconst 0, 1) := by decide +kernel
theorem dJ5_append_8f9a3_44 : decode cJ5_append_8f9a3 44 = .ok (.aload_n 1, 1) := by decide +kernel
theorem dJ5_append_8f9a3_45 : decode cJ5_append_8f9a3 45 = .ok (.invokeinterface 47 1, 5) := by decide +kernel
theorem dJ5_append_8f9a3_50 : decode cJ5_append_8f9a3 50 = .ok (.invokevirtual 223, 3) := by decide +kernel
theorem dJ5_append_8f9a3_53 : decode cJ5_append_8f9a3 53 = .ok (.areturn, 1) := by decide +kernel
set_option maxRecDepth 20000 in
theorem ggJ5_appendNull_278bc_J5_ensureCapacityInternal_d00df : GoodIn wsJ5_appendNull_278bc wsJ5_ensureCapacityInternal_d00df := goodIn_r _ [8, 2, 9, 10, 11, 12, 13, 7, 14, 15, 16, 17, 18, 19, 20, 21, 22, 23, 24, 25, 26, 27, 28, 29, 30, 31, 32, 33, 34, 35, 36, 37, 38, 39, 40, 41, 42, 43, 44, 45, 77, 78, 79, 80] (by decide +kernel) (by decide +kernel)
set_option maxRecDepth 20000 in
theorem gJ5_appendNull_278bc_J5_ensureCapacityInternal_d00df_u100J4 : GoodIn wsJ5_appendNull_278bc (va_wsU RJ5 100 RJ4 "java/lang/AbstractStringBuilder" ⟨"java/lang/AbstractStringBuilder", "ensureCapacityInternal", "(I)V"⟩ yJ5_ensureCapacityInternal_d00df wsJ5_ensureCapacityInternal_d00df) := goodIn_app (goodIn_of _ (by decide +kernel)) ggJ5_appendNull_278bc_J5_ensureCapacityInternal_d00df
set_option maxRecDepth 20000 in
theorem ggJ5_appendNull_278bc_J5_isLatin1_aae02 : GoodIn wsJ5_appendNull_278bc wsJ5_isLatin1_aae02 := goodIn_r _ [50, 51, 9, 77, 78, 79, 80] (by decide +kernel) (by decide +kernel)
set_option maxRecDepth 20000 in
theorem gJ5_appendNull_278bc_J5_isLatin1_aae02_u83J4 : GoodIn wsJ5_appendNull_278bc (va_wsU RJ5 83 RJ4 "java/lang/AbstractStringBuilder" ⟨"java/lang/AbstractStringBuilder", "isLatin1", "()Z"⟩ yJ5_isLatin1_aae02 wsJ5_isLatin1_aae02) := goodIn_app (goodIn_of _ (by decide +kernel)) ggJ5_appendNull_278bc_J5_isLatin1_aae02
set_option maxRecDepth 20000 in
theorem ggJ5_appendNull_278bc_J2_putCharsAt_cd4e5 : GoodIn wsJ5_appendNull_278bc wsJ2_putCharsAt_cd4e5 := goodIn_r _ [55, 56, 57, 58, 54, 59, 60, 61, 62, 63, 64, 65, 66, 67, 68, 69, 70, 71, 72, 73, 74, 75, 76] (by decide +kernel) (by decide +kernel)
set_option maxRecDepth 20000 in
theorem gJ5_appendNull_278bc_J2_putCharsAt_cd4e5 : GoodIn wsJ5_appendNull_278bc (va_wsS RJ5 226 yJ2_putCharsAt_cd4e5 wsJ2_putCharsAt_cd4e5) := goodIn_app (goodIn_of _ (by decide +kernel)) ggJ5_appendNull_278bc_J2_putCharsAt_cd4e5
theorem dJ5_appendNull_278bc_0 : decode cJ5_appendNull_278bc 0 = .ok (.aload_n 0, 1) := by decide +kernel
theorem dJ5_appendNull_278bc_1 : decode cJ5_appendNull_278bc 1 = .ok (.aload_n 0, 1) := by decide +kernel
theorem dJ5_appendNull_278bc_2 : decode cJ5_appendNull_278bc 2 = .ok (.getfield 79, 3) := by decide +kernel
theorem dJ5_appendNull_278bc_5 : decode cJ5_appendNull_278bc 5 = .ok (.iconst 4, 1) := by decide +kernel
theorem dJ5_appendNull_278bc_6 : decode cJ5_appendNull_278bc 6 = .ok (.iadd, 1) := by decide +kernel
theorem dJ5_appendNull_278bc_7 : decode cJ5_appendNull_278bc 7 = .ok (.invokevirtual 100, 3) := by decide +kernel
theorem dJ5_appendNull_278bc_10 : decode cJ5_appendNull_278bc 10 = .ok (.aload_n 0, 1) := by decide +kernel
theorem dJ5_appendNull_278bc_11 : decode cJ5_appendNull_278bc 11 = .ok (.getfield 79, 3) := by decide +kernel
theorem dJ5_appendNull_278bc_14 : decode cJ5_appendNull_278bc 14 = .ok (.istore_n 1, 1) := by decide +kernel
theorem dJ5_appendNull_278bc_15 : decode cJ5_appendNull_278bc 15 = .ok (.aload_n 0, 1) := by decide +kernel
theorem dJ5_appendNull_278bc_16 : decode cJ5_appendNull_278bc 16 = .ok (.getfield 15, 3) := by decide +kernel
theorem dJ5_appendNull_278bc_19 : decode cJ5_appendNull_278bc 19 = .ok (.astore_n 2, 1) := by decide +kernel
theorem dJ5_appendNull_278bc_20 : decode cJ5_appendNull_278bc 20 = .ok (.aload_n 0, 1) := by decide +kernel
theorem dJ5_appendNull_278bc_21 : decode cJ5_appendNull_278bc 21 = .ok (.invokevirtual 83, 3) := by decide +kernel
theorem dJ5_appendNull_278bc_24 : decode cJ5_appendNull_278bc 24 = .ok (.ifCond .eq 38, 3) := by decide +kernel
theorem dJ5_appendNull_278bc_27 : decode cJ5_appendNull_278bc 27 = .ok (.aload_n 2, 1) := by decide +kernel
theorem dJ5_appendNull_278bc_28 : decode cJ5_appendNull_278bc 28 = .ok (.iload_n 1, 1) := by decide +kernel
theorem dJ5_appendNull_278bc_29 : decode cJ5_appendNull_278bc 29 = .ok (.iinc 1 1, 3) := by decide +kernel
theorem dJ5_appendNull_278bc_32 : decode cJ5_appendNull_278bc 32 = .ok (.bipush 110, 2) := by decide +kernel
theorem dJ5_appendNull_278bc_34 : decode cJ5_appendNull_278bc 34 = .ok (.bastore, 1) := by decide +kernel
theorem dJ5_appendNull_278bc_35 : decode cJ5_appendNull_278bc 35 = .ok (.aload_n 2, 1) := by decide +kernel
theorem dJ5_appendNull_278bc_36 : decode cJ5_appendNull_278bc 36 = .ok (.iload_n 1, 1) := by decide +kernel
theorem dJ5_appendNull_278bc_37 : decode cJ5_appendNull_278bc 37 = .ok (.iinc 1 1, 3) := by decide +kernel
theorem dJ5_appendNull_278bc_40 : decode cJ5_appendNull_278bc 40 = .ok (.bipush 117, 2) := by decide +kernel
theorem dJ5_appendNull_278bc_42 : decode cJ5_appendNull_278bc 42 = .ok (.bastore, 1) := by decide +kernel
theorem dJ5_appendNull_278bc_43 : decode cJ5_appendNull_278bc 43 = .ok (.aload_n 2, 1) := by decide +kernel
theorem dJ5_appendNull_278bc_44 : decode cJ5_appendNull_278bc 44 = .ok (.iload_n 1, 1) := by decide +kernel
theorem dJ5_appendNull_278bc_45 : decode cJ5_appendNull_278bc 45 = .ok (.iinc 1 1, 3) := by decide +kernel
theorem dJ5_appendNull_278bc_48 : decode cJ5_appendNull_278bc 48 = .ok (.bipush 108, 2) := by decide +kernel
theorem dJ5_appendNull_278bc_50 : decode cJ5_appendNull_278bc 50 = .ok (.bastore, 1) := by decide +kernel
theorem dJ5_appendNull_278bc_51 : decode cJ5_appendNull_278bc 51 = .ok (.aload_n 2, 1) := by decide +kernel
theorem dJ5_appendNull_278bc_52 : decode cJ5_appendNull_278bc 52 = .ok (.iload_n 1, 1) := by decide +kernel
theorem dJ5_appendNull_278bc_53 : decode cJ5_appendNull_278bc 53 = .ok (.iinc 1 1, 3) := by decide +kernel
theorem dJ5_appendNull_278bc_56 : decode cJ5_appendNull_278bc 56 = .ok (.bipush 108, 2) := by decide +kernel
theorem dJ5_appendNull_278bc_58 : decode cJ5_appendNull_278bc 58 = .ok (.bastore, 1) := by decide +kernel
theorem dJ5_appendNull_278bc_59 : decode cJ5_appendNull_278bc 59 = .ok (.goto 17, 3) := by decide +kernel
theorem dJ5_appendNull_278bc_62 : decode cJ5_appendNull_278bc 62 = .ok (.aload_n 2, 1) := by decide +kernel
theorem dJ5_appendNull_278bc_63 : decode cJ5_appendNull_278bc 63 = .ok (.iload_n 1, 1) := by decide +kernel
theorem dJ5_appendNull_278bc_64 : decode cJ5_appendNull_278bc 64 = .ok (.bipush 110, 2) := by decide +kernel
theorem dJ5_appendNull_278bc_66 : decode cJ5_appendNull_278bc 66 = .ok (.bipush 117, 2) := by decide +kernel
theorem dJ5_appendNull_278bc_68 : decode cJ5_appendNull_278bc 68 = .ok (.bipush 108, 2) := by decide +kernel
theorem dJ5_appendNull_278bc_70 : decode cJ5_appendNull_278bc 70 = .ok (.bipush 108, 2) := by decide +kernel
theorem dJ5_appendNull_278bc_72 : decode cJ5_appendNull_278bc 72 = .ok (.invokestatic 226, 3) := by decide +kernel
theorem dJ5_appendNull_278bc_75 : decode cJ5_appendNull_278bc 75 = .ok (.istore_n 1, 1) := by decide +kernel
theorem dJ5_appendNull_278bc_76 : decode cJ5_appendNull_278bc 76 = .ok (.aload_n 0, 1) := by decide +kernel
theorem dJ5_appendNull_278bc_77 : decode cJ5_appendNull_278bc 77 = .ok (.iload_n 1, 1) := by decide +kernel
theorem dJ5_appendNull_278bc_78 : decode cJ5_appendNull_278bc 78 = .ok (.putfield 79, 3) := by decide +kernel
theorem dJ5_appendNull_278bc_81 : decode cJ5_appendNull_278bc 81 = .ok (.aload_n 0, 1) := by decide +kernel
theorem dJ5_appendNull_278bc_82 : decode cJ5_appendNull_278bc 82 = .ok (.areturn, 1) := by decide +kernel
set_option maxRecDepth 20000 in
theorem ggJ5_append_e1f22_J0_length_8abf5 : GoodIn wsJ5_append_e1f22 wsJ0_length_8abf5 := goodIn_r _ [8, 9, 10, 11, 12, 7, 13, 14, 15, 194, 195, 196, 197] (by decide +kernel) (by decide +kernel)
set_option maxRecDepth 20000 in
theorem gJ5_append_e1f22_J0_length_8abf5_f47J0 : GoodIn wsJ5_append_e1f22 (va_wsF RJ5 47 RJ0 ⟨"java/lang/CharSequence", "length", "()I"⟩ yJ0_length_8abf5 wsJ0_length_8abf5) := goodIn_app (goodIn_of _ (by decide +kernel)) ggJ5_append_e1f22_J0_length_8abf5
set_option maxRecDepth 20000 in
theorem ggJ5_append_e1f22_J4_length_8abf5 : GoodIn wsJ5_append_e1f22 wsJ4_length_8abf5 := goodIn_r _ [19, 20, 21, 22, 23, 24, 25, 2, 190, 191, 192, 193] (by decide +kernel) (by decide +kernel)
set_option maxRecDepth 20000 in
theorem gJ5_append_e1f22_J4_length_8abf5_f47J4 : GoodIn wsJ5_append_e1f22 (va_wsF RJ5 47 RJ4 ⟨"java/lang/CharSequence", "length", "()I"⟩ yJ4_length_8abf5 wsJ4_length_8abf5) := goodIn_app (goodIn_of _ (by decide +kernel)) ggJ5_append_e1f22_J4_length_8abf5
set_option maxRecDepth 20000 in
theorem ggJ5_append_e1f22_J3_checkFromToIndex_8c36e : GoodIn wsJ5_append_e1f22 wsJ3_checkFromToIndex_8c36e := goodIn_r _ [29] (by decide +kernel) (by decide +kernel)
set_option maxRecDepth 20000 in
theorem gJ5_append_e1f22_J3_checkFromToIndex_8c36e : GoodIn wsJ5_append_e1f22 (va_wsS RJ5 161 yJ3_checkFromToIndex_8c36e wsJ3_checkFromToIndex_8c36e) := goodIn_app (goodIn_of _ (by decide +kernel)) ggJ5_append_e1f22_J3_checkFromToIndex_8c36e
set_option maxRecDepth 20000 in
theorem ggJ5_append_e1f22_J5_ensureCapacityInternal_d00df : GoodIn wsJ5_append_e1f22 wsJ5_ensureCapacityInternal_d00df := goodIn_r _ [34, 35, 36, 37, 38, 39, 40, 24, 41, 42, 43, 44, 45, 46, 47, 48, 49, 50, 51, 52, 53, 54, 55, 56, 57, 58, 59, 60, 61, 62, 63, 64, 65, 66, 67, 68, 69, 70, 71, 72, 190, 191, 192, 193] (by decide +kernel) (by decide +kernel)
set_option maxRecDepth 20000 in
theorem gJ5_append_e1f22_J5_ensureCapacityInternal_d00df_u100J4 : GoodIn wsJ5_append_e1f22 (va_wsU RJ5 100 RJ4 "java/lang/AbstractStringBuilder" ⟨"java/lang/AbstractStringBuilder", "ensureCapacityInternal", "(I)V"⟩ yJ5_ensureCapacityInternal_d00df wsJ5_ensureCapacityInternal_d00df) := goodIn_app (goodIn_of _ (by decide +kernel)) ggJ5_append_e1f22_J5_ensureCapacityInternal_d00df
set_option maxRecDepth 20000 in
theorem ggJ5_append_e1f22_J5_appendChars_3135b : GoodIn wsJ5_append_e1f22 wsJ5_appendChars_3135b := goodIn_r _ [77, 35, 2, 78, 70, 71, 72, 79, 80, 81, 82, 24, 83, 84, 36, 85, 86, 87, 7, 88, 14, 15, 89, 90, 91, 92, 9, 93, 94, 95, 96, 97, 98, 99, 100, 101, 102, 103, 104, 105, 106, 107, 28, 108, 109, 110, 111, 112, 113, 114, 115, 116, 117, 118, 119, 120, 121, 122, 123, 124, 125, 126, 127, 128, 129, 130, 131, 132, 133, 134, 135, 136, 65, 137, 138, 139, 140, 141, 142, 143, 144, 145, 146, 147, 148, 149, 150, 151, 152, 153, 154, 155, 156, 157, 158, 159, 160, 161, 162, 163, 164, 165, 166, 167, 168, 27, 29, 169, 170, 171, 172, 18, 173, 174, 175, 22, 176, 177, 178, 67, 49, 68, 179, 180, 190, 191, 192, 193, 194, 195, 196, 197] (by decide +kernel) (by decide +kernel)
set_option maxRecDepth 20000 in
theorem gJ5_append_e1f22_J5_appendChars_3135b_u232J4 : GoodIn wsJ5_append_e1f22 (va_wsU RJ5 232 RJ4 "java/lang/AbstractStringBuilder" ⟨"java/lang/AbstractStringBuilder", "appendChars", "(Ljava/lang/String;II)V"⟩ yJ5_appendChars_3135b wsJ5_appendChars_3135b) := goodIn_app (goodIn_of _ (by decide +kernel)) ggJ5_append_e1f22_J5_appendChars_3135b
set_option maxRecDepth 20000 in
theorem ggJ5_append_e1f22_J5_appendChars_a91ff : GoodIn wsJ5_append_e1f22 wsJ5_appendChars_a91ff := goodIn_r _ [185, 35, 2, 79, 80, 81, 82, 24, 83, 84, 36, 186, 170, 94, 7, 96, 9, 97, 86, 87, 88, 14, 15, 98, 99, 100, 101, 102, 103, 104, 105, 106, 107, 28, 108, 109, 110, 111, 112, 113, 114, 115, 116, 117, 118, 119, 120, 121, 122, 123, 124, 125, 171, 172, 18, 173, 174, 175, 22, 176, 177, 178, 67, 49, 68, 179, 180, 126, 127, 128, 129, 130, 131, 132, 133, 134, 135, 136, 65, 137, 138, 139, 140, 141, 142, 143, 144, 145, 146, 147, 148, 149, 150, 151, 152, 153, 154, 155, 156, 157, 158, 187, 188, 189, 159, 160, 161, 162, 163, 164, 165, 166, 167, 168, 27, 29, 169, 190, 191, 192, 193, 194, 195, 196, 197] (by decide +kernel) (by decide +kernel)
set_option maxRecDepth 20000 in
theorem gJ5_append_e1f22_J5_appendChars_a91ff_u236J4 : GoodIn wsJ5_append_e1f22 (va_wsU RJ5 236 RJ4 "java/lang/AbstractStringBuilder" ⟨"java/lang/AbstractStringBuilder", "appendChars", "(Ljava/lang/CharSequence;II)V"⟩ yJ5_appendChars_a91ff wsJ5_appendChars_a91ff) := goodIn_app (goodIn_of _ (by decide +kernel)) ggJ5_append_e1f22_J5_appendChars_a91ff
theorem dJ5_append_e1f22_0 : decode cJ5_append_e1f22 0 = .ok (.aload_n 1, 1) := by decide +kernel
theorem dJ5_append_e1f22_1 : decode cJ5_append_e1f22 1 = .ok (.ifnonnull 6, 3) := by decide +kernel
theorem dJ5_append_e1f22_4 : decode cJ5_append_e1f22 4 = .ok (.ldc 230, 2) := by decide +kernel
theorem dJ5_append_e1f22_6 : decode cJ5_append_e1f22 6 = .ok (.astore_n 1, 1) := by decide +kernel
theorem dJ5_append_e1f22_7 : decode cJ5_append_e1f22 7 = .ok (.iload_n 2, 1) := by decide +kernel
theorem dJ5_append_e1f22_8 : decode cJ5_append_e1f22 8 = .ok (.iload_n 3, 1) := by decide +kernel
theorem dJ5_append_e1f22_9 : decode cJ5_append_e1f22 9 = .ok (.aload_n 1, 1) := by decide +kernel
theorem dJ5_append_e1f22_10 : decode cJ5_append_e1f22 10 = .ok (.invokeinterface 47 1, 5) := by decide +kernel
theorem dJ5_append_e1f22_15 : decode cJ5_append_e1f22 15 = .ok (.getstatic 183, 3) := by decide +kernel
theorem dJ5_append_e1f22_18 : decode cJ5_append_e1f22 18 = .ok (.invokestatic 161, 3) := by decide +kernel
theorem dJ5_append_e1f22_21 : decode cJ5_append_e1f22 21 = .ok (.pop, 1) := by decide +kernel
theorem dJ5_append_e1f22_22 : decode cJ5_append_e1f22 22 = .ok (.iload_n 3, 1) := by decide +kernel
theorem dJ5_append_e1f22_23 : decode cJ5_append_e1f22 23 = .ok (.iload_n 2, 1) := by decide +kernel
theorem dJ5_append_e1f22_24 : decode cJ5_append_e1f22 24 = .ok (.isub, 1) := by decide +kernel
theorem dJ5_append_e1f22_25 : decode cJ5_append_e1f22 25 = .ok (.istore 4, 2) := by decide +kernel
theorem dJ5_append_e1f22_27 : decode cJ5_append_e1f22 27 = .ok (.aload_n 0, 1) := by decide +kernel
theorem dJ5_append_e1f22_28 : decode cJ5_append_e1f22 28 = .ok (.aload_n 0, 1) := by decide +kernel
theorem dJ5_append_e1f22_29 : decode cJ5_append_e1f22 29 = .ok (.getfield 79, 3) := by decide +kernel
theorem dJ5_append_e1f22_32 : decode cJ5_append_e1f22 32 = .ok (.iload 4, 2) := by decide +kernel
theorem dJ5_append_e1f22_34 : decode cJ5_append_e1f22 34 = .ok (.iadd, 1) := by decide +kernel
theorem dJ5_append_e1f22_35 : decode cJ5_append_e1f22 35 = .ok (.invokevirtual 100, 3) := by decide +kernel
theorem dJ5_append_e1f22_38 : decode cJ5_append_e1f22 38 = .ok (.aload_n 1, 1) := by decide +kernel
theorem dJ5_append_e1f22_39 : decode cJ5_append_e1f22 39 = .ok (.instanceof 1, 3) := by decide +kernel
theorem dJ5_append_e1f22_42 : decode cJ5_append_e1f22 42 = .ok (.ifCond .eq 16, 3) := by decide +kernel
theorem dJ5_append_e1f22_45 : decode cJ5_append_e1f22 45 = .ok (.aload_n 0, 1) := by decide +kernel
theorem dJ5_append_e1f22_46 : decode cJ5_append_e1f22 46 = .ok (.aload_n 1, 1) := by decide +kernel
theorem dJ5_append_e1f22_47 : decode cJ5_append_e1f22 47 = .ok (.checkcast 1, 3) := by decide +kernel
theorem dJ5_append_e1f22_50 : decode cJ5_append_e1f22 50 = .ok (.iload_n 2, 1) := by decide +kernel
theorem dJ5_append_e1f22_51 : decode cJ5_append_e1f22 51 = .ok (.iload_n 3, 1) := by decide +kernel
theorem dJ5_append_e1f22_52 : decode cJ5_append_e1f22 52 = .ok (.invokevirtual 232, 3) := by decide +kernel
theorem dJ5_append_e1f22_55 : decode cJ5_append_e1f22 55 = .ok (.goto 10, 3) := by decide +kernel
theorem dJ5_append_e1f22_58 : decode cJ5_append_e1f22 58 = .ok (.aload_n 0, 1) := by decide +kernel
theorem dJ5_append_e1f22_59 : decode cJ5_append_e1f22 59 = .ok (.aload_n 1, 1) := by decide +kernel
theorem dJ5_append_e1f22_60 : decode cJ5_append_e1f22 60 = .ok (.iload_n 2, 1) := by decide +kernel
theorem dJ5_append_e1f22_61 : decode cJ5_append_e1f22 61 = .ok (.iload_n 3, 1) := by decide +kernel
theorem dJ5_append_e1f22_62 : decode cJ5_append_e1f22 62 = .ok (.invokevirtual 236, 3) := by decide +kernel
theorem dJ5_append_e1f22_65 : decode cJ5_append_e1f22 65 = .ok (.aload_n 0, 1) := by decide +kernel
theorem dJ5_append_e1f22_66 : decode cJ5_append_e1f22 66 = .ok (.areturn, 1) := by decide +kernel
set_option maxRecDepth 20000 in
theorem ggJ5_append_a1634_J5_ensureCapacityInternal_d00df : GoodIn wsJ5_append_a1634 wsJ5_ensureCapacityInternal_d00df := goodIn_r _ [7, 8, 9, 10, 11, 12, 13, 6, 14, 15, 16, 17, 18, 19, 20, 21, 22, 23, 24, 25, 26, 27, 28, 29, 30, 31, 32, 33, 34, 35, 36, 37, 38, 39, 40, 41, 42, 43, 44, 45, 116, 117, 118, 119] (by decide +kernel) (by decide +kernel)
set_option maxRecDepth 20000 in
theorem gJ5_append_a1634_J5_ensureCapacityInternal_d00df_u100J4 : GoodIn wsJ5_append_a1634 (va_wsU RJ5 100 RJ4 "java/lang/AbstractStringBuilder" ⟨"java/lang/AbstractStringBuilder", "ensureCapacityInternal", "(I)V"⟩ yJ5_ensureCapacityInternal_d00df wsJ5_ensureCapacityInternal_d00df) := goodIn_app (goodIn_of _ (by decide +kernel)) ggJ5_append_a1634_J5_ensureCapacityInternal_d00df
set_option maxRecDepth 20000 in
theorem ggJ5_append_a1634_J5_appendChars_0ad70 : GoodIn wsJ5_append_a1634 wsJ5_appendChars_0ad70 := goodIn_r _ [50, 1, 8, 51, 52, 53, 54, 6, 55, 56, 9, 57, 58, 59, 60, 61, 62, 63, 64, 65, 66, 67, 68, 69, 38, 70, 71, 72, 73, 74, 75, 76, 77, 78, 79, 80, 81, 82, 83, 84, 85, 86, 87, 88, 89, 90, 91, 92, 93, 94, 95, 96, 97, 98, 99, 100, 101, 102, 103, 104, 105, 106, 107, 108, 109, 110, 111, 112, 113, 114, 115, 116, 117, 118, 119] (by decide +kernel) (by decide +kernel)
set_option maxRecDepth 20000 in
theorem gJ5_append_a1634_J5_appendChars_0ad70_u239J4 : GoodIn wsJ5_append_a1634 (va_wsU RJ5 239 RJ4 "java/lang/AbstractStringBuilder" ⟨"java/lang/AbstractStringBuilder", "appendChars", "([CII)V"⟩ yJ5_appendChars_0ad70 wsJ5_appendChars_0ad70) := goodIn_app (goodIn_of _ (by decide +kernel)) ggJ5_append_a1634_J5_appendChars_0ad70
theorem dJ5_append_a1634_0 : decode cJ5_append_a1634 0 = .ok (.aload_n 1, 1) := by decide +kernel
theorem dJ5_append_a1634_1 : decode cJ5_append_a1634 1 = .ok (.arraylength, 1) := by decide +kernel
theorem dJ5_append_a1634_2 : decode cJ5_append_a1634 2 = .ok (.istore_n 2, 1) := by decide +kernel
theorem dJ5_append_a1634_3 : decode cJ5_append_a1634 3 = .ok (.aload_n 0, 1) := by decide +kernel
theorem dJ5_append_a1634_4 : decode cJ5_append_a1634 4 = .ok (.aload_n 0, 1) := by decide +kernel
theorem dJ5_append_a1634_5 : decode cJ5_append_a1634 5 = .ok (.getfield 79, 3) := by decide +kernel
theorem dJ5_append_a1634_8 : decode cJ5_append_a1634 8 = .ok (.iload_n 2, 1) := by decide +kernel
theorem dJ5_append_a1634_9 : decode cJ5_append_a1634 9 = .ok (.iadd, 1) := by decide +kernel
theorem dJ5_append_a1634_10 : decode cJ5_append_a1634 10 = .ok (.invokevirtual 100, 3) := by decide +kernel
theorem dJ5_append_a1634_13 : decode cJ5_append_a1634 13 = .ok (.aload_n 0, 1) := by decide +kernel
theorem dJ5_append_a1634_14 : decode cJ5_append_a1634 14 = .ok (.aload_n 1, 1) := by decide +kernel
theorem dJ5_append_a1634_15 : decode cJ5_append_a1634 15 = .ok (.iconst 0, 1) := by decide +kernel
theorem dJ5_append_a1634_16 : decode cJ5_append_a1634 16 = .ok (.iload_n 2, 1) := by decide +kernel
theorem dJ5_append_a1634_17 : decode cJ5_append_a1634 17 = .ok (.invokevirtual 239, 3) := by decide +kernel
theorem dJ5_append_a1634_20 : decode cJ5_append_a1634 20 = .ok (.aload_n 0, 1) := by decide +kernel
theorem dJ5_append_a1634_21 : decode cJ5_append_a1634 21 = .ok (.areturn, 1) := by decide +kernel
set_option maxRecDepth 20000 in
theorem ggJ5_append_3fe6f_J5_ensureCapacityInternal_d00df : GoodIn wsJ5_append_3fe6f wsJ5_ensureCapacityInternal_d00df := goodIn_r _ [8, 2, 9, 10, 11, 12, 13, 7, 14, 15, 16, 17, 18, 19, 20, 21, 22, 23, 24, 25, 26, 27, 28, 29, 30, 31, 32, 33, 34, 35, 36, 37, 38, 39, 40, 41, 42, 43, 44, 45, 108, 109, 110, 111] (by decide +kernel) (by decide +kernel)
set_option maxRecDepth 20000 in
theorem gJ5_append_3fe6f_J5_ensureCapacityInternal_d00df_u100J4 : GoodIn wsJ5_append_3fe6f (va_wsU RJ5 100 RJ4 "java/lang/AbstractStringBuilder" ⟨"java/lang/AbstractStringBuilder", "ensureCapacityInternal", "(I)V"⟩ yJ5_ensureCapacityInternal_d00df wsJ5_ensureCapacityInternal_d00df) := goodIn_app (goodIn_of _ (by decide +kernel)) ggJ5_append_3fe6f_J5_ensureCapacityInternal_d00df
set_option maxRecDepth 20000 in
theorem ggJ5_append_3fe6f_J5_isLatin1_aae02 : GoodIn wsJ5_append_3fe6f wsJ5_isLatin1_aae02 := goodIn_r _ [50, 51, 9, 108, 109, 110, 111] (by decide +kernel) (by decide +kernel)
set_option maxRecDepth 20000 in
theorem gJ5_append_3fe6f_J5_isLatin1_aae02_u83J4 : GoodIn wsJ5_append_3fe6f (va_wsU RJ5 83 RJ4 "java/lang/AbstractStringBuilder" ⟨"java/lang/AbstractStringBuilder", "isLatin1", "()Z"⟩ yJ5_isLatin1_aae02 wsJ5_isLatin1_aae02) := goodIn_app (goodIn_of _ (by decide +kernel)) ggJ5_append_3fe6f_J5_isLatin1_aae02
set_option maxRecDepth 20000 in
theorem ggJ5_append_3fe6f_J1_canEncode_fc78d : GoodIn wsJ5_append_3fe6f wsJ1_canEncode_fc78d := goodIn_r _ [55] (by decide +kernel) (by decide +kernel)
set_option maxRecDepth 20000 in
theorem gJ5_append_3fe6f_J1_canEncode_fc78d : GoodIn wsJ5_append_3fe6f (va_wsS RJ5 191 yJ1_canEncode_fc78d wsJ1_canEncode_fc78d) := goodIn_app (goodIn_of _ (by decide +kernel)) ggJ5_append_3fe6f_J1_canEncode_fc78d
set_option maxRecDepth 20000 in
theorem ggJ5_append_3fe6f_J5_inflate_da8c8 : GoodIn wsJ5_append_3fe6f wsJ5_inflate_da8c8 := goodIn_r _ [60, 2, 1, 9, 46, 47, 48, 49, 7, 50, 51, 61, 62, 63, 64, 38, 65, 66, 67, 68, 69, 70, 54, 71, 72, 73, 74, 75, 76, 77, 78, 79, 80, 81, 82, 83, 84, 85, 86, 87, 88, 89, 90, 91, 92, 93, 94, 95, 108, 109, 110, 111] (by decide +kernel) (by decide +kernel)
set_option maxRecDepth 20000 in
theorem gJ5_append_3fe6f_J5_inflate_da8c8_u195J4 : GoodIn wsJ5_append_3fe6f (va_wsU RJ5 195 RJ4 "java/lang/AbstractStringBuilder" ⟨"java/lang/AbstractStringBuilder", "inflate", "()V"⟩ yJ5_inflate_da8c8 wsJ5_inflate_da8c8) := goodIn_app (goodIn_of _ (by decide +kernel)) ggJ5_append_3fe6f_J5_inflate_da8c8
set_option maxRecDepth 20000 in
theorem ggJ5_append_3fe6f_J2_putCharSB_b72d1 : GoodIn wsJ5_append_3fe6f wsJ2_putCharSB_b72d1 := goodIn_r _ [98, 99, 100, 63, 101, 78, 79, 80, 102, 103, 83, 104, 85, 105, 106, 88, 107, 90, 91, 92, 93, 94, 95] (by decide +kernel) (by decide +kernel)
set_option maxRecDepth 20000 in
theorem gJ5_append_3fe6f_J2_putCharSB_b72d1 : GoodIn wsJ5_append_3fe6f (va_wsS RJ5 197 yJ2_putCharSB_b72d1 wsJ2_putCharSB_b72d1) := goodIn_app (goodIn_of _ (by decide +kernel)) ggJ5_append_3fe6f_J2_putCharSB_b72d1
theorem dJ5_append_3fe6f_0 : decode cJ5_append_3fe6f 0 = .ok (.aload_n 0, 1) := by decide +kernel
theorem dJ5_append_3fe6f_1 : decode cJ5_append_3fe6f 1 = .ok (.aload_n 0, 1) := by decide +kernel
theorem dJ5_append_3fe6f_2 : decode cJ5_append_3fe6f 2 = .ok (.getfield 79, 3) := by decide +kernel
theorem dJ5_append_3fe6f_5 : decode cJ5_append_3fe6f 5 = .ok (.iconst 1, 1) := by decide +kernel
theorem dJ5_append_3fe6f_6 : decode cJ5_append_3fe6f 6 = .ok (.iadd, 1) := by decide +kernel
theorem dJ5_append_3fe6f_7 : decode cJ5_append_3fe6f 7 = .ok (.invokevirtual 100, 3) := by decide +kernel
theorem dJ5_append_3fe6f_10 : decode cJ5_append_3fe6f 10 = .ok (.aload_n 0, 1) := by decide +kernel
theorem dJ5_append_3fe6f_11 : decode cJ5_append_3fe6f 11 = .ok (.invokevirtual 83, 3) := by decide +kernel
theorem dJ5_append_3fe6f_14 : decode cJ5_append_3fe6f 14 = .ok (.ifCond .eq 31, 3) := by decide +kernel
theorem dJ5_append_3fe6f_17 : decode cJ5_append_3fe6f 17 = .ok (.iload_n 1, 1) := by decide +kernel
theorem dJ5_append_3fe6f_18 : decode cJ5_append_3fe6f 18 = .ok (.invokestatic 191, 3) := by decide +kernel
theorem dJ5_append_3fe6f_21 : decode cJ5_append_3fe6f 21 = .ok (.ifCond .eq 24, 3) := by decide +kernel
theorem dJ5_append_3fe6f_24 : decode cJ5_append_3fe6f 24 = .ok (.aload_n 0, 1) := by decide +kernel
theorem dJ5_append_3fe6f_25 : decode cJ5_append_3fe6f 25 = .ok (.getfield 15, 3) := by decide +kernel
theorem dJ5_append_3fe6f_28 : decode cJ5_append_3fe6f 28 = .ok (.aload_n 0, 1) := by decide +kernel
theorem dJ5_append_3fe6f_29 : decode cJ5_append_3fe6f 29 = .ok (.dup, 1) := by decide +kernel
theorem dJ5_append_3fe6f_30 : decode cJ5_append_3fe6f 30 = .ok (.getfield 79, 3) := by decide +kernel
theorem dJ5_append_3fe6f_33 : decode cJ5_append_3fe6f 33 = .ok (.dup_x1, 1) := by decide +kernel
theorem dJ5_append_3fe6f_34 : decode cJ5_append_3fe6f 34 = .ok (.iconst 1, 1) := by decide +kernel
theorem dJ5_append_3fe6f_35 : decode cJ5_append_3fe6f 35 = .ok (.iadd, 1) := by decide +kernel
theorem dJ5_append_3fe6f_36 : decode cJ5_append_3fe6f 36 = .ok (.putfield 79, 3) := by decide +kernel
theorem dJ5_append_3fe6f_39 : decode cJ5_append_3fe6f 39 = .ok (.iload_n 1, 1) := by decide +kernel
theorem dJ5_append_3fe6f_40 : decode cJ5_append_3fe6f 40 = .ok (.i2b, 1) := by decide +kernel
theorem dJ5_append_3fe6f_41 : decode cJ5_append_3fe6f 41 = .ok (.bastore, 1) := by decide +kernel
theorem dJ5_append_3fe6f_42 : decode cJ5_append_3fe6f 42 = .ok (.goto 33, 3) := by decide +kernel
theorem dJ5_append_3fe6f_45 : decode cJ5_append_3fe6f 45 = .ok (.aload_n 0, 1) := by decide +kernel
theorem dJ5_append_3fe6f_46 : decode cJ5_append_3fe6f 46 = .ok (.invokevirtual 83, 3) := by decide +kernel
theorem dJ5_append_3fe6f_49 : decode cJ5_append_3fe6f 49 = .ok (.ifCond .eq 7, 3) := by decide +kernel
theorem dJ5_append_3fe6f_52 : decode cJ5_append_3fe6f 52 = .ok (.aload_n 0, 1) := by decide +kernel
theorem dJ5_append_3fe6f_53 : decode cJ5_append_3fe6f 53 = .ok (.invokevirtual 195, 3) := by decide +kernel
theorem dJ5_append_3fe6f_56 : decode cJ5_append_3fe6f 56 = .ok (.aload_n 0, 1) := by decide +kernel
theorem dJ5_append_3fe6f_57 : decode cJ5_append_3fe6f 57 = .ok (.getfield 15, 3) := by decide +kernel
theorem dJ5_append_3fe6f_60 : decode cJ5_append_3fe6f 60 = .ok (.aload_n 0, 1) := by decide +kernel
theorem dJ5_append_3fe6f_61 : decode cJ5_append_3fe6f 61 = .ok (.dup, 1) := by decide +kernel
theorem dJ5_append_3fe6f_62 : decode cJ5_append_3fe6f 62 = .ok (.getfield 79, 3) := by decide +kernel
theorem dJ5_append_3fe6f_65 : decode cJ5_append_3fe6f 65 = .ok (.dup_x1, 1) := by decide +kernel
theorem dJ5_append_3fe6f_66 : decode cJ5_append_3fe6f 66 = .ok (.iconst 1, 1) := by decide +kernel
theorem dJ5_append_3fe6f_67 : decode cJ5_append_3fe6f 67 = .ok (.iadd, 1) := by decide +kernel
theorem dJ5_append_3fe6f_68 : decode cJ5_append_3fe6f 68 = .ok (.putfield 79, 3) := by decide +kernel
theorem dJ5_append_3fe6f_71 : decode cJ5_append_3fe6f 71 = .ok (.iload_n 1, 1) := by decide +kernel
theorem dJ5_append_3fe6f_72 : decode cJ5_append_3fe6f 72 = .ok (.invokestatic 197, 3) := by decide +kernel
theorem dJ5_append_3fe6f_75 : decode cJ5_append_3fe6f 75 = .ok (.aload_n 0, 1) := by decide +kernel
theorem dJ5_append_3fe6f_76 : decode cJ5_append_3fe6f 76 = .ok (.areturn, 1) := by decide +kernel
set_option maxRecDepth 20000 in
theorem ggJ5_append_c97b9_J6_stringSize_0f7a4 : GoodIn wsJ5_append_c97b9 wsJ6_stringSize_0f7a4 := goodIn_r _ [6] (by decide +kernel) (by decide +kernel)
set_option maxRecDepth 20000 in
theorem gJ5_append_c97b9_J6_stringSize_0f7a4 : GoodIn wsJ5_append_c97b9 (va_wsS RJ5 245 yJ6_stringSize_0f7a4 wsJ6_stringSize_0f7a4) := goodIn_app (goodIn_of _ (by decide +kernel)) ggJ5_append_c97b9_J6_stringSize_0f7a4
set_option maxRecDepth 20000 in
theorem ggJ5_append_c97b9_J5_ensureCapacityInternal_d00df : GoodIn wsJ5_append_c97b9 wsJ5_ensureCapacityInternal_d00df := goodIn_r _ [12, 2, 13, 14, 15, 16, 17, 11, 18, 19, 20, 21, 22, 23, 24, 25, 26, 27, 28, 29, 30, 31, 32, 33, 34, 35, 36, 37, 38, 39, 40, 41, 42, 43, 44, 45, 46, 47, 48, 49, 91, 92, 93, 94] (by decide +kernel) (by decide +kernel)
set_option maxRecDepth 20000 in
theorem gJ5_append_c97b9_J5_ensureCapacityInternal_d00df_u100J4 : GoodIn wsJ5_append_c97b9 (va_wsU RJ5 100 RJ4 "java/lang/AbstractStringBuilder" ⟨"java/lang/AbstractStringBuilder", "ensureCapacityInternal", "(I)V"⟩ yJ5_ensureCapacityInternal_d00df wsJ5_ensureCapacityInternal_d00df) := goodIn_app (goodIn_of _ (by decide +kernel)) ggJ5_append_c97b9_J5_ensureCapacityInternal_d00df
set_option maxRecDepth 20000 in
theorem ggJ5_append_c97b9_J5_isLatin1_aae02 : GoodIn wsJ5_append_c97b9 wsJ5_isLatin1_aae02 := goodIn_r _ [54, 55, 13, 91, 92, 93, 94] (by decide +kernel) (by decide +kernel)
set_option maxRecDepth 20000 in
theorem gJ5_append_c97b9_J5_isLatin1_aae02_u83J4 : GoodIn wsJ5_append_c97b9 (va_wsU RJ5 83 RJ4 "java/lang/AbstractStringBuilder" ⟨"java/lang/AbstractStringBuilder", "isLatin1", "()Z"⟩ yJ5_isLatin1_aae02 wsJ5_isLatin1_aae02) := goodIn_app (goodIn_of _ (by decide +kernel)) ggJ5_append_c97b9_J5_isLatin1_aae02
set_option maxRecDepth 20000 in
theorem ggJ5_append_c97b9_J6_getChars_ba4f3 : GoodIn wsJ5_append_c97b9 wsJ6_getChars_ba4f3 := goodIn_r _ [58, 59, 60] (by decide +kernel) (by decide +kernel)
set_option maxRecDepth 20000 in
theorem gJ5_append_c97b9_J6_getChars_ba4f3 : GoodIn wsJ5_append_c97b9 (va_wsS RJ5 248 yJ6_getChars_ba4f3 wsJ6_getChars_ba4f3) := goodIn_app (goodIn_of _ (by decide +kernel)) ggJ5_append_c97b9_J6_getChars_ba4f3
set_option maxRecDepth 20000 in
theorem ggJ5_append_c97b9_J2_getChars_46870 : GoodIn wsJ5_append_c97b9 wsJ2_getChars_46870 := goodIn_r _ [64, 65, 66, 67, 63, 68, 69, 70, 71, 72, 73, 74, 75, 76, 77, 78, 79, 80, 81, 82, 83, 84, 85, 86, 87, 88, 89, 90] (by decide +kernel) (by decide +kernel)
set_option maxRecDepth 20000 in
theorem gJ5_append_c97b9_J2_getChars_46870 : GoodIn wsJ5_append_c97b9 (va_wsS RJ5 251 yJ2_getChars_46870 wsJ2_getChars_46870) := goodIn_app (goodIn_of _ (by decide +kernel)) ggJ5_append_c97b9_J2_getChars_46870
theorem dJ5_append_c97b9_0 : decode cJ5_append_c97b9 0 = .ok (.aload_n 0, 1) := by decide +kernel
theorem dJ5_append_c97b9_1 : decode cJ5_append_c97b9 1 = .ok (.getfield 79, 3) := by decide +kernel
theorem dJ5_append_c97b9_4 : decode cJ5_append_c97b9 4 = .ok (.istore_n 2, 1) := by decide +kernel
theorem dJ5_append_c97b9_5 : decode cJ5_append_c97b9 5 = .ok (.iload_n 2, 1) := by decide +kernel
theorem dJ5_append_c97b9_6 : decode cJ5_append_c97b9 6 = .ok (.iload_n 1, 1) := by decide +kernel
theorem dJ5_append_c97b9_7 : decode cJ5_append_c97b9 7 = .ok (.invokestatic 245, 3) := by decide +kernel
theorem dJ5_append_c97b9_10 : decode cJ5_append_c97b9 10 = .ok (.iadd, 1) := by decide +kernel
theorem dJ5_append_c97b9_11 : decode cJ5_append_c97b9 11 = .ok (.istore_n 3, 1) := by decide +kernel
theorem dJ5_append_c97b9_12 : decode cJ5_append_c97b9 12 = .ok (.aload_n 0, 1) := by decide +kernel
theorem dJ5_append_c97b9_13 : decode cJ5_append_c97b9 13 = .ok (.iload_n 3, 1) := by decide +kernel
theorem dJ5_append_c97b9_14 : decode cJ5_append_c97b9 14 = .ok (.invokevirtual 100, 3) := by decide +kernel
theorem dJ5_append_c97b9_17 : decode cJ5_append_c97b9 17 = .ok (.aload_n 0, 1) := by decide +kernel
theorem dJ5_append_c97b9_18 : decode cJ5_append_c97b9 18 = .ok (.invokevirtual 83, 3) := by decide +kernel
theorem dJ5_append_c97b9_21 : decode cJ5_append_c97b9 21 = .ok (.ifCond .eq 16, 3) := by decide +kernel
theorem dJ5_append_c97b9_24 : decode cJ5_append_c97b9 24 = .ok (.iload_n 1, 1) := by decide +kernel
theorem dJ5_append_c97b9_25 : decode cJ5_append_c97b9 25 = .ok (.iload_n 3, 1) := by decide +kernel
theorem dJ5_append_c97b9_26 : decode cJ5_append_c97b9 26 = .ok (.aload_n 0, 1) := by decide +kernel
theorem dJ5_append_c97b9_27 : decode cJ5_append_c97b9 27 = .ok (.getfield 15, 3) := by decide +kernel
theorem dJ5_append_c97b9_30 : decode cJ5_append_c97b9 30 = .ok (.invokestatic 248, 3) := by decide +kernel
theorem dJ5_append_c97b9_33 : decode cJ5_append_c97b9 33 = .ok (.pop, 1) := by decide +kernel
theorem dJ5_append_c97b9_34 : decode cJ5_append_c97b9 34 = .ok (.goto 14, 3) := by decide +kernel
theorem dJ5_append_c97b9_37 : decode cJ5_append_c97b9 37 = .ok (.iload_n 1, 1) := by decide +kernel
theorem dJ5_append_c97b9_38 : decode cJ5_append_c97b9 38 = .ok (.iload_n 2, 1) := by decide +kernel
theorem dJ5_append_c97b9_39 : decode cJ5_append_c97b9 39 = .ok (.iload_n 3, 1) := by decide +kernel
theorem dJ5_append_c97b9_40 : decode cJ5_append_c97b9 40 = .ok (.aload_n 0, 1) := by decide +kernel
theorem dJ5_append_c97b9_41 : decode cJ5_append_c97b9 41 = .ok (.getfield 15, 3) := by decide +kernel
theorem dJ5_append_c97b9_44 : decode cJ5_append_c97b9 44 = .ok (.invokestatic 251, 3) := by decide +kernel
theorem dJ5_append_c97b9_47 : decode cJ5_append_c97b9 47 = .ok (.pop, 1) := by decide +kernel
theorem dJ5_append_c97b9_48 : decode cJ5_append_c97b9 48 = .ok (.aload_n 0, 1) := by decide +kernel
theorem dJ5_append_c97b9_49 : decode cJ5_append_c97b9 49 = .ok (.iload_n 3, 1) := by decide +kernel
theorem dJ5_append_c97b9_50 : decode cJ5_append_c97b9 50 = .ok (.putfield 79, 3) := by decide +kernel
theorem dJ5_append_c97b9_53 : decode cJ5_append_c97b9 53 = .ok (.aload_n 0, 1) := by decide +kernel
theorem dJ5_append_c97b9_54 : decode cJ5_append_c97b9 54 = .ok (.areturn, 1) := by decide +kernel
set_option maxRecDepth 20000 in
theorem ggJ5_append_66267_J13_stringSize_95d88 : GoodIn wsJ5_append_66267 wsJ13_stringSize_95d88 := goodIn_r _ [6, 7, 8] (by decide +kernel) (by decide +kernel)
set_option maxRecDepth 20000 in
theorem gJ5_append_66267_J13_stringSize_95d88 : GoodIn wsJ5_append_66267 (va_wsS RJ5 254 yJ13_stringSize_95d88 wsJ13_stringSize_95d88) := goodIn_app (goodIn_of _ (by decide +kernel)) ggJ5_append_66267_J13_stringSize_95d88
set_option maxRecDepth 20000 in
theorem ggJ5_append_66267_J5_ensureCapacityInternal_d00df : GoodIn wsJ5_append_66267 wsJ5_ensureCapacityInternal_d00df := goodIn_r _ [14, 2, 15, 16, 17, 18, 19, 13, 20, 21, 22, 23, 24, 25, 26, 27, 28, 29, 30, 31, 32, 33, 34, 35, 36, 37, 38, 39, 40, 41, 42, 43, 44, 45, 46, 47, 48, 49, 50, 51, 97, 98, 99, 100] (by decide +kernel) (by decide +kernel)
set_option maxRecDepth 20000 in
theorem gJ5_append_66267_J5_ensureCapacityInternal_d00df_u100J4 : GoodIn wsJ5_append_66267 (va_wsU RJ5 100 RJ4 "java/lang/AbstractStringBuilder" ⟨"java/lang/AbstractStringBuilder", "ensureCapacityInternal", "(I)V"⟩ yJ5_ensureCapacityInternal_d00df wsJ5_ensureCapacityInternal_d00df) := goodIn_app (goodIn_of _ (by decide +kernel)) ggJ5_append_66267_J5_ensureCapacityInternal_d00df
set_option maxRecDepth 20000 in
theorem ggJ5_append_66267_J5_isLatin1_aae02 : GoodIn wsJ5_append_66267 wsJ5_isLatin1_aae02 := goodIn_r _ [56, 57, 15, 97, 98, 99, 100] (by decide +kernel) (by decide +kernel)
set_option maxRecDepth 20000 in
theorem gJ5_append_66267_J5_isLatin1_aae02_u83J4 : GoodIn wsJ5_append_66267 (va_wsU RJ5 83 RJ4 "java/lang/AbstractStringBuilder" ⟨"java/lang/AbstractStringBuilder", "isLatin1", "()Z"⟩ yJ5_isLatin1_aae02 wsJ5_isLatin1_aae02) := goodIn_app (goodIn_of _ (by decide +kernel)) ggJ5_append_66267_J5_isLatin1_aae02
set_option maxRecDepth 20000 in
theorem ggJ5_append_66267_J13_getChars_11360 : GoodIn wsJ5_append_66267 wsJ13_getChars_11360 := goodIn_r _ [60, 61, 62, 63, 64] (by decide +kernel) (by decide +kernel)
set_option maxRecDepth 20000 in
theorem gJ5_append_66267_J13_getChars_11360 : GoodIn wsJ5_append_66267 (va_wsS RJ5 259 yJ13_getChars_11360 wsJ13_getChars_11360) := goodIn_app (goodIn_of _ (by decide +kernel)) ggJ5_append_66267_J13_getChars_11360
set_option maxRecDepth 20000 in
theorem ggJ5_append_66267_J2_getChars_1ba55 : GoodIn wsJ5_append_66267 wsJ2_getChars_1ba55 := goodIn_r _ [68, 69, 70, 71, 67, 72, 73, 74, 75, 76, 77, 78, 79, 80, 81, 82, 83, 84, 85, 86, 87, 88, 89, 90, 91, 92, 93, 94, 95, 96] (by decide +kernel) (by decide +kernel)
set_option maxRecDepth 20000 in
theorem gJ5_append_66267_J2_getChars_1ba55 : GoodIn wsJ5_append_66267 (va_wsS RJ5 262 yJ2_getChars_1ba55 wsJ2_getChars_1ba55) := goodIn_app (goodIn_of _ (by decide +kernel)) ggJ5_append_66267_J2_getChars_1ba55
theorem dJ5_append_66267_0 : decode cJ5_append_66267 0 = .ok (.aload_n 0, 1) := by decide +kernel
theorem dJ5_append_66267_1 : decode cJ5_append_66267 1 = .ok (.getfield 79, 3) := by decide +kernel
theorem dJ5_append_66267_4 : decode cJ5_append_66267 4 = .ok (.istore_n 3, 1) := by decide +kernel
theorem dJ5_append_66267_5 : decode cJ5_append_66267 5 = .ok (.iload_n 3, 1) := by decide +kernel
theorem dJ5_append_66267_6 : decode cJ5_append_66267 6 = .ok (.lload_n 1, 1) := by decide +kernel
theorem dJ5_append_66267_7 : decode cJ5_append_66267 7 = .ok (.invokestatic 254, 3) := by decide +kernel
theorem dJ5_append_66267_10 : decode cJ5_append_66267 10 = .ok (.iadd, 1) := by decide +kernel
theorem dJ5_append_66267_11 : decode cJ5_append_66267 11 = .ok (.istore 4, 2) := by decide +kernel
theorem dJ5_append_66267_13 : decode cJ5_append_66267 13 = .ok (.aload_n 0, 1) := by decide +kernel
theorem dJ5_append_66267_14 : decode cJ5_append_66267 14 = .ok (.iload 4, 2) := by decide +kernel
theorem dJ5_append_66267_16 : decode cJ5_append_66267 16 = .ok (.invokevirtual 100, 3) := by decide +kernel
theorem dJ5_append_66267_19 : decode cJ5_append_66267 19 = .ok (.aload_n 0, 1) := by decide +kernel
theorem dJ5_append_66267_20 : decode cJ5_append_66267 20 = .ok (.invokevirtual 83, 3) := by decide +kernel
theorem dJ5_append_66267_23 : decode cJ5_append_66267 23 = .ok (.ifCond .eq 17, 3) := by decide +kernel
theorem dJ5_append_66267_26 : decode cJ5_append_66267 26 = .ok (.lload_n 1, 1) := by decide +kernel
theorem dJ5_append_66267_27 : decode cJ5_append_66267 27 = .ok (.iload 4, 2) := by decide +kernel
theorem dJ5_append_66267_29 : decode cJ5_append_66267 29 = .ok (.aload_n 0, 1) := by decide +kernel
theorem dJ5_append_66267_30 : decode cJ5_append_66267 30 = .ok (.getfield 15, 3) := by decide +kernel
theorem dJ5_append_66267_33 : decode cJ5_append_66267 33 = .ok (.invokestatic 259, 3) := by decide +kernel
theorem dJ5_append_66267_36 : decode cJ5_append_66267 36 = .ok (.pop, 1) := by decide +kernel
theorem dJ5_append_66267_37 : decode cJ5_append_66267 37 = .ok (.goto 15, 3) := by decide +kernel
theorem dJ5_append_66267_40 : decode cJ5_append_66267 40 = .ok (.lload_n 1, 1) := by decide +kernel
theorem dJ5_append_66267_41 : decode cJ5_append_66267 41 = .ok (.iload_n 3, 1) := by decide +kernel
theorem dJ5_append_66267_42 : decode cJ5_append_66267 42 = .ok (.iload 4, 2) := by decide +kernel
theorem dJ5_append_66267_44 : decode cJ5_append_66267 44 = .ok (.aload_n 0, 1) := by decide +kernel
theorem dJ5_append_66267_45 : decode cJ5_append_66267 45 = .ok (.getfield 15, 3) := by decide +kernel
theorem dJ5_append_66267_48 : decode cJ5_append_66267 48 = .ok (.invokestatic 262, 3) := by decide +kernel
theorem dJ5_append_66267_51 : decode cJ5_append_66267 51 = .ok (.pop, 1) := by decide +kernel
theorem dJ5_append_66267_52 : decode cJ5_append_66267 52 = .ok (.aload_n 0, 1) := by decide +kernel
theorem dJ5_append_66267_53 : decode cJ5_append_66267 53 = .ok (.iload 4, 2) := by decide +kernel
theorem dJ5_append_66267_55 : decode cJ5_append_66267 55 = .ok (.putfield 79, 3) := by decide +kernel
theorem dJ5_append_66267_58 : decode cJ5_append_66267 58 = .ok (.aload_n 0, 1) := by decide +kernel
theorem dJ5_append_66267_59 : decode cJ5_append_66267 59 = .ok (.areturn, 1) := by decide +kernel
set_option maxRecDepth 20000 in
theorem ggJ5_append_b089e_Jx40b00_appendTo_8d9f2 : GoodIn wsJ5_append_b089e wsJx40b00_appendTo_8d9f2 := goodIn_r _ [4, 5, 6, 3, 7, 8, 9, 10, 11, 12, 13, 14, 15, 16, 17, 18, 19, 20, 21, 22, 23, 24, 25, 26, 27, 28, 29, 30, 31, 32, 33, 34, 35, 36, 37, 38, 39, 40, 41, 42, 43, 44, 45, 46, 47, 48, 49, 50, 51, 52, 53, 54, 55, 56, 57, 58, 59, 60, 61, 62, 63, 64, 65, 66, 67, 68, 69, 70, 71, 72, 73, 74, 75, 76, 77, 78, 79, 80, 81, 82, 83, 84, 85, 86, 87, 88, 89, 90, 91, 92, 93, 94, 95, 96, 97, 98, 99, 100, 101, 102, 103, 104, 105, 106, 107, 108, 109, 110, 111, 112, 113, 114, 115, 116, 117, 118, 119, 120, 121, 122, 123, 124, 125, 126, 127, 128, 129, 130, 131, 132, 133, 134, 135, 136, 137, 138, 139, 140, 141, 142, 143, 144, 145, 146, 147, 148, 149, 150, 151, 152, 153, 154, 155, 156, 157, 158, 159, 160, 161, 162, 163, 164, 165, 166, 167, 168, 169, 170, 171, 172, 173, 174, 175, 176, 177, 178, 179, 180, 181, 182, 183, 184, 185, 186, 187, 188, 189, 190, 191, 192, 193, 194, 195, 196, 197, 198, 199, 200, 201, 202, 203, 204, 205, 206, 207, 208, 209, 210, 211, 212, 213, 214, 215, 216, 217, 218, 219, 220, 221, 222, 223, 224, 225, 226, 227, 228, 229, 230, 231, 232, 233, 234, 235, 236, 237, 238, 239, 240, 241, 242, 243, 244, 245, 246, 247, 248, 249, 250, 251, 252, 253, 254, 255, 256, 257, 258, 259, 260, 261, 262, 263, 264, 265, 266, 267, 268, 269, 270, 271, 272, 273, 274, 275, 276, 277, 278, 279, 280, 281, 282, 283, 284, 285, 286, 287, 288, 289, 290, 291, 292, 293, 294, 295, 296, 297, 298, 299, 300, 301, 302, 303, 304, 305, 306, 307, 308, 309, 310, 311, 312, 313, 314, 315, 316, 317, 318, 319, 320, 321, 322, 323, 324, 325, 326, 327, 328, 329, 330, 331, 332, 333, 334, 335, 336, 337, 338, 339, 340, 341, 342, 343, 344, 345, 346, 347, 348, 349, 350, 351, 352, 353, 354, 355, 356, 357, 358, 359, 360, 361, 362, 363, 364, 365, 366, 367, 368, 369, 370, 371, 372, 373, 374, 375, 376, 377, 378, 379, 380, 381, 382, 383, 384, 385, 386, 387, 388, 389, 390, 391, 392, 393, 394, 395, 396, 397, 398, 399, 400, 401, 402, 403, 404, 405, 406, 407, 408, 409, 410, 411, 412, 413, 414, 415, 416, 417, 418, 419, 420, 421, 422, 423, 424, 425, 426, 427, 428, 429, 430, 431, 432, 433, 434, 435, 436] (by decide +kernel) (by decide +kernel)
set_option maxRecDepth 20000 in
theorem gJ5_append_b089e_Jx40b00_appendTo_8d9f2 : GoodIn wsJ5_append_b089e (va_wsS RJ5 265 yJx40b00_appendTo_8d9f2 wsJx40b00_appendTo_8d9f2) := goodIn_app (goodIn_of _ (by decide +kernel)) ggJ5_append_b089e_Jx40b00_appendTo_8d9f2
theorem dJ5_append_b089e_0 : decode cJ5_append_b089e 0 = .ok (.fload_n 1, 1) := by decide +kernel
theorem dJ5_append_b089e_1 : decode cJ5_append_b089e 1 = .ok (.aload_n 0, 1) := by decide +kernel
theorem dJ5_append_b089e_2 : decode cJ5_append_b089e 2 = .ok (.invokestatic 265, 3) := by decide +kernel
theorem dJ5_append_b089e_5 : decode cJ5_append_b089e 5 = .ok (.pop, 1) := by decide +kernel
theorem dJ5_append_b089e_6 : decode cJ5_append_b089e 6 = .ok (.goto 13, 3) := by decide +kernel
theorem dJ5_append_b089e_9 : decode cJ5_append_b089e 9 = .ok (.astore_n 2, 1) := by decide +kernel
theorem dJ5_append_b089e_10 : decode cJ5_append_b089e 10 = .ok (.new 273, 3) := by decide +kernel
theorem dJ5_append_b089e_13 : decode cJ5_append_b089e 13 = .ok (.dup, 1) := by decide +kernel
theorem dJ5_append_b089e_14 : decode cJ5_append_b089e 14 = .ok (.aload_n 2, 1) := by decide +kernel
theorem dJ5_append_b089e_15 : decode cJ5_append_b089e 15 = .ok (.invokespecial 275, 3) := by decide +kernel
theorem dJ5_append_b089e_18 : decode cJ5_append_b089e 18 = .ok (.athrow, 1) := by decide +kernel
theorem dJ5_append_b089e_19 : decode cJ5_append_b089e 19 = .ok (.aload_n 0, 1) := by decide +kernel
theorem dJ5_append_b089e_20 : decode cJ5_append_b089e 20 = .ok (.areturn, 1) := by decide +kernel
set_option maxRecDepth 20000 in
theorem ggJ5_append_9cb98_Jx4497a_appendTo_00aa9 : GoodIn wsJ5_append_9cb98 wsJx4497a_appendTo_00aa9 := goodIn_r _ [4, 5, 6, 3, 7, 8, 9, 10, 11, 12, 13, 14, 15, 16, 17, 18, 19, 20, 21, 22, 23, 24, 25, 26, 27, 28, 29, 30, 31, 32, 33, 34, 35, 36, 37, 38, 39, 40, 41, 42, 43, 44, 45, 46, 47, 48, 49, 50, 51, 52, 53, 54, 55, 56, 57, 58, 59, 60, 61, 62, 63, 64, 65, 66, 67, 68, 69, 70, 71, 72, 73, 74, 75, 76, 77, 78, 79, 80, 81, 82, 83, 84, 85, 86, 87, 88, 89, 90, 91, 92, 93, 94, 95, 96, 97, 98, 99, 100, 101, 102, 103, 104, 105, 106, 107, 108, 109, 110, 111, 112, 113, 114, 115, 116, 117, 118, 119, 120, 121, 122, 123, 124, 125, 126, 127, 128, 129, 130, 131, 132, 133, 134, 135, 136, 137, 138, 139, 140, 141, 142, 143, 144, 145, 146, 147, 148, 149, 150, 151, 152, 153, 154, 155, 156, 157, 158, 159, 160, 161, 162, 163, 164, 165, 166, 167, 168, 169, 170, 171, 172, 173, 174, 175, 176, 177, 178, 179, 180, 181, 182, 183, 184, 185, 186, 187, 188, 189, 190, 191, 192, 193, 194, 195, 196, 197, 198, 199, 200, 201, 202, 203, 204, 205, 206, 207, 208, 209, 210, 211, 212, 213, 214, 215, 216, 217, 218, 219, 220, 221, 222, 223, 224, 225, 226, 227, 228, 229, 230, 231, 232, 233, 234, 235, 236, 237, 238, 239, 240, 241, 242, 243, 244, 245, 246, 247, 248, 249, 250, 251, 252, 253, 254, 255, 256, 257, 258, 259, 260, 261, 262, 263, 264, 265, 266, 267, 268, 269, 270, 271, 272, 273, 274, 275, 276, 277, 278, 279, 280, 281, 282, 283, 284, 285, 286, 287, 288, 289, 290, 291, 292, 293, 294, 295, 296, 297, 298, 299, 300, 301, 302, 303, 304, 305, 306, 307, 308, 309, 310, 311, 312, 313, 314, 315, 316, 317, 318, 319, 320, 321, 322, 323, 324, 325, 326, 327, 328, 329, 330, 331, 332, 333, 334, 335, 336, 337, 338, 339, 340, 341, 342, 343, 344, 345, 346, 347, 348, 349, 350, 351, 352, 353, 354, 355, 356, 357, 358, 359, 360, 361, 362, 363, 364, 365, 366, 367, 368, 369, 370, 371, 372, 373, 374, 375, 376, 377, 378, 379, 380, 381, 382, 383, 384, 385, 386, 387, 388, 389, 390, 391, 392, 393, 394, 395, 396, 397, 398, 399, 400, 401, 402, 403, 404, 405, 406, 407, 408, 409, 410, 411, 412, 413, 414, 415, 416, 417, 418, 419, 420, 421, 422, 423, 424, 425, 426, 427, 428, 429, 430, 431, 432, 433, 434, 435, 436, 437, 438, 439, 440, 441, 442, 443, 444, 445, 446, 447, 448, 449, 450, 451] (by decide +kernel) (by decide +kernel)
set_option maxRecDepth 20000 in
theorem gJ5_append_9cb98_Jx4497a_appendTo_00aa9 : GoodIn wsJ5_append_9cb98 (va_wsS RJ5 278 yJx4497a_appendTo_00aa9 wsJx4497a_appendTo_00aa9) := goodIn_app (goodIn_of _ (by decide +kernel)) ggJ5_append_9cb98_Jx4497a_appendTo_00aa9
theorem dJ5_append_9cb98_0 : decode cJ5_append_9cb98 0 = .ok (.dload_n 1, 1) := by decide +kernel
theorem dJ5_append_9cb98_1 : decode cJ5_append_9cb98 1 = .ok (.aload_n 0, 1) := by decide +kernel
theorem dJ5_append_9cb98_2 : decode cJ5_append_9cb98 2 = .ok (.invokestatic 278, 3) := by decide +kernel
theorem dJ5_append_9cb98_5 : decode cJ5_append_9cb98 5 = .ok (.pop, 1) := by decide +kernel
theorem dJ5_append_9cb98_6 : decode cJ5_append_9cb98 6 = .ok (.goto 13, 3) := by decide +kernel
theorem dJ5_append_9cb98_9 : decode cJ5_append_9cb98 9 = .ok (.astore_n 3, 1) := by decide +kernel
theorem dJ5_append_9cb98_10 : decode cJ5_append_9cb98 10 = .ok (.new 273, 3) := by decide +kernel
theorem dJ5_append_9cb98_13 : decode cJ5_append_9cb98 13 = .ok (.dup, 1) := by decide +kernel
theorem dJ5_append_9cb98_14 : decode cJ5_append_9cb98 14 = .ok (.aload_n 3, 1) := by decide +kernel
theorem dJ5_append_9cb98_15 : decode cJ5_append_9cb98 15 = .ok (.invokespecial 275, 3) := by decide +kernel
theorem dJ5_append_9cb98_18 : decode cJ5_append_9cb98 18 = .ok (.athrow, 1) := by decide +kernel
theorem dJ5_append_9cb98_19 : decode cJ5_append_9cb98 19 = .ok (.aload_n 0, 1) := by decide +kernel
theorem dJ5_append_9cb98_20 : decode cJ5_append_9cb98 20 = .ok (.areturn, 1) := by decide +kernel
theorem dJ5_getValue_6d5f1_0 : decode cJ5_getValue_6d5f1 0 = .ok (.aload_n 0, 1) := by decide +kernel
theorem dJ5_getValue_6d5f1_1 : decode cJ5_getValue_6d5f1 1 = .ok (.getfield 15, 3) := by decide +kernel
theorem dJ5_getValue_6d5f1_4 : decode cJ5_getValue_6d5f1 4 = .ok (.areturn, 1) := by decide +kernel
set_option maxRecDepth 20000 in
theorem ggJ5_getBytes_840e7_J1_inflate_0e8fd : GoodIn wsJ5_getBytes_840e7 wsJ1_inflate_0e8fd := goodIn_r _ [11, 12, 13, 14, 15, 16, 17, 18, 19, 20, 21, 22, 23, 24, 25, 26, 27, 28, 29, 30, 31, 32, 33, 34, 35, 36] (by decide +kernel) (by decide +kernel)
set_option maxRecDepth 20000 in
theorem gJ5_getBytes_840e7_J1_inflate_0e8fd : GoodIn wsJ5_getBytes_840e7 (va_wsS RJ5 125 yJ1_inflate_0e8fd wsJ1_inflate_0e8fd) := goodIn_app (goodIn_of _ (by decide +kernel)) ggJ5_getBytes_840e7_J1_inflate_0e8fd
theorem dJ5_getBytes_840e7_0 : decode cJ5_getBytes_840e7 0 = .ok (.aload_n 0, 1) := by decide +kernel
theorem dJ5_getBytes_840e7_1 : decode cJ5_getBytes_840e7 1 = .ok (.getfield 22, 3) := by decide +kernel
theorem dJ5_getBytes_840e7_4 : decode cJ5_getBytes_840e7 4 = .ok (.iload_n 3, 1) := by decide +kernel
theorem dJ5_getBytes_840e7_5 : decode cJ5_getBytes_840e7 5 = .ok (.if_icmp .ne 24, 3) := by decide +kernel
theorem dJ5_getBytes_840e7_8 : decode cJ5_getBytes_840e7 8 = .ok (.aload_n 0, 1) := by decide +kernel
theorem dJ5_getBytes_840e7_9 : decode cJ5_getBytes_840e7 9 = .ok (.getfield 15, 3) := by decide +kernel
theorem dJ5_getBytes_840e7_12 : decode cJ5_getBytes_840e7 12 = .ok (.iconst 0, 1) := by decide +kernel
theorem dJ5_getBytes_840e7_13 : decode cJ5_getBytes_840e7 13 = .ok (.aload_n 1, 1) := by decide +kernel
theorem dJ5_getBytes_840e7_14 : decode cJ5_getBytes_840e7 14 = .ok (.iload_n 2, 1) := by decide +kernel
theorem dJ5_getBytes_840e7_15 : decode cJ5_getBytes_840e7 15 = .ok (.iload_n 3, 1) := by decide +kernel
theorem dJ5_getBytes_840e7_16 : decode cJ5_getBytes_840e7 16 = .ok (.ishl, 1) := by decide +kernel
theorem dJ5_getBytes_840e7_17 : decode cJ5_getBytes_840e7 17 = .ok (.aload_n 0, 1) := by decide +kernel
theorem dJ5_getBytes_840e7_18 : decode cJ5_getBytes_840e7 18 = .ok (.getfield 79, 3) := by decide +kernel
theorem dJ5_getBytes_840e7_21 : decode cJ5_getBytes_840e7 21 = .ok (.iload_n 3, 1) := by decide +kernel
theorem dJ5_getBytes_840e7_22 : decode cJ5_getBytes_840e7 22 = .ok (.ishl, 1) := by decide +kernel
theorem dJ5_getBytes_840e7_23 : decode cJ5_getBytes_840e7 23 = .ok (.invokestatic 309, 3) := by decide +kernel
theorem dJ5_getBytes_840e7_26 : decode cJ5_getBytes_840e7 26 = .ok (.goto 17, 3) := by decide +kernel
theorem dJ5_getBytes_840e7_29 : decode cJ5_getBytes_840e7 29 = .ok (.aload_n 0, 1) := by decide +kernel
theorem dJ5_getBytes_840e7_30 : decode cJ5_getBytes_840e7 30 = .ok (.getfield 15, 3) := by decide +kernel
theorem dJ5_getBytes_840e7_33 : decode cJ5_getBytes_840e7 33 = .ok (.iconst 0, 1) := by decide +kernel
theorem dJ5_getBytes_840e7_34 : decode cJ5_getBytes_840e7 34 = .ok (.aload_n 1, 1) := by decide +kernel
theorem dJ5_getBytes_840e7_35 : decode cJ5_getBytes_840e7 35 = .ok (.iload_n 2, 1) := by decide +kernel
theorem dJ5_getBytes_840e7_36 : decode cJ5_getBytes_840e7 36 = .ok (.aload_n 0, 1) := by decide +kernel
theorem dJ5_getBytes_840e7_37 : decode cJ5_getBytes_840e7 37 = .ok (.getfield 79, 3) := by decide +kernel
theorem dJ5_getBytes_840e7_40 : decode cJ5_getBytes_840e7 40 = .ok (.invokestatic 125, 3) := by decide +kernel
theorem dJ5_getBytes_840e7_43 : decode cJ5_getBytes_840e7 43 = .ok (.return_, 1) := by decide +kernel
theorem dJ5_getCoder_7d493_0 : decode cJ5_getCoder_7d493 0 = .ok (.getstatic 18, 3) := by decide +kernel
theorem dJ5_getCoder_7d493_3 : decode cJ5_getCoder_7d493 3 = .ok (.ifCond .eq 10, 3) := by decide +kernel
theorem dJ5_getCoder_7d493_6 : decode cJ5_getCoder_7d493 6 = .ok (.aload_n 0, 1) := by decide +kernel
theorem dJ5_getCoder_7d493_7 : decode cJ5_getCoder_7d493 7 = .ok (.getfield 22, 3) := by decide +kernel
theorem dJ5_getCoder_7d493_10 : decode cJ5_getCoder_7d493 10 = .ok (.goto 4, 3) := by decide +kernel
theorem dJ5_getCoder_7d493_13 : decode cJ5_getCoder_7d493 13 = .ok (.iconst 1, 1) := by decide +kernel
theorem dJ5_getCoder_7d493_14 : decode cJ5_getCoder_7d493 14 = .ok (.ireturn, 1) := by decide +kernel
theorem dJ5_isLatin1_aae02_0 : decode cJ5_isLatin1_aae02 0 = .ok (.getstatic 18, 3) := by decide +kernel
theorem dJ5_isLatin1_aae02_3 : decode cJ5_isLatin1_aae02 3 = .ok (.ifCond .eq 14, 3) := by decide +kernel
theorem dJ5_isLatin1_aae02_6 : decode cJ5_isLatin1_aae02 6 = .ok (.aload_n 0, 1) := by decide +kernel
theorem dJ5_isLatin1_aae02_7 : decode cJ5_isLatin1_aae02 7 = .ok (.getfield 22, 3) := by decide +kernel
theorem dJ5_isLatin1_aae02_10 : decode cJ5_isLatin1_aae02 10 = .ok (.ifCond .ne 7, 3) := by decide +kernel
theorem dJ5_isLatin1_aae02_13 : decode cJ5_isLatin1_aae02 13 = .ok (.iconst 1, 1) := by decide +kernel
theorem dJ5_isLatin1_aae02_14 : decode cJ5_isLatin1_aae02 14 = .ok (.goto 4, 3) := by decide +kernel
theorem dJ5_isLatin1_aae02_17 : decode cJ5_isLatin1_aae02 17 = .ok (.iconst 0, 1) := by decide +kernel
theorem dJ5_isLatin1_aae02_18 : decode cJ5_isLatin1_aae02 18 = .ok (.ireturn, 1) := by decide +kernel
set_option maxRecDepth 20000 in
theorem ggJ5_inflateIfNeededFor_a7421_J0_coder_7d493 : GoodIn wsJ5_inflateIfNeededFor_a7421 wsJ0_coder_7d493 := goodIn_r _ [7, 8, 9, 63, 64, 65, 66] (by decide +kernel) (by decide +kernel)
set_option maxRecDepth 20000 in
theorem gJ5_inflateIfNeededFor_a7421_J0_coder_7d493 : GoodIn wsJ5_inflateIfNeededFor_a7421 (wsV RJ5 40 RJ0 yJ0_coder_7d493 wsJ0_coder_7d493) := goodIn_app (goodIn_of _ (by decide +kernel)) ggJ5_inflateIfNeededFor_a7421_J0_coder_7d493
set_option maxRecDepth 20000 in
theorem ggJ5_inflateIfNeededFor_a7421_J5_inflate_da8c8 : GoodIn wsJ5_inflateIfNeededFor_a7421 wsJ5_inflate_da8c8 := goodIn_r _ [15, 16, 17, 2, 18, 19, 20, 21, 14, 22, 1, 23, 24, 25, 26, 27, 28, 29, 30, 31, 32, 33, 34, 35, 36, 37, 38, 39, 40, 41, 42, 43, 44, 45, 46, 6, 47, 48, 49, 50, 51, 52, 53, 54, 55, 56, 57, 58, 59, 60, 61, 62] (by decide +kernel) (by decide +kernel)
set_option maxRecDepth 20000 in
theorem gJ5_inflateIfNeededFor_a7421_J5_inflate_da8c8_u195J4 : GoodIn wsJ5_inflateIfNeededFor_a7421 (va_wsU RJ5 195 RJ4 "java/lang/AbstractStringBuilder" ⟨"java/lang/AbstractStringBuilder", "inflate", "()V"⟩ yJ5_inflate_da8c8 wsJ5_inflate_da8c8) := goodIn_app (goodIn_of _ (by decide +kernel)) ggJ5_inflateIfNeededFor_a7421_J5_inflate_da8c8
theorem dJ5_inflateIfNeededFor_a7421_0 : decode cJ5_inflateIfNeededFor_a7421 0 = .ok (.getstatic 18, 3) := by decide +kernel
theorem dJ5_inflateIfNeededFor_a7421_3 : decode cJ5_inflateIfNeededFor_a7421 3 = .ok (.ifCond .eq 18, 3) := by decide +kernel
theorem dJ5_inflateIfNeededFor_a7421_6 : decode cJ5_inflateIfNeededFor_a7421 6 = .ok (.aload_n 0, 1) := by decide +kernel
theorem dJ5_inflateIfNeededFor_a7421_7 : decode cJ5_inflateIfNeededFor_a7421 7 = .ok (.getfield 22, 3) := by decide +kernel
theorem dJ5_inflateIfNeededFor_a7421_10 : decode cJ5_inflateIfNeededFor_a7421 10 = .ok (.aload_n 1, 1) := by decide +kernel
theorem dJ5_inflateIfNeededFor_a7421_11 : decode cJ5_inflateIfNeededFor_a7421 11 = .ok (.invokevirtual 40, 3) := by decide +kernel
theorem dJ5_inflateIfNeededFor_a7421_14 : decode cJ5_inflateIfNeededFor_a7421 14 = .ok (.if_icmp .eq 7, 3) := by decide +kernel
theorem dJ5_inflateIfNeededFor_a7421_17 : decode cJ5_inflateIfNeededFor_a7421 17 = .ok (.aload_n 0, 1) := by decide +kernel
theorem dJ5_inflateIfNeededFor_a7421_18 : decode cJ5_inflateIfNeededFor_a7421 18 = .ok (.invokevirtual 195, 3) := by decide +kernel
theorem dJ5_inflateIfNeededFor_a7421_21 : decode cJ5_inflateIfNeededFor_a7421 21 = .ok (.return_, 1) := by decide +kernel
set_option maxRecDepth 20000 in
theorem ggJ5_inflateIfNeededFor_56e69_J5_getCoder_7d493 : GoodIn wsJ5_inflateIfNeededFor_56e69 wsJ5_getCoder_7d493 := goodIn_r _ [8, 1, 2, 58, 59, 60, 61] (by decide +kernel) (by decide +kernel)
set_option maxRecDepth 20000 in
theorem gJ5_inflateIfNeededFor_56e69_J5_getCoder_7d493_u70J4 : GoodIn wsJ5_inflateIfNeededFor_56e69 (va_wsU RJ5 70 RJ4 "java/lang/AbstractStringBuilder" ⟨"java/lang/AbstractStringBuilder", "getCoder", "()B"⟩ yJ5_getCoder_7d493 wsJ5_getCoder_7d493) := goodIn_app (goodIn_of _ (by decide +kernel)) ggJ5_inflateIfNeededFor_56e69_J5_getCoder_7d493
set_option maxRecDepth 20000 in
theorem ggJ5_inflateIfNeededFor_56e69_J5_inflate_da8c8 : GoodIn wsJ5_inflateIfNeededFor_56e69 wsJ5_inflate_da8c8 := goodIn_r _ [13, 14, 15, 2, 16, 17, 18, 19, 7, 20, 1, 21, 22, 23, 24, 25, 26, 27, 28, 29, 30, 31, 32, 33, 34, 35, 36, 37, 38, 39, 40, 41, 42, 43, 44, 45, 46, 47, 48, 49, 50, 51, 52, 53, 54, 55, 56, 57, 58, 59, 60, 61] (by decide +kernel) (by decide +kernel)
set_option maxRecDepth 20000 in
theorem gJ5_inflateIfNeededFor_56e69_J5_inflate_da8c8_u195J4 : GoodIn wsJ5_inflateIfNeededFor_56e69 (va_wsU RJ5 195 RJ4 "java/lang/AbstractStringBuilder" ⟨"java/lang/AbstractStringBuilder", "inflate", "()V"⟩ yJ5_inflate_da8c8 wsJ5_inflate_da8c8) := goodIn_app (goodIn_of _ (by decide +kernel)) ggJ5_inflateIfNeededFor_56e69_J5_inflate_da8c8
theorem dJ5_inflateIfNeededFor_56e69_0 : decode cJ5_inflateIfNeededFor_56e69 0 = .ok (.getstatic 18, 3) := by decide +kernel
theorem dJ5_inflateIfNeededFor_56e69_3 : decode cJ5_inflateIfNeededFor_56e69 3 = .ok (.ifCond .eq 18, 3) := by decide +kernel
theorem dJ5_inflateIfNeededFor_56e69_6 : decode cJ5_inflateIfNeededFor_56e69 6 = .ok (.aload_n 0, 1) := by decide +kernel
theorem dJ5_inflateIfNeededFor_56e69_7 : decode cJ5_inflateIfNeededFor_56e69 7 = .ok (.getfield 22, 3) := by decide +kernel
theorem dJ5_inflateIfNeededFor_56e69_10 : decode cJ5_inflateIfNeededFor_56e69 10 = .ok (.aload_n 1, 1) := by decide +kernel
theorem dJ5_inflateIfNeededFor_56e69_11 : decode cJ5_inflateIfNeededFor_56e69 11 = .ok (.invokevirtual 70, 3) := by decide +kernel
theorem dJ5_inflateIfNeededFor_56e69_14 : decode cJ5_inflateIfNeededFor_56e69 14 = .ok (.if_icmp .eq 7, 3) := by decide +kernel
theorem dJ5_inflateIfNeededFor_56e69_17 : decode cJ5_inflateIfNeededFor_56e69 17 = .ok (.aload_n 0, 1) := by decide +kernel
theorem dJ5_inflateIfNeededFor_56e69_18 : decode cJ5_inflateIfNeededFor_56e69 18 = .ok (.invokevirtual 195, 3) := by decide +kernel
theorem dJ5_inflateIfNeededFor_56e69_21 : decode cJ5_inflateIfNeededFor_56e69 21 = .ok (.return_, 1) := by decide +kernel
set_option maxRecDepth 20000 in
theorem ggJ5_putStringAt_47b60_J5_inflateIfNeededFor_a7421 : GoodIn wsJ5_putStringAt_47b60 wsJ5_inflateIfNeededFor_a7421 := goodIn_r _ [8, 9, 2, 10, 11, 12, 13, 14, 15, 16, 17, 18, 19, 20, 7, 21, 1, 22, 23, 24, 25, 26, 27, 28, 29, 30, 31, 32, 33, 34, 35, 36, 37, 38, 39, 40, 41, 42, 43, 44, 45, 46, 47, 48, 49, 50, 51, 52, 53, 54, 55, 56, 57, 58, 59, 60, 61, 62, 63, 75, 76, 77, 78, 79, 80, 81, 82] (by decide +kernel) (by decide +kernel)
set_option maxRecDepth 20000 in
theorem gJ5_putStringAt_47b60_J5_inflateIfNeededFor_a7421_u397J4 : GoodIn wsJ5_putStringAt_47b60 (va_wsU RJ5 397 RJ4 "java/lang/AbstractStringBuilder" ⟨"java/lang/AbstractStringBuilder", "inflateIfNeededFor", "(Ljava/lang/String;)V"⟩ yJ5_inflateIfNeededFor_a7421 wsJ5_inflateIfNeededFor_a7421) := goodIn_app (goodIn_of _ (by decide +kernel)) ggJ5_putStringAt_47b60_J5_inflateIfNeededFor_a7421
set_option maxRecDepth 20000 in
theorem ggJ5_putStringAt_47b60_J0_getBytes_840e7 : GoodIn wsJ5_putStringAt_47b60 wsJ0_getBytes_840e7 := goodIn_r _ [67, 68, 69, 70, 71, 72, 73, 11, 12, 13, 14, 15, 16, 74, 38, 39, 40, 41, 42, 30, 43, 44, 45, 46, 47, 48, 49, 50, 51, 52, 53, 54, 55, 56, 57, 58, 59, 60, 61, 62, 63, 79, 80, 81, 82] (by decide +kernel) (by decide +kernel)
set_option maxRecDepth 20000 in
theorem gJ5_putStringAt_47b60_J0_getBytes_840e7 : GoodIn wsJ5_putStringAt_47b60 (wsV RJ5 399 RJ0 yJ0_getBytes_840e7 wsJ0_getBytes_840e7) := goodIn_app (goodIn_of _ (by decide +kernel)) ggJ5_putStringAt_47b60_J0_getBytes_840e7
theorem dJ5_putStringAt_47b60_0 : decode cJ5_putStringAt_47b60 0 = .ok (.aload_n 0, 1) := by decide +kernel
theorem dJ5_putStringAt_47b60_1 : decode cJ5_putStringAt_47b60 1 = .ok (.aload_n 2, 1) := by decide +kernel
theorem dJ5_putStringAt_47b60_2 : decode cJ5_putStringAt_47b60 2 = .ok (.invokevirtual 397, 3) := by decide +kernel
theorem dJ5_putStringAt_47b60_5 : decode cJ5_putStringAt_47b60 5 = .ok (.aload_n 2, 1) := by decide +kernel
theorem dJ5_putStringAt_47b60_6 : decode cJ5_putStringAt_47b60 6 = .ok (.aload_n 0, 1) := by decide +kernel
theorem dJ5_putStringAt_47b60_7 : decode cJ5_putStringAt_47b60 7 = .ok (.getfield 15, 3) := by decide +kernel
theorem dJ5_putStringAt_47b60_10 : decode cJ5_putStringAt_47b60 10 = .ok (.iload_n 1, 1) := by decide +kernel
theorem dJ5_putStringAt_47b60_11 : decode cJ5_putStringAt_47b60 11 = .ok (.aload_n 0, 1) := by decide +kernel
theorem dJ5_putStringAt_47b60_12 : decode cJ5_putStringAt_47b60 12 = .ok (.getfield 22, 3) := by decide +kernel
theorem dJ5_putStringAt_47b60_15 : decode cJ5_putStringAt_47b60 15 = .ok (.invokevirtual 399, 3) := by decide +kernel
theorem dJ5_putStringAt_47b60_18 : decode cJ5_putStringAt_47b60 18 = .ok (.return_, 1) := by decide +kernel
set_option maxRecDepth 20000 in
theorem ggJ5_appendChars_0ad70_J5_isLatin1_aae02 : GoodIn wsJ5_appendChars_0ad70 wsJ5_isLatin1_aae02 := goodIn_r _ [8, 9, 10, 71, 72, 73, 74] (by decide +kernel) (by decide +kernel)
set_option maxRecDepth 20000 in
theorem gJ5_appendChars_0ad70_J5_isLatin1_aae02_u83J4 : GoodIn wsJ5_appendChars_0ad70 (va_wsU RJ5 83 RJ4 "java/lang/AbstractStringBuilder" ⟨"java/lang/AbstractStringBuilder", "isLatin1", "()Z"⟩ yJ5_isLatin1_aae02 wsJ5_isLatin1_aae02) := goodIn_app (goodIn_of _ (by decide +kernel)) ggJ5_appendChars_0ad70_J5_isLatin1_aae02
set_option maxRecDepth 20000 in
theorem ggJ5_appendChars_0ad70_J1_canEncode_fc78d : GoodIn wsJ5_appendChars_0ad70 wsJ1_canEncode_fc78d := goodIn_r _ [14] (by decide +kernel) (by decide +kernel)
set_option maxRecDepth 20000 in
theorem gJ5_appendChars_0ad70_J1_canEncode_fc78d : GoodIn wsJ5_appendChars_0ad70 (va_wsS RJ5 191 yJ1_canEncode_fc78d wsJ1_canEncode_fc78d) := goodIn_app (goodIn_of _ (by decide +kernel)) ggJ5_appendChars_0ad70_J1_canEncode_fc78d
set_option maxRecDepth 20000 in
theorem ggJ5_appendChars_0ad70_J5_inflate_da8c8 : GoodIn wsJ5_appendChars_0ad70 wsJ5_inflate_da8c8 := goodIn_r _ [19, 2, 1, 10, 3, 4, 5, 6, 7, 8, 9, 20, 21, 22, 23, 24, 25, 26, 27, 28, 29, 30, 13, 31, 32, 33, 34, 35, 36, 37, 38, 39, 40, 41, 42, 43, 44, 45, 46, 47, 48, 49, 50, 51, 52, 53, 54, 55, 71, 72, 73, 74] (by decide +kernel) (by decide +kernel)
set_option maxRecDepth 20000 in
theorem gJ5_appendChars_0ad70_J5_inflate_da8c8_u195J4 : GoodIn wsJ5_appendChars_0ad70 (va_wsU RJ5 195 RJ4 "java/lang/AbstractStringBuilder" ⟨"java/lang/AbstractStringBuilder", "inflate", "()V"⟩ yJ5_inflate_da8c8 wsJ5_inflate_da8c8) := goodIn_app (goodIn_of _ (by decide +kernel)) ggJ5_appendChars_0ad70_J5_inflate_da8c8
set_option maxRecDepth 20000 in
theorem ggJ5_appendChars_0ad70_J2_putCharsSB_03870 : GoodIn wsJ5_appendChars_0ad70 wsJ2_putCharsSB_03870 := goodIn_r _ [58, 59, 60, 22, 61, 38, 39, 40, 62, 63, 43, 64, 45, 65, 66, 48, 67, 68, 69, 70, 50, 51, 52, 53, 54, 55] (by decide +kernel) (by decide +kernel)
set_option maxRecDepth 20000 in
theorem gJ5_appendChars_0ad70_J2_putCharsSB_03870 : GoodIn wsJ5_appendChars_0ad70 (va_wsS RJ5 386 yJ2_putCharsSB_03870 wsJ2_putCharsSB_03870) := goodIn_app (goodIn_of _ (by decide +kernel)) ggJ5_appendChars_0ad70_J2_putCharsSB_03870
theorem dJ5_appendChars_0ad70_0 : decode cJ5_appendChars_0ad70 0 = .ok (.aload_n 0, 1) := by decide +kernel
theorem dJ5_appendChars_0ad70_1 : decode cJ5_appendChars_0ad70 1 = .ok (.getfield 79, 3) := by decide +kernel
theorem dJ5_appendChars_0ad70_4 : decode cJ5_appendChars_0ad70 4 = .ok (.istore 4, 2) := by decide +kernel
theorem dJ5_appendChars_0ad70_6 : decode cJ5_appendChars_0ad70 6 = .ok (.aload_n 0, 1) := by decide +kernel
theorem dJ5_appendChars_0ad70_7 : decode cJ5_appendChars_0ad70 7 = .ok (.invokevirtual 83, 3) := by decide +kernel
theorem dJ5_appendChars_0ad70_10 : decode cJ5_appendChars_0ad70 10 = .ok (.ifCond .eq 97, 3) := by decide +kernel
theorem dJ5_appendChars_0ad70_13 : decode cJ5_appendChars_0ad70 13 = .ok (.aload_n 0, 1) := by decide +kernel
theorem dJ5_appendChars_0ad70_14 : decode cJ5_appendChars_0ad70 14 = .ok (.getfield 15, 3) := by decide +kernel
theorem dJ5_appendChars_0ad70_17 : decode cJ5_appendChars_0ad70 17 = .ok (.astore 5, 2) := by decide +kernel
theorem dJ5_appendChars_0ad70_19 : decode cJ5_appendChars_0ad70 19 = .ok (.iload_n 2, 1) := by decide +kernel
theorem dJ5_appendChars_0ad70_20 : decode cJ5_appendChars_0ad70 20 = .ok (.istore 6, 2) := by decide +kernel
theorem dJ5_appendChars_0ad70_22 : decode cJ5_appendChars_0ad70 22 = .ok (.iload 4, 2) := by decide +kernel
theorem dJ5_appendChars_0ad70_24 : decode cJ5_appendChars_0ad70 24 = .ok (.istore 7, 2) := by decide +kernel
theorem dJ5_appendChars_0ad70_26 : decode cJ5_appendChars_0ad70 26 = .ok (.iload 6, 2) := by decide +kernel
theorem dJ5_appendChars_0ad70_28 : decode cJ5_appendChars_0ad70 28 = .ok (.iload_n 3, 1) := by decide +kernel
theorem dJ5_appendChars_0ad70_29 : decode cJ5_appendChars_0ad70 29 = .ok (.if_icmp .ge 75, 3) := by decide +kernel
theorem dJ5_appendChars_0ad70_32 : decode cJ5_appendChars_0ad70 32 = .ok (.aload_n 1, 1) := by decide +kernel
theorem dJ5_appendChars_0ad70_33 : decode cJ5_appendChars_0ad70 33 = .ok (.iload 6, 2) := by decide +kernel
theorem dJ5_appendChars_0ad70_35 : decode cJ5_appendChars_0ad70 35 = .ok (.caload, 1) := by decide +kernel
theorem dJ5_appendChars_0ad70_36 : decode cJ5_appendChars_0ad70 36 = .ok (.istore 8, 2) := by decide +kernel
theorem dJ5_appendChars_0ad70_38 : decode cJ5_appendChars_0ad70 38 = .ok (.iload 8, 2) := by decide +kernel
theorem dJ5_appendChars_0ad70_40 : decode cJ5_appendChars_0ad70 40 = .ok (.invokestatic 191, 3) := by decide +kernel
theorem dJ5_appendChars_0ad70_43 : decode cJ5_appendChars_0ad70 43 = .ok (.ifCond .eq 17, 3) := by decide +kernel
theorem dJ5_appendChars_0ad70_46 : decode cJ5_appendChars_0ad70 46 = .ok (.aload 5, 2) := by decide +kernel
theorem dJ5_appendChars_0ad70_48 : decode cJ5_appendChars_0ad70 48 = .ok (.iload 7, 2) := by decide +kernel
theorem dJ5_appendChars_0ad70_50 : decode cJ5_appendChars_0ad70 50 = .ok (.iinc 7 1, 3) := by decide +kernel
theorem dJ5_appendChars_0ad70_53 : decode cJ5_appendChars_0ad70 53 = .ok (.iload 8, 2) := by decide +kernel
theorem dJ5_appendChars_0ad70_55 : decode cJ5_appendChars_0ad70 55 = .ok (.i2b, 1) := by decide +kernel
theorem dJ5_appendChars_0ad70_56 : decode cJ5_appendChars_0ad70 56 = .ok (.bastore, 1) := by decide +kernel
theorem dJ5_appendChars_0ad70_57 : decode cJ5_appendChars_0ad70 57 = .ok (.goto 41, 3) := by decide +kernel
theorem dJ5_appendChars_0ad70_60 : decode cJ5_appendChars_0ad70 60 = .ok (.aload_n 0, 1) := by decide +kernel
theorem dJ5_appendChars_0ad70_61 : decode cJ5_appendChars_0ad70 61 = .ok (.iload 7, 2) := by decide +kernel
theorem dJ5_appendChars_0ad70_63 : decode cJ5_appendChars_0ad70 63 = .ok (.dup, 1) := by decide +kernel
theorem dJ5_appendChars_0ad70_64 : decode cJ5_appendChars_0ad70 64 = .ok (.istore 4, 2) := by decide +kernel
theorem dJ5_appendChars_0ad70_66 : decode cJ5_appendChars_0ad70 66 = .ok (.putfield 79, 3) := by decide +kernel
theorem dJ5_appendChars_0ad70_69 : decode cJ5_appendChars_0ad70 69 = .ok (.aload_n 0, 1) := by decide +kernel
theorem dJ5_appendChars_0ad70_70 : decode cJ5_appendChars_0ad70 70 = .ok (.invokevirtual 195, 3) := by decide +kernel
theorem dJ5_appendChars_0ad70_73 : decode cJ5_appendChars_0ad70 73 = .ok (.aload_n 0, 1) := by decide +kernel
theorem dJ5_appendChars_0ad70_74 : decode cJ5_appendChars_0ad70 74 = .ok (.getfield 15, 3) := by decide +kernel
theorem dJ5_appendChars_0ad70_77 : decode cJ5_appendChars_0ad70 77 = .ok (.iload 7, 2) := by decide +kernel
theorem dJ5_appendChars_0ad70_79 : decode cJ5_appendChars_0ad70 79 = .ok (.aload_n 1, 1) := by decide +kernel
theorem dJ5_appendChars_0ad70_80 : decode cJ5_appendChars_0ad70 80 = .ok (.iload 6, 2) := by decide +kernel
theorem dJ5_appendChars_0ad70_82 : decode cJ5_appendChars_0ad70 82 = .ok (.iload_n 3, 1) := by decide +kernel
theorem dJ5_appendChars_0ad70_83 : decode cJ5_appendChars_0ad70 83 = .ok (.invokestatic 386, 3) := by decide +kernel
theorem dJ5_appendChars_0ad70_86 : decode cJ5_appendChars_0ad70 86 = .ok (.aload_n 0, 1) := by decide +kernel
theorem dJ5_appendChars_0ad70_87 : decode cJ5_appendChars_0ad70 87 = .ok (.iload 4, 2) := by decide +kernel
theorem dJ5_appendChars_0ad70_89 : decode cJ5_appendChars_0ad70 89 = .ok (.iload_n 3, 1) := by decide +kernel
theorem dJ5_appendChars_0ad70_90 : decode cJ5_appendChars_0ad70 90 = .ok (.iadd, 1) := by decide +kernel
theorem dJ5_appendChars_0ad70_91 : decode cJ5_appendChars_0ad70 91 = .ok (.iload 6, 2) := by decide +kernel
theorem dJ5_appendChars_0ad70_93 : decode cJ5_appendChars_0ad70 93 = .ok (.isub, 1) := by decide +kernel
theorem dJ5_appendChars_0ad70_94 : decode cJ5_appendChars_0ad70 94 = .ok (.putfield 79, 3) := by decide +kernel
theorem dJ5_appendChars_0ad70_97 : decode cJ5_appendChars_0ad70 97 = .ok (.return_, 1) := by decide +kernel
theorem dJ5_appendChars_0ad70_98 : decode cJ5_appendChars_0ad70 98 = .ok (.iinc 6 1, 3) := by decide +kernel
theorem dJ5_appendChars_0ad70_101 : decode cJ5_appendChars_0ad70 101 = .ok (.goto (-75), 3) := by decide +kernel
theorem dJ5_appendChars_0ad70_104 : decode cJ5_appendChars_0ad70 104 = .ok (.goto 15, 3) := by decide +kernel
theorem dJ5_appendChars_0ad70_107 : decode cJ5_appendChars_0ad70 107 = .ok (.aload_n 0, 1) := by decide +kernel
theorem dJ5_appendChars_0ad70_108 : decode cJ5_appendChars_0ad70 108 = .ok (.getfield 15, 3) := by decide +kernel
theorem dJ5_appendChars_0ad70_111 : decode cJ5_appendChars_0ad70 111 = .ok (.iload 4, 2) := by decide +kernel
theorem dJ5_appendChars_0ad70_113 : decode cJ5_appendChars_0ad70 113 = .ok (.aload_n 1, 1) := by decide +kernel
theorem dJ5_appendChars_0ad70_114 : decode cJ5_appendChars_0ad70 114 = .ok (.iload_n 2, 1) := by decide +kernel
theorem dJ5_appendChars_0ad70_115 : decode cJ5_appendChars_0ad70 115 = .ok (.iload_n 3, 1) := by decide +kernel
theorem dJ5_appendChars_0ad70_116 : decode cJ5_appendChars_0ad70 116 = .ok (.invokestatic 386, 3) := by decide +kernel
theorem dJ5_appendChars_0ad70_119 : decode cJ5_appendChars_0ad70 119 = .ok (.aload_n 0, 1) := by decide +kernel
theorem dJ5_appendChars_0ad70_120 : decode cJ5_appendChars_0ad70 120 = .ok (.iload 4, 2) := by decide +kernel
theorem dJ5_appendChars_0ad70_122 : decode cJ5_appendChars_0ad70 122 = .ok (.iload_n 3, 1) := by decide +kernel
theorem dJ5_appendChars_0ad70_123 : decode cJ5_appendChars_0ad70 123 = .ok (.iadd, 1) := by decide +kernel
theorem dJ5_appendChars_0ad70_124 : decode cJ5_appendChars_0ad70 124 = .ok (.iload_n 2, 1) := by decide +kernel
theorem dJ5_appendChars_0ad70_125 : decode cJ5_appendChars_0ad70 125 = .ok (.isub, 1) := by decide +kernel
theorem dJ5_appendChars_0ad70_126 : decode cJ5_appendChars_0ad70 126 = .ok (.putfield 79, 3) := by decide +kernel
theorem dJ5_appendChars_0ad70_129 : decode cJ5_appendChars_0ad70 129 = .ok (.return_, 1) := by decide +kernel
set_option maxRecDepth 20000 in
theorem ggJ5_appendChars_3135b_J5_isLatin1_aae02 : GoodIn wsJ5_appendChars_3135b wsJ5_isLatin1_aae02 := goodIn_r _ [12, 13, 14, 124, 125, 126, 127] (by decide +kernel) (by decide +kernel)
set_option maxRecDepth 20000 in
theorem gJ5_appendChars_3135b_J5_isLatin1_aae02_u83J4 : GoodIn wsJ5_appendChars_3135b (va_wsU RJ5 83 RJ4 "java/lang/AbstractStringBuilder" ⟨"java/lang/AbstractStringBuilder", "isLatin1", "()Z"⟩ yJ5_isLatin1_aae02 wsJ5_isLatin1_aae02) := goodIn_app (goodIn_of _ (by decide +kernel)) ggJ5_appendChars_3135b_J5_isLatin1_aae02
set_option maxRecDepth 20000 in
theorem ggJ5_appendChars_3135b_J0_isLatin1_aae02 : GoodIn wsJ5_appendChars_3135b wsJ0_isLatin1_aae02 := goodIn_r _ [19, 20, 21, 128, 129, 130, 131] (by decide +kernel) (by decide +kernel)
set_option maxRecDepth 20000 in
theorem gJ5_appendChars_3135b_J0_isLatin1_aae02 : GoodIn wsJ5_appendChars_3135b (wsV RJ5 400 RJ0 yJ0_isLatin1_aae02 wsJ0_isLatin1_aae02) := goodIn_app (goodIn_of _ (by decide +kernel)) ggJ5_appendChars_3135b_J0_isLatin1_aae02
set_option maxRecDepth 20000 in
theorem ggJ5_appendChars_3135b_J0_value_6d5f1 : GoodIn wsJ5_appendChars_3135b wsJ0_value_6d5f1 := goodIn_r _ [25, 26, 128, 129, 130, 131] (by decide +kernel) (by decide +kernel)
set_option maxRecDepth 20000 in
theorem gJ5_appendChars_3135b_J0_value_6d5f1 : GoodIn wsJ5_appendChars_3135b (wsV RJ5 401 RJ0 yJ0_value_6d5f1 wsJ0_value_6d5f1) := goodIn_app (goodIn_of _ (by decide +kernel)) ggJ5_appendChars_3135b_J0_value_6d5f1
set_option maxRecDepth 20000 in
theorem ggJ5_appendChars_3135b_J0_charAt_5068e : GoodIn wsJ5_appendChars_3135b wsJ0_charAt_5068e := goodIn_r _ [30, 26, 31, 16, 17, 18, 19, 20, 21, 32, 33, 34, 35, 36, 37, 38, 39, 40, 41, 42, 43, 44, 45, 46, 47, 48, 49, 50, 51, 52, 53, 54, 55, 56, 57, 58, 59, 60, 128, 129, 130, 131] (by decide +kernel) (by decide +kernel)
set_option maxRecDepth 20000 in
theorem gJ5_appendChars_3135b_J0_charAt_5068e : GoodIn wsJ5_appendChars_3135b (wsV RJ5 404 RJ0 yJ0_charAt_5068e wsJ0_charAt_5068e) := goodIn_app (goodIn_of _ (by decide +kernel)) ggJ5_appendChars_3135b_J0_charAt_5068e
set_option maxRecDepth 20000 in
theorem ggJ5_appendChars_3135b_J1_canEncode_fc78d : GoodIn wsJ5_appendChars_3135b wsJ1_canEncode_fc78d := goodIn_r _ [63] (by decide +kernel) (by decide +kernel)
set_option maxRecDepth 20000 in
theorem gJ5_appendChars_3135b_J1_canEncode_fc78d : GoodIn wsJ5_appendChars_3135b (va_wsS RJ5 191 yJ1_canEncode_fc78d wsJ1_canEncode_fc78d) := goodIn_app (goodIn_of _ (by decide +kernel)) ggJ5_appendChars_3135b_J1_canEncode_fc78d
set_option maxRecDepth 20000 in
theorem ggJ5_appendChars_3135b_J5_inflate_da8c8 : GoodIn wsJ5_appendChars_3135b wsJ5_inflate_da8c8 := goodIn_r _ [68, 1, 2, 14, 7, 8, 9, 10, 11, 12, 13, 69, 70, 46, 71, 72, 73, 74, 75, 76, 77, 78, 34, 79, 80, 81, 82, 83, 84, 85, 51, 52, 53, 86, 87, 18, 88, 39, 89, 90, 42, 91, 92, 93, 94, 58, 59, 60, 124, 125, 126, 127] (by decide +kernel) (by decide +kernel)
set_option maxRecDepth 20000 in
theorem gJ5_appendChars_3135b_J5_inflate_da8c8_u195J4 : GoodIn wsJ5_appendChars_3135b (va_wsU RJ5 195 RJ4 "java/lang/AbstractStringBuilder" ⟨"java/lang/AbstractStringBuilder", "inflate", "()V"⟩ yJ5_inflate_da8c8 wsJ5_inflate_da8c8) := goodIn_app (goodIn_of _ (by decide +kernel)) ggJ5_appendChars_3135b_J5_inflate_da8c8
set_option maxRecDepth 20000 in
theorem ggJ5_appendChars_3135b_J2_putCharsSB_8fd6a : GoodIn wsJ5_appendChars_3135b wsJ2_putCharsSB_8fd6a := goodIn_r _ [97, 98, 99, 46, 100, 51, 52, 53, 101, 102, 18, 103, 39, 104, 105, 42, 106, 107, 108, 28, 30, 26, 31, 16, 17, 19, 20, 21, 32, 33, 34, 35, 36, 37, 38, 40, 41, 43, 44, 45, 47, 48, 49, 50, 54, 55, 56, 57, 58, 59, 60, 109, 110, 111, 112, 113, 114, 115, 116, 11, 117, 14, 1, 2, 118, 119, 120, 121, 122, 123, 92, 93, 94, 128, 129, 130, 131, 124, 125, 126, 127] (by decide +kernel) (by decide +kernel)
set_option maxRecDepth 20000 in
theorem gJ5_appendChars_3135b_J2_putCharsSB_8fd6a : GoodIn wsJ5_appendChars_3135b (va_wsS RJ5 394 yJ2_putCharsSB_8fd6a wsJ2_putCharsSB_8fd6a) := goodIn_app (goodIn_of _ (by decide +kernel)) ggJ5_appendChars_3135b_J2_putCharsSB_8fd6a
theorem dJ5_appendChars_3135b_0 : decode cJ5_appendChars_3135b 0 = .ok (.aload_n 0, 1) := by decide +kernel
theorem dJ5_appendChars_3135b_1 : decode cJ5_appendChars_3135b 1 = .ok (.invokevirtual 83, 3) := by decide +kernel
theorem dJ5_appendChars_3135b_4 : decode cJ5_appendChars_3135b 4 = .ok (.ifCond .eq 141, 3) := by decide +kernel
theorem dJ5_appendChars_3135b_7 : decode cJ5_appendChars_3135b 7 = .ok (.aload_n 1, 1) := by decide +kernel
theorem dJ5_appendChars_3135b_8 : decode cJ5_appendChars_3135b 8 = .ok (.invokevirtual 400, 3) := by decide +kernel
theorem dJ5_appendChars_3135b_11 : decode cJ5_appendChars_3135b 11 = .ok (.ifCond .eq 25, 3) := by decide +kernel
theorem dJ5_appendChars_3135b_14 : decode cJ5_appendChars_3135b 14 = .ok (.aload_n 1, 1) := by decide +kernel
theorem dJ5_appendChars_3135b_15 : decode cJ5_appendChars_3135b 15 = .ok (.invokevirtual 401, 3) := by decide +kernel
theorem dJ5_appendChars_3135b_18 : decode cJ5_appendChars_3135b 18 = .ok (.iload_n 2, 1) := by decide +kernel
theorem dJ5_appendChars_3135b_19 : decode cJ5_appendChars_3135b 19 = .ok (.aload_n 0, 1) := by decide +kernel
theorem dJ5_appendChars_3135b_20 : decode cJ5_appendChars_3135b 20 = .ok (.getfield 15, 3) := by decide +kernel
theorem dJ5_appendChars_3135b_23 : decode cJ5_appendChars_3135b 23 = .ok (.aload_n 0, 1) := by decide +kernel
theorem dJ5_appendChars_3135b_24 : decode cJ5_appendChars_3135b 24 = .ok (.getfield 79, 3) := by decide +kernel
theorem dJ5_appendChars_3135b_27 : decode cJ5_appendChars_3135b 27 = .ok (.iload_n 3, 1) := by decide +kernel
theorem dJ5_appendChars_3135b_28 : decode cJ5_appendChars_3135b 28 = .ok (.iload_n 2, 1) := by decide +kernel
theorem dJ5_appendChars_3135b_29 : decode cJ5_appendChars_3135b 29 = .ok (.isub, 1) := by decide +kernel
theorem dJ5_appendChars_3135b_30 : decode cJ5_appendChars_3135b 30 = .ok (.invokestatic 309, 3) := by decide +kernel
theorem dJ5_appendChars_3135b_33 : decode cJ5_appendChars_3135b 33 = .ok (.goto 161, 3) := by decide +kernel
theorem dJ5_appendChars_3135b_36 : decode cJ5_appendChars_3135b 36 = .ok (.aload_n 0, 1) := by decide +kernel
theorem dJ5_appendChars_3135b_37 : decode cJ5_appendChars_3135b 37 = .ok (.getfield 15, 3) := by decide +kernel
theorem dJ5_appendChars_3135b_40 : decode cJ5_appendChars_3135b 40 = .ok (.astore 4, 2) := by decide +kernel
theorem dJ5_appendChars_3135b_42 : decode cJ5_appendChars_3135b 42 = .ok (.iload_n 2, 1) := by decide +kernel
theorem dJ5_appendChars_3135b_43 : decode cJ5_appendChars_3135b 43 = .ok (.istore 5, 2) := by decide +kernel
theorem dJ5_appendChars_3135b_45 : decode cJ5_appendChars_3135b 45 = .ok (.aload_n 0, 1) := by decide +kernel
theorem dJ5_appendChars_3135b_46 : decode cJ5_appendChars_3135b 46 = .ok (.getfield 79, 3) := by decide +kernel
theorem dJ5_appendChars_3135b_49 : decode cJ5_appendChars_3135b 49 = .ok (.istore 6, 2) := by decide +kernel
theorem dJ5_appendChars_3135b_51 : decode cJ5_appendChars_3135b 51 = .ok (.iload 5, 2) := by decide +kernel
theorem dJ5_appendChars_3135b_53 : decode cJ5_appendChars_3135b 53 = .ok (.iload_n 3, 1) := by decide +kernel
theorem dJ5_appendChars_3135b_54 : decode cJ5_appendChars_3135b 54 = .ok (.if_icmp .ge 88, 3) := by decide +kernel
theorem dJ5_appendChars_3135b_57 : decode cJ5_appendChars_3135b 57 = .ok (.aload_n 1, 1) := by decide +kernel
theorem dJ5_appendChars_3135b_58 : decode cJ5_appendChars_3135b 58 = .ok (.iload 5, 2) := by decide +kernel
theorem dJ5_appendChars_3135b_60 : decode cJ5_appendChars_3135b 60 = .ok (.invokevirtual 404, 3) := by decide +kernel
theorem dJ5_appendChars_3135b_63 : decode cJ5_appendChars_3135b 63 = .ok (.istore 7, 2) := by decide +kernel
theorem dJ5_appendChars_3135b_65 : decode cJ5_appendChars_3135b 65 = .ok (.iload 7, 2) := by decide +kernel
theorem dJ5_appendChars_3135b_67 : decode cJ5_appendChars_3135b 67 = .ok (.invokestatic 191, 3) := by decide +kernel
theorem dJ5_appendChars_3135b_70 : decode cJ5_appendChars_3135b 70 = .ok (.ifCond .eq 17, 3) := by decide +kernel
theorem dJ5_appendChars_3135b_73 : decode cJ5_appendChars_3135b 73 = .ok (.aload 4, 2) := by decide +kernel
theorem dJ5_appendChars_3135b_75 : decode cJ5_appendChars_3135b 75 = .ok (.iload 6, 2) := by decide +kernel
theorem dJ5_appendChars_3135b_77 : decode cJ5_appendChars_3135b 77 = .ok (.iinc 6 1, 3) := by decide +kernel
theorem dJ5_appendChars_3135b_80 : decode cJ5_appendChars_3135b 80 = .ok (.iload 7, 2) := by decide +kernel
theorem dJ5_appendChars_3135b_82 : decode cJ5_appendChars_3135b 82 = .ok (.i2b, 1) := by decide +kernel
theorem dJ5_appendChars_3135b_83 : decode cJ5_appendChars_3135b 83 = .ok (.bastore, 1) := by decide +kernel
theorem dJ5_appendChars_3135b_84 : decode cJ5_appendChars_3135b 84 = .ok (.goto 52, 3) := by decide +kernel
theorem dJ5_appendChars_3135b_87 : decode cJ5_appendChars_3135b 87 = .ok (.aload_n 0, 1) := by decide +kernel
theorem dJ5_appendChars_3135b_88 : decode cJ5_appendChars_3135b 88 = .ok (.iload 6, 2) := by decide +kernel
theorem dJ5_appendChars_3135b_90 : decode cJ5_appendChars_3135b 90 = .ok (.putfield 79, 3) := by decide +kernel
theorem dJ5_appendChars_3135b_93 : decode cJ5_appendChars_3135b 93 = .ok (.aload_n 0, 1) := by decide +kernel
theorem dJ5_appendChars_3135b_94 : decode cJ5_appendChars_3135b 94 = .ok (.invokevirtual 195, 3) := by decide +kernel
theorem dJ5_appendChars_3135b_97 : decode cJ5_appendChars_3135b 97 = .ok (.aload_n 1, 1) := by decide +kernel
theorem dJ5_appendChars_3135b_98 : decode cJ5_appendChars_3135b 98 = .ok (.invokevirtual 401, 3) := by decide +kernel
theorem dJ5_appendChars_3135b_101 : decode cJ5_appendChars_3135b 101 = .ok (.iload 5, 2) := by decide +kernel
theorem dJ5_appendChars_3135b_103 : decode cJ5_appendChars_3135b 103 = .ok (.iconst 1, 1) := by decide +kernel
theorem dJ5_appendChars_3135b_104 : decode cJ5_appendChars_3135b 104 = .ok (.ishl, 1) := by decide +kernel
theorem dJ5_appendChars_3135b_105 : decode cJ5_appendChars_3135b 105 = .ok (.aload_n 0, 1) := by decide +kernel
theorem dJ5_appendChars_3135b_106 : decode cJ5_appendChars_3135b 106 = .ok (.getfield 15, 3) := by decide +kernel
theorem dJ5_appendChars_3135b_109 : decode cJ5_appendChars_3135b 109 = .ok (.iload 6, 2) := by decide +kernel
theorem dJ5_appendChars_3135b_111 : decode cJ5_appendChars_3135b 111 = .ok (.iconst 1, 1) := by decide +kernel
theorem dJ5_appendChars_3135b_112 : decode cJ5_appendChars_3135b 112 = .ok (.ishl, 1) := by decide +kernel
theorem dJ5_appendChars_3135b_113 : decode cJ5_appendChars_3135b 113 = .ok (.iload_n 3, 1) := by decide +kernel
theorem dJ5_appendChars_3135b_114 : decode cJ5_appendChars_3135b 114 = .ok (.iload 5, 2) := by decide +kernel
theorem dJ5_appendChars_3135b_116 : decode cJ5_appendChars_3135b 116 = .ok (.isub, 1) := by decide +kernel
theorem dJ5_appendChars_3135b_117 : decode cJ5_appendChars_3135b 117 = .ok (.iconst 1, 1) := by decide +kernel
theorem dJ5_appendChars_3135b_118 : decode cJ5_appendChars_3135b 118 = .ok (.ishl, 1) := by decide +kernel
theorem dJ5_appendChars_3135b_119 : decode cJ5_appendChars_3135b 119 = .ok (.invokestatic 309, 3) := by decide +kernel
theorem dJ5_appendChars_3135b_122 : decode cJ5_appendChars_3135b 122 = .ok (.aload_n 0, 1) := by decide +kernel
theorem dJ5_appendChars_3135b_123 : decode cJ5_appendChars_3135b 123 = .ok (.dup, 1) := by decide +kernel
theorem dJ5_appendChars_3135b_124 : decode cJ5_appendChars_3135b 124 = .ok (.getfield 79, 3) := by decide +kernel
theorem dJ5_appendChars_3135b_127 : decode cJ5_appendChars_3135b 127 = .ok (.iload_n 3, 1) := by decide +kernel
theorem dJ5_appendChars_3135b_128 : decode cJ5_appendChars_3135b 128 = .ok (.iload 5, 2) := by decide +kernel
theorem dJ5_appendChars_3135b_130 : decode cJ5_appendChars_3135b 130 = .ok (.isub, 1) := by decide +kernel
theorem dJ5_appendChars_3135b_131 : decode cJ5_appendChars_3135b 131 = .ok (.iadd, 1) := by decide +kernel
theorem dJ5_appendChars_3135b_132 : decode cJ5_appendChars_3135b 132 = .ok (.putfield 79, 3) := by decide +kernel
theorem dJ5_appendChars_3135b_135 : decode cJ5_appendChars_3135b 135 = .ok (.return_, 1) := by decide +kernel
theorem dJ5_appendChars_3135b_136 : decode cJ5_appendChars_3135b 136 = .ok (.iinc 5 1, 3) := by decide +kernel
theorem dJ5_appendChars_3135b_139 : decode cJ5_appendChars_3135b 139 = .ok (.goto (-88), 3) := by decide +kernel
theorem dJ5_appendChars_3135b_142 : decode cJ5_appendChars_3135b 142 = .ok (.goto 52, 3) := by decide +kernel
theorem dJ5_appendChars_3135b_145 : decode cJ5_appendChars_3135b 145 = .ok (.aload_n 1, 1) := by decide +kernel
theorem dJ5_appendChars_3135b_146 : decode cJ5_appendChars_3135b 146 = .ok (.invokevirtual 400, 3) := by decide +kernel
theorem dJ5_appendChars_3135b_149 : decode cJ5_appendChars_3135b 149 = .ok (.ifCond .eq 20, 3) := by decide +kernel
theorem dJ5_appendChars_3135b_152 : decode cJ5_appendChars_3135b 152 = .ok (.aload_n 0, 1) := by decide +kernel
theorem dJ5_appendChars_3135b_153 : decode cJ5_appendChars_3135b 153 = .ok (.getfield 15, 3) := by decide +kernel
theorem dJ5_appendChars_3135b_156 : decode cJ5_appendChars_3135b 156 = .ok (.aload_n 0, 1) := by decide +kernel
theorem dJ5_appendChars_3135b_157 : decode cJ5_appendChars_3135b 157 = .ok (.getfield 79, 3) := by decide +kernel
theorem dJ5_appendChars_3135b_160 : decode cJ5_appendChars_3135b 160 = .ok (.aload_n 1, 1) := by decide +kernel
theorem dJ5_appendChars_3135b_161 : decode cJ5_appendChars_3135b 161 = .ok (.iload_n 2, 1) := by decide +kernel
theorem dJ5_appendChars_3135b_162 : decode cJ5_appendChars_3135b 162 = .ok (.iload_n 3, 1) := by decide +kernel
theorem dJ5_appendChars_3135b_163 : decode cJ5_appendChars_3135b 163 = .ok (.invokestatic 394, 3) := by decide +kernel
theorem dJ5_appendChars_3135b_166 : decode cJ5_appendChars_3135b 166 = .ok (.goto 28, 3) := by decide +kernel
theorem dJ5_appendChars_3135b_169 : decode cJ5_appendChars_3135b 169 = .ok (.aload_n 1, 1) := by decide +kernel
theorem dJ5_appendChars_3135b_170 : decode cJ5_appendChars_3135b 170 = .ok (.invokevirtual 401, 3) := by decide +kernel
theorem dJ5_appendChars_3135b_173 : decode cJ5_appendChars_3135b 173 = .ok (.iload_n 2, 1) := by decide +kernel
theorem dJ5_appendChars_3135b_174 : decode cJ5_appendChars_3135b 174 = .ok (.iconst 1, 1) := by decide +kernel
theorem dJ5_appendChars_3135b_175 : decode cJ5_appendChars_3135b 175 = .ok (.ishl, 1) := by decide +kernel
theorem dJ5_appendChars_3135b_176 : decode cJ5_appendChars_3135b 176 = .ok (.aload_n 0, 1) := by decide +kernel
theorem dJ5_appendChars_3135b_177 : decode cJ5_appendChars_3135b 177 = .ok (.getfield 15, 3) := by decide +kernel
theorem dJ5_appendChars_3135b_180 : decode cJ5_appendChars_3135b 180 = .ok (.aload_n 0, 1) := by decide +kernel
theorem dJ5_appendChars_3135b_181 : decode cJ5_appendChars_3135b 181 = .ok (.getfield 79, 3) := by decide +kernel
theorem dJ5_appendChars_3135b_184 : decode cJ5_appendChars_3135b 184 = .ok (.iconst 1, 1) := by decide +kernel
theorem dJ5_appendChars_3135b_185 : decode cJ5_appendChars_3135b 185 = .ok (.ishl, 1) := by decide +kernel
theorem dJ5_appendChars_3135b_186 : decode cJ5_appendChars_3135b 186 = .ok (.iload_n 3, 1) := by decide +kernel
theorem dJ5_appendChars_3135b_187 : decode cJ5_appendChars_3135b 187 = .ok (.iload_n 2, 1) := by decide +kernel
theorem dJ5_appendChars_3135b_188 : decode cJ5_appendChars_3135b 188 = .ok (.isub, 1) := by decide +kernel
theorem dJ5_appendChars_3135b_189 : decode cJ5_appendChars_3135b 189 = .ok (.iconst 1, 1) := by decide +kernel
theorem dJ5_appendChars_3135b_190 : decode cJ5_appendChars_3135b 190 = .ok (.ishl, 1) := by decide +kernel
theorem dJ5_appendChars_3135b_191 : decode cJ5_appendChars_3135b 191 = .ok (.invokestatic 309, 3) := by decide +kernel
theorem dJ5_appendChars_3135b_194 : decode cJ5_appendChars_3135b 194 = .ok (.aload_n 0, 1) := by decide +kernel
theorem dJ5_appendChars_3135b_195 : decode cJ5_appendChars_3135b 195 = .ok (.dup, 1) := by decide +kernel
theorem dJ5_appendChars_3135b_196 : decode cJ5_appendChars_3135b 196 = .ok (.getfield 79, 3) := by decide +kernel
theorem dJ5_appendChars_3135b_199 : decode cJ5_appendChars_3135b 199 = .ok (.iload_n 3, 1) := by decide +kernel
theorem dJ5_appendChars_3135b_200 : decode cJ5_appendChars_3135b 200 = .ok (.iload_n 2, 1) := by decide +kernel
theorem dJ5_appendChars_3135b_201 : decode cJ5_appendChars_3135b 201 = .ok (.isub, 1) := by decide +kernel
theorem dJ5_appendChars_3135b_202 : decode cJ5_appendChars_3135b 202 = .ok (.iadd, 1) := by decide +kernel
theorem dJ5_appendChars_3135b_203 : decode cJ5_appendChars_3135b 203 = .ok (.putfield 79, 3) := by decide +kernel
theorem dJ5_appendChars_3135b_206 : decode cJ5_appendChars_3135b 206 = .ok (.return_, 1) := by decide +kernel
set_option maxRecDepth 20000 in
theorem ggJ5_appendChars_a91ff_J5_isLatin1_aae02 : GoodIn wsJ5_appendChars_a91ff wsJ5_isLatin1_aae02 := goodIn_r _ [8, 9, 10, 117, 118, 119, 120] (by decide +kernel) (by decide +kernel)
set_option maxRecDepth 20000 in
theorem gJ5_appendChars_a91ff_J5_isLatin1_aae02_u83J4 : GoodIn wsJ5_appendChars_a91ff (va_wsU RJ5 83 RJ4 "java/lang/AbstractStringBuilder" ⟨"java/lang/AbstractStringBuilder", "isLatin1", "()Z"⟩ yJ5_isLatin1_aae02 wsJ5_isLatin1_aae02) := goodIn_app (goodIn_of _ (by decide +kernel)) ggJ5_appendChars_a91ff_J5_isLatin1_aae02
set_option maxRecDepth 20000 in
theorem ggJ5_appendChars_a91ff_J0_charAt_5068e : GoodIn wsJ5_appendChars_a91ff wsJ0_charAt_5068e := goodIn_r _ [15, 16, 17, 18, 19, 14, 20, 21, 22, 23, 24, 25, 26, 27, 28, 29, 30, 31, 32, 33, 34, 35, 36, 37, 38, 39, 40, 41, 42, 43, 44, 45, 46, 47, 48, 49, 50, 51, 121, 122, 123, 124] (by decide +kernel) (by decide +kernel)
set_option maxRecDepth 20000 in
theorem gJ5_appendChars_a91ff_J0_charAt_5068e_f390J0 : GoodIn wsJ5_appendChars_a91ff (va_wsF RJ5 390 RJ0 ⟨"java/lang/CharSequence", "charAt", "(I)C"⟩ yJ0_charAt_5068e wsJ0_charAt_5068e) := goodIn_app (goodIn_of _ (by decide +kernel)) ggJ5_appendChars_a91ff_J0_charAt_5068e
set_option maxRecDepth 20000 in
theorem ggJ5_appendChars_a91ff_J4_charAt_5068e : GoodIn wsJ5_appendChars_a91ff wsJ4_charAt_5068e := goodIn_r _ [55, 56, 57, 58, 59, 7, 60, 10, 1, 2, 61, 62, 63, 64, 65, 28, 14, 29, 30, 31, 32, 33, 34, 66, 47, 37, 48, 49, 50, 51, 42, 43, 44, 117, 118, 119, 120] (by decide +kernel) (by decide +kernel)
set_option maxRecDepth 20000 in
theorem gJ5_appendChars_a91ff_J4_charAt_5068e_f390J4 : GoodIn wsJ5_appendChars_a91ff (va_wsF RJ5 390 RJ4 ⟨"java/lang/CharSequence", "charAt", "(I)C"⟩ yJ4_charAt_5068e wsJ4_charAt_5068e) := goodIn_app (goodIn_of _ (by decide +kernel)) ggJ5_appendChars_a91ff_J4_charAt_5068e
set_option maxRecDepth 20000 in
theorem ggJ5_appendChars_a91ff_J1_canEncode_fc78d : GoodIn wsJ5_appendChars_a91ff wsJ1_canEncode_fc78d := goodIn_r _ [69] (by decide +kernel) (by decide +kernel)
set_option maxRecDepth 20000 in
theorem gJ5_appendChars_a91ff_J1_canEncode_fc78d : GoodIn wsJ5_appendChars_a91ff (va_wsS RJ5 191 yJ1_canEncode_fc78d wsJ1_canEncode_fc78d) := goodIn_app (goodIn_of _ (by decide +kernel)) ggJ5_appendChars_a91ff_J1_canEncode_fc78d
set_option maxRecDepth 20000 in
theorem ggJ5_appendChars_a91ff_J5_inflate_da8c8 : GoodIn wsJ5_appendChars_a91ff wsJ5_inflate_da8c8 := goodIn_r _ [74, 1, 2, 10, 3, 4, 5, 6, 7, 8, 9, 75, 76, 37, 77, 78, 79, 80, 81, 82, 83, 84, 25, 85, 86, 87, 88, 89, 90, 91, 42, 43, 44, 92, 93, 14, 94, 30, 95, 96, 33, 97, 98, 99, 100, 49, 50, 51, 117, 118, 119, 120] (by decide +kernel) (by decide +kernel)
set_option maxRecDepth 20000 in
theorem gJ5_appendChars_a91ff_J5_inflate_da8c8_u195J4 : GoodIn wsJ5_appendChars_a91ff (va_wsU RJ5 195 RJ4 "java/lang/AbstractStringBuilder" ⟨"java/lang/AbstractStringBuilder", "inflate", "()V"⟩ yJ5_inflate_da8c8 wsJ5_inflate_da8c8) := goodIn_app (goodIn_of _ (by decide +kernel)) ggJ5_appendChars_a91ff_J5_inflate_da8c8
set_option maxRecDepth 20000 in
theorem ggJ5_appendChars_a91ff_J2_putCharSB_b72d1 : GoodIn wsJ5_appendChars_a91ff wsJ2_putCharSB_b72d1 := goodIn_r _ [103, 39, 40, 37, 41, 42, 43, 44, 45, 28, 14, 29, 30, 31, 32, 33, 34, 98, 99, 100, 49, 50, 51] (by decide +kernel) (by decide +kernel)
set_option maxRecDepth 20000 in
theorem gJ5_appendChars_a91ff_J2_putCharSB_b72d1 : GoodIn wsJ5_appendChars_a91ff (va_wsS RJ5 197 yJ2_putCharSB_b72d1 wsJ2_putCharSB_b72d1) := goodIn_app (goodIn_of _ (by decide +kernel)) ggJ5_appendChars_a91ff_J2_putCharSB_b72d1
set_option maxRecDepth 20000 in
theorem ggJ5_appendChars_a91ff_J2_putCharsSB_8fd6a : GoodIn wsJ5_appendChars_a91ff wsJ2_putCharsSB_8fd6a := goodIn_r _ [106, 107, 108, 37, 109, 42, 43, 44, 110, 111, 14, 112, 30, 113, 114, 33, 115, 116, 12, 13, 15, 16, 17, 18, 19, 20, 21, 22, 23, 24, 25, 26, 27, 28, 29, 31, 32, 34, 35, 36, 38, 39, 40, 41, 45, 46, 47, 48, 49, 50, 51, 52, 53, 54, 55, 56, 57, 58, 59, 7, 60, 10, 1, 2, 61, 62, 63, 64, 65, 66, 98, 99, 100, 121, 122, 123, 124, 117, 118, 119, 120] (by decide +kernel) (by decide +kernel)
set_option maxRecDepth 20000 in
theorem gJ5_appendChars_a91ff_J2_putCharsSB_8fd6a : GoodIn wsJ5_appendChars_a91ff (va_wsS RJ5 394 yJ2_putCharsSB_8fd6a wsJ2_putCharsSB_8fd6a) := goodIn_app (goodIn_of _ (by decide +kernel)) ggJ5_appendChars_a91ff_J2_putCharsSB_8fd6a
theorem dJ5_appendChars_a91ff_0 : decode cJ5_appendChars_a91ff 0 = .ok (.aload_n 0, 1) := by decide +kernel
theorem dJ5_appendChars_a91ff_1 : decode cJ5_appendChars_a91ff 1 = .ok (.invokevirtual 83, 3) := by decide +kernel
theorem dJ5_appendChars_a91ff_4 : decode cJ5_appendChars_a91ff 4 = .ok (.ifCond .eq 125, 3) := by decide +kernel
theorem dJ5_appendChars_a91ff_7 : decode cJ5_appendChars_a91ff 7 = .ok (.aload_n 0, 1) := by decide +kernel
theorem dJ5_appendChars_a91ff_8 : decode cJ5_appendChars_a91ff 8 = .ok (.getfield 15, 3) := by decide +kernel
theorem dJ5_appendChars_a91ff_11 : decode cJ5_appendChars_a91ff 11 = .ok (.astore 4, 2) := by decide +kernel
theorem dJ5_appendChars_a91ff_13 : decode cJ5_appendChars_a91ff 13 = .ok (.iload_n 2, 1) := by decide +kernel
theorem dJ5_appendChars_a91ff_14 : decode cJ5_appendChars_a91ff 14 = .ok (.istore 5, 2) := by decide +kernel
theorem dJ5_appendChars_a91ff_16 : decode cJ5_appendChars_a91ff 16 = .ok (.aload_n 0, 1) := by decide +kernel
theorem dJ5_appendChars_a91ff_17 : decode cJ5_appendChars_a91ff 17 = .ok (.getfield 79, 3) := by decide +kernel
theorem dJ5_appendChars_a91ff_20 : decode cJ5_appendChars_a91ff 20 = .ok (.istore 6, 2) := by decide +kernel
theorem dJ5_appendChars_a91ff_22 : decode cJ5_appendChars_a91ff 22 = .ok (.iload 5, 2) := by decide +kernel
theorem dJ5_appendChars_a91ff_24 : decode cJ5_appendChars_a91ff 24 = .ok (.iload_n 3, 1) := by decide +kernel
theorem dJ5_appendChars_a91ff_25 : decode cJ5_appendChars_a91ff 25 = .ok (.if_icmp .ge 101, 3) := by decide +kernel
theorem dJ5_appendChars_a91ff_28 : decode cJ5_appendChars_a91ff 28 = .ok (.aload_n 1, 1) := by decide +kernel
theorem dJ5_appendChars_a91ff_29 : decode cJ5_appendChars_a91ff 29 = .ok (.iload 5, 2) := by decide +kernel
theorem dJ5_appendChars_a91ff_31 : decode cJ5_appendChars_a91ff 31 = .ok (.invokeinterface 390 2, 5) := by decide +kernel
theorem dJ5_appendChars_a91ff_36 : decode cJ5_appendChars_a91ff 36 = .ok (.istore 7, 2) := by decide +kernel
theorem dJ5_appendChars_a91ff_38 : decode cJ5_appendChars_a91ff 38 = .ok (.iload 7, 2) := by decide +kernel
theorem dJ5_appendChars_a91ff_40 : decode cJ5_appendChars_a91ff 40 = .ok (.invokestatic 191, 3) := by decide +kernel
theorem dJ5_appendChars_a91ff_43 : decode cJ5_appendChars_a91ff 43 = .ok (.ifCond .eq 17, 3) := by decide +kernel
theorem dJ5_appendChars_a91ff_46 : decode cJ5_appendChars_a91ff 46 = .ok (.aload 4, 2) := by decide +kernel
theorem dJ5_appendChars_a91ff_48 : decode cJ5_appendChars_a91ff 48 = .ok (.iload 6, 2) := by decide +kernel
theorem dJ5_appendChars_a91ff_50 : decode cJ5_appendChars_a91ff 50 = .ok (.iinc 6 1, 3) := by decide +kernel
theorem dJ5_appendChars_a91ff_53 : decode cJ5_appendChars_a91ff 53 = .ok (.iload 7, 2) := by decide +kernel
theorem dJ5_appendChars_a91ff_55 : decode cJ5_appendChars_a91ff 55 = .ok (.i2b, 1) := by decide +kernel
theorem dJ5_appendChars_a91ff_56 : decode cJ5_appendChars_a91ff 56 = .ok (.bastore, 1) := by decide +kernel
theorem dJ5_appendChars_a91ff_57 : decode cJ5_appendChars_a91ff 57 = .ok (.goto 63, 3) := by decide +kernel
theorem dJ5_appendChars_a91ff_60 : decode cJ5_appendChars_a91ff 60 = .ok (.aload_n 0, 1) := by decide +kernel
theorem dJ5_appendChars_a91ff_61 : decode cJ5_appendChars_a91ff 61 = .ok (.iload 6, 2) := by decide +kernel
theorem dJ5_appendChars_a91ff_63 : decode cJ5_appendChars_a91ff 63 = .ok (.putfield 79, 3) := by decide +kernel
theorem dJ5_appendChars_a91ff_66 : decode cJ5_appendChars_a91ff 66 = .ok (.aload_n 0, 1) := by decide +kernel
theorem dJ5_appendChars_a91ff_67 : decode cJ5_appendChars_a91ff 67 = .ok (.invokevirtual 195, 3) := by decide +kernel
theorem dJ5_appendChars_a91ff_70 : decode cJ5_appendChars_a91ff 70 = .ok (.aload_n 0, 1) := by decide +kernel
theorem dJ5_appendChars_a91ff_71 : decode cJ5_appendChars_a91ff 71 = .ok (.getfield 15, 3) := by decide +kernel
theorem dJ5_appendChars_a91ff_74 : decode cJ5_appendChars_a91ff 74 = .ok (.iload 6, 2) := by decide +kernel
theorem dJ5_appendChars_a91ff_76 : decode cJ5_appendChars_a91ff 76 = .ok (.iinc 6 1, 3) := by decide +kernel
theorem dJ5_appendChars_a91ff_79 : decode cJ5_appendChars_a91ff 79 = .ok (.iload 7, 2) := by decide +kernel
theorem dJ5_appendChars_a91ff_81 : decode cJ5_appendChars_a91ff 81 = .ok (.invokestatic 197, 3) := by decide +kernel
theorem dJ5_appendChars_a91ff_84 : decode cJ5_appendChars_a91ff 84 = .ok (.aload_n 0, 1) := by decide +kernel
theorem dJ5_appendChars_a91ff_85 : decode cJ5_appendChars_a91ff 85 = .ok (.iload 6, 2) := by decide +kernel
theorem dJ5_appendChars_a91ff_87 : decode cJ5_appendChars_a91ff 87 = .ok (.putfield 79, 3) := by decide +kernel
theorem dJ5_appendChars_a91ff_90 : decode cJ5_appendChars_a91ff 90 = .ok (.iinc 5 1, 3) := by decide +kernel
theorem dJ5_appendChars_a91ff_93 : decode cJ5_appendChars_a91ff 93 = .ok (.aload_n 0, 1) := by decide +kernel
theorem dJ5_appendChars_a91ff_94 : decode cJ5_appendChars_a91ff 94 = .ok (.getfield 15, 3) := by decide +kernel
theorem dJ5_appendChars_a91ff_97 : decode cJ5_appendChars_a91ff 97 = .ok (.iload 6, 2) := by decide +kernel
theorem dJ5_appendChars_a91ff_99 : decode cJ5_appendChars_a91ff 99 = .ok (.aload_n 1, 1) := by decide +kernel
theorem dJ5_appendChars_a91ff_100 : decode cJ5_appendChars_a91ff 100 = .ok (.iload 5, 2) := by decide +kernel
theorem dJ5_appendChars_a91ff_102 : decode cJ5_appendChars_a91ff 102 = .ok (.iload_n 3, 1) := by decide +kernel
theorem dJ5_appendChars_a91ff_103 : decode cJ5_appendChars_a91ff 103 = .ok (.invokestatic 394, 3) := by decide +kernel
theorem dJ5_appendChars_a91ff_106 : decode cJ5_appendChars_a91ff 106 = .ok (.aload_n 0, 1) := by decide +kernel
theorem dJ5_appendChars_a91ff_107 : decode cJ5_appendChars_a91ff 107 = .ok (.dup, 1) := by decide +kernel
theorem dJ5_appendChars_a91ff_108 : decode cJ5_appendChars_a91ff 108 = .ok (.getfield 79, 3) := by decide +kernel
theorem dJ5_appendChars_a91ff_111 : decode cJ5_appendChars_a91ff 111 = .ok (.iload_n 3, 1) := by decide +kernel
theorem dJ5_appendChars_a91ff_112 : decode cJ5_appendChars_a91ff 112 = .ok (.iload 5, 2) := by decide +kernel
theorem dJ5_appendChars_a91ff_114 : decode cJ5_appendChars_a91ff 114 = .ok (.isub, 1) := by decide +kernel
theorem dJ5_appendChars_a91ff_115 : decode cJ5_appendChars_a91ff 115 = .ok (.iadd, 1) := by decide +kernel
theorem dJ5_appendChars_a91ff_116 : decode cJ5_appendChars_a91ff 116 = .ok (.putfield 79, 3) := by decide +kernel
theorem dJ5_appendChars_a91ff_119 : decode cJ5_appendChars_a91ff 119 = .ok (.return_, 1) := by decide +kernel
theorem dJ5_appendChars_a91ff_120 : decode cJ5_appendChars_a91ff 120 = .ok (.iinc 5 1, 3) := by decide +kernel
theorem dJ5_appendChars_a91ff_123 : decode cJ5_appendChars_a91ff 123 = .ok (.goto (-101), 3) := by decide +kernel
theorem dJ5_appendChars_a91ff_126 : decode cJ5_appendChars_a91ff 126 = .ok (.goto 17, 3) := by decide +kernel
theorem dJ5_appendChars_a91ff_129 : decode cJ5_appendChars_a91ff 129 = .ok (.aload_n 0, 1) := by decide +kernel
theorem dJ5_appendChars_a91ff_130 : decode cJ5_appendChars_a91ff 130 = .ok (.getfield 15, 3) := by decide +kernel
theorem dJ5_appendChars_a91ff_133 : decode cJ5_appendChars_a91ff 133 = .ok (.aload_n 0, 1) := by decide +kernel
theorem dJ5_appendChars_a91ff_134 : decode cJ5_appendChars_a91ff 134 = .ok (.getfield 79, 3) := by decide +kernel
theorem dJ5_appendChars_a91ff_137 : decode cJ5_appendChars_a91ff 137 = .ok (.aload_n 1, 1) := by decide +kernel
theorem dJ5_appendChars_a91ff_138 : decode cJ5_appendChars_a91ff 138 = .ok (.iload_n 2, 1) := by decide +kernel
theorem dJ5_appendChars_a91ff_139 : decode cJ5_appendChars_a91ff 139 = .ok (.iload_n 3, 1) := by decide +kernel
theorem dJ5_appendChars_a91ff_140 : decode cJ5_appendChars_a91ff 140 = .ok (.invokestatic 394, 3) := by decide +kernel
theorem dJ5_appendChars_a91ff_143 : decode cJ5_appendChars_a91ff 143 = .ok (.aload_n 0, 1) := by decide +kernel
theorem dJ5_appendChars_a91ff_144 : decode cJ5_appendChars_a91ff 144 = .ok (.dup, 1) := by decide +kernel
theorem dJ5_appendChars_a91ff_145 : decode cJ5_appendChars_a91ff 145 = .ok (.getfield 79, 3) := by decide +kernel
theorem dJ5_appendChars_a91ff_148 : decode cJ5_appendChars_a91ff 148 = .ok (.iload_n 3, 1) := by decide +kernel
theorem dJ5_appendChars_a91ff_149 : decode cJ5_appendChars_a91ff 149 = .ok (.iload_n 2, 1) := by decide +kernel
theorem dJ5_appendChars_a91ff_150 : decode cJ5_appendChars_a91ff 150 = .ok (.isub, 1) := by decide +kernel
theorem dJ5_appendChars_a91ff_151 : decode cJ5_appendChars_a91ff 151 = .ok (.iadd, 1) := by decide +kernel
theorem dJ5_appendChars_a91ff_152 : decode cJ5_appendChars_a91ff 152 = .ok (.putfield 79, 3) := by decide +kernel
theorem dJ5_appendChars_a91ff_155 : decode cJ5_appendChars_a91ff 155 = .ok (.return_, 1) := by decide +kernel
theorem dJx00060_init_a7421_0 : decode cJx00060_init_a7421 0 = .ok (.aload_n 0, 1) := by decide +kernel
theorem dJx00060_init_a7421_1 : decode cJx00060_init_a7421 1 = .ok (.aload_n 1, 1) := by decide +kernel
theorem dJx00060_init_a7421_2 : decode cJx00060_init_a7421 2 = .ok (.invokespecial 7, 3) := by decide +kernel
theorem dJx00060_init_a7421_5 : decode cJx00060_init_a7421 5 = .ok (.return_, 1) := by decide +kernel
set_option maxRecDepth 20000 in
theorem ggJx00060_init_d00df_J4_init_da8c8 : GoodIn wsJx00060_init_d00df wsJ4_init_da8c8 := goodIn_r _ [6, 7, 8, 9, 10, 11, 12, 13, 14, 15, 16, 17, 18, 19, 20, 21, 22, 23, 24, 25, 236, 237, 238, 239] (by decide +kernel) (by decide +kernel)
set_option maxRecDepth 20000 in
theorem gJx00060_init_d00df_J4_init_da8c8 : GoodIn wsJx00060_init_d00df (wsJ4_init_da8c8) := ggJx00060_init_d00df_J4_init_da8c8
set_option maxRecDepth 20000 in
theorem ggJx00060_init_d00df_J4_append_15ec4 : GoodIn wsJx00060_init_d00df wsJ4_append_15ec4 := goodIn_r _ [29, 30, 31, 32, 33, 9, 34, 35, 36, 37, 38, 39, 40, 16, 41, 42, 43, 44, 45, 17, 46, 47, 48, 49, 50, 51, 52, 53, 54, 55, 56, 57, 58, 59, 60, 61, 62, 63, 64, 65, 66, 67, 68, 69, 70, 71, 72, 73, 15, 74, 75, 76, 77, 78, 79, 80, 81, 82, 83, 84, 85, 14, 86, 87, 20, 88, 89, 90, 91, 92, 93, 94, 95, 96, 97, 98, 99, 100, 101, 102, 103, 104, 105, 106, 107, 108, 109, 110, 111, 112, 113, 114, 115, 116, 117, 118, 119, 120, 121, 122, 123, 124, 125, 126, 127, 128, 129, 130, 131, 132, 133, 134, 135, 136, 18, 19, 21, 22, 23, 24, 25, 137, 138, 139, 140, 141, 142, 143, 144, 145, 146, 147, 148, 149, 150, 151, 152, 153, 154, 155, 156, 157, 158, 236, 237, 238, 239, 240, 241, 242, 243] (by decide +kernel) (by decide +kernel)
set_option maxRecDepth 20000 in
theorem gJx00060_init_d00df_J4_append_15ec4 : GoodIn wsJx00060_init_d00df (wsV RJx00060 15 RJ4 yJ4_append_15ec4 wsJ4_append_15ec4) := goodIn_app (goodIn_of _ (by decide +kernel)) ggJx00060_init_d00df_J4_append_15ec4
set_option maxRecDepth 20000 in
theorem ggJx00060_init_d00df_J4_append_bf812 : GoodIn wsJx00060_init_d00df wsJ4_append_bf812 := goodIn_r _ [162, 163, 164, 32, 165, 9, 166, 35, 16, 167, 168, 169, 170, 41, 42, 43, 44, 45, 17, 46, 47, 48, 49, 50, 51, 52, 53, 54, 55, 56, 57, 58, 59, 60, 61, 62, 63, 64, 65, 66, 67, 68, 69, 70, 71, 72, 73, 15, 74, 75, 76, 77, 78, 79, 80, 81, 82, 83, 84, 85, 14, 171, 172, 173, 174, 175, 176, 177, 20, 178, 89, 90, 91, 92, 93, 94, 95, 96, 97, 98, 99, 100, 101, 102, 103, 104, 179, 180, 181, 182, 183, 105, 106, 107, 108, 109, 236, 237, 238, 239] (by decide +kernel) (by decide +kernel)
set_option maxRecDepth 20000 in
theorem gJx00060_init_d00df_J4_append_bf812 : GoodIn wsJx00060_init_d00df (wsV RJx00060 19 RJ4 yJ4_append_bf812 wsJ4_append_bf812) := goodIn_app (goodIn_of _ (by decide +kernel)) ggJx00060_init_d00df_J4_append_bf812
set_option maxRecDepth 20000 in
theorem ggJx00060_init_d00df_J4_toString_0e30d : GoodIn wsJx00060_init_d00df wsJ4_toString_0e30d := goodIn_r _ [187, 188, 189, 98, 190, 191, 192, 193, 194, 195, 196, 12, 13, 120, 114, 119, 197, 198, 199, 200, 201, 9, 202, 16, 203, 204, 205, 206, 207, 3, 208, 209, 32, 210, 211, 35, 212, 82, 83, 84, 85, 14, 17, 213, 214, 66, 215, 68, 69, 70, 71, 72, 73, 216, 217, 218, 15, 74, 75, 58, 76, 77, 78, 79, 80, 219, 220, 221, 222, 2, 223, 224, 20, 225, 226, 227, 228, 144, 145, 146, 93, 94, 95, 147, 148, 149, 100, 150, 151, 103, 152, 229, 230, 231, 89, 108, 109, 22, 23, 24, 25, 232, 233, 234, 235, 240, 241, 242, 243, 236, 237, 238, 239] (by decide +kernel) (by decide +kernel)
set_option maxRecDepth 20000 in
theorem gJx00060_init_d00df_J4_toString_0e30d : GoodIn wsJx00060_init_d00df (wsV RJx00060 22 RJ4 yJ4_toString_0e30d wsJ4_toString_0e30d) := goodIn_app (goodIn_of _ (by decide +kernel)) ggJx00060_init_d00df_J4_toString_0e30d
theorem dJx00060_init_d00df_0 : decode cJx00060_init_d00df 0 = .ok (.aload_n 0, 1) := by decide +kernel
theorem dJx00060_init_d00df_1 : decode cJx00060_init_d00df 1 = .ok (.new 10, 3) := by decide +kernel
theorem dJx00060_init_d00df_4 : decode cJx00060_init_d00df 4 = .ok (.dup, 1) := by decide +kernel
theorem dJx00060_init_d00df_5 : decode cJx00060_init_d00df 5 = .ok (.invokespecial 12, 3) := by decide +kernel
theorem dJx00060_init_d00df_8 : decode cJx00060_init_d00df 8 = .ok (.ldc 13, 2) := by decide +kernel
theorem dJx00060_init_d00df_10 : decode cJx00060_init_d00df 10 = .ok (.invokevirtual 15, 3) := by decide +kernel
theorem dJx00060_init_d00df_13 : decode cJx00060_init_d00df 13 = .ok (.iload_n 1, 1) := by decide +kernel
theorem dJx00060_init_d00df_14 : decode cJx00060_init_d00df 14 = .ok (.invokevirtual 19, 3) := by decide +kernel
theorem dJx00060_init_d00df_17 : decode cJx00060_init_d00df 17 = .ok (.invokevirtual 22, 3) := by decide +kernel
theorem dJx00060_init_d00df_20 : decode cJx00060_init_d00df 20 = .ok (.invokespecial 7, 3) := by decide +kernel
theorem dJx00060_init_d00df_23 : decode cJx00060_init_d00df 23 = .ok (.return_, 1) := by decide +kernel
theorem dJ6_getChars_ba4f3_0 : decode cJ6_getChars_ba4f3 0 = .ok (.iload_n 1, 1) := by decide +kernel
theorem dJ6_getChars_ba4f3_1 : decode cJ6_getChars_ba4f3 1 = .ok (.istore 5, 2) := by decide +kernel
theorem dJ6_getChars_ba4f3_3 : decode cJ6_getChars_ba4f3 3 = .ok (.iload_n 0, 1) := by decide +kernel
theorem dJ6_getChars_ba4f3_4 : decode cJ6_getChars_ba4f3 4 = .ok (.ifCond .ge 7, 3) := by decide +kernel
theorem dJ6_getChars_ba4f3_7 : decode cJ6_getChars_ba4f3 7 = .ok (.iconst 1, 1) := by decide +kernel
theorem dJ6_getChars_ba4f3_8 : decode cJ6_getChars_ba4f3 8 = .ok (.goto 4, 3) := by decide +kernel
theorem dJ6_getChars_ba4f3_11 : decode cJ6_getChars_ba4f3 11 = .ok (.iconst 0, 1) := by decide +kernel
theorem dJ6_getChars_ba4f3_12 : decode cJ6_getChars_ba4f3 12 = .ok (.istore 6, 2) := by decide +kernel
theorem dJ6_getChars_ba4f3_14 : decode cJ6_getChars_ba4f3 14 = .ok (.iload 6, 2) := by decide +kernel
theorem dJ6_getChars_ba4f3_16 : decode cJ6_getChars_ba4f3 16 = .ok (.ifCond .ne 6, 3) := by decide +kernel
theorem dJ6_getChars_ba4f3_19 : decode cJ6_getChars_ba4f3 19 = .ok (.iload_n 0, 1) := by decide +kernel
theorem dJ6_getChars_ba4f3_20 : decode cJ6_getChars_ba4f3 20 = .ok (.ineg, 1) := by decide +kernel
theorem dJ6_getChars_ba4f3_21 : decode cJ6_getChars_ba4f3 21 = .ok (.istore_n 0, 1) := by decide +kernel
theorem dJ6_getChars_ba4f3_22 : decode cJ6_getChars_ba4f3 22 = .ok (.iload_n 0, 1) := by decide +kernel
theorem dJ6_getChars_ba4f3_23 : decode cJ6_getChars_ba4f3 23 = .ok (.bipush (-100), 2) := by decide +kernel
theorem dJ6_getChars_ba4f3_25 : decode cJ6_getChars_ba4f3 25 = .ok (.if_icmp .gt 47, 3) := by decide +kernel
theorem dJ6_getChars_ba4f3_28 : decode cJ6_getChars_ba4f3 28 = .ok (.iload_n 0, 1) := by decide +kernel
theorem dJ6_getChars_ba4f3_29 : decode cJ6_getChars_ba4f3 29 = .ok (.bipush 100, 2) := by decide +kernel
theorem dJ6_getChars_ba4f3_31 : decode cJ6_getChars_ba4f3 31 = .ok (.idiv, 1) := by decide +kernel
theorem dJ6_getChars_ba4f3_32 : decode cJ6_getChars_ba4f3 32 = .ok (.istore_n 3, 1) := by decide +kernel
theorem dJ6_getChars_ba4f3_33 : decode cJ6_getChars_ba4f3 33 = .ok (.iload_n 3, 1) := by decide +kernel
theorem dJ6_getChars_ba4f3_34 : decode cJ6_getChars_ba4f3 34 = .ok (.bipush 100, 2) := by decide +kernel
theorem dJ6_getChars_ba4f3_36 : decode cJ6_getChars_ba4f3 36 = .ok (.imul, 1) := by decide +kernel
theorem dJ6_getChars_ba4f3_37 : decode cJ6_getChars_ba4f3 37 = .ok (.iload_n 0, 1) := by decide +kernel
theorem dJ6_getChars_ba4f3_38 : decode cJ6_getChars_ba4f3 38 = .ok (.isub, 1) := by decide +kernel
theorem dJ6_getChars_ba4f3_39 : decode cJ6_getChars_ba4f3 39 = .ok (.istore 4, 2) := by decide +kernel
theorem dJ6_getChars_ba4f3_41 : decode cJ6_getChars_ba4f3 41 = .ok (.iload_n 3, 1) := by decide +kernel
theorem dJ6_getChars_ba4f3_42 : decode cJ6_getChars_ba4f3 42 = .ok (.istore_n 0, 1) := by decide +kernel
theorem dJ6_getChars_ba4f3_43 : decode cJ6_getChars_ba4f3 43 = .ok (.aload_n 2, 1) := by decide +kernel
theorem dJ6_getChars_ba4f3_44 : decode cJ6_getChars_ba4f3 44 = .ok (.iinc 5 (-1), 3) := by decide +kernel
theorem dJ6_getChars_ba4f3_47 : decode cJ6_getChars_ba4f3 47 = .ok (.iload 5, 2) := by decide +kernel
theorem dJ6_getChars_ba4f3_49 : decode cJ6_getChars_ba4f3 49 = .ok (.getstatic 83, 3) := by decide +kernel
theorem dJ6_getChars_ba4f3_52 : decode cJ6_getChars_ba4f3 52 = .ok (.iload 4, 2) := by decide +kernel
theorem dJ6_getChars_ba4f3_54 : decode cJ6_getChars_ba4f3 54 = .ok (.baload, 1) := by decide +kernel
theorem dJ6_getChars_ba4f3_55 : decode cJ6_getChars_ba4f3 55 = .ok (.bastore, 1) := by decide +kernel
theorem dJ6_getChars_ba4f3_56 : decode cJ6_getChars_ba4f3 56 = .ok (.aload_n 2, 1) := by decide +kernel
theorem dJ6_getChars_ba4f3_57 : decode cJ6_getChars_ba4f3 57 = .ok (.iinc 5 (-1), 3) := by decide +kernel
theorem dJ6_getChars_ba4f3_60 : decode cJ6_getChars_ba4f3 60 = .ok (.iload 5, 2) := by decide +kernel
theorem dJ6_getChars_ba4f3_62 : decode cJ6_getChars_ba4f3 62 = .ok (.getstatic 87, 3) := by decide +kernel
theorem dJ6_getChars_ba4f3_65 : decode cJ6_getChars_ba4f3 65 = .ok (.iload 4, 2) := by decide +kernel
theorem dJ6_getChars_ba4f3_67 : decode cJ6_getChars_ba4f3 67 = .ok (.baload, 1) := by decide +kernel
theorem dJ6_getChars_ba4f3_68 : decode cJ6_getChars_ba4f3 68 = .ok (.bastore, 1) := by decide +kernel
theorem dJ6_getChars_ba4f3_69 : decode cJ6_getChars_ba4f3 69 = .ok (.goto (-47), 3) := by decide +kernel
theorem dJ6_getChars_ba4f3_72 : decode cJ6_getChars_ba4f3 72 = .ok (.aload_n 2, 1) := by decide +kernel
theorem dJ6_getChars_ba4f3_73 : decode cJ6_getChars_ba4f3 73 = .ok (.iinc 5 (-1), 3) := by decide +kernel
theorem dJ6_getChars_ba4f3_76 : decode cJ6_getChars_ba4f3 76 = .ok (.iload 5, 2) := by decide +kernel
theorem dJ6_getChars_ba4f3_78 : decode cJ6_getChars_ba4f3 78 = .ok (.getstatic 83, 3) := by decide +kernel
theorem dJ6_getChars_ba4f3_81 : decode cJ6_getChars_ba4f3 81 = .ok (.iload_n 0, 1) := by decide +kernel
theorem dJ6_getChars_ba4f3_82 : decode cJ6_getChars_ba4f3 82 = .ok (.ineg, 1) := by decide +kernel
theorem dJ6_getChars_ba4f3_83 : decode cJ6_getChars_ba4f3 83 = .ok (.baload, 1) := by decide +kernel
theorem dJ6_getChars_ba4f3_84 : decode cJ6_getChars_ba4f3 84 = .ok (.bastore, 1) := by decide +kernel
theorem dJ6_getChars_ba4f3_85 : decode cJ6_getChars_ba4f3 85 = .ok (.iload_n 0, 1) := by decide +kernel
theorem dJ6_getChars_ba4f3_86 : decode cJ6_getChars_ba4f3 86 = .ok (.bipush (-9), 2) := by decide +kernel
theorem dJ6_getChars_ba4f3_88 : decode cJ6_getChars_ba4f3 88 = .ok (.if_icmp .ge 16, 3) := by decide +kernel
theorem dJ6_getChars_ba4f3_91 : decode cJ6_getChars_ba4f3 91 = .ok (.aload_n 2, 1) := by decide +kernel
theorem dJ6_getChars_ba4f3_92 : decode cJ6_getChars_ba4f3 92 = .ok (.iinc 5 (-1), 3) := by decide +kernel
theorem dJ6_getChars_ba4f3_95 : decode cJ6_getChars_ba4f3 95 = .ok (.iload 5, 2) := by decide +kernel
theorem dJ6_getChars_ba4f3_97 : decode cJ6_getChars_ba4f3 97 = .ok (.getstatic 87, 3) := by decide +kernel
theorem dJ6_getChars_ba4f3_100 : decode cJ6_getChars_ba4f3 100 = .ok (.iload_n 0, 1) := by decide +kernel
theorem dJ6_getChars_ba4f3_101 : decode cJ6_getChars_ba4f3 101 = .ok (.ineg, 1) := by decide +kernel
theorem dJ6_getChars_ba4f3_102 : decode cJ6_getChars_ba4f3 102 = .ok (.baload, 1) := by decide +kernel
theorem dJ6_getChars_ba4f3_103 : decode cJ6_getChars_ba4f3 103 = .ok (.bastore, 1) := by decide +kernel
theorem dJ6_getChars_ba4f3_104 : decode cJ6_getChars_ba4f3 104 = .ok (.iload 6, 2) := by decide +kernel
theorem dJ6_getChars_ba4f3_106 : decode cJ6_getChars_ba4f3 106 = .ok (.ifCond .eq 12, 3) := by decide +kernel
theorem dJ6_getChars_ba4f3_109 : decode cJ6_getChars_ba4f3 109 = .ok (.aload_n 2, 1) := by decide +kernel
theorem dJ6_getChars_ba4f3_110 : decode cJ6_getChars_ba4f3 110 = .ok (.iinc 5 (-1), 3) := by decide +kernel
theorem dJ6_getChars_ba4f3_113 : decode cJ6_getChars_ba4f3 113 = .ok (.iload 5, 2) := by decide +kernel
theorem dJ6_getChars_ba4f3_115 : decode cJ6_getChars_ba4f3 115 = .ok (.bipush 45, 2) := by decide +kernel
theorem dJ6_getChars_ba4f3_117 : decode cJ6_getChars_ba4f3 117 = .ok (.bastore, 1) := by decide +kernel
theorem dJ6_getChars_ba4f3_118 : decode cJ6_getChars_ba4f3 118 = .ok (.iload 5, 2) := by decide +kernel
theorem dJ6_getChars_ba4f3_120 : decode cJ6_getChars_ba4f3 120 = .ok (.ireturn, 1) := by decide +kernel
theorem dJ6_stringSize_0f7a4_0 : decode cJ6_stringSize_0f7a4 0 = .ok (.iconst 1, 1) := by decide +kernel
theorem dJ6_stringSize_0f7a4_1 : decode cJ6_stringSize_0f7a4 1 = .ok (.istore_n 1, 1) := by decide +kernel
theorem dJ6_stringSize_0f7a4_2 : decode cJ6_stringSize_0f7a4 2 = .ok (.iload_n 0, 1) := by decide +kernel
theorem dJ6_stringSize_0f7a4_3 : decode cJ6_stringSize_0f7a4 3 = .ok (.ifCond .lt 8, 3) := by decide +kernel
theorem dJ6_stringSize_0f7a4_6 : decode cJ6_stringSize_0f7a4 6 = .ok (.iconst 0, 1) := by decide +kernel
theorem dJ6_stringSize_0f7a4_7 : decode cJ6_stringSize_0f7a4 7 = .ok (.istore_n 1, 1) := by decide +kernel
theorem dJ6_stringSize_0f7a4_8 : decode cJ6_stringSize_0f7a4 8 = .ok (.iload_n 0, 1) := by decide +kernel
theorem dJ6_stringSize_0f7a4_9 : decode cJ6_stringSize_0f7a4 9 = .ok (.ineg, 1) := by decide +kernel
theorem dJ6_stringSize_0f7a4_10 : decode cJ6_stringSize_0f7a4 10 = .ok (.istore_n 0, 1) := by decide +kernel
theorem dJ6_stringSize_0f7a4_11 : decode cJ6_stringSize_0f7a4 11 = .ok (.bipush (-10), 2) := by decide +kernel
theorem dJ6_stringSize_0f7a4_13 : decode cJ6_stringSize_0f7a4 13 = .ok (.istore_n 2, 1) := by decide +kernel
theorem dJ6_stringSize_0f7a4_14 : decode cJ6_stringSize_0f7a4 14 = .ok (.iconst 1, 1) := by decide +kernel
theorem dJ6_stringSize_0f7a4_15 : decode cJ6_stringSize_0f7a4 15 = .ok (.istore_n 3, 1) := by decide +kernel
theorem dJ6_stringSize_0f7a4_16 : decode cJ6_stringSize_0f7a4 16 = .ok (.iload_n 3, 1) := by decide +kernel
theorem dJ6_stringSize_0f7a4_17 : decode cJ6_stringSize_0f7a4 17 = .ok (.bipush 10, 2) := by decide +kernel
theorem dJ6_stringSize_0f7a4_19 : decode cJ6_stringSize_0f7a4 19 = .ok (.if_icmp .ge 23, 3) := by decide +kernel
theorem dJ6_stringSize_0f7a4_22 : decode cJ6_stringSize_0f7a4 22 = .ok (.iload_n 0, 1) := by decide +kernel
theorem dJ6_stringSize_0f7a4_23 : decode cJ6_stringSize_0f7a4 23 = .ok (.iload_n 2, 1) := by decide +kernel
theorem dJ6_stringSize_0f7a4_24 : decode cJ6_stringSize_0f7a4 24 = .ok (.if_icmp .le 7, 3) := by decide +kernel
theorem dJ6_stringSize_0f7a4_27 : decode cJ6_stringSize_0f7a4 27 = .ok (.iload_n 3, 1) := by decide +kernel
theorem dJ6_stringSize_0f7a4_28 : decode cJ6_stringSize_0f7a4 28 = .ok (.iload_n 1, 1) := by decide +kernel
theorem dJ6_stringSize_0f7a4_29 : decode cJ6_stringSize_0f7a4 29 = .ok (.iadd, 1) := by decide +kernel
theorem dJ6_stringSize_0f7a4_30 : decode cJ6_stringSize_0f7a4 30 = .ok (.ireturn, 1) := by decide +kernel
theorem dJ6_stringSize_0f7a4_31 : decode cJ6_stringSize_0f7a4 31 = .ok (.bipush 10, 2) := by decide +kernel
theorem dJ6_stringSize_0f7a4_33 : decode cJ6_stringSize_0f7a4 33 = .ok (.iload_n 2, 1) := by decide +kernel
theorem dJ6_stringSize_0f7a4_34 : decode cJ6_stringSize_0f7a4 34 = .ok (.imul, 1) := by decide +kernel
theorem dJ6_stringSize_0f7a4_35 : decode cJ6_stringSize_0f7a4 35 = .ok (.istore_n 2, 1) := by decide +kernel
theorem dJ6_stringSize_0f7a4_36 : decode cJ6_stringSize_0f7a4 36 = .ok (.iinc 3 1, 3) := by decide +kernel
theorem dJ6_stringSize_0f7a4_39 : decode cJ6_stringSize_0f7a4 39 = .ok (.goto (-23), 3) := by decide +kernel
theorem dJ6_stringSize_0f7a4_42 : decode cJ6_stringSize_0f7a4 42 = .ok (.bipush 10, 2) := by decide +kernel
theorem dJ6_stringSize_0f7a4_44 : decode cJ6_stringSize_0f7a4 44 = .ok (.iload_n 1, 1) := by decide +kernel
theorem dJ6_stringSize_0f7a4_45 : decode cJ6_stringSize_0f7a4 45 = .ok (.iadd, 1) := by decide +kernel
theorem dJ6_stringSize_0f7a4_46 : decode cJ6_stringSize_0f7a4 46 = .ok (.ireturn, 1) := by decide +kernel
theorem dJ6_numberOfLeadingZeros_0f7a4_0 : decode cJ6_numberOfLeadingZeros_0f7a4 0 = .ok (.iload_n 0, 1) := by decide +kernel
theorem dJ6_numberOfLeadingZeros_0f7a4_1 : decode cJ6_numberOfLeadingZeros_0f7a4 1 = .ok (.ifCond .gt 14, 3) := by decide +kernel
theorem dJ6_numberOfLeadingZeros_0f7a4_4 : decode cJ6_numberOfLeadingZeros_0f7a4 4 = .ok (.iload_n 0, 1) := by decide +kernel
theorem dJ6_numberOfLeadingZeros_0f7a4_5 : decode cJ6_numberOfLeadingZeros_0f7a4 5 = .ok (.ifCond .ne 8, 3) := by decide +kernel
theorem dJ6_numberOfLeadingZeros_0f7a4_8 : decode cJ6_numberOfLeadingZeros_0f7a4 8 = .ok (.bipush 32, 2) := by decide +kernel
theorem dJ6_numberOfLeadingZeros_0f7a4_10 : decode cJ6_numberOfLeadingZeros_0f7a4 10 = .ok (.goto 4, 3) := by decide +kernel
theorem dJ6_numberOfLeadingZeros_0f7a4_13 : decode cJ6_numberOfLeadingZeros_0f7a4 13 = .ok (.iconst 0, 1) := by decide +kernel
theorem dJ6_numberOfLeadingZeros_0f7a4_14 : decode cJ6_numberOfLeadingZeros_0f7a4 14 = .ok (.ireturn, 1) := by decide +kernel
theorem dJ6_numberOfLeadingZeros_0f7a4_15 : decode cJ6_numberOfLeadingZeros_0f7a4 15 = .ok (.bipush 31, 2) := by decide +kernel
theorem dJ6_numberOfLeadingZeros_0f7a4_17 : decode cJ6_numberOfLeadingZeros_0f7a4 17 = .ok (.istore_n 1, 1) := by decide +kernel
theorem dJ6_numberOfLeadingZeros_0f7a4_18 : decode cJ6_numberOfLeadingZeros_0f7a4 18 = .ok (.iload_n 0, 1) := by decide +kernel
theorem dJ6_numberOfLeadingZeros_0f7a4_19 : decode cJ6_numberOfLeadingZeros_0f7a4 19 = .ok (.ldc_w 264, 3) := by decide +kernel
theorem dJ6_numberOfLeadingZeros_0f7a4_22 : decode cJ6_numberOfLeadingZeros_0f7a4 22 = .ok (.if_icmp .lt 11, 3) := by decide +kernel
theorem dJ6_numberOfLeadingZeros_0f7a4_25 : decode cJ6_numberOfLeadingZeros_0f7a4 25 = .ok (.iinc 1 (-16), 3) := by decide +kernel
theorem dJ6_numberOfLeadingZeros_0f7a4_28 : decode cJ6_numberOfLeadingZeros_0f7a4 28 = .ok (.iload_n 0, 1) := by decide +kernel
theorem dJ6_numberOfLeadingZeros_0f7a4_29 : decode cJ6_numberOfLeadingZeros_0f7a4 29 = .ok (.bipush 16, 2) := by decide +kernel
theorem dJ6_numberOfLeadingZeros_0f7a4_31 : decode cJ6_numberOfLeadingZeros_0f7a4 31 = .ok (.iushr, 1) := by decide +kernel
theorem dJ6_numberOfLeadingZeros_0f7a4_32 : decode cJ6_numberOfLeadingZeros_0f7a4 32 = .ok (.istore_n 0, 1) := by decide +kernel
theorem dJ6_numberOfLeadingZeros_0f7a4_33 : decode cJ6_numberOfLeadingZeros_0f7a4 33 = .ok (.iload_n 0, 1) := by decide +kernel
theorem dJ6_numberOfLeadingZeros_0f7a4_34 : decode cJ6_numberOfLeadingZeros_0f7a4 34 = .ok (.sipush 256, 3) := by decide +kernel
theorem dJ6_numberOfLeadingZeros_0f7a4_37 : decode cJ6_numberOfLeadingZeros_0f7a4 37 = .ok (.if_icmp .lt 11, 3) := by decide +kernel
theorem dJ6_numberOfLeadingZeros_0f7a4_40 : decode cJ6_numberOfLeadingZeros_0f7a4 40 = .ok (.iinc 1 (-8), 3) := by decide +kernel
theorem dJ6_numberOfLeadingZeros_0f7a4_43 : decode cJ6_numberOfLeadingZeros_0f7a4 43 = .ok (.iload_n 0, 1) := by decide +kernel
theorem dJ6_numberOfLeadingZeros_0f7a4_44 : decode cJ6_numberOfLeadingZeros_0f7a4 44 = .ok (.bipush 8, 2) := by decide +kernel
theorem dJ6_numberOfLeadingZeros_0f7a4_46 : decode cJ6_numberOfLeadingZeros_0f7a4 46 = .ok (.iushr, 1) := by decide +kernel
theorem dJ6_numberOfLeadingZeros_0f7a4_47 : decode cJ6_numberOfLeadingZeros_0f7a4 47 = .ok (.istore_n 0, 1) := by decide +kernel
theorem dJ6_numberOfLeadingZeros_0f7a4_48 : decode cJ6_numberOfLeadingZeros_0f7a4 48 = .ok (.iload_n 0, 1) := by decide +kernel
theorem dJ6_numberOfLeadingZeros_0f7a4_49 : decode cJ6_numberOfLeadingZeros_0f7a4 49 = .ok (.bipush 16, 2) := by decide +kernel
theorem dJ6_numberOfLeadingZeros_0f7a4_51 : decode cJ6_numberOfLeadingZeros_0f7a4 51 = .ok (.if_icmp .lt 10, 3) := by decide +kernel
theorem dJ6_numberOfLeadingZeros_0f7a4_54 : decode cJ6_numberOfLeadingZeros_0f7a4 54 = .ok (.iinc 1 (-4), 3) := by decide +kernel
theorem dJ6_numberOfLeadingZeros_0f7a4_57 : decode cJ6_numberOfLeadingZeros_0f7a4 57 = .ok (.iload_n 0, 1) := by decide +kernel
theorem dJ6_numberOfLeadingZeros_0f7a4_58 : decode cJ6_numberOfLeadingZeros_0f7a4 58 = .ok (.iconst 4, 1) := by decide +kernel
theorem dJ6_numberOfLeadingZeros_0f7a4_59 : decode cJ6_numberOfLeadingZeros_0f7a4 59 = .ok (.iushr, 1) := by decide +kernel
theorem dJ6_numberOfLeadingZeros_0f7a4_60 : decode cJ6_numberOfLeadingZeros_0f7a4 60 = .ok (.istore_n 0, 1) := by decide +kernel
theorem dJ6_numberOfLeadingZeros_0f7a4_61 : decode cJ6_numberOfLeadingZeros_0f7a4 61 = .ok (.iload_n 0, 1) := by decide +kernel
theorem dJ6_numberOfLeadingZeros_0f7a4_62 : decode cJ6_numberOfLeadingZeros_0f7a4 62 = .ok (.iconst 4, 1) := by decide +kernel
theorem dJ6_numberOfLeadingZeros_0f7a4_63 : decode cJ6_numberOfLeadingZeros_0f7a4 63 = .ok (.if_icmp .lt 10, 3) := by decide +kernel
theorem dJ6_numberOfLeadingZeros_0f7a4_66 : decode cJ6_numberOfLeadingZeros_0f7a4 66 = .ok (.iinc 1 (-2), 3) := by decide +kernel
theorem dJ6_numberOfLeadingZeros_0f7a4_69 : decode cJ6_numberOfLeadingZeros_0f7a4 69 = .ok (.iload_n 0, 1) := by decide +kernel
theorem dJ6_numberOfLeadingZeros_0f7a4_70 : decode cJ6_numberOfLeadingZeros_0f7a4 70 = .ok (.iconst 2, 1) := by decide +kernel
theorem dJ6_numberOfLeadingZeros_0f7a4_71 : decode cJ6_numberOfLeadingZeros_0f7a4 71 = .ok (.iushr, 1) := by decide +kernel
theorem dJ6_numberOfLeadingZeros_0f7a4_72 : decode cJ6_numberOfLeadingZeros_0f7a4 72 = .ok (.istore_n 0, 1) := by decide +kernel
theorem dJ6_numberOfLeadingZeros_0f7a4_73 : decode cJ6_numberOfLeadingZeros_0f7a4 73 = .ok (.iload_n 1, 1) := by decide +kernel
theorem dJ6_numberOfLeadingZeros_0f7a4_74 : decode cJ6_numberOfLeadingZeros_0f7a4 74 = .ok (.iload_n 0, 1) := by decide +kernel
theorem dJ6_numberOfLeadingZeros_0f7a4_75 : decode cJ6_numberOfLeadingZeros_0f7a4 75 = .ok (.iconst 1, 1) := by decide +kernel
theorem dJ6_numberOfLeadingZeros_0f7a4_76 : decode cJ6_numberOfLeadingZeros_0f7a4 76 = .ok (.iushr, 1) := by decide +kernel
theorem dJ6_numberOfLeadingZeros_0f7a4_77 : decode cJ6_numberOfLeadingZeros_0f7a4 77 = .ok (.isub, 1) := by decide +kernel
theorem dJ6_numberOfLeadingZeros_0f7a4_78 : decode cJ6_numberOfLeadingZeros_0f7a4 78 = .ok (.ireturn, 1) := by decide +kernel
theorem dJ13_getChars_11360_0 : decode cJ13_getChars_11360 0 = .ok (.iload_n 2, 1) := by decide +kernel
theorem dJ13_getChars_11360_1 : decode cJ13_getChars_11360 1 = .ok (.istore 7, 2) := by decide +kernel
theorem dJ13_getChars_11360_3 : decode cJ13_getChars_11360 3 = .ok (.lload_n 0, 1) := by decide +kernel
theorem dJ13_getChars_11360_4 : decode cJ13_getChars_11360 4 = .ok (.lconst 0, 1) := by decide +kernel
theorem dJ13_getChars_11360_5 : decode cJ13_getChars_11360 5 = .ok (.lcmp, 1) := by decide +kernel
theorem dJ13_getChars_11360_6 : decode cJ13_getChars_11360 6 = .ok (.ifCond .ge 7, 3) := by decide +kernel
theorem dJ13_getChars_11360_9 : decode cJ13_getChars_11360 9 = .ok (.iconst 1, 1) := by decide +kernel
theorem dJ13_getChars_11360_10 : decode cJ13_getChars_11360 10 = .ok (.goto 4, 3) := by decide +kernel
theorem dJ13_getChars_11360_13 : decode cJ13_getChars_11360 13 = .ok (.iconst 0, 1) := by decide +kernel
theorem dJ13_getChars_11360_14 : decode cJ13_getChars_11360 14 = .ok (.istore 8, 2) := by decide +kernel
theorem dJ13_getChars_11360_16 : decode cJ13_getChars_11360 16 = .ok (.iload 8, 2) := by decide +kernel
theorem dJ13_getChars_11360_18 : decode cJ13_getChars_11360 18 = .ok (.ifCond .ne 6, 3) := by decide +kernel
theorem dJ13_getChars_11360_21 : decode cJ13_getChars_11360 21 = .ok (.lload_n 0, 1) := by decide +kernel
theorem dJ13_getChars_11360_22 : decode cJ13_getChars_11360 22 = .ok (.lneg, 1) := by decide +kernel
theorem dJ13_getChars_11360_23 : decode cJ13_getChars_11360 23 = .ok (.lstore_n 0, 1) := by decide +kernel
theorem dJ13_getChars_11360_24 : decode cJ13_getChars_11360 24 = .ok (.lload_n 0, 1) := by decide +kernel
theorem dJ13_getChars_11360_25 : decode cJ13_getChars_11360 25 = .ok (.ldc2_w 129, 3) := by decide +kernel
theorem dJ13_getChars_11360_28 : decode cJ13_getChars_11360 28 = .ok (.lcmp, 1) := by decide +kernel
theorem dJ13_getChars_11360_29 : decode cJ13_getChars_11360 29 = .ok (.ifCond .gt 53, 3) := by decide +kernel
theorem dJ13_getChars_11360_32 : decode cJ13_getChars_11360 32 = .ok (.lload_n 0, 1) := by decide +kernel
theorem dJ13_getChars_11360_33 : decode cJ13_getChars_11360 33 = .ok (.ldc2_w 131, 3) := by decide +kernel
theorem dJ13_getChars_11360_36 : decode cJ13_getChars_11360 36 = .ok (.ldiv, 1) := by decide +kernel
theorem dJ13_getChars_11360_37 : decode cJ13_getChars_11360 37 = .ok (.lstore 4, 2) := by decide +kernel
theorem dJ13_getChars_11360_39 : decode cJ13_getChars_11360 39 = .ok (.lload 4, 2) := by decide +kernel
theorem dJ13_getChars_11360_41 : decode cJ13_getChars_11360 41 = .ok (.ldc2_w 131, 3) := by decide +kernel
theorem dJ13_getChars_11360_44 : decode cJ13_getChars_11360 44 = .ok (.lmul, 1) := by decide +kernel
theorem dJ13_getChars_11360_45 : decode cJ13_getChars_11360 45 = .ok (.lload_n 0, 1) := by decide +kernel
theorem dJ13_getChars_11360_46 : decode cJ13_getChars_11360 46 = .ok (.lsub, 1) := by decide +kernel
theorem dJ13_getChars_11360_47 : decode cJ13_getChars_11360 47 = .ok (.l2i, 1) := by decide +kernel
theorem dJ13_getChars_11360_48 : decode cJ13_getChars_11360 48 = .ok (.istore 6, 2) := by decide +kernel
theorem dJ13_getChars_11360_50 : decode cJ13_getChars_11360 50 = .ok (.lload 4, 2) := by decide +kernel
theorem dJ13_getChars_11360_52 : decode cJ13_getChars_11360 52 = .ok (.lstore_n 0, 1) := by decide +kernel
theorem dJ13_getChars_11360_53 : decode cJ13_getChars_11360 53 = .ok (.aload_n 3, 1) := by decide +kernel
theorem dJ13_getChars_11360_54 : decode cJ13_getChars_11360 54 = .ok (.iinc 7 (-1), 3) := by decide +kernel
theorem dJ13_getChars_11360_57 : decode cJ13_getChars_11360 57 = .ok (.iload 7, 2) := by decide +kernel
theorem dJ13_getChars_11360_59 : decode cJ13_getChars_11360 59 = .ok (.getstatic 133, 3) := by decide +kernel
theorem dJ13_getChars_11360_62 : decode cJ13_getChars_11360 62 = .ok (.iload 6, 2) := by decide +kernel
theorem dJ13_getChars_11360_64 : decode cJ13_getChars_11360 64 = .ok (.baload, 1) := by decide +kernel
theorem dJ13_getChars_11360_65 : decode cJ13_getChars_11360 65 = .ok (.bastore, 1) := by decide +kernel
theorem dJ13_getChars_11360_66 : decode cJ13_getChars_11360 66 = .ok (.aload_n 3, 1) := by decide +kernel
theorem dJ13_getChars_11360_67 : decode cJ13_getChars_11360 67 = .ok (.iinc 7 (-1), 3) := by decide +kernel
theorem dJ13_getChars_11360_70 : decode cJ13_getChars_11360 70 = .ok (.iload 7, 2) := by decide +kernel
theorem dJ13_getChars_11360_72 : decode cJ13_getChars_11360 72 = .ok (.getstatic 137, 3) := by decide +kernel
theorem dJ13_getChars_11360_75 : decode cJ13_getChars_11360 75 = .ok (.iload 6, 2) := by decide +kernel
theorem dJ13_getChars_11360_77 : decode cJ13_getChars_11360 77 = .ok (.baload, 1) := by decide +kernel
theorem dJ13_getChars_11360_78 : decode cJ13_getChars_11360 78 = .ok (.bastore, 1) := by decide +kernel
theorem dJ13_getChars_11360_79 : decode cJ13_getChars_11360 79 = .ok (.goto (-55), 3) := by decide +kernel
theorem dJ13_getChars_11360_82 : decode cJ13_getChars_11360 82 = .ok (.lload_n 0, 1) := by decide +kernel
theorem dJ13_getChars_11360_83 : decode cJ13_getChars_11360 83 = .ok (.l2i, 1) := by decide +kernel
theorem dJ13_getChars_11360_84 : decode cJ13_getChars_11360 84 = .ok (.istore 10, 2) := by decide +kernel
theorem dJ13_getChars_11360_86 : decode cJ13_getChars_11360 86 = .ok (.iload 10, 2) := by decide +kernel
theorem dJ13_getChars_11360_88 : decode cJ13_getChars_11360 88 = .ok (.bipush (-100), 2) := by decide +kernel
theorem dJ13_getChars_11360_90 : decode cJ13_getChars_11360 90 = .ok (.if_icmp .gt 53, 3) := by decide +kernel
theorem dJ13_getChars_11360_93 : decode cJ13_getChars_11360 93 = .ok (.iload 10, 2) := by decide +kernel
theorem dJ13_getChars_11360_95 : decode cJ13_getChars_11360 95 = .ok (.bipush 100, 2) := by decide +kernel
theorem dJ13_getChars_11360_97 : decode cJ13_getChars_11360 97 = .ok (.idiv, 1) := by decide +kernel
theorem dJ13_getChars_11360_98 : decode cJ13_getChars_11360 98 = .ok (.istore 9, 2) := by decide +kernel
theorem dJ13_getChars_11360_100 : decode cJ13_getChars_11360 100 = .ok (.iload 9, 2) := by decide +kernel
theorem dJ13_getChars_11360_102 : decode cJ13_getChars_11360 102 = .ok (.bipush 100, 2) := by decide +kernel
theorem dJ13_getChars_11360_104 : decode cJ13_getChars_11360 104 = .ok (.imul, 1) := by decide +kernel
theorem dJ13_getChars_11360_105 : decode cJ13_getChars_11360 105 = .ok (.iload 10, 2) := by decide +kernel
theorem dJ13_getChars_11360_107 : decode cJ13_getChars_11360 107 = .ok (.isub, 1) := by decide +kernel
theorem dJ13_getChars_11360_108 : decode cJ13_getChars_11360 108 = .ok (.istore 6, 2) := by decide +kernel
theorem dJ13_getChars_11360_110 : decode cJ13_getChars_11360 110 = .ok (.iload 9, 2) := by decide +kernel
theorem dJ13_getChars_11360_112 : decode cJ13_getChars_11360 112 = .ok (.istore 10, 2) := by decide +kernel
theorem dJ13_getChars_11360_114 : decode cJ13_getChars_11360 114 = .ok (.aload_n 3, 1) := by decide +kernel
theorem dJ13_getChars_11360_115 : decode cJ13_getChars_11360 115 = .ok (.iinc 7 (-1), 3) := by decide +kernel
theorem dJ13_getChars_11360_118 : decode cJ13_getChars_11360 118 = .ok (.iload 7, 2) := by decide +kernel
theorem dJ13_getChars_11360_120 : decode cJ13_getChars_11360 120 = .ok (.getstatic 133, 3) := by decide +kernel
theorem dJ13_getChars_11360_123 : decode cJ13_getChars_11360 123 = .ok (.iload 6, 2) := by decide +kernel
theorem dJ13_getChars_11360_125 : decode cJ13_getChars_11360 125 = .ok (.baload, 1) := by decide +kernel
theorem dJ13_getChars_11360_126 : decode cJ13_getChars_11360 126 = .ok (.bastore, 1) := by decide +kernel
theorem dJ13_getChars_11360_127 : decode cJ13_getChars_11360 127 = .ok (.aload_n 3, 1) := by decide +kernel
theorem dJ13_getChars_11360_128 : decode cJ13_getChars_11360 128 = .ok (.iinc 7 (-1), 3) := by decide +kernel
theorem dJ13_getChars_11360_131 : decode cJ13_getChars_11360 131 = .ok (.iload 7, 2) := by decide +kernel
theorem dJ13_getChars_11360_133 : decode cJ13_getChars_11360 133 = .ok (.getstatic 137, 3) := by decide +kernel
theorem dJ13_getChars_11360_136 : decode cJ13_getChars_11360 136 = .ok (.iload 6, 2) := by decide +kernel
theorem dJ13_getChars_11360_138 : decode cJ13_getChars_11360 138 = .ok (.baload, 1) := by decide +kernel
theorem dJ13_getChars_11360_139 : decode cJ13_getChars_11360 139 = .ok (.bastore, 1) := by decide +kernel
theorem dJ13_getChars_11360_140 : decode cJ13_getChars_11360 140 = .ok (.goto (-54), 3) := by decide +kernel
theorem dJ13_getChars_11360_143 : decode cJ13_getChars_11360 143 = .ok (.aload_n 3, 1) := by decide +kernel
theorem dJ13_getChars_11360_144 : decode cJ13_getChars_11360 144 = .ok (.iinc 7 (-1), 3) := by decide +kernel
theorem dJ13_getChars_11360_147 : decode cJ13_getChars_11360 147 = .ok (.iload 7, 2) := by decide +kernel
theorem dJ13_getChars_11360_149 : decode cJ13_getChars_11360 149 = .ok (.getstatic 133, 3) := by decide +kernel
theorem dJ13_getChars_11360_152 : decode cJ13_getChars_11360 152 = .ok (.iload 10, 2) := by decide +kernel
theorem dJ13_getChars_11360_154 : decode cJ13_getChars_11360 154 = .ok (.ineg, 1) := by decide +kernel
theorem dJ13_getChars_11360_155 : decode cJ13_getChars_11360 155 = .ok (.baload, 1) := by decide +kernel
theorem dJ13_getChars_11360_156 : decode cJ13_getChars_11360 156 = .ok (.bastore, 1) := by decide +kernel
theorem dJ13_getChars_11360_157 : decode cJ13_getChars_11360 157 = .ok (.iload 10, 2) := by decide +kernel
theorem dJ13_getChars_11360_159 : decode cJ13_getChars_11360 159 = .ok (.bipush (-9), 2) := by decide +kernel
theorem dJ13_getChars_11360_161 : decode cJ13_getChars_11360 161 = .ok (.if_icmp .ge 17, 3) := by decide +kernel
theorem dJ13_getChars_11360_164 : decode cJ13_getChars_11360 164 = .ok (.aload_n 3, 1) := by decide +kernel
theorem dJ13_getChars_11360_165 : decode cJ13_getChars_11360 165 = .ok (.iinc 7 (-1), 3) := by decide +kernel
theorem dJ13_getChars_11360_168 : decode cJ13_getChars_11360 168 = .ok (.iload 7, 2) := by decide +kernel
theorem dJ13_getChars_11360_170 : decode cJ13_getChars_11360 170 = .ok (.getstatic 137, 3) := by decide +kernel
theorem dJ13_getChars_11360_173 : decode cJ13_getChars_11360 173 = .ok (.iload 10, 2) := by decide +kernel
theorem dJ13_getChars_11360_175 : decode cJ13_getChars_11360 175 = .ok (.ineg, 1) := by decide +kernel
theorem dJ13_getChars_11360_176 : decode cJ13_getChars_11360 176 = .ok (.baload, 1) := by decide +kernel
theorem dJ13_getChars_11360_177 : decode cJ13_getChars_11360 177 = .ok (.bastore, 1) := by decide +kernel
theorem dJ13_getChars_11360_178 : decode cJ13_getChars_11360 178 = .ok (.iload 8, 2) := by decide +kernel
theorem dJ13_getChars_11360_180 : decode cJ13_getChars_11360 180 = .ok (.ifCond .eq 12, 3) := by decide +kernel
theorem dJ13_getChars_11360_183 : decode cJ13_getChars_11360 183 = .ok (.aload_n 3, 1) := by decide +kernel
theorem dJ13_getChars_11360_184 : decode cJ13_getChars_11360 184 = .ok (.iinc 7 (-1), 3) := by decide +kernel
theorem dJ13_getChars_11360_187 : decode cJ13_getChars_11360 187 = .ok (.iload 7, 2) := by decide +kernel
theorem dJ13_getChars_11360_189 : decode cJ13_getChars_11360 189 = .ok (.bipush 45, 2) := by decide +kernel
theorem dJ13_getChars_11360_191 : decode cJ13_getChars_11360 191 = .ok (.bastore, 1) := by decide +kernel
theorem dJ13_getChars_11360_192 : decode cJ13_getChars_11360 192 = .ok (.iload 7, 2) := by decide +kernel
theorem dJ13_getChars_11360_194 : decode cJ13_getChars_11360 194 = .ok (.ireturn, 1) := by decide +kernel
theorem dJ13_stringSize_95d88_0 : decode cJ13_stringSize_95d88 0 = .ok (.iconst 1, 1) := by decide +kernel
theorem dJ13_stringSize_95d88_1 : decode cJ13_stringSize_95d88 1 = .ok (.istore_n 2, 1) := by decide +kernel
theorem dJ13_stringSize_95d88_2 : decode cJ13_stringSize_95d88 2 = .ok (.lload_n 0, 1) := by decide +kernel
theorem dJ13_stringSize_95d88_3 : decode cJ13_stringSize_95d88 3 = .ok (.lconst 0, 1) := by decide +kernel
theorem dJ13_stringSize_95d88_4 : decode cJ13_stringSize_95d88 4 = .ok (.lcmp, 1) := by decide +kernel
theorem dJ13_stringSize_95d88_5 : decode cJ13_stringSize_95d88 5 = .ok (.ifCond .lt 8, 3) := by decide +kernel
theorem dJ13_stringSize_95d88_8 : decode cJ13_stringSize_95d88 8 = .ok (.iconst 0, 1) := by decide +kernel
theorem dJ13_stringSize_95d88_9 : decode cJ13_stringSize_95d88 9 = .ok (.istore_n 2, 1) := by decide +kernel
theorem dJ13_stringSize_95d88_10 : decode cJ13_stringSize_95d88 10 = .ok (.lload_n 0, 1) := by decide +kernel
theorem dJ13_stringSize_95d88_11 : decode cJ13_stringSize_95d88 11 = .ok (.lneg, 1) := by decide +kernel
theorem dJ13_stringSize_95d88_12 : decode cJ13_stringSize_95d88 12 = .ok (.lstore_n 0, 1) := by decide +kernel
theorem dJ13_stringSize_95d88_13 : decode cJ13_stringSize_95d88 13 = .ok (.ldc2_w 140, 3) := by decide +kernel
theorem dJ13_stringSize_95d88_16 : decode cJ13_stringSize_95d88 16 = .ok (.lstore_n 3, 1) := by decide +kernel
theorem dJ13_stringSize_95d88_17 : decode cJ13_stringSize_95d88 17 = .ok (.iconst 1, 1) := by decide +kernel
theorem dJ13_stringSize_95d88_18 : decode cJ13_stringSize_95d88 18 = .ok (.istore 5, 2) := by decide +kernel
theorem dJ13_stringSize_95d88_20 : decode cJ13_stringSize_95d88 20 = .ok (.iload 5, 2) := by decide +kernel
theorem dJ13_stringSize_95d88_22 : decode cJ13_stringSize_95d88 22 = .ok (.bipush 19, 2) := by decide +kernel
theorem dJ13_stringSize_95d88_24 : decode cJ13_stringSize_95d88 24 = .ok (.if_icmp .ge 26, 3) := by decide +kernel
theorem dJ13_stringSize_95d88_27 : decode cJ13_stringSize_95d88 27 = .ok (.lload_n 0, 1) := by decide +kernel
theorem dJ13_stringSize_95d88_28 : decode cJ13_stringSize_95d88 28 = .ok (.lload_n 3, 1) := by decide +kernel
theorem dJ13_stringSize_95d88_29 : decode cJ13_stringSize_95d88 29 = .ok (.lcmp, 1) := by decide +kernel
theorem dJ13_stringSize_95d88_30 : decode cJ13_stringSize_95d88 30 = .ok (.ifCond .le 8, 3) := by decide +kernel
theorem dJ13_stringSize_95d88_33 : decode cJ13_stringSize_95d88 33 = .ok (.iload 5, 2) := by decide +kernel
theorem dJ13_stringSize_95d88_35 : decode cJ13_stringSize_95d88 35 = .ok (.iload_n 2, 1) := by decide +kernel
theorem dJ13_stringSize_95d88_36 : decode cJ13_stringSize_95d88 36 = .ok (.iadd, 1) := by decide +kernel
theorem dJ13_stringSize_95d88_37 : decode cJ13_stringSize_95d88 37 = .ok (.ireturn, 1) := by decide +kernel
theorem dJ13_stringSize_95d88_38 : decode cJ13_stringSize_95d88 38 = .ok (.ldc2_w 53, 3) := by decide +kernel
theorem dJ13_stringSize_95d88_41 : decode cJ13_stringSize_95d88 41 = .ok (.lload_n 3, 1) := by decide +kernel
theorem dJ13_stringSize_95d88_42 : decode cJ13_stringSize_95d88 42 = .ok (.lmul, 1) := by decide +kernel
theorem dJ13_stringSize_95d88_43 : decode cJ13_stringSize_95d88 43 = .ok (.lstore_n 3, 1) := by decide +kernel
theorem dJ13_stringSize_95d88_44 : decode cJ13_stringSize_95d88 44 = .ok (.iinc 5 1, 3) := by decide +kernel
theorem dJ13_stringSize_95d88_47 : decode cJ13_stringSize_95d88 47 = .ok (.goto (-27), 3) := by decide +kernel
theorem dJ13_stringSize_95d88_50 : decode cJ13_stringSize_95d88 50 = .ok (.bipush 19, 2) := by decide +kernel
theorem dJ13_stringSize_95d88_52 : decode cJ13_stringSize_95d88 52 = .ok (.iload_n 2, 1) := by decide +kernel
theorem dJ13_stringSize_95d88_53 : decode cJ13_stringSize_95d88 53 = .ok (.iadd, 1) := by decide +kernel
theorem dJ13_stringSize_95d88_54 : decode cJ13_stringSize_95d88 54 = .ok (.ireturn, 1) := by decide +kernel
set_option maxRecDepth 20000 in
theorem ggJ13_numberOfLeadingZeros_95d88_J6_numberOfLeadingZeros_0f7a4 : GoodIn wsJ13_numberOfLeadingZeros_95d88 wsJ6_numberOfLeadingZeros_0f7a4 := goodIn_r _ [4, 5] (by decide +kernel) (by decide +kernel)
set_option maxRecDepth 20000 in
theorem gJ13_numberOfLeadingZeros_95d88_J6_numberOfLeadingZeros_0f7a4 : GoodIn wsJ13_numberOfLeadingZeros_95d88 (va_wsS RJ13 308 yJ6_numberOfLeadingZeros_0f7a4 wsJ6_numberOfLeadingZeros_0f7a4) := goodIn_app (goodIn_of _ (by decide +kernel)) ggJ13_numberOfLeadingZeros_95d88_J6_numberOfLeadingZeros_0f7a4
theorem dJ13_numberOfLeadingZeros_95d88_0 : decode cJ13_numberOfLeadingZeros_95d88 0 = .ok (.lload_n 0, 1) := by decide +kernel
theorem dJ13_numberOfLeadingZeros_95d88_1 : decode cJ13_numberOfLeadingZeros_95d88 1 = .ok (.bipush 32, 2) := by decide +kernel
theorem dJ13_numberOfLeadingZeros_95d88_3 : decode cJ13_numberOfLeadingZeros_95d88 3 = .ok (.lushr, 1) := by decide +kernel
theorem dJ13_numberOfLeadingZeros_95d88_4 : decode cJ13_numberOfLeadingZeros_95d88 4 = .ok (.l2i, 1) := by decide +kernel
theorem dJ13_numberOfLeadingZeros_95d88_5 : decode cJ13_numberOfLeadingZeros_95d88 5 = .ok (.istore_n 2, 1) := by decide +kernel
theorem dJ13_numberOfLeadingZeros_95d88_6 : decode cJ13_numberOfLeadingZeros_95d88 6 = .ok (.iload_n 2, 1) := by decide +kernel
theorem dJ13_numberOfLeadingZeros_95d88_7 : decode cJ13_numberOfLeadingZeros_95d88 7 = .ok (.ifCond .ne 14, 3) := by decide +kernel
theorem dJ13_numberOfLeadingZeros_95d88_10 : decode cJ13_numberOfLeadingZeros_95d88 10 = .ok (.bipush 32, 2) := by decide +kernel
theorem dJ13_numberOfLeadingZeros_95d88_12 : decode cJ13_numberOfLeadingZeros_95d88 12 = .ok (.lload_n 0, 1) := by decide +kernel
theorem dJ13_numberOfLeadingZeros_95d88_13 : decode cJ13_numberOfLeadingZeros_95d88 13 = .ok (.l2i, 1) := by decide +kernel
theorem dJ13_numberOfLeadingZeros_95d88_14 : decode cJ13_numberOfLeadingZeros_95d88 14 = .ok (.invokestatic 308, 3) := by decide +kernel
theorem dJ13_numberOfLeadingZeros_95d88_17 : decode cJ13_numberOfLeadingZeros_95d88 17 = .ok (.iadd, 1) := by decide +kernel
theorem dJ13_numberOfLeadingZeros_95d88_18 : decode cJ13_numberOfLeadingZeros_95d88 18 = .ok (.goto 7, 3) := by decide +kernel
theorem dJ13_numberOfLeadingZeros_95d88_21 : decode cJ13_numberOfLeadingZeros_95d88 21 = .ok (.iload_n 2, 1) := by decide +kernel
theorem dJ13_numberOfLeadingZeros_95d88_22 : decode cJ13_numberOfLeadingZeros_95d88 22 = .ok (.invokestatic 308, 3) := by decide +kernel
theorem dJ13_numberOfLeadingZeros_95d88_25 : decode cJ13_numberOfLeadingZeros_95d88 25 = .ok (.ireturn, 1) := by decide +kernel
theorem dJ9_multiplyHigh_f86c9_0 : decode cJ9_multiplyHigh_f86c9 0 = .ok (.lload_n 0, 1) := by decide +kernel
theorem dJ9_multiplyHigh_f86c9_1 : decode cJ9_multiplyHigh_f86c9 1 = .ok (.bipush 32, 2) := by decide +kernel
theorem dJ9_multiplyHigh_f86c9_3 : decode cJ9_multiplyHigh_f86c9 3 = .ok (.lshr, 1) := by decide +kernel
theorem dJ9_multiplyHigh_f86c9_4 : decode cJ9_multiplyHigh_f86c9 4 = .ok (.lstore 4, 2) := by decide +kernel
theorem dJ9_multiplyHigh_f86c9_6 : decode cJ9_multiplyHigh_f86c9 6 = .ok (.lload_n 0, 1) := by decide +kernel
theorem dJ9_multiplyHigh_f86c9_7 : decode cJ9_multiplyHigh_f86c9 7 = .ok (.ldc2_w 138, 3) := by decide +kernel
theorem dJ9_multiplyHigh_f86c9_10 : decode cJ9_multiplyHigh_f86c9 10 = .ok (.land, 1) := by decide +kernel
theorem dJ9_multiplyHigh_f86c9_11 : decode cJ9_multiplyHigh_f86c9 11 = .ok (.lstore 6, 2) := by decide +kernel
theorem dJ9_multiplyHigh_f86c9_13 : decode cJ9_multiplyHigh_f86c9 13 = .ok (.lload_n 2, 1) := by decide +kernel
theorem dJ9_multiplyHigh_f86c9_14 : decode cJ9_multiplyHigh_f86c9 14 = .ok (.bipush 32, 2) := by decide +kernel
theorem dJ9_multiplyHigh_f86c9_16 : decode cJ9_multiplyHigh_f86c9 16 = .ok (.lshr, 1) := by decide +kernel
theorem dJ9_multiplyHigh_f86c9_17 : decode cJ9_multiplyHigh_f86c9 17 = .ok (.lstore 8, 2) := by decide +kernel
theorem dJ9_multiplyHigh_f86c9_19 : decode cJ9_multiplyHigh_f86c9 19 = .ok (.lload_n 2, 1) := by decide +kernel
theorem dJ9_multiplyHigh_f86c9_20 : decode cJ9_multiplyHigh_f86c9 20 = .ok (.ldc2_w 138, 3) := by decide +kernel
theorem dJ9_multiplyHigh_f86c9_23 : decode cJ9_multiplyHigh_f86c9 23 = .ok (.land, 1) := by decide +kernel
theorem dJ9_multiplyHigh_f86c9_24 : decode cJ9_multiplyHigh_f86c9 24 = .ok (.lstore 10, 2) := by decide +kernel
theorem dJ9_multiplyHigh_f86c9_26 : decode cJ9_multiplyHigh_f86c9 26 = .ok (.lload 6, 2) := by decide +kernel
theorem dJ9_multiplyHigh_f86c9_28 : decode cJ9_multiplyHigh_f86c9 28 = .ok (.lload 10, 2) := by decide +kernel
theorem dJ9_multiplyHigh_f86c9_30 : decode cJ9_multiplyHigh_f86c9 30 = .ok (.lmul, 1) := by decide +kernel
theorem dJ9_multiplyHigh_f86c9_31 : decode cJ9_multiplyHigh_f86c9 31 = .ok (.lstore 12, 2) := by decide +kernel
theorem dJ9_multiplyHigh_f86c9_33 : decode cJ9_multiplyHigh_f86c9 33 = .ok (.lload 4, 2) := by decide +kernel
theorem dJ9_multiplyHigh_f86c9_35 : decode cJ9_multiplyHigh_f86c9 35 = .ok (.lload 10, 2) := by decide +kernel
theorem dJ9_multiplyHigh_f86c9_37 : decode cJ9_multiplyHigh_f86c9 37 = .ok (.lmul, 1) := by decide +kernel
theorem dJ9_multiplyHigh_f86c9_38 : decode cJ9_multiplyHigh_f86c9 38 = .ok (.lload 12, 2) := by decide +kernel
theorem dJ9_multiplyHigh_f86c9_40 : decode cJ9_multiplyHigh_f86c9 40 = .ok (.bipush 32, 2) := by decide +kernel
theorem dJ9_multiplyHigh_f86c9_42 : decode cJ9_multiplyHigh_f86c9 42 = .ok (.lushr, 1) := by decide +kernel
theorem dJ9_multiplyHigh_f86c9_43 : decode cJ9_multiplyHigh_f86c9 43 = .ok (.ladd, 1) := by decide +kernel
theorem dJ9_multiplyHigh_f86c9_44 : decode cJ9_multiplyHigh_f86c9 44 = .ok (.lstore 14, 2) := by decide +kernel
theorem dJ9_multiplyHigh_f86c9_46 : decode cJ9_multiplyHigh_f86c9 46 = .ok (.lload 14, 2) := by decide +kernel
theorem dJ9_multiplyHigh_f86c9_48 : decode cJ9_multiplyHigh_f86c9 48 = .ok (.ldc2_w 138, 3) := by decide +kernel
theorem dJ9_multiplyHigh_f86c9_51 : decode cJ9_multiplyHigh_f86c9 51 = .ok (.land, 1) := by decide +kernel
theorem dJ9_multiplyHigh_f86c9_52 : decode cJ9_multiplyHigh_f86c9 52 = .ok (.lstore 16, 2) := by decide +kernel
theorem dJ9_multiplyHigh_f86c9_54 : decode cJ9_multiplyHigh_f86c9 54 = .ok (.lload 14, 2) := by decide +kernel
theorem dJ9_multiplyHigh_f86c9_56 : decode cJ9_multiplyHigh_f86c9 56 = .ok (.bipush 32, 2) := by decide +kernel
theorem dJ9_multiplyHigh_f86c9_58 : decode cJ9_multiplyHigh_f86c9 58 = .ok (.lshr, 1) := by decide +kernel
theorem dJ9_multiplyHigh_f86c9_59 : decode cJ9_multiplyHigh_f86c9 59 = .ok (.lstore 18, 2) := by decide +kernel
theorem dJ9_multiplyHigh_f86c9_61 : decode cJ9_multiplyHigh_f86c9 61 = .ok (.lload 16, 2) := by decide +kernel
theorem dJ9_multiplyHigh_f86c9_63 : decode cJ9_multiplyHigh_f86c9 63 = .ok (.lload 6, 2) := by decide +kernel
theorem dJ9_multiplyHigh_f86c9_65 : decode cJ9_multiplyHigh_f86c9 65 = .ok (.lload 8, 2) := by decide +kernel
theorem dJ9_multiplyHigh_f86c9_67 : decode cJ9_multiplyHigh_f86c9 67 = .ok (.lmul, 1) := by decide +kernel
theorem dJ9_multiplyHigh_f86c9_68 : decode cJ9_multiplyHigh_f86c9 68 = .ok (.ladd, 1) := by decide +kernel
theorem dJ9_multiplyHigh_f86c9_69 : decode cJ9_multiplyHigh_f86c9 69 = .ok (.lstore 16, 2) := by decide +kernel
theorem dJ9_multiplyHigh_f86c9_71 : decode cJ9_multiplyHigh_f86c9 71 = .ok (.lload 4, 2) := by decide +kernel
theorem dJ9_multiplyHigh_f86c9_73 : decode cJ9_multiplyHigh_f86c9 73 = .ok (.lload 8, 2) := by decide +kernel
theorem dJ9_multiplyHigh_f86c9_75 : decode cJ9_multiplyHigh_f86c9 75 = .ok (.lmul, 1) := by decide +kernel
theorem dJ9_multiplyHigh_f86c9_76 : decode cJ9_multiplyHigh_f86c9 76 = .ok (.lload 18, 2) := by decide +kernel
theorem dJ9_multiplyHigh_f86c9_78 : decode cJ9_multiplyHigh_f86c9 78 = .ok (.ladd, 1) := by decide +kernel
theorem dJ9_multiplyHigh_f86c9_79 : decode cJ9_multiplyHigh_f86c9 79 = .ok (.lload 16, 2) := by decide +kernel
theorem dJ9_multiplyHigh_f86c9_81 : decode cJ9_multiplyHigh_f86c9 81 = .ok (.bipush 32, 2) := by decide +kernel
theorem dJ9_multiplyHigh_f86c9_83 : decode cJ9_multiplyHigh_f86c9 83 = .ok (.lshr, 1) := by decide +kernel
theorem dJ9_multiplyHigh_f86c9_84 : decode cJ9_multiplyHigh_f86c9 84 = .ok (.ladd, 1) := by decide +kernel
theorem dJ9_multiplyHigh_f86c9_85 : decode cJ9_multiplyHigh_f86c9 85 = .ok (.lreturn, 1) := by decide +kernel
theorem dJ9_max_7cf53_0 : decode cJ9_max_7cf53 0 = .ok (.iload_n 0, 1) := by decide +kernel
theorem dJ9_max_7cf53_1 : decode cJ9_max_7cf53 1 = .ok (.iload_n 1, 1) := by decide +kernel
theorem dJ9_max_7cf53_2 : decode cJ9_max_7cf53 2 = .ok (.if_icmp .lt 7, 3) := by decide +kernel
theorem dJ9_max_7cf53_5 : decode cJ9_max_7cf53 5 = .ok (.iload_n 0, 1) := by decide +kernel
theorem dJ9_max_7cf53_6 : decode cJ9_max_7cf53 6 = .ok (.goto 4, 3) := by decide +kernel
theorem dJ9_max_7cf53_9 : decode cJ9_max_7cf53 9 = .ok (.iload_n 1, 1) := by decide +kernel
theorem dJ9_max_7cf53_10 : decode cJ9_max_7cf53 10 = .ok (.ireturn, 1) := by decide +kernel
theorem dJ9_min_7cf53_0 : decode cJ9_min_7cf53 0 = .ok (.iload_n 0, 1) := by decide +kernel
theorem dJ9_min_7cf53_1 : decode cJ9_min_7cf53 1 = .ok (.iload_n 1, 1) := by decide +kernel
theorem dJ9_min_7cf53_2 : decode cJ9_min_7cf53 2 = .ok (.if_icmp .gt 7, 3) := by decide +kernel
theorem dJ9_min_7cf53_5 : decode cJ9_min_7cf53 5 = .ok (.iload_n 0, 1) := by decide +kernel
theorem dJ9_min_7cf53_6 : decode cJ9_min_7cf53 6 = .ok (.goto 4, 3) := by decide +kernel
theorem dJ9_min_7cf53_9 : decode cJ9_min_7cf53 9 = .ok (.iload_n 1, 1) := by decide +kernel
theorem dJ9_min_7cf53_10 : decode cJ9_min_7cf53 10 = .ok (.ireturn, 1) := by decide +kernel
set_option maxRecDepth 20000 in
theorem ggJ0_init_81219_J0_init_db425 : GoodIn wsJ0_init_81219 wsJ0_init_db425 := goodIn_r _ [4, 5, 6, 7, 8, 9, 10, 11, 12, 13, 14, 15, 16, 17, 18, 19, 20, 21, 22, 23, 24, 25, 26, 27, 28, 29, 30, 31, 32, 33, 34, 35, 36, 37, 38, 39, 40, 41, 42, 43, 44, 45, 46, 47, 48, 49, 50, 51, 52, 53, 54, 55, 56, 57, 58, 59, 60, 61, 62, 63, 64, 65, 66, 67, 68, 69, 70, 71, 72, 73, 74, 75, 76, 77, 78, 79, 3, 80, 81, 82, 83, 84, 85, 86, 87, 88, 89, 90, 91, 92, 93, 94, 95, 96, 97, 98, 99, 100, 101, 102, 103, 104, 105, 106, 107] (by decide +kernel) (by decide +kernel)
set_option maxRecDepth 20000 in
theorem gJ0_init_81219_J0_init_db425 : GoodIn wsJ0_init_81219 (wsJ0_init_db425) := ggJ0_init_81219_J0_init_db425
theorem dJ0_init_81219_0 : decode cJ0_init_81219 0 = .ok (.aload_n 0, 1) := by decide +kernel
theorem dJ0_init_81219_1 : decode cJ0_init_81219 1 = .ok (.aload_n 1, 1) := by decide +kernel
theorem dJ0_init_81219_2 : decode cJ0_init_81219 2 = .ok (.aconst_null, 1) := by decide +kernel
theorem dJ0_init_81219_3 : decode cJ0_init_81219 3 = .ok (.invokespecial 489, 3) := by decide +kernel
theorem dJ0_init_81219_6 : decode cJ0_init_81219 6 = .ok (.return_, 1) := by decide +kernel
set_option maxRecDepth 20000 in
theorem ggJ0_length_8abf5_J0_coder_7d493 : GoodIn wsJ0_length_8abf5 wsJ0_coder_7d493 := goodIn_r _ [6, 7, 8, 9, 10, 11, 12] (by decide +kernel) (by decide +kernel)
set_option maxRecDepth 20000 in
theorem gJ0_length_8abf5_J0_coder_7d493 : GoodIn wsJ0_length_8abf5 (wsV RJ0 335 RJ0 yJ0_coder_7d493 wsJ0_coder_7d493) := goodIn_app (goodIn_of _ (by decide +kernel)) ggJ0_length_8abf5_J0_coder_7d493
theorem dJ0_length_8abf5_0 : decode cJ0_length_8abf5 0 = .ok (.aload_n 0, 1) := by decide +kernel
theorem dJ0_length_8abf5_1 : decode cJ0_length_8abf5 1 = .ok (.getfield 9, 3) := by decide +kernel
theorem dJ0_length_8abf5_4 : decode cJ0_length_8abf5 4 = .ok (.arraylength, 1) := by decide +kernel
theorem dJ0_length_8abf5_5 : decode cJ0_length_8abf5 5 = .ok (.aload_n 0, 1) := by decide +kernel
theorem dJ0_length_8abf5_6 : decode cJ0_length_8abf5 6 = .ok (.invokevirtual 335, 3) := by decide +kernel
theorem dJ0_length_8abf5_9 : decode cJ0_length_8abf5 9 = .ok (.ishr, 1) := by decide +kernel
theorem dJ0_length_8abf5_10 : decode cJ0_length_8abf5 10 = .ok (.ireturn, 1) := by decide +kernel
set_option maxRecDepth 20000 in
theorem ggJ0_charAt_5068e_J0_isLatin1_aae02 : GoodIn wsJ0_charAt_5068e wsJ0_isLatin1_aae02 := goodIn_r _ [6, 7, 8, 38, 39, 40, 41] (by decide +kernel) (by decide +kernel)
set_option maxRecDepth 20000 in
theorem gJ0_charAt_5068e_J0_isLatin1_aae02 : GoodIn wsJ0_charAt_5068e (wsV RJ0 492 RJ0 yJ0_isLatin1_aae02 wsJ0_isLatin1_aae02) := goodIn_app (goodIn_of _ (by decide +kernel)) ggJ0_charAt_5068e_J0_isLatin1_aae02
set_option maxRecDepth 20000 in
theorem ggJ0_charAt_5068e_J1_charAt_3b067 : GoodIn wsJ0_charAt_5068e wsJ1_charAt_3b067 := goodIn_r _ [12, 13, 14, 5, 15, 16, 17, 18, 19, 20] (by decide +kernel) (by decide +kernel)
set_option maxRecDepth 20000 in
theorem gJ0_charAt_5068e_J1_charAt_3b067 : GoodIn wsJ0_charAt_5068e (va_wsS RJ0 495 yJ1_charAt_3b067 wsJ1_charAt_3b067) := goodIn_app (goodIn_of _ (by decide +kernel)) ggJ0_charAt_5068e_J1_charAt_3b067
set_option maxRecDepth 20000 in
theorem ggJ0_charAt_5068e_J2_charAt_3b067 : GoodIn wsJ0_charAt_5068e wsJ2_charAt_3b067 := goodIn_r _ [24, 25, 26, 23, 27, 28, 29, 30, 31, 14, 5, 15, 16, 17, 18, 19, 20, 32, 33, 34, 35, 36, 37] (by decide +kernel) (by decide +kernel)
set_option maxRecDepth 20000 in
theorem gJ0_charAt_5068e_J2_charAt_3b067 : GoodIn wsJ0_charAt_5068e (va_wsS RJ0 498 yJ2_charAt_3b067 wsJ2_charAt_3b067) := goodIn_app (goodIn_of _ (by decide +kernel)) ggJ0_charAt_5068e_J2_charAt_3b067
theorem dJ0_charAt_5068e_0 : decode cJ0_charAt_5068e 0 = .ok (.aload_n 0, 1) := by decide +kernel
theorem dJ0_charAt_5068e_1 : decode cJ0_charAt_5068e 1 = .ok (.invokevirtual 492, 3) := by decide +kernel
theorem dJ0_charAt_5068e_4 : decode cJ0_charAt_5068e 4 = .ok (.ifCond .eq 12, 3) := by decide +kernel
theorem dJ0_charAt_5068e_7 : decode cJ0_charAt_5068e 7 = .ok (.aload_n 0, 1) := by decide +kernel
theorem dJ0_charAt_5068e_8 : decode cJ0_charAt_5068e 8 = .ok (.getfield 9, 3) := by decide +kernel
theorem dJ0_charAt_5068e_11 : decode cJ0_charAt_5068e 11 = .ok (.iload_n 1, 1) := by decide +kernel
theorem dJ0_charAt_5068e_12 : decode cJ0_charAt_5068e 12 = .ok (.invokestatic 495, 3) := by decide +kernel
theorem dJ0_charAt_5068e_15 : decode cJ0_charAt_5068e 15 = .ok (.ireturn, 1) := by decide +kernel
theorem dJ0_charAt_5068e_16 : decode cJ0_charAt_5068e 16 = .ok (.aload_n 0, 1) := by decide +kernel
theorem dJ0_charAt_5068e_17 : decode cJ0_charAt_5068e 17 = .ok (.getfield 9, 3) := by decide +kernel
theorem dJ0_charAt_5068e_20 : decode cJ0_charAt_5068e 20 = .ok (.iload_n 1, 1) := by decide +kernel
theorem dJ0_charAt_5068e_21 : decode cJ0_charAt_5068e 21 = .ok (.invokestatic 498, 3) := by decide +kernel
theorem dJ0_charAt_5068e_24 : decode cJ0_charAt_5068e 24 = .ok (.ireturn, 1) := by decide +kernel
set_option maxRecDepth 20000 in
theorem ggJ0_equals_9ea2d_J1_equals_b5fdf : GoodIn wsJ0_equals_9ea2d wsJ1_equals_b5fdf := goodIn_r _ [8] (by decide +kernel) (by decide +kernel)
set_option maxRecDepth 20000 in
theorem gJ0_equals_9ea2d_J1_equals_b5fdf : GoodIn wsJ0_equals_9ea2d (va_wsS RJ0 541 yJ1_equals_b5fdf wsJ1_equals_b5fdf) := goodIn_app (goodIn_of _ (by decide +kernel)) ggJ0_equals_9ea2d_J1_equals_b5fdf
theorem dJ0_equals_9ea2d_0 : decode cJ0_equals_9ea2d 0 = .ok (.aload_n 0, 1) := by decide +kernel
theorem dJ0_equals_9ea2d_1 : decode cJ0_equals_9ea2d 1 = .ok (.aload_n 1, 1) := by decide +kernel
theorem dJ0_equals_9ea2d_2 : decode cJ0_equals_9ea2d 2 = .ok (.if_acmp .ne 5, 3) := by decide +kernel
theorem dJ0_equals_9ea2d_5 : decode cJ0_equals_9ea2d 5 = .ok (.iconst 1, 1) := by decide +kernel
theorem dJ0_equals_9ea2d_6 : decode cJ0_equals_9ea2d 6 = .ok (.ireturn, 1) := by decide +kernel
theorem dJ0_equals_9ea2d_7 : decode cJ0_equals_9ea2d 7 = .ok (.aload_n 1, 1) := by decide +kernel
theorem dJ0_equals_9ea2d_8 : decode cJ0_equals_9ea2d 8 = .ok (.instanceof 10, 3) := by decide +kernel
theorem dJ0_equals_9ea2d_11 : decode cJ0_equals_9ea2d 11 = .ok (.ifCond .eq 43, 3) := by decide +kernel
theorem dJ0_equals_9ea2d_14 : decode cJ0_equals_9ea2d 14 = .ok (.aload_n 1, 1) := by decide +kernel
theorem dJ0_equals_9ea2d_15 : decode cJ0_equals_9ea2d 15 = .ok (.checkcast 10, 3) := by decide +kernel
theorem dJ0_equals_9ea2d_18 : decode cJ0_equals_9ea2d 18 = .ok (.astore_n 2, 1) := by decide +kernel
theorem dJ0_equals_9ea2d_19 : decode cJ0_equals_9ea2d 19 = .ok (.getstatic 38, 3) := by decide +kernel
theorem dJ0_equals_9ea2d_22 : decode cJ0_equals_9ea2d 22 = .ok (.ifCond .eq 14, 3) := by decide +kernel
theorem dJ0_equals_9ea2d_25 : decode cJ0_equals_9ea2d 25 = .ok (.aload_n 0, 1) := by decide +kernel
theorem dJ0_equals_9ea2d_26 : decode cJ0_equals_9ea2d 26 = .ok (.getfield 15, 3) := by decide +kernel
theorem dJ0_equals_9ea2d_29 : decode cJ0_equals_9ea2d 29 = .ok (.aload_n 2, 1) := by decide +kernel
theorem dJ0_equals_9ea2d_30 : decode cJ0_equals_9ea2d 30 = .ok (.getfield 15, 3) := by decide +kernel
theorem dJ0_equals_9ea2d_33 : decode cJ0_equals_9ea2d 33 = .ok (.if_icmp .ne 21, 3) := by decide +kernel
theorem dJ0_equals_9ea2d_36 : decode cJ0_equals_9ea2d 36 = .ok (.aload_n 0, 1) := by decide +kernel
theorem dJ0_equals_9ea2d_37 : decode cJ0_equals_9ea2d 37 = .ok (.getfield 9, 3) := by decide +kernel
theorem dJ0_equals_9ea2d_40 : decode cJ0_equals_9ea2d 40 = .ok (.aload_n 2, 1) := by decide +kernel
theorem dJ0_equals_9ea2d_41 : decode cJ0_equals_9ea2d 41 = .ok (.getfield 9, 3) := by decide +kernel
theorem dJ0_equals_9ea2d_44 : decode cJ0_equals_9ea2d 44 = .ok (.invokestatic 541, 3) := by decide +kernel
theorem dJ0_equals_9ea2d_47 : decode cJ0_equals_9ea2d 47 = .ok (.ifCond .eq 7, 3) := by decide +kernel
theorem dJ0_equals_9ea2d_50 : decode cJ0_equals_9ea2d 50 = .ok (.iconst 1, 1) := by decide +kernel
theorem dJ0_equals_9ea2d_51 : decode cJ0_equals_9ea2d 51 = .ok (.goto 4, 3) := by decide +kernel
theorem dJ0_equals_9ea2d_54 : decode cJ0_equals_9ea2d 54 = .ok (.iconst 0, 1) := by decide +kernel
theorem dJ0_equals_9ea2d_55 : decode cJ0_equals_9ea2d 55 = .ok (.ireturn, 1) := by decide +kernel
set_option maxRecDepth 20000 in
theorem ggJ0_getBytes_840e7_J0_coder_7d493 : GoodIn wsJ0_getBytes_840e7 wsJ0_coder_7d493 := goodIn_r _ [10, 11, 12, 41, 42, 43, 44] (by decide +kernel) (by decide +kernel)
set_option maxRecDepth 20000 in
theorem gJ0_getBytes_840e7_J0_coder_7d493 : GoodIn wsJ0_getBytes_840e7 (wsV RJ0 335 RJ0 yJ0_coder_7d493 wsJ0_coder_7d493) := goodIn_app (goodIn_of _ (by decide +kernel)) ggJ0_getBytes_840e7_J0_coder_7d493
set_option maxRecDepth 20000 in
theorem ggJ0_getBytes_840e7_J1_inflate_0e8fd : GoodIn wsJ0_getBytes_840e7 wsJ1_inflate_0e8fd := goodIn_r _ [16, 17, 18, 19, 20, 21, 22, 23, 24, 25, 26, 27, 28, 9, 29, 30, 31, 32, 33, 34, 35, 36, 37, 38, 39, 40] (by decide +kernel) (by decide +kernel)
set_option maxRecDepth 20000 in
theorem gJ0_getBytes_840e7_J1_inflate_0e8fd : GoodIn wsJ0_getBytes_840e7 (va_wsS RJ0 106 yJ1_inflate_0e8fd wsJ1_inflate_0e8fd) := goodIn_app (goodIn_of _ (by decide +kernel)) ggJ0_getBytes_840e7_J1_inflate_0e8fd
theorem dJ0_getBytes_840e7_0 : decode cJ0_getBytes_840e7 0 = .ok (.aload_n 0, 1) := by decide +kernel
theorem dJ0_getBytes_840e7_1 : decode cJ0_getBytes_840e7 1 = .ok (.invokevirtual 335, 3) := by decide +kernel
theorem dJ0_getBytes_840e7_4 : decode cJ0_getBytes_840e7 4 = .ok (.iload_n 3, 1) := by decide +kernel
theorem dJ0_getBytes_840e7_5 : decode cJ0_getBytes_840e7 5 = .ok (.if_icmp .ne 23, 3) := by decide +kernel
theorem dJ0_getBytes_840e7_8 : decode cJ0_getBytes_840e7 8 = .ok (.aload_n 0, 1) := by decide +kernel
theorem dJ0_getBytes_840e7_9 : decode cJ0_getBytes_840e7 9 = .ok (.getfield 9, 3) := by decide +kernel
theorem dJ0_getBytes_840e7_12 : decode cJ0_getBytes_840e7 12 = .ok (.iconst 0, 1) := by decide +kernel
theorem dJ0_getBytes_840e7_13 : decode cJ0_getBytes_840e7 13 = .ok (.aload_n 1, 1) := by decide +kernel
theorem dJ0_getBytes_840e7_14 : decode cJ0_getBytes_840e7 14 = .ok (.iload_n 2, 1) := by decide +kernel
theorem dJ0_getBytes_840e7_15 : decode cJ0_getBytes_840e7 15 = .ok (.iload_n 3, 1) := by decide +kernel
theorem dJ0_getBytes_840e7_16 : decode cJ0_getBytes_840e7 16 = .ok (.ishl, 1) := by decide +kernel
theorem dJ0_getBytes_840e7_17 : decode cJ0_getBytes_840e7 17 = .ok (.aload_n 0, 1) := by decide +kernel
theorem dJ0_getBytes_840e7_18 : decode cJ0_getBytes_840e7 18 = .ok (.getfield 9, 3) := by decide +kernel
theorem dJ0_getBytes_840e7_21 : decode cJ0_getBytes_840e7 21 = .ok (.arraylength, 1) := by decide +kernel
theorem dJ0_getBytes_840e7_22 : decode cJ0_getBytes_840e7 22 = .ok (.invokestatic 212, 3) := by decide +kernel
theorem dJ0_getBytes_840e7_25 : decode cJ0_getBytes_840e7 25 = .ok (.goto 18, 3) := by decide +kernel
theorem dJ0_getBytes_840e7_28 : decode cJ0_getBytes_840e7 28 = .ok (.aload_n 0, 1) := by decide +kernel
theorem dJ0_getBytes_840e7_29 : decode cJ0_getBytes_840e7 29 = .ok (.getfield 9, 3) := by decide +kernel
theorem dJ0_getBytes_840e7_32 : decode cJ0_getBytes_840e7 32 = .ok (.iconst 0, 1) := by decide +kernel
theorem dJ0_getBytes_840e7_33 : decode cJ0_getBytes_840e7 33 = .ok (.aload_n 1, 1) := by decide +kernel
theorem dJ0_getBytes_840e7_34 : decode cJ0_getBytes_840e7 34 = .ok (.iload_n 2, 1) := by decide +kernel
theorem dJ0_getBytes_840e7_35 : decode cJ0_getBytes_840e7 35 = .ok (.aload_n 0, 1) := by decide +kernel
theorem dJ0_getBytes_840e7_36 : decode cJ0_getBytes_840e7 36 = .ok (.getfield 9, 3) := by decide +kernel
theorem dJ0_getBytes_840e7_39 : decode cJ0_getBytes_840e7 39 = .ok (.arraylength, 1) := by decide +kernel
theorem dJ0_getBytes_840e7_40 : decode cJ0_getBytes_840e7 40 = .ok (.invokestatic 106, 3) := by decide +kernel
theorem dJ0_getBytes_840e7_43 : decode cJ0_getBytes_840e7 43 = .ok (.return_, 1) := by decide +kernel
set_option maxRecDepth 20000 in
theorem ggJ0_init_db425_J5_getValue_6d5f1 : GoodIn wsJ0_init_db425 wsJ5_getValue_6d5f1 := goodIn_r _ [13, 14, 101, 102, 103, 104] (by decide +kernel) (by decide +kernel)
set_option maxRecDepth 20000 in
theorem gJ0_init_db425_J5_getValue_6d5f1_u552J4 : GoodIn wsJ0_init_db425 (va_wsU RJ0 552 RJ4 "java/lang/AbstractStringBuilder" ⟨"java/lang/AbstractStringBuilder", "getValue", "()[B"⟩ yJ5_getValue_6d5f1 wsJ5_getValue_6d5f1) := goodIn_app (goodIn_of _ (by decide +kernel)) ggJ0_init_db425_J5_getValue_6d5f1
set_option maxRecDepth 20000 in
theorem ggJ0_init_db425_J4_length_8abf5 : GoodIn wsJ0_init_db425 wsJ4_length_8abf5 := goodIn_r _ [21, 22, 16, 23, 24, 12, 25, 26, 101, 102, 103, 104] (by decide +kernel) (by decide +kernel)
set_option maxRecDepth 20000 in
theorem gJ0_init_db425_J4_length_8abf5_u549J4 : GoodIn wsJ0_init_db425 (va_wsO RJ0 549 RJ4 "java/lang/AbstractStringBuilder" ⟨"java/lang/AbstractStringBuilder", "length", "()I"⟩ yJ4_length_8abf5 wsJ4_length_8abf5) := goodIn_app (goodIn_of _ (by decide +kernel)) ggJ0_init_db425_J4_length_8abf5
set_option maxRecDepth 20000 in
theorem ggJ0_init_db425_J5_isLatin1_aae02 : GoodIn wsJ0_init_db425 wsJ5_isLatin1_aae02 := goodIn_r _ [31, 32, 33, 101, 102, 103, 104] (by decide +kernel) (by decide +kernel)
set_option maxRecDepth 20000 in
theorem gJ0_init_db425_J5_isLatin1_aae02_u1047J4 : GoodIn wsJ0_init_db425 (va_wsU RJ0 1047 RJ4 "java/lang/AbstractStringBuilder" ⟨"java/lang/AbstractStringBuilder", "isLatin1", "()Z"⟩ yJ5_isLatin1_aae02 wsJ5_isLatin1_aae02) := goodIn_app (goodIn_of _ (by decide +kernel)) ggJ0_init_db425_J5_isLatin1_aae02
set_option maxRecDepth 20000 in
theorem ggJ0_init_db425_J7_copyOfRange_39247 : GoodIn wsJ0_init_db425 wsJ7_copyOfRange_39247 := goodIn_r _ [37, 38, 39, 40, 41, 42, 43, 44, 45, 36, 46, 47, 48, 49, 50, 51, 52, 53, 54, 55, 56, 57, 58, 59, 60, 20, 101, 102, 103, 104] (by decide +kernel) (by decide +kernel)
set_option maxRecDepth 20000 in
theorem gJ0_init_db425_J7_copyOfRange_39247 : GoodIn wsJ0_init_db425 (va_wsS RJ0 54 yJ7_copyOfRange_39247 wsJ7_copyOfRange_39247) := goodIn_app (goodIn_of _ (by decide +kernel)) ggJ0_init_db425_J7_copyOfRange_39247
set_option maxRecDepth 20000 in
theorem ggJ0_init_db425_J2_compress_39247 : GoodIn wsJ0_init_db425 wsJ2_compress_39247 := goodIn_r _ [64, 47, 65, 66, 63, 67, 68, 69, 70, 71, 72, 73, 74, 75, 76, 77, 78, 79, 80, 81, 82, 83, 84, 85, 86, 87, 88, 89, 90, 91, 92, 93, 35, 36, 37, 38, 39, 40, 41, 42, 43, 44, 45, 46, 48, 49, 50, 51, 52, 53, 54, 55, 56, 57, 58, 59, 60, 20, 101, 102, 103, 104] (by decide +kernel) (by decide +kernel)
set_option maxRecDepth 20000 in
theorem gJ0_init_db425_J2_compress_39247 : GoodIn wsJ0_init_db425 (va_wsS RJ0 1051 yJ2_compress_39247 wsJ2_compress_39247) := goodIn_app (goodIn_of _ (by decide +kernel)) ggJ0_init_db425_J2_compress_39247
set_option maxRecDepth 20000 in
theorem ggJ0_init_db425_J2_coderFromArrayLen_85cad : GoodIn wsJ0_init_db425 wsJ2_coderFromArrayLen_85cad := goodIn_r _ [96] (by decide +kernel) (by decide +kernel)
set_option maxRecDepth 20000 in
theorem gJ0_init_db425_J2_coderFromArrayLen_85cad : GoodIn wsJ0_init_db425 (va_wsS RJ0 47 yJ2_coderFromArrayLen_85cad wsJ2_coderFromArrayLen_85cad) := goodIn_app (goodIn_of _ (by decide +kernel)) ggJ0_init_db425_J2_coderFromArrayLen_85cad
theorem dJ0_init_db425_0 : decode cJ0_init_db425 0 = .ok (.aload_n 0, 1) := by decide +kernel
theorem dJ0_init_db425_1 : decode cJ0_init_db425 1 = .ok (.invokespecial 1, 3) := by decide +kernel
theorem dJ0_init_db425_4 : decode cJ0_init_db425 4 = .ok (.aload_n 1, 1) := by decide +kernel
theorem dJ0_init_db425_5 : decode cJ0_init_db425 5 = .ok (.invokevirtual 552, 3) := by decide +kernel
theorem dJ0_init_db425_8 : decode cJ0_init_db425 8 = .ok (.astore_n 3, 1) := by decide +kernel
theorem dJ0_init_db425_9 : decode cJ0_init_db425 9 = .ok (.aload_n 1, 1) := by decide +kernel
theorem dJ0_init_db425_10 : decode cJ0_init_db425 10 = .ok (.invokevirtual 549, 3) := by decide +kernel
theorem dJ0_init_db425_13 : decode cJ0_init_db425 13 = .ok (.istore 4, 2) := by decide +kernel
theorem dJ0_init_db425_15 : decode cJ0_init_db425 15 = .ok (.aload_n 1, 1) := by decide +kernel
theorem dJ0_init_db425_16 : decode cJ0_init_db425 16 = .ok (.invokevirtual 1047, 3) := by decide +kernel
theorem dJ0_init_db425_19 : decode cJ0_init_db425 19 = .ok (.ifCond .eq 22, 3) := by decide +kernel
theorem dJ0_init_db425_22 : decode cJ0_init_db425 22 = .ok (.aload_n 0, 1) := by decide +kernel
theorem dJ0_init_db425_23 : decode cJ0_init_db425 23 = .ok (.iconst 0, 1) := by decide +kernel
theorem dJ0_init_db425_24 : decode cJ0_init_db425 24 = .ok (.putfield 15, 3) := by decide +kernel
theorem dJ0_init_db425_27 : decode cJ0_init_db425 27 = .ok (.aload_n 0, 1) := by decide +kernel
theorem dJ0_init_db425_28 : decode cJ0_init_db425 28 = .ok (.aload_n 3, 1) := by decide +kernel
theorem dJ0_init_db425_29 : decode cJ0_init_db425 29 = .ok (.iconst 0, 1) := by decide +kernel
theorem dJ0_init_db425_30 : decode cJ0_init_db425 30 = .ok (.iload 4, 2) := by decide +kernel
theorem dJ0_init_db425_32 : decode cJ0_init_db425 32 = .ok (.invokestatic 54, 3) := by decide +kernel
theorem dJ0_init_db425_35 : decode cJ0_init_db425 35 = .ok (.putfield 9, 3) := by decide +kernel
theorem dJ0_init_db425_38 : decode cJ0_init_db425 38 = .ok (.goto 59, 3) := by decide +kernel
theorem dJ0_init_db425_41 : decode cJ0_init_db425 41 = .ok (.getstatic 38, 3) := by decide +kernel
theorem dJ0_init_db425_44 : decode cJ0_init_db425 44 = .ok (.ifCond .eq 35, 3) := by decide +kernel
theorem dJ0_init_db425_47 : decode cJ0_init_db425 47 = .ok (.aload_n 1, 1) := by decide +kernel
theorem dJ0_init_db425_48 : decode cJ0_init_db425 48 = .ok (.getfield 1048, 3) := by decide +kernel
theorem dJ0_init_db425_51 : decode cJ0_init_db425 51 = .ok (.ifCond .eq 28, 3) := by decide +kernel
theorem dJ0_init_db425_54 : decode cJ0_init_db425 54 = .ok (.aload_n 0, 1) := by decide +kernel
theorem dJ0_init_db425_55 : decode cJ0_init_db425 55 = .ok (.aload_n 3, 1) := by decide +kernel
theorem dJ0_init_db425_56 : decode cJ0_init_db425 56 = .ok (.iconst 0, 1) := by decide +kernel
theorem dJ0_init_db425_57 : decode cJ0_init_db425 57 = .ok (.iload 4, 2) := by decide +kernel
theorem dJ0_init_db425_59 : decode cJ0_init_db425 59 = .ok (.invokestatic 1051, 3) := by decide +kernel
theorem dJ0_init_db425_62 : decode cJ0_init_db425 62 = .ok (.putfield 9, 3) := by decide +kernel
theorem dJ0_init_db425_65 : decode cJ0_init_db425 65 = .ok (.aload_n 0, 1) := by decide +kernel
theorem dJ0_init_db425_66 : decode cJ0_init_db425 66 = .ok (.aload_n 0, 1) := by decide +kernel
theorem dJ0_init_db425_67 : decode cJ0_init_db425 67 = .ok (.getfield 9, 3) := by decide +kernel
theorem dJ0_init_db425_70 : decode cJ0_init_db425 70 = .ok (.iload 4, 2) := by decide +kernel
theorem dJ0_init_db425_72 : decode cJ0_init_db425 72 = .ok (.invokestatic 47, 3) := by decide +kernel
theorem dJ0_init_db425_75 : decode cJ0_init_db425 75 = .ok (.putfield 15, 3) := by decide +kernel
theorem dJ0_init_db425_78 : decode cJ0_init_db425 78 = .ok (.return_, 1) := by decide +kernel
theorem dJ0_init_db425_79 : decode cJ0_init_db425 79 = .ok (.aload_n 0, 1) := by decide +kernel
theorem dJ0_init_db425_80 : decode cJ0_init_db425 80 = .ok (.iconst 1, 1) := by decide +kernel
theorem dJ0_init_db425_81 : decode cJ0_init_db425 81 = .ok (.putfield 15, 3) := by decide +kernel
theorem dJ0_init_db425_84 : decode cJ0_init_db425 84 = .ok (.aload_n 0, 1) := by decide +kernel
theorem dJ0_init_db425_85 : decode cJ0_init_db425 85 = .ok (.aload_n 3, 1) := by decide +kernel
theorem dJ0_init_db425_86 : decode cJ0_init_db425 86 = .ok (.iconst 0, 1) := by decide +kernel
theorem dJ0_init_db425_87 : decode cJ0_init_db425 87 = .ok (.iload 4, 2) := by decide +kernel
theorem dJ0_init_db425_89 : decode cJ0_init_db425 89 = .ok (.iconst 1, 1) := by decide +kernel
theorem dJ0_init_db425_90 : decode cJ0_init_db425 90 = .ok (.ishl, 1) := by decide +kernel
theorem dJ0_init_db425_91 : decode cJ0_init_db425 91 = .ok (.invokestatic 54, 3) := by decide +kernel
theorem dJ0_init_db425_94 : decode cJ0_init_db425 94 = .ok (.putfield 9, 3) := by decide +kernel
theorem dJ0_init_db425_97 : decode cJ0_init_db425 97 = .ok (.return_, 1) := by decide +kernel
theorem dJ0_coder_7d493_0 : decode cJ0_coder_7d493 0 = .ok (.getstatic 38, 3) := by decide +kernel
theorem dJ0_coder_7d493_3 : decode cJ0_coder_7d493 3 = .ok (.ifCond .eq 10, 3) := by decide +kernel
theorem dJ0_coder_7d493_6 : decode cJ0_coder_7d493 6 = .ok (.aload_n 0, 1) := by decide +kernel
theorem dJ0_coder_7d493_7 : decode cJ0_coder_7d493 7 = .ok (.getfield 15, 3) := by decide +kernel
theorem dJ0_coder_7d493_10 : decode cJ0_coder_7d493 10 = .ok (.goto 4, 3) := by decide +kernel
theorem dJ0_coder_7d493_13 : decode cJ0_coder_7d493 13 = .ok (.iconst 1, 1) := by decide +kernel
theorem dJ0_coder_7d493_14 : decode cJ0_coder_7d493 14 = .ok (.ireturn, 1) := by decide +kernel
theorem dJ0_value_6d5f1_0 : decode cJ0_value_6d5f1 0 = .ok (.aload_n 0, 1) := by decide +kernel
theorem dJ0_value_6d5f1_1 : decode cJ0_value_6d5f1 1 = .ok (.getfield 9, 3) := by decide +kernel
theorem dJ0_value_6d5f1_4 : decode cJ0_value_6d5f1 4 = .ok (.areturn, 1) := by decide +kernel
theorem dJ0_isLatin1_aae02_0 : decode cJ0_isLatin1_aae02 0 = .ok (.getstatic 38, 3) := by decide +kernel
theorem dJ0_isLatin1_aae02_3 : decode cJ0_isLatin1_aae02 3 = .ok (.ifCond .eq 14, 3) := by decide +kernel
theorem dJ0_isLatin1_aae02_6 : decode cJ0_isLatin1_aae02 6 = .ok (.aload_n 0, 1) := by decide +kernel
theorem dJ0_isLatin1_aae02_7 : decode cJ0_isLatin1_aae02 7 = .ok (.getfield 15, 3) := by decide +kernel
theorem dJ0_isLatin1_aae02_10 : decode cJ0_isLatin1_aae02 10 = .ok (.ifCond .ne 7, 3) := by decide +kernel
theorem dJ0_isLatin1_aae02_13 : decode cJ0_isLatin1_aae02 13 = .ok (.iconst 1, 1) := by decide +kernel
theorem dJ0_isLatin1_aae02_14 : decode cJ0_isLatin1_aae02 14 = .ok (.goto 4, 3) := by decide +kernel
theorem dJ0_isLatin1_aae02_17 : decode cJ0_isLatin1_aae02 17 = .ok (.iconst 0, 1) := by decide +kernel
theorem dJ0_isLatin1_aae02_18 : decode cJ0_isLatin1_aae02 18 = .ok (.ireturn, 1) := by decide +kernel
set_option maxRecDepth 20000 in
theorem ggJ0_checkIndex_df160_J3_checkIndex_8e157 : GoodIn wsJ0_checkIndex_df160 wsJ3_checkIndex_8e157 := goodIn_r _ [5] (by decide +kernel) (by decide +kernel)
set_option maxRecDepth 20000 in
theorem gJ0_checkIndex_df160_J3_checkIndex_8e157 : GoodIn wsJ0_checkIndex_df160 (va_wsS RJ0 1059 yJ3_checkIndex_8e157 wsJ3_checkIndex_8e157) := goodIn_app (goodIn_of _ (by decide +kernel)) ggJ0_checkIndex_df160_J3_checkIndex_8e157
theorem dJ0_checkIndex_df160_0 : decode cJ0_checkIndex_df160 0 = .ok (.iload_n 0, 1) := by decide +kernel
theorem dJ0_checkIndex_df160_1 : decode cJ0_checkIndex_df160 1 = .ok (.iload_n 1, 1) := by decide +kernel
theorem dJ0_checkIndex_df160_2 : decode cJ0_checkIndex_df160 2 = .ok (.getstatic 1053, 3) := by decide +kernel
theorem dJ0_checkIndex_df160_5 : decode cJ0_checkIndex_df160 5 = .ok (.invokestatic 1059, 3) := by decide +kernel
theorem dJ0_checkIndex_df160_8 : decode cJ0_checkIndex_df160 8 = .ok (.pop, 1) := by decide +kernel
theorem dJ0_checkIndex_df160_9 : decode cJ0_checkIndex_df160 9 = .ok (.return_, 1) := by decide +kernel
set_option maxRecDepth 20000 in
theorem ggJ0_checkBoundsOffCount_cabcc_J3_checkFromIndexSize_8c36e : GoodIn wsJ0_checkBoundsOffCount_cabcc wsJ3_checkFromIndexSize_8c36e := goodIn_r _ [5] (by decide +kernel) (by decide +kernel)
set_option maxRecDepth 20000 in
theorem gJ0_checkBoundsOffCount_cabcc_J3_checkFromIndexSize_8c36e : GoodIn wsJ0_checkBoundsOffCount_cabcc (va_wsS RJ0 1065 yJ3_checkFromIndexSize_8c36e wsJ3_checkFromIndexSize_8c36e) := goodIn_app (goodIn_of _ (by decide +kernel)) ggJ0_checkBoundsOffCount_cabcc_J3_checkFromIndexSize_8c36e
theorem dJ0_checkBoundsOffCount_cabcc_0 : decode cJ0_checkBoundsOffCount_cabcc 0 = .ok (.iload_n 0, 1) := by decide +kernel
theorem dJ0_checkBoundsOffCount_cabcc_1 : decode cJ0_checkBoundsOffCount_cabcc 1 = .ok (.iload_n 1, 1) := by decide +kernel
theorem dJ0_checkBoundsOffCount_cabcc_2 : decode cJ0_checkBoundsOffCount_cabcc 2 = .ok (.iload_n 2, 1) := by decide +kernel
theorem dJ0_checkBoundsOffCount_cabcc_3 : decode cJ0_checkBoundsOffCount_cabcc 3 = .ok (.getstatic 1053, 3) := by decide +kernel
theorem dJ0_checkBoundsOffCount_cabcc_6 : decode cJ0_checkBoundsOffCount_cabcc 6 = .ok (.invokestatic 1065, 3) := by decide +kernel
theorem dJ0_checkBoundsOffCount_cabcc_9 : decode cJ0_checkBoundsOffCount_cabcc 9 = .ok (.ireturn, 1) := by decide +kernel
set_option maxRecDepth 20000 in
theorem ggJ0_checkBoundsBeginEnd_23922_J3_checkFromToIndex_8c36e : GoodIn wsJ0_checkBoundsBeginEnd_23922 wsJ3_checkFromToIndex_8c36e := goodIn_r _ [5] (by decide +kernel) (by decide +kernel)
set_option maxRecDepth 20000 in
theorem gJ0_checkBoundsBeginEnd_23922_J3_checkFromToIndex_8c36e : GoodIn wsJ0_checkBoundsBeginEnd_23922 (va_wsS RJ0 1062 yJ3_checkFromToIndex_8c36e wsJ3_checkFromToIndex_8c36e) := goodIn_app (goodIn_of _ (by decide +kernel)) ggJ0_checkBoundsBeginEnd_23922_J3_checkFromToIndex_8c36e
theorem dJ0_checkBoundsBeginEnd_23922_0 : decode cJ0_checkBoundsBeginEnd_23922 0 = .ok (.iload_n 0, 1) := by decide +kernel
theorem dJ0_checkBoundsBeginEnd_23922_1 : decode cJ0_checkBoundsBeginEnd_23922 1 = .ok (.iload_n 1, 1) := by decide +kernel
theorem dJ0_checkBoundsBeginEnd_23922_2 : decode cJ0_checkBoundsBeginEnd_23922 2 = .ok (.iload_n 2, 1) := by decide +kernel
theorem dJ0_checkBoundsBeginEnd_23922_3 : decode cJ0_checkBoundsBeginEnd_23922 3 = .ok (.getstatic 1053, 3) := by decide +kernel
theorem dJ0_checkBoundsBeginEnd_23922_6 : decode cJ0_checkBoundsBeginEnd_23922 6 = .ok (.invokestatic 1062, 3) := by decide +kernel
theorem dJ0_checkBoundsBeginEnd_23922_9 : decode cJ0_checkBoundsBeginEnd_23922 9 = .ok (.pop, 1) := by decide +kernel
theorem dJ0_checkBoundsBeginEnd_23922_10 : decode cJ0_checkBoundsBeginEnd_23922 10 = .ok (.return_, 1) := by decide +kernel
set_option maxRecDepth 20000 in
theorem ggJxe8eeb_append_b568b_J5_append_a1634 : GoodIn wsJxe8eeb_append_b568b wsJ5_append_a1634 := goodIn_r _ [7, 8, 9, 10, 11, 12, 6, 13, 14, 15, 16, 17, 18, 19, 20, 21, 22, 23, 24, 25, 26, 27, 28, 29, 30, 31, 32, 33, 34, 35, 36, 37, 38, 39, 40, 41, 42, 43, 44, 45, 46, 47, 48, 49, 50, 51, 52, 53, 54, 55, 56, 57, 58, 59, 60, 61, 62, 63, 64, 65, 66, 67, 68, 69, 70, 71, 72, 73, 74, 75, 76, 77, 78, 79, 80, 81, 82, 83, 84, 85, 86, 87, 88, 89, 90, 91, 92, 93, 94, 95, 96, 97, 98, 99, 100, 101, 102, 103, 104, 105, 106, 107, 108, 109, 110, 111, 112, 113, 114, 115, 116, 117, 118, 119, 120, 121, 122, 123, 124, 125] (by decide +kernel) (by decide +kernel)
set_option maxRecDepth 20000 in
theorem gJxe8eeb_append_b568b_J5_append_a1634_s89 : GoodIn wsJxe8eeb_append_b568b (va_wsSU RJxe8eeb 89 yJ5_append_a1634 wsJ5_append_a1634) := goodIn_app (goodIn_of _ (by decide +kernel)) ggJxe8eeb_append_b568b_J5_append_a1634
theorem dJxe8eeb_append_b568b_0 : decode cJxe8eeb_append_b568b 0 = .ok (.aload_n 0, 1) := by decide +kernel
theorem dJxe8eeb_append_b568b_1 : decode cJxe8eeb_append_b568b 1 = .ok (.aconst_null, 1) := by decide +kernel
theorem dJxe8eeb_append_b568b_2 : decode cJxe8eeb_append_b568b 2 = .ok (.putfield 34, 3) := by decide +kernel
theorem dJxe8eeb_append_b568b_5 : decode cJxe8eeb_append_b568b 5 = .ok (.aload_n 0, 1) := by decide +kernel
theorem dJxe8eeb_append_b568b_6 : decode cJxe8eeb_append_b568b 6 = .ok (.aload_n 1, 1) := by decide +kernel
theorem dJxe8eeb_append_b568b_7 : decode cJxe8eeb_append_b568b 7 = .ok (.invokespecial 89, 3) := by decide +kernel
theorem dJxe8eeb_append_b568b_10 : decode cJxe8eeb_append_b568b 10 = .ok (.pop, 1) := by decide +kernel
theorem dJxe8eeb_append_b568b_11 : decode cJxe8eeb_append_b568b 11 = .ok (.aload_n 0, 1) := by decide +kernel
theorem dJxe8eeb_append_b568b_12 : decode cJxe8eeb_append_b568b 12 = .ok (.areturn, 1) := by decide +kernel
set_option maxRecDepth 20000 in
theorem ggJ4_init_da8c8_J5_init_d00df : GoodIn wsJ4_init_da8c8 wsJ5_init_d00df := goodIn_r _ [4, 5, 6, 7, 8, 9, 10, 11, 12, 13, 14, 15, 16, 17, 18, 19, 20, 21, 22, 23] (by decide +kernel) (by decide +kernel)
set_option maxRecDepth 20000 in
theorem gJ4_init_da8c8_J5_init_d00df : GoodIn wsJ4_init_da8c8 (wsJ5_init_d00df) := ggJ4_init_da8c8_J5_init_d00df
theorem dJ4_init_da8c8_0 : decode cJ4_init_da8c8 0 = .ok (.aload_n 0, 1) := by decide +kernel
theorem dJ4_init_da8c8_1 : decode cJ4_init_da8c8 1 = .ok (.bipush 16, 2) := by decide +kernel
theorem dJ4_init_da8c8_3 : decode cJ4_init_da8c8 3 = .ok (.invokespecial 1, 3) := by decide +kernel
theorem dJ4_init_da8c8_6 : decode cJ4_init_da8c8 6 = .ok (.return_, 1) := by decide +kernel
set_option maxRecDepth 20000 in
theorem ggJ4_append_15ec4_J5_append_cf1ce : GoodIn wsJ4_append_15ec4 wsJ5_append_cf1ce := goodIn_r _ [6, 7, 8, 9, 10, 11, 5, 12, 13, 14, 15, 16, 17, 18, 19, 20, 21, 22, 23, 24, 25, 26, 27, 28, 29, 30, 31, 32, 33, 34, 35, 36, 37, 38, 39, 40, 41, 42, 43, 44, 45, 46, 47, 48, 49, 50, 51, 52, 53, 54, 55, 56, 57, 58, 59, 60, 61, 62, 63, 64, 65, 66, 67, 68, 69, 70, 71, 72, 73, 74, 75, 76, 77, 78, 79, 80, 81, 82, 83, 84, 85, 86, 87, 88, 89, 90, 91, 92, 93, 94, 95, 96, 97, 98, 99, 100, 101, 102, 103, 104, 105, 106, 107, 108, 109, 110, 111, 112, 113, 114, 115, 116, 117, 118, 119, 120, 121, 122, 123, 124, 125, 126, 127, 128, 129, 130, 131, 132, 133, 134, 135, 136, 137, 138, 139, 140, 141, 142, 143, 144, 145, 146, 147, 148, 149, 150] (by decide +kernel) (by decide +kernel)
set_option maxRecDepth 20000 in
theorem gJ4_append_15ec4_J5_append_cf1ce_s29 : GoodIn wsJ4_append_15ec4 (va_wsSU RJ4 29 yJ5_append_cf1ce wsJ5_append_cf1ce) := goodIn_app (goodIn_of _ (by decide +kernel)) ggJ4_append_15ec4_J5_append_cf1ce
theorem dJ4_append_15ec4_0 : decode cJ4_append_15ec4 0 = .ok (.aload_n 0, 1) := by decide +kernel
theorem dJ4_append_15ec4_1 : decode cJ4_append_15ec4 1 = .ok (.aload_n 1, 1) := by decide +kernel
theorem dJ4_append_15ec4_2 : decode cJ4_append_15ec4 2 = .ok (.invokespecial 29, 3) := by decide +kernel
theorem dJ4_append_15ec4_5 : decode cJ4_append_15ec4 5 = .ok (.pop, 1) := by decide +kernel
theorem dJ4_append_15ec4_6 : decode cJ4_append_15ec4 6 = .ok (.aload_n 0, 1) := by decide +kernel
theorem dJ4_append_15ec4_7 : decode cJ4_append_15ec4 7 = .ok (.areturn, 1) := by decide +kernel
set_option maxRecDepth 20000 in
theorem ggJ4_append_1fab5_J5_append_8f9a3 : GoodIn wsJ4_append_1fab5 wsJ5_append_8f9a3 := goodIn_r _ [6, 7, 8, 9, 10, 11, 12, 5, 13, 14, 15, 16, 17, 18, 19, 20, 21, 22, 23, 24, 25, 26, 27, 28, 29, 30, 31, 32, 33, 34, 35, 36, 37, 38, 39, 40, 41, 42, 43, 44, 45, 46, 47, 48, 49, 50, 51, 52, 53, 54, 55, 56, 57, 58, 59, 60, 61, 62, 63, 64, 65, 66, 67, 68, 69, 70, 71, 72, 73, 74, 75, 76, 77, 78, 79, 80, 81, 82, 83, 84, 85, 86, 87, 88, 89, 90, 91, 92, 93, 94, 95, 96, 97, 98, 99, 100, 3, 101, 102, 103, 104, 105, 106, 107, 108, 109, 110, 111, 112, 113, 114, 115, 116, 117, 118, 119, 120, 121, 122, 123, 124, 125, 126, 127, 128, 129, 130, 131, 132, 133, 134, 135, 136, 137, 138, 139, 140, 141, 142, 143, 144, 145, 146, 147, 148, 149, 150, 151, 152, 153, 154, 155, 156, 157, 158, 159, 160, 161, 162, 163, 164, 165, 166, 167, 168, 169, 170, 171, 172, 173, 174, 175, 176, 177, 178, 179, 180, 181, 182, 183, 184, 185, 186, 187, 188, 189, 190, 191, 192, 193, 194, 195, 196, 197, 198, 199, 200, 201, 202, 203, 204, 205, 206, 207, 208, 209, 210, 211, 212, 213, 214, 215, 216, 217, 218, 219, 220, 221, 222, 223, 224, 225, 226, 227, 228, 229, 230, 231, 232, 233, 234, 235, 236, 237, 238, 239, 240, 241, 242, 243, 244, 245, 246, 247, 248, 249, 250, 251, 252, 253, 254, 255, 256, 257, 258, 259, 260, 261, 262, 263, 264, 265, 266, 267, 268, 269, 270, 271, 272, 273, 274, 275, 276, 277, 278, 279] (by decide +kernel) (by decide +kernel)
set_option maxRecDepth 20000 in
theorem gJ4_append_1fab5_J5_append_8f9a3_s35 : GoodIn wsJ4_append_1fab5 (va_wsSU RJ4 35 yJ5_append_8f9a3 wsJ5_append_8f9a3) := goodIn_app (goodIn_of _ (by decide +kernel)) ggJ4_append_1fab5_J5_append_8f9a3
theorem dJ4_append_1fab5_0 : decode cJ4_append_1fab5 0 = .ok (.aload_n 0, 1) := by decide +kernel
theorem dJ4_append_1fab5_1 : decode cJ4_append_1fab5 1 = .ok (.aload_n 1, 1) := by decide +kernel
theorem dJ4_append_1fab5_2 : decode cJ4_append_1fab5 2 = .ok (.invokespecial 35, 3) := by decide +kernel
theorem dJ4_append_1fab5_5 : decode cJ4_append_1fab5 5 = .ok (.pop, 1) := by decide +kernel
theorem dJ4_append_1fab5_6 : decode cJ4_append_1fab5 6 = .ok (.aload_n 0, 1) := by decide +kernel
theorem dJ4_append_1fab5_7 : decode cJ4_append_1fab5 7 = .ok (.areturn, 1) := by decide +kernel
set_option maxRecDepth 20000 in
theorem ggJ4_append_69d29_J5_append_e1f22 : GoodIn wsJ4_append_69d29 wsJ5_append_e1f22 := goodIn_r _ [6, 7, 8, 9, 10, 11, 12, 13, 14, 15, 16, 17, 18, 19, 20, 21, 22, 23, 24, 25, 26, 27, 3, 28, 5, 29, 30, 31, 32, 33, 34, 35, 36, 37, 38, 39, 40, 41, 42, 43, 44, 45, 46, 47, 48, 49, 50, 51, 52, 53, 54, 55, 56, 57, 58, 59, 60, 61, 62, 63, 64, 65, 66, 67, 68, 69, 70, 71, 72, 73, 74, 75, 76, 77, 78, 79, 80, 81, 82, 83, 84, 85, 86, 87, 88, 89, 90, 91, 92, 93, 94, 95, 96, 97, 98, 99, 100, 101, 102, 103, 104, 105, 106, 107, 108, 109, 110, 111, 112, 113, 114, 115, 116, 117, 118, 119, 120, 121, 122, 123, 124, 125, 126, 127, 128, 129, 130, 131, 132, 133, 134, 135, 136, 137, 138, 139, 140, 141, 142, 143, 144, 145, 146, 147, 148, 149, 150, 151, 152, 153, 154, 155, 156, 157, 158, 159, 160, 161, 162, 163, 164, 165, 166, 167, 168, 169, 170, 171, 172, 173, 174, 175, 176, 177, 178, 179, 180, 181, 182, 183, 184, 185, 186, 187, 188, 189, 190, 191, 192, 193, 194, 195, 196, 197, 198, 199, 200, 201] (by decide +kernel) (by decide +kernel)
set_option maxRecDepth 20000 in
theorem gJ4_append_69d29_J5_append_e1f22_s38 : GoodIn wsJ4_append_69d29 (va_wsSU RJ4 38 yJ5_append_e1f22 wsJ5_append_e1f22) := goodIn_app (goodIn_of _ (by decide +kernel)) ggJ4_append_69d29_J5_append_e1f22
theorem dJ4_append_69d29_0 : decode cJ4_append_69d29 0 = .ok (.aload_n 0, 1) := by decide +kernel
theorem dJ4_append_69d29_1 : decode cJ4_append_69d29 1 = .ok (.aload_n 1, 1) := by decide +kernel
theorem dJ4_append_69d29_2 : decode cJ4_append_69d29 2 = .ok (.iload_n 2, 1) := by decide +kernel
theorem dJ4_append_69d29_3 : decode cJ4_append_69d29 3 = .ok (.iload_n 3, 1) := by decide +kernel
theorem dJ4_append_69d29_4 : decode cJ4_append_69d29 4 = .ok (.invokespecial 38, 3) := by decide +kernel
theorem dJ4_append_69d29_7 : decode cJ4_append_69d29 7 = .ok (.pop, 1) := by decide +kernel
theorem dJ4_append_69d29_8 : decode cJ4_append_69d29 8 = .ok (.aload_n 0, 1) := by decide +kernel
theorem dJ4_append_69d29_9 : decode cJ4_append_69d29 9 = .ok (.areturn, 1) := by decide +kernel
set_option maxRecDepth 20000 in
theorem ggJ4_append_37e8c_J5_append_a1634 : GoodIn wsJ4_append_37e8c wsJ5_append_a1634 := goodIn_r _ [6, 7, 8, 9, 10, 11, 5, 12, 13, 14, 15, 16, 17, 18, 19, 20, 21, 22, 23, 24, 25, 26, 27, 28, 29, 30, 31, 32, 33, 34, 35, 36, 37, 38, 39, 40, 41, 42, 43, 44, 45, 46, 47, 48, 49, 50, 51, 52, 53, 54, 55, 56, 57, 58, 59, 60, 61, 62, 63, 64, 65, 66, 67, 68, 69, 70, 71, 72, 73, 74, 75, 76, 77, 78, 79, 80, 81, 82, 83, 84, 85, 86, 87, 88, 89, 90, 91, 92, 93, 94, 95, 96, 97, 98, 99, 100, 101, 102, 103, 104, 105, 106, 107, 108, 109, 110, 111, 112, 113, 114, 115, 116, 117, 118, 119, 120, 121, 122, 123, 124] (by decide +kernel) (by decide +kernel)
set_option maxRecDepth 20000 in
theorem gJ4_append_37e8c_J5_append_a1634_s41 : GoodIn wsJ4_append_37e8c (va_wsSU RJ4 41 yJ5_append_a1634 wsJ5_append_a1634) := goodIn_app (goodIn_of _ (by decide +kernel)) ggJ4_append_37e8c_J5_append_a1634
theorem dJ4_append_37e8c_0 : decode cJ4_append_37e8c 0 = .ok (.aload_n 0, 1) := by decide +kernel
theorem dJ4_append_37e8c_1 : decode cJ4_append_37e8c 1 = .ok (.aload_n 1, 1) := by decide +kernel
theorem dJ4_append_37e8c_2 : decode cJ4_append_37e8c 2 = .ok (.invokespecial 41, 3) := by decide +kernel
theorem dJ4_append_37e8c_5 : decode cJ4_append_37e8c 5 = .ok (.pop, 1) := by decide +kernel
theorem dJ4_append_37e8c_6 : decode cJ4_append_37e8c 6 = .ok (.aload_n 0, 1) := by decide +kernel
theorem dJ4_append_37e8c_7 : decode cJ4_append_37e8c 7 = .ok (.areturn, 1) := by decide +kernel
set_option maxRecDepth 20000 in
theorem ggJ4_append_cf468_J5_append_3fe6f : GoodIn wsJ4_append_cf468 wsJ5_append_3fe6f := goodIn_r _ [6, 7, 8, 9, 10, 11, 12, 5, 13, 14, 15, 16, 17, 18, 19, 20, 21, 22, 23, 24, 25, 26, 27, 28, 29, 30, 31, 32, 33, 34, 35, 36, 37, 38, 39, 40, 41, 42, 43, 44, 45, 46, 47, 48, 49, 50, 51, 52, 53, 54, 55, 56, 57, 58, 59, 60, 61, 62, 63, 64, 65, 66, 67, 68, 69, 70, 71, 72, 73, 74, 75, 76, 77, 78, 79, 80, 81, 82, 83, 84, 85, 86, 87, 88, 89, 90, 91, 92, 93, 94, 95, 96, 97, 98, 99, 100, 101, 102, 103, 104, 105, 106, 107, 108, 109, 110, 111, 112, 113, 114, 115, 116] (by decide +kernel) (by decide +kernel)
set_option maxRecDepth 20000 in
theorem gJ4_append_cf468_J5_append_3fe6f_s50 : GoodIn wsJ4_append_cf468 (va_wsSU RJ4 50 yJ5_append_3fe6f wsJ5_append_3fe6f) := goodIn_app (goodIn_of _ (by decide +kernel)) ggJ4_append_cf468_J5_append_3fe6f
theorem dJ4_append_cf468_0 : decode cJ4_append_cf468 0 = .ok (.aload_n 0, 1) := by decide +kernel
theorem dJ4_append_cf468_1 : decode cJ4_append_cf468 1 = .ok (.iload_n 1, 1) := by decide +kernel
theorem dJ4_append_cf468_2 : decode cJ4_append_cf468 2 = .ok (.invokespecial 50, 3) := by decide +kernel
theorem dJ4_append_cf468_5 : decode cJ4_append_cf468 5 = .ok (.pop, 1) := by decide +kernel
theorem dJ4_append_cf468_6 : decode cJ4_append_cf468 6 = .ok (.aload_n 0, 1) := by decide +kernel
theorem dJ4_append_cf468_7 : decode cJ4_append_cf468 7 = .ok (.areturn, 1) := by decide +kernel
set_option maxRecDepth 20000 in
theorem ggJ4_append_bf812_J5_append_c97b9 : GoodIn wsJ4_append_bf812 wsJ5_append_c97b9 := goodIn_r _ [6, 7, 8, 9, 10, 11, 12, 13, 14, 15, 16, 5, 17, 18, 19, 20, 21, 22, 23, 24, 25, 26, 27, 28, 29, 30, 31, 32, 33, 34, 35, 36, 37, 38, 39, 40, 41, 42, 43, 44, 45, 46, 47, 48, 49, 50, 51, 52, 53, 54, 55, 56, 57, 58, 59, 60, 61, 62, 63, 64, 65, 66, 67, 68, 69, 70, 71, 72, 73, 74, 75, 76, 77, 78, 79, 80, 81, 82, 83, 84, 85, 86, 87, 88, 89, 90, 91, 92, 93, 94, 95, 96, 97, 98, 99] (by decide +kernel) (by decide +kernel)
set_option maxRecDepth 20000 in
theorem gJ4_append_bf812_J5_append_c97b9_s53 : GoodIn wsJ4_append_bf812 (va_wsSU RJ4 53 yJ5_append_c97b9 wsJ5_append_c97b9) := goodIn_app (goodIn_of _ (by decide +kernel)) ggJ4_append_bf812_J5_append_c97b9
theorem dJ4_append_bf812_0 : decode cJ4_append_bf812 0 = .ok (.aload_n 0, 1) := by decide +kernel
theorem dJ4_append_bf812_1 : decode cJ4_append_bf812 1 = .ok (.iload_n 1, 1) := by decide +kernel
theorem dJ4_append_bf812_2 : decode cJ4_append_bf812 2 = .ok (.invokespecial 53, 3) := by decide +kernel
theorem dJ4_append_bf812_5 : decode cJ4_append_bf812 5 = .ok (.pop, 1) := by decide +kernel
theorem dJ4_append_bf812_6 : decode cJ4_append_bf812 6 = .ok (.aload_n 0, 1) := by decide +kernel
theorem dJ4_append_bf812_7 : decode cJ4_append_bf812 7 = .ok (.areturn, 1) := by decide +kernel
set_option maxRecDepth 20000 in
theorem ggJ4_append_f7089_J5_append_66267 : GoodIn wsJ4_append_f7089 wsJ5_append_66267 := goodIn_r _ [6, 7, 8, 9, 10, 11, 12, 13, 14, 15, 16, 17, 18, 5, 19, 20, 21, 22, 23, 24, 25, 26, 27, 28, 29, 30, 31, 32, 33, 34, 35, 36, 37, 38, 39, 40, 41, 42, 43, 44, 45, 46, 47, 48, 49, 50, 51, 52, 53, 54, 55, 56, 57, 58, 59, 60, 61, 62, 63, 64, 65, 66, 67, 68, 69, 70, 71, 72, 73, 74, 75, 76, 77, 78, 79, 80, 81, 82, 83, 84, 85, 86, 87, 88, 89, 90, 91, 92, 93, 94, 95, 96, 97, 98, 99, 100, 101, 102, 103, 104, 105] (by decide +kernel) (by decide +kernel)
set_option maxRecDepth 20000 in
theorem gJ4_append_f7089_J5_append_66267_s56 : GoodIn wsJ4_append_f7089 (va_wsSU RJ4 56 yJ5_append_66267 wsJ5_append_66267) := goodIn_app (goodIn_of _ (by decide +kernel)) ggJ4_append_f7089_J5_append_66267
theorem dJ4_append_f7089_0 : decode cJ4_append_f7089 0 = .ok (.aload_n 0, 1) := by decide +kernel
theorem dJ4_append_f7089_1 : decode cJ4_append_f7089 1 = .ok (.lload_n 1, 1) := by decide +kernel
theorem dJ4_append_f7089_2 : decode cJ4_append_f7089 2 = .ok (.invokespecial 56, 3) := by decide +kernel
theorem dJ4_append_f7089_5 : decode cJ4_append_f7089 5 = .ok (.pop, 1) := by decide +kernel
theorem dJ4_append_f7089_6 : decode cJ4_append_f7089 6 = .ok (.aload_n 0, 1) := by decide +kernel
theorem dJ4_append_f7089_7 : decode cJ4_append_f7089 7 = .ok (.areturn, 1) := by decide +kernel
set_option maxRecDepth 20000 in
theorem ggJ4_append_9d4c8_J5_append_b089e : GoodIn wsJ4_append_9d4c8 wsJ5_append_b089e := goodIn_r _ [6, 7, 8, 9, 10, 11, 12, 13, 14, 15, 16, 17, 18, 19, 20, 21, 22, 23, 24, 25, 26, 27, 28, 29, 30, 31, 32, 33, 34, 35, 36, 37, 38, 39, 40, 41, 42, 43, 44, 45, 46, 47, 48, 49, 50, 51, 52, 53, 54, 55, 56, 57, 58, 59, 60, 61, 62, 63, 64, 65, 66, 67, 68, 69, 70, 71, 72, 73, 74, 75, 76, 77, 78, 79, 80, 81, 82, 83, 84, 85, 86, 87, 88, 89, 90, 91, 92, 93, 94, 95, 96, 97, 98, 99, 100, 101, 102, 103, 104, 105, 106, 107, 108, 109, 110, 111, 112, 113, 114, 115, 116, 117, 118, 119, 120, 121, 122, 123, 124, 125, 126, 127, 128, 129, 130, 3, 131, 5, 132, 133, 134, 135, 136, 137, 138, 139, 140, 141, 142, 143, 144, 145, 146, 147, 148, 149, 150, 151, 152, 153, 154, 155, 156, 157, 158, 159, 160, 161, 162, 163, 164, 165, 166, 167, 168, 169, 170, 171, 172, 173, 174, 175, 176, 177, 178, 179, 180, 181, 182, 183, 184, 185, 186, 187, 188, 189, 190, 191, 192, 193, 194, 195, 196, 197, 198, 199, 200, 201, 202, 203, 204, 205, 206, 207, 208, 209, 210, 211, 212, 213, 214, 215, 216, 217, 218, 219, 220, 221, 222, 223, 224, 225, 226, 227, 228, 229, 230, 231, 232, 233, 234, 235, 236, 237, 238, 239, 240, 241, 242, 243, 244, 245, 246, 247, 248, 249, 250, 251, 252, 253, 254, 255, 256, 257, 258, 259, 260, 261, 262, 263, 264, 265, 266, 267, 268, 269, 270, 271, 272, 273, 274, 275, 276, 277, 278, 279, 280, 281, 282, 283, 284, 285, 286, 287, 288, 289, 290, 291, 292, 293, 294, 295, 296, 297, 298, 299, 300, 301, 302, 303, 304, 305, 306, 307, 308, 309, 310, 311, 312, 313, 314, 315, 316, 317, 318, 319, 320, 321, 322, 323, 324, 325, 326, 327, 328, 329, 330, 331, 332, 333, 334, 335, 336, 337, 338, 339, 340, 341, 342, 343, 344, 345, 346, 347, 348, 349, 350, 351, 352, 353, 354, 355, 356, 357, 358, 359, 360, 361, 362, 363, 364, 365, 366, 367, 368, 369, 370, 371, 372, 373, 374, 375, 376, 377, 378, 379, 380, 381, 382, 383, 384, 385, 386, 387, 388, 389, 390, 391, 392, 393, 394, 395, 396, 397, 398, 399, 400, 401, 402, 403, 404, 405, 406, 407, 408, 409, 410, 411, 412, 413, 414, 415, 416, 417, 418, 419, 420, 421, 422, 423, 424, 425, 426, 427, 428, 429, 430, 431, 432, 433, 434, 435, 436, 437, 438, 439, 440] (by decide +kernel) (by decide +kernel)
set_option maxRecDepth 20000 in
theorem gJ4_append_9d4c8_J5_append_b089e_s59 : GoodIn wsJ4_append_9d4c8 (va_wsSU RJ4 59 yJ5_append_b089e wsJ5_append_b089e) := goodIn_app (goodIn_of _ (by decide +kernel)) ggJ4_append_9d4c8_J5_append_b089e
theorem dJ4_append_9d4c8_0 : decode cJ4_append_9d4c8 0 = .ok (.aload_n 0, 1) := by decide +kernel
theorem dJ4_append_9d4c8_1 : decode cJ4_append_9d4c8 1 = .ok (.fload_n 1, 1) := by decide +kernel
theorem dJ4_append_9d4c8_2 : decode cJ4_append_9d4c8 2 = .ok (.invokespecial 59, 3) := by decide +kernel
theorem dJ4_append_9d4c8_5 : decode cJ4_append_9d4c8 5 = .ok (.pop, 1) := by decide +kernel
theorem dJ4_append_9d4c8_6 : decode cJ4_append_9d4c8 6 = .ok (.aload_n 0, 1) := by decide +kernel
theorem dJ4_append_9d4c8_7 : decode cJ4_append_9d4c8 7 = .ok (.areturn, 1) := by decide +kernel
set_option maxRecDepth 20000 in
theorem ggJ4_append_ec4c5_J5_append_9cb98 : GoodIn wsJ4_append_ec4c5 wsJ5_append_9cb98 := goodIn_r _ [6, 7, 8, 9, 10, 11, 12, 13, 14, 15, 16, 17, 18, 19, 20, 21, 22, 23, 24, 25, 26, 27, 28, 29, 30, 31, 32, 33, 34, 35, 36, 37, 38, 39, 40, 41, 42, 43, 44, 45, 46, 47, 48, 49, 50, 51, 52, 53, 54, 55, 56, 57, 58, 59, 60, 61, 62, 63, 64, 65, 66, 67, 68, 69, 70, 71, 72, 73, 74, 75, 76, 77, 78, 79, 80, 81, 82, 83, 84, 85, 86, 87, 88, 89, 90, 91, 92, 93, 94, 95, 96, 97, 98, 99, 100, 101, 102, 103, 104, 105, 106, 107, 108, 109, 110, 111, 112, 113, 114, 115, 116, 117, 118, 119, 120, 121, 122, 123, 124, 125, 126, 127, 128, 129, 130, 131, 132, 133, 134, 135, 136, 137, 138, 139, 140, 141, 142, 143, 144, 145, 3, 146, 5, 147, 148, 149, 150, 151, 152, 153, 154, 155, 156, 157, 158, 159, 160, 161, 162, 163, 164, 165, 166, 167, 168, 169, 170, 171, 172, 173, 174, 175, 176, 177, 178, 179, 180, 181, 182, 183, 184, 185, 186, 187, 188, 189, 190, 191, 192, 193, 194, 195, 196, 197, 198, 199, 200, 201, 202, 203, 204, 205, 206, 207, 208, 209, 210, 211, 212, 213, 214, 215, 216, 217, 218, 219, 220, 221, 222, 223, 224, 225, 226, 227, 228, 229, 230, 231, 232, 233, 234, 235, 236, 237, 238, 239, 240, 241, 242, 243, 244, 245, 246, 247, 248, 249, 250, 251, 252, 253, 254, 255, 256, 257, 258, 259, 260, 261, 262, 263, 264, 265, 266, 267, 268, 269, 270, 271, 272, 273, 274, 275, 276, 277, 278, 279, 280, 281, 282, 283, 284, 285, 286, 287, 288, 289, 290, 291, 292, 293, 294, 295, 296, 297, 298, 299, 300, 301, 302, 303, 304, 305, 306, 307, 308, 309, 310, 311, 312, 313, 314, 315, 316, 317, 318, 319, 320, 321, 322, 323, 324, 325, 326, 327, 328, 329, 330, 331, 332, 333, 334, 335, 336, 337, 338, 339, 340, 341, 342, 343, 344, 345, 346, 347, 348, 349, 350, 351, 352, 353, 354, 355, 356, 357, 358, 359, 360, 361, 362, 363, 364, 365, 366, 367, 368, 369, 370, 371, 372, 373, 374, 375, 376, 377, 378, 379, 380, 381, 382, 383, 384, 385, 386, 387, 388, 389, 390, 391, 392, 393, 394, 395, 396, 397, 398, 399, 400, 401, 402, 403, 404, 405, 406, 407, 408, 409, 410, 411, 412, 413, 414, 415, 416, 417, 418, 419, 420, 421, 422, 423, 424, 425, 426, 427, 428, 429, 430, 431, 432, 433, 434, 435, 436, 437, 438, 439, 440, 441, 442, 443, 444, 445, 446, 447, 448, 449, 450, 451, 452, 453, 454, 455] (by decide +kernel) (by decide +kernel)
set_option maxRecDepth 20000 in
theorem gJ4_append_ec4c5_J5_append_9cb98_s62 : GoodIn wsJ4_append_ec4c5 (va_wsSU RJ4 62 yJ5_append_9cb98 wsJ5_append_9cb98) := goodIn_app (goodIn_of _ (by decide +kernel)) ggJ4_append_ec4c5_J5_append_9cb98
theorem dJ4_append_ec4c5_0 : decode cJ4_append_ec4c5 0 = .ok (.aload_n 0, 1) := by decide +kernel
theorem dJ4_append_ec4c5_1 : decode cJ4_append_ec4c5 1 = .ok (.dload_n 1, 1) := by decide +kernel
theorem dJ4_append_ec4c5_2 : decode cJ4_append_ec4c5 2 = .ok (.invokespecial 62, 3) := by decide +kernel
theorem dJ4_append_ec4c5_5 : decode cJ4_append_ec4c5 5 = .ok (.pop, 1) := by decide +kernel
theorem dJ4_append_ec4c5_6 : decode cJ4_append_ec4c5 6 = .ok (.aload_n 0, 1) := by decide +kernel
theorem dJ4_append_ec4c5_7 : decode cJ4_append_ec4c5 7 = .ok (.areturn, 1) := by decide +kernel
set_option maxRecDepth 20000 in
theorem ggJ4_toString_0e30d_J0_init_81219 : GoodIn wsJ4_toString_0e30d wsJ0_init_81219 := goodIn_r _ [6, 7, 8, 3, 9, 10, 11, 12, 13, 14, 15, 16, 17, 18, 19, 20, 21, 22, 23, 24, 25, 26, 27, 28, 29, 30, 31, 32, 33, 34, 35, 36, 37, 38, 39, 40, 41, 42, 43, 44, 45, 46, 47, 48, 49, 50, 51, 52, 53, 54, 55, 56, 57, 58, 59, 60, 61, 62, 63, 64, 65, 66, 67, 68, 69, 70, 71, 72, 73, 74, 75, 76, 77, 78, 79, 80, 81, 82, 83, 84, 85, 86, 87, 88, 89, 90, 91, 92, 93, 94, 95, 96, 97, 98, 99, 100, 101, 102, 103, 104, 105, 106, 107, 108, 109, 110, 111, 112] (by decide +kernel) (by decide +kernel)
set_option maxRecDepth 20000 in
theorem gJ4_toString_0e30d_J0_init_81219 : GoodIn wsJ4_toString_0e30d (wsJ0_init_81219) := ggJ4_toString_0e30d_J0_init_81219
theorem dJ4_toString_0e30d_0 : decode cJ4_toString_0e30d 0 = .ok (.new 18, 3) := by decide +kernel
theorem dJ4_toString_0e30d_3 : decode cJ4_toString_0e30d 3 = .ok (.dup, 1) := by decide +kernel
theorem dJ4_toString_0e30d_4 : decode cJ4_toString_0e30d 4 = .ok (.aload_n 0, 1) := by decide +kernel
theorem dJ4_toString_0e30d_5 : decode cJ4_toString_0e30d 5 = .ok (.invokespecial 137, 3) := by decide +kernel
theorem dJ4_toString_0e30d_8 : decode cJ4_toString_0e30d 8 = .ok (.areturn, 1) := by decide +kernel
set_option maxRecDepth 20000 in
theorem ggJ4_append_e1f22_J4_append_69d29 : GoodIn wsJ4_append_e1f22 wsJ4_append_69d29 := goodIn_r _ [5, 6, 7, 8, 9, 10, 11, 12, 13, 14, 15, 16, 17, 18, 19, 20, 21, 22, 23, 24, 25, 26, 27, 28, 4, 29, 30, 31, 32, 33, 34, 35, 36, 37, 38, 39, 40, 41, 42, 43, 44, 45, 46, 47, 48, 49, 50, 51, 52, 53, 54, 55, 56, 57, 58, 59, 60, 61, 62, 63, 64, 65, 66, 67, 68, 69, 70, 71, 72, 73, 74, 75, 76, 77, 78, 79, 80, 81, 82, 83, 84, 85, 86, 87, 88, 89, 90, 91, 92, 93, 94, 95, 96, 97, 98, 99, 100, 101, 102, 103, 104, 105, 106, 107, 108, 109, 110, 111, 112, 113, 114, 115, 116, 117, 118, 119, 120, 121, 122, 123, 124, 125, 126, 127, 128, 129, 130, 131, 132, 133, 134, 135, 136, 137, 138, 139, 140, 141, 142, 143, 144, 145, 146, 147, 148, 149, 150, 151, 152, 153, 154, 155, 156, 157, 158, 159, 160, 161, 162, 163, 164, 165, 166, 167, 168, 169, 170, 171, 172, 173, 174, 175, 176, 177, 178, 179, 180, 181, 182, 183, 184, 185, 186, 187, 188, 189, 190, 191, 192, 193, 194, 195, 196, 197, 198, 199, 200, 201, 202, 203, 204, 205] (by decide +kernel) (by decide +kernel)
set_option maxRecDepth 20000 in
theorem gJ4_append_e1f22_J4_append_69d29 : GoodIn wsJ4_append_e1f22 (wsV RJ4 296 RJ4 yJ4_append_69d29 wsJ4_append_69d29) := goodIn_app (goodIn_of _ (by decide +kernel)) ggJ4_append_e1f22_J4_append_69d29
theorem dJ4_append_e1f22_0 : decode cJ4_append_e1f22 0 = .ok (.aload_n 0, 1) := by decide +kernel
theorem dJ4_append_e1f22_1 : decode cJ4_append_e1f22 1 = .ok (.aload_n 1, 1) := by decide +kernel
theorem dJ4_append_e1f22_2 : decode cJ4_append_e1f22 2 = .ok (.iload_n 2, 1) := by decide +kernel
theorem dJ4_append_e1f22_3 : decode cJ4_append_e1f22 3 = .ok (.iload_n 3, 1) := by decide +kernel
theorem dJ4_append_e1f22_4 : decode cJ4_append_e1f22 4 = .ok (.invokevirtual 296, 3) := by decide +kernel
theorem dJ4_append_e1f22_7 : decode cJ4_append_e1f22 7 = .ok (.areturn, 1) := by decide +kernel
set_option maxRecDepth 20000 in
theorem ggJ4_append_cf1ce_J4_append_15ec4 : GoodIn wsJ4_append_cf1ce wsJ4_append_15ec4 := goodIn_r _ [5, 6, 7, 8, 9, 10, 11, 12, 13, 14, 15, 16, 17, 18, 19, 20, 21, 22, 23, 24, 25, 26, 27, 28, 29, 30, 31, 32, 33, 34, 35, 36, 37, 38, 39, 40, 41, 42, 43, 44, 45, 46, 47, 48, 49, 50, 51, 52, 53, 54, 55, 56, 57, 58, 59, 60, 61, 62, 63, 64, 65, 66, 67, 68, 69, 70, 71, 72, 73, 74, 75, 76, 77, 78, 79, 80, 81, 82, 83, 84, 85, 86, 87, 88, 89, 90, 91, 92, 93, 94, 95, 96, 97, 98, 99, 100, 101, 102, 103, 104, 105, 106, 107, 108, 109, 110, 111, 112, 113, 114, 115, 116, 117, 118, 119, 120, 121, 122, 123, 124, 125, 126, 127, 128, 129, 130, 131, 132, 133, 134, 135, 136, 137, 138, 139, 140, 141, 142, 143, 144, 145, 146, 147, 148, 149, 150, 151, 152, 153, 154, 155] (by decide +kernel) (by decide +kernel)
set_option maxRecDepth 20000 in
theorem gJ4_append_cf1ce_J4_append_15ec4 : GoodIn wsJ4_append_cf1ce (wsV RJ4 23 RJ4 yJ4_append_15ec4 wsJ4_append_15ec4) := goodIn_app (goodIn_of _ (by decide +kernel)) ggJ4_append_cf1ce_J4_append_15ec4
theorem dJ4_append_cf1ce_0 : decode cJ4_append_cf1ce 0 = .ok (.aload_n 0, 1) := by decide +kernel
theorem dJ4_append_cf1ce_1 : decode cJ4_append_cf1ce 1 = .ok (.aload_n 1, 1) := by decide +kernel
theorem dJ4_append_cf1ce_2 : decode cJ4_append_cf1ce 2 = .ok (.invokevirtual 23, 3) := by decide +kernel
theorem dJ4_append_cf1ce_5 : decode cJ4_append_cf1ce 5 = .ok (.areturn, 1) := by decide +kernel
set_option maxRecDepth 20000 in
theorem ggJ4_charAt_5068e_J5_charAt_5068e : GoodIn wsJ4_charAt_5068e wsJ5_charAt_5068e := goodIn_r _ [6, 7, 8, 9, 10, 11, 12, 13, 14, 15, 16, 17, 18, 19, 20, 21, 22, 23, 24, 25, 26, 27, 28, 29, 30, 31, 32, 33, 34, 35, 36] (by decide +kernel) (by decide +kernel)
set_option maxRecDepth 20000 in
theorem gJ4_charAt_5068e_J5_charAt_5068e_s329 : GoodIn wsJ4_charAt_5068e (va_wsSU RJ4 329 yJ5_charAt_5068e wsJ5_charAt_5068e) := goodIn_app (goodIn_of _ (by decide +kernel)) ggJ4_charAt_5068e_J5_charAt_5068e
theorem dJ4_charAt_5068e_0 : decode cJ4_charAt_5068e 0 = .ok (.aload_n 0, 1) := by decide +kernel
theorem dJ4_charAt_5068e_1 : decode cJ4_charAt_5068e 1 = .ok (.iload_n 1, 1) := by decide +kernel
theorem dJ4_charAt_5068e_2 : decode cJ4_charAt_5068e 2 = .ok (.invokespecial 329, 3) := by decide +kernel
theorem dJ4_charAt_5068e_5 : decode cJ4_charAt_5068e 5 = .ok (.ireturn, 1) := by decide +kernel
set_option maxRecDepth 20000 in
theorem ggJ4_setLength_d00df_J5_setLength_d00df : GoodIn wsJ4_setLength_d00df wsJ5_setLength_d00df := goodIn_r _ [6, 7, 8, 9, 10, 11, 12, 13, 14, 15, 16, 5, 17, 18, 19, 20, 21, 22, 23, 24, 25, 26, 27, 28, 29, 30, 31, 32, 33, 34, 35, 36, 37, 38, 39, 40, 41, 42, 43, 44, 45, 46, 47, 48, 49, 50, 51, 52, 53, 54, 55, 56, 57, 58, 59, 60, 61, 62, 63, 64, 65, 66, 67, 68, 69, 70, 71, 72, 73, 74, 75, 76, 77, 78, 79, 80, 81, 82, 83, 84, 85, 86, 87, 88, 89, 90, 91, 92, 93, 94, 95, 96, 97] (by decide +kernel) (by decide +kernel)
set_option maxRecDepth 20000 in
theorem gJ4_setLength_d00df_J5_setLength_d00df_s333 : GoodIn wsJ4_setLength_d00df (va_wsSU RJ4 333 yJ5_setLength_d00df wsJ5_setLength_d00df) := goodIn_app (goodIn_of _ (by decide +kernel)) ggJ4_setLength_d00df_J5_setLength_d00df
theorem dJ4_setLength_d00df_0 : decode cJ4_setLength_d00df 0 = .ok (.aload_n 0, 1) := by decide +kernel
theorem dJ4_setLength_d00df_1 : decode cJ4_setLength_d00df 1 = .ok (.iload_n 1, 1) := by decide +kernel
theorem dJ4_setLength_d00df_2 : decode cJ4_setLength_d00df 2 = .ok (.invokespecial 333, 3) := by decide +kernel
theorem dJ4_setLength_d00df_5 : decode cJ4_setLength_d00df 5 = .ok (.return_, 1) := by decide +kernel
set_option maxRecDepth 20000 in
theorem ggJ4_length_8abf5_J5_length_8abf5 : GoodIn wsJ4_length_8abf5 wsJ5_length_8abf5 := goodIn_r _ [6, 7, 8, 9, 10, 11] (by decide +kernel) (by decide +kernel)
set_option maxRecDepth 20000 in
theorem gJ4_length_8abf5_J5_length_8abf5_s343 : GoodIn wsJ4_length_8abf5 (va_wsSU RJ4 343 yJ5_length_8abf5 wsJ5_length_8abf5) := goodIn_app (goodIn_of _ (by decide +kernel)) ggJ4_length_8abf5_J5_length_8abf5
theorem dJ4_length_8abf5_0 : decode cJ4_length_8abf5 0 = .ok (.aload_n 0, 1) := by decide +kernel
theorem dJ4_length_8abf5_1 : decode cJ4_length_8abf5 1 = .ok (.invokespecial 343, 3) := by decide +kernel
theorem dJ4_length_8abf5_4 : decode cJ4_length_8abf5 4 = .ok (.ireturn, 1) := by decide +kernel
set_option maxRecDepth 20000 in
theorem ggJ4_append_b3078_J4_append_cf468 : GoodIn wsJ4_append_b3078 wsJ4_append_cf468 := goodIn_r _ [5, 6, 7, 8, 9, 10, 11, 12, 13, 14, 15, 16, 17, 18, 19, 20, 21, 22, 23, 24, 25, 26, 27, 28, 29, 30, 31, 32, 33, 34, 35, 36, 37, 38, 39, 40, 41, 42, 43, 44, 45, 46, 47, 48, 49, 50, 51, 52, 53, 54, 55, 56, 57, 58, 59, 60, 61, 62, 63, 64, 65, 66, 67, 68, 69, 70, 71, 72, 73, 74, 75, 76, 77, 78, 79, 80, 81, 82, 83, 84, 85, 86, 87, 88, 89, 90, 91, 92, 93, 94, 95, 96, 97, 98, 99, 100, 101, 102, 103, 104, 105, 106, 107, 108, 109, 110, 111, 112, 113, 114, 115, 116, 117, 118, 119, 120, 121] (by decide +kernel) (by decide +kernel)
set_option maxRecDepth 20000 in
theorem gJ4_append_b3078_J4_append_cf468 : GoodIn wsJ4_append_b3078 (wsV RJ4 284 RJ4 yJ4_append_cf468 wsJ4_append_cf468) := goodIn_app (goodIn_of _ (by decide +kernel)) ggJ4_append_b3078_J4_append_cf468
theorem dJ4_append_b3078_0 : decode cJ4_append_b3078 0 = .ok (.aload_n 0, 1) := by decide +kernel
theorem dJ4_append_b3078_1 : decode cJ4_append_b3078 1 = .ok (.iload_n 1, 1) := by decide +kernel
theorem dJ4_append_b3078_2 : decode cJ4_append_b3078 2 = .ok (.invokevirtual 284, 3) := by decide +kernel
theorem dJ4_append_b3078_5 : decode cJ4_append_b3078 5 = .ok (.areturn, 1) := by decide +kernel
set_option maxRecDepth 20000 in
theorem ggJ4_append_996db_J4_append_1fab5 : GoodIn wsJ4_append_996db wsJ4_append_1fab5 := goodIn_r _ [5, 6, 7, 8, 9, 10, 11, 12, 13, 14, 15, 16, 17, 18, 19, 20, 21, 22, 23, 24, 25, 26, 27, 28, 29, 30, 31, 32, 33, 34, 35, 36, 37, 38, 39, 40, 41, 42, 43, 44, 45, 46, 47, 48, 49, 50, 51, 52, 53, 54, 55, 56, 57, 58, 59, 60, 61, 62, 63, 64, 65, 66, 67, 68, 69, 70, 71, 72, 73, 74, 75, 76, 77, 78, 79, 80, 81, 82, 83, 84, 85, 86, 87, 88, 89, 90, 91, 92, 93, 94, 95, 96, 97, 98, 4, 99, 100, 101, 102, 103, 104, 105, 106, 107, 108, 109, 110, 111, 112, 113, 114, 115, 116, 117, 118, 119, 120, 121, 122, 123, 124, 125, 126, 127, 128, 129, 130, 131, 132, 133, 134, 135, 136, 137, 138, 139, 140, 141, 142, 143, 144, 145, 146, 147, 148, 149, 150, 151, 152, 153, 154, 155, 156, 157, 158, 159, 160, 161, 162, 163, 164, 165, 166, 167, 168, 169, 170, 171, 172, 173, 174, 175, 176, 177, 178, 179, 180, 181, 182, 183, 184, 185, 186, 187, 188, 189, 190, 191, 192, 193, 194, 195, 196, 197, 198, 199, 200, 201, 202, 203, 204, 205, 206, 207, 208, 209, 210, 211, 212, 213, 214, 215, 216, 217, 218, 219, 220, 221, 222, 223, 224, 225, 226, 227, 228, 229, 230, 231, 232, 233, 234, 235, 236, 237, 238, 239, 240, 241, 242, 243, 244, 245, 246, 247, 248, 249, 250, 251, 252, 253, 254, 255, 256, 257, 258, 259, 260, 261, 262, 263, 264, 265, 266, 267, 268, 269, 270, 271, 272, 273, 274, 275, 276, 277, 278, 279, 280, 281, 282, 283] (by decide +kernel) (by decide +kernel)
set_option maxRecDepth 20000 in
theorem gJ4_append_996db_J4_append_1fab5 : GoodIn wsJ4_append_996db (wsV RJ4 299 RJ4 yJ4_append_1fab5 wsJ4_append_1fab5) := goodIn_app (goodIn_of _ (by decide +kernel)) ggJ4_append_996db_J4_append_1fab5
theorem dJ4_append_996db_0 : decode cJ4_append_996db 0 = .ok (.aload_n 0, 1) := by decide +kernel
theorem dJ4_append_996db_1 : decode cJ4_append_996db 1 = .ok (.aload_n 1, 1) := by decide +kernel
theorem dJ4_append_996db_2 : decode cJ4_append_996db 2 = .ok (.invokevirtual 299, 3) := by decide +kernel
theorem dJ4_append_996db_5 : decode cJ4_append_996db 5 = .ok (.areturn, 1) := by decide +kernel
set_option maxRecDepth 20000 in
theorem ggJx7c733_init_d00df_J4_init_da8c8 : GoodIn wsJx7c733_init_d00df wsJ4_init_da8c8 := goodIn_r _ [6, 7, 8, 9, 10, 11, 12, 13, 14, 15, 16, 17, 18, 19, 20, 21, 22, 23, 24, 25, 236, 237, 238, 239] (by decide +kernel) (by decide +kernel)
set_option maxRecDepth 20000 in
theorem gJx7c733_init_d00df_J4_init_da8c8 : GoodIn wsJx7c733_init_d00df (wsJ4_init_da8c8) := ggJx7c733_init_d00df_J4_init_da8c8
set_option maxRecDepth 20000 in
theorem ggJx7c733_init_d00df_J4_append_15ec4 : GoodIn wsJx7c733_init_d00df wsJ4_append_15ec4 := goodIn_r _ [29, 30, 31, 32, 33, 9, 34, 35, 36, 37, 38, 39, 40, 16, 41, 42, 43, 44, 45, 17, 46, 47, 48, 49, 50, 51, 52, 53, 54, 55, 56, 57, 58, 59, 60, 61, 62, 63, 64, 65, 66, 67, 68, 69, 70, 71, 72, 73, 15, 74, 75, 76, 77, 78, 79, 80, 81, 82, 83, 84, 85, 14, 86, 87, 20, 88, 89, 90, 91, 92, 93, 94, 95, 96, 97, 98, 99, 100, 101, 102, 103, 104, 105, 106, 107, 108, 109, 110, 111, 112, 113, 114, 115, 116, 117, 118, 119, 120, 121, 122, 123, 124, 125, 126, 127, 128, 129, 130, 131, 132, 133, 134, 135, 136, 18, 19, 21, 22, 23, 24, 25, 137, 138, 139, 140, 141, 142, 143, 144, 145, 146, 147, 148, 149, 150, 151, 152, 153, 154, 155, 156, 157, 158, 236, 237, 238, 239, 240, 241, 242, 243] (by decide +kernel) (by decide +kernel)
set_option maxRecDepth 20000 in
theorem gJx7c733_init_d00df_J4_append_15ec4 : GoodIn wsJx7c733_init_d00df (wsV RJx7c733 15 RJ4 yJ4_append_15ec4 wsJ4_append_15ec4) := goodIn_app (goodIn_of _ (by decide +kernel)) ggJx7c733_init_d00df_J4_append_15ec4
set_option maxRecDepth 20000 in
theorem ggJx7c733_init_d00df_J4_append_bf812 : GoodIn wsJx7c733_init_d00df wsJ4_append_bf812 := goodIn_r _ [162, 163, 164, 32, 165, 9, 166, 35, 16, 167, 168, 169, 170, 41, 42, 43, 44, 45, 17, 46, 47, 48, 49, 50, 51, 52, 53, 54, 55, 56, 57, 58, 59, 60, 61, 62, 63, 64, 65, 66, 67, 68, 69, 70, 71, 72, 73, 15, 74, 75, 76, 77, 78, 79, 80, 81, 82, 83, 84, 85, 14, 171, 172, 173, 174, 175, 176, 177, 20, 178, 89, 90, 91, 92, 93, 94, 95, 96, 97, 98, 99, 100, 101, 102, 103, 104, 179, 180, 181, 182, 183, 105, 106, 107, 108, 109, 236, 237, 238, 239] (by decide +kernel) (by decide +kernel)
set_option maxRecDepth 20000 in
theorem gJx7c733_init_d00df_J4_append_bf812 : GoodIn wsJx7c733_init_d00df (wsV RJx7c733 19 RJ4 yJ4_append_bf812 wsJ4_append_bf812) := goodIn_app (goodIn_of _ (by decide +kernel)) ggJx7c733_init_d00df_J4_append_bf812
set_option maxRecDepth 20000 in
theorem ggJx7c733_init_d00df_J4_toString_0e30d : GoodIn wsJx7c733_init_d00df wsJ4_toString_0e30d := goodIn_r _ [187, 188, 189, 98, 190, 191, 192, 193, 194, 195, 196, 12, 13, 120, 114, 119, 197, 198, 199, 200, 201, 9, 202, 16, 203, 204, 205, 206, 207, 3, 208, 209, 32, 210, 211, 35, 212, 82, 83, 84, 85, 14, 17, 213, 214, 66, 215, 68, 69, 70, 71, 72, 73, 216, 217, 218, 15, 74, 75, 58, 76, 77, 78, 79, 80, 219, 220, 221, 222, 2, 223, 224, 20, 225, 226, 227, 228, 144, 145, 146, 93, 94, 95, 147, 148, 149, 100, 150, 151, 103, 152, 229, 230, 231, 89, 108, 109, 22, 23, 24, 25, 232, 233, 234, 235, 240, 241, 242, 243, 236, 237, 238, 239] (by decide +kernel) (by decide +kernel)
set_option maxRecDepth 20000 in
theorem gJx7c733_init_d00df_J4_toString_0e30d : GoodIn wsJx7c733_init_d00df (wsV RJx7c733 22 RJ4 yJ4_toString_0e30d wsJ4_toString_0e30d) := goodIn_app (goodIn_of _ (by decide +kernel)) ggJx7c733_init_d00df_J4_toString_0e30d
theorem dJx7c733_init_d00df_0 : decode cJx7c733_init_d00df 0 = .ok (.aload_n 0, 1) := by decide +kernel
theorem dJx7c733_init_d00df_1 : decode cJx7c733_init_d00df 1 = .ok (.new 10, 3) := by decide +kernel
theorem dJx7c733_init_d00df_4 : decode cJx7c733_init_d00df 4 = .ok (.dup, 1) := by decide +kernel
theorem dJx7c733_init_d00df_5 : decode cJx7c733_init_d00df 5 = .ok (.invokespecial 12, 3) := by decide +kernel
theorem dJx7c733_init_d00df_8 : decode cJx7c733_init_d00df 8 = .ok (.ldc 13, 2) := by decide +kernel
theorem dJx7c733_init_d00df_10 : decode cJx7c733_init_d00df 10 = .ok (.invokevirtual 15, 3) := by decide +kernel
theorem dJx7c733_init_d00df_13 : decode cJx7c733_init_d00df 13 = .ok (.iload_n 1, 1) := by decide +kernel
theorem dJx7c733_init_d00df_14 : decode cJx7c733_init_d00df 14 = .ok (.invokevirtual 19, 3) := by decide +kernel
theorem dJx7c733_init_d00df_17 : decode cJx7c733_init_d00df 17 = .ok (.invokevirtual 22, 3) := by decide +kernel
theorem dJx7c733_init_d00df_20 : decode cJx7c733_init_d00df 20 = .ok (.invokespecial 7, 3) := by decide +kernel
theorem dJx7c733_init_d00df_23 : decode cJx7c733_init_d00df 23 = .ok (.return_, 1) := by decide +kernel
set_option maxRecDepth 20000 in
theorem ggJ1_charAt_3b067_J0_checkIndex_df160 : GoodIn wsJ1_charAt_3b067 wsJ0_checkIndex_df160 := goodIn_r _ [4, 5, 6, 7, 8, 9] (by decide +kernel) (by decide +kernel)
set_option maxRecDepth 20000 in
theorem gJ1_charAt_3b067_J0_checkIndex_df160 : GoodIn wsJ1_charAt_3b067 (va_wsS RJ1 9 yJ0_checkIndex_df160 wsJ0_checkIndex_df160) := goodIn_app (goodIn_of _ (by decide +kernel)) ggJ1_charAt_3b067_J0_checkIndex_df160
theorem dJ1_charAt_3b067_0 : decode cJ1_charAt_3b067 0 = .ok (.iload_n 1, 1) := by decide +kernel
theorem dJ1_charAt_3b067_1 : decode cJ1_charAt_3b067 1 = .ok (.aload_n 0, 1) := by decide +kernel
theorem dJ1_charAt_3b067_2 : decode cJ1_charAt_3b067 2 = .ok (.arraylength, 1) := by decide +kernel
theorem dJ1_charAt_3b067_3 : decode cJ1_charAt_3b067 3 = .ok (.invokestatic 9, 3) := by decide +kernel
theorem dJ1_charAt_3b067_6 : decode cJ1_charAt_3b067 6 = .ok (.aload_n 0, 1) := by decide +kernel
theorem dJ1_charAt_3b067_7 : decode cJ1_charAt_3b067 7 = .ok (.iload_n 1, 1) := by decide +kernel
theorem dJ1_charAt_3b067_8 : decode cJ1_charAt_3b067 8 = .ok (.baload, 1) := by decide +kernel
theorem dJ1_charAt_3b067_9 : decode cJ1_charAt_3b067 9 = .ok (.sipush 255, 3) := by decide +kernel
theorem dJ1_charAt_3b067_12 : decode cJ1_charAt_3b067 12 = .ok (.iand, 1) := by decide +kernel
theorem dJ1_charAt_3b067_13 : decode cJ1_charAt_3b067 13 = .ok (.i2c, 1) := by decide +kernel
theorem dJ1_charAt_3b067_14 : decode cJ1_charAt_3b067 14 = .ok (.ireturn, 1) := by decide +kernel
theorem dJ1_canEncode_fc78d_0 : decode cJ1_canEncode_fc78d 0 = .ok (.iload_n 0, 1) := by decide +kernel
theorem dJ1_canEncode_fc78d_1 : decode cJ1_canEncode_fc78d 1 = .ok (.sipush 255, 3) := by decide +kernel
theorem dJ1_canEncode_fc78d_4 : decode cJ1_canEncode_fc78d 4 = .ok (.if_icmp .gt 7, 3) := by decide +kernel
theorem dJ1_canEncode_fc78d_7 : decode cJ1_canEncode_fc78d 7 = .ok (.iconst 1, 1) := by decide +kernel
theorem dJ1_canEncode_fc78d_8 : decode cJ1_canEncode_fc78d 8 = .ok (.goto 4, 3) := by decide +kernel
theorem dJ1_canEncode_fc78d_11 : decode cJ1_canEncode_fc78d 11 = .ok (.iconst 0, 1) := by decide +kernel
theorem dJ1_canEncode_fc78d_12 : decode cJ1_canEncode_fc78d 12 = .ok (.ireturn, 1) := by decide +kernel
theorem dJ1_equals_b5fdf_0 : decode cJ1_equals_b5fdf 0 = .ok (.aload_n 0, 1) := by decide +kernel
theorem dJ1_equals_b5fdf_1 : decode cJ1_equals_b5fdf 1 = .ok (.arraylength, 1) := by decide +kernel
theorem dJ1_equals_b5fdf_2 : decode cJ1_equals_b5fdf 2 = .ok (.aload_n 1, 1) := by decide +kernel
theorem dJ1_equals_b5fdf_3 : decode cJ1_equals_b5fdf 3 = .ok (.arraylength, 1) := by decide +kernel
theorem dJ1_equals_b5fdf_4 : decode cJ1_equals_b5fdf 4 = .ok (.if_icmp .ne 30, 3) := by decide +kernel
theorem dJ1_equals_b5fdf_7 : decode cJ1_equals_b5fdf 7 = .ok (.iconst 0, 1) := by decide +kernel
theorem dJ1_equals_b5fdf_8 : decode cJ1_equals_b5fdf 8 = .ok (.istore_n 2, 1) := by decide +kernel
theorem dJ1_equals_b5fdf_9 : decode cJ1_equals_b5fdf 9 = .ok (.iload_n 2, 1) := by decide +kernel
theorem dJ1_equals_b5fdf_10 : decode cJ1_equals_b5fdf 10 = .ok (.aload_n 0, 1) := by decide +kernel
theorem dJ1_equals_b5fdf_11 : decode cJ1_equals_b5fdf 11 = .ok (.arraylength, 1) := by decide +kernel
theorem dJ1_equals_b5fdf_12 : decode cJ1_equals_b5fdf 12 = .ok (.if_icmp .ge 20, 3) := by decide +kernel
theorem dJ1_equals_b5fdf_15 : decode cJ1_equals_b5fdf 15 = .ok (.aload_n 0, 1) := by decide +kernel
theorem dJ1_equals_b5fdf_16 : decode cJ1_equals_b5fdf 16 = .ok (.iload_n 2, 1) := by decide +kernel
theorem dJ1_equals_b5fdf_17 : decode cJ1_equals_b5fdf 17 = .ok (.baload, 1) := by decide +kernel
theorem dJ1_equals_b5fdf_18 : decode cJ1_equals_b5fdf 18 = .ok (.aload_n 1, 1) := by decide +kernel
theorem dJ1_equals_b5fdf_19 : decode cJ1_equals_b5fdf 19 = .ok (.iload_n 2, 1) := by decide +kernel
theorem dJ1_equals_b5fdf_20 : decode cJ1_equals_b5fdf 20 = .ok (.baload, 1) := by decide +kernel
theorem dJ1_equals_b5fdf_21 : decode cJ1_equals_b5fdf 21 = .ok (.if_icmp .eq 5, 3) := by decide +kernel
theorem dJ1_equals_b5fdf_24 : decode cJ1_equals_b5fdf 24 = .ok (.iconst 0, 1) := by decide +kernel
theorem dJ1_equals_b5fdf_25 : decode cJ1_equals_b5fdf 25 = .ok (.ireturn, 1) := by decide +kernel
theorem dJ1_equals_b5fdf_26 : decode cJ1_equals_b5fdf 26 = .ok (.iinc 2 1, 3) := by decide +kernel
theorem dJ1_equals_b5fdf_29 : decode cJ1_equals_b5fdf 29 = .ok (.goto (-20), 3) := by decide +kernel
theorem dJ1_equals_b5fdf_32 : decode cJ1_equals_b5fdf 32 = .ok (.iconst 1, 1) := by decide +kernel
theorem dJ1_equals_b5fdf_33 : decode cJ1_equals_b5fdf 33 = .ok (.ireturn, 1) := by decide +kernel
theorem dJ1_equals_b5fdf_34 : decode cJ1_equals_b5fdf 34 = .ok (.iconst 0, 1) := by decide +kernel
theorem dJ1_equals_b5fdf_35 : decode cJ1_equals_b5fdf 35 = .ok (.ireturn, 1) := by decide +kernel
set_option maxRecDepth 20000 in
theorem ggJ1_fillNull_b72d1_J7_fill_eb02e : GoodIn wsJ1_fillNull_b72d1 wsJ7_fill_eb02e := goodIn_r _ [4, 5, 6, 3, 7, 8, 9, 10, 11, 12, 13, 14, 15, 16, 17, 18, 19, 20, 21, 22, 23] (by decide +kernel) (by decide +kernel)
