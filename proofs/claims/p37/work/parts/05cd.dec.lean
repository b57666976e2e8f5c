set_option maxRecDepth 20000 in
theorem gJ1_fillNull_b72d1_J7_fill_eb02e : GoodIn wsJ1_fillNull_b72d1 (va_wsS RJ1 236 yJ7_fill_eb02e wsJ7_fill_eb02e) := goodIn_app (goodIn_of _ (by decide +kernel)) ggJ1_fillNull_b72d1_J7_fill_eb02e
theorem dJ1_fillNull_b72d1_0 : decode cJ1_fillNull_b72d1 0 = .ok (.aload_n 0, 1) := by decide +kernel
theorem dJ1_fillNull_b72d1_1 : decode cJ1_fillNull_b72d1 1 = .ok (.iload_n 1, 1) := by decide +kernel
theorem dJ1_fillNull_b72d1_2 : decode cJ1_fillNull_b72d1 2 = .ok (.iload_n 2, 1) := by decide +kernel
theorem dJ1_fillNull_b72d1_3 : decode cJ1_fillNull_b72d1 3 = .ok (.iconst 0, 1) := by decide +kernel
theorem dJ1_fillNull_b72d1_4 : decode cJ1_fillNull_b72d1 4 = .ok (.invokestatic 236, 3) := by decide +kernel
theorem dJ1_fillNull_b72d1_7 : decode cJ1_fillNull_b72d1 7 = .ok (.return_, 1) := by decide +kernel
set_option maxRecDepth 20000 in
theorem ggJ1_inflate_0e8fd_J2_inflate_0e8fd : GoodIn wsJ1_inflate_0e8fd wsJ2_inflate_0e8fd := goodIn_r _ [4, 5, 6, 3, 7, 8, 9, 10, 11, 12, 13, 14, 15, 16, 17, 18, 19, 20, 21, 22, 23, 24, 25] (by decide +kernel) (by decide +kernel)
set_option maxRecDepth 20000 in
theorem gJ1_inflate_0e8fd_J2_inflate_0e8fd : GoodIn wsJ1_inflate_0e8fd (va_wsS RJ1 240 yJ2_inflate_0e8fd wsJ2_inflate_0e8fd) := goodIn_app (goodIn_of _ (by decide +kernel)) ggJ1_inflate_0e8fd_J2_inflate_0e8fd
theorem dJ1_inflate_0e8fd_0 : decode cJ1_inflate_0e8fd 0 = .ok (.aload_n 0, 1) := by decide +kernel
theorem dJ1_inflate_0e8fd_1 : decode cJ1_inflate_0e8fd 1 = .ok (.iload_n 1, 1) := by decide +kernel
theorem dJ1_inflate_0e8fd_2 : decode cJ1_inflate_0e8fd 2 = .ok (.aload_n 2, 1) := by decide +kernel
theorem dJ1_inflate_0e8fd_3 : decode cJ1_inflate_0e8fd 3 = .ok (.iload_n 3, 1) := by decide +kernel
theorem dJ1_inflate_0e8fd_4 : decode cJ1_inflate_0e8fd 4 = .ok (.iload 4, 2) := by decide +kernel
theorem dJ1_inflate_0e8fd_6 : decode cJ1_inflate_0e8fd 6 = .ok (.invokestatic 240, 3) := by decide +kernel
theorem dJ1_inflate_0e8fd_9 : decode cJ1_inflate_0e8fd 9 = .ok (.return_, 1) := by decide +kernel
set_option maxRecDepth 20000 in
theorem ggJ2_newBytesFor_77867_J2_newBytesLength_0f7a4 : GoodIn wsJ2_newBytesFor_77867 wsJ2_newBytesLength_0f7a4 := goodIn_r _ [5, 6] (by decide +kernel) (by decide +kernel)
set_option maxRecDepth 20000 in
theorem gJ2_newBytesFor_77867_J2_newBytesLength_0f7a4 : GoodIn wsJ2_newBytesFor_77867 (va_wsS RJ2 11 yJ2_newBytesLength_0f7a4 wsJ2_newBytesLength_0f7a4) := goodIn_app (goodIn_of _ (by decide +kernel)) ggJ2_newBytesFor_77867_J2_newBytesLength_0f7a4
theorem dJ2_newBytesFor_77867_0 : decode cJ2_newBytesFor_77867 0 = .ok (.iload_n 0, 1) := by decide +kernel
theorem dJ2_newBytesFor_77867_1 : decode cJ2_newBytesFor_77867 1 = .ok (.invokestatic 11, 3) := by decide +kernel
theorem dJ2_newBytesFor_77867_4 : decode cJ2_newBytesFor_77867 4 = .ok (.newarray .byte, 2) := by decide +kernel
theorem dJ2_newBytesFor_77867_6 : decode cJ2_newBytesFor_77867 6 = .ok (.areturn, 1) := by decide +kernel
theorem dJ2_newBytesLength_0f7a4_0 : decode cJ2_newBytesLength_0f7a4 0 = .ok (.iload_n 0, 1) := by decide +kernel
theorem dJ2_newBytesLength_0f7a4_1 : decode cJ2_newBytesLength_0f7a4 1 = .ok (.ifCond .ge 11, 3) := by decide +kernel
theorem dJ2_newBytesLength_0f7a4_4 : decode cJ2_newBytesLength_0f7a4 4 = .ok (.new 17, 3) := by decide +kernel
theorem dJ2_newBytesLength_0f7a4_7 : decode cJ2_newBytesLength_0f7a4 7 = .ok (.dup, 1) := by decide +kernel
theorem dJ2_newBytesLength_0f7a4_8 : decode cJ2_newBytesLength_0f7a4 8 = .ok (.invokespecial 19, 3) := by decide +kernel
theorem dJ2_newBytesLength_0f7a4_11 : decode cJ2_newBytesLength_0f7a4 11 = .ok (.athrow, 1) := by decide +kernel
theorem dJ2_newBytesLength_0f7a4_12 : decode cJ2_newBytesLength_0f7a4 12 = .ok (.iload_n 0, 1) := by decide +kernel
theorem dJ2_newBytesLength_0f7a4_13 : decode cJ2_newBytesLength_0f7a4 13 = .ok (.ldc 20, 2) := by decide +kernel
theorem dJ2_newBytesLength_0f7a4_15 : decode cJ2_newBytesLength_0f7a4 15 = .ok (.if_icmp .lt 40, 3) := by decide +kernel
theorem dJ2_newBytesLength_0f7a4_18 : decode cJ2_newBytesLength_0f7a4 18 = .ok (.new 21, 3) := by decide +kernel
theorem dJ2_newBytesLength_0f7a4_21 : decode cJ2_newBytesLength_0f7a4 21 = .ok (.dup, 1) := by decide +kernel
theorem dJ2_newBytesLength_0f7a4_22 : decode cJ2_newBytesLength_0f7a4 22 = .ok (.new 23, 3) := by decide +kernel
theorem dJ2_newBytesLength_0f7a4_25 : decode cJ2_newBytesLength_0f7a4 25 = .ok (.dup, 1) := by decide +kernel
theorem dJ2_newBytesLength_0f7a4_26 : decode cJ2_newBytesLength_0f7a4 26 = .ok (.invokespecial 25, 3) := by decide +kernel
theorem dJ2_newBytesLength_0f7a4_29 : decode cJ2_newBytesLength_0f7a4 29 = .ok (.ldc 26, 2) := by decide +kernel
theorem dJ2_newBytesLength_0f7a4_31 : decode cJ2_newBytesLength_0f7a4 31 = .ok (.invokevirtual 28, 3) := by decide +kernel
theorem dJ2_newBytesLength_0f7a4_34 : decode cJ2_newBytesLength_0f7a4 34 = .ok (.iload_n 0, 1) := by decide +kernel
theorem dJ2_newBytesLength_0f7a4_35 : decode cJ2_newBytesLength_0f7a4 35 = .ok (.invokevirtual 32, 3) := by decide +kernel
theorem dJ2_newBytesLength_0f7a4_38 : decode cJ2_newBytesLength_0f7a4 38 = .ok (.ldc 35, 2) := by decide +kernel
theorem dJ2_newBytesLength_0f7a4_40 : decode cJ2_newBytesLength_0f7a4 40 = .ok (.invokevirtual 28, 3) := by decide +kernel
theorem dJ2_newBytesLength_0f7a4_43 : decode cJ2_newBytesLength_0f7a4 43 = .ok (.ldc 20, 2) := by decide +kernel
theorem dJ2_newBytesLength_0f7a4_45 : decode cJ2_newBytesLength_0f7a4 45 = .ok (.invokevirtual 32, 3) := by decide +kernel
theorem dJ2_newBytesLength_0f7a4_48 : decode cJ2_newBytesLength_0f7a4 48 = .ok (.invokevirtual 37, 3) := by decide +kernel
theorem dJ2_newBytesLength_0f7a4_51 : decode cJ2_newBytesLength_0f7a4 51 = .ok (.invokespecial 41, 3) := by decide +kernel
theorem dJ2_newBytesLength_0f7a4_54 : decode cJ2_newBytesLength_0f7a4 54 = .ok (.athrow, 1) := by decide +kernel
theorem dJ2_newBytesLength_0f7a4_55 : decode cJ2_newBytesLength_0f7a4 55 = .ok (.iload_n 0, 1) := by decide +kernel
theorem dJ2_newBytesLength_0f7a4_56 : decode cJ2_newBytesLength_0f7a4 56 = .ok (.iconst 1, 1) := by decide +kernel
theorem dJ2_newBytesLength_0f7a4_57 : decode cJ2_newBytesLength_0f7a4 57 = .ok (.ishl, 1) := by decide +kernel
theorem dJ2_newBytesLength_0f7a4_58 : decode cJ2_newBytesLength_0f7a4 58 = .ok (.ireturn, 1) := by decide +kernel
set_option maxRecDepth 20000 in
theorem ggJ2_putChar_b72d1_J2_length_9d52b : GoodIn wsJ2_putChar_b72d1 wsJ2_length_9d52b := goodIn_r _ [7] (by decide +kernel) (by decide +kernel)
set_option maxRecDepth 20000 in
theorem gJ2_putChar_b72d1_J2_length_9d52b : GoodIn wsJ2_putChar_b72d1 (va_wsS RJ2 48 yJ2_length_9d52b wsJ2_length_9d52b) := goodIn_app (goodIn_of _ (by decide +kernel)) ggJ2_putChar_b72d1_J2_length_9d52b
theorem dJ2_putChar_b72d1_0 : decode cJ2_putChar_b72d1 0 = .ok (.getstatic 44, 3) := by decide +kernel
theorem dJ2_putChar_b72d1_3 : decode cJ2_putChar_b72d1 3 = .ok (.ifCond .ne 25, 3) := by decide +kernel
theorem dJ2_putChar_b72d1_6 : decode cJ2_putChar_b72d1 6 = .ok (.iload_n 1, 1) := by decide +kernel
theorem dJ2_putChar_b72d1_7 : decode cJ2_putChar_b72d1 7 = .ok (.ifCond .lt 11, 3) := by decide +kernel
theorem dJ2_putChar_b72d1_10 : decode cJ2_putChar_b72d1 10 = .ok (.iload_n 1, 1) := by decide +kernel
theorem dJ2_putChar_b72d1_11 : decode cJ2_putChar_b72d1 11 = .ok (.aload_n 0, 1) := by decide +kernel
theorem dJ2_putChar_b72d1_12 : decode cJ2_putChar_b72d1 12 = .ok (.invokestatic 48, 3) := by decide +kernel
theorem dJ2_putChar_b72d1_15 : decode cJ2_putChar_b72d1 15 = .ok (.if_icmp .lt 13, 3) := by decide +kernel
theorem dJ2_putChar_b72d1_18 : decode cJ2_putChar_b72d1 18 = .ok (.new 52, 3) := by decide +kernel
theorem dJ2_putChar_b72d1_21 : decode cJ2_putChar_b72d1 21 = .ok (.dup, 1) := by decide +kernel
theorem dJ2_putChar_b72d1_22 : decode cJ2_putChar_b72d1 22 = .ok (.ldc 54, 2) := by decide +kernel
theorem dJ2_putChar_b72d1_24 : decode cJ2_putChar_b72d1 24 = .ok (.invokespecial 56, 3) := by decide +kernel
theorem dJ2_putChar_b72d1_27 : decode cJ2_putChar_b72d1 27 = .ok (.athrow, 1) := by decide +kernel
theorem dJ2_putChar_b72d1_28 : decode cJ2_putChar_b72d1 28 = .ok (.iload_n 1, 1) := by decide +kernel
theorem dJ2_putChar_b72d1_29 : decode cJ2_putChar_b72d1 29 = .ok (.iconst 1, 1) := by decide +kernel
theorem dJ2_putChar_b72d1_30 : decode cJ2_putChar_b72d1 30 = .ok (.ishl, 1) := by decide +kernel
theorem dJ2_putChar_b72d1_31 : decode cJ2_putChar_b72d1 31 = .ok (.istore_n 1, 1) := by decide +kernel
theorem dJ2_putChar_b72d1_32 : decode cJ2_putChar_b72d1 32 = .ok (.aload_n 0, 1) := by decide +kernel
theorem dJ2_putChar_b72d1_33 : decode cJ2_putChar_b72d1 33 = .ok (.iload_n 1, 1) := by decide +kernel
theorem dJ2_putChar_b72d1_34 : decode cJ2_putChar_b72d1 34 = .ok (.iinc 1 1, 3) := by decide +kernel
theorem dJ2_putChar_b72d1_37 : decode cJ2_putChar_b72d1 37 = .ok (.iload_n 2, 1) := by decide +kernel
theorem dJ2_putChar_b72d1_38 : decode cJ2_putChar_b72d1 38 = .ok (.getstatic 59, 3) := by decide +kernel
theorem dJ2_putChar_b72d1_41 : decode cJ2_putChar_b72d1 41 = .ok (.ishr, 1) := by decide +kernel
theorem dJ2_putChar_b72d1_42 : decode cJ2_putChar_b72d1 42 = .ok (.i2b, 1) := by decide +kernel
theorem dJ2_putChar_b72d1_43 : decode cJ2_putChar_b72d1 43 = .ok (.bastore, 1) := by decide +kernel
theorem dJ2_putChar_b72d1_44 : decode cJ2_putChar_b72d1 44 = .ok (.aload_n 0, 1) := by decide +kernel
theorem dJ2_putChar_b72d1_45 : decode cJ2_putChar_b72d1 45 = .ok (.iload_n 1, 1) := by decide +kernel
theorem dJ2_putChar_b72d1_46 : decode cJ2_putChar_b72d1 46 = .ok (.iload_n 2, 1) := by decide +kernel
theorem dJ2_putChar_b72d1_47 : decode cJ2_putChar_b72d1 47 = .ok (.getstatic 63, 3) := by decide +kernel
theorem dJ2_putChar_b72d1_50 : decode cJ2_putChar_b72d1 50 = .ok (.ishr, 1) := by decide +kernel
theorem dJ2_putChar_b72d1_51 : decode cJ2_putChar_b72d1 51 = .ok (.i2b, 1) := by decide +kernel
theorem dJ2_putChar_b72d1_52 : decode cJ2_putChar_b72d1 52 = .ok (.bastore, 1) := by decide +kernel
theorem dJ2_putChar_b72d1_53 : decode cJ2_putChar_b72d1 53 = .ok (.return_, 1) := by decide +kernel
set_option maxRecDepth 20000 in
theorem ggJ2_getChar_3b067_J2_length_9d52b : GoodIn wsJ2_getChar_3b067 wsJ2_length_9d52b := goodIn_r _ [7] (by decide +kernel) (by decide +kernel)
set_option maxRecDepth 20000 in
theorem gJ2_getChar_3b067_J2_length_9d52b : GoodIn wsJ2_getChar_3b067 (va_wsS RJ2 48 yJ2_length_9d52b wsJ2_length_9d52b) := goodIn_app (goodIn_of _ (by decide +kernel)) ggJ2_getChar_3b067_J2_length_9d52b
theorem dJ2_getChar_3b067_0 : decode cJ2_getChar_3b067 0 = .ok (.getstatic 44, 3) := by decide +kernel
theorem dJ2_getChar_3b067_3 : decode cJ2_getChar_3b067 3 = .ok (.ifCond .ne 25, 3) := by decide +kernel
theorem dJ2_getChar_3b067_6 : decode cJ2_getChar_3b067 6 = .ok (.iload_n 1, 1) := by decide +kernel
theorem dJ2_getChar_3b067_7 : decode cJ2_getChar_3b067 7 = .ok (.ifCond .lt 11, 3) := by decide +kernel
theorem dJ2_getChar_3b067_10 : decode cJ2_getChar_3b067 10 = .ok (.iload_n 1, 1) := by decide +kernel
theorem dJ2_getChar_3b067_11 : decode cJ2_getChar_3b067 11 = .ok (.aload_n 0, 1) := by decide +kernel
theorem dJ2_getChar_3b067_12 : decode cJ2_getChar_3b067 12 = .ok (.invokestatic 48, 3) := by decide +kernel
theorem dJ2_getChar_3b067_15 : decode cJ2_getChar_3b067 15 = .ok (.if_icmp .lt 13, 3) := by decide +kernel
theorem dJ2_getChar_3b067_18 : decode cJ2_getChar_3b067 18 = .ok (.new 52, 3) := by decide +kernel
theorem dJ2_getChar_3b067_21 : decode cJ2_getChar_3b067 21 = .ok (.dup, 1) := by decide +kernel
theorem dJ2_getChar_3b067_22 : decode cJ2_getChar_3b067 22 = .ok (.ldc 54, 2) := by decide +kernel
theorem dJ2_getChar_3b067_24 : decode cJ2_getChar_3b067 24 = .ok (.invokespecial 56, 3) := by decide +kernel
theorem dJ2_getChar_3b067_27 : decode cJ2_getChar_3b067 27 = .ok (.athrow, 1) := by decide +kernel
theorem dJ2_getChar_3b067_28 : decode cJ2_getChar_3b067 28 = .ok (.iload_n 1, 1) := by decide +kernel
theorem dJ2_getChar_3b067_29 : decode cJ2_getChar_3b067 29 = .ok (.iconst 1, 1) := by decide +kernel
theorem dJ2_getChar_3b067_30 : decode cJ2_getChar_3b067 30 = .ok (.ishl, 1) := by decide +kernel
theorem dJ2_getChar_3b067_31 : decode cJ2_getChar_3b067 31 = .ok (.istore_n 1, 1) := by decide +kernel
theorem dJ2_getChar_3b067_32 : decode cJ2_getChar_3b067 32 = .ok (.aload_n 0, 1) := by decide +kernel
theorem dJ2_getChar_3b067_33 : decode cJ2_getChar_3b067 33 = .ok (.iload_n 1, 1) := by decide +kernel
theorem dJ2_getChar_3b067_34 : decode cJ2_getChar_3b067 34 = .ok (.iinc 1 1, 3) := by decide +kernel
theorem dJ2_getChar_3b067_37 : decode cJ2_getChar_3b067 37 = .ok (.baload, 1) := by decide +kernel
theorem dJ2_getChar_3b067_38 : decode cJ2_getChar_3b067 38 = .ok (.sipush 255, 3) := by decide +kernel
theorem dJ2_getChar_3b067_41 : decode cJ2_getChar_3b067 41 = .ok (.iand, 1) := by decide +kernel
theorem dJ2_getChar_3b067_42 : decode cJ2_getChar_3b067 42 = .ok (.getstatic 59, 3) := by decide +kernel
theorem dJ2_getChar_3b067_45 : decode cJ2_getChar_3b067 45 = .ok (.ishl, 1) := by decide +kernel
theorem dJ2_getChar_3b067_46 : decode cJ2_getChar_3b067 46 = .ok (.aload_n 0, 1) := by decide +kernel
theorem dJ2_getChar_3b067_47 : decode cJ2_getChar_3b067 47 = .ok (.iload_n 1, 1) := by decide +kernel
theorem dJ2_getChar_3b067_48 : decode cJ2_getChar_3b067 48 = .ok (.baload, 1) := by decide +kernel
theorem dJ2_getChar_3b067_49 : decode cJ2_getChar_3b067 49 = .ok (.sipush 255, 3) := by decide +kernel
theorem dJ2_getChar_3b067_52 : decode cJ2_getChar_3b067 52 = .ok (.iand, 1) := by decide +kernel
theorem dJ2_getChar_3b067_53 : decode cJ2_getChar_3b067 53 = .ok (.getstatic 63, 3) := by decide +kernel
theorem dJ2_getChar_3b067_56 : decode cJ2_getChar_3b067 56 = .ok (.ishl, 1) := by decide +kernel
theorem dJ2_getChar_3b067_57 : decode cJ2_getChar_3b067 57 = .ok (.ior, 1) := by decide +kernel
theorem dJ2_getChar_3b067_58 : decode cJ2_getChar_3b067 58 = .ok (.i2c, 1) := by decide +kernel
theorem dJ2_getChar_3b067_59 : decode cJ2_getChar_3b067 59 = .ok (.ireturn, 1) := by decide +kernel
theorem dJ2_length_9d52b_0 : decode cJ2_length_9d52b 0 = .ok (.aload_n 0, 1) := by decide +kernel
theorem dJ2_length_9d52b_1 : decode cJ2_length_9d52b 1 = .ok (.arraylength, 1) := by decide +kernel
theorem dJ2_length_9d52b_2 : decode cJ2_length_9d52b 2 = .ok (.iconst 1, 1) := by decide +kernel
theorem dJ2_length_9d52b_3 : decode cJ2_length_9d52b 3 = .ok (.ishr, 1) := by decide +kernel
theorem dJ2_length_9d52b_4 : decode cJ2_length_9d52b 4 = .ok (.ireturn, 1) := by decide +kernel
theorem dJ2_coderFromArrayLen_85cad_0 : decode cJ2_coderFromArrayLen_85cad 0 = .ok (.iload_n 1, 1) := by decide +kernel
theorem dJ2_coderFromArrayLen_85cad_1 : decode cJ2_coderFromArrayLen_85cad 1 = .ok (.aload_n 0, 1) := by decide +kernel
theorem dJ2_coderFromArrayLen_85cad_2 : decode cJ2_coderFromArrayLen_85cad 2 = .ok (.arraylength, 1) := by decide +kernel
theorem dJ2_coderFromArrayLen_85cad_3 : decode cJ2_coderFromArrayLen_85cad 3 = .ok (.isub, 1) := by decide +kernel
theorem dJ2_coderFromArrayLen_85cad_4 : decode cJ2_coderFromArrayLen_85cad 4 = .ok (.bipush 31, 2) := by decide +kernel
theorem dJ2_coderFromArrayLen_85cad_6 : decode cJ2_coderFromArrayLen_85cad 6 = .ok (.iushr, 1) := by decide +kernel
theorem dJ2_coderFromArrayLen_85cad_7 : decode cJ2_coderFromArrayLen_85cad 7 = .ok (.i2b, 1) := by decide +kernel
theorem dJ2_coderFromArrayLen_85cad_8 : decode cJ2_coderFromArrayLen_85cad 8 = .ok (.ireturn, 1) := by decide +kernel
set_option maxRecDepth 20000 in
theorem ggJ2_compress_39247_J2_compress_5af95 : GoodIn wsJ2_compress_39247 wsJ2_compress_5af95 := goodIn_r _ [5, 6, 7, 4, 8, 9, 10, 11, 12, 13, 14, 15, 16, 17, 18, 19, 20, 21, 22, 23, 24, 25, 26] (by decide +kernel) (by decide +kernel)
set_option maxRecDepth 20000 in
theorem gJ2_compress_39247_J2_compress_5af95 : GoodIn wsJ2_compress_39247 (va_wsS RJ2 123 yJ2_compress_5af95 wsJ2_compress_5af95) := goodIn_app (goodIn_of _ (by decide +kernel)) ggJ2_compress_39247_J2_compress_5af95
set_option maxRecDepth 20000 in
theorem ggJ2_compress_39247_J2_newBytesLength_0f7a4 : GoodIn wsJ2_compress_39247 wsJ2_newBytesLength_0f7a4 := goodIn_r _ [29, 30] (by decide +kernel) (by decide +kernel)
set_option maxRecDepth 20000 in
theorem gJ2_compress_39247_J2_newBytesLength_0f7a4 : GoodIn wsJ2_compress_39247 (va_wsS RJ2 11 yJ2_newBytesLength_0f7a4 wsJ2_newBytesLength_0f7a4) := goodIn_app (goodIn_of _ (by decide +kernel)) ggJ2_compress_39247_J2_newBytesLength_0f7a4
set_option maxRecDepth 20000 in
theorem ggJ2_compress_39247_J7_copyOfRange_39247 : GoodIn wsJ2_compress_39247 wsJ7_copyOfRange_39247 := goodIn_r _ [34, 35, 36, 37, 38, 39, 40, 41, 42, 33, 43, 1, 44, 45, 46, 47, 48, 49, 50, 51, 52, 53, 54, 55, 56, 57, 58, 59, 60, 61] (by decide +kernel) (by decide +kernel)
set_option maxRecDepth 20000 in
theorem gJ2_compress_39247_J7_copyOfRange_39247 : GoodIn wsJ2_compress_39247 (va_wsS RJ2 126 yJ7_copyOfRange_39247 wsJ7_copyOfRange_39247) := goodIn_app (goodIn_of _ (by decide +kernel)) ggJ2_compress_39247_J7_copyOfRange_39247
set_option maxRecDepth 20000 in
theorem ggJ2_compress_39247_J2_getChar_3b067 : GoodIn wsJ2_compress_39247 wsJ2_getChar_3b067 := goodIn_r _ [23, 24, 25, 26, 9, 10, 4, 11] (by decide +kernel) (by decide +kernel)
set_option maxRecDepth 20000 in
theorem gJ2_compress_39247_J2_getChar_3b067 : GoodIn wsJ2_compress_39247 (va_wsS RJ2 71 yJ2_getChar_3b067 wsJ2_getChar_3b067) := goodIn_app (goodIn_of _ (by decide +kernel)) ggJ2_compress_39247_J2_getChar_3b067
theorem dJ2_compress_39247_0 : decode cJ2_compress_39247 0 = .ok (.iload_n 2, 1) := by decide +kernel
theorem dJ2_compress_39247_1 : decode cJ2_compress_39247 1 = .ok (.newarray .byte, 2) := by decide +kernel
theorem dJ2_compress_39247_3 : decode cJ2_compress_39247 3 = .ok (.astore_n 3, 1) := by decide +kernel
theorem dJ2_compress_39247_4 : decode cJ2_compress_39247 4 = .ok (.aload_n 0, 1) := by decide +kernel
theorem dJ2_compress_39247_5 : decode cJ2_compress_39247 5 = .ok (.iload_n 1, 1) := by decide +kernel
theorem dJ2_compress_39247_6 : decode cJ2_compress_39247 6 = .ok (.aload_n 3, 1) := by decide +kernel
theorem dJ2_compress_39247_7 : decode cJ2_compress_39247 7 = .ok (.iconst 0, 1) := by decide +kernel
theorem dJ2_compress_39247_8 : decode cJ2_compress_39247 8 = .ok (.iload_n 2, 1) := by decide +kernel
theorem dJ2_compress_39247_9 : decode cJ2_compress_39247 9 = .ok (.invokestatic 123, 3) := by decide +kernel
theorem dJ2_compress_39247_12 : decode cJ2_compress_39247 12 = .ok (.istore 4, 2) := by decide +kernel
theorem dJ2_compress_39247_14 : decode cJ2_compress_39247 14 = .ok (.iload 4, 2) := by decide +kernel
theorem dJ2_compress_39247_16 : decode cJ2_compress_39247 16 = .ok (.iload_n 2, 1) := by decide +kernel
theorem dJ2_compress_39247_17 : decode cJ2_compress_39247 17 = .ok (.if_icmp .eq 47, 3) := by decide +kernel
theorem dJ2_compress_39247_20 : decode cJ2_compress_39247 20 = .ok (.aload_n 0, 1) := by decide +kernel
theorem dJ2_compress_39247_21 : decode cJ2_compress_39247 21 = .ok (.iload_n 1, 1) := by decide +kernel
theorem dJ2_compress_39247_22 : decode cJ2_compress_39247 22 = .ok (.iconst 1, 1) := by decide +kernel
theorem dJ2_compress_39247_23 : decode cJ2_compress_39247 23 = .ok (.ishl, 1) := by decide +kernel
theorem dJ2_compress_39247_24 : decode cJ2_compress_39247 24 = .ok (.iload_n 1, 1) := by decide +kernel
theorem dJ2_compress_39247_25 : decode cJ2_compress_39247 25 = .ok (.iload_n 2, 1) := by decide +kernel
theorem dJ2_compress_39247_26 : decode cJ2_compress_39247 26 = .ok (.iadd, 1) := by decide +kernel
theorem dJ2_compress_39247_27 : decode cJ2_compress_39247 27 = .ok (.invokestatic 11, 3) := by decide +kernel
theorem dJ2_compress_39247_30 : decode cJ2_compress_39247 30 = .ok (.invokestatic 126, 3) := by decide +kernel
theorem dJ2_compress_39247_33 : decode cJ2_compress_39247 33 = .ok (.astore 5, 2) := by decide +kernel
theorem dJ2_compress_39247_35 : decode cJ2_compress_39247 35 = .ok (.aload 5, 2) := by decide +kernel
theorem dJ2_compress_39247_37 : decode cJ2_compress_39247 37 = .ok (.iload 4, 2) := by decide +kernel
theorem dJ2_compress_39247_39 : decode cJ2_compress_39247 39 = .ok (.invokestatic 71, 3) := by decide +kernel
theorem dJ2_compress_39247_42 : decode cJ2_compress_39247 42 = .ok (.sipush 255, 3) := by decide +kernel
theorem dJ2_compress_39247_45 : decode cJ2_compress_39247 45 = .ok (.if_icmp .gt 16, 3) := by decide +kernel
theorem dJ2_compress_39247_48 : decode cJ2_compress_39247 48 = .ok (.aload 5, 2) := by decide +kernel
theorem dJ2_compress_39247_50 : decode cJ2_compress_39247 50 = .ok (.iconst 0, 1) := by decide +kernel
theorem dJ2_compress_39247_51 : decode cJ2_compress_39247 51 = .ok (.aload_n 3, 1) := by decide +kernel
theorem dJ2_compress_39247_52 : decode cJ2_compress_39247 52 = .ok (.iconst 0, 1) := by decide +kernel
theorem dJ2_compress_39247_53 : decode cJ2_compress_39247 53 = .ok (.iload_n 2, 1) := by decide +kernel
theorem dJ2_compress_39247_54 : decode cJ2_compress_39247 54 = .ok (.invokestatic 123, 3) := by decide +kernel
theorem dJ2_compress_39247_57 : decode cJ2_compress_39247 57 = .ok (.iload_n 2, 1) := by decide +kernel
theorem dJ2_compress_39247_58 : decode cJ2_compress_39247 58 = .ok (.if_icmp .eq 6, 3) := by decide +kernel
theorem dJ2_compress_39247_61 : decode cJ2_compress_39247 61 = .ok (.aload 5, 2) := by decide +kernel
theorem dJ2_compress_39247_63 : decode cJ2_compress_39247 63 = .ok (.areturn, 1) := by decide +kernel
theorem dJ2_compress_39247_64 : decode cJ2_compress_39247 64 = .ok (.aload_n 3, 1) := by decide +kernel
theorem dJ2_compress_39247_65 : decode cJ2_compress_39247 65 = .ok (.areturn, 1) := by decide +kernel
set_option maxRecDepth 20000 in
theorem ggJ2_compress_5af95_J2_checkBoundsOffCount_d044e : GoodIn wsJ2_compress_5af95 wsJ2_checkBoundsOffCount_d044e := goodIn_r _ [4, 5, 6, 3, 7, 8, 9, 10, 11, 12, 13, 14, 15, 16] (by decide +kernel) (by decide +kernel)
set_option maxRecDepth 20000 in
theorem gJ2_compress_5af95_J2_checkBoundsOffCount_d044e : GoodIn wsJ2_compress_5af95 (va_wsS RJ2 173 yJ2_checkBoundsOffCount_d044e wsJ2_checkBoundsOffCount_d044e) := goodIn_app (goodIn_of _ (by decide +kernel)) ggJ2_compress_5af95_J2_checkBoundsOffCount_d044e
set_option maxRecDepth 20000 in
theorem ggJ2_compress_5af95_J2_getChar_3b067 : GoodIn wsJ2_compress_5af95 wsJ2_getChar_3b067 := goodIn_r _ [19, 20, 21, 22, 5, 6, 3, 7] (by decide +kernel) (by decide +kernel)
set_option maxRecDepth 20000 in
theorem gJ2_compress_5af95_J2_getChar_3b067 : GoodIn wsJ2_compress_5af95 (va_wsS RJ2 71 yJ2_getChar_3b067 wsJ2_getChar_3b067) := goodIn_app (goodIn_of _ (by decide +kernel)) ggJ2_compress_5af95_J2_getChar_3b067
theorem dJ2_compress_5af95_0 : decode cJ2_compress_5af95 0 = .ok (.iload_n 1, 1) := by decide +kernel
theorem dJ2_compress_5af95_1 : decode cJ2_compress_5af95 1 = .ok (.iload 4, 2) := by decide +kernel
theorem dJ2_compress_5af95_3 : decode cJ2_compress_5af95 3 = .ok (.aload_n 0, 1) := by decide +kernel
theorem dJ2_compress_5af95_4 : decode cJ2_compress_5af95 4 = .ok (.invokestatic 173, 3) := by decide +kernel
theorem dJ2_compress_5af95_7 : decode cJ2_compress_5af95 7 = .ok (.iconst 0, 1) := by decide +kernel
theorem dJ2_compress_5af95_8 : decode cJ2_compress_5af95 8 = .ok (.istore 5, 2) := by decide +kernel
theorem dJ2_compress_5af95_10 : decode cJ2_compress_5af95 10 = .ok (.iload 5, 2) := by decide +kernel
theorem dJ2_compress_5af95_12 : decode cJ2_compress_5af95 12 = .ok (.iload 4, 2) := by decide +kernel
theorem dJ2_compress_5af95_14 : decode cJ2_compress_5af95 14 = .ok (.if_icmp .ge 39, 3) := by decide +kernel
theorem dJ2_compress_5af95_17 : decode cJ2_compress_5af95 17 = .ok (.aload_n 0, 1) := by decide +kernel
theorem dJ2_compress_5af95_18 : decode cJ2_compress_5af95 18 = .ok (.iload_n 1, 1) := by decide +kernel
theorem dJ2_compress_5af95_19 : decode cJ2_compress_5af95 19 = .ok (.invokestatic 71, 3) := by decide +kernel
theorem dJ2_compress_5af95_22 : decode cJ2_compress_5af95 22 = .ok (.istore 6, 2) := by decide +kernel
theorem dJ2_compress_5af95_24 : decode cJ2_compress_5af95 24 = .ok (.iload 6, 2) := by decide +kernel
theorem dJ2_compress_5af95_26 : decode cJ2_compress_5af95 26 = .ok (.sipush 255, 3) := by decide +kernel
theorem dJ2_compress_5af95_29 : decode cJ2_compress_5af95 29 = .ok (.if_icmp .le 6, 3) := by decide +kernel
theorem dJ2_compress_5af95_32 : decode cJ2_compress_5af95 32 = .ok (.iload 5, 2) := by decide +kernel
theorem dJ2_compress_5af95_34 : decode cJ2_compress_5af95 34 = .ok (.ireturn, 1) := by decide +kernel
theorem dJ2_compress_5af95_35 : decode cJ2_compress_5af95 35 = .ok (.aload_n 2, 1) := by decide +kernel
theorem dJ2_compress_5af95_36 : decode cJ2_compress_5af95 36 = .ok (.iload_n 3, 1) := by decide +kernel
theorem dJ2_compress_5af95_37 : decode cJ2_compress_5af95 37 = .ok (.iload 6, 2) := by decide +kernel
theorem dJ2_compress_5af95_39 : decode cJ2_compress_5af95 39 = .ok (.i2b, 1) := by decide +kernel
theorem dJ2_compress_5af95_40 : decode cJ2_compress_5af95 40 = .ok (.bastore, 1) := by decide +kernel
theorem dJ2_compress_5af95_41 : decode cJ2_compress_5af95 41 = .ok (.iinc 1 1, 3) := by decide +kernel
theorem dJ2_compress_5af95_44 : decode cJ2_compress_5af95 44 = .ok (.iinc 3 1, 3) := by decide +kernel
theorem dJ2_compress_5af95_47 : decode cJ2_compress_5af95 47 = .ok (.iinc 5 1, 3) := by decide +kernel
theorem dJ2_compress_5af95_50 : decode cJ2_compress_5af95 50 = .ok (.goto (-40), 3) := by decide +kernel
theorem dJ2_compress_5af95_53 : decode cJ2_compress_5af95 53 = .ok (.iload 4, 2) := by decide +kernel
theorem dJ2_compress_5af95_55 : decode cJ2_compress_5af95 55 = .ok (.ireturn, 1) := by decide +kernel
set_option maxRecDepth 20000 in
theorem ggJ2_putChars_03870_J2_putChar_b72d1 : GoodIn wsJ2_putChars_03870 wsJ2_putChar_b72d1 := goodIn_r _ [4, 5, 6, 7, 8, 9, 3, 10] (by decide +kernel) (by decide +kernel)
set_option maxRecDepth 20000 in
theorem gJ2_putChars_03870_J2_putChar_b72d1 : GoodIn wsJ2_putChars_03870 (va_wsS RJ2 111 yJ2_putChar_b72d1 wsJ2_putChar_b72d1) := goodIn_app (goodIn_of _ (by decide +kernel)) ggJ2_putChars_03870_J2_putChar_b72d1
theorem dJ2_putChars_03870_0 : decode cJ2_putChars_03870 0 = .ok (.iload_n 3, 1) := by decide +kernel
theorem dJ2_putChars_03870_1 : decode cJ2_putChars_03870 1 = .ok (.iload 4, 2) := by decide +kernel
theorem dJ2_putChars_03870_3 : decode cJ2_putChars_03870 3 = .ok (.if_icmp .ge 20, 3) := by decide +kernel
theorem dJ2_putChars_03870_6 : decode cJ2_putChars_03870 6 = .ok (.aload_n 0, 1) := by decide +kernel
theorem dJ2_putChars_03870_7 : decode cJ2_putChars_03870 7 = .ok (.iload_n 1, 1) := by decide +kernel
theorem dJ2_putChars_03870_8 : decode cJ2_putChars_03870 8 = .ok (.iinc 1 1, 3) := by decide +kernel
theorem dJ2_putChars_03870_11 : decode cJ2_putChars_03870 11 = .ok (.aload_n 2, 1) := by decide +kernel
theorem dJ2_putChars_03870_12 : decode cJ2_putChars_03870 12 = .ok (.iload_n 3, 1) := by decide +kernel
theorem dJ2_putChars_03870_13 : decode cJ2_putChars_03870 13 = .ok (.iinc 3 1, 3) := by decide +kernel
theorem dJ2_putChars_03870_16 : decode cJ2_putChars_03870 16 = .ok (.caload, 1) := by decide +kernel
theorem dJ2_putChars_03870_17 : decode cJ2_putChars_03870 17 = .ok (.invokestatic 111, 3) := by decide +kernel
theorem dJ2_putChars_03870_20 : decode cJ2_putChars_03870 20 = .ok (.goto (-20), 3) := by decide +kernel
theorem dJ2_putChars_03870_23 : decode cJ2_putChars_03870 23 = .ok (.return_, 1) := by decide +kernel
set_option maxRecDepth 20000 in
theorem ggJ2_fillNull_b72d1_J7_fill_eb02e : GoodIn wsJ2_fillNull_b72d1 wsJ7_fill_eb02e := goodIn_r _ [4, 5, 6, 3, 7, 8, 9, 10, 11, 12, 13, 14, 15, 16, 17, 18, 19, 20, 21, 22, 23] (by decide +kernel) (by decide +kernel)
set_option maxRecDepth 20000 in
theorem gJ2_fillNull_b72d1_J7_fill_eb02e : GoodIn wsJ2_fillNull_b72d1 (va_wsS RJ2 380 yJ7_fill_eb02e wsJ7_fill_eb02e) := goodIn_app (goodIn_of _ (by decide +kernel)) ggJ2_fillNull_b72d1_J7_fill_eb02e
theorem dJ2_fillNull_b72d1_0 : decode cJ2_fillNull_b72d1 0 = .ok (.aload_n 0, 1) := by decide +kernel
theorem dJ2_fillNull_b72d1_1 : decode cJ2_fillNull_b72d1 1 = .ok (.iload_n 1, 1) := by decide +kernel
theorem dJ2_fillNull_b72d1_2 : decode cJ2_fillNull_b72d1 2 = .ok (.iconst 1, 1) := by decide +kernel
theorem dJ2_fillNull_b72d1_3 : decode cJ2_fillNull_b72d1 3 = .ok (.ishl, 1) := by decide +kernel
theorem dJ2_fillNull_b72d1_4 : decode cJ2_fillNull_b72d1 4 = .ok (.iload_n 2, 1) := by decide +kernel
theorem dJ2_fillNull_b72d1_5 : decode cJ2_fillNull_b72d1 5 = .ok (.iconst 1, 1) := by decide +kernel
theorem dJ2_fillNull_b72d1_6 : decode cJ2_fillNull_b72d1 6 = .ok (.ishl, 1) := by decide +kernel
theorem dJ2_fillNull_b72d1_7 : decode cJ2_fillNull_b72d1 7 = .ok (.iconst 0, 1) := by decide +kernel
theorem dJ2_fillNull_b72d1_8 : decode cJ2_fillNull_b72d1 8 = .ok (.invokestatic 380, 3) := by decide +kernel
theorem dJ2_fillNull_b72d1_11 : decode cJ2_fillNull_b72d1 11 = .ok (.return_, 1) := by decide +kernel
set_option maxRecDepth 20000 in
theorem ggJ2_putCharSB_b72d1_J2_checkIndex_2214a : GoodIn wsJ2_putCharSB_b72d1 wsJ2_checkIndex_2214a := goodIn_r _ [4, 5, 6, 3, 7, 8, 9, 10, 11, 12, 13, 14, 15, 16] (by decide +kernel) (by decide +kernel)
set_option maxRecDepth 20000 in
theorem gJ2_putCharSB_b72d1_J2_checkIndex_2214a : GoodIn wsJ2_putCharSB_b72d1 (va_wsS RJ2 67 yJ2_checkIndex_2214a wsJ2_checkIndex_2214a) := goodIn_app (goodIn_of _ (by decide +kernel)) ggJ2_putCharSB_b72d1_J2_checkIndex_2214a
set_option maxRecDepth 20000 in
theorem ggJ2_putCharSB_b72d1_J2_putChar_b72d1 : GoodIn wsJ2_putCharSB_b72d1 wsJ2_putChar_b72d1 := goodIn_r _ [19, 20, 21, 22, 5, 6, 3, 7] (by decide +kernel) (by decide +kernel)
set_option maxRecDepth 20000 in
theorem gJ2_putCharSB_b72d1_J2_putChar_b72d1 : GoodIn wsJ2_putCharSB_b72d1 (va_wsS RJ2 111 yJ2_putChar_b72d1 wsJ2_putChar_b72d1) := goodIn_app (goodIn_of _ (by decide +kernel)) ggJ2_putCharSB_b72d1_J2_putChar_b72d1
theorem dJ2_putCharSB_b72d1_0 : decode cJ2_putCharSB_b72d1 0 = .ok (.iload_n 1, 1) := by decide +kernel
theorem dJ2_putCharSB_b72d1_1 : decode cJ2_putCharSB_b72d1 1 = .ok (.aload_n 0, 1) := by decide +kernel
theorem dJ2_putCharSB_b72d1_2 : decode cJ2_putCharSB_b72d1 2 = .ok (.invokestatic 67, 3) := by decide +kernel
theorem dJ2_putCharSB_b72d1_5 : decode cJ2_putCharSB_b72d1 5 = .ok (.aload_n 0, 1) := by decide +kernel
theorem dJ2_putCharSB_b72d1_6 : decode cJ2_putCharSB_b72d1 6 = .ok (.iload_n 1, 1) := by decide +kernel
theorem dJ2_putCharSB_b72d1_7 : decode cJ2_putCharSB_b72d1 7 = .ok (.iload_n 2, 1) := by decide +kernel
theorem dJ2_putCharSB_b72d1_8 : decode cJ2_putCharSB_b72d1 8 = .ok (.invokestatic 111, 3) := by decide +kernel
theorem dJ2_putCharSB_b72d1_11 : decode cJ2_putCharSB_b72d1 11 = .ok (.return_, 1) := by decide +kernel
set_option maxRecDepth 20000 in
theorem ggJ2_putCharsSB_03870_J2_checkBoundsBeginEnd_d044e : GoodIn wsJ2_putCharsSB_03870 wsJ2_checkBoundsBeginEnd_d044e := goodIn_r _ [4, 5, 6, 3, 7, 8, 9, 10, 11, 12, 13, 14, 15, 16] (by decide +kernel) (by decide +kernel)
set_option maxRecDepth 20000 in
theorem gJ2_putCharsSB_03870_J2_checkBoundsBeginEnd_d044e : GoodIn wsJ2_putCharsSB_03870 (va_wsS RJ2 96 yJ2_checkBoundsBeginEnd_d044e wsJ2_checkBoundsBeginEnd_d044e) := goodIn_app (goodIn_of _ (by decide +kernel)) ggJ2_putCharsSB_03870_J2_checkBoundsBeginEnd_d044e
set_option maxRecDepth 20000 in
theorem ggJ2_putCharsSB_03870_J2_putChars_03870 : GoodIn wsJ2_putCharsSB_03870 wsJ2_putChars_03870 := goodIn_r _ [19, 20, 21, 3, 22, 23, 24, 25, 5, 6, 7] (by decide +kernel) (by decide +kernel)
set_option maxRecDepth 20000 in
theorem gJ2_putCharsSB_03870_J2_putChars_03870 : GoodIn wsJ2_putCharsSB_03870 (va_wsS RJ2 384 yJ2_putChars_03870 wsJ2_putChars_03870) := goodIn_app (goodIn_of _ (by decide +kernel)) ggJ2_putCharsSB_03870_J2_putChars_03870
theorem dJ2_putCharsSB_03870_0 : decode cJ2_putCharsSB_03870 0 = .ok (.iload_n 1, 1) := by decide +kernel
theorem dJ2_putCharsSB_03870_1 : decode cJ2_putCharsSB_03870 1 = .ok (.iload_n 1, 1) := by decide +kernel
theorem dJ2_putCharsSB_03870_2 : decode cJ2_putCharsSB_03870 2 = .ok (.iload 4, 2) := by decide +kernel
theorem dJ2_putCharsSB_03870_4 : decode cJ2_putCharsSB_03870 4 = .ok (.iadd, 1) := by decide +kernel
theorem dJ2_putCharsSB_03870_5 : decode cJ2_putCharsSB_03870 5 = .ok (.iload_n 3, 1) := by decide +kernel
theorem dJ2_putCharsSB_03870_6 : decode cJ2_putCharsSB_03870 6 = .ok (.isub, 1) := by decide +kernel
theorem dJ2_putCharsSB_03870_7 : decode cJ2_putCharsSB_03870 7 = .ok (.aload_n 0, 1) := by decide +kernel
theorem dJ2_putCharsSB_03870_8 : decode cJ2_putCharsSB_03870 8 = .ok (.invokestatic 96, 3) := by decide +kernel
theorem dJ2_putCharsSB_03870_11 : decode cJ2_putCharsSB_03870 11 = .ok (.aload_n 0, 1) := by decide +kernel
theorem dJ2_putCharsSB_03870_12 : decode cJ2_putCharsSB_03870 12 = .ok (.iload_n 1, 1) := by decide +kernel
theorem dJ2_putCharsSB_03870_13 : decode cJ2_putCharsSB_03870 13 = .ok (.aload_n 2, 1) := by decide +kernel
theorem dJ2_putCharsSB_03870_14 : decode cJ2_putCharsSB_03870 14 = .ok (.iload_n 3, 1) := by decide +kernel
theorem dJ2_putCharsSB_03870_15 : decode cJ2_putCharsSB_03870 15 = .ok (.iload 4, 2) := by decide +kernel
theorem dJ2_putCharsSB_03870_17 : decode cJ2_putCharsSB_03870 17 = .ok (.invokestatic 384, 3) := by decide +kernel
theorem dJ2_putCharsSB_03870_20 : decode cJ2_putCharsSB_03870 20 = .ok (.return_, 1) := by decide +kernel
set_option maxRecDepth 20000 in
theorem ggJ2_putCharsSB_8fd6a_J2_checkBoundsBeginEnd_d044e : GoodIn wsJ2_putCharsSB_8fd6a wsJ2_checkBoundsBeginEnd_d044e := goodIn_r _ [4, 5, 6, 3, 7, 8, 9, 10, 11, 12, 13, 14, 15, 16] (by decide +kernel) (by decide +kernel)
set_option maxRecDepth 20000 in
theorem gJ2_putCharsSB_8fd6a_J2_checkBoundsBeginEnd_d044e : GoodIn wsJ2_putCharsSB_8fd6a (va_wsS RJ2 96 yJ2_checkBoundsBeginEnd_d044e wsJ2_checkBoundsBeginEnd_d044e) := goodIn_app (goodIn_of _ (by decide +kernel)) ggJ2_putCharsSB_8fd6a_J2_checkBoundsBeginEnd_d044e
set_option maxRecDepth 20000 in
theorem ggJ2_putCharsSB_8fd6a_J0_charAt_5068e : GoodIn wsJ2_putCharsSB_8fd6a wsJ0_charAt_5068e := goodIn_r _ [20, 21, 22, 23, 24, 10, 25, 26, 27, 28, 29, 30, 31, 32, 33, 34, 12, 35, 36, 15, 37, 38, 39, 3, 40, 41, 42, 43, 5, 6, 7, 44, 45, 46, 47, 48, 49, 50, 73, 74, 75, 76] (by decide +kernel) (by decide +kernel)
set_option maxRecDepth 20000 in
theorem gJ2_putCharsSB_8fd6a_J0_charAt_5068e_f388J0 : GoodIn wsJ2_putCharsSB_8fd6a (va_wsF RJ2 388 RJ0 ⟨"java/lang/CharSequence", "charAt", "(I)C"⟩ yJ0_charAt_5068e wsJ0_charAt_5068e) := goodIn_app (goodIn_of _ (by decide +kernel)) ggJ2_putCharsSB_8fd6a_J0_charAt_5068e
set_option maxRecDepth 20000 in
theorem ggJ2_putCharsSB_8fd6a_J4_charAt_5068e : GoodIn wsJ2_putCharsSB_8fd6a wsJ4_charAt_5068e := goodIn_r _ [54, 55, 56, 57, 58, 59, 60, 61, 62, 63, 64, 65, 66, 67, 68, 33, 10, 34, 12, 35, 36, 15, 37, 69, 46, 3, 47, 48, 49, 50, 5, 6, 7, 77, 78, 79, 80] (by decide +kernel) (by decide +kernel)
set_option maxRecDepth 20000 in
theorem gJ2_putCharsSB_8fd6a_J4_charAt_5068e_f388J4 : GoodIn wsJ2_putCharsSB_8fd6a (va_wsF RJ2 388 RJ4 ⟨"java/lang/CharSequence", "charAt", "(I)C"⟩ yJ4_charAt_5068e wsJ4_charAt_5068e) := goodIn_app (goodIn_of _ (by decide +kernel)) ggJ2_putCharsSB_8fd6a_J4_charAt_5068e
set_option maxRecDepth 20000 in
theorem ggJ2_putCharsSB_8fd6a_J2_putChar_b72d1 : GoodIn wsJ2_putCharsSB_8fd6a wsJ2_putChar_b72d1 := goodIn_r _ [72, 48, 49, 50, 5, 6, 3, 7] (by decide +kernel) (by decide +kernel)
set_option maxRecDepth 20000 in
theorem gJ2_putCharsSB_8fd6a_J2_putChar_b72d1 : GoodIn wsJ2_putCharsSB_8fd6a (va_wsS RJ2 111 yJ2_putChar_b72d1 wsJ2_putChar_b72d1) := goodIn_app (goodIn_of _ (by decide +kernel)) ggJ2_putCharsSB_8fd6a_J2_putChar_b72d1
theorem dJ2_putCharsSB_8fd6a_0 : decode cJ2_putCharsSB_8fd6a 0 = .ok (.iload_n 1, 1) := by decide +kernel
theorem dJ2_putCharsSB_8fd6a_1 : decode cJ2_putCharsSB_8fd6a 1 = .ok (.iload_n 1, 1) := by decide +kernel
theorem dJ2_putCharsSB_8fd6a_2 : decode cJ2_putCharsSB_8fd6a 2 = .ok (.iload 4, 2) := by decide +kernel
theorem dJ2_putCharsSB_8fd6a_4 : decode cJ2_putCharsSB_8fd6a 4 = .ok (.iadd, 1) := by decide +kernel
theorem dJ2_putCharsSB_8fd6a_5 : decode cJ2_putCharsSB_8fd6a 5 = .ok (.iload_n 3, 1) := by decide +kernel
theorem dJ2_putCharsSB_8fd6a_6 : decode cJ2_putCharsSB_8fd6a 6 = .ok (.isub, 1) := by decide +kernel
theorem dJ2_putCharsSB_8fd6a_7 : decode cJ2_putCharsSB_8fd6a 7 = .ok (.aload_n 0, 1) := by decide +kernel
theorem dJ2_putCharsSB_8fd6a_8 : decode cJ2_putCharsSB_8fd6a 8 = .ok (.invokestatic 96, 3) := by decide +kernel
theorem dJ2_putCharsSB_8fd6a_11 : decode cJ2_putCharsSB_8fd6a 11 = .ok (.iload_n 3, 1) := by decide +kernel
theorem dJ2_putCharsSB_8fd6a_12 : decode cJ2_putCharsSB_8fd6a 12 = .ok (.istore 5, 2) := by decide +kernel
theorem dJ2_putCharsSB_8fd6a_14 : decode cJ2_putCharsSB_8fd6a 14 = .ok (.iload 5, 2) := by decide +kernel
theorem dJ2_putCharsSB_8fd6a_16 : decode cJ2_putCharsSB_8fd6a 16 = .ok (.iload 4, 2) := by decide +kernel
theorem dJ2_putCharsSB_8fd6a_18 : decode cJ2_putCharsSB_8fd6a 18 = .ok (.if_icmp .ge 25, 3) := by decide +kernel
theorem dJ2_putCharsSB_8fd6a_21 : decode cJ2_putCharsSB_8fd6a 21 = .ok (.aload_n 0, 1) := by decide +kernel
theorem dJ2_putCharsSB_8fd6a_22 : decode cJ2_putCharsSB_8fd6a 22 = .ok (.iload_n 1, 1) := by decide +kernel
theorem dJ2_putCharsSB_8fd6a_23 : decode cJ2_putCharsSB_8fd6a 23 = .ok (.iinc 1 1, 3) := by decide +kernel
theorem dJ2_putCharsSB_8fd6a_26 : decode cJ2_putCharsSB_8fd6a 26 = .ok (.aload_n 2, 1) := by decide +kernel
theorem dJ2_putCharsSB_8fd6a_27 : decode cJ2_putCharsSB_8fd6a 27 = .ok (.iload 5, 2) := by decide +kernel
theorem dJ2_putCharsSB_8fd6a_29 : decode cJ2_putCharsSB_8fd6a 29 = .ok (.invokeinterface 388 2, 5) := by decide +kernel
theorem dJ2_putCharsSB_8fd6a_34 : decode cJ2_putCharsSB_8fd6a 34 = .ok (.invokestatic 111, 3) := by decide +kernel
theorem dJ2_putCharsSB_8fd6a_37 : decode cJ2_putCharsSB_8fd6a 37 = .ok (.iinc 5 1, 3) := by decide +kernel
theorem dJ2_putCharsSB_8fd6a_40 : decode cJ2_putCharsSB_8fd6a 40 = .ok (.goto (-26), 3) := by decide +kernel
theorem dJ2_putCharsSB_8fd6a_43 : decode cJ2_putCharsSB_8fd6a 43 = .ok (.return_, 1) := by decide +kernel
set_option maxRecDepth 20000 in
theorem ggJ2_getChars_46870_J2_checkBoundsBeginEnd_d044e : GoodIn wsJ2_getChars_46870 wsJ2_checkBoundsBeginEnd_d044e := goodIn_r _ [5, 6, 7, 4, 8, 9, 10, 11, 12, 13, 14, 15, 16, 17] (by decide +kernel) (by decide +kernel)
set_option maxRecDepth 20000 in
theorem gJ2_getChars_46870_J2_checkBoundsBeginEnd_d044e : GoodIn wsJ2_getChars_46870 (va_wsS RJ2 96 yJ2_checkBoundsBeginEnd_d044e wsJ2_checkBoundsBeginEnd_d044e) := goodIn_app (goodIn_of _ (by decide +kernel)) ggJ2_getChars_46870_J2_checkBoundsBeginEnd_d044e
set_option maxRecDepth 20000 in
theorem ggJ2_getChars_46870_J2_getChars_ba4f3 : GoodIn wsJ2_getChars_46870 wsJ2_getChars_ba4f3 := goodIn_r _ [20, 21, 22, 23, 24, 4, 25, 1, 26, 27, 6, 7, 8] (by decide +kernel) (by decide +kernel)
set_option maxRecDepth 20000 in
theorem gJ2_getChars_46870_J2_getChars_ba4f3 : GoodIn wsJ2_getChars_46870 (va_wsS RJ2 393 yJ2_getChars_ba4f3 wsJ2_getChars_ba4f3) := goodIn_app (goodIn_of _ (by decide +kernel)) ggJ2_getChars_46870_J2_getChars_ba4f3
theorem dJ2_getChars_46870_0 : decode cJ2_getChars_46870 0 = .ok (.iload_n 1, 1) := by decide +kernel
theorem dJ2_getChars_46870_1 : decode cJ2_getChars_46870 1 = .ok (.iload_n 2, 1) := by decide +kernel
theorem dJ2_getChars_46870_2 : decode cJ2_getChars_46870 2 = .ok (.aload_n 3, 1) := by decide +kernel
theorem dJ2_getChars_46870_3 : decode cJ2_getChars_46870 3 = .ok (.invokestatic 96, 3) := by decide +kernel
theorem dJ2_getChars_46870_6 : decode cJ2_getChars_46870 6 = .ok (.iload_n 0, 1) := by decide +kernel
theorem dJ2_getChars_46870_7 : decode cJ2_getChars_46870 7 = .ok (.iload_n 2, 1) := by decide +kernel
theorem dJ2_getChars_46870_8 : decode cJ2_getChars_46870 8 = .ok (.aload_n 3, 1) := by decide +kernel
theorem dJ2_getChars_46870_9 : decode cJ2_getChars_46870 9 = .ok (.invokestatic 393, 3) := by decide +kernel
theorem dJ2_getChars_46870_12 : decode cJ2_getChars_46870 12 = .ok (.istore 4, 2) := by decide +kernel
theorem dJ2_getChars_46870_14 : decode cJ2_getChars_46870 14 = .ok (.getstatic 44, 3) := by decide +kernel
theorem dJ2_getChars_46870_17 : decode cJ2_getChars_46870 17 = .ok (.ifCond .ne 17, 3) := by decide +kernel
theorem dJ2_getChars_46870_20 : decode cJ2_getChars_46870 20 = .ok (.iload_n 1, 1) := by decide +kernel
theorem dJ2_getChars_46870_21 : decode cJ2_getChars_46870 21 = .ok (.iload 4, 2) := by decide +kernel
theorem dJ2_getChars_46870_23 : decode cJ2_getChars_46870 23 = .ok (.if_icmp .eq 11, 3) := by decide +kernel
theorem dJ2_getChars_46870_26 : decode cJ2_getChars_46870 26 = .ok (.new 52, 3) := by decide +kernel
theorem dJ2_getChars_46870_29 : decode cJ2_getChars_46870 29 = .ok (.dup, 1) := by decide +kernel
theorem dJ2_getChars_46870_30 : decode cJ2_getChars_46870 30 = .ok (.invokespecial 66, 3) := by decide +kernel
theorem dJ2_getChars_46870_33 : decode cJ2_getChars_46870 33 = .ok (.athrow, 1) := by decide +kernel
theorem dJ2_getChars_46870_34 : decode cJ2_getChars_46870 34 = .ok (.iload 4, 2) := by decide +kernel
theorem dJ2_getChars_46870_36 : decode cJ2_getChars_46870 36 = .ok (.ireturn, 1) := by decide +kernel
set_option maxRecDepth 20000 in
theorem ggJ2_getChars_1ba55_J2_checkBoundsBeginEnd_d044e : GoodIn wsJ2_getChars_1ba55 wsJ2_checkBoundsBeginEnd_d044e := goodIn_r _ [5, 6, 7, 4, 8, 9, 10, 11, 12, 13, 14, 15, 16, 17] (by decide +kernel) (by decide +kernel)
set_option maxRecDepth 20000 in
theorem gJ2_getChars_1ba55_J2_checkBoundsBeginEnd_d044e : GoodIn wsJ2_getChars_1ba55 (va_wsS RJ2 96 yJ2_checkBoundsBeginEnd_d044e wsJ2_checkBoundsBeginEnd_d044e) := goodIn_app (goodIn_of _ (by decide +kernel)) ggJ2_getChars_1ba55_J2_checkBoundsBeginEnd_d044e
set_option maxRecDepth 20000 in
theorem ggJ2_getChars_1ba55_J2_getChars_11360 : GoodIn wsJ2_getChars_1ba55 wsJ2_getChars_11360 := goodIn_r _ [20, 21, 22, 23, 24, 25, 26, 4, 27, 1, 28, 29, 6, 7, 8] (by decide +kernel) (by decide +kernel)
set_option maxRecDepth 20000 in
theorem gJ2_getChars_1ba55_J2_getChars_11360 : GoodIn wsJ2_getChars_1ba55 (va_wsS RJ2 396 yJ2_getChars_11360 wsJ2_getChars_11360) := goodIn_app (goodIn_of _ (by decide +kernel)) ggJ2_getChars_1ba55_J2_getChars_11360
theorem dJ2_getChars_1ba55_0 : decode cJ2_getChars_1ba55 0 = .ok (.iload_n 2, 1) := by decide +kernel
theorem dJ2_getChars_1ba55_1 : decode cJ2_getChars_1ba55 1 = .ok (.iload_n 3, 1) := by decide +kernel
theorem dJ2_getChars_1ba55_2 : decode cJ2_getChars_1ba55 2 = .ok (.aload 4, 2) := by decide +kernel
theorem dJ2_getChars_1ba55_4 : decode cJ2_getChars_1ba55 4 = .ok (.invokestatic 96, 3) := by decide +kernel
theorem dJ2_getChars_1ba55_7 : decode cJ2_getChars_1ba55 7 = .ok (.lload_n 0, 1) := by decide +kernel
theorem dJ2_getChars_1ba55_8 : decode cJ2_getChars_1ba55 8 = .ok (.iload_n 3, 1) := by decide +kernel
theorem dJ2_getChars_1ba55_9 : decode cJ2_getChars_1ba55 9 = .ok (.aload 4, 2) := by decide +kernel
theorem dJ2_getChars_1ba55_11 : decode cJ2_getChars_1ba55 11 = .ok (.invokestatic 396, 3) := by decide +kernel
theorem dJ2_getChars_1ba55_14 : decode cJ2_getChars_1ba55 14 = .ok (.istore 5, 2) := by decide +kernel
theorem dJ2_getChars_1ba55_16 : decode cJ2_getChars_1ba55 16 = .ok (.getstatic 44, 3) := by decide +kernel
theorem dJ2_getChars_1ba55_19 : decode cJ2_getChars_1ba55 19 = .ok (.ifCond .ne 17, 3) := by decide +kernel
theorem dJ2_getChars_1ba55_22 : decode cJ2_getChars_1ba55 22 = .ok (.iload_n 2, 1) := by decide +kernel
theorem dJ2_getChars_1ba55_23 : decode cJ2_getChars_1ba55 23 = .ok (.iload 5, 2) := by decide +kernel
theorem dJ2_getChars_1ba55_25 : decode cJ2_getChars_1ba55 25 = .ok (.if_icmp .eq 11, 3) := by decide +kernel
theorem dJ2_getChars_1ba55_28 : decode cJ2_getChars_1ba55 28 = .ok (.new 52, 3) := by decide +kernel
theorem dJ2_getChars_1ba55_31 : decode cJ2_getChars_1ba55 31 = .ok (.dup, 1) := by decide +kernel
theorem dJ2_getChars_1ba55_32 : decode cJ2_getChars_1ba55 32 = .ok (.invokespecial 66, 3) := by decide +kernel
theorem dJ2_getChars_1ba55_35 : decode cJ2_getChars_1ba55 35 = .ok (.athrow, 1) := by decide +kernel
theorem dJ2_getChars_1ba55_36 : decode cJ2_getChars_1ba55 36 = .ok (.iload 5, 2) := by decide +kernel
theorem dJ2_getChars_1ba55_38 : decode cJ2_getChars_1ba55 38 = .ok (.ireturn, 1) := by decide +kernel
set_option maxRecDepth 20000 in
theorem ggJ2_putCharsAt_cd4e5_J2_checkBoundsBeginEnd_d044e : GoodIn wsJ2_putCharsAt_cd4e5 wsJ2_checkBoundsBeginEnd_d044e := goodIn_r _ [5, 6, 7, 4, 8, 9, 10, 11, 12, 13, 14, 15, 16, 17] (by decide +kernel) (by decide +kernel)
set_option maxRecDepth 20000 in
theorem gJ2_putCharsAt_cd4e5_J2_checkBoundsBeginEnd_d044e : GoodIn wsJ2_putCharsAt_cd4e5 (va_wsS RJ2 96 yJ2_checkBoundsBeginEnd_d044e wsJ2_checkBoundsBeginEnd_d044e) := goodIn_app (goodIn_of _ (by decide +kernel)) ggJ2_putCharsAt_cd4e5_J2_checkBoundsBeginEnd_d044e
set_option maxRecDepth 20000 in
theorem ggJ2_putCharsAt_cd4e5_J2_putChar_b72d1 : GoodIn wsJ2_putCharsAt_cd4e5 wsJ2_putChar_b72d1 := goodIn_r _ [20, 1, 21, 22, 6, 7, 4, 8] (by decide +kernel) (by decide +kernel)
set_option maxRecDepth 20000 in
theorem gJ2_putCharsAt_cd4e5_J2_putChar_b72d1 : GoodIn wsJ2_putCharsAt_cd4e5 (va_wsS RJ2 111 yJ2_putChar_b72d1 wsJ2_putChar_b72d1) := goodIn_app (goodIn_of _ (by decide +kernel)) ggJ2_putCharsAt_cd4e5_J2_putChar_b72d1
theorem dJ2_putCharsAt_cd4e5_0 : decode cJ2_putCharsAt_cd4e5 0 = .ok (.iload_n 1, 1) := by decide +kernel
theorem dJ2_putCharsAt_cd4e5_1 : decode cJ2_putCharsAt_cd4e5 1 = .ok (.iconst 4, 1) := by decide +kernel
theorem dJ2_putCharsAt_cd4e5_2 : decode cJ2_putCharsAt_cd4e5 2 = .ok (.iadd, 1) := by decide +kernel
theorem dJ2_putCharsAt_cd4e5_3 : decode cJ2_putCharsAt_cd4e5 3 = .ok (.istore 6, 2) := by decide +kernel
theorem dJ2_putCharsAt_cd4e5_5 : decode cJ2_putCharsAt_cd4e5 5 = .ok (.iload_n 1, 1) := by decide +kernel
theorem dJ2_putCharsAt_cd4e5_6 : decode cJ2_putCharsAt_cd4e5 6 = .ok (.iload 6, 2) := by decide +kernel
theorem dJ2_putCharsAt_cd4e5_8 : decode cJ2_putCharsAt_cd4e5 8 = .ok (.aload_n 0, 1) := by decide +kernel
theorem dJ2_putCharsAt_cd4e5_9 : decode cJ2_putCharsAt_cd4e5 9 = .ok (.invokestatic 96, 3) := by decide +kernel
theorem dJ2_putCharsAt_cd4e5_12 : decode cJ2_putCharsAt_cd4e5 12 = .ok (.aload_n 0, 1) := by decide +kernel
theorem dJ2_putCharsAt_cd4e5_13 : decode cJ2_putCharsAt_cd4e5 13 = .ok (.iload_n 1, 1) := by decide +kernel
theorem dJ2_putCharsAt_cd4e5_14 : decode cJ2_putCharsAt_cd4e5 14 = .ok (.iinc 1 1, 3) := by decide +kernel
theorem dJ2_putCharsAt_cd4e5_17 : decode cJ2_putCharsAt_cd4e5 17 = .ok (.iload_n 2, 1) := by decide +kernel
theorem dJ2_putCharsAt_cd4e5_18 : decode cJ2_putCharsAt_cd4e5 18 = .ok (.invokestatic 111, 3) := by decide +kernel
theorem dJ2_putCharsAt_cd4e5_21 : decode cJ2_putCharsAt_cd4e5 21 = .ok (.aload_n 0, 1) := by decide +kernel
theorem dJ2_putCharsAt_cd4e5_22 : decode cJ2_putCharsAt_cd4e5 22 = .ok (.iload_n 1, 1) := by decide +kernel
theorem dJ2_putCharsAt_cd4e5_23 : decode cJ2_putCharsAt_cd4e5 23 = .ok (.iinc 1 1, 3) := by decide +kernel
theorem dJ2_putCharsAt_cd4e5_26 : decode cJ2_putCharsAt_cd4e5 26 = .ok (.iload_n 3, 1) := by decide +kernel
theorem dJ2_putCharsAt_cd4e5_27 : decode cJ2_putCharsAt_cd4e5 27 = .ok (.invokestatic 111, 3) := by decide +kernel
theorem dJ2_putCharsAt_cd4e5_30 : decode cJ2_putCharsAt_cd4e5 30 = .ok (.aload_n 0, 1) := by decide +kernel
theorem dJ2_putCharsAt_cd4e5_31 : decode cJ2_putCharsAt_cd4e5 31 = .ok (.iload_n 1, 1) := by decide +kernel
theorem dJ2_putCharsAt_cd4e5_32 : decode cJ2_putCharsAt_cd4e5 32 = .ok (.iinc 1 1, 3) := by decide +kernel
theorem dJ2_putCharsAt_cd4e5_35 : decode cJ2_putCharsAt_cd4e5 35 = .ok (.iload 4, 2) := by decide +kernel
theorem dJ2_putCharsAt_cd4e5_37 : decode cJ2_putCharsAt_cd4e5 37 = .ok (.invokestatic 111, 3) := by decide +kernel
theorem dJ2_putCharsAt_cd4e5_40 : decode cJ2_putCharsAt_cd4e5 40 = .ok (.aload_n 0, 1) := by decide +kernel
theorem dJ2_putCharsAt_cd4e5_41 : decode cJ2_putCharsAt_cd4e5 41 = .ok (.iload_n 1, 1) := by decide +kernel
theorem dJ2_putCharsAt_cd4e5_42 : decode cJ2_putCharsAt_cd4e5 42 = .ok (.iinc 1 1, 3) := by decide +kernel
theorem dJ2_putCharsAt_cd4e5_45 : decode cJ2_putCharsAt_cd4e5 45 = .ok (.iload 5, 2) := by decide +kernel
theorem dJ2_putCharsAt_cd4e5_47 : decode cJ2_putCharsAt_cd4e5 47 = .ok (.invokestatic 111, 3) := by decide +kernel
theorem dJ2_putCharsAt_cd4e5_50 : decode cJ2_putCharsAt_cd4e5 50 = .ok (.getstatic 44, 3) := by decide +kernel
theorem dJ2_putCharsAt_cd4e5_53 : decode cJ2_putCharsAt_cd4e5 53 = .ok (.ifCond .ne 17, 3) := by decide +kernel
theorem dJ2_putCharsAt_cd4e5_56 : decode cJ2_putCharsAt_cd4e5 56 = .ok (.iload_n 1, 1) := by decide +kernel
theorem dJ2_putCharsAt_cd4e5_57 : decode cJ2_putCharsAt_cd4e5 57 = .ok (.iload 6, 2) := by decide +kernel
theorem dJ2_putCharsAt_cd4e5_59 : decode cJ2_putCharsAt_cd4e5 59 = .ok (.if_icmp .eq 11, 3) := by decide +kernel
theorem dJ2_putCharsAt_cd4e5_62 : decode cJ2_putCharsAt_cd4e5 62 = .ok (.new 52, 3) := by decide +kernel
theorem dJ2_putCharsAt_cd4e5_65 : decode cJ2_putCharsAt_cd4e5 65 = .ok (.dup, 1) := by decide +kernel
theorem dJ2_putCharsAt_cd4e5_66 : decode cJ2_putCharsAt_cd4e5 66 = .ok (.invokespecial 66, 3) := by decide +kernel
theorem dJ2_putCharsAt_cd4e5_69 : decode cJ2_putCharsAt_cd4e5 69 = .ok (.athrow, 1) := by decide +kernel
theorem dJ2_putCharsAt_cd4e5_70 : decode cJ2_putCharsAt_cd4e5 70 = .ok (.iload 6, 2) := by decide +kernel
theorem dJ2_putCharsAt_cd4e5_72 : decode cJ2_putCharsAt_cd4e5 72 = .ok (.ireturn, 1) := by decide +kernel
set_option maxRecDepth 20000 in
theorem ggJ2_charAt_3b067_J2_checkIndex_2214a : GoodIn wsJ2_charAt_3b067 wsJ2_checkIndex_2214a := goodIn_r _ [4, 5, 6, 3, 7, 8, 9, 10, 11, 12, 13, 14, 15, 16] (by decide +kernel) (by decide +kernel)
set_option maxRecDepth 20000 in
theorem gJ2_charAt_3b067_J2_checkIndex_2214a : GoodIn wsJ2_charAt_3b067 (va_wsS RJ2 67 yJ2_checkIndex_2214a wsJ2_checkIndex_2214a) := goodIn_app (goodIn_of _ (by decide +kernel)) ggJ2_charAt_3b067_J2_checkIndex_2214a
set_option maxRecDepth 20000 in
theorem ggJ2_charAt_3b067_J2_getChar_3b067 : GoodIn wsJ2_charAt_3b067 wsJ2_getChar_3b067 := goodIn_r _ [19, 20, 21, 22, 5, 6, 3, 7] (by decide +kernel) (by decide +kernel)
set_option maxRecDepth 20000 in
theorem gJ2_charAt_3b067_J2_getChar_3b067 : GoodIn wsJ2_charAt_3b067 (va_wsS RJ2 71 yJ2_getChar_3b067 wsJ2_getChar_3b067) := goodIn_app (goodIn_of _ (by decide +kernel)) ggJ2_charAt_3b067_J2_getChar_3b067
theorem dJ2_charAt_3b067_0 : decode cJ2_charAt_3b067 0 = .ok (.iload_n 1, 1) := by decide +kernel
theorem dJ2_charAt_3b067_1 : decode cJ2_charAt_3b067 1 = .ok (.aload_n 0, 1) := by decide +kernel
theorem dJ2_charAt_3b067_2 : decode cJ2_charAt_3b067 2 = .ok (.invokestatic 67, 3) := by decide +kernel
theorem dJ2_charAt_3b067_5 : decode cJ2_charAt_3b067 5 = .ok (.aload_n 0, 1) := by decide +kernel
theorem dJ2_charAt_3b067_6 : decode cJ2_charAt_3b067 6 = .ok (.iload_n 1, 1) := by decide +kernel
theorem dJ2_charAt_3b067_7 : decode cJ2_charAt_3b067 7 = .ok (.invokestatic 71, 3) := by decide +kernel
theorem dJ2_charAt_3b067_10 : decode cJ2_charAt_3b067 10 = .ok (.ireturn, 1) := by decide +kernel
set_option maxRecDepth 20000 in
theorem ggJ2_inflate_0e8fd_J2_checkBoundsOffCount_d044e : GoodIn wsJ2_inflate_0e8fd wsJ2_checkBoundsOffCount_d044e := goodIn_r _ [4, 5, 6, 3, 7, 8, 9, 10, 11, 12, 13, 14, 15, 16] (by decide +kernel) (by decide +kernel)
set_option maxRecDepth 20000 in
theorem gJ2_inflate_0e8fd_J2_checkBoundsOffCount_d044e : GoodIn wsJ2_inflate_0e8fd (va_wsS RJ2 173 yJ2_checkBoundsOffCount_d044e wsJ2_checkBoundsOffCount_d044e) := goodIn_app (goodIn_of _ (by decide +kernel)) ggJ2_inflate_0e8fd_J2_checkBoundsOffCount_d044e
set_option maxRecDepth 20000 in
theorem ggJ2_inflate_0e8fd_J2_putChar_b72d1 : GoodIn wsJ2_inflate_0e8fd wsJ2_putChar_b72d1 := goodIn_r _ [19, 20, 21, 22, 5, 6, 3, 7] (by decide +kernel) (by decide +kernel)
set_option maxRecDepth 20000 in
theorem gJ2_inflate_0e8fd_J2_putChar_b72d1 : GoodIn wsJ2_inflate_0e8fd (va_wsS RJ2 111 yJ2_putChar_b72d1 wsJ2_putChar_b72d1) := goodIn_app (goodIn_of _ (by decide +kernel)) ggJ2_inflate_0e8fd_J2_putChar_b72d1
theorem dJ2_inflate_0e8fd_0 : decode cJ2_inflate_0e8fd 0 = .ok (.iload_n 3, 1) := by decide +kernel
theorem dJ2_inflate_0e8fd_1 : decode cJ2_inflate_0e8fd 1 = .ok (.iload 4, 2) := by decide +kernel
theorem dJ2_inflate_0e8fd_3 : decode cJ2_inflate_0e8fd 3 = .ok (.aload_n 2, 1) := by decide +kernel
theorem dJ2_inflate_0e8fd_4 : decode cJ2_inflate_0e8fd 4 = .ok (.invokestatic 173, 3) := by decide +kernel
theorem dJ2_inflate_0e8fd_7 : decode cJ2_inflate_0e8fd 7 = .ok (.iconst 0, 1) := by decide +kernel
theorem dJ2_inflate_0e8fd_8 : decode cJ2_inflate_0e8fd 8 = .ok (.istore 5, 2) := by decide +kernel
theorem dJ2_inflate_0e8fd_10 : decode cJ2_inflate_0e8fd 10 = .ok (.iload 5, 2) := by decide +kernel
theorem dJ2_inflate_0e8fd_12 : decode cJ2_inflate_0e8fd 12 = .ok (.iload 4, 2) := by decide +kernel
theorem dJ2_inflate_0e8fd_14 : decode cJ2_inflate_0e8fd 14 = .ok (.if_icmp .ge 27, 3) := by decide +kernel
theorem dJ2_inflate_0e8fd_17 : decode cJ2_inflate_0e8fd 17 = .ok (.aload_n 2, 1) := by decide +kernel
theorem dJ2_inflate_0e8fd_18 : decode cJ2_inflate_0e8fd 18 = .ok (.iload_n 3, 1) := by decide +kernel
theorem dJ2_inflate_0e8fd_19 : decode cJ2_inflate_0e8fd 19 = .ok (.iinc 3 1, 3) := by decide +kernel
theorem dJ2_inflate_0e8fd_22 : decode cJ2_inflate_0e8fd 22 = .ok (.aload_n 0, 1) := by decide +kernel
theorem dJ2_inflate_0e8fd_23 : decode cJ2_inflate_0e8fd 23 = .ok (.iload_n 1, 1) := by decide +kernel
theorem dJ2_inflate_0e8fd_24 : decode cJ2_inflate_0e8fd 24 = .ok (.iinc 1 1, 3) := by decide +kernel
theorem dJ2_inflate_0e8fd_27 : decode cJ2_inflate_0e8fd 27 = .ok (.baload, 1) := by decide +kernel
theorem dJ2_inflate_0e8fd_28 : decode cJ2_inflate_0e8fd 28 = .ok (.sipush 255, 3) := by decide +kernel
theorem dJ2_inflate_0e8fd_31 : decode cJ2_inflate_0e8fd 31 = .ok (.iand, 1) := by decide +kernel
theorem dJ2_inflate_0e8fd_32 : decode cJ2_inflate_0e8fd 32 = .ok (.invokestatic 111, 3) := by decide +kernel
theorem dJ2_inflate_0e8fd_35 : decode cJ2_inflate_0e8fd 35 = .ok (.iinc 5 1, 3) := by decide +kernel
theorem dJ2_inflate_0e8fd_38 : decode cJ2_inflate_0e8fd 38 = .ok (.goto (-28), 3) := by decide +kernel
theorem dJ2_inflate_0e8fd_41 : decode cJ2_inflate_0e8fd 41 = .ok (.return_, 1) := by decide +kernel
set_option maxRecDepth 20000 in
theorem ggJ2_getChars_ba4f3_J2_putChar_b72d1 : GoodIn wsJ2_getChars_ba4f3 wsJ2_putChar_b72d1 := goodIn_r _ [6, 7, 8, 9, 10, 11, 5, 12] (by decide +kernel) (by decide +kernel)
set_option maxRecDepth 20000 in
theorem gJ2_getChars_ba4f3_J2_putChar_b72d1 : GoodIn wsJ2_getChars_ba4f3 (va_wsS RJ2 111 yJ2_putChar_b72d1 wsJ2_putChar_b72d1) := goodIn_app (goodIn_of _ (by decide +kernel)) ggJ2_getChars_ba4f3_J2_putChar_b72d1
theorem dJ2_getChars_ba4f3_0 : decode cJ2_getChars_ba4f3 0 = .ok (.iload_n 1, 1) := by decide +kernel
theorem dJ2_getChars_ba4f3_1 : decode cJ2_getChars_ba4f3 1 = .ok (.istore 5, 2) := by decide +kernel
theorem dJ2_getChars_ba4f3_3 : decode cJ2_getChars_ba4f3 3 = .ok (.iload_n 0, 1) := by decide +kernel
theorem dJ2_getChars_ba4f3_4 : decode cJ2_getChars_ba4f3 4 = .ok (.ifCond .ge 7, 3) := by decide +kernel
theorem dJ2_getChars_ba4f3_7 : decode cJ2_getChars_ba4f3 7 = .ok (.iconst 1, 1) := by decide +kernel
theorem dJ2_getChars_ba4f3_8 : decode cJ2_getChars_ba4f3 8 = .ok (.goto 4, 3) := by decide +kernel
theorem dJ2_getChars_ba4f3_11 : decode cJ2_getChars_ba4f3 11 = .ok (.iconst 0, 1) := by decide +kernel
theorem dJ2_getChars_ba4f3_12 : decode cJ2_getChars_ba4f3 12 = .ok (.istore 6, 2) := by decide +kernel
theorem dJ2_getChars_ba4f3_14 : decode cJ2_getChars_ba4f3 14 = .ok (.iload 6, 2) := by decide +kernel
theorem dJ2_getChars_ba4f3_16 : decode cJ2_getChars_ba4f3 16 = .ok (.ifCond .ne 6, 3) := by decide +kernel
theorem dJ2_getChars_ba4f3_19 : decode cJ2_getChars_ba4f3 19 = .ok (.iload_n 0, 1) := by decide +kernel
theorem dJ2_getChars_ba4f3_20 : decode cJ2_getChars_ba4f3 20 = .ok (.ineg, 1) := by decide +kernel
theorem dJ2_getChars_ba4f3_21 : decode cJ2_getChars_ba4f3 21 = .ok (.istore_n 0, 1) := by decide +kernel
theorem dJ2_getChars_ba4f3_22 : decode cJ2_getChars_ba4f3 22 = .ok (.iload_n 0, 1) := by decide +kernel
theorem dJ2_getChars_ba4f3_23 : decode cJ2_getChars_ba4f3 23 = .ok (.bipush (-100), 2) := by decide +kernel
theorem dJ2_getChars_ba4f3_25 : decode cJ2_getChars_ba4f3 25 = .ok (.if_icmp .gt 51, 3) := by decide +kernel
theorem dJ2_getChars_ba4f3_28 : decode cJ2_getChars_ba4f3 28 = .ok (.iload_n 0, 1) := by decide +kernel
theorem dJ2_getChars_ba4f3_29 : decode cJ2_getChars_ba4f3 29 = .ok (.bipush 100, 2) := by decide +kernel
theorem dJ2_getChars_ba4f3_31 : decode cJ2_getChars_ba4f3 31 = .ok (.idiv, 1) := by decide +kernel
theorem dJ2_getChars_ba4f3_32 : decode cJ2_getChars_ba4f3 32 = .ok (.istore_n 3, 1) := by decide +kernel
theorem dJ2_getChars_ba4f3_33 : decode cJ2_getChars_ba4f3 33 = .ok (.iload_n 3, 1) := by decide +kernel
theorem dJ2_getChars_ba4f3_34 : decode cJ2_getChars_ba4f3 34 = .ok (.bipush 100, 2) := by decide +kernel
theorem dJ2_getChars_ba4f3_36 : decode cJ2_getChars_ba4f3 36 = .ok (.imul, 1) := by decide +kernel
theorem dJ2_getChars_ba4f3_37 : decode cJ2_getChars_ba4f3 37 = .ok (.iload_n 0, 1) := by decide +kernel
theorem dJ2_getChars_ba4f3_38 : decode cJ2_getChars_ba4f3 38 = .ok (.isub, 1) := by decide +kernel
theorem dJ2_getChars_ba4f3_39 : decode cJ2_getChars_ba4f3 39 = .ok (.istore 4, 2) := by decide +kernel
theorem dJ2_getChars_ba4f3_41 : decode cJ2_getChars_ba4f3 41 = .ok (.iload_n 3, 1) := by decide +kernel
theorem dJ2_getChars_ba4f3_42 : decode cJ2_getChars_ba4f3 42 = .ok (.istore_n 0, 1) := by decide +kernel
theorem dJ2_getChars_ba4f3_43 : decode cJ2_getChars_ba4f3 43 = .ok (.aload_n 2, 1) := by decide +kernel
theorem dJ2_getChars_ba4f3_44 : decode cJ2_getChars_ba4f3 44 = .ok (.iinc 5 (-1), 3) := by decide +kernel
theorem dJ2_getChars_ba4f3_47 : decode cJ2_getChars_ba4f3 47 = .ok (.iload 5, 2) := by decide +kernel
theorem dJ2_getChars_ba4f3_49 : decode cJ2_getChars_ba4f3 49 = .ok (.getstatic 403, 3) := by decide +kernel
theorem dJ2_getChars_ba4f3_52 : decode cJ2_getChars_ba4f3 52 = .ok (.iload 4, 2) := by decide +kernel
theorem dJ2_getChars_ba4f3_54 : decode cJ2_getChars_ba4f3 54 = .ok (.baload, 1) := by decide +kernel
theorem dJ2_getChars_ba4f3_55 : decode cJ2_getChars_ba4f3 55 = .ok (.invokestatic 111, 3) := by decide +kernel
theorem dJ2_getChars_ba4f3_58 : decode cJ2_getChars_ba4f3 58 = .ok (.aload_n 2, 1) := by decide +kernel
theorem dJ2_getChars_ba4f3_59 : decode cJ2_getChars_ba4f3 59 = .ok (.iinc 5 (-1), 3) := by decide +kernel
theorem dJ2_getChars_ba4f3_62 : decode cJ2_getChars_ba4f3 62 = .ok (.iload 5, 2) := by decide +kernel
theorem dJ2_getChars_ba4f3_64 : decode cJ2_getChars_ba4f3 64 = .ok (.getstatic 407, 3) := by decide +kernel
theorem dJ2_getChars_ba4f3_67 : decode cJ2_getChars_ba4f3 67 = .ok (.iload 4, 2) := by decide +kernel
theorem dJ2_getChars_ba4f3_69 : decode cJ2_getChars_ba4f3 69 = .ok (.baload, 1) := by decide +kernel
theorem dJ2_getChars_ba4f3_70 : decode cJ2_getChars_ba4f3 70 = .ok (.invokestatic 111, 3) := by decide +kernel
theorem dJ2_getChars_ba4f3_73 : decode cJ2_getChars_ba4f3 73 = .ok (.goto (-51), 3) := by decide +kernel
theorem dJ2_getChars_ba4f3_76 : decode cJ2_getChars_ba4f3 76 = .ok (.aload_n 2, 1) := by decide +kernel
theorem dJ2_getChars_ba4f3_77 : decode cJ2_getChars_ba4f3 77 = .ok (.iinc 5 (-1), 3) := by decide +kernel
theorem dJ2_getChars_ba4f3_80 : decode cJ2_getChars_ba4f3 80 = .ok (.iload 5, 2) := by decide +kernel
theorem dJ2_getChars_ba4f3_82 : decode cJ2_getChars_ba4f3 82 = .ok (.getstatic 403, 3) := by decide +kernel
theorem dJ2_getChars_ba4f3_85 : decode cJ2_getChars_ba4f3 85 = .ok (.iload_n 0, 1) := by decide +kernel
theorem dJ2_getChars_ba4f3_86 : decode cJ2_getChars_ba4f3 86 = .ok (.ineg, 1) := by decide +kernel
theorem dJ2_getChars_ba4f3_87 : decode cJ2_getChars_ba4f3 87 = .ok (.baload, 1) := by decide +kernel
theorem dJ2_getChars_ba4f3_88 : decode cJ2_getChars_ba4f3 88 = .ok (.invokestatic 111, 3) := by decide +kernel
theorem dJ2_getChars_ba4f3_91 : decode cJ2_getChars_ba4f3 91 = .ok (.iload_n 0, 1) := by decide +kernel
theorem dJ2_getChars_ba4f3_92 : decode cJ2_getChars_ba4f3 92 = .ok (.bipush (-9), 2) := by decide +kernel
theorem dJ2_getChars_ba4f3_94 : decode cJ2_getChars_ba4f3 94 = .ok (.if_icmp .ge 18, 3) := by decide +kernel
theorem dJ2_getChars_ba4f3_97 : decode cJ2_getChars_ba4f3 97 = .ok (.aload_n 2, 1) := by decide +kernel
theorem dJ2_getChars_ba4f3_98 : decode cJ2_getChars_ba4f3 98 = .ok (.iinc 5 (-1), 3) := by decide +kernel
theorem dJ2_getChars_ba4f3_101 : decode cJ2_getChars_ba4f3 101 = .ok (.iload 5, 2) := by decide +kernel
theorem dJ2_getChars_ba4f3_103 : decode cJ2_getChars_ba4f3 103 = .ok (.getstatic 407, 3) := by decide +kernel
theorem dJ2_getChars_ba4f3_106 : decode cJ2_getChars_ba4f3 106 = .ok (.iload_n 0, 1) := by decide +kernel
theorem dJ2_getChars_ba4f3_107 : decode cJ2_getChars_ba4f3 107 = .ok (.ineg, 1) := by decide +kernel
theorem dJ2_getChars_ba4f3_108 : decode cJ2_getChars_ba4f3 108 = .ok (.baload, 1) := by decide +kernel
theorem dJ2_getChars_ba4f3_109 : decode cJ2_getChars_ba4f3 109 = .ok (.invokestatic 111, 3) := by decide +kernel
theorem dJ2_getChars_ba4f3_112 : decode cJ2_getChars_ba4f3 112 = .ok (.iload 6, 2) := by decide +kernel
theorem dJ2_getChars_ba4f3_114 : decode cJ2_getChars_ba4f3 114 = .ok (.ifCond .eq 14, 3) := by decide +kernel
theorem dJ2_getChars_ba4f3_117 : decode cJ2_getChars_ba4f3 117 = .ok (.aload_n 2, 1) := by decide +kernel
theorem dJ2_getChars_ba4f3_118 : decode cJ2_getChars_ba4f3 118 = .ok (.iinc 5 (-1), 3) := by decide +kernel
theorem dJ2_getChars_ba4f3_121 : decode cJ2_getChars_ba4f3 121 = .ok (.iload 5, 2) := by decide +kernel
theorem dJ2_getChars_ba4f3_123 : decode cJ2_getChars_ba4f3 123 = .ok (.bipush 45, 2) := by decide +kernel
theorem dJ2_getChars_ba4f3_125 : decode cJ2_getChars_ba4f3 125 = .ok (.invokestatic 111, 3) := by decide +kernel
theorem dJ2_getChars_ba4f3_128 : decode cJ2_getChars_ba4f3 128 = .ok (.iload 5, 2) := by decide +kernel
theorem dJ2_getChars_ba4f3_130 : decode cJ2_getChars_ba4f3 130 = .ok (.ireturn, 1) := by decide +kernel
set_option maxRecDepth 20000 in
theorem ggJ2_getChars_11360_J2_putChar_b72d1 : GoodIn wsJ2_getChars_11360 wsJ2_putChar_b72d1 := goodIn_r _ [8, 9, 10, 11, 12, 13, 7, 14] (by decide +kernel) (by decide +kernel)
set_option maxRecDepth 20000 in
theorem gJ2_getChars_11360_J2_putChar_b72d1 : GoodIn wsJ2_getChars_11360 (va_wsS RJ2 111 yJ2_putChar_b72d1 wsJ2_putChar_b72d1) := goodIn_app (goodIn_of _ (by decide +kernel)) ggJ2_getChars_11360_J2_putChar_b72d1
theorem dJ2_getChars_11360_0 : decode cJ2_getChars_11360 0 = .ok (.iload_n 2, 1) := by decide +kernel
theorem dJ2_getChars_11360_1 : decode cJ2_getChars_11360 1 = .ok (.istore 7, 2) := by decide +kernel
theorem dJ2_getChars_11360_3 : decode cJ2_getChars_11360 3 = .ok (.lload_n 0, 1) := by decide +kernel
theorem dJ2_getChars_11360_4 : decode cJ2_getChars_11360 4 = .ok (.lconst 0, 1) := by decide +kernel
theorem dJ2_getChars_11360_5 : decode cJ2_getChars_11360 5 = .ok (.lcmp, 1) := by decide +kernel
theorem dJ2_getChars_11360_6 : decode cJ2_getChars_11360 6 = .ok (.ifCond .ge 7, 3) := by decide +kernel
theorem dJ2_getChars_11360_9 : decode cJ2_getChars_11360 9 = .ok (.iconst 1, 1) := by decide +kernel
theorem dJ2_getChars_11360_10 : decode cJ2_getChars_11360 10 = .ok (.goto 4, 3) := by decide +kernel
theorem dJ2_getChars_11360_13 : decode cJ2_getChars_11360 13 = .ok (.iconst 0, 1) := by decide +kernel
theorem dJ2_getChars_11360_14 : decode cJ2_getChars_11360 14 = .ok (.istore 8, 2) := by decide +kernel
theorem dJ2_getChars_11360_16 : decode cJ2_getChars_11360 16 = .ok (.iload 8, 2) := by decide +kernel
theorem dJ2_getChars_11360_18 : decode cJ2_getChars_11360 18 = .ok (.ifCond .ne 6, 3) := by decide +kernel
theorem dJ2_getChars_11360_21 : decode cJ2_getChars_11360 21 = .ok (.lload_n 0, 1) := by decide +kernel
theorem dJ2_getChars_11360_22 : decode cJ2_getChars_11360 22 = .ok (.lneg, 1) := by decide +kernel
theorem dJ2_getChars_11360_23 : decode cJ2_getChars_11360 23 = .ok (.lstore_n 0, 1) := by decide +kernel
theorem dJ2_getChars_11360_24 : decode cJ2_getChars_11360 24 = .ok (.lload_n 0, 1) := by decide +kernel
theorem dJ2_getChars_11360_25 : decode cJ2_getChars_11360 25 = .ok (.ldc2_w 410, 3) := by decide +kernel
theorem dJ2_getChars_11360_28 : decode cJ2_getChars_11360 28 = .ok (.lcmp, 1) := by decide +kernel
theorem dJ2_getChars_11360_29 : decode cJ2_getChars_11360 29 = .ok (.ifCond .gt 57, 3) := by decide +kernel
theorem dJ2_getChars_11360_32 : decode cJ2_getChars_11360 32 = .ok (.lload_n 0, 1) := by decide +kernel
theorem dJ2_getChars_11360_33 : decode cJ2_getChars_11360 33 = .ok (.ldc2_w 412, 3) := by decide +kernel
theorem dJ2_getChars_11360_36 : decode cJ2_getChars_11360 36 = .ok (.ldiv, 1) := by decide +kernel
theorem dJ2_getChars_11360_37 : decode cJ2_getChars_11360 37 = .ok (.lstore 4, 2) := by decide +kernel
theorem dJ2_getChars_11360_39 : decode cJ2_getChars_11360 39 = .ok (.lload 4, 2) := by decide +kernel
theorem dJ2_getChars_11360_41 : decode cJ2_getChars_11360 41 = .ok (.ldc2_w 412, 3) := by decide +kernel
theorem dJ2_getChars_11360_44 : decode cJ2_getChars_11360 44 = .ok (.lmul, 1) := by decide +kernel
theorem dJ2_getChars_11360_45 : decode cJ2_getChars_11360 45 = .ok (.lload_n 0, 1) := by decide +kernel
theorem dJ2_getChars_11360_46 : decode cJ2_getChars_11360 46 = .ok (.lsub, 1) := by decide +kernel
theorem dJ2_getChars_11360_47 : decode cJ2_getChars_11360 47 = .ok (.l2i, 1) := by decide +kernel
theorem dJ2_getChars_11360_48 : decode cJ2_getChars_11360 48 = .ok (.istore 6, 2) := by decide +kernel
theorem dJ2_getChars_11360_50 : decode cJ2_getChars_11360 50 = .ok (.lload 4, 2) := by decide +kernel
theorem dJ2_getChars_11360_52 : decode cJ2_getChars_11360 52 = .ok (.lstore_n 0, 1) := by decide +kernel
theorem dJ2_getChars_11360_53 : decode cJ2_getChars_11360 53 = .ok (.aload_n 3, 1) := by decide +kernel
theorem dJ2_getChars_11360_54 : decode cJ2_getChars_11360 54 = .ok (.iinc 7 (-1), 3) := by decide +kernel
theorem dJ2_getChars_11360_57 : decode cJ2_getChars_11360 57 = .ok (.iload 7, 2) := by decide +kernel
theorem dJ2_getChars_11360_59 : decode cJ2_getChars_11360 59 = .ok (.getstatic 403, 3) := by decide +kernel
theorem dJ2_getChars_11360_62 : decode cJ2_getChars_11360 62 = .ok (.iload 6, 2) := by decide +kernel
theorem dJ2_getChars_11360_64 : decode cJ2_getChars_11360 64 = .ok (.baload, 1) := by decide +kernel
theorem dJ2_getChars_11360_65 : decode cJ2_getChars_11360 65 = .ok (.invokestatic 111, 3) := by decide +kernel
theorem dJ2_getChars_11360_68 : decode cJ2_getChars_11360 68 = .ok (.aload_n 3, 1) := by decide +kernel
theorem dJ2_getChars_11360_69 : decode cJ2_getChars_11360 69 = .ok (.iinc 7 (-1), 3) := by decide +kernel
theorem dJ2_getChars_11360_72 : decode cJ2_getChars_11360 72 = .ok (.iload 7, 2) := by decide +kernel
theorem dJ2_getChars_11360_74 : decode cJ2_getChars_11360 74 = .ok (.getstatic 407, 3) := by decide +kernel
theorem dJ2_getChars_11360_77 : decode cJ2_getChars_11360 77 = .ok (.iload 6, 2) := by decide +kernel
theorem dJ2_getChars_11360_79 : decode cJ2_getChars_11360 79 = .ok (.baload, 1) := by decide +kernel
theorem dJ2_getChars_11360_80 : decode cJ2_getChars_11360 80 = .ok (.invokestatic 111, 3) := by decide +kernel
theorem dJ2_getChars_11360_83 : decode cJ2_getChars_11360 83 = .ok (.goto (-59), 3) := by decide +kernel
theorem dJ2_getChars_11360_86 : decode cJ2_getChars_11360 86 = .ok (.lload_n 0, 1) := by decide +kernel
theorem dJ2_getChars_11360_87 : decode cJ2_getChars_11360 87 = .ok (.l2i, 1) := by decide +kernel
theorem dJ2_getChars_11360_88 : decode cJ2_getChars_11360 88 = .ok (.istore 10, 2) := by decide +kernel
theorem dJ2_getChars_11360_90 : decode cJ2_getChars_11360 90 = .ok (.iload 10, 2) := by decide +kernel
theorem dJ2_getChars_11360_92 : decode cJ2_getChars_11360 92 = .ok (.bipush (-100), 2) := by decide +kernel
theorem dJ2_getChars_11360_94 : decode cJ2_getChars_11360 94 = .ok (.if_icmp .gt 57, 3) := by decide +kernel
theorem dJ2_getChars_11360_97 : decode cJ2_getChars_11360 97 = .ok (.iload 10, 2) := by decide +kernel
theorem dJ2_getChars_11360_99 : decode cJ2_getChars_11360 99 = .ok (.bipush 100, 2) := by decide +kernel
theorem dJ2_getChars_11360_101 : decode cJ2_getChars_11360 101 = .ok (.idiv, 1) := by decide +kernel
theorem dJ2_getChars_11360_102 : decode cJ2_getChars_11360 102 = .ok (.istore 9, 2) := by decide +kernel
theorem dJ2_getChars_11360_104 : decode cJ2_getChars_11360 104 = .ok (.iload 9, 2) := by decide +kernel
theorem dJ2_getChars_11360_106 : decode cJ2_getChars_11360 106 = .ok (.bipush 100, 2) := by decide +kernel
theorem dJ2_getChars_11360_108 : decode cJ2_getChars_11360 108 = .ok (.imul, 1) := by decide +kernel
theorem dJ2_getChars_11360_109 : decode cJ2_getChars_11360 109 = .ok (.iload 10, 2) := by decide +kernel
theorem dJ2_getChars_11360_111 : decode cJ2_getChars_11360 111 = .ok (.isub, 1) := by decide +kernel
theorem dJ2_getChars_11360_112 : decode cJ2_getChars_11360 112 = .ok (.istore 6, 2) := by decide +kernel
theorem dJ2_getChars_11360_114 : decode cJ2_getChars_11360 114 = .ok (.iload 9, 2) := by decide +kernel
theorem dJ2_getChars_11360_116 : decode cJ2_getChars_11360 116 = .ok (.istore 10, 2) := by decide +kernel
theorem dJ2_getChars_11360_118 : decode cJ2_getChars_11360 118 = .ok (.aload_n 3, 1) := by decide +kernel
theorem dJ2_getChars_11360_119 : decode cJ2_getChars_11360 119 = .ok (.iinc 7 (-1), 3) := by decide +kernel
theorem dJ2_getChars_11360_122 : decode cJ2_getChars_11360 122 = .ok (.iload 7, 2) := by decide +kernel
theorem dJ2_getChars_11360_124 : decode cJ2_getChars_11360 124 = .ok (.getstatic 403, 3) := by decide +kernel
theorem dJ2_getChars_11360_127 : decode cJ2_getChars_11360 127 = .ok (.iload 6, 2) := by decide +kernel
theorem dJ2_getChars_11360_129 : decode cJ2_getChars_11360 129 = .ok (.baload, 1) := by decide +kernel
theorem dJ2_getChars_11360_130 : decode cJ2_getChars_11360 130 = .ok (.invokestatic 111, 3) := by decide +kernel
theorem dJ2_getChars_11360_133 : decode cJ2_getChars_11360 133 = .ok (.aload_n 3, 1) := by decide +kernel
theorem dJ2_getChars_11360_134 : decode cJ2_getChars_11360 134 = .ok (.iinc 7 (-1), 3) := by decide +kernel
theorem dJ2_getChars_11360_137 : decode cJ2_getChars_11360 137 = .ok (.iload 7, 2) := by decide +kernel
theorem dJ2_getChars_11360_139 : decode cJ2_getChars_11360 139 = .ok (.getstatic 407, 3) := by decide +kernel
theorem dJ2_getChars_11360_142 : decode cJ2_getChars_11360 142 = .ok (.iload 6, 2) := by decide +kernel
theorem dJ2_getChars_11360_144 : decode cJ2_getChars_11360 144 = .ok (.baload, 1) := by decide +kernel
theorem dJ2_getChars_11360_145 : decode cJ2_getChars_11360 145 = .ok (.invokestatic 111, 3) := by decide +kernel
theorem dJ2_getChars_11360_148 : decode cJ2_getChars_11360 148 = .ok (.goto (-58), 3) := by decide +kernel
theorem dJ2_getChars_11360_151 : decode cJ2_getChars_11360 151 = .ok (.aload_n 3, 1) := by decide +kernel
theorem dJ2_getChars_11360_152 : decode cJ2_getChars_11360 152 = .ok (.iinc 7 (-1), 3) := by decide +kernel
theorem dJ2_getChars_11360_155 : decode cJ2_getChars_11360 155 = .ok (.iload 7, 2) := by decide +kernel
theorem dJ2_getChars_11360_157 : decode cJ2_getChars_11360 157 = .ok (.getstatic 403, 3) := by decide +kernel
theorem dJ2_getChars_11360_160 : decode cJ2_getChars_11360 160 = .ok (.iload 10, 2) := by decide +kernel
theorem dJ2_getChars_11360_162 : decode cJ2_getChars_11360 162 = .ok (.ineg, 1) := by decide +kernel
theorem dJ2_getChars_11360_163 : decode cJ2_getChars_11360 163 = .ok (.baload, 1) := by decide +kernel
theorem dJ2_getChars_11360_164 : decode cJ2_getChars_11360 164 = .ok (.invokestatic 111, 3) := by decide +kernel
theorem dJ2_getChars_11360_167 : decode cJ2_getChars_11360 167 = .ok (.iload 10, 2) := by decide +kernel
theorem dJ2_getChars_11360_169 : decode cJ2_getChars_11360 169 = .ok (.bipush (-9), 2) := by decide +kernel
theorem dJ2_getChars_11360_171 : decode cJ2_getChars_11360 171 = .ok (.if_icmp .ge 19, 3) := by decide +kernel
theorem dJ2_getChars_11360_174 : decode cJ2_getChars_11360 174 = .ok (.aload_n 3, 1) := by decide +kernel
theorem dJ2_getChars_11360_175 : decode cJ2_getChars_11360 175 = .ok (.iinc 7 (-1), 3) := by decide +kernel
theorem dJ2_getChars_11360_178 : decode cJ2_getChars_11360 178 = .ok (.iload 7, 2) := by decide +kernel
theorem dJ2_getChars_11360_180 : decode cJ2_getChars_11360 180 = .ok (.getstatic 407, 3) := by decide +kernel
theorem dJ2_getChars_11360_183 : decode cJ2_getChars_11360 183 = .ok (.iload 10, 2) := by decide +kernel
theorem dJ2_getChars_11360_185 : decode cJ2_getChars_11360 185 = .ok (.ineg, 1) := by decide +kernel
theorem dJ2_getChars_11360_186 : decode cJ2_getChars_11360 186 = .ok (.baload, 1) := by decide +kernel
theorem dJ2_getChars_11360_187 : decode cJ2_getChars_11360 187 = .ok (.invokestatic 111, 3) := by decide +kernel
theorem dJ2_getChars_11360_190 : decode cJ2_getChars_11360 190 = .ok (.iload 8, 2) := by decide +kernel
theorem dJ2_getChars_11360_192 : decode cJ2_getChars_11360 192 = .ok (.ifCond .eq 14, 3) := by decide +kernel
theorem dJ2_getChars_11360_195 : decode cJ2_getChars_11360 195 = .ok (.aload_n 3, 1) := by decide +kernel
theorem dJ2_getChars_11360_196 : decode cJ2_getChars_11360 196 = .ok (.iinc 7 (-1), 3) := by decide +kernel
theorem dJ2_getChars_11360_199 : decode cJ2_getChars_11360 199 = .ok (.iload 7, 2) := by decide +kernel
theorem dJ2_getChars_11360_201 : decode cJ2_getChars_11360 201 = .ok (.bipush 45, 2) := by decide +kernel
theorem dJ2_getChars_11360_203 : decode cJ2_getChars_11360 203 = .ok (.invokestatic 111, 3) := by decide +kernel
theorem dJ2_getChars_11360_206 : decode cJ2_getChars_11360 206 = .ok (.iload 7, 2) := by decide +kernel
theorem dJ2_getChars_11360_208 : decode cJ2_getChars_11360 208 = .ok (.ireturn, 1) := by decide +kernel
set_option maxRecDepth 20000 in
theorem ggJ2_checkIndex_2214a_J2_length_9d52b : GoodIn wsJ2_checkIndex_2214a wsJ2_length_9d52b := goodIn_r _ [4] (by decide +kernel) (by decide +kernel)
set_option maxRecDepth 20000 in
theorem gJ2_checkIndex_2214a_J2_length_9d52b : GoodIn wsJ2_checkIndex_2214a (va_wsS RJ2 48 yJ2_length_9d52b wsJ2_length_9d52b) := goodIn_app (goodIn_of _ (by decide +kernel)) ggJ2_checkIndex_2214a_J2_length_9d52b
set_option maxRecDepth 20000 in
theorem ggJ2_checkIndex_2214a_J0_checkIndex_df160 : GoodIn wsJ2_checkIndex_2214a wsJ0_checkIndex_df160 := goodIn_r _ [8, 9, 10, 11, 12, 13] (by decide +kernel) (by decide +kernel)
set_option maxRecDepth 20000 in
theorem gJ2_checkIndex_2214a_J0_checkIndex_df160 : GoodIn wsJ2_checkIndex_2214a (va_wsS RJ2 414 yJ0_checkIndex_df160 wsJ0_checkIndex_df160) := goodIn_app (goodIn_of _ (by decide +kernel)) ggJ2_checkIndex_2214a_J0_checkIndex_df160
theorem dJ2_checkIndex_2214a_0 : decode cJ2_checkIndex_2214a 0 = .ok (.iload_n 0, 1) := by decide +kernel
theorem dJ2_checkIndex_2214a_1 : decode cJ2_checkIndex_2214a 1 = .ok (.aload_n 1, 1) := by decide +kernel
theorem dJ2_checkIndex_2214a_2 : decode cJ2_checkIndex_2214a 2 = .ok (.invokestatic 48, 3) := by decide +kernel
theorem dJ2_checkIndex_2214a_5 : decode cJ2_checkIndex_2214a 5 = .ok (.invokestatic 414, 3) := by decide +kernel
theorem dJ2_checkIndex_2214a_8 : decode cJ2_checkIndex_2214a 8 = .ok (.return_, 1) := by decide +kernel
set_option maxRecDepth 20000 in
theorem ggJ2_checkBoundsBeginEnd_d044e_J2_length_9d52b : GoodIn wsJ2_checkBoundsBeginEnd_d044e wsJ2_length_9d52b := goodIn_r _ [4] (by decide +kernel) (by decide +kernel)
set_option maxRecDepth 20000 in
theorem gJ2_checkBoundsBeginEnd_d044e_J2_length_9d52b : GoodIn wsJ2_checkBoundsBeginEnd_d044e (va_wsS RJ2 48 yJ2_length_9d52b wsJ2_length_9d52b) := goodIn_app (goodIn_of _ (by decide +kernel)) ggJ2_checkBoundsBeginEnd_d044e_J2_length_9d52b
set_option maxRecDepth 20000 in
theorem ggJ2_checkBoundsBeginEnd_d044e_J0_checkBoundsBeginEnd_23922 : GoodIn wsJ2_checkBoundsBeginEnd_d044e wsJ0_checkBoundsBeginEnd_23922 := goodIn_r _ [8, 9, 10, 11, 12, 13] (by decide +kernel) (by decide +kernel)
set_option maxRecDepth 20000 in
theorem gJ2_checkBoundsBeginEnd_d044e_J0_checkBoundsBeginEnd_23922 : GoodIn wsJ2_checkBoundsBeginEnd_d044e (va_wsS RJ2 241 yJ0_checkBoundsBeginEnd_23922 wsJ0_checkBoundsBeginEnd_23922) := goodIn_app (goodIn_of _ (by decide +kernel)) ggJ2_checkBoundsBeginEnd_d044e_J0_checkBoundsBeginEnd_23922
theorem dJ2_checkBoundsBeginEnd_d044e_0 : decode cJ2_checkBoundsBeginEnd_d044e 0 = .ok (.iload_n 0, 1) := by decide +kernel
theorem dJ2_checkBoundsBeginEnd_d044e_1 : decode cJ2_checkBoundsBeginEnd_d044e 1 = .ok (.iload_n 1, 1) := by decide +kernel
theorem dJ2_checkBoundsBeginEnd_d044e_2 : decode cJ2_checkBoundsBeginEnd_d044e 2 = .ok (.aload_n 2, 1) := by decide +kernel
theorem dJ2_checkBoundsBeginEnd_d044e_3 : decode cJ2_checkBoundsBeginEnd_d044e 3 = .ok (.invokestatic 48, 3) := by decide +kernel
theorem dJ2_checkBoundsBeginEnd_d044e_6 : decode cJ2_checkBoundsBeginEnd_d044e 6 = .ok (.invokestatic 241, 3) := by decide +kernel
theorem dJ2_checkBoundsBeginEnd_d044e_9 : decode cJ2_checkBoundsBeginEnd_d044e 9 = .ok (.return_, 1) := by decide +kernel
set_option maxRecDepth 20000 in
theorem ggJ2_checkBoundsOffCount_d044e_J2_length_9d52b : GoodIn wsJ2_checkBoundsOffCount_d044e wsJ2_length_9d52b := goodIn_r _ [4] (by decide +kernel) (by decide +kernel)
set_option maxRecDepth 20000 in
theorem gJ2_checkBoundsOffCount_d044e_J2_length_9d52b : GoodIn wsJ2_checkBoundsOffCount_d044e (va_wsS RJ2 48 yJ2_length_9d52b wsJ2_length_9d52b) := goodIn_app (goodIn_of _ (by decide +kernel)) ggJ2_checkBoundsOffCount_d044e_J2_length_9d52b
set_option maxRecDepth 20000 in
theorem ggJ2_checkBoundsOffCount_d044e_J0_checkBoundsOffCount_cabcc : GoodIn wsJ2_checkBoundsOffCount_d044e wsJ0_checkBoundsOffCount_cabcc := goodIn_r _ [8, 9, 10, 11, 12, 13] (by decide +kernel) (by decide +kernel)
set_option maxRecDepth 20000 in
theorem gJ2_checkBoundsOffCount_d044e_J0_checkBoundsOffCount_cabcc : GoodIn wsJ2_checkBoundsOffCount_d044e (va_wsS RJ2 419 yJ0_checkBoundsOffCount_cabcc wsJ0_checkBoundsOffCount_cabcc) := goodIn_app (goodIn_of _ (by decide +kernel)) ggJ2_checkBoundsOffCount_d044e_J0_checkBoundsOffCount_cabcc
theorem dJ2_checkBoundsOffCount_d044e_0 : decode cJ2_checkBoundsOffCount_d044e 0 = .ok (.iload_n 0, 1) := by decide +kernel
theorem dJ2_checkBoundsOffCount_d044e_1 : decode cJ2_checkBoundsOffCount_d044e 1 = .ok (.iload_n 1, 1) := by decide +kernel
theorem dJ2_checkBoundsOffCount_d044e_2 : decode cJ2_checkBoundsOffCount_d044e 2 = .ok (.aload_n 2, 1) := by decide +kernel
theorem dJ2_checkBoundsOffCount_d044e_3 : decode cJ2_checkBoundsOffCount_d044e 3 = .ok (.invokestatic 48, 3) := by decide +kernel
theorem dJ2_checkBoundsOffCount_d044e_6 : decode cJ2_checkBoundsOffCount_d044e 6 = .ok (.invokestatic 419, 3) := by decide +kernel
theorem dJ2_checkBoundsOffCount_d044e_9 : decode cJ2_checkBoundsOffCount_d044e 9 = .ok (.pop, 1) := by decide +kernel
theorem dJ2_checkBoundsOffCount_d044e_10 : decode cJ2_checkBoundsOffCount_d044e 10 = .ok (.return_, 1) := by decide +kernel
theorem dJxa1e45_init_da8c8_0 : decode cJxa1e45_init_da8c8 0 = .ok (.aload_n 0, 1) := by decide +kernel
theorem dJxa1e45_init_da8c8_1 : decode cJxa1e45_init_da8c8 1 = .ok (.invokespecial 1, 3) := by decide +kernel
theorem dJxa1e45_init_da8c8_4 : decode cJxa1e45_init_da8c8 4 = .ok (.return_, 1) := by decide +kernel
set_option maxRecDepth 20000 in
theorem ggJxc12de_init_da8c8_Jxa1e45_init_da8c8 : GoodIn wsJxc12de_init_da8c8 wsJxa1e45_init_da8c8 := goodIn_r _ [5, 6, 7, 8] (by decide +kernel) (by decide +kernel)
set_option maxRecDepth 20000 in
theorem gJxc12de_init_da8c8_Jxa1e45_init_da8c8 : GoodIn wsJxc12de_init_da8c8 (wsJxa1e45_init_da8c8) := ggJxc12de_init_da8c8_Jxa1e45_init_da8c8
theorem dJxc12de_init_da8c8_0 : decode cJxc12de_init_da8c8 0 = .ok (.aload_n 0, 1) := by decide +kernel
theorem dJxc12de_init_da8c8_1 : decode cJxc12de_init_da8c8 1 = .ok (.invokespecial 1, 3) := by decide +kernel
theorem dJxc12de_init_da8c8_4 : decode cJxc12de_init_da8c8 4 = .ok (.aload_n 0, 1) := by decide +kernel
theorem dJxc12de_init_da8c8_5 : decode cJxc12de_init_da8c8 5 = .ok (.iconst 0, 1) := by decide +kernel
theorem dJxc12de_init_da8c8_6 : decode cJxc12de_init_da8c8 6 = .ok (.putfield 7, 3) := by decide +kernel
theorem dJxc12de_init_da8c8_9 : decode cJxc12de_init_da8c8 9 = .ok (.return_, 1) := by decide +kernel
set_option maxRecDepth 20000 in
theorem ggJx4a65c_init_da8c8_Jxc12de_init_da8c8 : GoodIn wsJx4a65c_init_da8c8 wsJxc12de_init_da8c8 := goodIn_r _ [6, 7, 8, 9, 10, 11, 12, 13, 14, 15, 16, 17] (by decide +kernel) (by decide +kernel)
set_option maxRecDepth 20000 in
theorem gJx4a65c_init_da8c8_Jxc12de_init_da8c8 : GoodIn wsJx4a65c_init_da8c8 (wsJxc12de_init_da8c8) := ggJx4a65c_init_da8c8_Jxc12de_init_da8c8
theorem dJx4a65c_init_da8c8_0 : decode cJx4a65c_init_da8c8 0 = .ok (.aload_n 0, 1) := by decide +kernel
theorem dJx4a65c_init_da8c8_1 : decode cJx4a65c_init_da8c8 1 = .ok (.invokespecial 1, 3) := by decide +kernel
theorem dJx4a65c_init_da8c8_4 : decode cJx4a65c_init_da8c8 4 = .ok (.aload_n 0, 1) := by decide +kernel
theorem dJx4a65c_init_da8c8_5 : decode cJx4a65c_init_da8c8 5 = .ok (.getstatic 39, 3) := by decide +kernel
theorem dJx4a65c_init_da8c8_8 : decode cJx4a65c_init_da8c8 8 = .ok (.putfield 9, 3) := by decide +kernel
theorem dJx4a65c_init_da8c8_11 : decode cJx4a65c_init_da8c8 11 = .ok (.return_, 1) := by decide +kernel
set_option maxRecDepth 20000 in
theorem ggJx4a65c_grow_92f84_J8_newLength_cabcc : GoodIn wsJx4a65c_grow_92f84 wsJ8_newLength_cabcc := goodIn_r _ [11, 12, 4, 5, 6, 13, 14, 15, 10, 16] (by decide +kernel) (by decide +kernel)
set_option maxRecDepth 20000 in
theorem gJx4a65c_grow_92f84_J8_newLength_cabcc : GoodIn wsJx4a65c_grow_92f84 (va_wsS RJx4a65c 73 yJ8_newLength_cabcc wsJ8_newLength_cabcc) := goodIn_app (goodIn_of _ (by decide +kernel)) ggJx4a65c_grow_92f84_J8_newLength_cabcc
set_option maxRecDepth 20000 in
theorem ggJx4a65c_grow_92f84_J7_copyOf_1904c : GoodIn wsJx4a65c_grow_92f84 wsJ7_copyOf_1904c := goodIn_r _ [20, 21, 22, 23, 24, 25, 26, 19, 27, 28, 29, 30, 31, 5, 32, 33, 34, 35, 36] (by decide +kernel) (by decide +kernel)
set_option maxRecDepth 20000 in
theorem gJx4a65c_grow_92f84_J7_copyOf_1904c : GoodIn wsJx4a65c_grow_92f84 (va_wsS RJx4a65c 66 yJ7_copyOf_1904c wsJ7_copyOf_1904c) := goodIn_app (goodIn_of _ (by decide +kernel)) ggJx4a65c_grow_92f84_J7_copyOf_1904c
theorem dJx4a65c_grow_92f84_0 : decode cJx4a65c_grow_92f84 0 = .ok (.aload_n 0, 1) := by decide +kernel
theorem dJx4a65c_grow_92f84_1 : decode cJx4a65c_grow_92f84 1 = .ok (.getfield 9, 3) := by decide +kernel
theorem dJx4a65c_grow_92f84_4 : decode cJx4a65c_grow_92f84 4 = .ok (.arraylength, 1) := by decide +kernel
theorem dJx4a65c_grow_92f84_5 : decode cJx4a65c_grow_92f84 5 = .ok (.istore_n 2, 1) := by decide +kernel
theorem dJx4a65c_grow_92f84_6 : decode cJx4a65c_grow_92f84 6 = .ok (.iload_n 2, 1) := by decide +kernel
theorem dJx4a65c_grow_92f84_7 : decode cJx4a65c_grow_92f84 7 = .ok (.ifCond .gt 13, 3) := by decide +kernel
theorem dJx4a65c_grow_92f84_10 : decode cJx4a65c_grow_92f84 10 = .ok (.aload_n 0, 1) := by decide +kernel
theorem dJx4a65c_grow_92f84_11 : decode cJx4a65c_grow_92f84 11 = .ok (.getfield 9, 3) := by decide +kernel
theorem dJx4a65c_grow_92f84_14 : decode cJx4a65c_grow_92f84 14 = .ok (.getstatic 39, 3) := by decide +kernel
theorem dJx4a65c_grow_92f84_17 : decode cJx4a65c_grow_92f84 17 = .ok (.if_acmp .eq 28, 3) := by decide +kernel
theorem dJx4a65c_grow_92f84_20 : decode cJx4a65c_grow_92f84 20 = .ok (.iload_n 2, 1) := by decide +kernel
theorem dJx4a65c_grow_92f84_21 : decode cJx4a65c_grow_92f84 21 = .ok (.iload_n 1, 1) := by decide +kernel
theorem dJx4a65c_grow_92f84_22 : decode cJx4a65c_grow_92f84 22 = .ok (.iload_n 2, 1) := by decide +kernel
theorem dJx4a65c_grow_92f84_23 : decode cJx4a65c_grow_92f84 23 = .ok (.isub, 1) := by decide +kernel
theorem dJx4a65c_grow_92f84_24 : decode cJx4a65c_grow_92f84 24 = .ok (.iload_n 2, 1) := by decide +kernel
theorem dJx4a65c_grow_92f84_25 : decode cJx4a65c_grow_92f84 25 = .ok (.iconst 1, 1) := by decide +kernel
theorem dJx4a65c_grow_92f84_26 : decode cJx4a65c_grow_92f84 26 = .ok (.ishr, 1) := by decide +kernel
theorem dJx4a65c_grow_92f84_27 : decode cJx4a65c_grow_92f84 27 = .ok (.invokestatic 73, 3) := by decide +kernel
theorem dJx4a65c_grow_92f84_30 : decode cJx4a65c_grow_92f84 30 = .ok (.istore_n 3, 1) := by decide +kernel
theorem dJx4a65c_grow_92f84_31 : decode cJx4a65c_grow_92f84 31 = .ok (.aload_n 0, 1) := by decide +kernel
theorem dJx4a65c_grow_92f84_32 : decode cJx4a65c_grow_92f84 32 = .ok (.aload_n 0, 1) := by decide +kernel
theorem dJx4a65c_grow_92f84_33 : decode cJx4a65c_grow_92f84 33 = .ok (.getfield 9, 3) := by decide +kernel
theorem dJx4a65c_grow_92f84_36 : decode cJx4a65c_grow_92f84 36 = .ok (.iload_n 3, 1) := by decide +kernel
theorem dJx4a65c_grow_92f84_37 : decode cJx4a65c_grow_92f84 37 = .ok (.invokestatic 66, 3) := by decide +kernel
theorem dJx4a65c_grow_92f84_40 : decode cJx4a65c_grow_92f84 40 = .ok (.dup_x1, 1) := by decide +kernel
theorem dJx4a65c_grow_92f84_41 : decode cJx4a65c_grow_92f84 41 = .ok (.putfield 9, 3) := by decide +kernel
theorem dJx4a65c_grow_92f84_44 : decode cJx4a65c_grow_92f84 44 = .ok (.areturn, 1) := by decide +kernel
theorem dJx4a65c_grow_92f84_45 : decode cJx4a65c_grow_92f84 45 = .ok (.aload_n 0, 1) := by decide +kernel
theorem dJx4a65c_grow_92f84_46 : decode cJx4a65c_grow_92f84 46 = .ok (.bipush 10, 2) := by decide +kernel
theorem dJx4a65c_grow_92f84_48 : decode cJx4a65c_grow_92f84 48 = .ok (.iload_n 1, 1) := by decide +kernel
theorem dJx4a65c_grow_92f84_49 : decode cJx4a65c_grow_92f84 49 = .ok (.invokestatic 79, 3) := by decide +kernel
theorem dJx4a65c_grow_92f84_52 : decode cJx4a65c_grow_92f84 52 = .ok (.anewarray 7, 3) := by decide +kernel
theorem dJx4a65c_grow_92f84_55 : decode cJx4a65c_grow_92f84 55 = .ok (.dup_x1, 1) := by decide +kernel
theorem dJx4a65c_grow_92f84_56 : decode cJx4a65c_grow_92f84 56 = .ok (.putfield 9, 3) := by decide +kernel
theorem dJx4a65c_grow_92f84_59 : decode cJx4a65c_grow_92f84 59 = .ok (.areturn, 1) := by decide +kernel
set_option maxRecDepth 20000 in
theorem ggJx4a65c_grow_d5877_Jx4a65c_grow_92f84 : GoodIn wsJx4a65c_grow_d5877 wsJx4a65c_grow_92f84 := goodIn_r _ [6, 7, 8, 9, 10, 11, 12, 13, 14, 15, 16, 17, 18, 19, 20, 21, 22, 23, 24, 25, 26, 27, 28, 29, 30, 31, 32, 33, 34, 35, 36, 37, 38, 39, 40, 41, 42, 43, 44, 45] (by decide +kernel) (by decide +kernel)
set_option maxRecDepth 20000 in
theorem gJx4a65c_grow_d5877_Jx4a65c_grow_92f84 : GoodIn wsJx4a65c_grow_d5877 (wsV RJx4a65c 69 RJx4a65c yJx4a65c_grow_92f84 wsJx4a65c_grow_92f84) := goodIn_app (goodIn_of _ (by decide +kernel)) ggJx4a65c_grow_d5877_Jx4a65c_grow_92f84
theorem dJx4a65c_grow_d5877_0 : decode cJx4a65c_grow_d5877 0 = .ok (.aload_n 0, 1) := by decide +kernel
theorem dJx4a65c_grow_d5877_1 : decode cJx4a65c_grow_d5877 1 = .ok (.aload_n 0, 1) := by decide +kernel
theorem dJx4a65c_grow_d5877_2 : decode cJx4a65c_grow_d5877 2 = .ok (.getfield 48, 3) := by decide +kernel
theorem dJx4a65c_grow_d5877_5 : decode cJx4a65c_grow_d5877 5 = .ok (.iconst 1, 1) := by decide +kernel
theorem dJx4a65c_grow_d5877_6 : decode cJx4a65c_grow_d5877 6 = .ok (.iadd, 1) := by decide +kernel
theorem dJx4a65c_grow_d5877_7 : decode cJx4a65c_grow_d5877 7 = .ok (.invokevirtual 69, 3) := by decide +kernel
theorem dJx4a65c_grow_d5877_10 : decode cJx4a65c_grow_d5877 10 = .ok (.areturn, 1) := by decide +kernel
theorem dJx4a65c_size_8abf5_0 : decode cJx4a65c_size_8abf5 0 = .ok (.aload_n 0, 1) := by decide +kernel
theorem dJx4a65c_size_8abf5_1 : decode cJx4a65c_size_8abf5 1 = .ok (.getfield 48, 3) := by decide +kernel
theorem dJx4a65c_size_8abf5_4 : decode cJx4a65c_size_8abf5 4 = .ok (.ireturn, 1) := by decide +kernel
theorem dJx4a65c_isEmpty_aae02_0 : decode cJx4a65c_isEmpty_aae02 0 = .ok (.aload_n 0, 1) := by decide +kernel
theorem dJx4a65c_isEmpty_aae02_1 : decode cJx4a65c_isEmpty_aae02 1 = .ok (.getfield 48, 3) := by decide +kernel
theorem dJx4a65c_isEmpty_aae02_4 : decode cJx4a65c_isEmpty_aae02 4 = .ok (.ifCond .ne 7, 3) := by decide +kernel
theorem dJx4a65c_isEmpty_aae02_7 : decode cJx4a65c_isEmpty_aae02 7 = .ok (.iconst 1, 1) := by decide +kernel
theorem dJx4a65c_isEmpty_aae02_8 : decode cJx4a65c_isEmpty_aae02 8 = .ok (.goto 4, 3) := by decide +kernel
theorem dJx4a65c_isEmpty_aae02_11 : decode cJx4a65c_isEmpty_aae02 11 = .ok (.iconst 0, 1) := by decide +kernel
theorem dJx4a65c_isEmpty_aae02_12 : decode cJx4a65c_isEmpty_aae02 12 = .ok (.ireturn, 1) := by decide +kernel
theorem dJx4a65c_elementData_915e3_0 : decode cJx4a65c_elementData_915e3 0 = .ok (.aload_n 0, 1) := by decide +kernel
theorem dJx4a65c_elementData_915e3_1 : decode cJx4a65c_elementData_915e3 1 = .ok (.getfield 9, 3) := by decide +kernel
theorem dJx4a65c_elementData_915e3_4 : decode cJx4a65c_elementData_915e3 4 = .ok (.iload_n 1, 1) := by decide +kernel
theorem dJx4a65c_elementData_915e3_5 : decode cJx4a65c_elementData_915e3 5 = .ok (.aaload, 1) := by decide +kernel
theorem dJx4a65c_elementData_915e3_6 : decode cJx4a65c_elementData_915e3 6 = .ok (.areturn, 1) := by decide +kernel
set_option maxRecDepth 20000 in
theorem ggJx4a65c_get_915e3_J15_checkIndex_7cf53 : GoodIn wsJx4a65c_get_915e3 wsJ15_checkIndex_7cf53 := goodIn_r _ [5, 6, 7, 8, 9] (by decide +kernel) (by decide +kernel)
set_option maxRecDepth 20000 in
theorem gJx4a65c_get_915e3_J15_checkIndex_7cf53 : GoodIn wsJx4a65c_get_915e3 (va_wsS RJx4a65c 118 yJ15_checkIndex_7cf53 wsJ15_checkIndex_7cf53) := goodIn_app (goodIn_of _ (by decide +kernel)) ggJx4a65c_get_915e3_J15_checkIndex_7cf53
set_option maxRecDepth 20000 in
theorem ggJx4a65c_get_915e3_Jx4a65c_elementData_915e3 : GoodIn wsJx4a65c_get_915e3 wsJx4a65c_elementData_915e3 := goodIn_r _ [14, 15, 16, 17, 18] (by decide +kernel) (by decide +kernel)
set_option maxRecDepth 20000 in
theorem gJx4a65c_get_915e3_Jx4a65c_elementData_915e3 : GoodIn wsJx4a65c_get_915e3 (wsV RJx4a65c 123 RJx4a65c yJx4a65c_elementData_915e3 wsJx4a65c_elementData_915e3) := goodIn_app (goodIn_of _ (by decide +kernel)) ggJx4a65c_get_915e3_Jx4a65c_elementData_915e3
theorem dJx4a65c_get_915e3_0 : decode cJx4a65c_get_915e3 0 = .ok (.iload_n 1, 1) := by decide +kernel
theorem dJx4a65c_get_915e3_1 : decode cJx4a65c_get_915e3 1 = .ok (.aload_n 0, 1) := by decide +kernel
theorem dJx4a65c_get_915e3_2 : decode cJx4a65c_get_915e3 2 = .ok (.getfield 48, 3) := by decide +kernel
theorem dJx4a65c_get_915e3_5 : decode cJx4a65c_get_915e3 5 = .ok (.invokestatic 118, 3) := by decide +kernel
theorem dJx4a65c_get_915e3_8 : decode cJx4a65c_get_915e3 8 = .ok (.pop, 1) := by decide +kernel
theorem dJx4a65c_get_915e3_9 : decode cJx4a65c_get_915e3 9 = .ok (.aload_n 0, 1) := by decide +kernel
theorem dJx4a65c_get_915e3_10 : decode cJx4a65c_get_915e3 10 = .ok (.iload_n 1, 1) := by decide +kernel
theorem dJx4a65c_get_915e3_11 : decode cJx4a65c_get_915e3 11 = .ok (.invokevirtual 123, 3) := by decide +kernel
theorem dJx4a65c_get_915e3_14 : decode cJx4a65c_get_915e3 14 = .ok (.areturn, 1) := by decide +kernel
set_option maxRecDepth 20000 in
theorem ggJx4a65c_add_72be8_Jx4a65c_grow_d5877 : GoodIn wsJx4a65c_add_72be8 wsJx4a65c_grow_d5877 := goodIn_r _ [6, 1, 7, 8, 9, 5, 10, 11, 12, 13, 14, 15, 16, 17, 18, 19, 20, 21, 22, 23, 24, 25, 26, 27, 28, 29, 30, 31, 32, 33, 34, 35, 36, 37, 38, 39, 40, 41, 42, 43, 44, 45, 46, 47, 48, 49] (by decide +kernel) (by decide +kernel)
set_option maxRecDepth 20000 in
theorem gJx4a65c_add_72be8_Jx4a65c_grow_d5877 : GoodIn wsJx4a65c_add_72be8 (wsV RJx4a65c 129 RJx4a65c yJx4a65c_grow_d5877 wsJx4a65c_grow_d5877) := goodIn_app (goodIn_of _ (by decide +kernel)) ggJx4a65c_add_72be8_Jx4a65c_grow_d5877
theorem dJx4a65c_add_72be8_0 : decode cJx4a65c_add_72be8 0 = .ok (.iload_n 3, 1) := by decide +kernel
theorem dJx4a65c_add_72be8_1 : decode cJx4a65c_add_72be8 1 = .ok (.aload_n 2, 1) := by decide +kernel
theorem dJx4a65c_add_72be8_2 : decode cJx4a65c_add_72be8 2 = .ok (.arraylength, 1) := by decide +kernel
theorem dJx4a65c_add_72be8_3 : decode cJx4a65c_add_72be8 3 = .ok (.if_icmp .ne 8, 3) := by decide +kernel
theorem dJx4a65c_add_72be8_6 : decode cJx4a65c_add_72be8 6 = .ok (.aload_n 0, 1) := by decide +kernel
theorem dJx4a65c_add_72be8_7 : decode cJx4a65c_add_72be8 7 = .ok (.invokevirtual 129, 3) := by decide +kernel
theorem dJx4a65c_add_72be8_10 : decode cJx4a65c_add_72be8 10 = .ok (.astore_n 2, 1) := by decide +kernel
theorem dJx4a65c_add_72be8_11 : decode cJx4a65c_add_72be8 11 = .ok (.aload_n 2, 1) := by decide +kernel
theorem dJx4a65c_add_72be8_12 : decode cJx4a65c_add_72be8 12 = .ok (.iload_n 3, 1) := by decide +kernel
theorem dJx4a65c_add_72be8_13 : decode cJx4a65c_add_72be8 13 = .ok (.aload_n 1, 1) := by decide +kernel
theorem dJx4a65c_add_72be8_14 : decode cJx4a65c_add_72be8 14 = .ok (.aastore, 1) := by decide +kernel
theorem dJx4a65c_add_72be8_15 : decode cJx4a65c_add_72be8 15 = .ok (.aload_n 0, 1) := by decide +kernel
theorem dJx4a65c_add_72be8_16 : decode cJx4a65c_add_72be8 16 = .ok (.iload_n 3, 1) := by decide +kernel
theorem dJx4a65c_add_72be8_17 : decode cJx4a65c_add_72be8 17 = .ok (.iconst 1, 1) := by decide +kernel
theorem dJx4a65c_add_72be8_18 : decode cJx4a65c_add_72be8 18 = .ok (.iadd, 1) := by decide +kernel
theorem dJx4a65c_add_72be8_19 : decode cJx4a65c_add_72be8 19 = .ok (.putfield 48, 3) := by decide +kernel
theorem dJx4a65c_add_72be8_22 : decode cJx4a65c_add_72be8 22 = .ok (.return_, 1) := by decide +kernel
set_option maxRecDepth 20000 in
theorem ggJx4a65c_add_9ea2d_Jx4a65c_add_72be8 : GoodIn wsJx4a65c_add_9ea2d wsJx4a65c_add_72be8 := goodIn_r _ [9, 4, 10, 11, 12, 8, 13, 14, 15, 16, 17, 3, 18, 19, 20, 21, 22, 23, 24, 25, 26, 27, 28, 29, 30, 31, 32, 33, 34, 35, 36, 37, 38, 39, 40, 41, 42, 43, 44, 45, 46, 47, 48, 49, 50, 51, 52, 53, 54, 55] (by decide +kernel) (by decide +kernel)
set_option maxRecDepth 20000 in
theorem gJx4a65c_add_9ea2d_Jx4a65c_add_72be8 : GoodIn wsJx4a65c_add_9ea2d (wsV RJx4a65c 131 RJx4a65c yJx4a65c_add_72be8 wsJx4a65c_add_72be8) := goodIn_app (goodIn_of _ (by decide +kernel)) ggJx4a65c_add_9ea2d_Jx4a65c_add_72be8
theorem dJx4a65c_add_9ea2d_0 : decode cJx4a65c_add_9ea2d 0 = .ok (.aload_n 0, 1) := by decide +kernel
theorem dJx4a65c_add_9ea2d_1 : decode cJx4a65c_add_9ea2d 1 = .ok (.dup, 1) := by decide +kernel
theorem dJx4a65c_add_9ea2d_2 : decode cJx4a65c_add_9ea2d 2 = .ok (.getfield 63, 3) := by decide +kernel
theorem dJx4a65c_add_9ea2d_5 : decode cJx4a65c_add_9ea2d 5 = .ok (.iconst 1, 1) := by decide +kernel
theorem dJx4a65c_add_9ea2d_6 : decode cJx4a65c_add_9ea2d 6 = .ok (.iadd, 1) := by decide +kernel
theorem dJx4a65c_add_9ea2d_7 : decode cJx4a65c_add_9ea2d 7 = .ok (.putfield 63, 3) := by decide +kernel
theorem dJx4a65c_add_9ea2d_10 : decode cJx4a65c_add_9ea2d 10 = .ok (.aload_n 0, 1) := by decide +kernel
theorem dJx4a65c_add_9ea2d_11 : decode cJx4a65c_add_9ea2d 11 = .ok (.aload_n 1, 1) := by decide +kernel
theorem dJx4a65c_add_9ea2d_12 : decode cJx4a65c_add_9ea2d 12 = .ok (.aload_n 0, 1) := by decide +kernel
theorem dJx4a65c_add_9ea2d_13 : decode cJx4a65c_add_9ea2d 13 = .ok (.getfield 9, 3) := by decide +kernel
theorem dJx4a65c_add_9ea2d_16 : decode cJx4a65c_add_9ea2d 16 = .ok (.aload_n 0, 1) := by decide +kernel
theorem dJx4a65c_add_9ea2d_17 : decode cJx4a65c_add_9ea2d 17 = .ok (.getfield 48, 3) := by decide +kernel
theorem dJx4a65c_add_9ea2d_20 : decode cJx4a65c_add_9ea2d 20 = .ok (.invokevirtual 131, 3) := by decide +kernel
theorem dJx4a65c_add_9ea2d_23 : decode cJx4a65c_add_9ea2d 23 = .ok (.iconst 1, 1) := by decide +kernel
theorem dJx4a65c_add_9ea2d_24 : decode cJx4a65c_add_9ea2d 24 = .ok (.ireturn, 1) := by decide +kernel
set_option maxRecDepth 20000 in
theorem ggJx4a65c_add_7a177_Jx4a65c_rangeCheckForAdd_d00df : GoodIn wsJx4a65c_add_7a177 wsJx4a65c_rangeCheckForAdd_d00df := goodIn_r _ [13, 3, 54, 55, 56] (by decide +kernel) (by decide +kernel)
set_option maxRecDepth 20000 in
theorem gJx4a65c_add_7a177_Jx4a65c_rangeCheckForAdd_d00df : GoodIn wsJx4a65c_add_7a177 (wsV RJx4a65c 135 RJx4a65c yJx4a65c_rangeCheckForAdd_d00df wsJx4a65c_rangeCheckForAdd_d00df) := goodIn_app (goodIn_of _ (by decide +kernel)) ggJx4a65c_add_7a177_Jx4a65c_rangeCheckForAdd_d00df
set_option maxRecDepth 20000 in
theorem ggJx4a65c_add_7a177_Jx4a65c_grow_d5877 : GoodIn wsJx4a65c_add_7a177 wsJx4a65c_grow_d5877 := goodIn_r _ [17, 3, 18, 19, 20, 12, 21, 4, 22, 23, 24, 25, 26, 27, 28, 29, 30, 31, 32, 33, 34, 35, 36, 37, 38, 39, 40, 41, 42, 43, 44, 45, 46, 47, 48, 49, 50, 51, 52, 53, 6, 7, 8, 54, 55, 56] (by decide +kernel) (by decide +kernel)
set_option maxRecDepth 20000 in
theorem gJx4a65c_add_7a177_Jx4a65c_grow_d5877 : GoodIn wsJx4a65c_add_7a177 (wsV RJx4a65c 129 RJx4a65c yJx4a65c_grow_d5877 wsJx4a65c_grow_d5877) := goodIn_app (goodIn_of _ (by decide +kernel)) ggJx4a65c_add_7a177_Jx4a65c_grow_d5877
theorem dJx4a65c_add_7a177_0 : decode cJx4a65c_add_7a177 0 = .ok (.aload_n 0, 1) := by decide +kernel
theorem dJx4a65c_add_7a177_1 : decode cJx4a65c_add_7a177 1 = .ok (.iload_n 1, 1) := by decide +kernel
theorem dJx4a65c_add_7a177_2 : decode cJx4a65c_add_7a177 2 = .ok (.invokevirtual 135, 3) := by decide +kernel
theorem dJx4a65c_add_7a177_5 : decode cJx4a65c_add_7a177 5 = .ok (.aload_n 0, 1) := by decide +kernel
theorem dJx4a65c_add_7a177_6 : decode cJx4a65c_add_7a177 6 = .ok (.dup, 1) := by decide +kernel
theorem dJx4a65c_add_7a177_7 : decode cJx4a65c_add_7a177 7 = .ok (.getfield 63, 3) := by decide +kernel
theorem dJx4a65c_add_7a177_10 : decode cJx4a65c_add_7a177 10 = .ok (.iconst 1, 1) := by decide +kernel
theorem dJx4a65c_add_7a177_11 : decode cJx4a65c_add_7a177 11 = .ok (.iadd, 1) := by decide +kernel
theorem dJx4a65c_add_7a177_12 : decode cJx4a65c_add_7a177 12 = .ok (.putfield 63, 3) := by decide +kernel
theorem dJx4a65c_add_7a177_15 : decode cJx4a65c_add_7a177 15 = .ok (.aload_n 0, 1) := by decide +kernel
theorem dJx4a65c_add_7a177_16 : decode cJx4a65c_add_7a177 16 = .ok (.getfield 48, 3) := by decide +kernel
theorem dJx4a65c_add_7a177_19 : decode cJx4a65c_add_7a177 19 = .ok (.dup, 1) := by decide +kernel
theorem dJx4a65c_add_7a177_20 : decode cJx4a65c_add_7a177 20 = .ok (.istore_n 3, 1) := by decide +kernel
theorem dJx4a65c_add_7a177_21 : decode cJx4a65c_add_7a177 21 = .ok (.aload_n 0, 1) := by decide +kernel
theorem dJx4a65c_add_7a177_22 : decode cJx4a65c_add_7a177 22 = .ok (.getfield 9, 3) := by decide +kernel
theorem dJx4a65c_add_7a177_25 : decode cJx4a65c_add_7a177 25 = .ok (.dup, 1) := by decide +kernel
theorem dJx4a65c_add_7a177_26 : decode cJx4a65c_add_7a177 26 = .ok (.astore 4, 2) := by decide +kernel
theorem dJx4a65c_add_7a177_28 : decode cJx4a65c_add_7a177 28 = .ok (.arraylength, 1) := by decide +kernel
theorem dJx4a65c_add_7a177_29 : decode cJx4a65c_add_7a177 29 = .ok (.if_icmp .ne 9, 3) := by decide +kernel
theorem dJx4a65c_add_7a177_32 : decode cJx4a65c_add_7a177 32 = .ok (.aload_n 0, 1) := by decide +kernel
theorem dJx4a65c_add_7a177_33 : decode cJx4a65c_add_7a177 33 = .ok (.invokevirtual 129, 3) := by decide +kernel
theorem dJx4a65c_add_7a177_36 : decode cJx4a65c_add_7a177 36 = .ok (.astore 4, 2) := by decide +kernel
theorem dJx4a65c_add_7a177_38 : decode cJx4a65c_add_7a177 38 = .ok (.aload 4, 2) := by decide +kernel
theorem dJx4a65c_add_7a177_40 : decode cJx4a65c_add_7a177 40 = .ok (.iload_n 1, 1) := by decide +kernel
theorem dJx4a65c_add_7a177_41 : decode cJx4a65c_add_7a177 41 = .ok (.aload 4, 2) := by decide +kernel
theorem dJx4a65c_add_7a177_43 : decode cJx4a65c_add_7a177 43 = .ok (.iload_n 1, 1) := by decide +kernel
theorem dJx4a65c_add_7a177_44 : decode cJx4a65c_add_7a177 44 = .ok (.iconst 1, 1) := by decide +kernel
theorem dJx4a65c_add_7a177_45 : decode cJx4a65c_add_7a177 45 = .ok (.iadd, 1) := by decide +kernel
theorem dJx4a65c_add_7a177_46 : decode cJx4a65c_add_7a177 46 = .ok (.iload_n 3, 1) := by decide +kernel
theorem dJx4a65c_add_7a177_47 : decode cJx4a65c_add_7a177 47 = .ok (.iload_n 1, 1) := by decide +kernel
theorem dJx4a65c_add_7a177_48 : decode cJx4a65c_add_7a177 48 = .ok (.isub, 1) := by decide +kernel
theorem dJx4a65c_add_7a177_49 : decode cJx4a65c_add_7a177 49 = .ok (.invokestatic 112, 3) := by decide +kernel
theorem dJx4a65c_add_7a177_52 : decode cJx4a65c_add_7a177 52 = .ok (.aload 4, 2) := by decide +kernel
theorem dJx4a65c_add_7a177_54 : decode cJx4a65c_add_7a177 54 = .ok (.iload_n 1, 1) := by decide +kernel
theorem dJx4a65c_add_7a177_55 : decode cJx4a65c_add_7a177 55 = .ok (.aload_n 2, 1) := by decide +kernel
theorem dJx4a65c_add_7a177_56 : decode cJx4a65c_add_7a177 56 = .ok (.aastore, 1) := by decide +kernel
theorem dJx4a65c_add_7a177_57 : decode cJx4a65c_add_7a177 57 = .ok (.aload_n 0, 1) := by decide +kernel
theorem dJx4a65c_add_7a177_58 : decode cJx4a65c_add_7a177 58 = .ok (.iload_n 3, 1) := by decide +kernel
theorem dJx4a65c_add_7a177_59 : decode cJx4a65c_add_7a177 59 = .ok (.iconst 1, 1) := by decide +kernel
theorem dJx4a65c_add_7a177_60 : decode cJx4a65c_add_7a177 60 = .ok (.iadd, 1) := by decide +kernel
theorem dJx4a65c_add_7a177_61 : decode cJx4a65c_add_7a177 61 = .ok (.putfield 48, 3) := by decide +kernel
theorem dJx4a65c_add_7a177_64 : decode cJx4a65c_add_7a177 64 = .ok (.return_, 1) := by decide +kernel
set_option maxRecDepth 20000 in
theorem ggJx4a65c_remove_915e3_J15_checkIndex_7cf53 : GoodIn wsJx4a65c_remove_915e3 wsJ15_checkIndex_7cf53 := goodIn_r _ [6, 7, 8, 9, 10] (by decide +kernel) (by decide +kernel)
set_option maxRecDepth 20000 in
theorem gJx4a65c_remove_915e3_J15_checkIndex_7cf53 : GoodIn wsJx4a65c_remove_915e3 (va_wsS RJx4a65c 118 yJ15_checkIndex_7cf53 wsJ15_checkIndex_7cf53) := goodIn_app (goodIn_of _ (by decide +kernel)) ggJx4a65c_remove_915e3_J15_checkIndex_7cf53
set_option maxRecDepth 20000 in
theorem ggJx4a65c_remove_915e3_Jx4a65c_fastRemove_b59b0 : GoodIn wsJx4a65c_remove_915e3 wsJx4a65c_fastRemove_b59b0 := goodIn_r _ [15, 16, 17, 1, 18, 19, 20, 21, 22, 23, 24] (by decide +kernel) (by decide +kernel)
set_option maxRecDepth 20000 in
theorem gJx4a65c_remove_915e3_Jx4a65c_fastRemove_b59b0 : GoodIn wsJx4a65c_remove_915e3 (wsV RJx4a65c 144 RJx4a65c yJx4a65c_fastRemove_b59b0 wsJx4a65c_fastRemove_b59b0) := goodIn_app (goodIn_of _ (by decide +kernel)) ggJx4a65c_remove_915e3_Jx4a65c_fastRemove_b59b0
theorem dJx4a65c_remove_915e3_0 : decode cJx4a65c_remove_915e3 0 = .ok (.iload_n 1, 1) := by decide +kernel
theorem dJx4a65c_remove_915e3_1 : decode cJx4a65c_remove_915e3 1 = .ok (.aload_n 0, 1) := by decide +kernel
theorem dJx4a65c_remove_915e3_2 : decode cJx4a65c_remove_915e3 2 = .ok (.getfield 48, 3) := by decide +kernel
theorem dJx4a65c_remove_915e3_5 : decode cJx4a65c_remove_915e3 5 = .ok (.invokestatic 118, 3) := by decide +kernel
theorem dJx4a65c_remove_915e3_8 : decode cJx4a65c_remove_915e3 8 = .ok (.pop, 1) := by decide +kernel
theorem dJx4a65c_remove_915e3_9 : decode cJx4a65c_remove_915e3 9 = .ok (.aload_n 0, 1) := by decide +kernel
theorem dJx4a65c_remove_915e3_10 : decode cJx4a65c_remove_915e3 10 = .ok (.getfield 9, 3) := by decide +kernel
theorem dJx4a65c_remove_915e3_13 : decode cJx4a65c_remove_915e3 13 = .ok (.astore_n 2, 1) := by decide +kernel
theorem dJx4a65c_remove_915e3_14 : decode cJx4a65c_remove_915e3 14 = .ok (.aload_n 2, 1) := by decide +kernel
theorem dJx4a65c_remove_915e3_15 : decode cJx4a65c_remove_915e3 15 = .ok (.iload_n 1, 1) := by decide +kernel
theorem dJx4a65c_remove_915e3_16 : decode cJx4a65c_remove_915e3 16 = .ok (.aaload, 1) := by decide +kernel
theorem dJx4a65c_remove_915e3_17 : decode cJx4a65c_remove_915e3 17 = .ok (.astore_n 3, 1) := by decide +kernel
theorem dJx4a65c_remove_915e3_18 : decode cJx4a65c_remove_915e3 18 = .ok (.aload_n 0, 1) := by decide +kernel
theorem dJx4a65c_remove_915e3_19 : decode cJx4a65c_remove_915e3 19 = .ok (.aload_n 2, 1) := by decide +kernel
theorem dJx4a65c_remove_915e3_20 : decode cJx4a65c_remove_915e3 20 = .ok (.iload_n 1, 1) := by decide +kernel
theorem dJx4a65c_remove_915e3_21 : decode cJx4a65c_remove_915e3 21 = .ok (.invokevirtual 144, 3) := by decide +kernel
theorem dJx4a65c_remove_915e3_24 : decode cJx4a65c_remove_915e3 24 = .ok (.aload_n 3, 1) := by decide +kernel
theorem dJx4a65c_remove_915e3_25 : decode cJx4a65c_remove_915e3 25 = .ok (.areturn, 1) := by decide +kernel
theorem dJx4a65c_fastRemove_b59b0_0 : decode cJx4a65c_fastRemove_b59b0 0 = .ok (.aload_n 0, 1) := by decide +kernel
theorem dJx4a65c_fastRemove_b59b0_1 : decode cJx4a65c_fastRemove_b59b0 1 = .ok (.dup, 1) := by decide +kernel
theorem dJx4a65c_fastRemove_b59b0_2 : decode cJx4a65c_fastRemove_b59b0 2 = .ok (.getfield 63, 3) := by decide +kernel
theorem dJx4a65c_fastRemove_b59b0_5 : decode cJx4a65c_fastRemove_b59b0 5 = .ok (.iconst 1, 1) := by decide +kernel
theorem dJx4a65c_fastRemove_b59b0_6 : decode cJx4a65c_fastRemove_b59b0 6 = .ok (.iadd, 1) := by decide +kernel
theorem dJx4a65c_fastRemove_b59b0_7 : decode cJx4a65c_fastRemove_b59b0 7 = .ok (.putfield 63, 3) := by decide +kernel
theorem dJx4a65c_fastRemove_b59b0_10 : decode cJx4a65c_fastRemove_b59b0 10 = .ok (.aload_n 0, 1) := by decide +kernel
theorem dJx4a65c_fastRemove_b59b0_11 : decode cJx4a65c_fastRemove_b59b0 11 = .ok (.getfield 48, 3) := by decide +kernel
theorem dJx4a65c_fastRemove_b59b0_14 : decode cJx4a65c_fastRemove_b59b0 14 = .ok (.iconst 1, 1) := by decide +kernel
theorem dJx4a65c_fastRemove_b59b0_15 : decode cJx4a65c_fastRemove_b59b0 15 = .ok (.isub, 1) := by decide +kernel
theorem dJx4a65c_fastRemove_b59b0_16 : decode cJx4a65c_fastRemove_b59b0 16 = .ok (.dup, 1) := by decide +kernel
theorem dJx4a65c_fastRemove_b59b0_17 : decode cJx4a65c_fastRemove_b59b0 17 = .ok (.istore_n 3, 1) := by decide +kernel
theorem dJx4a65c_fastRemove_b59b0_18 : decode cJx4a65c_fastRemove_b59b0 18 = .ok (.iload_n 2, 1) := by decide +kernel
theorem dJx4a65c_fastRemove_b59b0_19 : decode cJx4a65c_fastRemove_b59b0 19 = .ok (.if_icmp .le 15, 3) := by decide +kernel
theorem dJx4a65c_fastRemove_b59b0_22 : decode cJx4a65c_fastRemove_b59b0 22 = .ok (.aload_n 1, 1) := by decide +kernel
theorem dJx4a65c_fastRemove_b59b0_23 : decode cJx4a65c_fastRemove_b59b0 23 = .ok (.iload_n 2, 1) := by decide +kernel
theorem dJx4a65c_fastRemove_b59b0_24 : decode cJx4a65c_fastRemove_b59b0 24 = .ok (.iconst 1, 1) := by decide +kernel
theorem dJx4a65c_fastRemove_b59b0_25 : decode cJx4a65c_fastRemove_b59b0 25 = .ok (.iadd, 1) := by decide +kernel
theorem dJx4a65c_fastRemove_b59b0_26 : decode cJx4a65c_fastRemove_b59b0 26 = .ok (.aload_n 1, 1) := by decide +kernel
theorem dJx4a65c_fastRemove_b59b0_27 : decode cJx4a65c_fastRemove_b59b0 27 = .ok (.iload_n 2, 1) := by decide +kernel
theorem dJx4a65c_fastRemove_b59b0_28 : decode cJx4a65c_fastRemove_b59b0 28 = .ok (.iload_n 3, 1) := by decide +kernel
theorem dJx4a65c_fastRemove_b59b0_29 : decode cJx4a65c_fastRemove_b59b0 29 = .ok (.iload_n 2, 1) := by decide +kernel
theorem dJx4a65c_fastRemove_b59b0_30 : decode cJx4a65c_fastRemove_b59b0 30 = .ok (.isub, 1) := by decide +kernel
theorem dJx4a65c_fastRemove_b59b0_31 : decode cJx4a65c_fastRemove_b59b0 31 = .ok (.invokestatic 112, 3) := by decide +kernel
theorem dJx4a65c_fastRemove_b59b0_34 : decode cJx4a65c_fastRemove_b59b0 34 = .ok (.aload_n 1, 1) := by decide +kernel
theorem dJx4a65c_fastRemove_b59b0_35 : decode cJx4a65c_fastRemove_b59b0 35 = .ok (.aload_n 0, 1) := by decide +kernel
theorem dJx4a65c_fastRemove_b59b0_36 : decode cJx4a65c_fastRemove_b59b0 36 = .ok (.iload_n 3, 1) := by decide +kernel
theorem dJx4a65c_fastRemove_b59b0_37 : decode cJx4a65c_fastRemove_b59b0 37 = .ok (.dup_x1, 1) := by decide +kernel
theorem dJx4a65c_fastRemove_b59b0_38 : decode cJx4a65c_fastRemove_b59b0 38 = .ok (.putfield 48, 3) := by decide +kernel
theorem dJx4a65c_fastRemove_b59b0_41 : decode cJx4a65c_fastRemove_b59b0 41 = .ok (.aconst_null, 1) := by decide +kernel
theorem dJx4a65c_fastRemove_b59b0_42 : decode cJx4a65c_fastRemove_b59b0 42 = .ok (.aastore, 1) := by decide +kernel
theorem dJx4a65c_fastRemove_b59b0_43 : decode cJx4a65c_fastRemove_b59b0 43 = .ok (.return_, 1) := by decide +kernel
theorem dJx4a65c_clear_da8c8_0 : decode cJx4a65c_clear_da8c8 0 = .ok (.aload_n 0, 1) := by decide +kernel
theorem dJx4a65c_clear_da8c8_1 : decode cJx4a65c_clear_da8c8 1 = .ok (.dup, 1) := by decide +kernel
theorem dJx4a65c_clear_da8c8_2 : decode cJx4a65c_clear_da8c8 2 = .ok (.getfield 63, 3) := by decide +kernel
theorem dJx4a65c_clear_da8c8_5 : decode cJx4a65c_clear_da8c8 5 = .ok (.iconst 1, 1) := by decide +kernel
theorem dJx4a65c_clear_da8c8_6 : decode cJx4a65c_clear_da8c8 6 = .ok (.iadd, 1) := by decide +kernel
theorem dJx4a65c_clear_da8c8_7 : decode cJx4a65c_clear_da8c8 7 = .ok (.putfield 63, 3) := by decide +kernel
theorem dJx4a65c_clear_da8c8_10 : decode cJx4a65c_clear_da8c8 10 = .ok (.aload_n 0, 1) := by decide +kernel
theorem dJx4a65c_clear_da8c8_11 : decode cJx4a65c_clear_da8c8 11 = .ok (.getfield 9, 3) := by decide +kernel
theorem dJx4a65c_clear_da8c8_14 : decode cJx4a65c_clear_da8c8 14 = .ok (.astore_n 1, 1) := by decide +kernel
theorem dJx4a65c_clear_da8c8_15 : decode cJx4a65c_clear_da8c8 15 = .ok (.aload_n 0, 1) := by decide +kernel
theorem dJx4a65c_clear_da8c8_16 : decode cJx4a65c_clear_da8c8 16 = .ok (.getfield 48, 3) := by decide +kernel
theorem dJx4a65c_clear_da8c8_19 : decode cJx4a65c_clear_da8c8 19 = .ok (.istore_n 2, 1) := by decide +kernel
theorem dJx4a65c_clear_da8c8_20 : decode cJx4a65c_clear_da8c8 20 = .ok (.aload_n 0, 1) := by decide +kernel
theorem dJx4a65c_clear_da8c8_21 : decode cJx4a65c_clear_da8c8 21 = .ok (.iconst 0, 1) := by decide +kernel
theorem dJx4a65c_clear_da8c8_22 : decode cJx4a65c_clear_da8c8 22 = .ok (.dup_x1, 1) := by decide +kernel
theorem dJx4a65c_clear_da8c8_23 : decode cJx4a65c_clear_da8c8 23 = .ok (.putfield 48, 3) := by decide +kernel
theorem dJx4a65c_clear_da8c8_26 : decode cJx4a65c_clear_da8c8 26 = .ok (.istore_n 3, 1) := by decide +kernel
theorem dJx4a65c_clear_da8c8_27 : decode cJx4a65c_clear_da8c8 27 = .ok (.iload_n 3, 1) := by decide +kernel
theorem dJx4a65c_clear_da8c8_28 : decode cJx4a65c_clear_da8c8 28 = .ok (.iload_n 2, 1) := by decide +kernel
theorem dJx4a65c_clear_da8c8_29 : decode cJx4a65c_clear_da8c8 29 = .ok (.if_icmp .ge 13, 3) := by decide +kernel
theorem dJx4a65c_clear_da8c8_32 : decode cJx4a65c_clear_da8c8 32 = .ok (.aload_n 1, 1) := by decide +kernel
theorem dJx4a65c_clear_da8c8_33 : decode cJx4a65c_clear_da8c8 33 = .ok (.iload_n 3, 1) := by decide +kernel
theorem dJx4a65c_clear_da8c8_34 : decode cJx4a65c_clear_da8c8 34 = .ok (.aconst_null, 1) := by decide +kernel
theorem dJx4a65c_clear_da8c8_35 : decode cJx4a65c_clear_da8c8 35 = .ok (.aastore, 1) := by decide +kernel
theorem dJx4a65c_clear_da8c8_36 : decode cJx4a65c_clear_da8c8 36 = .ok (.iinc 3 1, 3) := by decide +kernel
theorem dJx4a65c_clear_da8c8_39 : decode cJx4a65c_clear_da8c8 39 = .ok (.goto (-12), 3) := by decide +kernel
theorem dJx4a65c_clear_da8c8_42 : decode cJx4a65c_clear_da8c8 42 = .ok (.return_, 1) := by decide +kernel
theorem dJx4a65c_rangeCheckForAdd_d00df_0 : decode cJx4a65c_rangeCheckForAdd_d00df 0 = .ok (.iload_n 1, 1) := by decide +kernel
theorem dJx4a65c_rangeCheckForAdd_d00df_1 : decode cJx4a65c_rangeCheckForAdd_d00df 1 = .ok (.aload_n 0, 1) := by decide +kernel
theorem dJx4a65c_rangeCheckForAdd_d00df_2 : decode cJx4a65c_rangeCheckForAdd_d00df 2 = .ok (.getfield 48, 3) := by decide +kernel
theorem dJx4a65c_rangeCheckForAdd_d00df_5 : decode cJx4a65c_rangeCheckForAdd_d00df 5 = .ok (.if_icmp .gt 7, 3) := by decide +kernel
theorem dJx4a65c_rangeCheckForAdd_d00df_8 : decode cJx4a65c_rangeCheckForAdd_d00df 8 = .ok (.iload_n 1, 1) := by decide +kernel
theorem dJx4a65c_rangeCheckForAdd_d00df_9 : decode cJx4a65c_rangeCheckForAdd_d00df 9 = .ok (.ifCond .ge 16, 3) := by decide +kernel
theorem dJx4a65c_rangeCheckForAdd_d00df_12 : decode cJx4a65c_rangeCheckForAdd_d00df 12 = .ok (.new 187, 3) := by decide +kernel
theorem dJx4a65c_rangeCheckForAdd_d00df_15 : decode cJx4a65c_rangeCheckForAdd_d00df 15 = .ok (.dup, 1) := by decide +kernel
theorem dJx4a65c_rangeCheckForAdd_d00df_16 : decode cJx4a65c_rangeCheckForAdd_d00df 16 = .ok (.aload_n 0, 1) := by decide +kernel
theorem dJx4a65c_rangeCheckForAdd_d00df_17 : decode cJx4a65c_rangeCheckForAdd_d00df 17 = .ok (.iload_n 1, 1) := by decide +kernel
theorem dJx4a65c_rangeCheckForAdd_d00df_18 : decode cJx4a65c_rangeCheckForAdd_d00df 18 = .ok (.invokevirtual 198, 3) := by decide +kernel
theorem dJx4a65c_rangeCheckForAdd_d00df_21 : decode cJx4a65c_rangeCheckForAdd_d00df 21 = .ok (.invokespecial 193, 3) := by decide +kernel
theorem dJx4a65c_rangeCheckForAdd_d00df_24 : decode cJx4a65c_rangeCheckForAdd_d00df 24 = .ok (.athrow, 1) := by decide +kernel
theorem dJx4a65c_rangeCheckForAdd_d00df_25 : decode cJx4a65c_rangeCheckForAdd_d00df 25 = .ok (.return_, 1) := by decide +kernel
set_option maxRecDepth 20000 in
theorem ggJx4a65c_outOfBoundsMsg_b52d3_J4_init_da8c8 : GoodIn wsJx4a65c_outOfBoundsMsg_b52d3 wsJ4_init_da8c8 := goodIn_r _ [7, 8, 9, 10, 11, 12, 13, 14, 15, 16, 17, 18, 19, 20, 21, 22, 23, 24, 25, 26, 237, 238, 239, 240] (by decide +kernel) (by decide +kernel)
set_option maxRecDepth 20000 in
theorem gJx4a65c_outOfBoundsMsg_b52d3_J4_init_da8c8 : GoodIn wsJx4a65c_outOfBoundsMsg_b52d3 (wsJ4_init_da8c8) := ggJx4a65c_outOfBoundsMsg_b52d3_J4_init_da8c8
set_option maxRecDepth 20000 in
theorem ggJx4a65c_outOfBoundsMsg_b52d3_J4_append_15ec4 : GoodIn wsJx4a65c_outOfBoundsMsg_b52d3 wsJ4_append_15ec4 := goodIn_r _ [30, 31, 32, 33, 34, 10, 35, 36, 37, 38, 39, 40, 41, 17, 42, 43, 44, 45, 46, 18, 47, 48, 49, 50, 51, 52, 53, 54, 55, 56, 57, 58, 59, 60, 61, 62, 63, 64, 65, 66, 67, 68, 69, 70, 71, 72, 73, 74, 16, 75, 76, 77, 78, 79, 80, 81, 82, 83, 84, 85, 86, 15, 87, 88, 21, 89, 90, 91, 92, 93, 94, 95, 96, 97, 98, 99, 100, 101, 102, 103, 104, 105, 106, 107, 108, 109, 110, 111, 112, 113, 114, 115, 116, 117, 118, 119, 120, 121, 122, 123, 124, 125, 126, 127, 128, 129, 130, 131, 132, 133, 134, 135, 136, 137, 19, 20, 22, 23, 24, 25, 26, 138, 139, 140, 141, 142, 143, 144, 145, 146, 147, 148, 149, 150, 151, 152, 153, 154, 155, 156, 157, 158, 159, 237, 238, 239, 240, 244, 245, 246, 247] (by decide +kernel) (by decide +kernel)
set_option maxRecDepth 20000 in
theorem gJx4a65c_outOfBoundsMsg_b52d3_J4_append_15ec4 : GoodIn wsJx4a65c_outOfBoundsMsg_b52d3 (wsV RJx4a65c 25 RJ4 yJ4_append_15ec4 wsJ4_append_15ec4) := goodIn_app (goodIn_of _ (by decide +kernel)) ggJx4a65c_outOfBoundsMsg_b52d3_J4_append_15ec4
set_option maxRecDepth 20000 in
theorem ggJx4a65c_outOfBoundsMsg_b52d3_J4_append_bf812 : GoodIn wsJx4a65c_outOfBoundsMsg_b52d3 wsJ4_append_bf812 := goodIn_r _ [163, 164, 165, 33, 166, 10, 167, 36, 17, 168, 169, 170, 171, 42, 43, 44, 45, 46, 18, 47, 48, 49, 50, 51, 52, 53, 54, 55, 56, 57, 58, 59, 60, 61, 62, 63, 64, 65, 66, 67, 68, 69, 70, 71, 72, 73, 74, 16, 75, 76, 77, 78, 79, 80, 81, 82, 83, 84, 85, 86, 15, 172, 173, 174, 175, 176, 177, 178, 21, 179, 90, 91, 92, 93, 94, 95, 96, 97, 98, 99, 100, 101, 102, 103, 104, 105, 180, 181, 182, 183, 184, 106, 107, 108, 109, 110, 237, 238, 239, 240] (by decide +kernel) (by decide +kernel)
set_option maxRecDepth 20000 in
theorem gJx4a65c_outOfBoundsMsg_b52d3_J4_append_bf812 : GoodIn wsJx4a65c_outOfBoundsMsg_b52d3 (wsV RJx4a65c 29 RJ4 yJ4_append_bf812 wsJ4_append_bf812) := goodIn_app (goodIn_of _ (by decide +kernel)) ggJx4a65c_outOfBoundsMsg_b52d3_J4_append_bf812
set_option maxRecDepth 20000 in
theorem ggJx4a65c_outOfBoundsMsg_b52d3_J4_toString_0e30d : GoodIn wsJx4a65c_outOfBoundsMsg_b52d3 wsJ4_toString_0e30d := goodIn_r _ [188, 189, 190, 99, 191, 192, 193, 194, 195, 196, 197, 13, 14, 121, 115, 120, 198, 199, 200, 201, 202, 10, 203, 17, 204, 205, 206, 207, 208, 3, 209, 210, 33, 211, 212, 36, 213, 83, 84, 85, 86, 15, 18, 214, 215, 67, 216, 69, 70, 71, 72, 73, 74, 217, 218, 219, 16, 75, 76, 59, 77, 78, 79, 80, 81, 220, 221, 222, 223, 2, 224, 225, 21, 226, 227, 228, 229, 145, 146, 147, 94, 95, 96, 148, 149, 150, 101, 151, 152, 104, 153, 230, 231, 232, 90, 109, 110, 23, 24, 25, 26, 233, 234, 235, 236, 244, 245, 246, 247, 237, 238, 239, 240] (by decide +kernel) (by decide +kernel)
set_option maxRecDepth 20000 in
theorem gJx4a65c_outOfBoundsMsg_b52d3_J4_toString_0e30d : GoodIn wsJx4a65c_outOfBoundsMsg_b52d3 (wsV RJx4a65c 32 RJ4 yJ4_toString_0e30d wsJ4_toString_0e30d) := goodIn_app (goodIn_of _ (by decide +kernel)) ggJx4a65c_outOfBoundsMsg_b52d3_J4_toString_0e30d
theorem dJx4a65c_outOfBoundsMsg_b52d3_0 : decode cJx4a65c_outOfBoundsMsg_b52d3 0 = .ok (.new 20, 3) := by decide +kernel
theorem dJx4a65c_outOfBoundsMsg_b52d3_3 : decode cJx4a65c_outOfBoundsMsg_b52d3 3 = .ok (.dup, 1) := by decide +kernel
theorem dJx4a65c_outOfBoundsMsg_b52d3_4 : decode cJx4a65c_outOfBoundsMsg_b52d3 4 = .ok (.invokespecial 22, 3) := by decide +kernel
theorem dJx4a65c_outOfBoundsMsg_b52d3_7 : decode cJx4a65c_outOfBoundsMsg_b52d3 7 = .ok (.ldc 201, 2) := by decide +kernel
theorem dJx4a65c_outOfBoundsMsg_b52d3_9 : decode cJx4a65c_outOfBoundsMsg_b52d3 9 = .ok (.invokevirtual 25, 3) := by decide +kernel
theorem dJx4a65c_outOfBoundsMsg_b52d3_12 : decode cJx4a65c_outOfBoundsMsg_b52d3 12 = .ok (.iload_n 1, 1) := by decide +kernel
theorem dJx4a65c_outOfBoundsMsg_b52d3_13 : decode cJx4a65c_outOfBoundsMsg_b52d3 13 = .ok (.invokevirtual 29, 3) := by decide +kernel
theorem dJx4a65c_outOfBoundsMsg_b52d3_16 : decode cJx4a65c_outOfBoundsMsg_b52d3 16 = .ok (.ldc 203, 2) := by decide +kernel
theorem dJx4a65c_outOfBoundsMsg_b52d3_18 : decode cJx4a65c_outOfBoundsMsg_b52d3 18 = .ok (.invokevirtual 25, 3) := by decide +kernel
theorem dJx4a65c_outOfBoundsMsg_b52d3_21 : decode cJx4a65c_outOfBoundsMsg_b52d3 21 = .ok (.aload_n 0, 1) := by decide +kernel
theorem dJx4a65c_outOfBoundsMsg_b52d3_22 : decode cJx4a65c_outOfBoundsMsg_b52d3 22 = .ok (.getfield 48, 3) := by decide +kernel
theorem dJx4a65c_outOfBoundsMsg_b52d3_25 : decode cJx4a65c_outOfBoundsMsg_b52d3 25 = .ok (.invokevirtual 29, 3) := by decide +kernel
theorem dJx4a65c_outOfBoundsMsg_b52d3_28 : decode cJx4a65c_outOfBoundsMsg_b52d3 28 = .ok (.invokevirtual 32, 3) := by decide +kernel
theorem dJx4a65c_outOfBoundsMsg_b52d3_31 : decode cJx4a65c_outOfBoundsMsg_b52d3 31 = .ok (.areturn, 1) := by decide +kernel
theorem dJ7_rangeCheck_23922_0 : decode cJ7_rangeCheck_23922 0 = .ok (.iload_n 1, 1) := by decide +kernel
theorem dJ7_rangeCheck_23922_1 : decode cJ7_rangeCheck_23922 1 = .ok (.iload_n 2, 1) := by decide +kernel
theorem dJ7_rangeCheck_23922_2 : decode cJ7_rangeCheck_23922 2 = .ok (.if_icmp .le 44, 3) := by decide +kernel
theorem dJ7_rangeCheck_23922_5 : decode cJ7_rangeCheck_23922 5 = .ok (.new 43, 3) := by decide +kernel
theorem dJ7_rangeCheck_23922_8 : decode cJ7_rangeCheck_23922 8 = .ok (.dup, 1) := by decide +kernel
theorem dJ7_rangeCheck_23922_9 : decode cJ7_rangeCheck_23922 9 = .ok (.new 45, 3) := by decide +kernel
theorem dJ7_rangeCheck_23922_12 : decode cJ7_rangeCheck_23922 12 = .ok (.dup, 1) := by decide +kernel
theorem dJ7_rangeCheck_23922_13 : decode cJ7_rangeCheck_23922 13 = .ok (.invokespecial 47, 3) := by decide +kernel
theorem dJ7_rangeCheck_23922_16 : decode cJ7_rangeCheck_23922 16 = .ok (.ldc 48, 2) := by decide +kernel
theorem dJ7_rangeCheck_23922_18 : decode cJ7_rangeCheck_23922 18 = .ok (.invokevirtual 50, 3) := by decide +kernel
theorem dJ7_rangeCheck_23922_21 : decode cJ7_rangeCheck_23922 21 = .ok (.iload_n 1, 1) := by decide +kernel
theorem dJ7_rangeCheck_23922_22 : decode cJ7_rangeCheck_23922 22 = .ok (.invokevirtual 54, 3) := by decide +kernel
theorem dJ7_rangeCheck_23922_25 : decode cJ7_rangeCheck_23922 25 = .ok (.ldc 57, 2) := by decide +kernel
theorem dJ7_rangeCheck_23922_27 : decode cJ7_rangeCheck_23922 27 = .ok (.invokevirtual 50, 3) := by decide +kernel
theorem dJ7_rangeCheck_23922_30 : decode cJ7_rangeCheck_23922 30 = .ok (.iload_n 2, 1) := by decide +kernel
theorem dJ7_rangeCheck_23922_31 : decode cJ7_rangeCheck_23922 31 = .ok (.invokevirtual 54, 3) := by decide +kernel
theorem dJ7_rangeCheck_23922_34 : decode cJ7_rangeCheck_23922 34 = .ok (.ldc 59, 2) := by decide +kernel
theorem dJ7_rangeCheck_23922_36 : decode cJ7_rangeCheck_23922 36 = .ok (.invokevirtual 50, 3) := by decide +kernel
theorem dJ7_rangeCheck_23922_39 : decode cJ7_rangeCheck_23922 39 = .ok (.invokevirtual 61, 3) := by decide +kernel
theorem dJ7_rangeCheck_23922_42 : decode cJ7_rangeCheck_23922 42 = .ok (.invokespecial 65, 3) := by decide +kernel
theorem dJ7_rangeCheck_23922_45 : decode cJ7_rangeCheck_23922 45 = .ok (.athrow, 1) := by decide +kernel
theorem dJ7_rangeCheck_23922_46 : decode cJ7_rangeCheck_23922 46 = .ok (.iload_n 1, 1) := by decide +kernel
theorem dJ7_rangeCheck_23922_47 : decode cJ7_rangeCheck_23922 47 = .ok (.ifCond .ge 12, 3) := by decide +kernel
theorem dJ7_rangeCheck_23922_50 : decode cJ7_rangeCheck_23922 50 = .ok (.new 68, 3) := by decide +kernel
theorem dJ7_rangeCheck_23922_53 : decode cJ7_rangeCheck_23922 53 = .ok (.dup, 1) := by decide +kernel
theorem dJ7_rangeCheck_23922_54 : decode cJ7_rangeCheck_23922 54 = .ok (.iload_n 1, 1) := by decide +kernel
theorem dJ7_rangeCheck_23922_55 : decode cJ7_rangeCheck_23922 55 = .ok (.invokespecial 70, 3) := by decide +kernel
theorem dJ7_rangeCheck_23922_58 : decode cJ7_rangeCheck_23922 58 = .ok (.athrow, 1) := by decide +kernel
theorem dJ7_rangeCheck_23922_59 : decode cJ7_rangeCheck_23922 59 = .ok (.iload_n 2, 1) := by decide +kernel
theorem dJ7_rangeCheck_23922_60 : decode cJ7_rangeCheck_23922 60 = .ok (.iload_n 0, 1) := by decide +kernel
theorem dJ7_rangeCheck_23922_61 : decode cJ7_rangeCheck_23922 61 = .ok (.if_icmp .le 12, 3) := by decide +kernel
theorem dJ7_rangeCheck_23922_64 : decode cJ7_rangeCheck_23922 64 = .ok (.new 68, 3) := by decide +kernel
theorem dJ7_rangeCheck_23922_67 : decode cJ7_rangeCheck_23922 67 = .ok (.dup, 1) := by decide +kernel
theorem dJ7_rangeCheck_23922_68 : decode cJ7_rangeCheck_23922 68 = .ok (.iload_n 2, 1) := by decide +kernel
theorem dJ7_rangeCheck_23922_69 : decode cJ7_rangeCheck_23922 69 = .ok (.invokespecial 70, 3) := by decide +kernel
theorem dJ7_rangeCheck_23922_72 : decode cJ7_rangeCheck_23922 72 = .ok (.athrow, 1) := by decide +kernel
theorem dJ7_rangeCheck_23922_73 : decode cJ7_rangeCheck_23922 73 = .ok (.return_, 1) := by decide +kernel
theorem dJ7_fill_53178_0 : decode cJ7_fill_53178 0 = .ok (.iconst 0, 1) := by decide +kernel
theorem dJ7_fill_53178_1 : decode cJ7_fill_53178 1 = .ok (.istore_n 2, 1) := by decide +kernel
theorem dJ7_fill_53178_2 : decode cJ7_fill_53178 2 = .ok (.aload_n 0, 1) := by decide +kernel
theorem dJ7_fill_53178_3 : decode cJ7_fill_53178 3 = .ok (.arraylength, 1) := by decide +kernel
theorem dJ7_fill_53178_4 : decode cJ7_fill_53178 4 = .ok (.istore_n 3, 1) := by decide +kernel
theorem dJ7_fill_53178_5 : decode cJ7_fill_53178 5 = .ok (.iload_n 2, 1) := by decide +kernel
theorem dJ7_fill_53178_6 : decode cJ7_fill_53178 6 = .ok (.iload_n 3, 1) := by decide +kernel
theorem dJ7_fill_53178_7 : decode cJ7_fill_53178 7 = .ok (.if_icmp .ge 13, 3) := by decide +kernel
theorem dJ7_fill_53178_10 : decode cJ7_fill_53178 10 = .ok (.aload_n 0, 1) := by decide +kernel
theorem dJ7_fill_53178_11 : decode cJ7_fill_53178 11 = .ok (.iload_n 2, 1) := by decide +kernel
theorem dJ7_fill_53178_12 : decode cJ7_fill_53178 12 = .ok (.iload_n 1, 1) := by decide +kernel
theorem dJ7_fill_53178_13 : decode cJ7_fill_53178 13 = .ok (.iastore, 1) := by decide +kernel
theorem dJ7_fill_53178_14 : decode cJ7_fill_53178 14 = .ok (.iinc 2 1, 3) := by decide +kernel
theorem dJ7_fill_53178_17 : decode cJ7_fill_53178 17 = .ok (.goto (-12), 3) := by decide +kernel
theorem dJ7_fill_53178_20 : decode cJ7_fill_53178 20 = .ok (.return_, 1) := by decide +kernel
set_option maxRecDepth 20000 in
theorem ggJ7_fill_eb02e_J7_rangeCheck_23922 : GoodIn wsJ7_fill_eb02e wsJ7_rangeCheck_23922 := goodIn_r _ [4, 5, 6, 7, 8, 9, 10, 11, 12, 13, 14, 15, 16, 17, 18, 19, 20] (by decide +kernel) (by decide +kernel)
set_option maxRecDepth 20000 in
theorem gJ7_fill_eb02e_J7_rangeCheck_23922 : GoodIn wsJ7_fill_eb02e (va_wsS RJ7 13 yJ7_rangeCheck_23922 wsJ7_rangeCheck_23922) := goodIn_app (goodIn_of _ (by decide +kernel)) ggJ7_fill_eb02e_J7_rangeCheck_23922
theorem dJ7_fill_eb02e_0 : decode cJ7_fill_eb02e 0 = .ok (.aload_n 0, 1) := by decide +kernel
theorem dJ7_fill_eb02e_1 : decode cJ7_fill_eb02e 1 = .ok (.arraylength, 1) := by decide +kernel
theorem dJ7_fill_eb02e_2 : decode cJ7_fill_eb02e 2 = .ok (.iload_n 1, 1) := by decide +kernel
theorem dJ7_fill_eb02e_3 : decode cJ7_fill_eb02e 3 = .ok (.iload_n 2, 1) := by decide +kernel
theorem dJ7_fill_eb02e_4 : decode cJ7_fill_eb02e 4 = .ok (.invokestatic 13, 3) := by decide +kernel
theorem dJ7_fill_eb02e_7 : decode cJ7_fill_eb02e 7 = .ok (.iload_n 1, 1) := by decide +kernel
theorem dJ7_fill_eb02e_8 : decode cJ7_fill_eb02e 8 = .ok (.istore 4, 2) := by decide +kernel
theorem dJ7_fill_eb02e_10 : decode cJ7_fill_eb02e 10 = .ok (.iload 4, 2) := by decide +kernel
theorem dJ7_fill_eb02e_12 : decode cJ7_fill_eb02e 12 = .ok (.iload_n 2, 1) := by decide +kernel
theorem dJ7_fill_eb02e_13 : decode cJ7_fill_eb02e 13 = .ok (.if_icmp .ge 14, 3) := by decide +kernel
theorem dJ7_fill_eb02e_16 : decode cJ7_fill_eb02e 16 = .ok (.aload_n 0, 1) := by decide +kernel
theorem dJ7_fill_eb02e_17 : decode cJ7_fill_eb02e 17 = .ok (.iload 4, 2) := by decide +kernel
theorem dJ7_fill_eb02e_19 : decode cJ7_fill_eb02e 19 = .ok (.iload_n 3, 1) := by decide +kernel
theorem dJ7_fill_eb02e_20 : decode cJ7_fill_eb02e 20 = .ok (.bastore, 1) := by decide +kernel
theorem dJ7_fill_eb02e_21 : decode cJ7_fill_eb02e 21 = .ok (.iinc 4 1, 3) := by decide +kernel
theorem dJ7_fill_eb02e_24 : decode cJ7_fill_eb02e 24 = .ok (.goto (-14), 3) := by decide +kernel
theorem dJ7_fill_eb02e_27 : decode cJ7_fill_eb02e 27 = .ok (.return_, 1) := by decide +kernel
set_option maxRecDepth 20000 in
theorem ggJ7_copyOf_1904c_J7_copyOf_6403c : GoodIn wsJ7_copyOf_1904c wsJ7_copyOf_6403c := goodIn_r _ [8, 9, 10, 11, 12, 13, 14, 15, 16, 17, 18] (by decide +kernel) (by decide +kernel)
set_option maxRecDepth 20000 in
theorem gJ7_copyOf_1904c_J7_copyOf_6403c : GoodIn wsJ7_copyOf_1904c (va_wsS RJ7 300 yJ7_copyOf_6403c wsJ7_copyOf_6403c) := goodIn_app (goodIn_of _ (by decide +kernel)) ggJ7_copyOf_1904c_J7_copyOf_6403c
theorem dJ7_copyOf_1904c_0 : decode cJ7_copyOf_1904c 0 = .ok (.aload_n 0, 1) := by decide +kernel
theorem dJ7_copyOf_1904c_1 : decode cJ7_copyOf_1904c 1 = .ok (.iload_n 1, 1) := by decide +kernel
theorem dJ7_copyOf_1904c_2 : decode cJ7_copyOf_1904c 2 = .ok (.aload_n 0, 1) := by decide +kernel
theorem dJ7_copyOf_1904c_3 : decode cJ7_copyOf_1904c 3 = .ok (.invokevirtual 86, 3) := by decide +kernel
theorem dJ7_copyOf_1904c_6 : decode cJ7_copyOf_1904c 6 = .ok (.invokestatic 300, 3) := by decide +kernel
theorem dJ7_copyOf_1904c_9 : decode cJ7_copyOf_1904c 9 = .ok (.areturn, 1) := by decide +kernel
theorem dJ7_copyOf_6403c_0 : decode cJ7_copyOf_6403c 0 = .ok (.aload_n 2, 1) := by decide +kernel
theorem dJ7_copyOf_6403c_1 : decode cJ7_copyOf_6403c 1 = .ok (.ldc 110, 2) := by decide +kernel
theorem dJ7_copyOf_6403c_3 : decode cJ7_copyOf_6403c 3 = .ok (.if_acmp .ne 10, 3) := by decide +kernel
theorem dJ7_copyOf_6403c_6 : decode cJ7_copyOf_6403c 6 = .ok (.iload_n 1, 1) := by decide +kernel
theorem dJ7_copyOf_6403c_7 : decode cJ7_copyOf_6403c 7 = .ok (.anewarray 2, 3) := by decide +kernel
theorem dJ7_copyOf_6403c_10 : decode cJ7_copyOf_6403c 10 = .ok (.goto 14, 3) := by decide +kernel
theorem dJ7_copyOf_6403c_13 : decode cJ7_copyOf_6403c 13 = .ok (.aload_n 2, 1) := by decide +kernel
theorem dJ7_copyOf_6403c_14 : decode cJ7_copyOf_6403c 14 = .ok (.invokevirtual 90, 3) := by decide +kernel
theorem dJ7_copyOf_6403c_17 : decode cJ7_copyOf_6403c 17 = .ok (.iload_n 1, 1) := by decide +kernel
theorem dJ7_copyOf_6403c_18 : decode cJ7_copyOf_6403c 18 = .ok (.invokestatic 95, 3) := by decide +kernel
theorem dJ7_copyOf_6403c_21 : decode cJ7_copyOf_6403c 21 = .ok (.checkcast 110, 3) := by decide +kernel
theorem dJ7_copyOf_6403c_24 : decode cJ7_copyOf_6403c 24 = .ok (.astore_n 3, 1) := by decide +kernel
theorem dJ7_copyOf_6403c_25 : decode cJ7_copyOf_6403c 25 = .ok (.aload_n 0, 1) := by decide +kernel
theorem dJ7_copyOf_6403c_26 : decode cJ7_copyOf_6403c 26 = .ok (.iconst 0, 1) := by decide +kernel
theorem dJ7_copyOf_6403c_27 : decode cJ7_copyOf_6403c 27 = .ok (.aload_n 3, 1) := by decide +kernel
theorem dJ7_copyOf_6403c_28 : decode cJ7_copyOf_6403c 28 = .ok (.iconst 0, 1) := by decide +kernel
theorem dJ7_copyOf_6403c_29 : decode cJ7_copyOf_6403c 29 = .ok (.aload_n 0, 1) := by decide +kernel
theorem dJ7_copyOf_6403c_30 : decode cJ7_copyOf_6403c 30 = .ok (.arraylength, 1) := by decide +kernel
theorem dJ7_copyOf_6403c_31 : decode cJ7_copyOf_6403c 31 = .ok (.iload_n 1, 1) := by decide +kernel
theorem dJ7_copyOf_6403c_32 : decode cJ7_copyOf_6403c 32 = .ok (.invokestatic 304, 3) := by decide +kernel
theorem dJ7_copyOf_6403c_35 : decode cJ7_copyOf_6403c 35 = .ok (.invokestatic 150, 3) := by decide +kernel
theorem dJ7_copyOf_6403c_38 : decode cJ7_copyOf_6403c 38 = .ok (.aload_n 3, 1) := by decide +kernel
theorem dJ7_copyOf_6403c_39 : decode cJ7_copyOf_6403c 39 = .ok (.areturn, 1) := by decide +kernel
theorem dJ7_copyOf_9075b_0 : decode cJ7_copyOf_9075b 0 = .ok (.iload_n 1, 1) := by decide +kernel
theorem dJ7_copyOf_9075b_1 : decode cJ7_copyOf_9075b 1 = .ok (.aload_n 0, 1) := by decide +kernel
theorem dJ7_copyOf_9075b_2 : decode cJ7_copyOf_9075b 2 = .ok (.arraylength, 1) := by decide +kernel
theorem dJ7_copyOf_9075b_3 : decode cJ7_copyOf_9075b 3 = .ok (.if_icmp .ne 11, 3) := by decide +kernel
theorem dJ7_copyOf_9075b_6 : decode cJ7_copyOf_9075b 6 = .ok (.aload_n 0, 1) := by decide +kernel
theorem dJ7_copyOf_9075b_7 : decode cJ7_copyOf_9075b 7 = .ok (.invokevirtual 310, 3) := by decide +kernel
theorem dJ7_copyOf_9075b_10 : decode cJ7_copyOf_9075b 10 = .ok (.checkcast 311, 3) := by decide +kernel
theorem dJ7_copyOf_9075b_13 : decode cJ7_copyOf_9075b 13 = .ok (.areturn, 1) := by decide +kernel
theorem dJ7_copyOf_9075b_14 : decode cJ7_copyOf_9075b 14 = .ok (.iload_n 1, 1) := by decide +kernel
theorem dJ7_copyOf_9075b_15 : decode cJ7_copyOf_9075b 15 = .ok (.newarray .byte, 2) := by decide +kernel
theorem dJ7_copyOf_9075b_17 : decode cJ7_copyOf_9075b 17 = .ok (.astore_n 2, 1) := by decide +kernel
theorem dJ7_copyOf_9075b_18 : decode cJ7_copyOf_9075b 18 = .ok (.aload_n 0, 1) := by decide +kernel
theorem dJ7_copyOf_9075b_19 : decode cJ7_copyOf_9075b 19 = .ok (.iconst 0, 1) := by decide +kernel
theorem dJ7_copyOf_9075b_20 : decode cJ7_copyOf_9075b 20 = .ok (.aload_n 2, 1) := by decide +kernel
theorem dJ7_copyOf_9075b_21 : decode cJ7_copyOf_9075b 21 = .ok (.iconst 0, 1) := by decide +kernel
theorem dJ7_copyOf_9075b_22 : decode cJ7_copyOf_9075b 22 = .ok (.aload_n 0, 1) := by decide +kernel
theorem dJ7_copyOf_9075b_23 : decode cJ7_copyOf_9075b 23 = .ok (.arraylength, 1) := by decide +kernel
theorem dJ7_copyOf_9075b_24 : decode cJ7_copyOf_9075b 24 = .ok (.iload_n 1, 1) := by decide +kernel
theorem dJ7_copyOf_9075b_25 : decode cJ7_copyOf_9075b 25 = .ok (.invokestatic 304, 3) := by decide +kernel
theorem dJ7_copyOf_9075b_28 : decode cJ7_copyOf_9075b 28 = .ok (.invokestatic 150, 3) := by decide +kernel
theorem dJ7_copyOf_9075b_31 : decode cJ7_copyOf_9075b 31 = .ok (.aload_n 2, 1) := by decide +kernel
theorem dJ7_copyOf_9075b_32 : decode cJ7_copyOf_9075b 32 = .ok (.areturn, 1) := by decide +kernel
theorem dJ7_checkLength_df160_0 : decode cJ7_checkLength_df160 0 = .ok (.iload_n 1, 1) := by decide +kernel
theorem dJ7_checkLength_df160_1 : decode cJ7_checkLength_df160 1 = .ok (.iload_n 0, 1) := by decide +kernel
theorem dJ7_checkLength_df160_2 : decode cJ7_checkLength_df160 2 = .ok (.if_icmp .ge 35, 3) := by decide +kernel
theorem dJ7_checkLength_df160_5 : decode cJ7_checkLength_df160 5 = .ok (.new 43, 3) := by decide +kernel
theorem dJ7_checkLength_df160_8 : decode cJ7_checkLength_df160 8 = .ok (.dup, 1) := by decide +kernel
theorem dJ7_checkLength_df160_9 : decode cJ7_checkLength_df160 9 = .ok (.new 45, 3) := by decide +kernel
theorem dJ7_checkLength_df160_12 : decode cJ7_checkLength_df160 12 = .ok (.dup, 1) := by decide +kernel
theorem dJ7_checkLength_df160_13 : decode cJ7_checkLength_df160 13 = .ok (.invokespecial 47, 3) := by decide +kernel
theorem dJ7_checkLength_df160_16 : decode cJ7_checkLength_df160 16 = .ok (.iload_n 0, 1) := by decide +kernel
theorem dJ7_checkLength_df160_17 : decode cJ7_checkLength_df160 17 = .ok (.invokevirtual 54, 3) := by decide +kernel
theorem dJ7_checkLength_df160_20 : decode cJ7_checkLength_df160 20 = .ok (.ldc_w 337, 3) := by decide +kernel
theorem dJ7_checkLength_df160_23 : decode cJ7_checkLength_df160 23 = .ok (.invokevirtual 50, 3) := by decide +kernel
theorem dJ7_checkLength_df160_26 : decode cJ7_checkLength_df160 26 = .ok (.iload_n 1, 1) := by decide +kernel
theorem dJ7_checkLength_df160_27 : decode cJ7_checkLength_df160 27 = .ok (.invokevirtual 54, 3) := by decide +kernel
theorem dJ7_checkLength_df160_30 : decode cJ7_checkLength_df160 30 = .ok (.invokevirtual 61, 3) := by decide +kernel
theorem dJ7_checkLength_df160_33 : decode cJ7_checkLength_df160 33 = .ok (.invokespecial 65, 3) := by decide +kernel
theorem dJ7_checkLength_df160_36 : decode cJ7_checkLength_df160 36 = .ok (.athrow, 1) := by decide +kernel
theorem dJ7_checkLength_df160_37 : decode cJ7_checkLength_df160 37 = .ok (.return_, 1) := by decide +kernel
set_option maxRecDepth 20000 in
theorem ggJ7_copyOfRange_39247_J7_copyOfRangeByte_39247 : GoodIn wsJ7_copyOfRange_39247 wsJ7_copyOfRangeByte_39247 := goodIn_r _ [10, 11, 12, 13, 14, 15, 16, 17, 18, 19, 20, 21, 9, 22, 23, 24, 25, 26, 27, 28, 29] (by decide +kernel) (by decide +kernel)
set_option maxRecDepth 20000 in
theorem gJ7_copyOfRange_39247_J7_copyOfRangeByte_39247 : GoodIn wsJ7_copyOfRange_39247 (va_wsS RJ7 339 yJ7_copyOfRangeByte_39247 wsJ7_copyOfRangeByte_39247) := goodIn_app (goodIn_of _ (by decide +kernel)) ggJ7_copyOfRange_39247_J7_copyOfRangeByte_39247
theorem dJ7_copyOfRange_39247_0 : decode cJ7_copyOfRange_39247 0 = .ok (.iload_n 1, 1) := by decide +kernel
theorem dJ7_copyOfRange_39247_1 : decode cJ7_copyOfRange_39247 1 = .ok (.ifCond .ne 9, 3) := by decide +kernel
theorem dJ7_copyOfRange_39247_4 : decode cJ7_copyOfRange_39247 4 = .ok (.iload_n 2, 1) := by decide +kernel
theorem dJ7_copyOfRange_39247_5 : decode cJ7_copyOfRange_39247 5 = .ok (.aload_n 0, 1) := by decide +kernel
theorem dJ7_copyOfRange_39247_6 : decode cJ7_copyOfRange_39247 6 = .ok (.arraylength, 1) := by decide +kernel
theorem dJ7_copyOfRange_39247_7 : decode cJ7_copyOfRange_39247 7 = .ok (.if_icmp .eq 10, 3) := by decide +kernel
theorem dJ7_copyOfRange_39247_10 : decode cJ7_copyOfRange_39247 10 = .ok (.aload_n 0, 1) := by decide +kernel
theorem dJ7_copyOfRange_39247_11 : decode cJ7_copyOfRange_39247 11 = .ok (.iload_n 1, 1) := by decide +kernel
theorem dJ7_copyOfRange_39247_12 : decode cJ7_copyOfRange_39247 12 = .ok (.iload_n 2, 1) := by decide +kernel
theorem dJ7_copyOfRange_39247_13 : decode cJ7_copyOfRange_39247 13 = .ok (.invokestatic 339, 3) := by decide +kernel
theorem dJ7_copyOfRange_39247_16 : decode cJ7_copyOfRange_39247 16 = .ok (.areturn, 1) := by decide +kernel
theorem dJ7_copyOfRange_39247_17 : decode cJ7_copyOfRange_39247 17 = .ok (.aload_n 0, 1) := by decide +kernel
theorem dJ7_copyOfRange_39247_18 : decode cJ7_copyOfRange_39247 18 = .ok (.invokevirtual 310, 3) := by decide +kernel
theorem dJ7_copyOfRange_39247_21 : decode cJ7_copyOfRange_39247 21 = .ok (.checkcast 311, 3) := by decide +kernel
theorem dJ7_copyOfRange_39247_24 : decode cJ7_copyOfRange_39247 24 = .ok (.areturn, 1) := by decide +kernel
set_option maxRecDepth 20000 in
theorem ggJ7_copyOfRangeByte_39247_J7_checkLength_df160 : GoodIn wsJ7_copyOfRangeByte_39247 wsJ7_checkLength_df160 := goodIn_r _ [13, 14, 15, 16, 17, 18, 19, 20] (by decide +kernel) (by decide +kernel)
set_option maxRecDepth 20000 in
theorem gJ7_copyOfRangeByte_39247_J7_checkLength_df160 : GoodIn wsJ7_copyOfRangeByte_39247 (va_wsS RJ7 343 yJ7_checkLength_df160 wsJ7_checkLength_df160) := goodIn_app (goodIn_of _ (by decide +kernel)) ggJ7_copyOfRangeByte_39247_J7_checkLength_df160
theorem dJ7_copyOfRangeByte_39247_0 : decode cJ7_copyOfRangeByte_39247 0 = .ok (.iload_n 1, 1) := by decide +kernel
theorem dJ7_copyOfRangeByte_39247_1 : decode cJ7_copyOfRangeByte_39247 1 = .ok (.iload_n 2, 1) := by decide +kernel
theorem dJ7_copyOfRangeByte_39247_2 : decode cJ7_copyOfRangeByte_39247 2 = .ok (.invokestatic 343, 3) := by decide +kernel
theorem dJ7_copyOfRangeByte_39247_5 : decode cJ7_copyOfRangeByte_39247 5 = .ok (.iload_n 2, 1) := by decide +kernel
theorem dJ7_copyOfRangeByte_39247_6 : decode cJ7_copyOfRangeByte_39247 6 = .ok (.iload_n 1, 1) := by decide +kernel
theorem dJ7_copyOfRangeByte_39247_7 : decode cJ7_copyOfRangeByte_39247 7 = .ok (.isub, 1) := by decide +kernel
theorem dJ7_copyOfRangeByte_39247_8 : decode cJ7_copyOfRangeByte_39247 8 = .ok (.istore_n 3, 1) := by decide +kernel
theorem dJ7_copyOfRangeByte_39247_9 : decode cJ7_copyOfRangeByte_39247 9 = .ok (.iload_n 3, 1) := by decide +kernel
theorem dJ7_copyOfRangeByte_39247_10 : decode cJ7_copyOfRangeByte_39247 10 = .ok (.newarray .byte, 2) := by decide +kernel
theorem dJ7_copyOfRangeByte_39247_12 : decode cJ7_copyOfRangeByte_39247 12 = .ok (.astore 4, 2) := by decide +kernel
theorem dJ7_copyOfRangeByte_39247_14 : decode cJ7_copyOfRangeByte_39247 14 = .ok (.aload_n 0, 1) := by decide +kernel
theorem dJ7_copyOfRangeByte_39247_15 : decode cJ7_copyOfRangeByte_39247 15 = .ok (.iload_n 1, 1) := by decide +kernel
theorem dJ7_copyOfRangeByte_39247_16 : decode cJ7_copyOfRangeByte_39247 16 = .ok (.aload 4, 2) := by decide +kernel
theorem dJ7_copyOfRangeByte_39247_18 : decode cJ7_copyOfRangeByte_39247 18 = .ok (.iconst 0, 1) := by decide +kernel
theorem dJ7_copyOfRangeByte_39247_19 : decode cJ7_copyOfRangeByte_39247 19 = .ok (.aload_n 0, 1) := by decide +kernel
theorem dJ7_copyOfRangeByte_39247_20 : decode cJ7_copyOfRangeByte_39247 20 = .ok (.arraylength, 1) := by decide +kernel
theorem dJ7_copyOfRangeByte_39247_21 : decode cJ7_copyOfRangeByte_39247 21 = .ok (.iload_n 1, 1) := by decide +kernel
theorem dJ7_copyOfRangeByte_39247_22 : decode cJ7_copyOfRangeByte_39247 22 = .ok (.isub, 1) := by decide +kernel
theorem dJ7_copyOfRangeByte_39247_23 : decode cJ7_copyOfRangeByte_39247 23 = .ok (.iload_n 3, 1) := by decide +kernel
theorem dJ7_copyOfRangeByte_39247_24 : decode cJ7_copyOfRangeByte_39247 24 = .ok (.invokestatic 304, 3) := by decide +kernel
theorem dJ7_copyOfRangeByte_39247_27 : decode cJ7_copyOfRangeByte_39247 27 = .ok (.invokestatic 150, 3) := by decide +kernel
theorem dJ7_copyOfRangeByte_39247_30 : decode cJ7_copyOfRangeByte_39247 30 = .ok (.aload 4, 2) := by decide +kernel
theorem dJ7_copyOfRangeByte_39247_32 : decode cJ7_copyOfRangeByte_39247 32 = .ok (.areturn, 1) := by decide +kernel
set_option maxRecDepth 20000 in
theorem ggJ15_checkIndex_7cf53_J3_checkIndex_8e157 : GoodIn wsJ15_checkIndex_7cf53 wsJ3_checkIndex_8e157 := goodIn_r _ [4] (by decide +kernel) (by decide +kernel)
set_option maxRecDepth 20000 in
theorem gJ15_checkIndex_7cf53_J3_checkIndex_8e157 : GoodIn wsJ15_checkIndex_7cf53 (va_wsS RJ15 105 yJ3_checkIndex_8e157 wsJ3_checkIndex_8e157) := goodIn_app (goodIn_of _ (by decide +kernel)) ggJ15_checkIndex_7cf53_J3_checkIndex_8e157
theorem dJ15_checkIndex_7cf53_0 : decode cJ15_checkIndex_7cf53 0 = .ok (.iload_n 0, 1) := by decide +kernel
theorem dJ15_checkIndex_7cf53_1 : decode cJ15_checkIndex_7cf53 1 = .ok (.iload_n 1, 1) := by decide +kernel
theorem dJ15_checkIndex_7cf53_2 : decode cJ15_checkIndex_7cf53 2 = .ok (.aconst_null, 1) := by decide +kernel
theorem dJ15_checkIndex_7cf53_3 : decode cJ15_checkIndex_7cf53 3 = .ok (.invokestatic 105, 3) := by decide +kernel
theorem dJ15_checkIndex_7cf53_6 : decode cJ15_checkIndex_7cf53 6 = .ok (.ireturn, 1) := by decide +kernel
theorem dJx4497a_init_f633c_0 : decode cJx4497a_init_f633c 0 = .ok (.aload_n 0, 1) := by decide +kernel
theorem dJx4497a_init_f633c_1 : decode cJx4497a_init_f633c 1 = .ok (.invokespecial 5, 3) := by decide +kernel
theorem dJx4497a_init_f633c_4 : decode cJx4497a_init_f633c 4 = .ok (.aload_n 0, 1) := by decide +kernel
theorem dJx4497a_init_f633c_5 : decode cJx4497a_init_f633c 5 = .ok (.iload_n 1, 1) := by decide +kernel
theorem dJx4497a_init_f633c_6 : decode cJx4497a_init_f633c 6 = .ok (.ifCond .eq 7, 3) := by decide +kernel
theorem dJx4497a_init_f633c_9 : decode cJx4497a_init_f633c 9 = .ok (.aconst_null, 1) := by decide +kernel
theorem dJx4497a_init_f633c_10 : decode cJx4497a_init_f633c 10 = .ok (.goto 7, 3) := by decide +kernel
theorem dJx4497a_init_f633c_13 : decode cJx4497a_init_f633c 13 = .ok (.bipush 24, 2) := by decide +kernel
theorem dJx4497a_init_f633c_15 : decode cJx4497a_init_f633c 15 = .ok (.newarray .byte, 2) := by decide +kernel
theorem dJx4497a_init_f633c_17 : decode cJx4497a_init_f633c 17 = .ok (.putfield 11, 3) := by decide +kernel
theorem dJx4497a_init_f633c_20 : decode cJx4497a_init_f633c 20 = .ok (.return_, 1) := by decide +kernel
set_option maxRecDepth 20000 in
theorem ggJx4497a_appendTo_00aa9_Jx4497a_init_f633c : GoodIn wsJx4497a_appendTo_00aa9 wsJx4497a_init_f633c := goodIn_r _ [6, 7, 8, 9, 10, 11, 439, 440] (by decide +kernel) (by decide +kernel)
set_option maxRecDepth 20000 in
theorem gJx4497a_appendTo_00aa9_Jx4497a_init_f633c : GoodIn wsJx4497a_appendTo_00aa9 (wsJx4497a_init_f633c) := ggJx4497a_appendTo_00aa9_Jx4497a_init_f633c
set_option maxRecDepth 20000 in
theorem ggJx4497a_appendTo_00aa9_Jx4497a_appendDecimalTo_00aa9 : GoodIn wsJx4497a_appendTo_00aa9 wsJx4497a_appendDecimalTo_00aa9 := goodIn_r _ [15, 16, 17, 11, 18, 19, 20, 21, 22, 3, 23, 24, 25, 26, 27, 28, 29, 30, 31, 32, 33, 34, 35, 36, 37, 38, 39, 40, 41, 42, 43, 44, 45, 46, 47, 48, 49, 50, 51, 52, 53, 54, 55, 56, 57, 58, 59, 60, 61, 62, 63, 64, 65, 66, 67, 68, 69, 70, 71, 72, 73, 74, 75, 76, 77, 78, 79, 80, 81, 82, 83, 84, 85, 86, 87, 88, 89, 90, 91, 92, 93, 94, 95, 96, 97, 98, 99, 100, 101, 102, 103, 104, 105, 106, 107, 108, 109, 110, 111, 112, 113, 114, 115, 116, 117, 118, 119, 120, 121, 122, 123, 124, 125, 126, 127, 128, 129, 130, 131, 132, 133, 134, 135, 136, 137, 138, 139, 140, 141, 142, 143, 144, 145, 146, 147, 148, 149, 150, 151, 152, 153, 154, 155, 156, 157, 158, 159, 160, 161, 162, 163, 164, 165, 166, 167, 168, 169, 170, 171, 172, 173, 174, 175, 176, 10, 177, 178, 179, 180, 181, 182, 183, 184, 185, 186, 187, 188, 189, 190, 191, 192, 193, 194, 195, 196, 197, 198, 199, 200, 201, 202, 203, 204, 205, 206, 207, 208, 209, 210, 211, 212, 213, 214, 215, 216, 217, 218, 219, 220, 221, 222, 223, 224, 225, 226, 227, 228, 229, 230, 231, 232, 233, 234, 235, 236, 237, 238, 239, 240, 241, 242, 243, 244, 245, 246, 247, 248, 249, 250, 251, 252, 253, 254, 255, 256, 257, 258, 259, 260, 261, 262, 263, 264, 265, 266, 267, 268, 269, 270, 271, 272, 273, 274, 275, 276, 277, 278, 279, 280, 281, 282, 283, 284, 285, 286, 287, 288, 289, 290, 291, 292, 293, 294, 295, 296, 297, 298, 299, 300, 301, 302, 303, 304, 305, 306, 307, 308, 309, 310, 311, 312, 313, 314, 315, 316, 317, 318, 319, 320, 321, 322, 323, 324, 325, 326, 327, 328, 329, 330, 331, 332, 333, 334, 335, 336, 337, 338, 339, 340, 341, 342, 343, 344, 345, 346, 347, 348, 349, 350, 351, 352, 353, 354, 355, 356, 357, 358, 359, 360, 361, 362, 363, 364, 365, 366, 367, 368, 369, 370, 371, 372, 373, 374, 375, 376, 377, 378, 379, 380, 381, 382, 383, 384, 385, 386, 387, 388, 389, 390, 391, 392, 393, 394, 395, 396, 397, 398, 399, 400, 401, 402, 403, 404, 405, 406, 407, 408, 409, 410, 411, 412, 413, 414, 415, 416, 417, 418, 419, 420, 421, 422, 423, 424, 425, 426, 427, 428, 429, 430, 431, 432, 433, 434, 435, 436, 437, 438, 439, 440, 441, 442, 443, 444, 445, 446, 447, 448] (by decide +kernel) (by decide +kernel)
set_option maxRecDepth 20000 in
theorem gJx4497a_appendTo_00aa9_Jx4497a_appendDecimalTo_00aa9 : GoodIn wsJx4497a_appendTo_00aa9 (wsV RJx4497a 26 RJx4497a yJx4497a_appendDecimalTo_00aa9 wsJx4497a_appendDecimalTo_00aa9) := goodIn_app (goodIn_of _ (by decide +kernel)) ggJx4497a_appendTo_00aa9_Jx4497a_appendDecimalTo_00aa9
theorem dJx4497a_appendTo_00aa9_0 : decode cJx4497a_appendTo_00aa9 0 = .ok (.new 3, 3) := by decide +kernel
theorem dJx4497a_appendTo_00aa9_3 : decode cJx4497a_appendTo_00aa9 3 = .ok (.dup, 1) := by decide +kernel
theorem dJx4497a_appendTo_00aa9_4 : decode cJx4497a_appendTo_00aa9 4 = .ok (.iconst 0, 1) := by decide +kernel
theorem dJx4497a_appendTo_00aa9_5 : decode cJx4497a_appendTo_00aa9 5 = .ok (.invokespecial 15, 3) := by decide +kernel
theorem dJx4497a_appendTo_00aa9_8 : decode cJx4497a_appendTo_00aa9 8 = .ok (.dload_n 0, 1) := by decide +kernel
theorem dJx4497a_appendTo_00aa9_9 : decode cJx4497a_appendTo_00aa9 9 = .ok (.aload_n 2, 1) := by decide +kernel
theorem dJx4497a_appendTo_00aa9_10 : decode cJx4497a_appendTo_00aa9 10 = .ok (.invokevirtual 26, 3) := by decide +kernel
theorem dJx4497a_appendTo_00aa9_13 : decode cJx4497a_appendTo_00aa9 13 = .ok (.areturn, 1) := by decide +kernel
set_option maxRecDepth 20000 in
theorem ggJx4497a_appendDecimalTo_00aa9_Jx4497a_toDecimal_a02bb : GoodIn wsJx4497a_appendDecimalTo_00aa9 wsJx4497a_toDecimal_a02bb := goodIn_r _ [10, 11, 12, 13, 14, 15, 1, 16, 17, 18, 19, 20, 21, 9, 22, 3, 23, 24, 25, 26, 27, 28, 29, 30, 31, 32, 33, 34, 35, 36, 37, 38, 39, 40, 41, 42, 43, 44, 45, 46, 47, 48, 49, 50, 51, 52, 53, 54, 55, 56, 57, 58, 59, 60, 61, 62, 63, 64, 65, 66, 67, 68, 69, 70, 71, 72, 73, 74, 75, 76, 77, 78, 79, 80, 81, 82, 83, 84, 85, 86, 87, 88, 89, 90, 91, 92, 93, 94, 95, 96, 97, 98, 99, 100, 101, 102, 103, 104, 105, 106, 107, 108, 109, 110, 111, 112, 113, 114, 115, 116, 427, 428] (by decide +kernel) (by decide +kernel)
set_option maxRecDepth 20000 in
theorem gJx4497a_appendDecimalTo_00aa9_Jx4497a_toDecimal_a02bb : GoodIn wsJx4497a_appendDecimalTo_00aa9 (wsV RJx4497a 22 RJx4497a yJx4497a_toDecimal_a02bb wsJx4497a_toDecimal_a02bb) := goodIn_app (goodIn_of _ (by decide +kernel)) ggJx4497a_appendDecimalTo_00aa9_Jx4497a_toDecimal_a02bb
set_option maxRecDepth 20000 in
theorem ggJx4497a_appendDecimalTo_00aa9_J4_append_37e8c : GoodIn wsJx4497a_appendDecimalTo_00aa9 wsJ4_append_37e8c := goodIn_r _ [121, 122, 123, 124, 125, 126, 127, 128, 129, 130, 131, 132, 133, 134, 135, 136, 137, 138, 139, 140, 141, 142, 143, 144, 145, 146, 147, 148, 149, 150, 151, 152, 153, 154, 155, 156, 157, 158, 159, 160, 161, 162, 163, 164, 165, 166, 167, 168, 169, 170, 171, 172, 173, 174, 175, 176, 177, 178, 179, 180, 181, 182, 183, 184, 185, 186, 187, 188, 189, 190, 191, 192, 193, 194, 195, 196, 197, 198, 199, 200, 201, 202, 203, 204, 205, 206, 207, 208, 209, 210, 211, 212, 213, 214, 215, 216, 217, 218, 219, 220, 221, 222, 223, 224, 225, 226, 227, 228, 229, 230, 231, 232, 233, 234, 235, 236, 237, 238, 239, 240, 241, 429, 430, 431, 432] (by decide +kernel) (by decide +kernel)
set_option maxRecDepth 20000 in
theorem gJx4497a_appendDecimalTo_00aa9_J4_append_37e8c : GoodIn wsJx4497a_appendDecimalTo_00aa9 (wsV RJx4497a 50 RJ4 yJ4_append_37e8c wsJ4_append_37e8c) := goodIn_app (goodIn_of _ (by decide +kernel)) ggJx4497a_appendDecimalTo_00aa9_J4_append_37e8c
set_option maxRecDepth 20000 in
theorem ggJx4497a_appendDecimalTo_00aa9_J4_append_b3078 : GoodIn wsJx4497a_appendDecimalTo_00aa9 wsJ4_append_b3078 := goodIn_r _ [245, 246, 247, 248, 120, 249, 250, 251, 124, 252, 126, 253, 128, 134, 129, 130, 131, 132, 133, 135, 136, 137, 138, 139, 140, 141, 142, 143, 144, 145, 146, 147, 148, 149, 150, 151, 152, 153, 154, 155, 156, 157, 158, 159, 160, 161, 162, 163, 164, 165, 166, 167, 168, 169, 170, 171, 177, 178, 179, 180, 181, 182, 183, 184, 185, 186, 187, 188, 189, 190, 191, 192, 193, 194, 195, 196, 197, 198, 199, 200, 201, 202, 203, 204, 205, 206, 207, 208, 209, 210, 211, 212, 213, 214, 215, 216, 217, 218, 219, 220, 221, 222, 223, 224, 225, 226, 254, 255, 256, 257, 258, 259, 260, 261, 262, 263, 264, 265, 429, 430, 431, 432] (by decide +kernel) (by decide +kernel)
set_option maxRecDepth 20000 in
theorem gJx4497a_appendDecimalTo_00aa9_J4_append_b3078_f59J4 : GoodIn wsJx4497a_appendDecimalTo_00aa9 (va_wsF RJx4497a 59 RJ4 ⟨"java/lang/Appendable", "append", "(C)Ljava/lang/Appendable;"⟩ yJ4_append_b3078 wsJ4_append_b3078) := goodIn_app (goodIn_of _ (by decide +kernel)) ggJx4497a_appendDecimalTo_00aa9_J4_append_b3078
set_option maxRecDepth 20000 in
theorem ggJx4497a_appendDecimalTo_00aa9_J4_append_996db : GoodIn wsJx4497a_appendDecimalTo_00aa9 wsJ4_append_996db := goodIn_r _ [269, 270, 271, 272, 120, 273, 274, 275, 124, 276, 126, 277, 278, 279, 280, 281, 282, 283, 284, 128, 134, 129, 130, 131, 132, 133, 135, 136, 137, 138, 139, 140, 141, 142, 143, 144, 145, 146, 147, 148, 149, 150, 151, 152, 153, 154, 155, 156, 157, 158, 159, 160, 161, 162, 163, 164, 165, 166, 167, 168, 169, 170, 171, 177, 178, 179, 180, 181, 182, 285, 286, 194, 287, 224, 230, 231, 232, 209, 210, 211, 233, 234, 214, 235, 216, 236, 237, 219, 238, 221, 222, 223, 225, 226, 288, 289, 290, 291, 292, 293, 294, 295, 296, 297, 298, 299, 300, 301, 302, 303, 304, 305, 306, 307, 308, 309, 310, 311, 312, 313, 314, 315, 316, 317, 318, 319, 320, 321, 322, 187, 188, 189, 190, 191, 192, 193, 195, 196, 197, 198, 199, 200, 201, 185, 202, 203, 204, 205, 206, 207, 208, 212, 213, 215, 217, 218, 220, 323, 324, 325, 326, 327, 328, 329, 330, 331, 332, 333, 334, 335, 336, 337, 338, 339, 340, 341, 342, 343, 344, 345, 346, 347, 348, 349, 350, 351, 352, 353, 354, 355, 356, 357, 358, 359, 360, 361, 362, 363, 364, 365, 366, 367, 368, 369, 370, 371, 372, 373, 374, 375, 376, 377, 378, 379, 380, 381, 382, 383, 384, 385, 386, 387, 388, 389, 390, 391, 392, 393, 394, 395, 396, 397, 398, 399, 261, 262, 263, 264, 265, 400, 401, 402, 257, 258, 259, 260, 403, 404, 405, 183, 184, 186, 406, 407, 408, 409, 410, 411, 412, 413, 414, 415, 416, 417, 418, 419, 420, 421, 422, 423, 424, 425, 426, 254, 255, 256, 429, 430, 431, 432, 433, 434, 435, 436] (by decide +kernel) (by decide +kernel)
set_option maxRecDepth 20000 in
theorem gJx4497a_appendDecimalTo_00aa9_J4_append_996db_f64J4 : GoodIn wsJx4497a_appendDecimalTo_00aa9 (va_wsF RJx4497a 64 RJ4 ⟨"java/lang/Appendable", "append", "(Ljava/lang/CharSequence;)Ljava/lang/Appendable;"⟩ yJ4_append_996db wsJ4_append_996db) := goodIn_app (goodIn_of _ (by decide +kernel)) ggJx4497a_appendDecimalTo_00aa9_J4_append_996db
theorem dJx4497a_appendDecimalTo_00aa9_0 : decode cJx4497a_appendDecimalTo_00aa9 0 = .ok (.aload_n 0, 1) := by decide +kernel
theorem dJx4497a_appendDecimalTo_00aa9_1 : decode cJx4497a_appendDecimalTo_00aa9 1 = .ok (.dload_n 1, 1) := by decide +kernel
theorem dJx4497a_appendDecimalTo_00aa9_2 : decode cJx4497a_appendDecimalTo_00aa9 2 = .ok (.aconst_null, 1) := by decide +kernel
theorem dJx4497a_appendDecimalTo_00aa9_3 : decode cJx4497a_appendDecimalTo_00aa9 3 = .ok (.invokevirtual 22, 3) := by decide +kernel
theorem dJx4497a_appendDecimalTo_00aa9_6 : decode cJx4497a_appendDecimalTo_00aa9 6 = .ok (.tableswitch 195 0 4 #[34, 159, 168, 177, 186], 34) := by decide +kernel
theorem dJx4497a_appendDecimalTo_00aa9_40 : decode cJx4497a_appendDecimalTo_00aa9 40 = .ok (.aload_n 0, 1) := by decide +kernel
theorem dJx4497a_appendDecimalTo_00aa9_41 : decode cJx4497a_appendDecimalTo_00aa9 41 = .ok (.getfield 44, 3) := by decide +kernel
theorem dJx4497a_appendDecimalTo_00aa9_44 : decode cJx4497a_appendDecimalTo_00aa9 44 = .ok (.iconst 1, 1) := by decide +kernel
theorem dJx4497a_appendDecimalTo_00aa9_45 : decode cJx4497a_appendDecimalTo_00aa9 45 = .ok (.iadd, 1) := by decide +kernel
theorem dJx4497a_appendDecimalTo_00aa9_46 : decode cJx4497a_appendDecimalTo_00aa9 46 = .ok (.newarray .char, 2) := by decide +kernel
theorem dJx4497a_appendDecimalTo_00aa9_48 : decode cJx4497a_appendDecimalTo_00aa9 48 = .ok (.astore 4, 2) := by decide +kernel
theorem dJx4497a_appendDecimalTo_00aa9_50 : decode cJx4497a_appendDecimalTo_00aa9 50 = .ok (.iconst 0, 1) := by decide +kernel
theorem dJx4497a_appendDecimalTo_00aa9_51 : decode cJx4497a_appendDecimalTo_00aa9 51 = .ok (.istore 5, 2) := by decide +kernel
theorem dJx4497a_appendDecimalTo_00aa9_53 : decode cJx4497a_appendDecimalTo_00aa9 53 = .ok (.iload 5, 2) := by decide +kernel
theorem dJx4497a_appendDecimalTo_00aa9_55 : decode cJx4497a_appendDecimalTo_00aa9 55 = .ok (.aload 4, 2) := by decide +kernel
theorem dJx4497a_appendDecimalTo_00aa9_57 : decode cJx4497a_appendDecimalTo_00aa9 57 = .ok (.arraylength, 1) := by decide +kernel
theorem dJx4497a_appendDecimalTo_00aa9_58 : decode cJx4497a_appendDecimalTo_00aa9 58 = .ok (.if_icmp .ge 22, 3) := by decide +kernel
theorem dJx4497a_appendDecimalTo_00aa9_61 : decode cJx4497a_appendDecimalTo_00aa9 61 = .ok (.aload 4, 2) := by decide +kernel
theorem dJx4497a_appendDecimalTo_00aa9_63 : decode cJx4497a_appendDecimalTo_00aa9 63 = .ok (.iload 5, 2) := by decide +kernel
theorem dJx4497a_appendDecimalTo_00aa9_65 : decode cJx4497a_appendDecimalTo_00aa9 65 = .ok (.aload_n 0, 1) := by decide +kernel
theorem dJx4497a_appendDecimalTo_00aa9_66 : decode cJx4497a_appendDecimalTo_00aa9 66 = .ok (.getfield 11, 3) := by decide +kernel
theorem dJx4497a_appendDecimalTo_00aa9_69 : decode cJx4497a_appendDecimalTo_00aa9 69 = .ok (.iload 5, 2) := by decide +kernel
theorem dJx4497a_appendDecimalTo_00aa9_71 : decode cJx4497a_appendDecimalTo_00aa9 71 = .ok (.baload, 1) := by decide +kernel
theorem dJx4497a_appendDecimalTo_00aa9_72 : decode cJx4497a_appendDecimalTo_00aa9 72 = .ok (.i2c, 1) := by decide +kernel
theorem dJx4497a_appendDecimalTo_00aa9_73 : decode cJx4497a_appendDecimalTo_00aa9 73 = .ok (.castore, 1) := by decide +kernel
theorem dJx4497a_appendDecimalTo_00aa9_74 : decode cJx4497a_appendDecimalTo_00aa9 74 = .ok (.iinc 5 1, 3) := by decide +kernel
theorem dJx4497a_appendDecimalTo_00aa9_77 : decode cJx4497a_appendDecimalTo_00aa9 77 = .ok (.goto (-24), 3) := by decide +kernel
theorem dJx4497a_appendDecimalTo_00aa9_80 : decode cJx4497a_appendDecimalTo_00aa9 80 = .ok (.aload_n 3, 1) := by decide +kernel
theorem dJx4497a_appendDecimalTo_00aa9_81 : decode cJx4497a_appendDecimalTo_00aa9 81 = .ok (.instanceof 48, 3) := by decide +kernel
theorem dJx4497a_appendDecimalTo_00aa9_84 : decode cJx4497a_appendDecimalTo_00aa9 84 = .ok (.ifCond .eq 17, 3) := by decide +kernel
theorem dJx4497a_appendDecimalTo_00aa9_87 : decode cJx4497a_appendDecimalTo_00aa9 87 = .ok (.aload_n 3, 1) := by decide +kernel
theorem dJx4497a_appendDecimalTo_00aa9_88 : decode cJx4497a_appendDecimalTo_00aa9 88 = .ok (.checkcast 48, 3) := by decide +kernel
theorem dJx4497a_appendDecimalTo_00aa9_91 : decode cJx4497a_appendDecimalTo_00aa9 91 = .ok (.astore 5, 2) := by decide +kernel
theorem dJx4497a_appendDecimalTo_00aa9_93 : decode cJx4497a_appendDecimalTo_00aa9 93 = .ok (.aload 5, 2) := by decide +kernel
theorem dJx4497a_appendDecimalTo_00aa9_95 : decode cJx4497a_appendDecimalTo_00aa9 95 = .ok (.aload 4, 2) := by decide +kernel
theorem dJx4497a_appendDecimalTo_00aa9_97 : decode cJx4497a_appendDecimalTo_00aa9 97 = .ok (.invokevirtual 50, 3) := by decide +kernel
theorem dJx4497a_appendDecimalTo_00aa9_100 : decode cJx4497a_appendDecimalTo_00aa9 100 = .ok (.areturn, 1) := by decide +kernel
theorem dJx4497a_appendDecimalTo_00aa9_101 : decode cJx4497a_appendDecimalTo_00aa9 101 = .ok (.aload_n 3, 1) := by decide +kernel
theorem dJx4497a_appendDecimalTo_00aa9_102 : decode cJx4497a_appendDecimalTo_00aa9 102 = .ok (.instanceof 54, 3) := by decide +kernel
theorem dJx4497a_appendDecimalTo_00aa9_105 : decode cJx4497a_appendDecimalTo_00aa9 105 = .ok (.ifCond .eq 17, 3) := by decide +kernel
theorem dJx4497a_appendDecimalTo_00aa9_108 : decode cJx4497a_appendDecimalTo_00aa9 108 = .ok (.aload_n 3, 1) := by decide +kernel
theorem dJx4497a_appendDecimalTo_00aa9_109 : decode cJx4497a_appendDecimalTo_00aa9 109 = .ok (.checkcast 54, 3) := by decide +kernel
theorem dJx4497a_appendDecimalTo_00aa9_112 : decode cJx4497a_appendDecimalTo_00aa9 112 = .ok (.astore 5, 2) := by decide +kernel
theorem dJx4497a_appendDecimalTo_00aa9_114 : decode cJx4497a_appendDecimalTo_00aa9 114 = .ok (.aload 5, 2) := by decide +kernel
theorem dJx4497a_appendDecimalTo_00aa9_116 : decode cJx4497a_appendDecimalTo_00aa9 116 = .ok (.aload 4, 2) := by decide +kernel
theorem dJx4497a_appendDecimalTo_00aa9_118 : decode cJx4497a_appendDecimalTo_00aa9 118 = .ok (.invokevirtual 56, 3) := by decide +kernel
theorem dJx4497a_appendDecimalTo_00aa9_121 : decode cJx4497a_appendDecimalTo_00aa9 121 = .ok (.areturn, 1) := by decide +kernel
theorem dJx4497a_appendDecimalTo_00aa9_122 : decode cJx4497a_appendDecimalTo_00aa9 122 = .ok (.aload 4, 2) := by decide +kernel
theorem dJx4497a_appendDecimalTo_00aa9_124 : decode cJx4497a_appendDecimalTo_00aa9 124 = .ok (.astore 5, 2) := by decide +kernel
theorem dJx4497a_appendDecimalTo_00aa9_126 : decode cJx4497a_appendDecimalTo_00aa9 126 = .ok (.aload 5, 2) := by decide +kernel
theorem dJx4497a_appendDecimalTo_00aa9_128 : decode cJx4497a_appendDecimalTo_00aa9 128 = .ok (.arraylength, 1) := by decide +kernel
theorem dJx4497a_appendDecimalTo_00aa9_129 : decode cJx4497a_appendDecimalTo_00aa9 129 = .ok (.istore 6, 2) := by decide +kernel
theorem dJx4497a_appendDecimalTo_00aa9_131 : decode cJx4497a_appendDecimalTo_00aa9 131 = .ok (.iconst 0, 1) := by decide +kernel
theorem dJx4497a_appendDecimalTo_00aa9_132 : decode cJx4497a_appendDecimalTo_00aa9 132 = .ok (.istore 7, 2) := by decide +kernel
theorem dJx4497a_appendDecimalTo_00aa9_134 : decode cJx4497a_appendDecimalTo_00aa9 134 = .ok (.iload 7, 2) := by decide +kernel
theorem dJx4497a_appendDecimalTo_00aa9_136 : decode cJx4497a_appendDecimalTo_00aa9 136 = .ok (.iload 6, 2) := by decide +kernel
theorem dJx4497a_appendDecimalTo_00aa9_138 : decode cJx4497a_appendDecimalTo_00aa9 138 = .ok (.if_icmp .ge 25, 3) := by decide +kernel
theorem dJx4497a_appendDecimalTo_00aa9_141 : decode cJx4497a_appendDecimalTo_00aa9 141 = .ok (.aload 5, 2) := by decide +kernel
theorem dJx4497a_appendDecimalTo_00aa9_143 : decode cJx4497a_appendDecimalTo_00aa9 143 = .ok (.iload 7, 2) := by decide +kernel
theorem dJx4497a_appendDecimalTo_00aa9_145 : decode cJx4497a_appendDecimalTo_00aa9 145 = .ok (.caload, 1) := by decide +kernel
theorem dJx4497a_appendDecimalTo_00aa9_146 : decode cJx4497a_appendDecimalTo_00aa9 146 = .ok (.istore 8, 2) := by decide +kernel
theorem dJx4497a_appendDecimalTo_00aa9_148 : decode cJx4497a_appendDecimalTo_00aa9 148 = .ok (.aload_n 3, 1) := by decide +kernel
theorem dJx4497a_appendDecimalTo_00aa9_149 : decode cJx4497a_appendDecimalTo_00aa9 149 = .ok (.iload 8, 2) := by decide +kernel
theorem dJx4497a_appendDecimalTo_00aa9_151 : decode cJx4497a_appendDecimalTo_00aa9 151 = .ok (.invokeinterface 59 2, 5) := by decide +kernel
theorem dJx4497a_appendDecimalTo_00aa9_156 : decode cJx4497a_appendDecimalTo_00aa9 156 = .ok (.pop, 1) := by decide +kernel
theorem dJx4497a_appendDecimalTo_00aa9_157 : decode cJx4497a_appendDecimalTo_00aa9 157 = .ok (.iinc 7 1, 3) := by decide +kernel
theorem dJx4497a_appendDecimalTo_00aa9_160 : decode cJx4497a_appendDecimalTo_00aa9 160 = .ok (.goto (-26), 3) := by decide +kernel
theorem dJx4497a_appendDecimalTo_00aa9_163 : decode cJx4497a_appendDecimalTo_00aa9 163 = .ok (.aload_n 3, 1) := by decide +kernel
theorem dJx4497a_appendDecimalTo_00aa9_164 : decode cJx4497a_appendDecimalTo_00aa9 164 = .ok (.areturn, 1) := by decide +kernel
theorem dJx4497a_appendDecimalTo_00aa9_165 : decode cJx4497a_appendDecimalTo_00aa9 165 = .ok (.aload_n 3, 1) := by decide +kernel
theorem dJx4497a_appendDecimalTo_00aa9_166 : decode cJx4497a_appendDecimalTo_00aa9 166 = .ok (.ldc 34, 2) := by decide +kernel
theorem dJx4497a_appendDecimalTo_00aa9_168 : decode cJx4497a_appendDecimalTo_00aa9 168 = .ok (.invokeinterface 64 2, 5) := by decide +kernel
theorem dJx4497a_appendDecimalTo_00aa9_173 : decode cJx4497a_appendDecimalTo_00aa9 173 = .ok (.areturn, 1) := by decide +kernel
theorem dJx4497a_appendDecimalTo_00aa9_174 : decode cJx4497a_appendDecimalTo_00aa9 174 = .ok (.aload_n 3, 1) := by decide +kernel
theorem dJx4497a_appendDecimalTo_00aa9_175 : decode cJx4497a_appendDecimalTo_00aa9 175 = .ok (.ldc 36, 2) := by decide +kernel
theorem dJx4497a_appendDecimalTo_00aa9_177 : decode cJx4497a_appendDecimalTo_00aa9 177 = .ok (.invokeinterface 64 2, 5) := by decide +kernel
theorem dJx4497a_appendDecimalTo_00aa9_182 : decode cJx4497a_appendDecimalTo_00aa9 182 = .ok (.areturn, 1) := by decide +kernel
theorem dJx4497a_appendDecimalTo_00aa9_183 : decode cJx4497a_appendDecimalTo_00aa9 183 = .ok (.aload_n 3, 1) := by decide +kernel
theorem dJx4497a_appendDecimalTo_00aa9_184 : decode cJx4497a_appendDecimalTo_00aa9 184 = .ok (.ldc 38, 2) := by decide +kernel
theorem dJx4497a_appendDecimalTo_00aa9_186 : decode cJx4497a_appendDecimalTo_00aa9 186 = .ok (.invokeinterface 64 2, 5) := by decide +kernel
theorem dJx4497a_appendDecimalTo_00aa9_191 : decode cJx4497a_appendDecimalTo_00aa9 191 = .ok (.areturn, 1) := by decide +kernel
theorem dJx4497a_appendDecimalTo_00aa9_192 : decode cJx4497a_appendDecimalTo_00aa9 192 = .ok (.aload_n 3, 1) := by decide +kernel
theorem dJx4497a_appendDecimalTo_00aa9_193 : decode cJx4497a_appendDecimalTo_00aa9 193 = .ok (.ldc 40, 2) := by decide +kernel
theorem dJx4497a_appendDecimalTo_00aa9_195 : decode cJx4497a_appendDecimalTo_00aa9 195 = .ok (.invokeinterface 64 2, 5) := by decide +kernel
theorem dJx4497a_appendDecimalTo_00aa9_200 : decode cJx4497a_appendDecimalTo_00aa9 200 = .ok (.areturn, 1) := by decide +kernel
theorem dJx4497a_appendDecimalTo_00aa9_201 : decode cJx4497a_appendDecimalTo_00aa9 201 = .ok (.aload_n 3, 1) := by decide +kernel
theorem dJx4497a_appendDecimalTo_00aa9_202 : decode cJx4497a_appendDecimalTo_00aa9 202 = .ok (.ldc 42, 2) := by decide +kernel
theorem dJx4497a_appendDecimalTo_00aa9_204 : decode cJx4497a_appendDecimalTo_00aa9 204 = .ok (.invokeinterface 64 2, 5) := by decide +kernel
theorem dJx4497a_appendDecimalTo_00aa9_209 : decode cJx4497a_appendDecimalTo_00aa9 209 = .ok (.areturn, 1) := by decide +kernel
set_option maxRecDepth 20000 in
theorem ggJx4497a_toDecimal_a02bb_Jx4497a_append_d00df : GoodIn wsJx4497a_toDecimal_a02bb wsJx4497a_append_d00df := goodIn_r _ [14, 15, 6, 110, 111] (by decide +kernel) (by decide +kernel)
set_option maxRecDepth 20000 in
theorem gJx4497a_toDecimal_a02bb_Jx4497a_append_d00df : GoodIn wsJx4497a_toDecimal_a02bb (wsV RJx4497a 73 RJx4497a yJx4497a_append_d00df wsJx4497a_append_d00df) := goodIn_app (goodIn_of _ (by decide +kernel)) ggJx4497a_toDecimal_a02bb_Jx4497a_append_d00df
set_option maxRecDepth 20000 in
theorem ggJx4497a_toDecimal_a02bb_Jx4497a_toChars_b7021 : GoodIn wsJx4497a_toDecimal_a02bb wsJx4497a_toChars_b7021 := goodIn_r _ [19, 20, 21, 22, 23, 24, 25, 26, 27, 28, 29, 30, 31, 32, 33, 34, 35, 36, 37, 38, 39, 40, 41, 42, 43, 44, 45, 46, 47, 48, 49, 13, 50, 51, 52, 53, 54, 55, 15, 6, 56, 57, 58, 59, 10, 11, 12, 14, 60, 61, 62, 63, 64, 65, 66, 67, 68, 69, 70, 71, 72, 73, 74, 75, 76, 77, 78, 79, 80, 81, 82, 83, 110, 111] (by decide +kernel) (by decide +kernel)
set_option maxRecDepth 20000 in
theorem gJx4497a_toDecimal_a02bb_Jx4497a_toChars_b7021 : GoodIn wsJx4497a_toDecimal_a02bb (wsV RJx4497a 78 RJx4497a yJx4497a_toChars_b7021 wsJx4497a_toChars_b7021) := goodIn_app (goodIn_of _ (by decide +kernel)) ggJx4497a_toDecimal_a02bb_Jx4497a_toChars_b7021
set_option maxRecDepth 20000 in
theorem ggJx4497a_toDecimal_a02bb_Jx4497a_toDecimal_3416a : GoodIn wsJx4497a_toDecimal_a02bb wsJx4497a_toDecimal_3416a := goodIn_r _ [87, 88, 7, 89, 9, 90, 33, 34, 35, 36, 37, 91, 92, 93, 94, 95, 96, 97, 98, 99, 100, 101, 102, 103, 104, 105, 106, 107, 13, 108, 109, 42, 43, 44, 45, 46, 16, 17, 18, 19, 20, 21, 22, 23, 24, 25, 26, 27, 28, 29, 30, 31, 32, 38, 39, 40, 41, 47, 48, 49, 50, 51, 52, 53, 54, 55, 15, 6, 56, 57, 58, 59, 10, 11, 12, 14, 60, 61, 62, 63, 64, 65, 66, 67, 68, 69, 70, 71, 72, 73, 74, 75, 76, 77, 78, 79, 80, 81, 82, 83, 110, 111] (by decide +kernel) (by decide +kernel)
set_option maxRecDepth 20000 in
theorem gJx4497a_toDecimal_a02bb_Jx4497a_toDecimal_3416a : GoodIn wsJx4497a_toDecimal_a02bb (wsV RJx4497a 82 RJx4497a yJx4497a_toDecimal_3416a wsJx4497a_toDecimal_3416a) := goodIn_app (goodIn_of _ (by decide +kernel)) ggJx4497a_toDecimal_a02bb_Jx4497a_toDecimal_3416a
theorem dJx4497a_toDecimal_a02bb_0 : decode cJx4497a_toDecimal_a02bb 0 = .ok (.dload_n 1, 1) := by decide +kernel
theorem dJx4497a_toDecimal_a02bb_1 : decode cJx4497a_toDecimal_a02bb 1 = .ok (.invokestatic 67, 3) := by decide +kernel
theorem dJx4497a_toDecimal_a02bb_4 : decode cJx4497a_toDecimal_a02bb 4 = .ok (.lstore 4, 2) := by decide +kernel
theorem dJx4497a_toDecimal_a02bb_6 : decode cJx4497a_toDecimal_a02bb 6 = .ok (.lload 4, 2) := by decide +kernel
theorem dJx4497a_toDecimal_a02bb_8 : decode cJx4497a_toDecimal_a02bb 8 = .ok (.ldc2_w 71, 3) := by decide +kernel
theorem dJx4497a_toDecimal_a02bb_11 : decode cJx4497a_toDecimal_a02bb 11 = .ok (.land, 1) := by decide +kernel
theorem dJx4497a_toDecimal_a02bb_12 : decode cJx4497a_toDecimal_a02bb 12 = .ok (.lstore 6, 2) := by decide +kernel
theorem dJx4497a_toDecimal_a02bb_14 : decode cJx4497a_toDecimal_a02bb 14 = .ok (.lload 4, 2) := by decide +kernel
theorem dJx4497a_toDecimal_a02bb_16 : decode cJx4497a_toDecimal_a02bb 16 = .ok (.bipush 52, 2) := by decide +kernel
theorem dJx4497a_toDecimal_a02bb_18 : decode cJx4497a_toDecimal_a02bb 18 = .ok (.lushr, 1) := by decide +kernel
theorem dJx4497a_toDecimal_a02bb_19 : decode cJx4497a_toDecimal_a02bb 19 = .ok (.l2i, 1) := by decide +kernel
theorem dJx4497a_toDecimal_a02bb_20 : decode cJx4497a_toDecimal_a02bb 20 = .ok (.sipush 2047, 3) := by decide +kernel
theorem dJx4497a_toDecimal_a02bb_23 : decode cJx4497a_toDecimal_a02bb 23 = .ok (.iand, 1) := by decide +kernel
theorem dJx4497a_toDecimal_a02bb_24 : decode cJx4497a_toDecimal_a02bb 24 = .ok (.istore 8, 2) := by decide +kernel
theorem dJx4497a_toDecimal_a02bb_26 : decode cJx4497a_toDecimal_a02bb 26 = .ok (.iload 8, 2) := by decide +kernel
theorem dJx4497a_toDecimal_a02bb_28 : decode cJx4497a_toDecimal_a02bb 28 = .ok (.sipush 2047, 3) := by decide +kernel
theorem dJx4497a_toDecimal_a02bb_31 : decode cJx4497a_toDecimal_a02bb 31 = .ok (.if_icmp .ge 167, 3) := by decide +kernel
theorem dJx4497a_toDecimal_a02bb_34 : decode cJx4497a_toDecimal_a02bb 34 = .ok (.aload_n 0, 1) := by decide +kernel
theorem dJx4497a_toDecimal_a02bb_35 : decode cJx4497a_toDecimal_a02bb 35 = .ok (.iconst (-1), 1) := by decide +kernel
theorem dJx4497a_toDecimal_a02bb_36 : decode cJx4497a_toDecimal_a02bb 36 = .ok (.putfield 44, 3) := by decide +kernel
theorem dJx4497a_toDecimal_a02bb_39 : decode cJx4497a_toDecimal_a02bb 39 = .ok (.lload 4, 2) := by decide +kernel
theorem dJx4497a_toDecimal_a02bb_41 : decode cJx4497a_toDecimal_a02bb 41 = .ok (.lconst 0, 1) := by decide +kernel
theorem dJx4497a_toDecimal_a02bb_42 : decode cJx4497a_toDecimal_a02bb 42 = .ok (.lcmp, 1) := by decide +kernel
theorem dJx4497a_toDecimal_a02bb_43 : decode cJx4497a_toDecimal_a02bb 43 = .ok (.ifCond .ge 9, 3) := by decide +kernel
theorem dJx4497a_toDecimal_a02bb_46 : decode cJx4497a_toDecimal_a02bb 46 = .ok (.aload_n 0, 1) := by decide +kernel
theorem dJx4497a_toDecimal_a02bb_47 : decode cJx4497a_toDecimal_a02bb 47 = .ok (.bipush 45, 2) := by decide +kernel
theorem dJx4497a_toDecimal_a02bb_49 : decode cJx4497a_toDecimal_a02bb 49 = .ok (.invokevirtual 73, 3) := by decide +kernel
theorem dJx4497a_toDecimal_a02bb_52 : decode cJx4497a_toDecimal_a02bb 52 = .ok (.iload 8, 2) := by decide +kernel
theorem dJx4497a_toDecimal_a02bb_54 : decode cJx4497a_toDecimal_a02bb 54 = .ok (.ifCond .eq 85, 3) := by decide +kernel
theorem dJx4497a_toDecimal_a02bb_57 : decode cJx4497a_toDecimal_a02bb 57 = .ok (.sipush 1075, 3) := by decide +kernel
theorem dJx4497a_toDecimal_a02bb_60 : decode cJx4497a_toDecimal_a02bb 60 = .ok (.iload 8, 2) := by decide +kernel
theorem dJx4497a_toDecimal_a02bb_62 : decode cJx4497a_toDecimal_a02bb 62 = .ok (.isub, 1) := by decide +kernel
theorem dJx4497a_toDecimal_a02bb_63 : decode cJx4497a_toDecimal_a02bb 63 = .ok (.istore 9, 2) := by decide +kernel
theorem dJx4497a_toDecimal_a02bb_65 : decode cJx4497a_toDecimal_a02bb 65 = .ok (.ldc2_w 76, 3) := by decide +kernel
theorem dJx4497a_toDecimal_a02bb_68 : decode cJx4497a_toDecimal_a02bb 68 = .ok (.lload 6, 2) := by decide +kernel
theorem dJx4497a_toDecimal_a02bb_70 : decode cJx4497a_toDecimal_a02bb 70 = .ok (.lor, 1) := by decide +kernel
theorem dJx4497a_toDecimal_a02bb_71 : decode cJx4497a_toDecimal_a02bb 71 = .ok (.lstore 10, 2) := by decide +kernel
theorem dJx4497a_toDecimal_a02bb_73 : decode cJx4497a_toDecimal_a02bb 73 = .ok (.iconst 0, 1) := by decide +kernel
theorem dJx4497a_toDecimal_a02bb_74 : decode cJx4497a_toDecimal_a02bb 74 = .ok (.iload 9, 2) := by decide +kernel
theorem dJx4497a_toDecimal_a02bb_76 : decode cJx4497a_toDecimal_a02bb 76 = .ok (.if_icmp .ge 7, 3) := by decide +kernel
theorem dJx4497a_toDecimal_a02bb_79 : decode cJx4497a_toDecimal_a02bb 79 = .ok (.iconst 1, 1) := by decide +kernel
theorem dJx4497a_toDecimal_a02bb_80 : decode cJx4497a_toDecimal_a02bb 80 = .ok (.goto 4, 3) := by decide +kernel
theorem dJx4497a_toDecimal_a02bb_83 : decode cJx4497a_toDecimal_a02bb 83 = .ok (.iconst 0, 1) := by decide +kernel
theorem dJx4497a_toDecimal_a02bb_84 : decode cJx4497a_toDecimal_a02bb 84 = .ok (.iload 9, 2) := by decide +kernel
theorem dJx4497a_toDecimal_a02bb_86 : decode cJx4497a_toDecimal_a02bb 86 = .ok (.bipush 53, 2) := by decide +kernel
theorem dJx4497a_toDecimal_a02bb_88 : decode cJx4497a_toDecimal_a02bb 88 = .ok (.if_icmp .ge 7, 3) := by decide +kernel
theorem dJx4497a_toDecimal_a02bb_91 : decode cJx4497a_toDecimal_a02bb 91 = .ok (.iconst 1, 1) := by decide +kernel
theorem dJx4497a_toDecimal_a02bb_92 : decode cJx4497a_toDecimal_a02bb 92 = .ok (.goto 4, 3) := by decide +kernel
theorem dJx4497a_toDecimal_a02bb_95 : decode cJx4497a_toDecimal_a02bb 95 = .ok (.iconst 0, 1) := by decide +kernel
theorem dJx4497a_toDecimal_a02bb_96 : decode cJx4497a_toDecimal_a02bb 96 = .ok (.iand, 1) := by decide +kernel
theorem dJx4497a_toDecimal_a02bb_97 : decode cJx4497a_toDecimal_a02bb 97 = .ok (.ifCond .eq 30, 3) := by decide +kernel
theorem dJx4497a_toDecimal_a02bb_100 : decode cJx4497a_toDecimal_a02bb 100 = .ok (.lload 10, 2) := by decide +kernel
theorem dJx4497a_toDecimal_a02bb_102 : decode cJx4497a_toDecimal_a02bb 102 = .ok (.iload 9, 2) := by decide +kernel
theorem dJx4497a_toDecimal_a02bb_104 : decode cJx4497a_toDecimal_a02bb 104 = .ok (.lshr, 1) := by decide +kernel
theorem dJx4497a_toDecimal_a02bb_105 : decode cJx4497a_toDecimal_a02bb 105 = .ok (.lstore 12, 2) := by decide +kernel
theorem dJx4497a_toDecimal_a02bb_107 : decode cJx4497a_toDecimal_a02bb 107 = .ok (.lload 12, 2) := by decide +kernel
theorem dJx4497a_toDecimal_a02bb_109 : decode cJx4497a_toDecimal_a02bb 109 = .ok (.iload 9, 2) := by decide +kernel
theorem dJx4497a_toDecimal_a02bb_111 : decode cJx4497a_toDecimal_a02bb 111 = .ok (.lshl, 1) := by decide +kernel
theorem dJx4497a_toDecimal_a02bb_112 : decode cJx4497a_toDecimal_a02bb 112 = .ok (.lload 10, 2) := by decide +kernel
theorem dJx4497a_toDecimal_a02bb_114 : decode cJx4497a_toDecimal_a02bb 114 = .ok (.lcmp, 1) := by decide +kernel
theorem dJx4497a_toDecimal_a02bb_115 : decode cJx4497a_toDecimal_a02bb 115 = .ok (.ifCond .ne 12, 3) := by decide +kernel
theorem dJx4497a_toDecimal_a02bb_118 : decode cJx4497a_toDecimal_a02bb 118 = .ok (.aload_n 0, 1) := by decide +kernel
theorem dJx4497a_toDecimal_a02bb_119 : decode cJx4497a_toDecimal_a02bb 119 = .ok (.lload 12, 2) := by decide +kernel
theorem dJx4497a_toDecimal_a02bb_121 : decode cJx4497a_toDecimal_a02bb 121 = .ok (.iconst 0, 1) := by decide +kernel
theorem dJx4497a_toDecimal_a02bb_122 : decode cJx4497a_toDecimal_a02bb 122 = .ok (.aload_n 3, 1) := by decide +kernel
theorem dJx4497a_toDecimal_a02bb_123 : decode cJx4497a_toDecimal_a02bb 123 = .ok (.invokevirtual 78, 3) := by decide +kernel
theorem dJx4497a_toDecimal_a02bb_126 : decode cJx4497a_toDecimal_a02bb 126 = .ok (.ireturn, 1) := by decide +kernel
theorem dJx4497a_toDecimal_a02bb_127 : decode cJx4497a_toDecimal_a02bb 127 = .ok (.aload_n 0, 1) := by decide +kernel
theorem dJx4497a_toDecimal_a02bb_128 : decode cJx4497a_toDecimal_a02bb 128 = .ok (.iload 9, 2) := by decide +kernel
theorem dJx4497a_toDecimal_a02bb_130 : decode cJx4497a_toDecimal_a02bb 130 = .ok (.ineg, 1) := by decide +kernel
theorem dJx4497a_toDecimal_a02bb_131 : decode cJx4497a_toDecimal_a02bb 131 = .ok (.lload 10, 2) := by decide +kernel
theorem dJx4497a_toDecimal_a02bb_133 : decode cJx4497a_toDecimal_a02bb 133 = .ok (.iconst 0, 1) := by decide +kernel
theorem dJx4497a_toDecimal_a02bb_134 : decode cJx4497a_toDecimal_a02bb 134 = .ok (.aload_n 3, 1) := by decide +kernel
theorem dJx4497a_toDecimal_a02bb_135 : decode cJx4497a_toDecimal_a02bb 135 = .ok (.invokevirtual 82, 3) := by decide +kernel
theorem dJx4497a_toDecimal_a02bb_138 : decode cJx4497a_toDecimal_a02bb 138 = .ok (.ireturn, 1) := by decide +kernel
theorem dJx4497a_toDecimal_a02bb_139 : decode cJx4497a_toDecimal_a02bb 139 = .ok (.lload 6, 2) := by decide +kernel
theorem dJx4497a_toDecimal_a02bb_141 : decode cJx4497a_toDecimal_a02bb 141 = .ok (.lconst 0, 1) := by decide +kernel
theorem dJx4497a_toDecimal_a02bb_142 : decode cJx4497a_toDecimal_a02bb 142 = .ok (.lcmp, 1) := by decide +kernel
theorem dJx4497a_toDecimal_a02bb_143 : decode cJx4497a_toDecimal_a02bb 143 = .ok (.ifCond .eq 42, 3) := by decide +kernel
theorem dJx4497a_toDecimal_a02bb_146 : decode cJx4497a_toDecimal_a02bb 146 = .ok (.lload 6, 2) := by decide +kernel
theorem dJx4497a_toDecimal_a02bb_148 : decode cJx4497a_toDecimal_a02bb 148 = .ok (.ldc2_w 85, 3) := by decide +kernel
theorem dJx4497a_toDecimal_a02bb_151 : decode cJx4497a_toDecimal_a02bb 151 = .ok (.lcmp, 1) := by decide +kernel
theorem dJx4497a_toDecimal_a02bb_152 : decode cJx4497a_toDecimal_a02bb 152 = .ok (.ifCond .ge 21, 3) := by decide +kernel
theorem dJx4497a_toDecimal_a02bb_155 : decode cJx4497a_toDecimal_a02bb 155 = .ok (.aload_n 0, 1) := by decide +kernel
theorem dJx4497a_toDecimal_a02bb_156 : decode cJx4497a_toDecimal_a02bb 156 = .ok (.sipush (-1074), 3) := by decide +kernel
theorem dJx4497a_toDecimal_a02bb_159 : decode cJx4497a_toDecimal_a02bb 159 = .ok (.ldc2_w 87, 3) := by decide +kernel
theorem dJx4497a_toDecimal_a02bb_162 : decode cJx4497a_toDecimal_a02bb 162 = .ok (.lload 6, 2) := by decide +kernel
theorem dJx4497a_toDecimal_a02bb_164 : decode cJx4497a_toDecimal_a02bb 164 = .ok (.lmul, 1) := by decide +kernel
theorem dJx4497a_toDecimal_a02bb_165 : decode cJx4497a_toDecimal_a02bb 165 = .ok (.iconst (-1), 1) := by decide +kernel
theorem dJx4497a_toDecimal_a02bb_166 : decode cJx4497a_toDecimal_a02bb 166 = .ok (.aload_n 3, 1) := by decide +kernel
theorem dJx4497a_toDecimal_a02bb_167 : decode cJx4497a_toDecimal_a02bb 167 = .ok (.invokevirtual 82, 3) := by decide +kernel
theorem dJx4497a_toDecimal_a02bb_170 : decode cJx4497a_toDecimal_a02bb 170 = .ok (.goto 14, 3) := by decide +kernel
theorem dJx4497a_toDecimal_a02bb_173 : decode cJx4497a_toDecimal_a02bb 173 = .ok (.aload_n 0, 1) := by decide +kernel
theorem dJx4497a_toDecimal_a02bb_174 : decode cJx4497a_toDecimal_a02bb 174 = .ok (.sipush (-1074), 3) := by decide +kernel
theorem dJx4497a_toDecimal_a02bb_177 : decode cJx4497a_toDecimal_a02bb 177 = .ok (.lload 6, 2) := by decide +kernel
theorem dJx4497a_toDecimal_a02bb_179 : decode cJx4497a_toDecimal_a02bb 179 = .ok (.iconst 0, 1) := by decide +kernel
theorem dJx4497a_toDecimal_a02bb_180 : decode cJx4497a_toDecimal_a02bb 180 = .ok (.aload_n 3, 1) := by decide +kernel
theorem dJx4497a_toDecimal_a02bb_181 : decode cJx4497a_toDecimal_a02bb 181 = .ok (.invokevirtual 82, 3) := by decide +kernel
theorem dJx4497a_toDecimal_a02bb_184 : decode cJx4497a_toDecimal_a02bb 184 = .ok (.ireturn, 1) := by decide +kernel
theorem dJx4497a_toDecimal_a02bb_185 : decode cJx4497a_toDecimal_a02bb 185 = .ok (.lload 4, 2) := by decide +kernel
theorem dJx4497a_toDecimal_a02bb_187 : decode cJx4497a_toDecimal_a02bb 187 = .ok (.lconst 0, 1) := by decide +kernel
theorem dJx4497a_toDecimal_a02bb_188 : decode cJx4497a_toDecimal_a02bb 188 = .ok (.lcmp, 1) := by decide +kernel
theorem dJx4497a_toDecimal_a02bb_189 : decode cJx4497a_toDecimal_a02bb 189 = .ok (.ifCond .ne 7, 3) := by decide +kernel
theorem dJx4497a_toDecimal_a02bb_192 : decode cJx4497a_toDecimal_a02bb 192 = .ok (.iconst 1, 1) := by decide +kernel
theorem dJx4497a_toDecimal_a02bb_193 : decode cJx4497a_toDecimal_a02bb 193 = .ok (.goto 4, 3) := by decide +kernel
theorem dJx4497a_toDecimal_a02bb_196 : decode cJx4497a_toDecimal_a02bb 196 = .ok (.iconst 2, 1) := by decide +kernel
theorem dJx4497a_toDecimal_a02bb_197 : decode cJx4497a_toDecimal_a02bb 197 = .ok (.ireturn, 1) := by decide +kernel
theorem dJx4497a_toDecimal_a02bb_198 : decode cJx4497a_toDecimal_a02bb 198 = .ok (.lload 6, 2) := by decide +kernel
theorem dJx4497a_toDecimal_a02bb_200 : decode cJx4497a_toDecimal_a02bb 200 = .ok (.lconst 0, 1) := by decide +kernel
theorem dJx4497a_toDecimal_a02bb_201 : decode cJx4497a_toDecimal_a02bb 201 = .ok (.lcmp, 1) := by decide +kernel
theorem dJx4497a_toDecimal_a02bb_202 : decode cJx4497a_toDecimal_a02bb 202 = .ok (.ifCond .eq 5, 3) := by decide +kernel
theorem dJx4497a_toDecimal_a02bb_205 : decode cJx4497a_toDecimal_a02bb 205 = .ok (.iconst 5, 1) := by decide +kernel
theorem dJx4497a_toDecimal_a02bb_206 : decode cJx4497a_toDecimal_a02bb 206 = .ok (.ireturn, 1) := by decide +kernel
theorem dJx4497a_toDecimal_a02bb_207 : decode cJx4497a_toDecimal_a02bb 207 = .ok (.lload 4, 2) := by decide +kernel
theorem dJx4497a_toDecimal_a02bb_209 : decode cJx4497a_toDecimal_a02bb 209 = .ok (.lconst 0, 1) := by decide +kernel
theorem dJx4497a_toDecimal_a02bb_210 : decode cJx4497a_toDecimal_a02bb 210 = .ok (.lcmp, 1) := by decide +kernel
theorem dJx4497a_toDecimal_a02bb_211 : decode cJx4497a_toDecimal_a02bb 211 = .ok (.ifCond .le 7, 3) := by decide +kernel
theorem dJx4497a_toDecimal_a02bb_214 : decode cJx4497a_toDecimal_a02bb 214 = .ok (.iconst 3, 1) := by decide +kernel
theorem dJx4497a_toDecimal_a02bb_215 : decode cJx4497a_toDecimal_a02bb 215 = .ok (.goto 4, 3) := by decide +kernel
theorem dJx4497a_toDecimal_a02bb_218 : decode cJx4497a_toDecimal_a02bb 218 = .ok (.iconst 4, 1) := by decide +kernel
theorem dJx4497a_toDecimal_a02bb_219 : decode cJx4497a_toDecimal_a02bb 219 = .ok (.ireturn, 1) := by decide +kernel
set_option maxRecDepth 20000 in
theorem ggJx4497a_toDecimal_3416a_Jx25f51_flog10pow2_0f7a4 : GoodIn wsJx4497a_toDecimal_3416a wsJx25f51_flog10pow2_0f7a4 := goodIn_r _ [9, 10] (by decide +kernel) (by decide +kernel)
set_option maxRecDepth 20000 in
theorem gJx4497a_toDecimal_3416a_Jx25f51_flog10pow2_0f7a4 : GoodIn wsJx4497a_toDecimal_3416a (va_wsS RJx4497a 91 yJx25f51_flog10pow2_0f7a4 wsJx25f51_flog10pow2_0f7a4) := goodIn_app (goodIn_of _ (by decide +kernel)) ggJx4497a_toDecimal_3416a_Jx25f51_flog10pow2_0f7a4
set_option maxRecDepth 20000 in
theorem ggJx4497a_toDecimal_3416a_Jx25f51_flog10threeQuartersPow2_0f7a4 : GoodIn wsJx4497a_toDecimal_3416a wsJx25f51_flog10threeQuartersPow2_0f7a4 := goodIn_r _ [13, 10, 14] (by decide +kernel) (by decide +kernel)
set_option maxRecDepth 20000 in
theorem gJx4497a_toDecimal_3416a_Jx25f51_flog10threeQuartersPow2_0f7a4 : GoodIn wsJx4497a_toDecimal_3416a (va_wsS RJx4497a 97 yJx25f51_flog10threeQuartersPow2_0f7a4 wsJx25f51_flog10threeQuartersPow2_0f7a4) := goodIn_app (goodIn_of _ (by decide +kernel)) ggJx4497a_toDecimal_3416a_Jx25f51_flog10threeQuartersPow2_0f7a4
set_option maxRecDepth 20000 in
theorem ggJx4497a_toDecimal_3416a_Jx25f51_flog2pow10_0f7a4 : GoodIn wsJx4497a_toDecimal_3416a wsJx25f51_flog2pow10_0f7a4 := goodIn_r _ [17, 18] (by decide +kernel) (by decide +kernel)
set_option maxRecDepth 20000 in
theorem gJx4497a_toDecimal_3416a_Jx25f51_flog2pow10_0f7a4 : GoodIn wsJx4497a_toDecimal_3416a (va_wsS RJx4497a 100 yJx25f51_flog2pow10_0f7a4 wsJx25f51_flog2pow10_0f7a4) := goodIn_app (goodIn_of _ (by decide +kernel)) ggJx4497a_toDecimal_3416a_Jx25f51_flog2pow10_0f7a4
set_option maxRecDepth 20000 in
theorem ggJx4497a_toDecimal_3416a_Jx25f51_g1_3e8ac : GoodIn wsJx4497a_toDecimal_3416a wsJx25f51_g1_3e8ac := goodIn_r _ [21, 22] (by decide +kernel) (by decide +kernel)
set_option maxRecDepth 20000 in
theorem gJx4497a_toDecimal_3416a_Jx25f51_g1_3e8ac : GoodIn wsJx4497a_toDecimal_3416a (va_wsS RJx4497a 103 yJx25f51_g1_3e8ac wsJx25f51_g1_3e8ac) := goodIn_app (goodIn_of _ (by decide +kernel)) ggJx4497a_toDecimal_3416a_Jx25f51_g1_3e8ac
set_option maxRecDepth 20000 in
theorem ggJx4497a_toDecimal_3416a_Jx25f51_g0_3e8ac : GoodIn wsJx4497a_toDecimal_3416a wsJx25f51_g0_3e8ac := goodIn_r _ [25, 22] (by decide +kernel) (by decide +kernel)
set_option maxRecDepth 20000 in
theorem gJx4497a_toDecimal_3416a_Jx25f51_g0_3e8ac : GoodIn wsJx4497a_toDecimal_3416a (va_wsS RJx4497a 107 yJx25f51_g0_3e8ac wsJx25f51_g0_3e8ac) := goodIn_app (goodIn_of _ (by decide +kernel)) ggJx4497a_toDecimal_3416a_Jx25f51_g0_3e8ac
set_option maxRecDepth 20000 in
theorem ggJx4497a_toDecimal_3416a_Jx4497a_rop_fb923 : GoodIn wsJx4497a_toDecimal_3416a wsJx4497a_rop_fb923 := goodIn_r _ [29, 30, 31, 32, 33, 34, 35] (by decide +kernel) (by decide +kernel)
set_option maxRecDepth 20000 in
theorem gJx4497a_toDecimal_3416a_Jx4497a_rop_fb923 : GoodIn wsJx4497a_toDecimal_3416a (va_wsS RJx4497a 110 yJx4497a_rop_fb923 wsJx4497a_rop_fb923) := goodIn_app (goodIn_of _ (by decide +kernel)) ggJx4497a_toDecimal_3416a_Jx4497a_rop_fb923
set_option maxRecDepth 20000 in
theorem ggJx4497a_toDecimal_3416a_J9_multiplyHigh_f86c9 : GoodIn wsJx4497a_toDecimal_3416a wsJ9_multiplyHigh_f86c9 := goodIn_r _ [34, 35] (by decide +kernel) (by decide +kernel)
set_option maxRecDepth 20000 in
theorem gJx4497a_toDecimal_3416a_J9_multiplyHigh_f86c9 : GoodIn wsJx4497a_toDecimal_3416a (va_wsS RJx4497a 118 yJ9_multiplyHigh_f86c9 wsJ9_multiplyHigh_f86c9) := goodIn_app (goodIn_of _ (by decide +kernel)) ggJx4497a_toDecimal_3416a_J9_multiplyHigh_f86c9
set_option maxRecDepth 20000 in
theorem ggJx4497a_toDecimal_3416a_Jx4497a_toChars_b7021 : GoodIn wsJx4497a_toDecimal_3416a wsJx4497a_toChars_b7021 := goodIn_r _ [39, 40, 41, 42, 43, 44, 45, 46, 47, 48, 49, 50, 51, 52, 6, 7, 8, 9, 10, 53, 54, 55, 56, 31, 32, 33, 34, 35, 57, 58, 59, 28, 60, 61, 62, 63, 64, 65, 66, 67, 68, 69, 70, 71, 72, 73, 74, 75, 76, 77, 78, 79, 80, 81, 82, 83, 84, 85, 86, 87, 88, 89, 90, 91, 92, 93, 94, 95, 96, 97, 98, 99, 100, 101] (by decide +kernel) (by decide +kernel)
set_option maxRecDepth 20000 in
theorem gJx4497a_toDecimal_3416a_Jx4497a_toChars_b7021 : GoodIn wsJx4497a_toDecimal_3416a (wsV RJx4497a 78 RJx4497a yJx4497a_toChars_b7021 wsJx4497a_toChars_b7021) := goodIn_app (goodIn_of _ (by decide +kernel)) ggJx4497a_toDecimal_3416a_Jx4497a_toChars_b7021
theorem dJx4497a_toDecimal_3416a_0 : decode cJx4497a_toDecimal_3416a 0 = .ok (.lload_n 2, 1) := by decide +kernel
theorem dJx4497a_toDecimal_3416a_1 : decode cJx4497a_toDecimal_3416a 1 = .ok (.l2i, 1) := by decide +kernel
theorem dJx4497a_toDecimal_3416a_2 : decode cJx4497a_toDecimal_3416a 2 = .ok (.iconst 1, 1) := by decide +kernel
theorem dJx4497a_toDecimal_3416a_3 : decode cJx4497a_toDecimal_3416a 3 = .ok (.iand, 1) := by decide +kernel
theorem dJx4497a_toDecimal_3416a_4 : decode cJx4497a_toDecimal_3416a 4 = .ok (.istore 6, 2) := by decide +kernel
theorem dJx4497a_toDecimal_3416a_6 : decode cJx4497a_toDecimal_3416a 6 = .ok (.lload_n 2, 1) := by decide +kernel
theorem dJx4497a_toDecimal_3416a_7 : decode cJx4497a_toDecimal_3416a 7 = .ok (.iconst 2, 1) := by decide +kernel
theorem dJx4497a_toDecimal_3416a_8 : decode cJx4497a_toDecimal_3416a 8 = .ok (.lshl, 1) := by decide +kernel
theorem dJx4497a_toDecimal_3416a_9 : decode cJx4497a_toDecimal_3416a 9 = .ok (.lstore 7, 2) := by decide +kernel
theorem dJx4497a_toDecimal_3416a_11 : decode cJx4497a_toDecimal_3416a 11 = .ok (.lload 7, 2) := by decide +kernel
theorem dJx4497a_toDecimal_3416a_13 : decode cJx4497a_toDecimal_3416a 13 = .ok (.ldc2_w 89, 3) := by decide +kernel
theorem dJx4497a_toDecimal_3416a_16 : decode cJx4497a_toDecimal_3416a 16 = .ok (.ladd, 1) := by decide +kernel
theorem dJx4497a_toDecimal_3416a_17 : decode cJx4497a_toDecimal_3416a 17 = .ok (.lstore 9, 2) := by decide +kernel
theorem dJx4497a_toDecimal_3416a_19 : decode cJx4497a_toDecimal_3416a 19 = .ok (.lload_n 2, 1) := by decide +kernel
theorem dJx4497a_toDecimal_3416a_20 : decode cJx4497a_toDecimal_3416a 20 = .ok (.ldc2_w 76, 3) := by decide +kernel
theorem dJx4497a_toDecimal_3416a_23 : decode cJx4497a_toDecimal_3416a 23 = .ok (.lcmp, 1) := by decide +kernel
theorem dJx4497a_toDecimal_3416a_24 : decode cJx4497a_toDecimal_3416a 24 = .ok (.ifCond .eq 7, 3) := by decide +kernel
theorem dJx4497a_toDecimal_3416a_27 : decode cJx4497a_toDecimal_3416a 27 = .ok (.iconst 1, 1) := by decide +kernel
theorem dJx4497a_toDecimal_3416a_28 : decode cJx4497a_toDecimal_3416a 28 = .ok (.goto 4, 3) := by decide +kernel
theorem dJx4497a_toDecimal_3416a_31 : decode cJx4497a_toDecimal_3416a 31 = .ok (.iconst 0, 1) := by decide +kernel
theorem dJx4497a_toDecimal_3416a_32 : decode cJx4497a_toDecimal_3416a 32 = .ok (.iload_n 1, 1) := by decide +kernel
theorem dJx4497a_toDecimal_3416a_33 : decode cJx4497a_toDecimal_3416a 33 = .ok (.sipush (-1074), 3) := by decide +kernel
theorem dJx4497a_toDecimal_3416a_36 : decode cJx4497a_toDecimal_3416a 36 = .ok (.if_icmp .ne 7, 3) := by decide +kernel
theorem dJx4497a_toDecimal_3416a_39 : decode cJx4497a_toDecimal_3416a 39 = .ok (.iconst 1, 1) := by decide +kernel
theorem dJx4497a_toDecimal_3416a_40 : decode cJx4497a_toDecimal_3416a 40 = .ok (.goto 4, 3) := by decide +kernel
theorem dJx4497a_toDecimal_3416a_43 : decode cJx4497a_toDecimal_3416a 43 = .ok (.iconst 0, 1) := by decide +kernel
theorem dJx4497a_toDecimal_3416a_44 : decode cJx4497a_toDecimal_3416a 44 = .ok (.ior, 1) := by decide +kernel
theorem dJx4497a_toDecimal_3416a_45 : decode cJx4497a_toDecimal_3416a 45 = .ok (.ifCond .eq 20, 3) := by decide +kernel
theorem dJx4497a_toDecimal_3416a_48 : decode cJx4497a_toDecimal_3416a 48 = .ok (.lload 7, 2) := by decide +kernel
theorem dJx4497a_toDecimal_3416a_50 : decode cJx4497a_toDecimal_3416a 50 = .ok (.ldc2_w 89, 3) := by decide +kernel
theorem dJx4497a_toDecimal_3416a_53 : decode cJx4497a_toDecimal_3416a 53 = .ok (.lsub, 1) := by decide +kernel
theorem dJx4497a_toDecimal_3416a_54 : decode cJx4497a_toDecimal_3416a 54 = .ok (.lstore 11, 2) := by decide +kernel
theorem dJx4497a_toDecimal_3416a_56 : decode cJx4497a_toDecimal_3416a 56 = .ok (.iload_n 1, 1) := by decide +kernel
theorem dJx4497a_toDecimal_3416a_57 : decode cJx4497a_toDecimal_3416a 57 = .ok (.invokestatic 91, 3) := by decide +kernel
theorem dJx4497a_toDecimal_3416a_60 : decode cJx4497a_toDecimal_3416a 60 = .ok (.istore 13, 2) := by decide +kernel
theorem dJx4497a_toDecimal_3416a_62 : decode cJx4497a_toDecimal_3416a 62 = .ok (.goto 15, 3) := by decide +kernel
theorem dJx4497a_toDecimal_3416a_65 : decode cJx4497a_toDecimal_3416a 65 = .ok (.lload 7, 2) := by decide +kernel
theorem dJx4497a_toDecimal_3416a_67 : decode cJx4497a_toDecimal_3416a 67 = .ok (.lconst 1, 1) := by decide +kernel
theorem dJx4497a_toDecimal_3416a_68 : decode cJx4497a_toDecimal_3416a 68 = .ok (.lsub, 1) := by decide +kernel
theorem dJx4497a_toDecimal_3416a_69 : decode cJx4497a_toDecimal_3416a 69 = .ok (.lstore 11, 2) := by decide +kernel
theorem dJx4497a_toDecimal_3416a_71 : decode cJx4497a_toDecimal_3416a 71 = .ok (.iload_n 1, 1) := by decide +kernel
theorem dJx4497a_toDecimal_3416a_72 : decode cJx4497a_toDecimal_3416a 72 = .ok (.invokestatic 97, 3) := by decide +kernel
theorem dJx4497a_toDecimal_3416a_75 : decode cJx4497a_toDecimal_3416a 75 = .ok (.istore 13, 2) := by decide +kernel
theorem dJx4497a_toDecimal_3416a_77 : decode cJx4497a_toDecimal_3416a 77 = .ok (.iload_n 1, 1) := by decide +kernel
theorem dJx4497a_toDecimal_3416a_78 : decode cJx4497a_toDecimal_3416a 78 = .ok (.iload 13, 2) := by decide +kernel
theorem dJx4497a_toDecimal_3416a_80 : decode cJx4497a_toDecimal_3416a 80 = .ok (.ineg, 1) := by decide +kernel
theorem dJx4497a_toDecimal_3416a_81 : decode cJx4497a_toDecimal_3416a 81 = .ok (.invokestatic 100, 3) := by decide +kernel
theorem dJx4497a_toDecimal_3416a_84 : decode cJx4497a_toDecimal_3416a 84 = .ok (.iadd, 1) := by decide +kernel
theorem dJx4497a_toDecimal_3416a_85 : decode cJx4497a_toDecimal_3416a 85 = .ok (.iconst 2, 1) := by decide +kernel
theorem dJx4497a_toDecimal_3416a_86 : decode cJx4497a_toDecimal_3416a 86 = .ok (.iadd, 1) := by decide +kernel
theorem dJx4497a_toDecimal_3416a_87 : decode cJx4497a_toDecimal_3416a 87 = .ok (.istore 14, 2) := by decide +kernel
theorem dJx4497a_toDecimal_3416a_89 : decode cJx4497a_toDecimal_3416a 89 = .ok (.iload 13, 2) := by decide +kernel
theorem dJx4497a_toDecimal_3416a_91 : decode cJx4497a_toDecimal_3416a 91 = .ok (.invokestatic 103, 3) := by decide +kernel
theorem dJx4497a_toDecimal_3416a_94 : decode cJx4497a_toDecimal_3416a 94 = .ok (.lstore 15, 2) := by decide +kernel
theorem dJx4497a_toDecimal_3416a_96 : decode cJx4497a_toDecimal_3416a 96 = .ok (.iload 13, 2) := by decide +kernel
theorem dJx4497a_toDecimal_3416a_98 : decode cJx4497a_toDecimal_3416a 98 = .ok (.invokestatic 107, 3) := by decide +kernel
theorem dJx4497a_toDecimal_3416a_101 : decode cJx4497a_toDecimal_3416a 101 = .ok (.lstore 17, 2) := by decide +kernel
theorem dJx4497a_toDecimal_3416a_103 : decode cJx4497a_toDecimal_3416a 103 = .ok (.lload 15, 2) := by decide +kernel
theorem dJx4497a_toDecimal_3416a_105 : decode cJx4497a_toDecimal_3416a 105 = .ok (.lload 17, 2) := by decide +kernel
theorem dJx4497a_toDecimal_3416a_107 : decode cJx4497a_toDecimal_3416a 107 = .ok (.lload 7, 2) := by decide +kernel
theorem dJx4497a_toDecimal_3416a_109 : decode cJx4497a_toDecimal_3416a 109 = .ok (.iload 14, 2) := by decide +kernel
theorem dJx4497a_toDecimal_3416a_111 : decode cJx4497a_toDecimal_3416a 111 = .ok (.lshl, 1) := by decide +kernel
theorem dJx4497a_toDecimal_3416a_112 : decode cJx4497a_toDecimal_3416a 112 = .ok (.invokestatic 110, 3) := by decide +kernel
theorem dJx4497a_toDecimal_3416a_115 : decode cJx4497a_toDecimal_3416a 115 = .ok (.lstore 19, 2) := by decide +kernel
theorem dJx4497a_toDecimal_3416a_117 : decode cJx4497a_toDecimal_3416a 117 = .ok (.lload 15, 2) := by decide +kernel
theorem dJx4497a_toDecimal_3416a_119 : decode cJx4497a_toDecimal_3416a 119 = .ok (.lload 17, 2) := by decide +kernel
theorem dJx4497a_toDecimal_3416a_121 : decode cJx4497a_toDecimal_3416a 121 = .ok (.lload 11, 2) := by decide +kernel
theorem dJx4497a_toDecimal_3416a_123 : decode cJx4497a_toDecimal_3416a 123 = .ok (.iload 14, 2) := by decide +kernel
theorem dJx4497a_toDecimal_3416a_125 : decode cJx4497a_toDecimal_3416a 125 = .ok (.lshl, 1) := by decide +kernel
theorem dJx4497a_toDecimal_3416a_126 : decode cJx4497a_toDecimal_3416a 126 = .ok (.invokestatic 110, 3) := by decide +kernel
theorem dJx4497a_toDecimal_3416a_129 : decode cJx4497a_toDecimal_3416a 129 = .ok (.lstore 21, 2) := by decide +kernel
theorem dJx4497a_toDecimal_3416a_131 : decode cJx4497a_toDecimal_3416a 131 = .ok (.lload 15, 2) := by decide +kernel
theorem dJx4497a_toDecimal_3416a_133 : decode cJx4497a_toDecimal_3416a 133 = .ok (.lload 17, 2) := by decide +kernel
theorem dJx4497a_toDecimal_3416a_135 : decode cJx4497a_toDecimal_3416a 135 = .ok (.lload 9, 2) := by decide +kernel
theorem dJx4497a_toDecimal_3416a_137 : decode cJx4497a_toDecimal_3416a 137 = .ok (.iload 14, 2) := by decide +kernel
theorem dJx4497a_toDecimal_3416a_139 : decode cJx4497a_toDecimal_3416a 139 = .ok (.lshl, 1) := by decide +kernel
theorem dJx4497a_toDecimal_3416a_140 : decode cJx4497a_toDecimal_3416a 140 = .ok (.invokestatic 110, 3) := by decide +kernel
theorem dJx4497a_toDecimal_3416a_143 : decode cJx4497a_toDecimal_3416a 143 = .ok (.lstore 23, 2) := by decide +kernel
theorem dJx4497a_toDecimal_3416a_145 : decode cJx4497a_toDecimal_3416a 145 = .ok (.lload 19, 2) := by decide +kernel
theorem dJx4497a_toDecimal_3416a_147 : decode cJx4497a_toDecimal_3416a 147 = .ok (.iconst 2, 1) := by decide +kernel
theorem dJx4497a_toDecimal_3416a_148 : decode cJx4497a_toDecimal_3416a 148 = .ok (.lshr, 1) := by decide +kernel
theorem dJx4497a_toDecimal_3416a_149 : decode cJx4497a_toDecimal_3416a 149 = .ok (.lstore 25, 2) := by decide +kernel
theorem dJx4497a_toDecimal_3416a_151 : decode cJx4497a_toDecimal_3416a 151 = .ok (.lload 25, 2) := by decide +kernel
theorem dJx4497a_toDecimal_3416a_153 : decode cJx4497a_toDecimal_3416a 153 = .ok (.ldc2_w 114, 3) := by decide +kernel
theorem dJx4497a_toDecimal_3416a_156 : decode cJx4497a_toDecimal_3416a 156 = .ok (.lcmp, 1) := by decide +kernel
theorem dJx4497a_toDecimal_3416a_157 : decode cJx4497a_toDecimal_3416a 157 = .ok (.ifCond .lt 95, 3) := by decide +kernel
theorem dJx4497a_toDecimal_3416a_160 : decode cJx4497a_toDecimal_3416a 160 = .ok (.ldc2_w 87, 3) := by decide +kernel
theorem dJx4497a_toDecimal_3416a_163 : decode cJx4497a_toDecimal_3416a 163 = .ok (.lload 25, 2) := by decide +kernel
theorem dJx4497a_toDecimal_3416a_165 : decode cJx4497a_toDecimal_3416a 165 = .ok (.ldc2_w 116, 3) := by decide +kernel
theorem dJx4497a_toDecimal_3416a_168 : decode cJx4497a_toDecimal_3416a 168 = .ok (.invokestatic 118, 3) := by decide +kernel
theorem dJx4497a_toDecimal_3416a_171 : decode cJx4497a_toDecimal_3416a 171 = .ok (.lmul, 1) := by decide +kernel
theorem dJx4497a_toDecimal_3416a_172 : decode cJx4497a_toDecimal_3416a 172 = .ok (.lstore 27, 2) := by decide +kernel
theorem dJx4497a_toDecimal_3416a_174 : decode cJx4497a_toDecimal_3416a 174 = .ok (.lload 27, 2) := by decide +kernel
theorem dJx4497a_toDecimal_3416a_176 : decode cJx4497a_toDecimal_3416a 176 = .ok (.ldc2_w 87, 3) := by decide +kernel
theorem dJx4497a_toDecimal_3416a_179 : decode cJx4497a_toDecimal_3416a 179 = .ok (.ladd, 1) := by decide +kernel
theorem dJx4497a_toDecimal_3416a_180 : decode cJx4497a_toDecimal_3416a 180 = .ok (.lstore 29, 2) := by decide +kernel
theorem dJx4497a_toDecimal_3416a_182 : decode cJx4497a_toDecimal_3416a 182 = .ok (.lload 21, 2) := by decide +kernel
theorem dJx4497a_toDecimal_3416a_184 : decode cJx4497a_toDecimal_3416a 184 = .ok (.iload 6, 2) := by decide +kernel
theorem dJx4497a_toDecimal_3416a_186 : decode cJx4497a_toDecimal_3416a 186 = .ok (.i2l, 1) := by decide +kernel
theorem dJx4497a_toDecimal_3416a_187 : decode cJx4497a_toDecimal_3416a 187 = .ok (.ladd, 1) := by decide +kernel
theorem dJx4497a_toDecimal_3416a_188 : decode cJx4497a_toDecimal_3416a 188 = .ok (.lload 27, 2) := by decide +kernel
theorem dJx4497a_toDecimal_3416a_190 : decode cJx4497a_toDecimal_3416a 190 = .ok (.iconst 2, 1) := by decide +kernel
theorem dJx4497a_toDecimal_3416a_191 : decode cJx4497a_toDecimal_3416a 191 = .ok (.lshl, 1) := by decide +kernel
theorem dJx4497a_toDecimal_3416a_192 : decode cJx4497a_toDecimal_3416a 192 = .ok (.lcmp, 1) := by decide +kernel
theorem dJx4497a_toDecimal_3416a_193 : decode cJx4497a_toDecimal_3416a 193 = .ok (.ifCond .gt 7, 3) := by decide +kernel
theorem dJx4497a_toDecimal_3416a_196 : decode cJx4497a_toDecimal_3416a 196 = .ok (.iconst 1, 1) := by decide +kernel
theorem dJx4497a_toDecimal_3416a_197 : decode cJx4497a_toDecimal_3416a 197 = .ok (.goto 4, 3) := by decide +kernel
theorem dJx4497a_toDecimal_3416a_200 : decode cJx4497a_toDecimal_3416a 200 = .ok (.iconst 0, 1) := by decide +kernel
theorem dJx4497a_toDecimal_3416a_201 : decode cJx4497a_toDecimal_3416a 201 = .ok (.istore 31, 2) := by decide +kernel
theorem dJx4497a_toDecimal_3416a_203 : decode cJx4497a_toDecimal_3416a 203 = .ok (.lload 29, 2) := by decide +kernel
theorem dJx4497a_toDecimal_3416a_205 : decode cJx4497a_toDecimal_3416a 205 = .ok (.iconst 2, 1) := by decide +kernel
theorem dJx4497a_toDecimal_3416a_206 : decode cJx4497a_toDecimal_3416a 206 = .ok (.lshl, 1) := by decide +kernel
theorem dJx4497a_toDecimal_3416a_207 : decode cJx4497a_toDecimal_3416a 207 = .ok (.iload 6, 2) := by decide +kernel
theorem dJx4497a_toDecimal_3416a_209 : decode cJx4497a_toDecimal_3416a 209 = .ok (.i2l, 1) := by decide +kernel
theorem dJx4497a_toDecimal_3416a_210 : decode cJx4497a_toDecimal_3416a 210 = .ok (.ladd, 1) := by decide +kernel
theorem dJx4497a_toDecimal_3416a_211 : decode cJx4497a_toDecimal_3416a 211 = .ok (.lload 23, 2) := by decide +kernel
theorem dJx4497a_toDecimal_3416a_213 : decode cJx4497a_toDecimal_3416a 213 = .ok (.lcmp, 1) := by decide +kernel
theorem dJx4497a_toDecimal_3416a_214 : decode cJx4497a_toDecimal_3416a 214 = .ok (.ifCond .gt 7, 3) := by decide +kernel
theorem dJx4497a_toDecimal_3416a_217 : decode cJx4497a_toDecimal_3416a 217 = .ok (.iconst 1, 1) := by decide +kernel
theorem dJx4497a_toDecimal_3416a_218 : decode cJx4497a_toDecimal_3416a 218 = .ok (.goto 4, 3) := by decide +kernel
theorem dJx4497a_toDecimal_3416a_221 : decode cJx4497a_toDecimal_3416a 221 = .ok (.iconst 0, 1) := by decide +kernel
theorem dJx4497a_toDecimal_3416a_222 : decode cJx4497a_toDecimal_3416a 222 = .ok (.istore 32, 2) := by decide +kernel
theorem dJx4497a_toDecimal_3416a_224 : decode cJx4497a_toDecimal_3416a 224 = .ok (.iload 31, 2) := by decide +kernel
theorem dJx4497a_toDecimal_3416a_226 : decode cJx4497a_toDecimal_3416a 226 = .ok (.iload 32, 2) := by decide +kernel
theorem dJx4497a_toDecimal_3416a_228 : decode cJx4497a_toDecimal_3416a 228 = .ok (.if_icmp .eq 24, 3) := by decide +kernel
theorem dJx4497a_toDecimal_3416a_231 : decode cJx4497a_toDecimal_3416a 231 = .ok (.aload_n 0, 1) := by decide +kernel
theorem dJx4497a_toDecimal_3416a_232 : decode cJx4497a_toDecimal_3416a 232 = .ok (.iload 31, 2) := by decide +kernel
theorem dJx4497a_toDecimal_3416a_234 : decode cJx4497a_toDecimal_3416a 234 = .ok (.ifCond .eq 8, 3) := by decide +kernel
theorem dJx4497a_toDecimal_3416a_237 : decode cJx4497a_toDecimal_3416a 237 = .ok (.lload 27, 2) := by decide +kernel
theorem dJx4497a_toDecimal_3416a_239 : decode cJx4497a_toDecimal_3416a 239 = .ok (.goto 5, 3) := by decide +kernel
theorem dJx4497a_toDecimal_3416a_242 : decode cJx4497a_toDecimal_3416a 242 = .ok (.lload 29, 2) := by decide +kernel
theorem dJx4497a_toDecimal_3416a_244 : decode cJx4497a_toDecimal_3416a 244 = .ok (.iload 13, 2) := by decide +kernel
theorem dJx4497a_toDecimal_3416a_246 : decode cJx4497a_toDecimal_3416a 246 = .ok (.aload 5, 2) := by decide +kernel
theorem dJx4497a_toDecimal_3416a_248 : decode cJx4497a_toDecimal_3416a 248 = .ok (.invokevirtual 78, 3) := by decide +kernel
theorem dJx4497a_toDecimal_3416a_251 : decode cJx4497a_toDecimal_3416a 251 = .ok (.ireturn, 1) := by decide +kernel
theorem dJx4497a_toDecimal_3416a_252 : decode cJx4497a_toDecimal_3416a 252 = .ok (.lload 25, 2) := by decide +kernel
theorem dJx4497a_toDecimal_3416a_254 : decode cJx4497a_toDecimal_3416a 254 = .ok (.lconst 1, 1) := by decide +kernel
theorem dJx4497a_toDecimal_3416a_255 : decode cJx4497a_toDecimal_3416a 255 = .ok (.ladd, 1) := by decide +kernel
theorem dJx4497a_toDecimal_3416a_256 : decode cJx4497a_toDecimal_3416a 256 = .ok (.lstore 27, 2) := by decide +kernel
theorem dJx4497a_toDecimal_3416a_258 : decode cJx4497a_toDecimal_3416a 258 = .ok (.lload 21, 2) := by decide +kernel
theorem dJx4497a_toDecimal_3416a_260 : decode cJx4497a_toDecimal_3416a 260 = .ok (.iload 6, 2) := by decide +kernel
theorem dJx4497a_toDecimal_3416a_262 : decode cJx4497a_toDecimal_3416a 262 = .ok (.i2l, 1) := by decide +kernel
theorem dJx4497a_toDecimal_3416a_263 : decode cJx4497a_toDecimal_3416a 263 = .ok (.ladd, 1) := by decide +kernel
theorem dJx4497a_toDecimal_3416a_264 : decode cJx4497a_toDecimal_3416a 264 = .ok (.lload 25, 2) := by decide +kernel
theorem dJx4497a_toDecimal_3416a_266 : decode cJx4497a_toDecimal_3416a 266 = .ok (.iconst 2, 1) := by decide +kernel
theorem dJx4497a_toDecimal_3416a_267 : decode cJx4497a_toDecimal_3416a 267 = .ok (.lshl, 1) := by decide +kernel
theorem dJx4497a_toDecimal_3416a_268 : decode cJx4497a_toDecimal_3416a 268 = .ok (.lcmp, 1) := by decide +kernel
theorem dJx4497a_toDecimal_3416a_269 : decode cJx4497a_toDecimal_3416a 269 = .ok (.ifCond .gt 7, 3) := by decide +kernel
theorem dJx4497a_toDecimal_3416a_272 : decode cJx4497a_toDecimal_3416a 272 = .ok (.iconst 1, 1) := by decide +kernel
theorem dJx4497a_toDecimal_3416a_273 : decode cJx4497a_toDecimal_3416a 273 = .ok (.goto 4, 3) := by decide +kernel
theorem dJx4497a_toDecimal_3416a_276 : decode cJx4497a_toDecimal_3416a 276 = .ok (.iconst 0, 1) := by decide +kernel
theorem dJx4497a_toDecimal_3416a_277 : decode cJx4497a_toDecimal_3416a 277 = .ok (.istore 29, 2) := by decide +kernel
theorem dJx4497a_toDecimal_3416a_279 : decode cJx4497a_toDecimal_3416a 279 = .ok (.lload 27, 2) := by decide +kernel
theorem dJx4497a_toDecimal_3416a_281 : decode cJx4497a_toDecimal_3416a 281 = .ok (.iconst 2, 1) := by decide +kernel
theorem dJx4497a_toDecimal_3416a_282 : decode cJx4497a_toDecimal_3416a 282 = .ok (.lshl, 1) := by decide +kernel
theorem dJx4497a_toDecimal_3416a_283 : decode cJx4497a_toDecimal_3416a 283 = .ok (.iload 6, 2) := by decide +kernel
theorem dJx4497a_toDecimal_3416a_285 : decode cJx4497a_toDecimal_3416a 285 = .ok (.i2l, 1) := by decide +kernel
theorem dJx4497a_toDecimal_3416a_286 : decode cJx4497a_toDecimal_3416a 286 = .ok (.ladd, 1) := by decide +kernel
theorem dJx4497a_toDecimal_3416a_287 : decode cJx4497a_toDecimal_3416a 287 = .ok (.lload 23, 2) := by decide +kernel
theorem dJx4497a_toDecimal_3416a_289 : decode cJx4497a_toDecimal_3416a 289 = .ok (.lcmp, 1) := by decide +kernel
theorem dJx4497a_toDecimal_3416a_290 : decode cJx4497a_toDecimal_3416a 290 = .ok (.ifCond .gt 7, 3) := by decide +kernel
theorem dJx4497a_toDecimal_3416a_293 : decode cJx4497a_toDecimal_3416a 293 = .ok (.iconst 1, 1) := by decide +kernel
theorem dJx4497a_toDecimal_3416a_294 : decode cJx4497a_toDecimal_3416a 294 = .ok (.goto 4, 3) := by decide +kernel
theorem dJx4497a_toDecimal_3416a_297 : decode cJx4497a_toDecimal_3416a 297 = .ok (.iconst 0, 1) := by decide +kernel
theorem dJx4497a_toDecimal_3416a_298 : decode cJx4497a_toDecimal_3416a 298 = .ok (.istore 30, 2) := by decide +kernel
theorem dJx4497a_toDecimal_3416a_300 : decode cJx4497a_toDecimal_3416a 300 = .ok (.iload 29, 2) := by decide +kernel
theorem dJx4497a_toDecimal_3416a_302 : decode cJx4497a_toDecimal_3416a 302 = .ok (.iload 30, 2) := by decide +kernel
theorem dJx4497a_toDecimal_3416a_304 : decode cJx4497a_toDecimal_3416a 304 = .ok (.if_icmp .eq 27, 3) := by decide +kernel
theorem dJx4497a_toDecimal_3416a_307 : decode cJx4497a_toDecimal_3416a 307 = .ok (.aload_n 0, 1) := by decide +kernel
theorem dJx4497a_toDecimal_3416a_308 : decode cJx4497a_toDecimal_3416a 308 = .ok (.iload 29, 2) := by decide +kernel
theorem dJx4497a_toDecimal_3416a_310 : decode cJx4497a_toDecimal_3416a 310 = .ok (.ifCond .eq 8, 3) := by decide +kernel
theorem dJx4497a_toDecimal_3416a_313 : decode cJx4497a_toDecimal_3416a 313 = .ok (.lload 25, 2) := by decide +kernel
theorem dJx4497a_toDecimal_3416a_315 : decode cJx4497a_toDecimal_3416a 315 = .ok (.goto 5, 3) := by decide +kernel
theorem dJx4497a_toDecimal_3416a_318 : decode cJx4497a_toDecimal_3416a 318 = .ok (.lload 27, 2) := by decide +kernel
theorem dJx4497a_toDecimal_3416a_320 : decode cJx4497a_toDecimal_3416a 320 = .ok (.iload 13, 2) := by decide +kernel
theorem dJx4497a_toDecimal_3416a_322 : decode cJx4497a_toDecimal_3416a 322 = .ok (.iload 4, 2) := by decide +kernel
theorem dJx4497a_toDecimal_3416a_324 : decode cJx4497a_toDecimal_3416a 324 = .ok (.iadd, 1) := by decide +kernel
theorem dJx4497a_toDecimal_3416a_325 : decode cJx4497a_toDecimal_3416a 325 = .ok (.aload 5, 2) := by decide +kernel
theorem dJx4497a_toDecimal_3416a_327 : decode cJx4497a_toDecimal_3416a 327 = .ok (.invokevirtual 78, 3) := by decide +kernel
theorem dJx4497a_toDecimal_3416a_330 : decode cJx4497a_toDecimal_3416a 330 = .ok (.ireturn, 1) := by decide +kernel
theorem dJx4497a_toDecimal_3416a_331 : decode cJx4497a_toDecimal_3416a 331 = .ok (.lload 19, 2) := by decide +kernel
theorem dJx4497a_toDecimal_3416a_333 : decode cJx4497a_toDecimal_3416a 333 = .ok (.lload 25, 2) := by decide +kernel
theorem dJx4497a_toDecimal_3416a_335 : decode cJx4497a_toDecimal_3416a 335 = .ok (.lload 27, 2) := by decide +kernel
theorem dJx4497a_toDecimal_3416a_337 : decode cJx4497a_toDecimal_3416a 337 = .ok (.ladd, 1) := by decide +kernel
theorem dJx4497a_toDecimal_3416a_338 : decode cJx4497a_toDecimal_3416a 338 = .ok (.iconst 1, 1) := by decide +kernel
theorem dJx4497a_toDecimal_3416a_339 : decode cJx4497a_toDecimal_3416a 339 = .ok (.lshl, 1) := by decide +kernel
theorem dJx4497a_toDecimal_3416a_340 : decode cJx4497a_toDecimal_3416a 340 = .ok (.lsub, 1) := by decide +kernel
theorem dJx4497a_toDecimal_3416a_341 : decode cJx4497a_toDecimal_3416a 341 = .ok (.lstore 31, 2) := by decide +kernel
theorem dJx4497a_toDecimal_3416a_343 : decode cJx4497a_toDecimal_3416a 343 = .ok (.aload_n 0, 1) := by decide +kernel
theorem dJx4497a_toDecimal_3416a_344 : decode cJx4497a_toDecimal_3416a 344 = .ok (.lload 31, 2) := by decide +kernel
theorem dJx4497a_toDecimal_3416a_346 : decode cJx4497a_toDecimal_3416a 346 = .ok (.lconst 0, 1) := by decide +kernel
theorem dJx4497a_toDecimal_3416a_347 : decode cJx4497a_toDecimal_3416a 347 = .ok (.lcmp, 1) := by decide +kernel
theorem dJx4497a_toDecimal_3416a_348 : decode cJx4497a_toDecimal_3416a 348 = .ok (.ifCond .lt 19, 3) := by decide +kernel
theorem dJx4497a_toDecimal_3416a_351 : decode cJx4497a_toDecimal_3416a 351 = .ok (.lload 31, 2) := by decide +kernel
theorem dJx4497a_toDecimal_3416a_353 : decode cJx4497a_toDecimal_3416a 353 = .ok (.lconst 0, 1) := by decide +kernel
theorem dJx4497a_toDecimal_3416a_354 : decode cJx4497a_toDecimal_3416a 354 = .ok (.lcmp, 1) := by decide +kernel
theorem dJx4497a_toDecimal_3416a_355 : decode cJx4497a_toDecimal_3416a 355 = .ok (.ifCond .ne 17, 3) := by decide +kernel
theorem dJx4497a_toDecimal_3416a_358 : decode cJx4497a_toDecimal_3416a 358 = .ok (.lload 25, 2) := by decide +kernel
theorem dJx4497a_toDecimal_3416a_360 : decode cJx4497a_toDecimal_3416a 360 = .ok (.lconst 1, 1) := by decide +kernel
theorem dJx4497a_toDecimal_3416a_361 : decode cJx4497a_toDecimal_3416a 361 = .ok (.land, 1) := by decide +kernel
theorem dJx4497a_toDecimal_3416a_362 : decode cJx4497a_toDecimal_3416a 362 = .ok (.lconst 0, 1) := by decide +kernel
theorem dJx4497a_toDecimal_3416a_363 : decode cJx4497a_toDecimal_3416a 363 = .ok (.lcmp, 1) := by decide +kernel
theorem dJx4497a_toDecimal_3416a_364 : decode cJx4497a_toDecimal_3416a 364 = .ok (.ifCond .ne 8, 3) := by decide +kernel
theorem dJx4497a_toDecimal_3416a_367 : decode cJx4497a_toDecimal_3416a 367 = .ok (.lload 25, 2) := by decide +kernel
theorem dJx4497a_toDecimal_3416a_369 : decode cJx4497a_toDecimal_3416a 369 = .ok (.goto 5, 3) := by decide +kernel
theorem dJx4497a_toDecimal_3416a_372 : decode cJx4497a_toDecimal_3416a 372 = .ok (.lload 27, 2) := by decide +kernel
theorem dJx4497a_toDecimal_3416a_374 : decode cJx4497a_toDecimal_3416a 374 = .ok (.iload 13, 2) := by decide +kernel
theorem dJx4497a_toDecimal_3416a_376 : decode cJx4497a_toDecimal_3416a 376 = .ok (.iload 4, 2) := by decide +kernel
theorem dJx4497a_toDecimal_3416a_378 : decode cJx4497a_toDecimal_3416a 378 = .ok (.iadd, 1) := by decide +kernel
theorem dJx4497a_toDecimal_3416a_379 : decode cJx4497a_toDecimal_3416a 379 = .ok (.aload 5, 2) := by decide +kernel
theorem dJx4497a_toDecimal_3416a_381 : decode cJx4497a_toDecimal_3416a 381 = .ok (.invokevirtual 78, 3) := by decide +kernel
theorem dJx4497a_toDecimal_3416a_384 : decode cJx4497a_toDecimal_3416a 384 = .ok (.ireturn, 1) := by decide +kernel
set_option maxRecDepth 20000 in
theorem ggJx4497a_rop_fb923_J9_multiplyHigh_f86c9 : GoodIn wsJx4497a_rop_fb923 wsJ9_multiplyHigh_f86c9 := goodIn_r _ [5, 6] (by decide +kernel) (by decide +kernel)
set_option maxRecDepth 20000 in
theorem gJx4497a_rop_fb923_J9_multiplyHigh_f86c9 : GoodIn wsJx4497a_rop_fb923 (va_wsS RJx4497a 118 yJ9_multiplyHigh_f86c9 wsJ9_multiplyHigh_f86c9) := goodIn_app (goodIn_of _ (by decide +kernel)) ggJx4497a_rop_fb923_J9_multiplyHigh_f86c9
theorem dJx4497a_rop_fb923_0 : decode cJx4497a_rop_fb923 0 = .ok (.lload_n 2, 1) := by decide +kernel
theorem dJx4497a_rop_fb923_1 : decode cJx4497a_rop_fb923 1 = .ok (.lload 4, 2) := by decide +kernel
theorem dJx4497a_rop_fb923_3 : decode cJx4497a_rop_fb923 3 = .ok (.invokestatic 118, 3) := by decide +kernel
theorem dJx4497a_rop_fb923_6 : decode cJx4497a_rop_fb923 6 = .ok (.lstore 6, 2) := by decide +kernel
theorem dJx4497a_rop_fb923_8 : decode cJx4497a_rop_fb923 8 = .ok (.lload_n 0, 1) := by decide +kernel
theorem dJx4497a_rop_fb923_9 : decode cJx4497a_rop_fb923 9 = .ok (.lload 4, 2) := by decide +kernel
theorem dJx4497a_rop_fb923_11 : decode cJx4497a_rop_fb923 11 = .ok (.lmul, 1) := by decide +kernel
theorem dJx4497a_rop_fb923_12 : decode cJx4497a_rop_fb923 12 = .ok (.lstore 8, 2) := by decide +kernel
theorem dJx4497a_rop_fb923_14 : decode cJx4497a_rop_fb923 14 = .ok (.lload_n 0, 1) := by decide +kernel
theorem dJx4497a_rop_fb923_15 : decode cJx4497a_rop_fb923 15 = .ok (.lload 4, 2) := by decide +kernel
theorem dJx4497a_rop_fb923_17 : decode cJx4497a_rop_fb923 17 = .ok (.invokestatic 118, 3) := by decide +kernel
theorem dJx4497a_rop_fb923_20 : decode cJx4497a_rop_fb923 20 = .ok (.lstore 10, 2) := by decide +kernel
theorem dJx4497a_rop_fb923_22 : decode cJx4497a_rop_fb923 22 = .ok (.lload 8, 2) := by decide +kernel
theorem dJx4497a_rop_fb923_24 : decode cJx4497a_rop_fb923 24 = .ok (.iconst 1, 1) := by decide +kernel
theorem dJx4497a_rop_fb923_25 : decode cJx4497a_rop_fb923 25 = .ok (.lushr, 1) := by decide +kernel
theorem dJx4497a_rop_fb923_26 : decode cJx4497a_rop_fb923 26 = .ok (.lload 6, 2) := by decide +kernel
theorem dJx4497a_rop_fb923_28 : decode cJx4497a_rop_fb923 28 = .ok (.ladd, 1) := by decide +kernel
theorem dJx4497a_rop_fb923_29 : decode cJx4497a_rop_fb923 29 = .ok (.lstore 12, 2) := by decide +kernel
theorem dJx4497a_rop_fb923_31 : decode cJx4497a_rop_fb923 31 = .ok (.lload 10, 2) := by decide +kernel
theorem dJx4497a_rop_fb923_33 : decode cJx4497a_rop_fb923 33 = .ok (.lload 12, 2) := by decide +kernel
theorem dJx4497a_rop_fb923_35 : decode cJx4497a_rop_fb923 35 = .ok (.bipush 63, 2) := by decide +kernel
theorem dJx4497a_rop_fb923_37 : decode cJx4497a_rop_fb923 37 = .ok (.lushr, 1) := by decide +kernel
theorem dJx4497a_rop_fb923_38 : decode cJx4497a_rop_fb923 38 = .ok (.ladd, 1) := by decide +kernel
theorem dJx4497a_rop_fb923_39 : decode cJx4497a_rop_fb923 39 = .ok (.lstore 14, 2) := by decide +kernel
theorem dJx4497a_rop_fb923_41 : decode cJx4497a_rop_fb923 41 = .ok (.lload 14, 2) := by decide +kernel
theorem dJx4497a_rop_fb923_43 : decode cJx4497a_rop_fb923 43 = .ok (.lload 12, 2) := by decide +kernel
theorem dJx4497a_rop_fb923_45 : decode cJx4497a_rop_fb923 45 = .ok (.ldc2_w 124, 3) := by decide +kernel
theorem dJx4497a_rop_fb923_48 : decode cJx4497a_rop_fb923 48 = .ok (.land, 1) := by decide +kernel
theorem dJx4497a_rop_fb923_49 : decode cJx4497a_rop_fb923 49 = .ok (.ldc2_w 124, 3) := by decide +kernel
theorem dJx4497a_rop_fb923_52 : decode cJx4497a_rop_fb923 52 = .ok (.ladd, 1) := by decide +kernel
theorem dJx4497a_rop_fb923_53 : decode cJx4497a_rop_fb923 53 = .ok (.bipush 63, 2) := by decide +kernel
theorem dJx4497a_rop_fb923_55 : decode cJx4497a_rop_fb923 55 = .ok (.lushr, 1) := by decide +kernel
theorem dJx4497a_rop_fb923_56 : decode cJx4497a_rop_fb923 56 = .ok (.lor, 1) := by decide +kernel
theorem dJx4497a_rop_fb923_57 : decode cJx4497a_rop_fb923 57 = .ok (.lreturn, 1) := by decide +kernel
