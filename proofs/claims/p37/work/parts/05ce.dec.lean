set_option maxRecDepth 20000 in
theorem ggJx4497a_toChars_b7021_J13_numberOfLeadingZeros_95d88 : GoodIn wsJx4497a_toChars_b7021 wsJ13_numberOfLeadingZeros_95d88 := goodIn_r _ [8, 9, 10, 11, 12, 13] (by decide +kernel) (by decide +kernel)
set_option maxRecDepth 20000 in
theorem gJx4497a_toChars_b7021_J13_numberOfLeadingZeros_95d88 : GoodIn wsJx4497a_toChars_b7021 (va_wsS RJx4497a 128 yJ13_numberOfLeadingZeros_95d88 wsJ13_numberOfLeadingZeros_95d88) := goodIn_app (goodIn_of _ (by decide +kernel)) ggJx4497a_toChars_b7021_J13_numberOfLeadingZeros_95d88
set_option maxRecDepth 20000 in
theorem ggJx4497a_toChars_b7021_Jx25f51_flog10pow2_0f7a4 : GoodIn wsJx4497a_toChars_b7021 wsJx25f51_flog10pow2_0f7a4 := goodIn_r _ [17, 18] (by decide +kernel) (by decide +kernel)
set_option maxRecDepth 20000 in
theorem gJx4497a_toChars_b7021_Jx25f51_flog10pow2_0f7a4 : GoodIn wsJx4497a_toChars_b7021 (va_wsS RJx4497a 91 yJx25f51_flog10pow2_0f7a4 wsJx25f51_flog10pow2_0f7a4) := goodIn_app (goodIn_of _ (by decide +kernel)) ggJx4497a_toChars_b7021_Jx25f51_flog10pow2_0f7a4
set_option maxRecDepth 20000 in
theorem ggJx4497a_toChars_b7021_Jx25f51_pow10_3e8ac : GoodIn wsJx4497a_toChars_b7021 wsJx25f51_pow10_3e8ac := goodIn_r _ [21, 22] (by decide +kernel) (by decide +kernel)
set_option maxRecDepth 20000 in
theorem gJx4497a_toChars_b7021_Jx25f51_pow10_3e8ac : GoodIn wsJx4497a_toChars_b7021 (va_wsS RJx4497a 132 yJx25f51_pow10_3e8ac wsJx25f51_pow10_3e8ac) := goodIn_app (goodIn_of _ (by decide +kernel)) ggJx4497a_toChars_b7021_Jx25f51_pow10_3e8ac
set_option maxRecDepth 20000 in
theorem ggJx4497a_toChars_b7021_J9_multiplyHigh_f86c9 : GoodIn wsJx4497a_toChars_b7021 wsJ9_multiplyHigh_f86c9 := goodIn_r _ [26, 27] (by decide +kernel) (by decide +kernel)
set_option maxRecDepth 20000 in
theorem gJx4497a_toChars_b7021_J9_multiplyHigh_f86c9 : GoodIn wsJx4497a_toChars_b7021 (va_wsS RJx4497a 118 yJ9_multiplyHigh_f86c9 wsJ9_multiplyHigh_f86c9) := goodIn_app (goodIn_of _ (by decide +kernel)) ggJx4497a_toChars_b7021_J9_multiplyHigh_f86c9
set_option maxRecDepth 20000 in
theorem ggJx4497a_toChars_b7021_Jx4497a_toChars1_7f61f : GoodIn wsJx4497a_toChars_b7021 wsJx4497a_toChars1_7f61f := goodIn_r _ [32, 33, 34, 35, 36, 31, 37, 38, 39, 40, 41, 42, 43, 1, 23, 24, 25, 26, 27, 44, 45, 46, 47, 48, 49, 50, 51, 52, 53, 54, 55, 56, 57, 58, 59, 72, 73] (by decide +kernel) (by decide +kernel)
set_option maxRecDepth 20000 in
theorem gJx4497a_toChars_b7021_Jx4497a_toChars1_7f61f : GoodIn wsJx4497a_toChars_b7021 (wsV RJx4497a 148 RJx4497a yJx4497a_toChars1_7f61f wsJx4497a_toChars1_7f61f) := goodIn_app (goodIn_of _ (by decide +kernel)) ggJx4497a_toChars_b7021_Jx4497a_toChars1_7f61f
set_option maxRecDepth 20000 in
theorem ggJx4497a_toChars_b7021_Jx4497a_toChars2_7f61f : GoodIn wsJx4497a_toChars_b7021 wsJx4497a_toChars2_7f61f := goodIn_r _ [63, 34, 35, 36, 31, 37, 38, 39, 44, 45, 46, 47, 52, 53, 54, 55, 33, 40, 41, 42, 43, 1, 23, 24, 25, 26, 27, 48, 49, 50, 51, 56, 57, 58, 59, 72, 73] (by decide +kernel) (by decide +kernel)
set_option maxRecDepth 20000 in
theorem gJx4497a_toChars_b7021_Jx4497a_toChars2_7f61f : GoodIn wsJx4497a_toChars_b7021 (wsV RJx4497a 152 RJx4497a yJx4497a_toChars2_7f61f wsJx4497a_toChars2_7f61f) := goodIn_app (goodIn_of _ (by decide +kernel)) ggJx4497a_toChars_b7021_Jx4497a_toChars2_7f61f
set_option maxRecDepth 20000 in
theorem ggJx4497a_toChars_b7021_Jx4497a_toChars3_7f61f : GoodIn wsJx4497a_toChars_b7021 wsJx4497a_toChars3_7f61f := goodIn_r _ [67, 34, 35, 36, 31, 37, 38, 39, 44, 45, 46, 47, 52, 53, 54, 55, 33, 40, 41, 42, 43, 1, 23, 24, 25, 26, 27, 48, 49, 50, 51, 56, 57, 58, 59, 68, 69, 70, 71, 72, 73] (by decide +kernel) (by decide +kernel)
set_option maxRecDepth 20000 in
theorem gJx4497a_toChars_b7021_Jx4497a_toChars3_7f61f : GoodIn wsJx4497a_toChars_b7021 (wsV RJx4497a 155 RJx4497a yJx4497a_toChars3_7f61f wsJx4497a_toChars3_7f61f) := goodIn_app (goodIn_of _ (by decide +kernel)) ggJx4497a_toChars_b7021_Jx4497a_toChars3_7f61f
theorem dJx4497a_toChars_b7021_0 : decode cJx4497a_toChars_b7021 0 = .ok (.bipush 64, 2) := by decide +kernel
theorem dJx4497a_toChars_b7021_2 : decode cJx4497a_toChars_b7021 2 = .ok (.lload_n 1, 1) := by decide +kernel
theorem dJx4497a_toChars_b7021_3 : decode cJx4497a_toChars_b7021 3 = .ok (.invokestatic 128, 3) := by decide +kernel
theorem dJx4497a_toChars_b7021_6 : decode cJx4497a_toChars_b7021 6 = .ok (.isub, 1) := by decide +kernel
theorem dJx4497a_toChars_b7021_7 : decode cJx4497a_toChars_b7021 7 = .ok (.invokestatic 91, 3) := by decide +kernel
theorem dJx4497a_toChars_b7021_10 : decode cJx4497a_toChars_b7021 10 = .ok (.istore 5, 2) := by decide +kernel
theorem dJx4497a_toChars_b7021_12 : decode cJx4497a_toChars_b7021 12 = .ok (.lload_n 1, 1) := by decide +kernel
theorem dJx4497a_toChars_b7021_13 : decode cJx4497a_toChars_b7021 13 = .ok (.iload 5, 2) := by decide +kernel
theorem dJx4497a_toChars_b7021_15 : decode cJx4497a_toChars_b7021 15 = .ok (.invokestatic 132, 3) := by decide +kernel
theorem dJx4497a_toChars_b7021_18 : decode cJx4497a_toChars_b7021 18 = .ok (.lcmp, 1) := by decide +kernel
theorem dJx4497a_toChars_b7021_19 : decode cJx4497a_toChars_b7021 19 = .ok (.ifCond .lt 6, 3) := by decide +kernel
theorem dJx4497a_toChars_b7021_22 : decode cJx4497a_toChars_b7021 22 = .ok (.iinc 5 1, 3) := by decide +kernel
theorem dJx4497a_toChars_b7021_25 : decode cJx4497a_toChars_b7021 25 = .ok (.aload 4, 2) := by decide +kernel
theorem dJx4497a_toChars_b7021_27 : decode cJx4497a_toChars_b7021 27 = .ok (.ifnull 14, 3) := by decide +kernel
theorem dJx4497a_toChars_b7021_30 : decode cJx4497a_toChars_b7021 30 = .ok (.aload 4, 2) := by decide +kernel
theorem dJx4497a_toChars_b7021_32 : decode cJx4497a_toChars_b7021 32 = .ok (.lload_n 1, 1) := by decide +kernel
theorem dJx4497a_toChars_b7021_33 : decode cJx4497a_toChars_b7021 33 = .ok (.iload_n 3, 1) := by decide +kernel
theorem dJx4497a_toChars_b7021_34 : decode cJx4497a_toChars_b7021 34 = .ok (.iload 5, 2) := by decide +kernel
theorem dJx4497a_toChars_b7021_36 : decode cJx4497a_toChars_b7021 36 = .ok (.invokevirtual 135, 3) := by decide +kernel
theorem dJx4497a_toChars_b7021_39 : decode cJx4497a_toChars_b7021 39 = .ok (.iconst 0, 1) := by decide +kernel
theorem dJx4497a_toChars_b7021_40 : decode cJx4497a_toChars_b7021 40 = .ok (.ireturn, 1) := by decide +kernel
theorem dJx4497a_toChars_b7021_41 : decode cJx4497a_toChars_b7021 41 = .ok (.lload_n 1, 1) := by decide +kernel
theorem dJx4497a_toChars_b7021_42 : decode cJx4497a_toChars_b7021 42 = .ok (.bipush 17, 2) := by decide +kernel
theorem dJx4497a_toChars_b7021_44 : decode cJx4497a_toChars_b7021 44 = .ok (.iload 5, 2) := by decide +kernel
theorem dJx4497a_toChars_b7021_46 : decode cJx4497a_toChars_b7021 46 = .ok (.isub, 1) := by decide +kernel
theorem dJx4497a_toChars_b7021_47 : decode cJx4497a_toChars_b7021 47 = .ok (.invokestatic 132, 3) := by decide +kernel
theorem dJx4497a_toChars_b7021_50 : decode cJx4497a_toChars_b7021 50 = .ok (.lmul, 1) := by decide +kernel
theorem dJx4497a_toChars_b7021_51 : decode cJx4497a_toChars_b7021 51 = .ok (.lstore_n 1, 1) := by decide +kernel
theorem dJx4497a_toChars_b7021_52 : decode cJx4497a_toChars_b7021 52 = .ok (.iload_n 3, 1) := by decide +kernel
theorem dJx4497a_toChars_b7021_53 : decode cJx4497a_toChars_b7021 53 = .ok (.iload 5, 2) := by decide +kernel
theorem dJx4497a_toChars_b7021_55 : decode cJx4497a_toChars_b7021 55 = .ok (.iadd, 1) := by decide +kernel
theorem dJx4497a_toChars_b7021_56 : decode cJx4497a_toChars_b7021 56 = .ok (.istore_n 3, 1) := by decide +kernel
theorem dJx4497a_toChars_b7021_57 : decode cJx4497a_toChars_b7021 57 = .ok (.lload_n 1, 1) := by decide +kernel
theorem dJx4497a_toChars_b7021_58 : decode cJx4497a_toChars_b7021 58 = .ok (.ldc2_w 141, 3) := by decide +kernel
theorem dJx4497a_toChars_b7021_61 : decode cJx4497a_toChars_b7021 61 = .ok (.invokestatic 118, 3) := by decide +kernel
theorem dJx4497a_toChars_b7021_64 : decode cJx4497a_toChars_b7021 64 = .ok (.bipush 20, 2) := by decide +kernel
theorem dJx4497a_toChars_b7021_66 : decode cJx4497a_toChars_b7021 66 = .ok (.lushr, 1) := by decide +kernel
theorem dJx4497a_toChars_b7021_67 : decode cJx4497a_toChars_b7021 67 = .ok (.lstore 6, 2) := by decide +kernel
theorem dJx4497a_toChars_b7021_69 : decode cJx4497a_toChars_b7021 69 = .ok (.lload_n 1, 1) := by decide +kernel
theorem dJx4497a_toChars_b7021_70 : decode cJx4497a_toChars_b7021 70 = .ok (.ldc2_w 143, 3) := by decide +kernel
theorem dJx4497a_toChars_b7021_73 : decode cJx4497a_toChars_b7021 73 = .ok (.lload 6, 2) := by decide +kernel
theorem dJx4497a_toChars_b7021_75 : decode cJx4497a_toChars_b7021 75 = .ok (.lmul, 1) := by decide +kernel
theorem dJx4497a_toChars_b7021_76 : decode cJx4497a_toChars_b7021 76 = .ok (.lsub, 1) := by decide +kernel
theorem dJx4497a_toChars_b7021_77 : decode cJx4497a_toChars_b7021 77 = .ok (.l2i, 1) := by decide +kernel
theorem dJx4497a_toChars_b7021_78 : decode cJx4497a_toChars_b7021 78 = .ok (.istore 8, 2) := by decide +kernel
theorem dJx4497a_toChars_b7021_80 : decode cJx4497a_toChars_b7021 80 = .ok (.lload 6, 2) := by decide +kernel
theorem dJx4497a_toChars_b7021_82 : decode cJx4497a_toChars_b7021 82 = .ok (.ldc2_w 145, 3) := by decide +kernel
theorem dJx4497a_toChars_b7021_85 : decode cJx4497a_toChars_b7021 85 = .ok (.lmul, 1) := by decide +kernel
theorem dJx4497a_toChars_b7021_86 : decode cJx4497a_toChars_b7021 86 = .ok (.bipush 57, 2) := by decide +kernel
theorem dJx4497a_toChars_b7021_88 : decode cJx4497a_toChars_b7021 88 = .ok (.lushr, 1) := by decide +kernel
theorem dJx4497a_toChars_b7021_89 : decode cJx4497a_toChars_b7021 89 = .ok (.l2i, 1) := by decide +kernel
theorem dJx4497a_toChars_b7021_90 : decode cJx4497a_toChars_b7021 90 = .ok (.istore 9, 2) := by decide +kernel
theorem dJx4497a_toChars_b7021_92 : decode cJx4497a_toChars_b7021 92 = .ok (.lload 6, 2) := by decide +kernel
theorem dJx4497a_toChars_b7021_94 : decode cJx4497a_toChars_b7021 94 = .ok (.ldc 147, 2) := by decide +kernel
theorem dJx4497a_toChars_b7021_96 : decode cJx4497a_toChars_b7021 96 = .ok (.iload 9, 2) := by decide +kernel
theorem dJx4497a_toChars_b7021_98 : decode cJx4497a_toChars_b7021 98 = .ok (.imul, 1) := by decide +kernel
theorem dJx4497a_toChars_b7021_99 : decode cJx4497a_toChars_b7021 99 = .ok (.i2l, 1) := by decide +kernel
theorem dJx4497a_toChars_b7021_100 : decode cJx4497a_toChars_b7021 100 = .ok (.lsub, 1) := by decide +kernel
theorem dJx4497a_toChars_b7021_101 : decode cJx4497a_toChars_b7021 101 = .ok (.l2i, 1) := by decide +kernel
theorem dJx4497a_toChars_b7021_102 : decode cJx4497a_toChars_b7021 102 = .ok (.istore 10, 2) := by decide +kernel
theorem dJx4497a_toChars_b7021_104 : decode cJx4497a_toChars_b7021 104 = .ok (.iconst 0, 1) := by decide +kernel
theorem dJx4497a_toChars_b7021_105 : decode cJx4497a_toChars_b7021 105 = .ok (.iload_n 3, 1) := by decide +kernel
theorem dJx4497a_toChars_b7021_106 : decode cJx4497a_toChars_b7021 106 = .ok (.if_icmp .ge 21, 3) := by decide +kernel
theorem dJx4497a_toChars_b7021_109 : decode cJx4497a_toChars_b7021 109 = .ok (.iload_n 3, 1) := by decide +kernel
theorem dJx4497a_toChars_b7021_110 : decode cJx4497a_toChars_b7021 110 = .ok (.bipush 7, 2) := by decide +kernel
theorem dJx4497a_toChars_b7021_112 : decode cJx4497a_toChars_b7021 112 = .ok (.if_icmp .gt 15, 3) := by decide +kernel
theorem dJx4497a_toChars_b7021_115 : decode cJx4497a_toChars_b7021 115 = .ok (.aload_n 0, 1) := by decide +kernel
theorem dJx4497a_toChars_b7021_116 : decode cJx4497a_toChars_b7021 116 = .ok (.iload 9, 2) := by decide +kernel
theorem dJx4497a_toChars_b7021_118 : decode cJx4497a_toChars_b7021 118 = .ok (.iload 10, 2) := by decide +kernel
theorem dJx4497a_toChars_b7021_120 : decode cJx4497a_toChars_b7021 120 = .ok (.iload 8, 2) := by decide +kernel
theorem dJx4497a_toChars_b7021_122 : decode cJx4497a_toChars_b7021 122 = .ok (.iload_n 3, 1) := by decide +kernel
theorem dJx4497a_toChars_b7021_123 : decode cJx4497a_toChars_b7021 123 = .ok (.invokevirtual 148, 3) := by decide +kernel
theorem dJx4497a_toChars_b7021_126 : decode cJx4497a_toChars_b7021 126 = .ok (.ireturn, 1) := by decide +kernel
theorem dJx4497a_toChars_b7021_127 : decode cJx4497a_toChars_b7021 127 = .ok (.bipush (-3), 2) := by decide +kernel
theorem dJx4497a_toChars_b7021_129 : decode cJx4497a_toChars_b7021 129 = .ok (.iload_n 3, 1) := by decide +kernel
theorem dJx4497a_toChars_b7021_130 : decode cJx4497a_toChars_b7021 130 = .ok (.if_icmp .ge 19, 3) := by decide +kernel
theorem dJx4497a_toChars_b7021_133 : decode cJx4497a_toChars_b7021 133 = .ok (.iload_n 3, 1) := by decide +kernel
theorem dJx4497a_toChars_b7021_134 : decode cJx4497a_toChars_b7021 134 = .ok (.ifCond .gt 15, 3) := by decide +kernel
theorem dJx4497a_toChars_b7021_137 : decode cJx4497a_toChars_b7021 137 = .ok (.aload_n 0, 1) := by decide +kernel
theorem dJx4497a_toChars_b7021_138 : decode cJx4497a_toChars_b7021 138 = .ok (.iload 9, 2) := by decide +kernel
theorem dJx4497a_toChars_b7021_140 : decode cJx4497a_toChars_b7021 140 = .ok (.iload 10, 2) := by decide +kernel
theorem dJx4497a_toChars_b7021_142 : decode cJx4497a_toChars_b7021 142 = .ok (.iload 8, 2) := by decide +kernel
theorem dJx4497a_toChars_b7021_144 : decode cJx4497a_toChars_b7021 144 = .ok (.iload_n 3, 1) := by decide +kernel
theorem dJx4497a_toChars_b7021_145 : decode cJx4497a_toChars_b7021 145 = .ok (.invokevirtual 152, 3) := by decide +kernel
theorem dJx4497a_toChars_b7021_148 : decode cJx4497a_toChars_b7021 148 = .ok (.ireturn, 1) := by decide +kernel
theorem dJx4497a_toChars_b7021_149 : decode cJx4497a_toChars_b7021 149 = .ok (.aload_n 0, 1) := by decide +kernel
theorem dJx4497a_toChars_b7021_150 : decode cJx4497a_toChars_b7021 150 = .ok (.iload 9, 2) := by decide +kernel
theorem dJx4497a_toChars_b7021_152 : decode cJx4497a_toChars_b7021 152 = .ok (.iload 10, 2) := by decide +kernel
theorem dJx4497a_toChars_b7021_154 : decode cJx4497a_toChars_b7021 154 = .ok (.iload 8, 2) := by decide +kernel
theorem dJx4497a_toChars_b7021_156 : decode cJx4497a_toChars_b7021 156 = .ok (.iload_n 3, 1) := by decide +kernel
theorem dJx4497a_toChars_b7021_157 : decode cJx4497a_toChars_b7021 157 = .ok (.invokevirtual 155, 3) := by decide +kernel
theorem dJx4497a_toChars_b7021_160 : decode cJx4497a_toChars_b7021 160 = .ok (.ireturn, 1) := by decide +kernel
set_option maxRecDepth 20000 in
theorem ggJx4497a_toChars1_7f61f_Jx4497a_appendDigit_d00df : GoodIn wsJx4497a_toChars1_7f61f wsJx4497a_appendDigit_d00df := goodIn_r _ [6, 7, 8, 35, 36] (by decide +kernel) (by decide +kernel)
set_option maxRecDepth 20000 in
theorem gJx4497a_toChars1_7f61f_Jx4497a_appendDigit_d00df : GoodIn wsJx4497a_toChars1_7f61f (wsV RJx4497a 158 RJx4497a yJx4497a_appendDigit_d00df wsJx4497a_appendDigit_d00df) := goodIn_app (goodIn_of _ (by decide +kernel)) ggJx4497a_toChars1_7f61f_Jx4497a_appendDigit_d00df
set_option maxRecDepth 20000 in
theorem ggJx4497a_toChars1_7f61f_Jx4497a_y_0f7a4 : GoodIn wsJx4497a_toChars1_7f61f wsJx4497a_y_0f7a4 := goodIn_r _ [12, 13, 14, 15, 16, 17, 18] (by decide +kernel) (by decide +kernel)
set_option maxRecDepth 20000 in
theorem gJx4497a_toChars1_7f61f_Jx4497a_y_0f7a4 : GoodIn wsJx4497a_toChars1_7f61f (wsV RJx4497a 161 RJx4497a yJx4497a_y_0f7a4 wsJx4497a_y_0f7a4) := goodIn_app (goodIn_of _ (by decide +kernel)) ggJx4497a_toChars1_7f61f_Jx4497a_y_0f7a4
set_option maxRecDepth 20000 in
theorem ggJx4497a_toChars1_7f61f_Jx4497a_append_d00df : GoodIn wsJx4497a_toChars1_7f61f wsJx4497a_append_d00df := goodIn_r _ [22, 7, 8, 35, 36] (by decide +kernel) (by decide +kernel)
set_option maxRecDepth 20000 in
theorem gJx4497a_toChars1_7f61f_Jx4497a_append_d00df : GoodIn wsJx4497a_toChars1_7f61f (wsV RJx4497a 73 RJx4497a yJx4497a_append_d00df wsJx4497a_append_d00df) := goodIn_app (goodIn_of _ (by decide +kernel)) ggJx4497a_toChars1_7f61f_Jx4497a_append_d00df
set_option maxRecDepth 20000 in
theorem ggJx4497a_toChars1_7f61f_Jx4497a_lowDigits_d00df : GoodIn wsJx4497a_toChars1_7f61f wsJx4497a_lowDigits_d00df := goodIn_r _ [26, 27, 28, 29, 5, 30, 1, 9, 10, 11, 12, 13, 14, 15, 16, 17, 18, 2, 3, 4, 6, 7, 8, 31, 32, 33, 34, 35, 36] (by decide +kernel) (by decide +kernel)
set_option maxRecDepth 20000 in
theorem gJx4497a_toChars1_7f61f_Jx4497a_lowDigits_d00df : GoodIn wsJx4497a_toChars1_7f61f (wsV RJx4497a 165 RJx4497a yJx4497a_lowDigits_d00df wsJx4497a_lowDigits_d00df) := goodIn_app (goodIn_of _ (by decide +kernel)) ggJx4497a_toChars1_7f61f_Jx4497a_lowDigits_d00df
theorem dJx4497a_toChars1_7f61f_0 : decode cJx4497a_toChars1_7f61f 0 = .ok (.aload_n 0, 1) := by decide +kernel
theorem dJx4497a_toChars1_7f61f_1 : decode cJx4497a_toChars1_7f61f 1 = .ok (.iload_n 1, 1) := by decide +kernel
theorem dJx4497a_toChars1_7f61f_2 : decode cJx4497a_toChars1_7f61f 2 = .ok (.invokevirtual 158, 3) := by decide +kernel
theorem dJx4497a_toChars1_7f61f_5 : decode cJx4497a_toChars1_7f61f 5 = .ok (.aload_n 0, 1) := by decide +kernel
theorem dJx4497a_toChars1_7f61f_6 : decode cJx4497a_toChars1_7f61f 6 = .ok (.iload_n 2, 1) := by decide +kernel
theorem dJx4497a_toChars1_7f61f_7 : decode cJx4497a_toChars1_7f61f 7 = .ok (.invokevirtual 161, 3) := by decide +kernel
theorem dJx4497a_toChars1_7f61f_10 : decode cJx4497a_toChars1_7f61f 10 = .ok (.istore 5, 2) := by decide +kernel
theorem dJx4497a_toChars1_7f61f_12 : decode cJx4497a_toChars1_7f61f 12 = .ok (.iconst 1, 1) := by decide +kernel
theorem dJx4497a_toChars1_7f61f_13 : decode cJx4497a_toChars1_7f61f 13 = .ok (.istore 7, 2) := by decide +kernel
theorem dJx4497a_toChars1_7f61f_15 : decode cJx4497a_toChars1_7f61f 15 = .ok (.iload 7, 2) := by decide +kernel
theorem dJx4497a_toChars1_7f61f_17 : decode cJx4497a_toChars1_7f61f 17 = .ok (.iload 4, 2) := by decide +kernel
theorem dJx4497a_toChars1_7f61f_19 : decode cJx4497a_toChars1_7f61f 19 = .ok (.if_icmp .ge 32, 3) := by decide +kernel
theorem dJx4497a_toChars1_7f61f_22 : decode cJx4497a_toChars1_7f61f 22 = .ok (.bipush 10, 2) := by decide +kernel
theorem dJx4497a_toChars1_7f61f_24 : decode cJx4497a_toChars1_7f61f 24 = .ok (.iload 5, 2) := by decide +kernel
theorem dJx4497a_toChars1_7f61f_26 : decode cJx4497a_toChars1_7f61f 26 = .ok (.imul, 1) := by decide +kernel
theorem dJx4497a_toChars1_7f61f_27 : decode cJx4497a_toChars1_7f61f 27 = .ok (.istore 6, 2) := by decide +kernel
theorem dJx4497a_toChars1_7f61f_29 : decode cJx4497a_toChars1_7f61f 29 = .ok (.aload_n 0, 1) := by decide +kernel
theorem dJx4497a_toChars1_7f61f_30 : decode cJx4497a_toChars1_7f61f 30 = .ok (.iload 6, 2) := by decide +kernel
theorem dJx4497a_toChars1_7f61f_32 : decode cJx4497a_toChars1_7f61f 32 = .ok (.bipush 28, 2) := by decide +kernel
theorem dJx4497a_toChars1_7f61f_34 : decode cJx4497a_toChars1_7f61f 34 = .ok (.iushr, 1) := by decide +kernel
theorem dJx4497a_toChars1_7f61f_35 : decode cJx4497a_toChars1_7f61f 35 = .ok (.invokevirtual 158, 3) := by decide +kernel
theorem dJx4497a_toChars1_7f61f_38 : decode cJx4497a_toChars1_7f61f 38 = .ok (.iload 6, 2) := by decide +kernel
theorem dJx4497a_toChars1_7f61f_40 : decode cJx4497a_toChars1_7f61f 40 = .ok (.ldc 164, 2) := by decide +kernel
theorem dJx4497a_toChars1_7f61f_42 : decode cJx4497a_toChars1_7f61f 42 = .ok (.iand, 1) := by decide +kernel
theorem dJx4497a_toChars1_7f61f_43 : decode cJx4497a_toChars1_7f61f 43 = .ok (.istore 5, 2) := by decide +kernel
theorem dJx4497a_toChars1_7f61f_45 : decode cJx4497a_toChars1_7f61f 45 = .ok (.iinc 7 1, 3) := by decide +kernel
theorem dJx4497a_toChars1_7f61f_48 : decode cJx4497a_toChars1_7f61f 48 = .ok (.goto (-33), 3) := by decide +kernel
theorem dJx4497a_toChars1_7f61f_51 : decode cJx4497a_toChars1_7f61f 51 = .ok (.aload_n 0, 1) := by decide +kernel
theorem dJx4497a_toChars1_7f61f_52 : decode cJx4497a_toChars1_7f61f 52 = .ok (.bipush 46, 2) := by decide +kernel
theorem dJx4497a_toChars1_7f61f_54 : decode cJx4497a_toChars1_7f61f 54 = .ok (.invokevirtual 73, 3) := by decide +kernel
theorem dJx4497a_toChars1_7f61f_57 : decode cJx4497a_toChars1_7f61f 57 = .ok (.iload 7, 2) := by decide +kernel
theorem dJx4497a_toChars1_7f61f_59 : decode cJx4497a_toChars1_7f61f 59 = .ok (.bipush 8, 2) := by decide +kernel
theorem dJx4497a_toChars1_7f61f_61 : decode cJx4497a_toChars1_7f61f 61 = .ok (.if_icmp .gt 32, 3) := by decide +kernel
theorem dJx4497a_toChars1_7f61f_64 : decode cJx4497a_toChars1_7f61f 64 = .ok (.bipush 10, 2) := by decide +kernel
theorem dJx4497a_toChars1_7f61f_66 : decode cJx4497a_toChars1_7f61f 66 = .ok (.iload 5, 2) := by decide +kernel
theorem dJx4497a_toChars1_7f61f_68 : decode cJx4497a_toChars1_7f61f 68 = .ok (.imul, 1) := by decide +kernel
theorem dJx4497a_toChars1_7f61f_69 : decode cJx4497a_toChars1_7f61f 69 = .ok (.istore 6, 2) := by decide +kernel
theorem dJx4497a_toChars1_7f61f_71 : decode cJx4497a_toChars1_7f61f 71 = .ok (.aload_n 0, 1) := by decide +kernel
theorem dJx4497a_toChars1_7f61f_72 : decode cJx4497a_toChars1_7f61f 72 = .ok (.iload 6, 2) := by decide +kernel
theorem dJx4497a_toChars1_7f61f_74 : decode cJx4497a_toChars1_7f61f 74 = .ok (.bipush 28, 2) := by decide +kernel
theorem dJx4497a_toChars1_7f61f_76 : decode cJx4497a_toChars1_7f61f 76 = .ok (.iushr, 1) := by decide +kernel
theorem dJx4497a_toChars1_7f61f_77 : decode cJx4497a_toChars1_7f61f 77 = .ok (.invokevirtual 158, 3) := by decide +kernel
theorem dJx4497a_toChars1_7f61f_80 : decode cJx4497a_toChars1_7f61f 80 = .ok (.iload 6, 2) := by decide +kernel
theorem dJx4497a_toChars1_7f61f_82 : decode cJx4497a_toChars1_7f61f 82 = .ok (.ldc 164, 2) := by decide +kernel
theorem dJx4497a_toChars1_7f61f_84 : decode cJx4497a_toChars1_7f61f 84 = .ok (.iand, 1) := by decide +kernel
theorem dJx4497a_toChars1_7f61f_85 : decode cJx4497a_toChars1_7f61f 85 = .ok (.istore 5, 2) := by decide +kernel
theorem dJx4497a_toChars1_7f61f_87 : decode cJx4497a_toChars1_7f61f 87 = .ok (.iinc 7 1, 3) := by decide +kernel
theorem dJx4497a_toChars1_7f61f_90 : decode cJx4497a_toChars1_7f61f 90 = .ok (.goto (-33), 3) := by decide +kernel
theorem dJx4497a_toChars1_7f61f_93 : decode cJx4497a_toChars1_7f61f 93 = .ok (.aload_n 0, 1) := by decide +kernel
theorem dJx4497a_toChars1_7f61f_94 : decode cJx4497a_toChars1_7f61f 94 = .ok (.iload_n 3, 1) := by decide +kernel
theorem dJx4497a_toChars1_7f61f_95 : decode cJx4497a_toChars1_7f61f 95 = .ok (.invokevirtual 165, 3) := by decide +kernel
theorem dJx4497a_toChars1_7f61f_98 : decode cJx4497a_toChars1_7f61f 98 = .ok (.iconst 0, 1) := by decide +kernel
theorem dJx4497a_toChars1_7f61f_99 : decode cJx4497a_toChars1_7f61f 99 = .ok (.ireturn, 1) := by decide +kernel
set_option maxRecDepth 20000 in
theorem ggJx4497a_toChars2_7f61f_Jx4497a_appendDigit_d00df : GoodIn wsJx4497a_toChars2_7f61f wsJx4497a_appendDigit_d00df := goodIn_r _ [5, 6, 7, 35, 36] (by decide +kernel) (by decide +kernel)
set_option maxRecDepth 20000 in
theorem gJx4497a_toChars2_7f61f_Jx4497a_appendDigit_d00df : GoodIn wsJx4497a_toChars2_7f61f (wsV RJx4497a 158 RJx4497a yJx4497a_appendDigit_d00df wsJx4497a_appendDigit_d00df) := goodIn_app (goodIn_of _ (by decide +kernel)) ggJx4497a_toChars2_7f61f_Jx4497a_appendDigit_d00df
set_option maxRecDepth 20000 in
theorem ggJx4497a_toChars2_7f61f_Jx4497a_append_d00df : GoodIn wsJx4497a_toChars2_7f61f wsJx4497a_append_d00df := goodIn_r _ [11, 6, 7, 35, 36] (by decide +kernel) (by decide +kernel)
set_option maxRecDepth 20000 in
theorem gJx4497a_toChars2_7f61f_Jx4497a_append_d00df : GoodIn wsJx4497a_toChars2_7f61f (wsV RJx4497a 73 RJx4497a yJx4497a_append_d00df wsJx4497a_append_d00df) := goodIn_app (goodIn_of _ (by decide +kernel)) ggJx4497a_toChars2_7f61f_Jx4497a_append_d00df
set_option maxRecDepth 20000 in
theorem ggJx4497a_toChars2_7f61f_Jx4497a_append8Digits_d00df : GoodIn wsJx4497a_toChars2_7f61f wsJx4497a_append8Digits_d00df := goodIn_r _ [15, 16, 17, 18, 19, 4, 20, 21, 22, 23, 24, 25, 26, 1, 2, 3, 5, 6, 7, 35, 36] (by decide +kernel) (by decide +kernel)
set_option maxRecDepth 20000 in
theorem gJx4497a_toChars2_7f61f_Jx4497a_append8Digits_d00df : GoodIn wsJx4497a_toChars2_7f61f (wsV RJx4497a 168 RJx4497a yJx4497a_append8Digits_d00df wsJx4497a_append8Digits_d00df) := goodIn_app (goodIn_of _ (by decide +kernel)) ggJx4497a_toChars2_7f61f_Jx4497a_append8Digits_d00df
set_option maxRecDepth 20000 in
theorem ggJx4497a_toChars2_7f61f_Jx4497a_lowDigits_d00df : GoodIn wsJx4497a_toChars2_7f61f wsJx4497a_lowDigits_d00df := goodIn_r _ [30, 12, 13, 14, 4, 15, 16, 17, 18, 19, 20, 21, 22, 23, 24, 25, 26, 1, 2, 3, 5, 6, 7, 31, 32, 33, 34, 35, 36] (by decide +kernel) (by decide +kernel)
set_option maxRecDepth 20000 in
theorem gJx4497a_toChars2_7f61f_Jx4497a_lowDigits_d00df : GoodIn wsJx4497a_toChars2_7f61f (wsV RJx4497a 165 RJx4497a yJx4497a_lowDigits_d00df wsJx4497a_lowDigits_d00df) := goodIn_app (goodIn_of _ (by decide +kernel)) ggJx4497a_toChars2_7f61f_Jx4497a_lowDigits_d00df
theorem dJx4497a_toChars2_7f61f_0 : decode cJx4497a_toChars2_7f61f 0 = .ok (.aload_n 0, 1) := by decide +kernel
theorem dJx4497a_toChars2_7f61f_1 : decode cJx4497a_toChars2_7f61f 1 = .ok (.iconst 0, 1) := by decide +kernel
theorem dJx4497a_toChars2_7f61f_2 : decode cJx4497a_toChars2_7f61f 2 = .ok (.invokevirtual 158, 3) := by decide +kernel
theorem dJx4497a_toChars2_7f61f_5 : decode cJx4497a_toChars2_7f61f 5 = .ok (.aload_n 0, 1) := by decide +kernel
theorem dJx4497a_toChars2_7f61f_6 : decode cJx4497a_toChars2_7f61f 6 = .ok (.bipush 46, 2) := by decide +kernel
theorem dJx4497a_toChars2_7f61f_8 : decode cJx4497a_toChars2_7f61f 8 = .ok (.invokevirtual 73, 3) := by decide +kernel
theorem dJx4497a_toChars2_7f61f_11 : decode cJx4497a_toChars2_7f61f 11 = .ok (.iload 4, 2) := by decide +kernel
theorem dJx4497a_toChars2_7f61f_13 : decode cJx4497a_toChars2_7f61f 13 = .ok (.ifCond .ge 14, 3) := by decide +kernel
theorem dJx4497a_toChars2_7f61f_16 : decode cJx4497a_toChars2_7f61f 16 = .ok (.aload_n 0, 1) := by decide +kernel
theorem dJx4497a_toChars2_7f61f_17 : decode cJx4497a_toChars2_7f61f 17 = .ok (.iconst 0, 1) := by decide +kernel
theorem dJx4497a_toChars2_7f61f_18 : decode cJx4497a_toChars2_7f61f 18 = .ok (.invokevirtual 158, 3) := by decide +kernel
theorem dJx4497a_toChars2_7f61f_21 : decode cJx4497a_toChars2_7f61f 21 = .ok (.iinc 4 1, 3) := by decide +kernel
theorem dJx4497a_toChars2_7f61f_24 : decode cJx4497a_toChars2_7f61f 24 = .ok (.goto (-13), 3) := by decide +kernel
theorem dJx4497a_toChars2_7f61f_27 : decode cJx4497a_toChars2_7f61f 27 = .ok (.aload_n 0, 1) := by decide +kernel
theorem dJx4497a_toChars2_7f61f_28 : decode cJx4497a_toChars2_7f61f 28 = .ok (.iload_n 1, 1) := by decide +kernel
theorem dJx4497a_toChars2_7f61f_29 : decode cJx4497a_toChars2_7f61f 29 = .ok (.invokevirtual 158, 3) := by decide +kernel
theorem dJx4497a_toChars2_7f61f_32 : decode cJx4497a_toChars2_7f61f 32 = .ok (.aload_n 0, 1) := by decide +kernel
theorem dJx4497a_toChars2_7f61f_33 : decode cJx4497a_toChars2_7f61f 33 = .ok (.iload_n 2, 1) := by decide +kernel
theorem dJx4497a_toChars2_7f61f_34 : decode cJx4497a_toChars2_7f61f 34 = .ok (.invokevirtual 168, 3) := by decide +kernel
theorem dJx4497a_toChars2_7f61f_37 : decode cJx4497a_toChars2_7f61f 37 = .ok (.aload_n 0, 1) := by decide +kernel
theorem dJx4497a_toChars2_7f61f_38 : decode cJx4497a_toChars2_7f61f 38 = .ok (.iload_n 3, 1) := by decide +kernel
theorem dJx4497a_toChars2_7f61f_39 : decode cJx4497a_toChars2_7f61f 39 = .ok (.invokevirtual 165, 3) := by decide +kernel
theorem dJx4497a_toChars2_7f61f_42 : decode cJx4497a_toChars2_7f61f 42 = .ok (.iconst 0, 1) := by decide +kernel
theorem dJx4497a_toChars2_7f61f_43 : decode cJx4497a_toChars2_7f61f 43 = .ok (.ireturn, 1) := by decide +kernel
set_option maxRecDepth 20000 in
theorem ggJx4497a_toChars3_7f61f_Jx4497a_appendDigit_d00df : GoodIn wsJx4497a_toChars3_7f61f wsJx4497a_appendDigit_d00df := goodIn_r _ [5, 6, 7, 39, 40] (by decide +kernel) (by decide +kernel)
set_option maxRecDepth 20000 in
theorem gJx4497a_toChars3_7f61f_Jx4497a_appendDigit_d00df : GoodIn wsJx4497a_toChars3_7f61f (wsV RJx4497a 158 RJx4497a yJx4497a_appendDigit_d00df wsJx4497a_appendDigit_d00df) := goodIn_app (goodIn_of _ (by decide +kernel)) ggJx4497a_toChars3_7f61f_Jx4497a_appendDigit_d00df
set_option maxRecDepth 20000 in
theorem ggJx4497a_toChars3_7f61f_Jx4497a_append_d00df : GoodIn wsJx4497a_toChars3_7f61f wsJx4497a_append_d00df := goodIn_r _ [11, 6, 7, 39, 40] (by decide +kernel) (by decide +kernel)
set_option maxRecDepth 20000 in
theorem gJx4497a_toChars3_7f61f_Jx4497a_append_d00df : GoodIn wsJx4497a_toChars3_7f61f (wsV RJx4497a 73 RJx4497a yJx4497a_append_d00df wsJx4497a_append_d00df) := goodIn_app (goodIn_of _ (by decide +kernel)) ggJx4497a_toChars3_7f61f_Jx4497a_append_d00df
set_option maxRecDepth 20000 in
theorem ggJx4497a_toChars3_7f61f_Jx4497a_append8Digits_d00df : GoodIn wsJx4497a_toChars3_7f61f wsJx4497a_append8Digits_d00df := goodIn_r _ [15, 16, 17, 18, 19, 4, 20, 21, 22, 23, 24, 25, 26, 1, 2, 3, 5, 6, 7, 39, 40] (by decide +kernel) (by decide +kernel)
set_option maxRecDepth 20000 in
theorem gJx4497a_toChars3_7f61f_Jx4497a_append8Digits_d00df : GoodIn wsJx4497a_toChars3_7f61f (wsV RJx4497a 168 RJx4497a yJx4497a_append8Digits_d00df wsJx4497a_append8Digits_d00df) := goodIn_app (goodIn_of _ (by decide +kernel)) ggJx4497a_toChars3_7f61f_Jx4497a_append8Digits_d00df
set_option maxRecDepth 20000 in
theorem ggJx4497a_toChars3_7f61f_Jx4497a_lowDigits_d00df : GoodIn wsJx4497a_toChars3_7f61f wsJx4497a_lowDigits_d00df := goodIn_r _ [30, 12, 13, 14, 4, 15, 16, 17, 18, 19, 20, 21, 22, 23, 24, 25, 26, 1, 2, 3, 5, 6, 7, 31, 32, 33, 34, 39, 40] (by decide +kernel) (by decide +kernel)
set_option maxRecDepth 20000 in
theorem gJx4497a_toChars3_7f61f_Jx4497a_lowDigits_d00df : GoodIn wsJx4497a_toChars3_7f61f (wsV RJx4497a 165 RJx4497a yJx4497a_lowDigits_d00df wsJx4497a_lowDigits_d00df) := goodIn_app (goodIn_of _ (by decide +kernel)) ggJx4497a_toChars3_7f61f_Jx4497a_lowDigits_d00df
set_option maxRecDepth 20000 in
theorem ggJx4497a_toChars3_7f61f_Jx4497a_exponent_d00df : GoodIn wsJx4497a_toChars3_7f61f wsJx4497a_exponent_d00df := goodIn_r _ [38, 8, 9, 10, 4, 11, 6, 7, 1, 2, 3, 5, 39, 40] (by decide +kernel) (by decide +kernel)
set_option maxRecDepth 20000 in
theorem gJx4497a_toChars3_7f61f_Jx4497a_exponent_d00df : GoodIn wsJx4497a_toChars3_7f61f (wsV RJx4497a 171 RJx4497a yJx4497a_exponent_d00df wsJx4497a_exponent_d00df) := goodIn_app (goodIn_of _ (by decide +kernel)) ggJx4497a_toChars3_7f61f_Jx4497a_exponent_d00df
theorem dJx4497a_toChars3_7f61f_0 : decode cJx4497a_toChars3_7f61f 0 = .ok (.aload_n 0, 1) := by decide +kernel
theorem dJx4497a_toChars3_7f61f_1 : decode cJx4497a_toChars3_7f61f 1 = .ok (.iload_n 1, 1) := by decide +kernel
theorem dJx4497a_toChars3_7f61f_2 : decode cJx4497a_toChars3_7f61f 2 = .ok (.invokevirtual 158, 3) := by decide +kernel
theorem dJx4497a_toChars3_7f61f_5 : decode cJx4497a_toChars3_7f61f 5 = .ok (.aload_n 0, 1) := by decide +kernel
theorem dJx4497a_toChars3_7f61f_6 : decode cJx4497a_toChars3_7f61f 6 = .ok (.bipush 46, 2) := by decide +kernel
theorem dJx4497a_toChars3_7f61f_8 : decode cJx4497a_toChars3_7f61f 8 = .ok (.invokevirtual 73, 3) := by decide +kernel
theorem dJx4497a_toChars3_7f61f_11 : decode cJx4497a_toChars3_7f61f 11 = .ok (.aload_n 0, 1) := by decide +kernel
theorem dJx4497a_toChars3_7f61f_12 : decode cJx4497a_toChars3_7f61f 12 = .ok (.iload_n 2, 1) := by decide +kernel
theorem dJx4497a_toChars3_7f61f_13 : decode cJx4497a_toChars3_7f61f 13 = .ok (.invokevirtual 168, 3) := by decide +kernel
theorem dJx4497a_toChars3_7f61f_16 : decode cJx4497a_toChars3_7f61f 16 = .ok (.aload_n 0, 1) := by decide +kernel
theorem dJx4497a_toChars3_7f61f_17 : decode cJx4497a_toChars3_7f61f 17 = .ok (.iload_n 3, 1) := by decide +kernel
theorem dJx4497a_toChars3_7f61f_18 : decode cJx4497a_toChars3_7f61f 18 = .ok (.invokevirtual 165, 3) := by decide +kernel
theorem dJx4497a_toChars3_7f61f_21 : decode cJx4497a_toChars3_7f61f 21 = .ok (.aload_n 0, 1) := by decide +kernel
theorem dJx4497a_toChars3_7f61f_22 : decode cJx4497a_toChars3_7f61f 22 = .ok (.iload 4, 2) := by decide +kernel
theorem dJx4497a_toChars3_7f61f_24 : decode cJx4497a_toChars3_7f61f 24 = .ok (.iconst 1, 1) := by decide +kernel
theorem dJx4497a_toChars3_7f61f_25 : decode cJx4497a_toChars3_7f61f 25 = .ok (.isub, 1) := by decide +kernel
theorem dJx4497a_toChars3_7f61f_26 : decode cJx4497a_toChars3_7f61f 26 = .ok (.invokevirtual 171, 3) := by decide +kernel
theorem dJx4497a_toChars3_7f61f_29 : decode cJx4497a_toChars3_7f61f 29 = .ok (.iconst 0, 1) := by decide +kernel
theorem dJx4497a_toChars3_7f61f_30 : decode cJx4497a_toChars3_7f61f 30 = .ok (.ireturn, 1) := by decide +kernel
set_option maxRecDepth 20000 in
theorem ggJx4497a_lowDigits_d00df_Jx4497a_append8Digits_d00df : GoodIn wsJx4497a_lowDigits_d00df wsJx4497a_append8Digits_d00df := goodIn_r _ [5, 6, 7, 8, 9, 4, 10, 11, 12, 13, 14, 15, 16, 17, 18, 19, 20, 21, 22, 27, 28] (by decide +kernel) (by decide +kernel)
set_option maxRecDepth 20000 in
theorem gJx4497a_lowDigits_d00df_Jx4497a_append8Digits_d00df : GoodIn wsJx4497a_lowDigits_d00df (wsV RJx4497a 168 RJx4497a yJx4497a_append8Digits_d00df wsJx4497a_append8Digits_d00df) := goodIn_app (goodIn_of _ (by decide +kernel)) ggJx4497a_lowDigits_d00df_Jx4497a_append8Digits_d00df
set_option maxRecDepth 20000 in
theorem ggJx4497a_lowDigits_d00df_Jx4497a_removeTrailingZeroes_da8c8 : GoodIn wsJx4497a_lowDigits_d00df wsJx4497a_removeTrailingZeroes_da8c8 := goodIn_r _ [26, 21, 22, 27, 28] (by decide +kernel) (by decide +kernel)
set_option maxRecDepth 20000 in
theorem gJx4497a_lowDigits_d00df_Jx4497a_removeTrailingZeroes_da8c8 : GoodIn wsJx4497a_lowDigits_d00df (wsV RJx4497a 174 RJx4497a yJx4497a_removeTrailingZeroes_da8c8 wsJx4497a_removeTrailingZeroes_da8c8) := goodIn_app (goodIn_of _ (by decide +kernel)) ggJx4497a_lowDigits_d00df_Jx4497a_removeTrailingZeroes_da8c8
theorem dJx4497a_lowDigits_d00df_0 : decode cJx4497a_lowDigits_d00df 0 = .ok (.iload_n 1, 1) := by decide +kernel
theorem dJx4497a_lowDigits_d00df_1 : decode cJx4497a_lowDigits_d00df 1 = .ok (.ifCond .eq 8, 3) := by decide +kernel
theorem dJx4497a_lowDigits_d00df_4 : decode cJx4497a_lowDigits_d00df 4 = .ok (.aload_n 0, 1) := by decide +kernel
theorem dJx4497a_lowDigits_d00df_5 : decode cJx4497a_lowDigits_d00df 5 = .ok (.iload_n 1, 1) := by decide +kernel
theorem dJx4497a_lowDigits_d00df_6 : decode cJx4497a_lowDigits_d00df 6 = .ok (.invokevirtual 168, 3) := by decide +kernel
theorem dJx4497a_lowDigits_d00df_9 : decode cJx4497a_lowDigits_d00df 9 = .ok (.aload_n 0, 1) := by decide +kernel
theorem dJx4497a_lowDigits_d00df_10 : decode cJx4497a_lowDigits_d00df 10 = .ok (.invokevirtual 174, 3) := by decide +kernel
theorem dJx4497a_lowDigits_d00df_13 : decode cJx4497a_lowDigits_d00df 13 = .ok (.return_, 1) := by decide +kernel
set_option maxRecDepth 20000 in
theorem ggJx4497a_append8Digits_d00df_Jx4497a_y_0f7a4 : GoodIn wsJx4497a_append8Digits_d00df wsJx4497a_y_0f7a4 := goodIn_r _ [6, 7, 8, 9, 10, 11, 12] (by decide +kernel) (by decide +kernel)
set_option maxRecDepth 20000 in
theorem gJx4497a_append8Digits_d00df_Jx4497a_y_0f7a4 : GoodIn wsJx4497a_append8Digits_d00df (wsV RJx4497a 161 RJx4497a yJx4497a_y_0f7a4 wsJx4497a_y_0f7a4) := goodIn_app (goodIn_of _ (by decide +kernel)) ggJx4497a_append8Digits_d00df_Jx4497a_y_0f7a4
set_option maxRecDepth 20000 in
theorem ggJx4497a_append8Digits_d00df_Jx4497a_appendDigit_d00df : GoodIn wsJx4497a_append8Digits_d00df wsJx4497a_appendDigit_d00df := goodIn_r _ [16, 17, 18, 19, 20] (by decide +kernel) (by decide +kernel)
set_option maxRecDepth 20000 in
theorem gJx4497a_append8Digits_d00df_Jx4497a_appendDigit_d00df : GoodIn wsJx4497a_append8Digits_d00df (wsV RJx4497a 158 RJx4497a yJx4497a_appendDigit_d00df wsJx4497a_appendDigit_d00df) := goodIn_app (goodIn_of _ (by decide +kernel)) ggJx4497a_append8Digits_d00df_Jx4497a_appendDigit_d00df
theorem dJx4497a_append8Digits_d00df_0 : decode cJx4497a_append8Digits_d00df 0 = .ok (.aload_n 0, 1) := by decide +kernel
theorem dJx4497a_append8Digits_d00df_1 : decode cJx4497a_append8Digits_d00df 1 = .ok (.iload_n 1, 1) := by decide +kernel
theorem dJx4497a_append8Digits_d00df_2 : decode cJx4497a_append8Digits_d00df 2 = .ok (.invokevirtual 161, 3) := by decide +kernel
theorem dJx4497a_append8Digits_d00df_5 : decode cJx4497a_append8Digits_d00df 5 = .ok (.istore_n 2, 1) := by decide +kernel
theorem dJx4497a_append8Digits_d00df_6 : decode cJx4497a_append8Digits_d00df 6 = .ok (.iconst 0, 1) := by decide +kernel
theorem dJx4497a_append8Digits_d00df_7 : decode cJx4497a_append8Digits_d00df 7 = .ok (.istore_n 3, 1) := by decide +kernel
theorem dJx4497a_append8Digits_d00df_8 : decode cJx4497a_append8Digits_d00df 8 = .ok (.iload_n 3, 1) := by decide +kernel
theorem dJx4497a_append8Digits_d00df_9 : decode cJx4497a_append8Digits_d00df 9 = .ok (.bipush 8, 2) := by decide +kernel
theorem dJx4497a_append8Digits_d00df_11 : decode cJx4497a_append8Digits_d00df 11 = .ok (.if_icmp .ge 30, 3) := by decide +kernel
theorem dJx4497a_append8Digits_d00df_14 : decode cJx4497a_append8Digits_d00df 14 = .ok (.bipush 10, 2) := by decide +kernel
theorem dJx4497a_append8Digits_d00df_16 : decode cJx4497a_append8Digits_d00df 16 = .ok (.iload_n 2, 1) := by decide +kernel
theorem dJx4497a_append8Digits_d00df_17 : decode cJx4497a_append8Digits_d00df 17 = .ok (.imul, 1) := by decide +kernel
theorem dJx4497a_append8Digits_d00df_18 : decode cJx4497a_append8Digits_d00df 18 = .ok (.istore 4, 2) := by decide +kernel
theorem dJx4497a_append8Digits_d00df_20 : decode cJx4497a_append8Digits_d00df 20 = .ok (.aload_n 0, 1) := by decide +kernel
theorem dJx4497a_append8Digits_d00df_21 : decode cJx4497a_append8Digits_d00df 21 = .ok (.iload 4, 2) := by decide +kernel
theorem dJx4497a_append8Digits_d00df_23 : decode cJx4497a_append8Digits_d00df 23 = .ok (.bipush 28, 2) := by decide +kernel
theorem dJx4497a_append8Digits_d00df_25 : decode cJx4497a_append8Digits_d00df 25 = .ok (.iushr, 1) := by decide +kernel
theorem dJx4497a_append8Digits_d00df_26 : decode cJx4497a_append8Digits_d00df 26 = .ok (.invokevirtual 158, 3) := by decide +kernel
theorem dJx4497a_append8Digits_d00df_29 : decode cJx4497a_append8Digits_d00df 29 = .ok (.iload 4, 2) := by decide +kernel
theorem dJx4497a_append8Digits_d00df_31 : decode cJx4497a_append8Digits_d00df 31 = .ok (.ldc 164, 2) := by decide +kernel
theorem dJx4497a_append8Digits_d00df_33 : decode cJx4497a_append8Digits_d00df 33 = .ok (.iand, 1) := by decide +kernel
theorem dJx4497a_append8Digits_d00df_34 : decode cJx4497a_append8Digits_d00df 34 = .ok (.istore_n 2, 1) := by decide +kernel
theorem dJx4497a_append8Digits_d00df_35 : decode cJx4497a_append8Digits_d00df 35 = .ok (.iinc 3 1, 3) := by decide +kernel
theorem dJx4497a_append8Digits_d00df_38 : decode cJx4497a_append8Digits_d00df 38 = .ok (.goto (-30), 3) := by decide +kernel
theorem dJx4497a_append8Digits_d00df_41 : decode cJx4497a_append8Digits_d00df 41 = .ok (.return_, 1) := by decide +kernel
theorem dJx4497a_removeTrailingZeroes_da8c8_0 : decode cJx4497a_removeTrailingZeroes_da8c8 0 = .ok (.aload_n 0, 1) := by decide +kernel
theorem dJx4497a_removeTrailingZeroes_da8c8_1 : decode cJx4497a_removeTrailingZeroes_da8c8 1 = .ok (.getfield 11, 3) := by decide +kernel
theorem dJx4497a_removeTrailingZeroes_da8c8_4 : decode cJx4497a_removeTrailingZeroes_da8c8 4 = .ok (.aload_n 0, 1) := by decide +kernel
theorem dJx4497a_removeTrailingZeroes_da8c8_5 : decode cJx4497a_removeTrailingZeroes_da8c8 5 = .ok (.getfield 44, 3) := by decide +kernel
theorem dJx4497a_removeTrailingZeroes_da8c8_8 : decode cJx4497a_removeTrailingZeroes_da8c8 8 = .ok (.baload, 1) := by decide +kernel
theorem dJx4497a_removeTrailingZeroes_da8c8_9 : decode cJx4497a_removeTrailingZeroes_da8c8 9 = .ok (.bipush 48, 2) := by decide +kernel
theorem dJx4497a_removeTrailingZeroes_da8c8_11 : decode cJx4497a_removeTrailingZeroes_da8c8 11 = .ok (.if_icmp .ne 16, 3) := by decide +kernel
theorem dJx4497a_removeTrailingZeroes_da8c8_14 : decode cJx4497a_removeTrailingZeroes_da8c8 14 = .ok (.aload_n 0, 1) := by decide +kernel
theorem dJx4497a_removeTrailingZeroes_da8c8_15 : decode cJx4497a_removeTrailingZeroes_da8c8 15 = .ok (.dup, 1) := by decide +kernel
theorem dJx4497a_removeTrailingZeroes_da8c8_16 : decode cJx4497a_removeTrailingZeroes_da8c8 16 = .ok (.getfield 44, 3) := by decide +kernel
theorem dJx4497a_removeTrailingZeroes_da8c8_19 : decode cJx4497a_removeTrailingZeroes_da8c8 19 = .ok (.iconst 1, 1) := by decide +kernel
theorem dJx4497a_removeTrailingZeroes_da8c8_20 : decode cJx4497a_removeTrailingZeroes_da8c8 20 = .ok (.isub, 1) := by decide +kernel
theorem dJx4497a_removeTrailingZeroes_da8c8_21 : decode cJx4497a_removeTrailingZeroes_da8c8 21 = .ok (.putfield 44, 3) := by decide +kernel
theorem dJx4497a_removeTrailingZeroes_da8c8_24 : decode cJx4497a_removeTrailingZeroes_da8c8 24 = .ok (.goto (-24), 3) := by decide +kernel
theorem dJx4497a_removeTrailingZeroes_da8c8_27 : decode cJx4497a_removeTrailingZeroes_da8c8 27 = .ok (.aload_n 0, 1) := by decide +kernel
theorem dJx4497a_removeTrailingZeroes_da8c8_28 : decode cJx4497a_removeTrailingZeroes_da8c8 28 = .ok (.getfield 11, 3) := by decide +kernel
theorem dJx4497a_removeTrailingZeroes_da8c8_31 : decode cJx4497a_removeTrailingZeroes_da8c8 31 = .ok (.aload_n 0, 1) := by decide +kernel
theorem dJx4497a_removeTrailingZeroes_da8c8_32 : decode cJx4497a_removeTrailingZeroes_da8c8 32 = .ok (.getfield 44, 3) := by decide +kernel
theorem dJx4497a_removeTrailingZeroes_da8c8_35 : decode cJx4497a_removeTrailingZeroes_da8c8 35 = .ok (.baload, 1) := by decide +kernel
theorem dJx4497a_removeTrailingZeroes_da8c8_36 : decode cJx4497a_removeTrailingZeroes_da8c8 36 = .ok (.bipush 46, 2) := by decide +kernel
theorem dJx4497a_removeTrailingZeroes_da8c8_38 : decode cJx4497a_removeTrailingZeroes_da8c8 38 = .ok (.if_icmp .ne 13, 3) := by decide +kernel
theorem dJx4497a_removeTrailingZeroes_da8c8_41 : decode cJx4497a_removeTrailingZeroes_da8c8 41 = .ok (.aload_n 0, 1) := by decide +kernel
theorem dJx4497a_removeTrailingZeroes_da8c8_42 : decode cJx4497a_removeTrailingZeroes_da8c8 42 = .ok (.dup, 1) := by decide +kernel
theorem dJx4497a_removeTrailingZeroes_da8c8_43 : decode cJx4497a_removeTrailingZeroes_da8c8 43 = .ok (.getfield 44, 3) := by decide +kernel
theorem dJx4497a_removeTrailingZeroes_da8c8_46 : decode cJx4497a_removeTrailingZeroes_da8c8 46 = .ok (.iconst 1, 1) := by decide +kernel
theorem dJx4497a_removeTrailingZeroes_da8c8_47 : decode cJx4497a_removeTrailingZeroes_da8c8 47 = .ok (.iadd, 1) := by decide +kernel
theorem dJx4497a_removeTrailingZeroes_da8c8_48 : decode cJx4497a_removeTrailingZeroes_da8c8 48 = .ok (.putfield 44, 3) := by decide +kernel
theorem dJx4497a_removeTrailingZeroes_da8c8_51 : decode cJx4497a_removeTrailingZeroes_da8c8 51 = .ok (.return_, 1) := by decide +kernel
set_option maxRecDepth 20000 in
theorem ggJx4497a_y_0f7a4_J9_multiplyHigh_f86c9 : GoodIn wsJx4497a_y_0f7a4 wsJ9_multiplyHigh_f86c9 := goodIn_r _ [5, 6] (by decide +kernel) (by decide +kernel)
set_option maxRecDepth 20000 in
theorem gJx4497a_y_0f7a4_J9_multiplyHigh_f86c9 : GoodIn wsJx4497a_y_0f7a4 (va_wsS RJx4497a 118 yJ9_multiplyHigh_f86c9 wsJ9_multiplyHigh_f86c9) := goodIn_app (goodIn_of _ (by decide +kernel)) ggJx4497a_y_0f7a4_J9_multiplyHigh_f86c9
theorem dJx4497a_y_0f7a4_0 : decode cJx4497a_y_0f7a4 0 = .ok (.iload_n 1, 1) := by decide +kernel
theorem dJx4497a_y_0f7a4_1 : decode cJx4497a_y_0f7a4 1 = .ok (.iconst 1, 1) := by decide +kernel
theorem dJx4497a_y_0f7a4_2 : decode cJx4497a_y_0f7a4 2 = .ok (.iadd, 1) := by decide +kernel
theorem dJx4497a_y_0f7a4_3 : decode cJx4497a_y_0f7a4 3 = .ok (.i2l, 1) := by decide +kernel
theorem dJx4497a_y_0f7a4_4 : decode cJx4497a_y_0f7a4 4 = .ok (.bipush 28, 2) := by decide +kernel
theorem dJx4497a_y_0f7a4_6 : decode cJx4497a_y_0f7a4 6 = .ok (.lshl, 1) := by decide +kernel
theorem dJx4497a_y_0f7a4_7 : decode cJx4497a_y_0f7a4 7 = .ok (.ldc2_w 141, 3) := by decide +kernel
theorem dJx4497a_y_0f7a4_10 : decode cJx4497a_y_0f7a4 10 = .ok (.invokestatic 118, 3) := by decide +kernel
theorem dJx4497a_y_0f7a4_13 : decode cJx4497a_y_0f7a4 13 = .ok (.bipush 20, 2) := by decide +kernel
theorem dJx4497a_y_0f7a4_15 : decode cJx4497a_y_0f7a4 15 = .ok (.lushr, 1) := by decide +kernel
theorem dJx4497a_y_0f7a4_16 : decode cJx4497a_y_0f7a4 16 = .ok (.l2i, 1) := by decide +kernel
theorem dJx4497a_y_0f7a4_17 : decode cJx4497a_y_0f7a4 17 = .ok (.iconst 1, 1) := by decide +kernel
theorem dJx4497a_y_0f7a4_18 : decode cJx4497a_y_0f7a4 18 = .ok (.isub, 1) := by decide +kernel
theorem dJx4497a_y_0f7a4_19 : decode cJx4497a_y_0f7a4 19 = .ok (.ireturn, 1) := by decide +kernel
set_option maxRecDepth 20000 in
theorem ggJx4497a_exponent_d00df_Jx4497a_append_d00df : GoodIn wsJx4497a_exponent_d00df wsJx4497a_append_d00df := goodIn_r _ [5, 6, 7, 12, 13] (by decide +kernel) (by decide +kernel)
set_option maxRecDepth 20000 in
theorem gJx4497a_exponent_d00df_Jx4497a_append_d00df : GoodIn wsJx4497a_exponent_d00df (wsV RJx4497a 73 RJx4497a yJx4497a_append_d00df wsJx4497a_append_d00df) := goodIn_app (goodIn_of _ (by decide +kernel)) ggJx4497a_exponent_d00df_Jx4497a_append_d00df
set_option maxRecDepth 20000 in
theorem ggJx4497a_exponent_d00df_Jx4497a_appendDigit_d00df : GoodIn wsJx4497a_exponent_d00df wsJx4497a_appendDigit_d00df := goodIn_r _ [11, 6, 7, 12, 13] (by decide +kernel) (by decide +kernel)
set_option maxRecDepth 20000 in
theorem gJx4497a_exponent_d00df_Jx4497a_appendDigit_d00df : GoodIn wsJx4497a_exponent_d00df (wsV RJx4497a 158 RJx4497a yJx4497a_appendDigit_d00df wsJx4497a_appendDigit_d00df) := goodIn_app (goodIn_of _ (by decide +kernel)) ggJx4497a_exponent_d00df_Jx4497a_appendDigit_d00df
theorem dJx4497a_exponent_d00df_0 : decode cJx4497a_exponent_d00df 0 = .ok (.aload_n 0, 1) := by decide +kernel
theorem dJx4497a_exponent_d00df_1 : decode cJx4497a_exponent_d00df 1 = .ok (.bipush 69, 2) := by decide +kernel
theorem dJx4497a_exponent_d00df_3 : decode cJx4497a_exponent_d00df 3 = .ok (.invokevirtual 73, 3) := by decide +kernel
theorem dJx4497a_exponent_d00df_6 : decode cJx4497a_exponent_d00df 6 = .ok (.iload_n 1, 1) := by decide +kernel
theorem dJx4497a_exponent_d00df_7 : decode cJx4497a_exponent_d00df 7 = .ok (.ifCond .ge 12, 3) := by decide +kernel
theorem dJx4497a_exponent_d00df_10 : decode cJx4497a_exponent_d00df 10 = .ok (.aload_n 0, 1) := by decide +kernel
theorem dJx4497a_exponent_d00df_11 : decode cJx4497a_exponent_d00df 11 = .ok (.bipush 45, 2) := by decide +kernel
theorem dJx4497a_exponent_d00df_13 : decode cJx4497a_exponent_d00df 13 = .ok (.invokevirtual 73, 3) := by decide +kernel
theorem dJx4497a_exponent_d00df_16 : decode cJx4497a_exponent_d00df 16 = .ok (.iload_n 1, 1) := by decide +kernel
theorem dJx4497a_exponent_d00df_17 : decode cJx4497a_exponent_d00df 17 = .ok (.ineg, 1) := by decide +kernel
theorem dJx4497a_exponent_d00df_18 : decode cJx4497a_exponent_d00df 18 = .ok (.istore_n 1, 1) := by decide +kernel
theorem dJx4497a_exponent_d00df_19 : decode cJx4497a_exponent_d00df 19 = .ok (.iload_n 1, 1) := by decide +kernel
theorem dJx4497a_exponent_d00df_20 : decode cJx4497a_exponent_d00df 20 = .ok (.bipush 10, 2) := by decide +kernel
theorem dJx4497a_exponent_d00df_22 : decode cJx4497a_exponent_d00df 22 = .ok (.if_icmp .ge 9, 3) := by decide +kernel
theorem dJx4497a_exponent_d00df_25 : decode cJx4497a_exponent_d00df 25 = .ok (.aload_n 0, 1) := by decide +kernel
theorem dJx4497a_exponent_d00df_26 : decode cJx4497a_exponent_d00df 26 = .ok (.iload_n 1, 1) := by decide +kernel
theorem dJx4497a_exponent_d00df_27 : decode cJx4497a_exponent_d00df 27 = .ok (.invokevirtual 158, 3) := by decide +kernel
theorem dJx4497a_exponent_d00df_30 : decode cJx4497a_exponent_d00df 30 = .ok (.return_, 1) := by decide +kernel
theorem dJx4497a_exponent_d00df_31 : decode cJx4497a_exponent_d00df 31 = .ok (.iload_n 1, 1) := by decide +kernel
theorem dJx4497a_exponent_d00df_32 : decode cJx4497a_exponent_d00df 32 = .ok (.bipush 100, 2) := by decide +kernel
theorem dJx4497a_exponent_d00df_34 : decode cJx4497a_exponent_d00df 34 = .ok (.if_icmp .lt 24, 3) := by decide +kernel
theorem dJx4497a_exponent_d00df_37 : decode cJx4497a_exponent_d00df 37 = .ok (.iload_n 1, 1) := by decide +kernel
theorem dJx4497a_exponent_d00df_38 : decode cJx4497a_exponent_d00df 38 = .ok (.sipush 1311, 3) := by decide +kernel
theorem dJx4497a_exponent_d00df_41 : decode cJx4497a_exponent_d00df 41 = .ok (.imul, 1) := by decide +kernel
theorem dJx4497a_exponent_d00df_42 : decode cJx4497a_exponent_d00df 42 = .ok (.bipush 17, 2) := by decide +kernel
theorem dJx4497a_exponent_d00df_44 : decode cJx4497a_exponent_d00df 44 = .ok (.iushr, 1) := by decide +kernel
theorem dJx4497a_exponent_d00df_45 : decode cJx4497a_exponent_d00df 45 = .ok (.istore_n 2, 1) := by decide +kernel
theorem dJx4497a_exponent_d00df_46 : decode cJx4497a_exponent_d00df 46 = .ok (.aload_n 0, 1) := by decide +kernel
theorem dJx4497a_exponent_d00df_47 : decode cJx4497a_exponent_d00df 47 = .ok (.iload_n 2, 1) := by decide +kernel
theorem dJx4497a_exponent_d00df_48 : decode cJx4497a_exponent_d00df 48 = .ok (.invokevirtual 158, 3) := by decide +kernel
theorem dJx4497a_exponent_d00df_51 : decode cJx4497a_exponent_d00df 51 = .ok (.iload_n 1, 1) := by decide +kernel
theorem dJx4497a_exponent_d00df_52 : decode cJx4497a_exponent_d00df 52 = .ok (.bipush 100, 2) := by decide +kernel
theorem dJx4497a_exponent_d00df_54 : decode cJx4497a_exponent_d00df 54 = .ok (.iload_n 2, 1) := by decide +kernel
theorem dJx4497a_exponent_d00df_55 : decode cJx4497a_exponent_d00df 55 = .ok (.imul, 1) := by decide +kernel
theorem dJx4497a_exponent_d00df_56 : decode cJx4497a_exponent_d00df 56 = .ok (.isub, 1) := by decide +kernel
theorem dJx4497a_exponent_d00df_57 : decode cJx4497a_exponent_d00df 57 = .ok (.istore_n 1, 1) := by decide +kernel
theorem dJx4497a_exponent_d00df_58 : decode cJx4497a_exponent_d00df 58 = .ok (.iload_n 1, 1) := by decide +kernel
theorem dJx4497a_exponent_d00df_59 : decode cJx4497a_exponent_d00df 59 = .ok (.bipush 103, 2) := by decide +kernel
theorem dJx4497a_exponent_d00df_61 : decode cJx4497a_exponent_d00df 61 = .ok (.imul, 1) := by decide +kernel
theorem dJx4497a_exponent_d00df_62 : decode cJx4497a_exponent_d00df 62 = .ok (.bipush 10, 2) := by decide +kernel
theorem dJx4497a_exponent_d00df_64 : decode cJx4497a_exponent_d00df 64 = .ok (.iushr, 1) := by decide +kernel
theorem dJx4497a_exponent_d00df_65 : decode cJx4497a_exponent_d00df 65 = .ok (.istore_n 2, 1) := by decide +kernel
theorem dJx4497a_exponent_d00df_66 : decode cJx4497a_exponent_d00df 66 = .ok (.aload_n 0, 1) := by decide +kernel
theorem dJx4497a_exponent_d00df_67 : decode cJx4497a_exponent_d00df 67 = .ok (.iload_n 2, 1) := by decide +kernel
theorem dJx4497a_exponent_d00df_68 : decode cJx4497a_exponent_d00df 68 = .ok (.invokevirtual 158, 3) := by decide +kernel
theorem dJx4497a_exponent_d00df_71 : decode cJx4497a_exponent_d00df 71 = .ok (.aload_n 0, 1) := by decide +kernel
theorem dJx4497a_exponent_d00df_72 : decode cJx4497a_exponent_d00df 72 = .ok (.iload_n 1, 1) := by decide +kernel
theorem dJx4497a_exponent_d00df_73 : decode cJx4497a_exponent_d00df 73 = .ok (.bipush 10, 2) := by decide +kernel
theorem dJx4497a_exponent_d00df_75 : decode cJx4497a_exponent_d00df 75 = .ok (.iload_n 2, 1) := by decide +kernel
theorem dJx4497a_exponent_d00df_76 : decode cJx4497a_exponent_d00df 76 = .ok (.imul, 1) := by decide +kernel
theorem dJx4497a_exponent_d00df_77 : decode cJx4497a_exponent_d00df 77 = .ok (.isub, 1) := by decide +kernel
theorem dJx4497a_exponent_d00df_78 : decode cJx4497a_exponent_d00df 78 = .ok (.invokevirtual 158, 3) := by decide +kernel
theorem dJx4497a_exponent_d00df_81 : decode cJx4497a_exponent_d00df 81 = .ok (.return_, 1) := by decide +kernel
theorem dJx4497a_append_d00df_0 : decode cJx4497a_append_d00df 0 = .ok (.aload_n 0, 1) := by decide +kernel
theorem dJx4497a_append_d00df_1 : decode cJx4497a_append_d00df 1 = .ok (.getfield 11, 3) := by decide +kernel
theorem dJx4497a_append_d00df_4 : decode cJx4497a_append_d00df 4 = .ok (.aload_n 0, 1) := by decide +kernel
theorem dJx4497a_append_d00df_5 : decode cJx4497a_append_d00df 5 = .ok (.dup, 1) := by decide +kernel
theorem dJx4497a_append_d00df_6 : decode cJx4497a_append_d00df 6 = .ok (.getfield 44, 3) := by decide +kernel
theorem dJx4497a_append_d00df_9 : decode cJx4497a_append_d00df 9 = .ok (.iconst 1, 1) := by decide +kernel
theorem dJx4497a_append_d00df_10 : decode cJx4497a_append_d00df 10 = .ok (.iadd, 1) := by decide +kernel
theorem dJx4497a_append_d00df_11 : decode cJx4497a_append_d00df 11 = .ok (.dup_x1, 1) := by decide +kernel
theorem dJx4497a_append_d00df_12 : decode cJx4497a_append_d00df 12 = .ok (.putfield 44, 3) := by decide +kernel
theorem dJx4497a_append_d00df_15 : decode cJx4497a_append_d00df 15 = .ok (.iload_n 1, 1) := by decide +kernel
theorem dJx4497a_append_d00df_16 : decode cJx4497a_append_d00df 16 = .ok (.i2b, 1) := by decide +kernel
theorem dJx4497a_append_d00df_17 : decode cJx4497a_append_d00df 17 = .ok (.bastore, 1) := by decide +kernel
theorem dJx4497a_append_d00df_18 : decode cJx4497a_append_d00df 18 = .ok (.return_, 1) := by decide +kernel
theorem dJx4497a_appendDigit_d00df_0 : decode cJx4497a_appendDigit_d00df 0 = .ok (.aload_n 0, 1) := by decide +kernel
theorem dJx4497a_appendDigit_d00df_1 : decode cJx4497a_appendDigit_d00df 1 = .ok (.getfield 11, 3) := by decide +kernel
theorem dJx4497a_appendDigit_d00df_4 : decode cJx4497a_appendDigit_d00df 4 = .ok (.aload_n 0, 1) := by decide +kernel
theorem dJx4497a_appendDigit_d00df_5 : decode cJx4497a_appendDigit_d00df 5 = .ok (.dup, 1) := by decide +kernel
theorem dJx4497a_appendDigit_d00df_6 : decode cJx4497a_appendDigit_d00df 6 = .ok (.getfield 44, 3) := by decide +kernel
theorem dJx4497a_appendDigit_d00df_9 : decode cJx4497a_appendDigit_d00df 9 = .ok (.iconst 1, 1) := by decide +kernel
theorem dJx4497a_appendDigit_d00df_10 : decode cJx4497a_appendDigit_d00df 10 = .ok (.iadd, 1) := by decide +kernel
theorem dJx4497a_appendDigit_d00df_11 : decode cJx4497a_appendDigit_d00df 11 = .ok (.dup_x1, 1) := by decide +kernel
theorem dJx4497a_appendDigit_d00df_12 : decode cJx4497a_appendDigit_d00df 12 = .ok (.putfield 44, 3) := by decide +kernel
theorem dJx4497a_appendDigit_d00df_15 : decode cJx4497a_appendDigit_d00df 15 = .ok (.bipush 48, 2) := by decide +kernel
theorem dJx4497a_appendDigit_d00df_17 : decode cJx4497a_appendDigit_d00df 17 = .ok (.iload_n 1, 1) := by decide +kernel
theorem dJx4497a_appendDigit_d00df_18 : decode cJx4497a_appendDigit_d00df 18 = .ok (.iadd, 1) := by decide +kernel
theorem dJx4497a_appendDigit_d00df_19 : decode cJx4497a_appendDigit_d00df 19 = .ok (.i2b, 1) := by decide +kernel
theorem dJx4497a_appendDigit_d00df_20 : decode cJx4497a_appendDigit_d00df 20 = .ok (.bastore, 1) := by decide +kernel
theorem dJx4497a_appendDigit_d00df_21 : decode cJx4497a_appendDigit_d00df 21 = .ok (.return_, 1) := by decide +kernel
theorem dJx40b00_init_da8c8_0 : decode cJx40b00_init_da8c8 0 = .ok (.aload_n 0, 1) := by decide +kernel
theorem dJx40b00_init_da8c8_1 : decode cJx40b00_init_da8c8 1 = .ok (.invokespecial 5, 3) := by decide +kernel
theorem dJx40b00_init_da8c8_4 : decode cJx40b00_init_da8c8 4 = .ok (.aload_n 0, 1) := by decide +kernel
theorem dJx40b00_init_da8c8_5 : decode cJx40b00_init_da8c8 5 = .ok (.bipush 15, 2) := by decide +kernel
theorem dJx40b00_init_da8c8_7 : decode cJx40b00_init_da8c8 7 = .ok (.newarray .byte, 2) := by decide +kernel
theorem dJx40b00_init_da8c8_9 : decode cJx40b00_init_da8c8 9 = .ok (.putfield 11, 3) := by decide +kernel
theorem dJx40b00_init_da8c8_12 : decode cJx40b00_init_da8c8 12 = .ok (.return_, 1) := by decide +kernel
set_option maxRecDepth 20000 in
theorem ggJx40b00_appendTo_8d9f2_Jx40b00_init_da8c8 : GoodIn wsJx40b00_appendTo_8d9f2 wsJx40b00_init_da8c8 := goodIn_r _ [6, 7, 8, 9, 10, 11, 424, 425] (by decide +kernel) (by decide +kernel)
set_option maxRecDepth 20000 in
theorem gJx40b00_appendTo_8d9f2_Jx40b00_init_da8c8 : GoodIn wsJx40b00_appendTo_8d9f2 (wsJx40b00_init_da8c8) := ggJx40b00_appendTo_8d9f2_Jx40b00_init_da8c8
set_option maxRecDepth 20000 in
theorem ggJx40b00_appendTo_8d9f2_Jx40b00_appendDecimalTo_8d9f2 : GoodIn wsJx40b00_appendTo_8d9f2 wsJx40b00_appendDecimalTo_8d9f2 := goodIn_r _ [15, 16, 17, 11, 18, 19, 20, 21, 22, 3, 23, 24, 25, 26, 27, 28, 29, 30, 31, 32, 33, 34, 35, 36, 37, 38, 39, 40, 41, 42, 43, 44, 45, 46, 47, 48, 49, 50, 51, 52, 53, 54, 55, 56, 57, 58, 59, 60, 61, 62, 63, 64, 65, 66, 67, 68, 69, 70, 71, 72, 73, 74, 75, 76, 77, 78, 79, 80, 81, 82, 83, 84, 85, 86, 87, 88, 89, 90, 91, 92, 93, 94, 95, 96, 97, 98, 99, 100, 101, 102, 103, 104, 105, 106, 107, 108, 109, 110, 111, 112, 113, 114, 115, 116, 117, 118, 119, 120, 121, 122, 123, 124, 125, 126, 127, 128, 129, 130, 131, 132, 133, 134, 135, 136, 137, 138, 139, 140, 141, 142, 143, 144, 145, 146, 147, 148, 149, 150, 151, 152, 153, 154, 155, 156, 157, 158, 159, 160, 161, 10, 162, 163, 164, 165, 166, 167, 168, 169, 170, 171, 172, 173, 174, 175, 176, 177, 178, 179, 180, 181, 182, 183, 184, 185, 186, 187, 188, 189, 190, 191, 192, 193, 194, 195, 196, 197, 198, 199, 200, 201, 202, 203, 204, 205, 206, 207, 208, 209, 210, 211, 212, 213, 214, 215, 216, 217, 218, 219, 220, 221, 222, 223, 224, 225, 226, 227, 228, 229, 230, 231, 232, 233, 234, 235, 236, 237, 238, 239, 240, 241, 242, 243, 244, 245, 246, 247, 248, 249, 250, 251, 252, 253, 254, 255, 256, 257, 258, 259, 260, 261, 262, 263, 264, 265, 266, 267, 268, 269, 270, 271, 272, 273, 274, 275, 276, 277, 278, 279, 280, 281, 282, 283, 284, 285, 286, 287, 288, 289, 290, 291, 292, 293, 294, 295, 296, 297, 298, 299, 300, 301, 302, 303, 304, 305, 306, 307, 308, 309, 310, 311, 312, 313, 314, 315, 316, 317, 318, 319, 320, 321, 322, 323, 324, 325, 326, 327, 328, 329, 330, 331, 332, 333, 334, 335, 336, 337, 338, 339, 340, 341, 342, 343, 344, 345, 346, 347, 348, 349, 350, 351, 352, 353, 354, 355, 356, 357, 358, 359, 360, 361, 362, 363, 364, 365, 366, 367, 368, 369, 370, 371, 372, 373, 374, 375, 376, 377, 378, 379, 380, 381, 382, 383, 384, 385, 386, 387, 388, 389, 390, 391, 392, 393, 394, 395, 396, 397, 398, 399, 400, 401, 402, 403, 404, 405, 406, 407, 408, 409, 410, 411, 412, 413, 414, 415, 416, 417, 418, 419, 420, 421, 422, 423, 424, 425, 426, 427, 428, 429, 430, 431, 432, 433] (by decide +kernel) (by decide +kernel)
set_option maxRecDepth 20000 in
theorem gJx40b00_appendTo_8d9f2_Jx40b00_appendDecimalTo_8d9f2 : GoodIn wsJx40b00_appendTo_8d9f2 (wsV RJx40b00 20 RJx40b00 yJx40b00_appendDecimalTo_8d9f2 wsJx40b00_appendDecimalTo_8d9f2) := goodIn_app (goodIn_of _ (by decide +kernel)) ggJx40b00_appendTo_8d9f2_Jx40b00_appendDecimalTo_8d9f2
theorem dJx40b00_appendTo_8d9f2_0 : decode cJx40b00_appendTo_8d9f2 0 = .ok (.new 3, 3) := by decide +kernel
theorem dJx40b00_appendTo_8d9f2_3 : decode cJx40b00_appendTo_8d9f2 3 = .ok (.dup, 1) := by decide +kernel
theorem dJx40b00_appendTo_8d9f2_4 : decode cJx40b00_appendTo_8d9f2 4 = .ok (.invokespecial 15, 3) := by decide +kernel
theorem dJx40b00_appendTo_8d9f2_7 : decode cJx40b00_appendTo_8d9f2 7 = .ok (.fload_n 0, 1) := by decide +kernel
theorem dJx40b00_appendTo_8d9f2_8 : decode cJx40b00_appendTo_8d9f2 8 = .ok (.aload_n 1, 1) := by decide +kernel
theorem dJx40b00_appendTo_8d9f2_9 : decode cJx40b00_appendTo_8d9f2 9 = .ok (.invokevirtual 20, 3) := by decide +kernel
theorem dJx40b00_appendTo_8d9f2_12 : decode cJx40b00_appendTo_8d9f2 12 = .ok (.areturn, 1) := by decide +kernel
set_option maxRecDepth 20000 in
theorem ggJx40b00_appendDecimalTo_8d9f2_Jx40b00_toDecimal_5c35a : GoodIn wsJx40b00_appendDecimalTo_8d9f2 wsJx40b00_toDecimal_5c35a := goodIn_r _ [10, 11, 12, 13, 14, 15, 1, 16, 17, 18, 19, 9, 20, 3, 21, 22, 23, 24, 25, 26, 27, 28, 29, 30, 31, 32, 33, 34, 35, 36, 37, 38, 39, 40, 41, 42, 43, 44, 45, 46, 47, 48, 49, 50, 51, 52, 53, 54, 55, 56, 57, 58, 59, 60, 61, 62, 63, 64, 65, 66, 67, 68, 69, 70, 71, 72, 73, 74, 75, 76, 77, 78, 79, 80, 81, 82, 83, 84, 85, 86, 87, 88, 89, 90, 91, 92, 93, 94, 95, 96, 97, 98, 99, 100, 101, 412, 413] (by decide +kernel) (by decide +kernel)
set_option maxRecDepth 20000 in
theorem gJx40b00_appendDecimalTo_8d9f2_Jx40b00_toDecimal_5c35a : GoodIn wsJx40b00_appendDecimalTo_8d9f2 (wsV RJx40b00 24 RJx40b00 yJx40b00_toDecimal_5c35a wsJx40b00_toDecimal_5c35a) := goodIn_app (goodIn_of _ (by decide +kernel)) ggJx40b00_appendDecimalTo_8d9f2_Jx40b00_toDecimal_5c35a
set_option maxRecDepth 20000 in
theorem ggJx40b00_appendDecimalTo_8d9f2_J4_append_37e8c : GoodIn wsJx40b00_appendDecimalTo_8d9f2 wsJ4_append_37e8c := goodIn_r _ [106, 107, 108, 109, 110, 111, 112, 113, 114, 115, 116, 117, 118, 119, 120, 121, 122, 123, 124, 125, 126, 127, 128, 129, 130, 131, 132, 133, 134, 135, 136, 137, 138, 139, 140, 141, 142, 143, 144, 145, 146, 147, 148, 149, 150, 151, 152, 153, 154, 155, 156, 157, 158, 159, 160, 161, 162, 163, 164, 165, 166, 167, 168, 169, 170, 171, 172, 173, 174, 175, 176, 177, 178, 179, 180, 181, 182, 183, 184, 185, 186, 187, 188, 189, 190, 191, 192, 193, 194, 195, 196, 197, 198, 199, 200, 201, 202, 203, 204, 205, 206, 207, 208, 209, 210, 211, 212, 213, 214, 215, 216, 217, 218, 219, 220, 221, 222, 223, 224, 225, 226, 414, 415, 416, 417] (by decide +kernel) (by decide +kernel)
set_option maxRecDepth 20000 in
theorem gJx40b00_appendDecimalTo_8d9f2_J4_append_37e8c : GoodIn wsJx40b00_appendDecimalTo_8d9f2 (wsV RJx40b00 48 RJ4 yJ4_append_37e8c wsJ4_append_37e8c) := goodIn_app (goodIn_of _ (by decide +kernel)) ggJx40b00_appendDecimalTo_8d9f2_J4_append_37e8c
set_option maxRecDepth 20000 in
theorem ggJx40b00_appendDecimalTo_8d9f2_J4_append_b3078 : GoodIn wsJx40b00_appendDecimalTo_8d9f2 wsJ4_append_b3078 := goodIn_r _ [230, 231, 232, 233, 105, 234, 235, 236, 109, 237, 111, 238, 113, 119, 114, 115, 116, 117, 118, 120, 121, 122, 123, 124, 125, 126, 127, 128, 129, 130, 131, 132, 133, 134, 135, 136, 137, 138, 139, 140, 141, 142, 143, 144, 145, 146, 147, 148, 149, 150, 151, 152, 153, 154, 155, 156, 162, 163, 164, 165, 166, 167, 168, 169, 170, 171, 172, 173, 174, 175, 176, 177, 178, 179, 180, 181, 182, 183, 184, 185, 186, 187, 188, 189, 190, 191, 192, 193, 194, 195, 196, 197, 198, 199, 200, 201, 202, 203, 204, 205, 206, 207, 208, 209, 210, 211, 239, 240, 241, 242, 243, 244, 245, 246, 247, 248, 249, 250, 414, 415, 416, 417] (by decide +kernel) (by decide +kernel)
set_option maxRecDepth 20000 in
theorem gJx40b00_appendDecimalTo_8d9f2_J4_append_b3078_f57J4 : GoodIn wsJx40b00_appendDecimalTo_8d9f2 (va_wsF RJx40b00 57 RJ4 ⟨"java/lang/Appendable", "append", "(C)Ljava/lang/Appendable;"⟩ yJ4_append_b3078 wsJ4_append_b3078) := goodIn_app (goodIn_of _ (by decide +kernel)) ggJx40b00_appendDecimalTo_8d9f2_J4_append_b3078
set_option maxRecDepth 20000 in
theorem ggJx40b00_appendDecimalTo_8d9f2_J4_append_996db : GoodIn wsJx40b00_appendDecimalTo_8d9f2 wsJ4_append_996db := goodIn_r _ [254, 255, 256, 257, 105, 258, 259, 260, 109, 261, 111, 262, 263, 264, 265, 266, 267, 268, 269, 113, 119, 114, 115, 116, 117, 118, 120, 121, 122, 123, 124, 125, 126, 127, 128, 129, 130, 131, 132, 133, 134, 135, 136, 137, 138, 139, 140, 141, 142, 143, 144, 145, 146, 147, 148, 149, 150, 151, 152, 153, 154, 155, 156, 162, 163, 164, 165, 166, 167, 270, 271, 179, 272, 209, 215, 216, 217, 194, 195, 196, 218, 219, 199, 220, 201, 221, 222, 204, 223, 206, 207, 208, 210, 211, 273, 274, 275, 276, 277, 278, 279, 280, 281, 282, 283, 284, 285, 286, 287, 288, 289, 290, 291, 292, 293, 294, 295, 296, 297, 298, 299, 300, 301, 302, 303, 304, 305, 306, 307, 172, 173, 174, 175, 176, 177, 178, 180, 181, 182, 183, 184, 185, 186, 170, 187, 188, 189, 190, 191, 192, 193, 197, 198, 200, 202, 203, 205, 308, 309, 310, 311, 312, 313, 314, 315, 316, 317, 318, 319, 320, 321, 322, 323, 324, 325, 326, 327, 328, 329, 330, 331, 332, 333, 334, 335, 336, 337, 338, 339, 340, 341, 342, 343, 344, 345, 346, 347, 348, 349, 350, 351, 352, 353, 354, 355, 356, 357, 358, 359, 360, 361, 362, 363, 364, 365, 366, 367, 368, 369, 370, 371, 372, 373, 374, 375, 376, 377, 378, 379, 380, 381, 382, 383, 384, 246, 247, 248, 249, 250, 385, 386, 387, 242, 243, 244, 245, 388, 389, 390, 168, 169, 171, 391, 392, 393, 394, 395, 396, 397, 398, 399, 400, 401, 402, 403, 404, 405, 406, 407, 408, 409, 410, 411, 239, 240, 241, 414, 415, 416, 417, 418, 419, 420, 421] (by decide +kernel) (by decide +kernel)
set_option maxRecDepth 20000 in
theorem gJx40b00_appendDecimalTo_8d9f2_J4_append_996db_f62J4 : GoodIn wsJx40b00_appendDecimalTo_8d9f2 (va_wsF RJx40b00 62 RJ4 ⟨"java/lang/Appendable", "append", "(Ljava/lang/CharSequence;)Ljava/lang/Appendable;"⟩ yJ4_append_996db wsJ4_append_996db) := goodIn_app (goodIn_of _ (by decide +kernel)) ggJx40b00_appendDecimalTo_8d9f2_J4_append_996db
theorem dJx40b00_appendDecimalTo_8d9f2_0 : decode cJx40b00_appendDecimalTo_8d9f2 0 = .ok (.aload_n 0, 1) := by decide +kernel
theorem dJx40b00_appendDecimalTo_8d9f2_1 : decode cJx40b00_appendDecimalTo_8d9f2 1 = .ok (.fload_n 1, 1) := by decide +kernel
theorem dJx40b00_appendDecimalTo_8d9f2_2 : decode cJx40b00_appendDecimalTo_8d9f2 2 = .ok (.invokevirtual 24, 3) := by decide +kernel
theorem dJx40b00_appendDecimalTo_8d9f2_5 : decode cJx40b00_appendDecimalTo_8d9f2 5 = .ok (.tableswitch 190 0 4 #[35, 154, 163, 172, 181], 35) := by decide +kernel
theorem dJx40b00_appendDecimalTo_8d9f2_40 : decode cJx40b00_appendDecimalTo_8d9f2 40 = .ok (.aload_n 0, 1) := by decide +kernel
theorem dJx40b00_appendDecimalTo_8d9f2_41 : decode cJx40b00_appendDecimalTo_8d9f2 41 = .ok (.getfield 42, 3) := by decide +kernel
theorem dJx40b00_appendDecimalTo_8d9f2_44 : decode cJx40b00_appendDecimalTo_8d9f2 44 = .ok (.iconst 1, 1) := by decide +kernel
theorem dJx40b00_appendDecimalTo_8d9f2_45 : decode cJx40b00_appendDecimalTo_8d9f2 45 = .ok (.iadd, 1) := by decide +kernel
theorem dJx40b00_appendDecimalTo_8d9f2_46 : decode cJx40b00_appendDecimalTo_8d9f2 46 = .ok (.newarray .char, 2) := by decide +kernel
theorem dJx40b00_appendDecimalTo_8d9f2_48 : decode cJx40b00_appendDecimalTo_8d9f2 48 = .ok (.astore_n 3, 1) := by decide +kernel
theorem dJx40b00_appendDecimalTo_8d9f2_49 : decode cJx40b00_appendDecimalTo_8d9f2 49 = .ok (.iconst 0, 1) := by decide +kernel
theorem dJx40b00_appendDecimalTo_8d9f2_50 : decode cJx40b00_appendDecimalTo_8d9f2 50 = .ok (.istore 4, 2) := by decide +kernel
theorem dJx40b00_appendDecimalTo_8d9f2_52 : decode cJx40b00_appendDecimalTo_8d9f2 52 = .ok (.iload 4, 2) := by decide +kernel
theorem dJx40b00_appendDecimalTo_8d9f2_54 : decode cJx40b00_appendDecimalTo_8d9f2 54 = .ok (.aload_n 3, 1) := by decide +kernel
theorem dJx40b00_appendDecimalTo_8d9f2_55 : decode cJx40b00_appendDecimalTo_8d9f2 55 = .ok (.arraylength, 1) := by decide +kernel
theorem dJx40b00_appendDecimalTo_8d9f2_56 : decode cJx40b00_appendDecimalTo_8d9f2 56 = .ok (.if_icmp .ge 21, 3) := by decide +kernel
theorem dJx40b00_appendDecimalTo_8d9f2_59 : decode cJx40b00_appendDecimalTo_8d9f2 59 = .ok (.aload_n 3, 1) := by decide +kernel
theorem dJx40b00_appendDecimalTo_8d9f2_60 : decode cJx40b00_appendDecimalTo_8d9f2 60 = .ok (.iload 4, 2) := by decide +kernel
theorem dJx40b00_appendDecimalTo_8d9f2_62 : decode cJx40b00_appendDecimalTo_8d9f2 62 = .ok (.aload_n 0, 1) := by decide +kernel
theorem dJx40b00_appendDecimalTo_8d9f2_63 : decode cJx40b00_appendDecimalTo_8d9f2 63 = .ok (.getfield 11, 3) := by decide +kernel
theorem dJx40b00_appendDecimalTo_8d9f2_66 : decode cJx40b00_appendDecimalTo_8d9f2 66 = .ok (.iload 4, 2) := by decide +kernel
theorem dJx40b00_appendDecimalTo_8d9f2_68 : decode cJx40b00_appendDecimalTo_8d9f2 68 = .ok (.baload, 1) := by decide +kernel
theorem dJx40b00_appendDecimalTo_8d9f2_69 : decode cJx40b00_appendDecimalTo_8d9f2 69 = .ok (.i2c, 1) := by decide +kernel
theorem dJx40b00_appendDecimalTo_8d9f2_70 : decode cJx40b00_appendDecimalTo_8d9f2 70 = .ok (.castore, 1) := by decide +kernel
theorem dJx40b00_appendDecimalTo_8d9f2_71 : decode cJx40b00_appendDecimalTo_8d9f2 71 = .ok (.iinc 4 1, 3) := by decide +kernel
theorem dJx40b00_appendDecimalTo_8d9f2_74 : decode cJx40b00_appendDecimalTo_8d9f2 74 = .ok (.goto (-22), 3) := by decide +kernel
theorem dJx40b00_appendDecimalTo_8d9f2_77 : decode cJx40b00_appendDecimalTo_8d9f2 77 = .ok (.aload_n 2, 1) := by decide +kernel
theorem dJx40b00_appendDecimalTo_8d9f2_78 : decode cJx40b00_appendDecimalTo_8d9f2 78 = .ok (.instanceof 46, 3) := by decide +kernel
theorem dJx40b00_appendDecimalTo_8d9f2_81 : decode cJx40b00_appendDecimalTo_8d9f2 81 = .ok (.ifCond .eq 16, 3) := by decide +kernel
theorem dJx40b00_appendDecimalTo_8d9f2_84 : decode cJx40b00_appendDecimalTo_8d9f2 84 = .ok (.aload_n 2, 1) := by decide +kernel
theorem dJx40b00_appendDecimalTo_8d9f2_85 : decode cJx40b00_appendDecimalTo_8d9f2 85 = .ok (.checkcast 46, 3) := by decide +kernel
theorem dJx40b00_appendDecimalTo_8d9f2_88 : decode cJx40b00_appendDecimalTo_8d9f2 88 = .ok (.astore 4, 2) := by decide +kernel
theorem dJx40b00_appendDecimalTo_8d9f2_90 : decode cJx40b00_appendDecimalTo_8d9f2 90 = .ok (.aload 4, 2) := by decide +kernel
theorem dJx40b00_appendDecimalTo_8d9f2_92 : decode cJx40b00_appendDecimalTo_8d9f2 92 = .ok (.aload_n 3, 1) := by decide +kernel
theorem dJx40b00_appendDecimalTo_8d9f2_93 : decode cJx40b00_appendDecimalTo_8d9f2 93 = .ok (.invokevirtual 48, 3) := by decide +kernel
theorem dJx40b00_appendDecimalTo_8d9f2_96 : decode cJx40b00_appendDecimalTo_8d9f2 96 = .ok (.areturn, 1) := by decide +kernel
theorem dJx40b00_appendDecimalTo_8d9f2_97 : decode cJx40b00_appendDecimalTo_8d9f2 97 = .ok (.aload_n 2, 1) := by decide +kernel
theorem dJx40b00_appendDecimalTo_8d9f2_98 : decode cJx40b00_appendDecimalTo_8d9f2 98 = .ok (.instanceof 52, 3) := by decide +kernel
theorem dJx40b00_appendDecimalTo_8d9f2_101 : decode cJx40b00_appendDecimalTo_8d9f2 101 = .ok (.ifCond .eq 16, 3) := by decide +kernel
theorem dJx40b00_appendDecimalTo_8d9f2_104 : decode cJx40b00_appendDecimalTo_8d9f2 104 = .ok (.aload_n 2, 1) := by decide +kernel
theorem dJx40b00_appendDecimalTo_8d9f2_105 : decode cJx40b00_appendDecimalTo_8d9f2 105 = .ok (.checkcast 52, 3) := by decide +kernel
theorem dJx40b00_appendDecimalTo_8d9f2_108 : decode cJx40b00_appendDecimalTo_8d9f2 108 = .ok (.astore 4, 2) := by decide +kernel
theorem dJx40b00_appendDecimalTo_8d9f2_110 : decode cJx40b00_appendDecimalTo_8d9f2 110 = .ok (.aload 4, 2) := by decide +kernel
theorem dJx40b00_appendDecimalTo_8d9f2_112 : decode cJx40b00_appendDecimalTo_8d9f2 112 = .ok (.aload_n 3, 1) := by decide +kernel
theorem dJx40b00_appendDecimalTo_8d9f2_113 : decode cJx40b00_appendDecimalTo_8d9f2 113 = .ok (.invokevirtual 54, 3) := by decide +kernel
theorem dJx40b00_appendDecimalTo_8d9f2_116 : decode cJx40b00_appendDecimalTo_8d9f2 116 = .ok (.areturn, 1) := by decide +kernel
theorem dJx40b00_appendDecimalTo_8d9f2_117 : decode cJx40b00_appendDecimalTo_8d9f2 117 = .ok (.aload_n 3, 1) := by decide +kernel
theorem dJx40b00_appendDecimalTo_8d9f2_118 : decode cJx40b00_appendDecimalTo_8d9f2 118 = .ok (.astore 4, 2) := by decide +kernel
theorem dJx40b00_appendDecimalTo_8d9f2_120 : decode cJx40b00_appendDecimalTo_8d9f2 120 = .ok (.aload 4, 2) := by decide +kernel
theorem dJx40b00_appendDecimalTo_8d9f2_122 : decode cJx40b00_appendDecimalTo_8d9f2 122 = .ok (.arraylength, 1) := by decide +kernel
theorem dJx40b00_appendDecimalTo_8d9f2_123 : decode cJx40b00_appendDecimalTo_8d9f2 123 = .ok (.istore 5, 2) := by decide +kernel
theorem dJx40b00_appendDecimalTo_8d9f2_125 : decode cJx40b00_appendDecimalTo_8d9f2 125 = .ok (.iconst 0, 1) := by decide +kernel
theorem dJx40b00_appendDecimalTo_8d9f2_126 : decode cJx40b00_appendDecimalTo_8d9f2 126 = .ok (.istore 6, 2) := by decide +kernel
theorem dJx40b00_appendDecimalTo_8d9f2_128 : decode cJx40b00_appendDecimalTo_8d9f2 128 = .ok (.iload 6, 2) := by decide +kernel
theorem dJx40b00_appendDecimalTo_8d9f2_130 : decode cJx40b00_appendDecimalTo_8d9f2 130 = .ok (.iload 5, 2) := by decide +kernel
theorem dJx40b00_appendDecimalTo_8d9f2_132 : decode cJx40b00_appendDecimalTo_8d9f2 132 = .ok (.if_icmp .ge 25, 3) := by decide +kernel
theorem dJx40b00_appendDecimalTo_8d9f2_135 : decode cJx40b00_appendDecimalTo_8d9f2 135 = .ok (.aload 4, 2) := by decide +kernel
theorem dJx40b00_appendDecimalTo_8d9f2_137 : decode cJx40b00_appendDecimalTo_8d9f2 137 = .ok (.iload 6, 2) := by decide +kernel
theorem dJx40b00_appendDecimalTo_8d9f2_139 : decode cJx40b00_appendDecimalTo_8d9f2 139 = .ok (.caload, 1) := by decide +kernel
theorem dJx40b00_appendDecimalTo_8d9f2_140 : decode cJx40b00_appendDecimalTo_8d9f2 140 = .ok (.istore 7, 2) := by decide +kernel
theorem dJx40b00_appendDecimalTo_8d9f2_142 : decode cJx40b00_appendDecimalTo_8d9f2 142 = .ok (.aload_n 2, 1) := by decide +kernel
theorem dJx40b00_appendDecimalTo_8d9f2_143 : decode cJx40b00_appendDecimalTo_8d9f2 143 = .ok (.iload 7, 2) := by decide +kernel
theorem dJx40b00_appendDecimalTo_8d9f2_145 : decode cJx40b00_appendDecimalTo_8d9f2 145 = .ok (.invokeinterface 57 2, 5) := by decide +kernel
theorem dJx40b00_appendDecimalTo_8d9f2_150 : decode cJx40b00_appendDecimalTo_8d9f2 150 = .ok (.pop, 1) := by decide +kernel
theorem dJx40b00_appendDecimalTo_8d9f2_151 : decode cJx40b00_appendDecimalTo_8d9f2 151 = .ok (.iinc 6 1, 3) := by decide +kernel
theorem dJx40b00_appendDecimalTo_8d9f2_154 : decode cJx40b00_appendDecimalTo_8d9f2 154 = .ok (.goto (-26), 3) := by decide +kernel
theorem dJx40b00_appendDecimalTo_8d9f2_157 : decode cJx40b00_appendDecimalTo_8d9f2 157 = .ok (.aload_n 2, 1) := by decide +kernel
theorem dJx40b00_appendDecimalTo_8d9f2_158 : decode cJx40b00_appendDecimalTo_8d9f2 158 = .ok (.areturn, 1) := by decide +kernel
theorem dJx40b00_appendDecimalTo_8d9f2_159 : decode cJx40b00_appendDecimalTo_8d9f2 159 = .ok (.aload_n 2, 1) := by decide +kernel
theorem dJx40b00_appendDecimalTo_8d9f2_160 : decode cJx40b00_appendDecimalTo_8d9f2 160 = .ok (.ldc 32, 2) := by decide +kernel
theorem dJx40b00_appendDecimalTo_8d9f2_162 : decode cJx40b00_appendDecimalTo_8d9f2 162 = .ok (.invokeinterface 62 2, 5) := by decide +kernel
theorem dJx40b00_appendDecimalTo_8d9f2_167 : decode cJx40b00_appendDecimalTo_8d9f2 167 = .ok (.areturn, 1) := by decide +kernel
theorem dJx40b00_appendDecimalTo_8d9f2_168 : decode cJx40b00_appendDecimalTo_8d9f2 168 = .ok (.aload_n 2, 1) := by decide +kernel
theorem dJx40b00_appendDecimalTo_8d9f2_169 : decode cJx40b00_appendDecimalTo_8d9f2 169 = .ok (.ldc 34, 2) := by decide +kernel
theorem dJx40b00_appendDecimalTo_8d9f2_171 : decode cJx40b00_appendDecimalTo_8d9f2 171 = .ok (.invokeinterface 62 2, 5) := by decide +kernel
theorem dJx40b00_appendDecimalTo_8d9f2_176 : decode cJx40b00_appendDecimalTo_8d9f2 176 = .ok (.areturn, 1) := by decide +kernel
theorem dJx40b00_appendDecimalTo_8d9f2_177 : decode cJx40b00_appendDecimalTo_8d9f2 177 = .ok (.aload_n 2, 1) := by decide +kernel
theorem dJx40b00_appendDecimalTo_8d9f2_178 : decode cJx40b00_appendDecimalTo_8d9f2 178 = .ok (.ldc 36, 2) := by decide +kernel
theorem dJx40b00_appendDecimalTo_8d9f2_180 : decode cJx40b00_appendDecimalTo_8d9f2 180 = .ok (.invokeinterface 62 2, 5) := by decide +kernel
theorem dJx40b00_appendDecimalTo_8d9f2_185 : decode cJx40b00_appendDecimalTo_8d9f2 185 = .ok (.areturn, 1) := by decide +kernel
theorem dJx40b00_appendDecimalTo_8d9f2_186 : decode cJx40b00_appendDecimalTo_8d9f2 186 = .ok (.aload_n 2, 1) := by decide +kernel
theorem dJx40b00_appendDecimalTo_8d9f2_187 : decode cJx40b00_appendDecimalTo_8d9f2 187 = .ok (.ldc 38, 2) := by decide +kernel
theorem dJx40b00_appendDecimalTo_8d9f2_189 : decode cJx40b00_appendDecimalTo_8d9f2 189 = .ok (.invokeinterface 62 2, 5) := by decide +kernel
theorem dJx40b00_appendDecimalTo_8d9f2_194 : decode cJx40b00_appendDecimalTo_8d9f2 194 = .ok (.areturn, 1) := by decide +kernel
theorem dJx40b00_appendDecimalTo_8d9f2_195 : decode cJx40b00_appendDecimalTo_8d9f2 195 = .ok (.aload_n 2, 1) := by decide +kernel
theorem dJx40b00_appendDecimalTo_8d9f2_196 : decode cJx40b00_appendDecimalTo_8d9f2 196 = .ok (.ldc 40, 2) := by decide +kernel
theorem dJx40b00_appendDecimalTo_8d9f2_198 : decode cJx40b00_appendDecimalTo_8d9f2 198 = .ok (.invokeinterface 62 2, 5) := by decide +kernel
theorem dJx40b00_appendDecimalTo_8d9f2_203 : decode cJx40b00_appendDecimalTo_8d9f2 203 = .ok (.areturn, 1) := by decide +kernel
set_option maxRecDepth 20000 in
theorem ggJx40b00_toDecimal_5c35a_Jx40b00_append_d00df : GoodIn wsJx40b00_toDecimal_5c35a wsJx40b00_append_d00df := goodIn_r _ [12, 13, 6, 95, 96] (by decide +kernel) (by decide +kernel)
set_option maxRecDepth 20000 in
theorem gJx40b00_toDecimal_5c35a_Jx40b00_append_d00df : GoodIn wsJx40b00_toDecimal_5c35a (wsV RJx40b00 69 RJx40b00 yJx40b00_append_d00df wsJx40b00_append_d00df) := goodIn_app (goodIn_of _ (by decide +kernel)) ggJx40b00_toDecimal_5c35a_Jx40b00_append_d00df
set_option maxRecDepth 20000 in
theorem ggJx40b00_toDecimal_5c35a_Jx40b00_toChars_7cf53 : GoodIn wsJx40b00_toDecimal_5c35a wsJx40b00_toChars_7cf53 := goodIn_r _ [17, 18, 19, 20, 21, 22, 23, 24, 25, 26, 27, 28, 29, 30, 31, 32, 33, 34, 35, 36, 11, 37, 38, 39, 40, 41, 42, 13, 6, 43, 44, 45, 46, 47, 48, 49, 50, 51, 52, 8, 9, 10, 12, 53, 54, 55, 56, 57, 58, 59, 60, 61, 62, 63, 64, 65, 66, 67, 68, 69, 70, 71, 72, 95, 96] (by decide +kernel) (by decide +kernel)
set_option maxRecDepth 20000 in
theorem gJx40b00_toDecimal_5c35a_Jx40b00_toChars_7cf53 : GoodIn wsJx40b00_toDecimal_5c35a (wsV RJx40b00 73 RJx40b00 yJx40b00_toChars_7cf53 wsJx40b00_toChars_7cf53) := goodIn_app (goodIn_of _ (by decide +kernel)) ggJx40b00_toDecimal_5c35a_Jx40b00_toChars_7cf53
set_option maxRecDepth 20000 in
theorem ggJx40b00_toDecimal_5c35a_Jx40b00_toDecimal_cabcc : GoodIn wsJx40b00_toDecimal_5c35a wsJx40b00_toDecimal_cabcc := goodIn_r _ [76, 77, 7, 78, 25, 26, 27, 28, 29, 79, 80, 81, 82, 83, 84, 85, 86, 87, 88, 89, 90, 91, 92, 11, 93, 94, 48, 49, 50, 51, 52, 14, 15, 16, 17, 18, 19, 20, 21, 22, 23, 24, 30, 31, 32, 33, 34, 35, 36, 37, 38, 39, 40, 41, 42, 13, 6, 43, 44, 45, 46, 47, 8, 9, 10, 12, 53, 54, 55, 56, 57, 58, 59, 60, 61, 62, 63, 64, 65, 66, 67, 68, 69, 70, 71, 72, 95, 96] (by decide +kernel) (by decide +kernel)
set_option maxRecDepth 20000 in
theorem gJx40b00_toDecimal_5c35a_Jx40b00_toDecimal_cabcc : GoodIn wsJx40b00_toDecimal_5c35a (wsV RJx40b00 77 RJx40b00 yJx40b00_toDecimal_cabcc wsJx40b00_toDecimal_cabcc) := goodIn_app (goodIn_of _ (by decide +kernel)) ggJx40b00_toDecimal_5c35a_Jx40b00_toDecimal_cabcc
theorem dJx40b00_toDecimal_5c35a_0 : decode cJx40b00_toDecimal_5c35a 0 = .ok (.fload_n 1, 1) := by decide +kernel
theorem dJx40b00_toDecimal_5c35a_1 : decode cJx40b00_toDecimal_5c35a 1 = .ok (.invokestatic 65, 3) := by decide +kernel
theorem dJx40b00_toDecimal_5c35a_4 : decode cJx40b00_toDecimal_5c35a 4 = .ok (.istore_n 2, 1) := by decide +kernel
theorem dJx40b00_toDecimal_5c35a_5 : decode cJx40b00_toDecimal_5c35a 5 = .ok (.iload_n 2, 1) := by decide +kernel
theorem dJx40b00_toDecimal_5c35a_6 : decode cJx40b00_toDecimal_5c35a 6 = .ok (.ldc 68, 2) := by decide +kernel
theorem dJx40b00_toDecimal_5c35a_8 : decode cJx40b00_toDecimal_5c35a 8 = .ok (.iand, 1) := by decide +kernel
theorem dJx40b00_toDecimal_5c35a_9 : decode cJx40b00_toDecimal_5c35a 9 = .ok (.istore_n 3, 1) := by decide +kernel
theorem dJx40b00_toDecimal_5c35a_10 : decode cJx40b00_toDecimal_5c35a 10 = .ok (.iload_n 2, 1) := by decide +kernel
theorem dJx40b00_toDecimal_5c35a_11 : decode cJx40b00_toDecimal_5c35a 11 = .ok (.bipush 23, 2) := by decide +kernel
theorem dJx40b00_toDecimal_5c35a_13 : decode cJx40b00_toDecimal_5c35a 13 = .ok (.iushr, 1) := by decide +kernel
theorem dJx40b00_toDecimal_5c35a_14 : decode cJx40b00_toDecimal_5c35a 14 = .ok (.sipush 255, 3) := by decide +kernel
theorem dJx40b00_toDecimal_5c35a_17 : decode cJx40b00_toDecimal_5c35a 17 = .ok (.iand, 1) := by decide +kernel
theorem dJx40b00_toDecimal_5c35a_18 : decode cJx40b00_toDecimal_5c35a 18 = .ok (.istore 4, 2) := by decide +kernel
theorem dJx40b00_toDecimal_5c35a_20 : decode cJx40b00_toDecimal_5c35a 20 = .ok (.iload 4, 2) := by decide +kernel
theorem dJx40b00_toDecimal_5c35a_22 : decode cJx40b00_toDecimal_5c35a 22 = .ok (.sipush 255, 3) := by decide +kernel
theorem dJx40b00_toDecimal_5c35a_25 : decode cJx40b00_toDecimal_5c35a 25 = .ok (.if_icmp .ge 145, 3) := by decide +kernel
theorem dJx40b00_toDecimal_5c35a_28 : decode cJx40b00_toDecimal_5c35a 28 = .ok (.aload_n 0, 1) := by decide +kernel
theorem dJx40b00_toDecimal_5c35a_29 : decode cJx40b00_toDecimal_5c35a 29 = .ok (.iconst (-1), 1) := by decide +kernel
theorem dJx40b00_toDecimal_5c35a_30 : decode cJx40b00_toDecimal_5c35a 30 = .ok (.putfield 42, 3) := by decide +kernel
theorem dJx40b00_toDecimal_5c35a_33 : decode cJx40b00_toDecimal_5c35a 33 = .ok (.iload_n 2, 1) := by decide +kernel
theorem dJx40b00_toDecimal_5c35a_34 : decode cJx40b00_toDecimal_5c35a 34 = .ok (.ifCond .ge 9, 3) := by decide +kernel
theorem dJx40b00_toDecimal_5c35a_37 : decode cJx40b00_toDecimal_5c35a 37 = .ok (.aload_n 0, 1) := by decide +kernel
theorem dJx40b00_toDecimal_5c35a_38 : decode cJx40b00_toDecimal_5c35a 38 = .ok (.bipush 45, 2) := by decide +kernel
theorem dJx40b00_toDecimal_5c35a_40 : decode cJx40b00_toDecimal_5c35a 40 = .ok (.invokevirtual 69, 3) := by decide +kernel
theorem dJx40b00_toDecimal_5c35a_43 : decode cJx40b00_toDecimal_5c35a 43 = .ok (.iload 4, 2) := by decide +kernel
theorem dJx40b00_toDecimal_5c35a_45 : decode cJx40b00_toDecimal_5c35a 45 = .ok (.ifCond .eq 80, 3) := by decide +kernel
theorem dJx40b00_toDecimal_5c35a_48 : decode cJx40b00_toDecimal_5c35a 48 = .ok (.sipush 150, 3) := by decide +kernel
theorem dJx40b00_toDecimal_5c35a_51 : decode cJx40b00_toDecimal_5c35a 51 = .ok (.iload 4, 2) := by decide +kernel
theorem dJx40b00_toDecimal_5c35a_53 : decode cJx40b00_toDecimal_5c35a 53 = .ok (.isub, 1) := by decide +kernel
theorem dJx40b00_toDecimal_5c35a_54 : decode cJx40b00_toDecimal_5c35a 54 = .ok (.istore 5, 2) := by decide +kernel
theorem dJx40b00_toDecimal_5c35a_56 : decode cJx40b00_toDecimal_5c35a 56 = .ok (.ldc 72, 2) := by decide +kernel
theorem dJx40b00_toDecimal_5c35a_58 : decode cJx40b00_toDecimal_5c35a 58 = .ok (.iload_n 3, 1) := by decide +kernel
theorem dJx40b00_toDecimal_5c35a_59 : decode cJx40b00_toDecimal_5c35a 59 = .ok (.ior, 1) := by decide +kernel
theorem dJx40b00_toDecimal_5c35a_60 : decode cJx40b00_toDecimal_5c35a 60 = .ok (.istore 6, 2) := by decide +kernel
theorem dJx40b00_toDecimal_5c35a_62 : decode cJx40b00_toDecimal_5c35a 62 = .ok (.iconst 0, 1) := by decide +kernel
theorem dJx40b00_toDecimal_5c35a_63 : decode cJx40b00_toDecimal_5c35a 63 = .ok (.iload 5, 2) := by decide +kernel
theorem dJx40b00_toDecimal_5c35a_65 : decode cJx40b00_toDecimal_5c35a 65 = .ok (.if_icmp .ge 7, 3) := by decide +kernel
theorem dJx40b00_toDecimal_5c35a_68 : decode cJx40b00_toDecimal_5c35a 68 = .ok (.iconst 1, 1) := by decide +kernel
theorem dJx40b00_toDecimal_5c35a_69 : decode cJx40b00_toDecimal_5c35a 69 = .ok (.goto 4, 3) := by decide +kernel
theorem dJx40b00_toDecimal_5c35a_72 : decode cJx40b00_toDecimal_5c35a 72 = .ok (.iconst 0, 1) := by decide +kernel
theorem dJx40b00_toDecimal_5c35a_73 : decode cJx40b00_toDecimal_5c35a 73 = .ok (.iload 5, 2) := by decide +kernel
theorem dJx40b00_toDecimal_5c35a_75 : decode cJx40b00_toDecimal_5c35a 75 = .ok (.bipush 24, 2) := by decide +kernel
theorem dJx40b00_toDecimal_5c35a_77 : decode cJx40b00_toDecimal_5c35a 77 = .ok (.if_icmp .ge 7, 3) := by decide +kernel
theorem dJx40b00_toDecimal_5c35a_80 : decode cJx40b00_toDecimal_5c35a 80 = .ok (.iconst 1, 1) := by decide +kernel
theorem dJx40b00_toDecimal_5c35a_81 : decode cJx40b00_toDecimal_5c35a 81 = .ok (.goto 4, 3) := by decide +kernel
theorem dJx40b00_toDecimal_5c35a_84 : decode cJx40b00_toDecimal_5c35a 84 = .ok (.iconst 0, 1) := by decide +kernel
theorem dJx40b00_toDecimal_5c35a_85 : decode cJx40b00_toDecimal_5c35a 85 = .ok (.iand, 1) := by decide +kernel
theorem dJx40b00_toDecimal_5c35a_86 : decode cJx40b00_toDecimal_5c35a 86 = .ok (.ifCond .eq 28, 3) := by decide +kernel
theorem dJx40b00_toDecimal_5c35a_89 : decode cJx40b00_toDecimal_5c35a 89 = .ok (.iload 6, 2) := by decide +kernel
theorem dJx40b00_toDecimal_5c35a_91 : decode cJx40b00_toDecimal_5c35a 91 = .ok (.iload 5, 2) := by decide +kernel
theorem dJx40b00_toDecimal_5c35a_93 : decode cJx40b00_toDecimal_5c35a 93 = .ok (.ishr, 1) := by decide +kernel
theorem dJx40b00_toDecimal_5c35a_94 : decode cJx40b00_toDecimal_5c35a 94 = .ok (.istore 7, 2) := by decide +kernel
theorem dJx40b00_toDecimal_5c35a_96 : decode cJx40b00_toDecimal_5c35a 96 = .ok (.iload 7, 2) := by decide +kernel
theorem dJx40b00_toDecimal_5c35a_98 : decode cJx40b00_toDecimal_5c35a 98 = .ok (.iload 5, 2) := by decide +kernel
theorem dJx40b00_toDecimal_5c35a_100 : decode cJx40b00_toDecimal_5c35a 100 = .ok (.ishl, 1) := by decide +kernel
theorem dJx40b00_toDecimal_5c35a_101 : decode cJx40b00_toDecimal_5c35a 101 = .ok (.iload 6, 2) := by decide +kernel
theorem dJx40b00_toDecimal_5c35a_103 : decode cJx40b00_toDecimal_5c35a 103 = .ok (.if_icmp .ne 11, 3) := by decide +kernel
theorem dJx40b00_toDecimal_5c35a_106 : decode cJx40b00_toDecimal_5c35a 106 = .ok (.aload_n 0, 1) := by decide +kernel
theorem dJx40b00_toDecimal_5c35a_107 : decode cJx40b00_toDecimal_5c35a 107 = .ok (.iload 7, 2) := by decide +kernel
theorem dJx40b00_toDecimal_5c35a_109 : decode cJx40b00_toDecimal_5c35a 109 = .ok (.iconst 0, 1) := by decide +kernel
theorem dJx40b00_toDecimal_5c35a_110 : decode cJx40b00_toDecimal_5c35a 110 = .ok (.invokevirtual 73, 3) := by decide +kernel
theorem dJx40b00_toDecimal_5c35a_113 : decode cJx40b00_toDecimal_5c35a 113 = .ok (.ireturn, 1) := by decide +kernel
theorem dJx40b00_toDecimal_5c35a_114 : decode cJx40b00_toDecimal_5c35a 114 = .ok (.aload_n 0, 1) := by decide +kernel
theorem dJx40b00_toDecimal_5c35a_115 : decode cJx40b00_toDecimal_5c35a 115 = .ok (.iload 5, 2) := by decide +kernel
theorem dJx40b00_toDecimal_5c35a_117 : decode cJx40b00_toDecimal_5c35a 117 = .ok (.ineg, 1) := by decide +kernel
theorem dJx40b00_toDecimal_5c35a_118 : decode cJx40b00_toDecimal_5c35a 118 = .ok (.iload 6, 2) := by decide +kernel
theorem dJx40b00_toDecimal_5c35a_120 : decode cJx40b00_toDecimal_5c35a 120 = .ok (.iconst 0, 1) := by decide +kernel
theorem dJx40b00_toDecimal_5c35a_121 : decode cJx40b00_toDecimal_5c35a 121 = .ok (.invokevirtual 77, 3) := by decide +kernel
theorem dJx40b00_toDecimal_5c35a_124 : decode cJx40b00_toDecimal_5c35a 124 = .ok (.ireturn, 1) := by decide +kernel
theorem dJx40b00_toDecimal_5c35a_125 : decode cJx40b00_toDecimal_5c35a 125 = .ok (.iload_n 3, 1) := by decide +kernel
theorem dJx40b00_toDecimal_5c35a_126 : decode cJx40b00_toDecimal_5c35a 126 = .ok (.ifCond .eq 34, 3) := by decide +kernel
theorem dJx40b00_toDecimal_5c35a_129 : decode cJx40b00_toDecimal_5c35a 129 = .ok (.iload_n 3, 1) := by decide +kernel
theorem dJx40b00_toDecimal_5c35a_130 : decode cJx40b00_toDecimal_5c35a 130 = .ok (.bipush 8, 2) := by decide +kernel
theorem dJx40b00_toDecimal_5c35a_132 : decode cJx40b00_toDecimal_5c35a 132 = .ok (.if_icmp .ge 18, 3) := by decide +kernel
theorem dJx40b00_toDecimal_5c35a_135 : decode cJx40b00_toDecimal_5c35a 135 = .ok (.aload_n 0, 1) := by decide +kernel
theorem dJx40b00_toDecimal_5c35a_136 : decode cJx40b00_toDecimal_5c35a 136 = .ok (.sipush (-149), 3) := by decide +kernel
theorem dJx40b00_toDecimal_5c35a_139 : decode cJx40b00_toDecimal_5c35a 139 = .ok (.bipush 10, 2) := by decide +kernel
theorem dJx40b00_toDecimal_5c35a_141 : decode cJx40b00_toDecimal_5c35a 141 = .ok (.iload_n 3, 1) := by decide +kernel
theorem dJx40b00_toDecimal_5c35a_142 : decode cJx40b00_toDecimal_5c35a 142 = .ok (.imul, 1) := by decide +kernel
theorem dJx40b00_toDecimal_5c35a_143 : decode cJx40b00_toDecimal_5c35a 143 = .ok (.iconst (-1), 1) := by decide +kernel
theorem dJx40b00_toDecimal_5c35a_144 : decode cJx40b00_toDecimal_5c35a 144 = .ok (.invokevirtual 77, 3) := by decide +kernel
theorem dJx40b00_toDecimal_5c35a_147 : decode cJx40b00_toDecimal_5c35a 147 = .ok (.goto 12, 3) := by decide +kernel
theorem dJx40b00_toDecimal_5c35a_150 : decode cJx40b00_toDecimal_5c35a 150 = .ok (.aload_n 0, 1) := by decide +kernel
theorem dJx40b00_toDecimal_5c35a_151 : decode cJx40b00_toDecimal_5c35a 151 = .ok (.sipush (-149), 3) := by decide +kernel
theorem dJx40b00_toDecimal_5c35a_154 : decode cJx40b00_toDecimal_5c35a 154 = .ok (.iload_n 3, 1) := by decide +kernel
theorem dJx40b00_toDecimal_5c35a_155 : decode cJx40b00_toDecimal_5c35a 155 = .ok (.iconst 0, 1) := by decide +kernel
theorem dJx40b00_toDecimal_5c35a_156 : decode cJx40b00_toDecimal_5c35a 156 = .ok (.invokevirtual 77, 3) := by decide +kernel
theorem dJx40b00_toDecimal_5c35a_159 : decode cJx40b00_toDecimal_5c35a 159 = .ok (.ireturn, 1) := by decide +kernel
theorem dJx40b00_toDecimal_5c35a_160 : decode cJx40b00_toDecimal_5c35a 160 = .ok (.iload_n 2, 1) := by decide +kernel
theorem dJx40b00_toDecimal_5c35a_161 : decode cJx40b00_toDecimal_5c35a 161 = .ok (.ifCond .ne 7, 3) := by decide +kernel
theorem dJx40b00_toDecimal_5c35a_164 : decode cJx40b00_toDecimal_5c35a 164 = .ok (.iconst 1, 1) := by decide +kernel
theorem dJx40b00_toDecimal_5c35a_165 : decode cJx40b00_toDecimal_5c35a 165 = .ok (.goto 4, 3) := by decide +kernel
theorem dJx40b00_toDecimal_5c35a_168 : decode cJx40b00_toDecimal_5c35a 168 = .ok (.iconst 2, 1) := by decide +kernel
theorem dJx40b00_toDecimal_5c35a_169 : decode cJx40b00_toDecimal_5c35a 169 = .ok (.ireturn, 1) := by decide +kernel
theorem dJx40b00_toDecimal_5c35a_170 : decode cJx40b00_toDecimal_5c35a 170 = .ok (.iload_n 3, 1) := by decide +kernel
theorem dJx40b00_toDecimal_5c35a_171 : decode cJx40b00_toDecimal_5c35a 171 = .ok (.ifCond .eq 5, 3) := by decide +kernel
theorem dJx40b00_toDecimal_5c35a_174 : decode cJx40b00_toDecimal_5c35a 174 = .ok (.iconst 5, 1) := by decide +kernel
theorem dJx40b00_toDecimal_5c35a_175 : decode cJx40b00_toDecimal_5c35a 175 = .ok (.ireturn, 1) := by decide +kernel
theorem dJx40b00_toDecimal_5c35a_176 : decode cJx40b00_toDecimal_5c35a 176 = .ok (.iload_n 2, 1) := by decide +kernel
theorem dJx40b00_toDecimal_5c35a_177 : decode cJx40b00_toDecimal_5c35a 177 = .ok (.ifCond .le 7, 3) := by decide +kernel
theorem dJx40b00_toDecimal_5c35a_180 : decode cJx40b00_toDecimal_5c35a 180 = .ok (.iconst 3, 1) := by decide +kernel
theorem dJx40b00_toDecimal_5c35a_181 : decode cJx40b00_toDecimal_5c35a 181 = .ok (.goto 4, 3) := by decide +kernel
theorem dJx40b00_toDecimal_5c35a_184 : decode cJx40b00_toDecimal_5c35a 184 = .ok (.iconst 4, 1) := by decide +kernel
theorem dJx40b00_toDecimal_5c35a_185 : decode cJx40b00_toDecimal_5c35a 185 = .ok (.ireturn, 1) := by decide +kernel
set_option maxRecDepth 20000 in
theorem ggJx40b00_toDecimal_cabcc_Jx25f51_flog10pow2_0f7a4 : GoodIn wsJx40b00_toDecimal_cabcc wsJx25f51_flog10pow2_0f7a4 := goodIn_r _ [7, 8] (by decide +kernel) (by decide +kernel)
set_option maxRecDepth 20000 in
theorem gJx40b00_toDecimal_cabcc_Jx25f51_flog10pow2_0f7a4 : GoodIn wsJx40b00_toDecimal_cabcc (va_wsS RJx40b00 82 yJx25f51_flog10pow2_0f7a4 wsJx25f51_flog10pow2_0f7a4) := goodIn_app (goodIn_of _ (by decide +kernel)) ggJx40b00_toDecimal_cabcc_Jx25f51_flog10pow2_0f7a4
set_option maxRecDepth 20000 in
theorem ggJx40b00_toDecimal_cabcc_Jx25f51_flog10threeQuartersPow2_0f7a4 : GoodIn wsJx40b00_toDecimal_cabcc wsJx25f51_flog10threeQuartersPow2_0f7a4 := goodIn_r _ [11, 8, 12] (by decide +kernel) (by decide +kernel)
set_option maxRecDepth 20000 in
theorem gJx40b00_toDecimal_cabcc_Jx25f51_flog10threeQuartersPow2_0f7a4 : GoodIn wsJx40b00_toDecimal_cabcc (va_wsS RJx40b00 88 yJx25f51_flog10threeQuartersPow2_0f7a4 wsJx25f51_flog10threeQuartersPow2_0f7a4) := goodIn_app (goodIn_of _ (by decide +kernel)) ggJx40b00_toDecimal_cabcc_Jx25f51_flog10threeQuartersPow2_0f7a4
set_option maxRecDepth 20000 in
theorem ggJx40b00_toDecimal_cabcc_Jx25f51_flog2pow10_0f7a4 : GoodIn wsJx40b00_toDecimal_cabcc wsJx25f51_flog2pow10_0f7a4 := goodIn_r _ [15, 16] (by decide +kernel) (by decide +kernel)
set_option maxRecDepth 20000 in
theorem gJx40b00_toDecimal_cabcc_Jx25f51_flog2pow10_0f7a4 : GoodIn wsJx40b00_toDecimal_cabcc (va_wsS RJx40b00 91 yJx25f51_flog2pow10_0f7a4 wsJx25f51_flog2pow10_0f7a4) := goodIn_app (goodIn_of _ (by decide +kernel)) ggJx40b00_toDecimal_cabcc_Jx25f51_flog2pow10_0f7a4
set_option maxRecDepth 20000 in
theorem ggJx40b00_toDecimal_cabcc_Jx25f51_g1_3e8ac : GoodIn wsJx40b00_toDecimal_cabcc wsJx25f51_g1_3e8ac := goodIn_r _ [19, 20] (by decide +kernel) (by decide +kernel)
set_option maxRecDepth 20000 in
theorem gJx40b00_toDecimal_cabcc_Jx25f51_g1_3e8ac : GoodIn wsJx40b00_toDecimal_cabcc (va_wsS RJx40b00 94 yJx25f51_g1_3e8ac wsJx25f51_g1_3e8ac) := goodIn_app (goodIn_of _ (by decide +kernel)) ggJx40b00_toDecimal_cabcc_Jx25f51_g1_3e8ac
set_option maxRecDepth 20000 in
theorem ggJx40b00_toDecimal_cabcc_Jx40b00_rop_74951 : GoodIn wsJx40b00_toDecimal_cabcc wsJx40b00_rop_74951 := goodIn_r _ [24, 25, 26, 27, 28, 29, 30] (by decide +kernel) (by decide +kernel)
set_option maxRecDepth 20000 in
theorem gJx40b00_toDecimal_cabcc_Jx40b00_rop_74951 : GoodIn wsJx40b00_toDecimal_cabcc (va_wsS RJx40b00 98 yJx40b00_rop_74951 wsJx40b00_rop_74951) := goodIn_app (goodIn_of _ (by decide +kernel)) ggJx40b00_toDecimal_cabcc_Jx40b00_rop_74951
set_option maxRecDepth 20000 in
theorem ggJx40b00_toDecimal_cabcc_Jx40b00_toChars_7cf53 : GoodIn wsJx40b00_toDecimal_cabcc wsJx40b00_toChars_7cf53 := goodIn_r _ [34, 35, 36, 37, 38, 39, 40, 41, 4, 5, 6, 7, 8, 42, 43, 44, 45, 46, 47, 48, 23, 49, 50, 51, 52, 53, 54, 55, 56, 57, 58, 59, 60, 61, 26, 27, 28, 29, 30, 62, 63, 64, 65, 66, 67, 68, 69, 70, 71, 72, 73, 74, 75, 76, 77, 78, 79, 80, 81, 82, 83, 84, 85, 86, 87] (by decide +kernel) (by decide +kernel)
set_option maxRecDepth 20000 in
theorem gJx40b00_toDecimal_cabcc_Jx40b00_toChars_7cf53 : GoodIn wsJx40b00_toDecimal_cabcc (wsV RJx40b00 73 RJx40b00 yJx40b00_toChars_7cf53 wsJx40b00_toChars_7cf53) := goodIn_app (goodIn_of _ (by decide +kernel)) ggJx40b00_toDecimal_cabcc_Jx40b00_toChars_7cf53
theorem dJx40b00_toDecimal_cabcc_0 : decode cJx40b00_toDecimal_cabcc 0 = .ok (.iload_n 2, 1) := by decide +kernel
theorem dJx40b00_toDecimal_cabcc_1 : decode cJx40b00_toDecimal_cabcc 1 = .ok (.iconst 1, 1) := by decide +kernel
theorem dJx40b00_toDecimal_cabcc_2 : decode cJx40b00_toDecimal_cabcc 2 = .ok (.iand, 1) := by decide +kernel
theorem dJx40b00_toDecimal_cabcc_3 : decode cJx40b00_toDecimal_cabcc 3 = .ok (.istore 4, 2) := by decide +kernel
theorem dJx40b00_toDecimal_cabcc_5 : decode cJx40b00_toDecimal_cabcc 5 = .ok (.iload_n 2, 1) := by decide +kernel
theorem dJx40b00_toDecimal_cabcc_6 : decode cJx40b00_toDecimal_cabcc 6 = .ok (.iconst 2, 1) := by decide +kernel
theorem dJx40b00_toDecimal_cabcc_7 : decode cJx40b00_toDecimal_cabcc 7 = .ok (.ishl, 1) := by decide +kernel
theorem dJx40b00_toDecimal_cabcc_8 : decode cJx40b00_toDecimal_cabcc 8 = .ok (.i2l, 1) := by decide +kernel
theorem dJx40b00_toDecimal_cabcc_9 : decode cJx40b00_toDecimal_cabcc 9 = .ok (.lstore 5, 2) := by decide +kernel
theorem dJx40b00_toDecimal_cabcc_11 : decode cJx40b00_toDecimal_cabcc 11 = .ok (.lload 5, 2) := by decide +kernel
theorem dJx40b00_toDecimal_cabcc_13 : decode cJx40b00_toDecimal_cabcc 13 = .ok (.ldc2_w 80, 3) := by decide +kernel
theorem dJx40b00_toDecimal_cabcc_16 : decode cJx40b00_toDecimal_cabcc 16 = .ok (.ladd, 1) := by decide +kernel
theorem dJx40b00_toDecimal_cabcc_17 : decode cJx40b00_toDecimal_cabcc 17 = .ok (.lstore 7, 2) := by decide +kernel
theorem dJx40b00_toDecimal_cabcc_19 : decode cJx40b00_toDecimal_cabcc 19 = .ok (.iload_n 2, 1) := by decide +kernel
theorem dJx40b00_toDecimal_cabcc_20 : decode cJx40b00_toDecimal_cabcc 20 = .ok (.ldc 72, 2) := by decide +kernel
theorem dJx40b00_toDecimal_cabcc_22 : decode cJx40b00_toDecimal_cabcc 22 = .ok (.if_icmp .eq 7, 3) := by decide +kernel
theorem dJx40b00_toDecimal_cabcc_25 : decode cJx40b00_toDecimal_cabcc 25 = .ok (.iconst 1, 1) := by decide +kernel
theorem dJx40b00_toDecimal_cabcc_26 : decode cJx40b00_toDecimal_cabcc 26 = .ok (.goto 4, 3) := by decide +kernel
theorem dJx40b00_toDecimal_cabcc_29 : decode cJx40b00_toDecimal_cabcc 29 = .ok (.iconst 0, 1) := by decide +kernel
theorem dJx40b00_toDecimal_cabcc_30 : decode cJx40b00_toDecimal_cabcc 30 = .ok (.iload_n 1, 1) := by decide +kernel
theorem dJx40b00_toDecimal_cabcc_31 : decode cJx40b00_toDecimal_cabcc 31 = .ok (.sipush (-149), 3) := by decide +kernel
theorem dJx40b00_toDecimal_cabcc_34 : decode cJx40b00_toDecimal_cabcc 34 = .ok (.if_icmp .ne 7, 3) := by decide +kernel
theorem dJx40b00_toDecimal_cabcc_37 : decode cJx40b00_toDecimal_cabcc 37 = .ok (.iconst 1, 1) := by decide +kernel
theorem dJx40b00_toDecimal_cabcc_38 : decode cJx40b00_toDecimal_cabcc 38 = .ok (.goto 4, 3) := by decide +kernel
theorem dJx40b00_toDecimal_cabcc_41 : decode cJx40b00_toDecimal_cabcc 41 = .ok (.iconst 0, 1) := by decide +kernel
theorem dJx40b00_toDecimal_cabcc_42 : decode cJx40b00_toDecimal_cabcc 42 = .ok (.ior, 1) := by decide +kernel
theorem dJx40b00_toDecimal_cabcc_43 : decode cJx40b00_toDecimal_cabcc 43 = .ok (.ifCond .eq 20, 3) := by decide +kernel
theorem dJx40b00_toDecimal_cabcc_46 : decode cJx40b00_toDecimal_cabcc 46 = .ok (.lload 5, 2) := by decide +kernel
theorem dJx40b00_toDecimal_cabcc_48 : decode cJx40b00_toDecimal_cabcc 48 = .ok (.ldc2_w 80, 3) := by decide +kernel
theorem dJx40b00_toDecimal_cabcc_51 : decode cJx40b00_toDecimal_cabcc 51 = .ok (.lsub, 1) := by decide +kernel
theorem dJx40b00_toDecimal_cabcc_52 : decode cJx40b00_toDecimal_cabcc 52 = .ok (.lstore 9, 2) := by decide +kernel
theorem dJx40b00_toDecimal_cabcc_54 : decode cJx40b00_toDecimal_cabcc 54 = .ok (.iload_n 1, 1) := by decide +kernel
theorem dJx40b00_toDecimal_cabcc_55 : decode cJx40b00_toDecimal_cabcc 55 = .ok (.invokestatic 82, 3) := by decide +kernel
theorem dJx40b00_toDecimal_cabcc_58 : decode cJx40b00_toDecimal_cabcc 58 = .ok (.istore 11, 2) := by decide +kernel
theorem dJx40b00_toDecimal_cabcc_60 : decode cJx40b00_toDecimal_cabcc 60 = .ok (.goto 15, 3) := by decide +kernel
theorem dJx40b00_toDecimal_cabcc_63 : decode cJx40b00_toDecimal_cabcc 63 = .ok (.lload 5, 2) := by decide +kernel
theorem dJx40b00_toDecimal_cabcc_65 : decode cJx40b00_toDecimal_cabcc 65 = .ok (.lconst 1, 1) := by decide +kernel
theorem dJx40b00_toDecimal_cabcc_66 : decode cJx40b00_toDecimal_cabcc 66 = .ok (.lsub, 1) := by decide +kernel
theorem dJx40b00_toDecimal_cabcc_67 : decode cJx40b00_toDecimal_cabcc 67 = .ok (.lstore 9, 2) := by decide +kernel
theorem dJx40b00_toDecimal_cabcc_69 : decode cJx40b00_toDecimal_cabcc 69 = .ok (.iload_n 1, 1) := by decide +kernel
theorem dJx40b00_toDecimal_cabcc_70 : decode cJx40b00_toDecimal_cabcc 70 = .ok (.invokestatic 88, 3) := by decide +kernel
theorem dJx40b00_toDecimal_cabcc_73 : decode cJx40b00_toDecimal_cabcc 73 = .ok (.istore 11, 2) := by decide +kernel
theorem dJx40b00_toDecimal_cabcc_75 : decode cJx40b00_toDecimal_cabcc 75 = .ok (.iload_n 1, 1) := by decide +kernel
theorem dJx40b00_toDecimal_cabcc_76 : decode cJx40b00_toDecimal_cabcc 76 = .ok (.iload 11, 2) := by decide +kernel
theorem dJx40b00_toDecimal_cabcc_78 : decode cJx40b00_toDecimal_cabcc 78 = .ok (.ineg, 1) := by decide +kernel
theorem dJx40b00_toDecimal_cabcc_79 : decode cJx40b00_toDecimal_cabcc 79 = .ok (.invokestatic 91, 3) := by decide +kernel
theorem dJx40b00_toDecimal_cabcc_82 : decode cJx40b00_toDecimal_cabcc 82 = .ok (.iadd, 1) := by decide +kernel
theorem dJx40b00_toDecimal_cabcc_83 : decode cJx40b00_toDecimal_cabcc 83 = .ok (.bipush 33, 2) := by decide +kernel
theorem dJx40b00_toDecimal_cabcc_85 : decode cJx40b00_toDecimal_cabcc 85 = .ok (.iadd, 1) := by decide +kernel
theorem dJx40b00_toDecimal_cabcc_86 : decode cJx40b00_toDecimal_cabcc 86 = .ok (.istore 12, 2) := by decide +kernel
theorem dJx40b00_toDecimal_cabcc_88 : decode cJx40b00_toDecimal_cabcc 88 = .ok (.iload 11, 2) := by decide +kernel
theorem dJx40b00_toDecimal_cabcc_90 : decode cJx40b00_toDecimal_cabcc 90 = .ok (.invokestatic 94, 3) := by decide +kernel
theorem dJx40b00_toDecimal_cabcc_93 : decode cJx40b00_toDecimal_cabcc 93 = .ok (.lconst 1, 1) := by decide +kernel
theorem dJx40b00_toDecimal_cabcc_94 : decode cJx40b00_toDecimal_cabcc 94 = .ok (.ladd, 1) := by decide +kernel
theorem dJx40b00_toDecimal_cabcc_95 : decode cJx40b00_toDecimal_cabcc 95 = .ok (.lstore 13, 2) := by decide +kernel
theorem dJx40b00_toDecimal_cabcc_97 : decode cJx40b00_toDecimal_cabcc 97 = .ok (.lload 13, 2) := by decide +kernel
theorem dJx40b00_toDecimal_cabcc_99 : decode cJx40b00_toDecimal_cabcc 99 = .ok (.lload 5, 2) := by decide +kernel
theorem dJx40b00_toDecimal_cabcc_101 : decode cJx40b00_toDecimal_cabcc 101 = .ok (.iload 12, 2) := by decide +kernel
theorem dJx40b00_toDecimal_cabcc_103 : decode cJx40b00_toDecimal_cabcc 103 = .ok (.lshl, 1) := by decide +kernel
theorem dJx40b00_toDecimal_cabcc_104 : decode cJx40b00_toDecimal_cabcc 104 = .ok (.invokestatic 98, 3) := by decide +kernel
theorem dJx40b00_toDecimal_cabcc_107 : decode cJx40b00_toDecimal_cabcc 107 = .ok (.istore 15, 2) := by decide +kernel
theorem dJx40b00_toDecimal_cabcc_109 : decode cJx40b00_toDecimal_cabcc 109 = .ok (.lload 13, 2) := by decide +kernel
theorem dJx40b00_toDecimal_cabcc_111 : decode cJx40b00_toDecimal_cabcc 111 = .ok (.lload 9, 2) := by decide +kernel
theorem dJx40b00_toDecimal_cabcc_113 : decode cJx40b00_toDecimal_cabcc 113 = .ok (.iload 12, 2) := by decide +kernel
theorem dJx40b00_toDecimal_cabcc_115 : decode cJx40b00_toDecimal_cabcc 115 = .ok (.lshl, 1) := by decide +kernel
theorem dJx40b00_toDecimal_cabcc_116 : decode cJx40b00_toDecimal_cabcc 116 = .ok (.invokestatic 98, 3) := by decide +kernel
theorem dJx40b00_toDecimal_cabcc_119 : decode cJx40b00_toDecimal_cabcc 119 = .ok (.istore 16, 2) := by decide +kernel
theorem dJx40b00_toDecimal_cabcc_121 : decode cJx40b00_toDecimal_cabcc 121 = .ok (.lload 13, 2) := by decide +kernel
theorem dJx40b00_toDecimal_cabcc_123 : decode cJx40b00_toDecimal_cabcc 123 = .ok (.lload 7, 2) := by decide +kernel
theorem dJx40b00_toDecimal_cabcc_125 : decode cJx40b00_toDecimal_cabcc 125 = .ok (.iload 12, 2) := by decide +kernel
theorem dJx40b00_toDecimal_cabcc_127 : decode cJx40b00_toDecimal_cabcc 127 = .ok (.lshl, 1) := by decide +kernel
theorem dJx40b00_toDecimal_cabcc_128 : decode cJx40b00_toDecimal_cabcc 128 = .ok (.invokestatic 98, 3) := by decide +kernel
theorem dJx40b00_toDecimal_cabcc_131 : decode cJx40b00_toDecimal_cabcc 131 = .ok (.istore 17, 2) := by decide +kernel
theorem dJx40b00_toDecimal_cabcc_133 : decode cJx40b00_toDecimal_cabcc 133 = .ok (.iload 15, 2) := by decide +kernel
theorem dJx40b00_toDecimal_cabcc_135 : decode cJx40b00_toDecimal_cabcc 135 = .ok (.iconst 2, 1) := by decide +kernel
theorem dJx40b00_toDecimal_cabcc_136 : decode cJx40b00_toDecimal_cabcc 136 = .ok (.ishr, 1) := by decide +kernel
theorem dJx40b00_toDecimal_cabcc_137 : decode cJx40b00_toDecimal_cabcc 137 = .ok (.istore 18, 2) := by decide +kernel
theorem dJx40b00_toDecimal_cabcc_139 : decode cJx40b00_toDecimal_cabcc 139 = .ok (.iload 18, 2) := by decide +kernel
theorem dJx40b00_toDecimal_cabcc_141 : decode cJx40b00_toDecimal_cabcc 141 = .ok (.bipush 100, 2) := by decide +kernel
theorem dJx40b00_toDecimal_cabcc_143 : decode cJx40b00_toDecimal_cabcc 143 = .ok (.if_icmp .lt 90, 3) := by decide +kernel
theorem dJx40b00_toDecimal_cabcc_146 : decode cJx40b00_toDecimal_cabcc 146 = .ok (.bipush 10, 2) := by decide +kernel
theorem dJx40b00_toDecimal_cabcc_148 : decode cJx40b00_toDecimal_cabcc 148 = .ok (.iload 18, 2) := by decide +kernel
theorem dJx40b00_toDecimal_cabcc_150 : decode cJx40b00_toDecimal_cabcc 150 = .ok (.i2l, 1) := by decide +kernel
theorem dJx40b00_toDecimal_cabcc_151 : decode cJx40b00_toDecimal_cabcc 151 = .ok (.ldc2_w 102, 3) := by decide +kernel
theorem dJx40b00_toDecimal_cabcc_154 : decode cJx40b00_toDecimal_cabcc 154 = .ok (.lmul, 1) := by decide +kernel
theorem dJx40b00_toDecimal_cabcc_155 : decode cJx40b00_toDecimal_cabcc 155 = .ok (.bipush 34, 2) := by decide +kernel
theorem dJx40b00_toDecimal_cabcc_157 : decode cJx40b00_toDecimal_cabcc 157 = .ok (.lushr, 1) := by decide +kernel
theorem dJx40b00_toDecimal_cabcc_158 : decode cJx40b00_toDecimal_cabcc 158 = .ok (.l2i, 1) := by decide +kernel
theorem dJx40b00_toDecimal_cabcc_159 : decode cJx40b00_toDecimal_cabcc 159 = .ok (.imul, 1) := by decide +kernel
theorem dJx40b00_toDecimal_cabcc_160 : decode cJx40b00_toDecimal_cabcc 160 = .ok (.istore 19, 2) := by decide +kernel
theorem dJx40b00_toDecimal_cabcc_162 : decode cJx40b00_toDecimal_cabcc 162 = .ok (.iload 19, 2) := by decide +kernel
theorem dJx40b00_toDecimal_cabcc_164 : decode cJx40b00_toDecimal_cabcc 164 = .ok (.bipush 10, 2) := by decide +kernel
theorem dJx40b00_toDecimal_cabcc_166 : decode cJx40b00_toDecimal_cabcc 166 = .ok (.iadd, 1) := by decide +kernel
theorem dJx40b00_toDecimal_cabcc_167 : decode cJx40b00_toDecimal_cabcc 167 = .ok (.istore 20, 2) := by decide +kernel
theorem dJx40b00_toDecimal_cabcc_169 : decode cJx40b00_toDecimal_cabcc 169 = .ok (.iload 16, 2) := by decide +kernel
theorem dJx40b00_toDecimal_cabcc_171 : decode cJx40b00_toDecimal_cabcc 171 = .ok (.iload 4, 2) := by decide +kernel
theorem dJx40b00_toDecimal_cabcc_173 : decode cJx40b00_toDecimal_cabcc 173 = .ok (.iadd, 1) := by decide +kernel
theorem dJx40b00_toDecimal_cabcc_174 : decode cJx40b00_toDecimal_cabcc 174 = .ok (.iload 19, 2) := by decide +kernel
theorem dJx40b00_toDecimal_cabcc_176 : decode cJx40b00_toDecimal_cabcc 176 = .ok (.iconst 2, 1) := by decide +kernel
theorem dJx40b00_toDecimal_cabcc_177 : decode cJx40b00_toDecimal_cabcc 177 = .ok (.ishl, 1) := by decide +kernel
theorem dJx40b00_toDecimal_cabcc_178 : decode cJx40b00_toDecimal_cabcc 178 = .ok (.if_icmp .gt 7, 3) := by decide +kernel
theorem dJx40b00_toDecimal_cabcc_181 : decode cJx40b00_toDecimal_cabcc 181 = .ok (.iconst 1, 1) := by decide +kernel
theorem dJx40b00_toDecimal_cabcc_182 : decode cJx40b00_toDecimal_cabcc 182 = .ok (.goto 4, 3) := by decide +kernel
theorem dJx40b00_toDecimal_cabcc_185 : decode cJx40b00_toDecimal_cabcc 185 = .ok (.iconst 0, 1) := by decide +kernel
theorem dJx40b00_toDecimal_cabcc_186 : decode cJx40b00_toDecimal_cabcc 186 = .ok (.istore 21, 2) := by decide +kernel
theorem dJx40b00_toDecimal_cabcc_188 : decode cJx40b00_toDecimal_cabcc 188 = .ok (.iload 20, 2) := by decide +kernel
theorem dJx40b00_toDecimal_cabcc_190 : decode cJx40b00_toDecimal_cabcc 190 = .ok (.iconst 2, 1) := by decide +kernel
theorem dJx40b00_toDecimal_cabcc_191 : decode cJx40b00_toDecimal_cabcc 191 = .ok (.ishl, 1) := by decide +kernel
theorem dJx40b00_toDecimal_cabcc_192 : decode cJx40b00_toDecimal_cabcc 192 = .ok (.iload 4, 2) := by decide +kernel
theorem dJx40b00_toDecimal_cabcc_194 : decode cJx40b00_toDecimal_cabcc 194 = .ok (.iadd, 1) := by decide +kernel
theorem dJx40b00_toDecimal_cabcc_195 : decode cJx40b00_toDecimal_cabcc 195 = .ok (.iload 17, 2) := by decide +kernel
theorem dJx40b00_toDecimal_cabcc_197 : decode cJx40b00_toDecimal_cabcc 197 = .ok (.if_icmp .gt 7, 3) := by decide +kernel
theorem dJx40b00_toDecimal_cabcc_200 : decode cJx40b00_toDecimal_cabcc 200 = .ok (.iconst 1, 1) := by decide +kernel
theorem dJx40b00_toDecimal_cabcc_201 : decode cJx40b00_toDecimal_cabcc 201 = .ok (.goto 4, 3) := by decide +kernel
theorem dJx40b00_toDecimal_cabcc_204 : decode cJx40b00_toDecimal_cabcc 204 = .ok (.iconst 0, 1) := by decide +kernel
theorem dJx40b00_toDecimal_cabcc_205 : decode cJx40b00_toDecimal_cabcc 205 = .ok (.istore 22, 2) := by decide +kernel
theorem dJx40b00_toDecimal_cabcc_207 : decode cJx40b00_toDecimal_cabcc 207 = .ok (.iload 21, 2) := by decide +kernel
theorem dJx40b00_toDecimal_cabcc_209 : decode cJx40b00_toDecimal_cabcc 209 = .ok (.iload 22, 2) := by decide +kernel
theorem dJx40b00_toDecimal_cabcc_211 : decode cJx40b00_toDecimal_cabcc 211 = .ok (.if_icmp .eq 22, 3) := by decide +kernel
theorem dJx40b00_toDecimal_cabcc_214 : decode cJx40b00_toDecimal_cabcc 214 = .ok (.aload_n 0, 1) := by decide +kernel
theorem dJx40b00_toDecimal_cabcc_215 : decode cJx40b00_toDecimal_cabcc 215 = .ok (.iload 21, 2) := by decide +kernel
theorem dJx40b00_toDecimal_cabcc_217 : decode cJx40b00_toDecimal_cabcc 217 = .ok (.ifCond .eq 8, 3) := by decide +kernel
theorem dJx40b00_toDecimal_cabcc_220 : decode cJx40b00_toDecimal_cabcc 220 = .ok (.iload 19, 2) := by decide +kernel
theorem dJx40b00_toDecimal_cabcc_222 : decode cJx40b00_toDecimal_cabcc 222 = .ok (.goto 5, 3) := by decide +kernel
theorem dJx40b00_toDecimal_cabcc_225 : decode cJx40b00_toDecimal_cabcc 225 = .ok (.iload 20, 2) := by decide +kernel
theorem dJx40b00_toDecimal_cabcc_227 : decode cJx40b00_toDecimal_cabcc 227 = .ok (.iload 11, 2) := by decide +kernel
theorem dJx40b00_toDecimal_cabcc_229 : decode cJx40b00_toDecimal_cabcc 229 = .ok (.invokevirtual 73, 3) := by decide +kernel
theorem dJx40b00_toDecimal_cabcc_232 : decode cJx40b00_toDecimal_cabcc 232 = .ok (.ireturn, 1) := by decide +kernel
theorem dJx40b00_toDecimal_cabcc_233 : decode cJx40b00_toDecimal_cabcc 233 = .ok (.iload 18, 2) := by decide +kernel
theorem dJx40b00_toDecimal_cabcc_235 : decode cJx40b00_toDecimal_cabcc 235 = .ok (.iconst 1, 1) := by decide +kernel
theorem dJx40b00_toDecimal_cabcc_236 : decode cJx40b00_toDecimal_cabcc 236 = .ok (.iadd, 1) := by decide +kernel
theorem dJx40b00_toDecimal_cabcc_237 : decode cJx40b00_toDecimal_cabcc 237 = .ok (.istore 19, 2) := by decide +kernel
theorem dJx40b00_toDecimal_cabcc_239 : decode cJx40b00_toDecimal_cabcc 239 = .ok (.iload 16, 2) := by decide +kernel
theorem dJx40b00_toDecimal_cabcc_241 : decode cJx40b00_toDecimal_cabcc 241 = .ok (.iload 4, 2) := by decide +kernel
theorem dJx40b00_toDecimal_cabcc_243 : decode cJx40b00_toDecimal_cabcc 243 = .ok (.iadd, 1) := by decide +kernel
theorem dJx40b00_toDecimal_cabcc_244 : decode cJx40b00_toDecimal_cabcc 244 = .ok (.iload 18, 2) := by decide +kernel
theorem dJx40b00_toDecimal_cabcc_246 : decode cJx40b00_toDecimal_cabcc 246 = .ok (.iconst 2, 1) := by decide +kernel
theorem dJx40b00_toDecimal_cabcc_247 : decode cJx40b00_toDecimal_cabcc 247 = .ok (.ishl, 1) := by decide +kernel
theorem dJx40b00_toDecimal_cabcc_248 : decode cJx40b00_toDecimal_cabcc 248 = .ok (.if_icmp .gt 7, 3) := by decide +kernel
theorem dJx40b00_toDecimal_cabcc_251 : decode cJx40b00_toDecimal_cabcc 251 = .ok (.iconst 1, 1) := by decide +kernel
theorem dJx40b00_toDecimal_cabcc_252 : decode cJx40b00_toDecimal_cabcc 252 = .ok (.goto 4, 3) := by decide +kernel
theorem dJx40b00_toDecimal_cabcc_255 : decode cJx40b00_toDecimal_cabcc 255 = .ok (.iconst 0, 1) := by decide +kernel
theorem dJx40b00_toDecimal_cabcc_256 : decode cJx40b00_toDecimal_cabcc 256 = .ok (.istore 20, 2) := by decide +kernel
theorem dJx40b00_toDecimal_cabcc_258 : decode cJx40b00_toDecimal_cabcc 258 = .ok (.iload 19, 2) := by decide +kernel
theorem dJx40b00_toDecimal_cabcc_260 : decode cJx40b00_toDecimal_cabcc 260 = .ok (.iconst 2, 1) := by decide +kernel
theorem dJx40b00_toDecimal_cabcc_261 : decode cJx40b00_toDecimal_cabcc 261 = .ok (.ishl, 1) := by decide +kernel
theorem dJx40b00_toDecimal_cabcc_262 : decode cJx40b00_toDecimal_cabcc 262 = .ok (.iload 4, 2) := by decide +kernel
theorem dJx40b00_toDecimal_cabcc_264 : decode cJx40b00_toDecimal_cabcc 264 = .ok (.iadd, 1) := by decide +kernel
theorem dJx40b00_toDecimal_cabcc_265 : decode cJx40b00_toDecimal_cabcc 265 = .ok (.iload 17, 2) := by decide +kernel
theorem dJx40b00_toDecimal_cabcc_267 : decode cJx40b00_toDecimal_cabcc 267 = .ok (.if_icmp .gt 7, 3) := by decide +kernel
theorem dJx40b00_toDecimal_cabcc_270 : decode cJx40b00_toDecimal_cabcc 270 = .ok (.iconst 1, 1) := by decide +kernel
theorem dJx40b00_toDecimal_cabcc_271 : decode cJx40b00_toDecimal_cabcc 271 = .ok (.goto 4, 3) := by decide +kernel
theorem dJx40b00_toDecimal_cabcc_274 : decode cJx40b00_toDecimal_cabcc 274 = .ok (.iconst 0, 1) := by decide +kernel
theorem dJx40b00_toDecimal_cabcc_275 : decode cJx40b00_toDecimal_cabcc 275 = .ok (.istore 21, 2) := by decide +kernel
theorem dJx40b00_toDecimal_cabcc_277 : decode cJx40b00_toDecimal_cabcc 277 = .ok (.iload 20, 2) := by decide +kernel
theorem dJx40b00_toDecimal_cabcc_279 : decode cJx40b00_toDecimal_cabcc 279 = .ok (.iload 21, 2) := by decide +kernel
theorem dJx40b00_toDecimal_cabcc_281 : decode cJx40b00_toDecimal_cabcc 281 = .ok (.if_icmp .eq 24, 3) := by decide +kernel
theorem dJx40b00_toDecimal_cabcc_284 : decode cJx40b00_toDecimal_cabcc 284 = .ok (.aload_n 0, 1) := by decide +kernel
theorem dJx40b00_toDecimal_cabcc_285 : decode cJx40b00_toDecimal_cabcc 285 = .ok (.iload 20, 2) := by decide +kernel
theorem dJx40b00_toDecimal_cabcc_287 : decode cJx40b00_toDecimal_cabcc 287 = .ok (.ifCond .eq 8, 3) := by decide +kernel
theorem dJx40b00_toDecimal_cabcc_290 : decode cJx40b00_toDecimal_cabcc 290 = .ok (.iload 18, 2) := by decide +kernel
theorem dJx40b00_toDecimal_cabcc_292 : decode cJx40b00_toDecimal_cabcc 292 = .ok (.goto 5, 3) := by decide +kernel
theorem dJx40b00_toDecimal_cabcc_295 : decode cJx40b00_toDecimal_cabcc 295 = .ok (.iload 19, 2) := by decide +kernel
theorem dJx40b00_toDecimal_cabcc_297 : decode cJx40b00_toDecimal_cabcc 297 = .ok (.iload 11, 2) := by decide +kernel
theorem dJx40b00_toDecimal_cabcc_299 : decode cJx40b00_toDecimal_cabcc 299 = .ok (.iload_n 3, 1) := by decide +kernel
theorem dJx40b00_toDecimal_cabcc_300 : decode cJx40b00_toDecimal_cabcc 300 = .ok (.iadd, 1) := by decide +kernel
theorem dJx40b00_toDecimal_cabcc_301 : decode cJx40b00_toDecimal_cabcc 301 = .ok (.invokevirtual 73, 3) := by decide +kernel
theorem dJx40b00_toDecimal_cabcc_304 : decode cJx40b00_toDecimal_cabcc 304 = .ok (.ireturn, 1) := by decide +kernel
theorem dJx40b00_toDecimal_cabcc_305 : decode cJx40b00_toDecimal_cabcc 305 = .ok (.iload 15, 2) := by decide +kernel
theorem dJx40b00_toDecimal_cabcc_307 : decode cJx40b00_toDecimal_cabcc 307 = .ok (.iload 18, 2) := by decide +kernel
theorem dJx40b00_toDecimal_cabcc_309 : decode cJx40b00_toDecimal_cabcc 309 = .ok (.iload 19, 2) := by decide +kernel
theorem dJx40b00_toDecimal_cabcc_311 : decode cJx40b00_toDecimal_cabcc 311 = .ok (.iadd, 1) := by decide +kernel
theorem dJx40b00_toDecimal_cabcc_312 : decode cJx40b00_toDecimal_cabcc 312 = .ok (.iconst 1, 1) := by decide +kernel
theorem dJx40b00_toDecimal_cabcc_313 : decode cJx40b00_toDecimal_cabcc 313 = .ok (.ishl, 1) := by decide +kernel
theorem dJx40b00_toDecimal_cabcc_314 : decode cJx40b00_toDecimal_cabcc 314 = .ok (.isub, 1) := by decide +kernel
theorem dJx40b00_toDecimal_cabcc_315 : decode cJx40b00_toDecimal_cabcc 315 = .ok (.istore 22, 2) := by decide +kernel
theorem dJx40b00_toDecimal_cabcc_317 : decode cJx40b00_toDecimal_cabcc 317 = .ok (.aload_n 0, 1) := by decide +kernel
theorem dJx40b00_toDecimal_cabcc_318 : decode cJx40b00_toDecimal_cabcc 318 = .ok (.iload 22, 2) := by decide +kernel
theorem dJx40b00_toDecimal_cabcc_320 : decode cJx40b00_toDecimal_cabcc 320 = .ok (.ifCond .lt 15, 3) := by decide +kernel
theorem dJx40b00_toDecimal_cabcc_323 : decode cJx40b00_toDecimal_cabcc 323 = .ok (.iload 22, 2) := by decide +kernel
theorem dJx40b00_toDecimal_cabcc_325 : decode cJx40b00_toDecimal_cabcc 325 = .ok (.ifCond .ne 15, 3) := by decide +kernel
theorem dJx40b00_toDecimal_cabcc_328 : decode cJx40b00_toDecimal_cabcc 328 = .ok (.iload 18, 2) := by decide +kernel
theorem dJx40b00_toDecimal_cabcc_330 : decode cJx40b00_toDecimal_cabcc 330 = .ok (.iconst 1, 1) := by decide +kernel
theorem dJx40b00_toDecimal_cabcc_331 : decode cJx40b00_toDecimal_cabcc 331 = .ok (.iand, 1) := by decide +kernel
theorem dJx40b00_toDecimal_cabcc_332 : decode cJx40b00_toDecimal_cabcc 332 = .ok (.ifCond .ne 8, 3) := by decide +kernel
theorem dJx40b00_toDecimal_cabcc_335 : decode cJx40b00_toDecimal_cabcc 335 = .ok (.iload 18, 2) := by decide +kernel
theorem dJx40b00_toDecimal_cabcc_337 : decode cJx40b00_toDecimal_cabcc 337 = .ok (.goto 5, 3) := by decide +kernel
theorem dJx40b00_toDecimal_cabcc_340 : decode cJx40b00_toDecimal_cabcc 340 = .ok (.iload 19, 2) := by decide +kernel
theorem dJx40b00_toDecimal_cabcc_342 : decode cJx40b00_toDecimal_cabcc 342 = .ok (.iload 11, 2) := by decide +kernel
theorem dJx40b00_toDecimal_cabcc_344 : decode cJx40b00_toDecimal_cabcc 344 = .ok (.iload_n 3, 1) := by decide +kernel
theorem dJx40b00_toDecimal_cabcc_345 : decode cJx40b00_toDecimal_cabcc 345 = .ok (.iadd, 1) := by decide +kernel
theorem dJx40b00_toDecimal_cabcc_346 : decode cJx40b00_toDecimal_cabcc 346 = .ok (.invokevirtual 73, 3) := by decide +kernel
theorem dJx40b00_toDecimal_cabcc_349 : decode cJx40b00_toDecimal_cabcc 349 = .ok (.ireturn, 1) := by decide +kernel
set_option maxRecDepth 20000 in
theorem ggJx40b00_rop_74951_J9_multiplyHigh_f86c9 : GoodIn wsJx40b00_rop_74951 wsJ9_multiplyHigh_f86c9 := goodIn_r _ [5, 6] (by decide +kernel) (by decide +kernel)
set_option maxRecDepth 20000 in
theorem gJx40b00_rop_74951_J9_multiplyHigh_f86c9 : GoodIn wsJx40b00_rop_74951 (va_wsS RJx40b00 104 yJ9_multiplyHigh_f86c9 wsJ9_multiplyHigh_f86c9) := goodIn_app (goodIn_of _ (by decide +kernel)) ggJx40b00_rop_74951_J9_multiplyHigh_f86c9
theorem dJx40b00_rop_74951_0 : decode cJx40b00_rop_74951 0 = .ok (.lload_n 0, 1) := by decide +kernel
theorem dJx40b00_rop_74951_1 : decode cJx40b00_rop_74951 1 = .ok (.lload_n 2, 1) := by decide +kernel
theorem dJx40b00_rop_74951_2 : decode cJx40b00_rop_74951 2 = .ok (.invokestatic 104, 3) := by decide +kernel
theorem dJx40b00_rop_74951_5 : decode cJx40b00_rop_74951 5 = .ok (.lstore 4, 2) := by decide +kernel
theorem dJx40b00_rop_74951_7 : decode cJx40b00_rop_74951 7 = .ok (.lload 4, 2) := by decide +kernel
theorem dJx40b00_rop_74951_9 : decode cJx40b00_rop_74951 9 = .ok (.bipush 31, 2) := by decide +kernel
theorem dJx40b00_rop_74951_11 : decode cJx40b00_rop_74951 11 = .ok (.lushr, 1) := by decide +kernel
theorem dJx40b00_rop_74951_12 : decode cJx40b00_rop_74951 12 = .ok (.lstore 6, 2) := by decide +kernel
theorem dJx40b00_rop_74951_14 : decode cJx40b00_rop_74951 14 = .ok (.lload 6, 2) := by decide +kernel
theorem dJx40b00_rop_74951_16 : decode cJx40b00_rop_74951 16 = .ok (.lload 4, 2) := by decide +kernel
theorem dJx40b00_rop_74951_18 : decode cJx40b00_rop_74951 18 = .ok (.ldc2_w 110, 3) := by decide +kernel
theorem dJx40b00_rop_74951_21 : decode cJx40b00_rop_74951 21 = .ok (.land, 1) := by decide +kernel
theorem dJx40b00_rop_74951_22 : decode cJx40b00_rop_74951 22 = .ok (.ldc2_w 110, 3) := by decide +kernel
theorem dJx40b00_rop_74951_25 : decode cJx40b00_rop_74951 25 = .ok (.ladd, 1) := by decide +kernel
theorem dJx40b00_rop_74951_26 : decode cJx40b00_rop_74951 26 = .ok (.bipush 32, 2) := by decide +kernel
theorem dJx40b00_rop_74951_28 : decode cJx40b00_rop_74951 28 = .ok (.lushr, 1) := by decide +kernel
theorem dJx40b00_rop_74951_29 : decode cJx40b00_rop_74951 29 = .ok (.lor, 1) := by decide +kernel
theorem dJx40b00_rop_74951_30 : decode cJx40b00_rop_74951 30 = .ok (.l2i, 1) := by decide +kernel
theorem dJx40b00_rop_74951_31 : decode cJx40b00_rop_74951 31 = .ok (.ireturn, 1) := by decide +kernel
set_option maxRecDepth 20000 in
theorem ggJx40b00_toChars_7cf53_J6_numberOfLeadingZeros_0f7a4 : GoodIn wsJx40b00_toChars_7cf53 wsJ6_numberOfLeadingZeros_0f7a4 := goodIn_r _ [6, 7] (by decide +kernel) (by decide +kernel)
set_option maxRecDepth 20000 in
theorem gJx40b00_toChars_7cf53_J6_numberOfLeadingZeros_0f7a4 : GoodIn wsJx40b00_toChars_7cf53 (va_wsS RJx40b00 114 yJ6_numberOfLeadingZeros_0f7a4 wsJ6_numberOfLeadingZeros_0f7a4) := goodIn_app (goodIn_of _ (by decide +kernel)) ggJx40b00_toChars_7cf53_J6_numberOfLeadingZeros_0f7a4
set_option maxRecDepth 20000 in
theorem ggJx40b00_toChars_7cf53_Jx25f51_flog10pow2_0f7a4 : GoodIn wsJx40b00_toChars_7cf53 wsJx25f51_flog10pow2_0f7a4 := goodIn_r _ [11, 12] (by decide +kernel) (by decide +kernel)
set_option maxRecDepth 20000 in
theorem gJx40b00_toChars_7cf53_Jx25f51_flog10pow2_0f7a4 : GoodIn wsJx40b00_toChars_7cf53 (va_wsS RJx40b00 82 yJx25f51_flog10pow2_0f7a4 wsJx25f51_flog10pow2_0f7a4) := goodIn_app (goodIn_of _ (by decide +kernel)) ggJx40b00_toChars_7cf53_Jx25f51_flog10pow2_0f7a4
set_option maxRecDepth 20000 in
theorem ggJx40b00_toChars_7cf53_Jx25f51_pow10_3e8ac : GoodIn wsJx40b00_toChars_7cf53 wsJx25f51_pow10_3e8ac := goodIn_r _ [15, 16] (by decide +kernel) (by decide +kernel)
set_option maxRecDepth 20000 in
theorem gJx40b00_toChars_7cf53_Jx25f51_pow10_3e8ac : GoodIn wsJx40b00_toChars_7cf53 (va_wsS RJx40b00 117 yJx25f51_pow10_3e8ac wsJx25f51_pow10_3e8ac) := goodIn_app (goodIn_of _ (by decide +kernel)) ggJx40b00_toChars_7cf53_Jx25f51_pow10_3e8ac
set_option maxRecDepth 20000 in
theorem ggJx40b00_toChars_7cf53_Jx40b00_toChars1_cabcc : GoodIn wsJx40b00_toChars_7cf53 wsJx40b00_toChars1_cabcc := goodIn_r _ [21, 22, 23, 24, 25, 20, 26, 27, 28, 29, 30, 31, 32, 33, 34, 35, 36, 37, 38, 39, 40, 41, 42, 43, 44, 45, 46, 63, 64] (by decide +kernel) (by decide +kernel)
set_option maxRecDepth 20000 in
theorem gJx40b00_toChars_7cf53_Jx40b00_toChars1_cabcc : GoodIn wsJx40b00_toChars_7cf53 (wsV RJx40b00 123 RJx40b00 yJx40b00_toChars1_cabcc wsJx40b00_toChars1_cabcc) := goodIn_app (goodIn_of _ (by decide +kernel)) ggJx40b00_toChars_7cf53_Jx40b00_toChars1_cabcc
set_option maxRecDepth 20000 in
theorem ggJx40b00_toChars_7cf53_Jx40b00_toChars2_cabcc : GoodIn wsJx40b00_toChars_7cf53 wsJx40b00_toChars2_cabcc := goodIn_r _ [50, 23, 24, 25, 20, 26, 27, 28, 39, 40, 41, 42, 51, 52, 53, 54, 22, 29, 30, 31, 32, 33, 34, 35, 36, 37, 38, 43, 44, 45, 46, 63, 64] (by decide +kernel) (by decide +kernel)
set_option maxRecDepth 20000 in
theorem gJx40b00_toChars_7cf53_Jx40b00_toChars2_cabcc : GoodIn wsJx40b00_toChars_7cf53 (wsV RJx40b00 126 RJx40b00 yJx40b00_toChars2_cabcc wsJx40b00_toChars2_cabcc) := goodIn_app (goodIn_of _ (by decide +kernel)) ggJx40b00_toChars_7cf53_Jx40b00_toChars2_cabcc
set_option maxRecDepth 20000 in
theorem ggJx40b00_toChars_7cf53_Jx40b00_toChars3_cabcc : GoodIn wsJx40b00_toChars_7cf53 wsJx40b00_toChars3_cabcc := goodIn_r _ [58, 23, 24, 25, 20, 26, 27, 28, 39, 40, 41, 42, 51, 52, 53, 54, 22, 29, 30, 31, 32, 33, 34, 35, 36, 37, 38, 43, 44, 45, 46, 59, 60, 61, 62, 63, 64] (by decide +kernel) (by decide +kernel)
set_option maxRecDepth 20000 in
theorem gJx40b00_toChars_7cf53_Jx40b00_toChars3_cabcc : GoodIn wsJx40b00_toChars_7cf53 (wsV RJx40b00 129 RJx40b00 yJx40b00_toChars3_cabcc wsJx40b00_toChars3_cabcc) := goodIn_app (goodIn_of _ (by decide +kernel)) ggJx40b00_toChars_7cf53_Jx40b00_toChars3_cabcc
theorem dJx40b00_toChars_7cf53_0 : decode cJx40b00_toChars_7cf53 0 = .ok (.bipush 32, 2) := by decide +kernel
theorem dJx40b00_toChars_7cf53_2 : decode cJx40b00_toChars_7cf53 2 = .ok (.iload_n 1, 1) := by decide +kernel
theorem dJx40b00_toChars_7cf53_3 : decode cJx40b00_toChars_7cf53 3 = .ok (.invokestatic 114, 3) := by decide +kernel
theorem dJx40b00_toChars_7cf53_6 : decode cJx40b00_toChars_7cf53 6 = .ok (.isub, 1) := by decide +kernel
theorem dJx40b00_toChars_7cf53_7 : decode cJx40b00_toChars_7cf53 7 = .ok (.invokestatic 82, 3) := by decide +kernel
theorem dJx40b00_toChars_7cf53_10 : decode cJx40b00_toChars_7cf53 10 = .ok (.istore_n 3, 1) := by decide +kernel
theorem dJx40b00_toChars_7cf53_11 : decode cJx40b00_toChars_7cf53 11 = .ok (.iload_n 1, 1) := by decide +kernel
theorem dJx40b00_toChars_7cf53_12 : decode cJx40b00_toChars_7cf53 12 = .ok (.i2l, 1) := by decide +kernel
theorem dJx40b00_toChars_7cf53_13 : decode cJx40b00_toChars_7cf53 13 = .ok (.iload_n 3, 1) := by decide +kernel
theorem dJx40b00_toChars_7cf53_14 : decode cJx40b00_toChars_7cf53 14 = .ok (.invokestatic 117, 3) := by decide +kernel
theorem dJx40b00_toChars_7cf53_17 : decode cJx40b00_toChars_7cf53 17 = .ok (.lcmp, 1) := by decide +kernel
theorem dJx40b00_toChars_7cf53_18 : decode cJx40b00_toChars_7cf53 18 = .ok (.ifCond .lt 6, 3) := by decide +kernel
theorem dJx40b00_toChars_7cf53_21 : decode cJx40b00_toChars_7cf53 21 = .ok (.iinc 3 1, 3) := by decide +kernel
theorem dJx40b00_toChars_7cf53_24 : decode cJx40b00_toChars_7cf53 24 = .ok (.iload_n 1, 1) := by decide +kernel
theorem dJx40b00_toChars_7cf53_25 : decode cJx40b00_toChars_7cf53 25 = .ok (.bipush 9, 2) := by decide +kernel
theorem dJx40b00_toChars_7cf53_27 : decode cJx40b00_toChars_7cf53 27 = .ok (.iload_n 3, 1) := by decide +kernel
theorem dJx40b00_toChars_7cf53_28 : decode cJx40b00_toChars_7cf53 28 = .ok (.isub, 1) := by decide +kernel
theorem dJx40b00_toChars_7cf53_29 : decode cJx40b00_toChars_7cf53 29 = .ok (.invokestatic 117, 3) := by decide +kernel
theorem dJx40b00_toChars_7cf53_32 : decode cJx40b00_toChars_7cf53 32 = .ok (.l2i, 1) := by decide +kernel
theorem dJx40b00_toChars_7cf53_33 : decode cJx40b00_toChars_7cf53 33 = .ok (.imul, 1) := by decide +kernel
theorem dJx40b00_toChars_7cf53_34 : decode cJx40b00_toChars_7cf53 34 = .ok (.istore_n 1, 1) := by decide +kernel
theorem dJx40b00_toChars_7cf53_35 : decode cJx40b00_toChars_7cf53 35 = .ok (.iload_n 2, 1) := by decide +kernel
theorem dJx40b00_toChars_7cf53_36 : decode cJx40b00_toChars_7cf53 36 = .ok (.iload_n 3, 1) := by decide +kernel
theorem dJx40b00_toChars_7cf53_37 : decode cJx40b00_toChars_7cf53 37 = .ok (.iadd, 1) := by decide +kernel
theorem dJx40b00_toChars_7cf53_38 : decode cJx40b00_toChars_7cf53 38 = .ok (.istore_n 2, 1) := by decide +kernel
theorem dJx40b00_toChars_7cf53_39 : decode cJx40b00_toChars_7cf53 39 = .ok (.iload_n 1, 1) := by decide +kernel
theorem dJx40b00_toChars_7cf53_40 : decode cJx40b00_toChars_7cf53 40 = .ok (.i2l, 1) := by decide +kernel
theorem dJx40b00_toChars_7cf53_41 : decode cJx40b00_toChars_7cf53 41 = .ok (.ldc2_w 120, 3) := by decide +kernel
theorem dJx40b00_toChars_7cf53_44 : decode cJx40b00_toChars_7cf53 44 = .ok (.lmul, 1) := by decide +kernel
theorem dJx40b00_toChars_7cf53_45 : decode cJx40b00_toChars_7cf53 45 = .ok (.bipush 57, 2) := by decide +kernel
theorem dJx40b00_toChars_7cf53_47 : decode cJx40b00_toChars_7cf53 47 = .ok (.lushr, 1) := by decide +kernel
theorem dJx40b00_toChars_7cf53_48 : decode cJx40b00_toChars_7cf53 48 = .ok (.l2i, 1) := by decide +kernel
theorem dJx40b00_toChars_7cf53_49 : decode cJx40b00_toChars_7cf53 49 = .ok (.istore 4, 2) := by decide +kernel
theorem dJx40b00_toChars_7cf53_51 : decode cJx40b00_toChars_7cf53 51 = .ok (.iload_n 1, 1) := by decide +kernel
theorem dJx40b00_toChars_7cf53_52 : decode cJx40b00_toChars_7cf53 52 = .ok (.ldc 122, 2) := by decide +kernel
theorem dJx40b00_toChars_7cf53_54 : decode cJx40b00_toChars_7cf53 54 = .ok (.iload 4, 2) := by decide +kernel
theorem dJx40b00_toChars_7cf53_56 : decode cJx40b00_toChars_7cf53 56 = .ok (.imul, 1) := by decide +kernel
theorem dJx40b00_toChars_7cf53_57 : decode cJx40b00_toChars_7cf53 57 = .ok (.isub, 1) := by decide +kernel
theorem dJx40b00_toChars_7cf53_58 : decode cJx40b00_toChars_7cf53 58 = .ok (.istore 5, 2) := by decide +kernel
theorem dJx40b00_toChars_7cf53_60 : decode cJx40b00_toChars_7cf53 60 = .ok (.iconst 0, 1) := by decide +kernel
theorem dJx40b00_toChars_7cf53_61 : decode cJx40b00_toChars_7cf53 61 = .ok (.iload_n 2, 1) := by decide +kernel
theorem dJx40b00_toChars_7cf53_62 : decode cJx40b00_toChars_7cf53 62 = .ok (.if_icmp .ge 19, 3) := by decide +kernel
theorem dJx40b00_toChars_7cf53_65 : decode cJx40b00_toChars_7cf53 65 = .ok (.iload_n 2, 1) := by decide +kernel
theorem dJx40b00_toChars_7cf53_66 : decode cJx40b00_toChars_7cf53 66 = .ok (.bipush 7, 2) := by decide +kernel
theorem dJx40b00_toChars_7cf53_68 : decode cJx40b00_toChars_7cf53 68 = .ok (.if_icmp .gt 13, 3) := by decide +kernel
theorem dJx40b00_toChars_7cf53_71 : decode cJx40b00_toChars_7cf53 71 = .ok (.aload_n 0, 1) := by decide +kernel
theorem dJx40b00_toChars_7cf53_72 : decode cJx40b00_toChars_7cf53 72 = .ok (.iload 4, 2) := by decide +kernel
theorem dJx40b00_toChars_7cf53_74 : decode cJx40b00_toChars_7cf53 74 = .ok (.iload 5, 2) := by decide +kernel
theorem dJx40b00_toChars_7cf53_76 : decode cJx40b00_toChars_7cf53 76 = .ok (.iload_n 2, 1) := by decide +kernel
theorem dJx40b00_toChars_7cf53_77 : decode cJx40b00_toChars_7cf53 77 = .ok (.invokevirtual 123, 3) := by decide +kernel
theorem dJx40b00_toChars_7cf53_80 : decode cJx40b00_toChars_7cf53 80 = .ok (.ireturn, 1) := by decide +kernel
theorem dJx40b00_toChars_7cf53_81 : decode cJx40b00_toChars_7cf53 81 = .ok (.bipush (-3), 2) := by decide +kernel
theorem dJx40b00_toChars_7cf53_83 : decode cJx40b00_toChars_7cf53 83 = .ok (.iload_n 2, 1) := by decide +kernel
theorem dJx40b00_toChars_7cf53_84 : decode cJx40b00_toChars_7cf53 84 = .ok (.if_icmp .ge 17, 3) := by decide +kernel
theorem dJx40b00_toChars_7cf53_87 : decode cJx40b00_toChars_7cf53 87 = .ok (.iload_n 2, 1) := by decide +kernel
theorem dJx40b00_toChars_7cf53_88 : decode cJx40b00_toChars_7cf53 88 = .ok (.ifCond .gt 13, 3) := by decide +kernel
theorem dJx40b00_toChars_7cf53_91 : decode cJx40b00_toChars_7cf53 91 = .ok (.aload_n 0, 1) := by decide +kernel
theorem dJx40b00_toChars_7cf53_92 : decode cJx40b00_toChars_7cf53 92 = .ok (.iload 4, 2) := by decide +kernel
theorem dJx40b00_toChars_7cf53_94 : decode cJx40b00_toChars_7cf53 94 = .ok (.iload 5, 2) := by decide +kernel
theorem dJx40b00_toChars_7cf53_96 : decode cJx40b00_toChars_7cf53 96 = .ok (.iload_n 2, 1) := by decide +kernel
theorem dJx40b00_toChars_7cf53_97 : decode cJx40b00_toChars_7cf53 97 = .ok (.invokevirtual 126, 3) := by decide +kernel
theorem dJx40b00_toChars_7cf53_100 : decode cJx40b00_toChars_7cf53 100 = .ok (.ireturn, 1) := by decide +kernel
theorem dJx40b00_toChars_7cf53_101 : decode cJx40b00_toChars_7cf53 101 = .ok (.aload_n 0, 1) := by decide +kernel
theorem dJx40b00_toChars_7cf53_102 : decode cJx40b00_toChars_7cf53 102 = .ok (.iload 4, 2) := by decide +kernel
theorem dJx40b00_toChars_7cf53_104 : decode cJx40b00_toChars_7cf53 104 = .ok (.iload 5, 2) := by decide +kernel
theorem dJx40b00_toChars_7cf53_106 : decode cJx40b00_toChars_7cf53 106 = .ok (.iload_n 2, 1) := by decide +kernel
theorem dJx40b00_toChars_7cf53_107 : decode cJx40b00_toChars_7cf53 107 = .ok (.invokevirtual 129, 3) := by decide +kernel
theorem dJx40b00_toChars_7cf53_110 : decode cJx40b00_toChars_7cf53 110 = .ok (.ireturn, 1) := by decide +kernel
set_option maxRecDepth 20000 in
theorem ggJx40b00_toChars1_cabcc_Jx40b00_appendDigit_d00df : GoodIn wsJx40b00_toChars1_cabcc wsJx40b00_appendDigit_d00df := goodIn_r _ [6, 7, 8, 27, 28] (by decide +kernel) (by decide +kernel)
set_option maxRecDepth 20000 in
theorem gJx40b00_toChars1_cabcc_Jx40b00_appendDigit_d00df : GoodIn wsJx40b00_toChars1_cabcc (wsV RJx40b00 132 RJx40b00 yJx40b00_appendDigit_d00df wsJx40b00_appendDigit_d00df) := goodIn_app (goodIn_of _ (by decide +kernel)) ggJx40b00_toChars1_cabcc_Jx40b00_appendDigit_d00df
set_option maxRecDepth 20000 in
theorem ggJx40b00_toChars1_cabcc_Jx40b00_y_0f7a4 : GoodIn wsJx40b00_toChars1_cabcc wsJx40b00_y_0f7a4 := goodIn_r _ [12, 13, 14, 15, 16, 17, 18] (by decide +kernel) (by decide +kernel)
set_option maxRecDepth 20000 in
theorem gJx40b00_toChars1_cabcc_Jx40b00_y_0f7a4 : GoodIn wsJx40b00_toChars1_cabcc (wsV RJx40b00 135 RJx40b00 yJx40b00_y_0f7a4 wsJx40b00_y_0f7a4) := goodIn_app (goodIn_of _ (by decide +kernel)) ggJx40b00_toChars1_cabcc_Jx40b00_y_0f7a4
set_option maxRecDepth 20000 in
theorem ggJx40b00_toChars1_cabcc_Jx40b00_append_d00df : GoodIn wsJx40b00_toChars1_cabcc wsJx40b00_append_d00df := goodIn_r _ [22, 7, 8, 27, 28] (by decide +kernel) (by decide +kernel)
set_option maxRecDepth 20000 in
theorem gJx40b00_toChars1_cabcc_Jx40b00_append_d00df : GoodIn wsJx40b00_toChars1_cabcc (wsV RJx40b00 69 RJx40b00 yJx40b00_append_d00df wsJx40b00_append_d00df) := goodIn_app (goodIn_of _ (by decide +kernel)) ggJx40b00_toChars1_cabcc_Jx40b00_append_d00df
set_option maxRecDepth 20000 in
theorem ggJx40b00_toChars1_cabcc_Jx40b00_removeTrailingZeroes_da8c8 : GoodIn wsJx40b00_toChars1_cabcc wsJx40b00_removeTrailingZeroes_da8c8 := goodIn_r _ [26, 7, 8, 27, 28] (by decide +kernel) (by decide +kernel)
set_option maxRecDepth 20000 in
theorem gJx40b00_toChars1_cabcc_Jx40b00_removeTrailingZeroes_da8c8 : GoodIn wsJx40b00_toChars1_cabcc (wsV RJx40b00 139 RJx40b00 yJx40b00_removeTrailingZeroes_da8c8 wsJx40b00_removeTrailingZeroes_da8c8) := goodIn_app (goodIn_of _ (by decide +kernel)) ggJx40b00_toChars1_cabcc_Jx40b00_removeTrailingZeroes_da8c8
theorem dJx40b00_toChars1_cabcc_0 : decode cJx40b00_toChars1_cabcc 0 = .ok (.aload_n 0, 1) := by decide +kernel
theorem dJx40b00_toChars1_cabcc_1 : decode cJx40b00_toChars1_cabcc 1 = .ok (.iload_n 1, 1) := by decide +kernel
theorem dJx40b00_toChars1_cabcc_2 : decode cJx40b00_toChars1_cabcc 2 = .ok (.invokevirtual 132, 3) := by decide +kernel
theorem dJx40b00_toChars1_cabcc_5 : decode cJx40b00_toChars1_cabcc 5 = .ok (.aload_n 0, 1) := by decide +kernel
theorem dJx40b00_toChars1_cabcc_6 : decode cJx40b00_toChars1_cabcc 6 = .ok (.iload_n 2, 1) := by decide +kernel
theorem dJx40b00_toChars1_cabcc_7 : decode cJx40b00_toChars1_cabcc 7 = .ok (.invokevirtual 135, 3) := by decide +kernel
theorem dJx40b00_toChars1_cabcc_10 : decode cJx40b00_toChars1_cabcc 10 = .ok (.istore 4, 2) := by decide +kernel
theorem dJx40b00_toChars1_cabcc_12 : decode cJx40b00_toChars1_cabcc 12 = .ok (.iconst 1, 1) := by decide +kernel
theorem dJx40b00_toChars1_cabcc_13 : decode cJx40b00_toChars1_cabcc 13 = .ok (.istore 6, 2) := by decide +kernel
theorem dJx40b00_toChars1_cabcc_15 : decode cJx40b00_toChars1_cabcc 15 = .ok (.iload 6, 2) := by decide +kernel
theorem dJx40b00_toChars1_cabcc_17 : decode cJx40b00_toChars1_cabcc 17 = .ok (.iload_n 3, 1) := by decide +kernel
theorem dJx40b00_toChars1_cabcc_18 : decode cJx40b00_toChars1_cabcc 18 = .ok (.if_icmp .ge 32, 3) := by decide +kernel
theorem dJx40b00_toChars1_cabcc_21 : decode cJx40b00_toChars1_cabcc 21 = .ok (.bipush 10, 2) := by decide +kernel
theorem dJx40b00_toChars1_cabcc_23 : decode cJx40b00_toChars1_cabcc 23 = .ok (.iload 4, 2) := by decide +kernel
theorem dJx40b00_toChars1_cabcc_25 : decode cJx40b00_toChars1_cabcc 25 = .ok (.imul, 1) := by decide +kernel
theorem dJx40b00_toChars1_cabcc_26 : decode cJx40b00_toChars1_cabcc 26 = .ok (.istore 5, 2) := by decide +kernel
theorem dJx40b00_toChars1_cabcc_28 : decode cJx40b00_toChars1_cabcc 28 = .ok (.aload_n 0, 1) := by decide +kernel
theorem dJx40b00_toChars1_cabcc_29 : decode cJx40b00_toChars1_cabcc 29 = .ok (.iload 5, 2) := by decide +kernel
theorem dJx40b00_toChars1_cabcc_31 : decode cJx40b00_toChars1_cabcc 31 = .ok (.bipush 28, 2) := by decide +kernel
theorem dJx40b00_toChars1_cabcc_33 : decode cJx40b00_toChars1_cabcc 33 = .ok (.iushr, 1) := by decide +kernel
theorem dJx40b00_toChars1_cabcc_34 : decode cJx40b00_toChars1_cabcc 34 = .ok (.invokevirtual 132, 3) := by decide +kernel
theorem dJx40b00_toChars1_cabcc_37 : decode cJx40b00_toChars1_cabcc 37 = .ok (.iload 5, 2) := by decide +kernel
theorem dJx40b00_toChars1_cabcc_39 : decode cJx40b00_toChars1_cabcc 39 = .ok (.ldc 138, 2) := by decide +kernel
theorem dJx40b00_toChars1_cabcc_41 : decode cJx40b00_toChars1_cabcc 41 = .ok (.iand, 1) := by decide +kernel
theorem dJx40b00_toChars1_cabcc_42 : decode cJx40b00_toChars1_cabcc 42 = .ok (.istore 4, 2) := by decide +kernel
theorem dJx40b00_toChars1_cabcc_44 : decode cJx40b00_toChars1_cabcc 44 = .ok (.iinc 6 1, 3) := by decide +kernel
theorem dJx40b00_toChars1_cabcc_47 : decode cJx40b00_toChars1_cabcc 47 = .ok (.goto (-32), 3) := by decide +kernel
theorem dJx40b00_toChars1_cabcc_50 : decode cJx40b00_toChars1_cabcc 50 = .ok (.aload_n 0, 1) := by decide +kernel
theorem dJx40b00_toChars1_cabcc_51 : decode cJx40b00_toChars1_cabcc 51 = .ok (.bipush 46, 2) := by decide +kernel
theorem dJx40b00_toChars1_cabcc_53 : decode cJx40b00_toChars1_cabcc 53 = .ok (.invokevirtual 69, 3) := by decide +kernel
theorem dJx40b00_toChars1_cabcc_56 : decode cJx40b00_toChars1_cabcc 56 = .ok (.iload 6, 2) := by decide +kernel
theorem dJx40b00_toChars1_cabcc_58 : decode cJx40b00_toChars1_cabcc 58 = .ok (.bipush 8, 2) := by decide +kernel
theorem dJx40b00_toChars1_cabcc_60 : decode cJx40b00_toChars1_cabcc 60 = .ok (.if_icmp .gt 32, 3) := by decide +kernel
theorem dJx40b00_toChars1_cabcc_63 : decode cJx40b00_toChars1_cabcc 63 = .ok (.bipush 10, 2) := by decide +kernel
theorem dJx40b00_toChars1_cabcc_65 : decode cJx40b00_toChars1_cabcc 65 = .ok (.iload 4, 2) := by decide +kernel
theorem dJx40b00_toChars1_cabcc_67 : decode cJx40b00_toChars1_cabcc 67 = .ok (.imul, 1) := by decide +kernel
theorem dJx40b00_toChars1_cabcc_68 : decode cJx40b00_toChars1_cabcc 68 = .ok (.istore 5, 2) := by decide +kernel
theorem dJx40b00_toChars1_cabcc_70 : decode cJx40b00_toChars1_cabcc 70 = .ok (.aload_n 0, 1) := by decide +kernel
theorem dJx40b00_toChars1_cabcc_71 : decode cJx40b00_toChars1_cabcc 71 = .ok (.iload 5, 2) := by decide +kernel
theorem dJx40b00_toChars1_cabcc_73 : decode cJx40b00_toChars1_cabcc 73 = .ok (.bipush 28, 2) := by decide +kernel
theorem dJx40b00_toChars1_cabcc_75 : decode cJx40b00_toChars1_cabcc 75 = .ok (.iushr, 1) := by decide +kernel
theorem dJx40b00_toChars1_cabcc_76 : decode cJx40b00_toChars1_cabcc 76 = .ok (.invokevirtual 132, 3) := by decide +kernel
theorem dJx40b00_toChars1_cabcc_79 : decode cJx40b00_toChars1_cabcc 79 = .ok (.iload 5, 2) := by decide +kernel
theorem dJx40b00_toChars1_cabcc_81 : decode cJx40b00_toChars1_cabcc 81 = .ok (.ldc 138, 2) := by decide +kernel
theorem dJx40b00_toChars1_cabcc_83 : decode cJx40b00_toChars1_cabcc 83 = .ok (.iand, 1) := by decide +kernel
theorem dJx40b00_toChars1_cabcc_84 : decode cJx40b00_toChars1_cabcc 84 = .ok (.istore 4, 2) := by decide +kernel
theorem dJx40b00_toChars1_cabcc_86 : decode cJx40b00_toChars1_cabcc 86 = .ok (.iinc 6 1, 3) := by decide +kernel
theorem dJx40b00_toChars1_cabcc_89 : decode cJx40b00_toChars1_cabcc 89 = .ok (.goto (-33), 3) := by decide +kernel
theorem dJx40b00_toChars1_cabcc_92 : decode cJx40b00_toChars1_cabcc 92 = .ok (.aload_n 0, 1) := by decide +kernel
theorem dJx40b00_toChars1_cabcc_93 : decode cJx40b00_toChars1_cabcc 93 = .ok (.invokevirtual 139, 3) := by decide +kernel
theorem dJx40b00_toChars1_cabcc_96 : decode cJx40b00_toChars1_cabcc 96 = .ok (.iconst 0, 1) := by decide +kernel
theorem dJx40b00_toChars1_cabcc_97 : decode cJx40b00_toChars1_cabcc 97 = .ok (.ireturn, 1) := by decide +kernel
set_option maxRecDepth 20000 in
theorem ggJx40b00_toChars2_cabcc_Jx40b00_appendDigit_d00df : GoodIn wsJx40b00_toChars2_cabcc wsJx40b00_appendDigit_d00df := goodIn_r _ [5, 6, 7, 31, 32] (by decide +kernel) (by decide +kernel)
set_option maxRecDepth 20000 in
theorem gJx40b00_toChars2_cabcc_Jx40b00_appendDigit_d00df : GoodIn wsJx40b00_toChars2_cabcc (wsV RJx40b00 132 RJx40b00 yJx40b00_appendDigit_d00df wsJx40b00_appendDigit_d00df) := goodIn_app (goodIn_of _ (by decide +kernel)) ggJx40b00_toChars2_cabcc_Jx40b00_appendDigit_d00df
set_option maxRecDepth 20000 in
theorem ggJx40b00_toChars2_cabcc_Jx40b00_append_d00df : GoodIn wsJx40b00_toChars2_cabcc wsJx40b00_append_d00df := goodIn_r _ [11, 6, 7, 31, 32] (by decide +kernel) (by decide +kernel)
set_option maxRecDepth 20000 in
theorem gJx40b00_toChars2_cabcc_Jx40b00_append_d00df : GoodIn wsJx40b00_toChars2_cabcc (wsV RJx40b00 69 RJx40b00 yJx40b00_append_d00df wsJx40b00_append_d00df) := goodIn_app (goodIn_of _ (by decide +kernel)) ggJx40b00_toChars2_cabcc_Jx40b00_append_d00df
set_option maxRecDepth 20000 in
theorem ggJx40b00_toChars2_cabcc_Jx40b00_append8Digits_d00df : GoodIn wsJx40b00_toChars2_cabcc wsJx40b00_append8Digits_d00df := goodIn_r _ [15, 16, 17, 18, 19, 4, 20, 21, 22, 23, 24, 25, 26, 1, 2, 3, 5, 6, 7, 31, 32] (by decide +kernel) (by decide +kernel)
set_option maxRecDepth 20000 in
theorem gJx40b00_toChars2_cabcc_Jx40b00_append8Digits_d00df : GoodIn wsJx40b00_toChars2_cabcc (wsV RJx40b00 142 RJx40b00 yJx40b00_append8Digits_d00df wsJx40b00_append8Digits_d00df) := goodIn_app (goodIn_of _ (by decide +kernel)) ggJx40b00_toChars2_cabcc_Jx40b00_append8Digits_d00df
set_option maxRecDepth 20000 in
theorem ggJx40b00_toChars2_cabcc_Jx40b00_removeTrailingZeroes_da8c8 : GoodIn wsJx40b00_toChars2_cabcc wsJx40b00_removeTrailingZeroes_da8c8 := goodIn_r _ [30, 6, 7, 31, 32] (by decide +kernel) (by decide +kernel)
set_option maxRecDepth 20000 in
theorem gJx40b00_toChars2_cabcc_Jx40b00_removeTrailingZeroes_da8c8 : GoodIn wsJx40b00_toChars2_cabcc (wsV RJx40b00 139 RJx40b00 yJx40b00_removeTrailingZeroes_da8c8 wsJx40b00_removeTrailingZeroes_da8c8) := goodIn_app (goodIn_of _ (by decide +kernel)) ggJx40b00_toChars2_cabcc_Jx40b00_removeTrailingZeroes_da8c8
theorem dJx40b00_toChars2_cabcc_0 : decode cJx40b00_toChars2_cabcc 0 = .ok (.aload_n 0, 1) := by decide +kernel
theorem dJx40b00_toChars2_cabcc_1 : decode cJx40b00_toChars2_cabcc 1 = .ok (.iconst 0, 1) := by decide +kernel
theorem dJx40b00_toChars2_cabcc_2 : decode cJx40b00_toChars2_cabcc 2 = .ok (.invokevirtual 132, 3) := by decide +kernel
theorem dJx40b00_toChars2_cabcc_5 : decode cJx40b00_toChars2_cabcc 5 = .ok (.aload_n 0, 1) := by decide +kernel
theorem dJx40b00_toChars2_cabcc_6 : decode cJx40b00_toChars2_cabcc 6 = .ok (.bipush 46, 2) := by decide +kernel
theorem dJx40b00_toChars2_cabcc_8 : decode cJx40b00_toChars2_cabcc 8 = .ok (.invokevirtual 69, 3) := by decide +kernel
theorem dJx40b00_toChars2_cabcc_11 : decode cJx40b00_toChars2_cabcc 11 = .ok (.iload_n 3, 1) := by decide +kernel
theorem dJx40b00_toChars2_cabcc_12 : decode cJx40b00_toChars2_cabcc 12 = .ok (.ifCond .ge 14, 3) := by decide +kernel
theorem dJx40b00_toChars2_cabcc_15 : decode cJx40b00_toChars2_cabcc 15 = .ok (.aload_n 0, 1) := by decide +kernel
theorem dJx40b00_toChars2_cabcc_16 : decode cJx40b00_toChars2_cabcc 16 = .ok (.iconst 0, 1) := by decide +kernel
theorem dJx40b00_toChars2_cabcc_17 : decode cJx40b00_toChars2_cabcc 17 = .ok (.invokevirtual 132, 3) := by decide +kernel
theorem dJx40b00_toChars2_cabcc_20 : decode cJx40b00_toChars2_cabcc 20 = .ok (.iinc 3 1, 3) := by decide +kernel
theorem dJx40b00_toChars2_cabcc_23 : decode cJx40b00_toChars2_cabcc 23 = .ok (.goto (-12), 3) := by decide +kernel
theorem dJx40b00_toChars2_cabcc_26 : decode cJx40b00_toChars2_cabcc 26 = .ok (.aload_n 0, 1) := by decide +kernel
theorem dJx40b00_toChars2_cabcc_27 : decode cJx40b00_toChars2_cabcc 27 = .ok (.iload_n 1, 1) := by decide +kernel
theorem dJx40b00_toChars2_cabcc_28 : decode cJx40b00_toChars2_cabcc 28 = .ok (.invokevirtual 132, 3) := by decide +kernel
theorem dJx40b00_toChars2_cabcc_31 : decode cJx40b00_toChars2_cabcc 31 = .ok (.aload_n 0, 1) := by decide +kernel
theorem dJx40b00_toChars2_cabcc_32 : decode cJx40b00_toChars2_cabcc 32 = .ok (.iload_n 2, 1) := by decide +kernel
theorem dJx40b00_toChars2_cabcc_33 : decode cJx40b00_toChars2_cabcc 33 = .ok (.invokevirtual 142, 3) := by decide +kernel
theorem dJx40b00_toChars2_cabcc_36 : decode cJx40b00_toChars2_cabcc 36 = .ok (.aload_n 0, 1) := by decide +kernel
theorem dJx40b00_toChars2_cabcc_37 : decode cJx40b00_toChars2_cabcc 37 = .ok (.invokevirtual 139, 3) := by decide +kernel
theorem dJx40b00_toChars2_cabcc_40 : decode cJx40b00_toChars2_cabcc 40 = .ok (.iconst 0, 1) := by decide +kernel
theorem dJx40b00_toChars2_cabcc_41 : decode cJx40b00_toChars2_cabcc 41 = .ok (.ireturn, 1) := by decide +kernel
set_option maxRecDepth 20000 in
theorem ggJx40b00_toChars3_cabcc_Jx40b00_appendDigit_d00df : GoodIn wsJx40b00_toChars3_cabcc wsJx40b00_appendDigit_d00df := goodIn_r _ [5, 6, 7, 35, 36] (by decide +kernel) (by decide +kernel)
set_option maxRecDepth 20000 in
theorem gJx40b00_toChars3_cabcc_Jx40b00_appendDigit_d00df : GoodIn wsJx40b00_toChars3_cabcc (wsV RJx40b00 132 RJx40b00 yJx40b00_appendDigit_d00df wsJx40b00_appendDigit_d00df) := goodIn_app (goodIn_of _ (by decide +kernel)) ggJx40b00_toChars3_cabcc_Jx40b00_appendDigit_d00df
set_option maxRecDepth 20000 in
theorem ggJx40b00_toChars3_cabcc_Jx40b00_append_d00df : GoodIn wsJx40b00_toChars3_cabcc wsJx40b00_append_d00df := goodIn_r _ [11, 6, 7, 35, 36] (by decide +kernel) (by decide +kernel)
set_option maxRecDepth 20000 in
theorem gJx40b00_toChars3_cabcc_Jx40b00_append_d00df : GoodIn wsJx40b00_toChars3_cabcc (wsV RJx40b00 69 RJx40b00 yJx40b00_append_d00df wsJx40b00_append_d00df) := goodIn_app (goodIn_of _ (by decide +kernel)) ggJx40b00_toChars3_cabcc_Jx40b00_append_d00df
set_option maxRecDepth 20000 in
theorem ggJx40b00_toChars3_cabcc_Jx40b00_append8Digits_d00df : GoodIn wsJx40b00_toChars3_cabcc wsJx40b00_append8Digits_d00df := goodIn_r _ [15, 16, 17, 18, 19, 4, 20, 21, 22, 23, 24, 25, 26, 1, 2, 3, 5, 6, 7, 35, 36] (by decide +kernel) (by decide +kernel)
set_option maxRecDepth 20000 in
theorem gJx40b00_toChars3_cabcc_Jx40b00_append8Digits_d00df : GoodIn wsJx40b00_toChars3_cabcc (wsV RJx40b00 142 RJx40b00 yJx40b00_append8Digits_d00df wsJx40b00_append8Digits_d00df) := goodIn_app (goodIn_of _ (by decide +kernel)) ggJx40b00_toChars3_cabcc_Jx40b00_append8Digits_d00df
set_option maxRecDepth 20000 in
theorem ggJx40b00_toChars3_cabcc_Jx40b00_removeTrailingZeroes_da8c8 : GoodIn wsJx40b00_toChars3_cabcc wsJx40b00_removeTrailingZeroes_da8c8 := goodIn_r _ [30, 6, 7, 35, 36] (by decide +kernel) (by decide +kernel)
set_option maxRecDepth 20000 in
theorem gJx40b00_toChars3_cabcc_Jx40b00_removeTrailingZeroes_da8c8 : GoodIn wsJx40b00_toChars3_cabcc (wsV RJx40b00 139 RJx40b00 yJx40b00_removeTrailingZeroes_da8c8 wsJx40b00_removeTrailingZeroes_da8c8) := goodIn_app (goodIn_of _ (by decide +kernel)) ggJx40b00_toChars3_cabcc_Jx40b00_removeTrailingZeroes_da8c8
set_option maxRecDepth 20000 in
theorem ggJx40b00_toChars3_cabcc_Jx40b00_exponent_d00df : GoodIn wsJx40b00_toChars3_cabcc wsJx40b00_exponent_d00df := goodIn_r _ [34, 8, 9, 10, 4, 11, 6, 7, 1, 2, 3, 5, 35, 36] (by decide +kernel) (by decide +kernel)
set_option maxRecDepth 20000 in
theorem gJx40b00_toChars3_cabcc_Jx40b00_exponent_d00df : GoodIn wsJx40b00_toChars3_cabcc (wsV RJx40b00 145 RJx40b00 yJx40b00_exponent_d00df wsJx40b00_exponent_d00df) := goodIn_app (goodIn_of _ (by decide +kernel)) ggJx40b00_toChars3_cabcc_Jx40b00_exponent_d00df
theorem dJx40b00_toChars3_cabcc_0 : decode cJx40b00_toChars3_cabcc 0 = .ok (.aload_n 0, 1) := by decide +kernel
theorem dJx40b00_toChars3_cabcc_1 : decode cJx40b00_toChars3_cabcc 1 = .ok (.iload_n 1, 1) := by decide +kernel
theorem dJx40b00_toChars3_cabcc_2 : decode cJx40b00_toChars3_cabcc 2 = .ok (.invokevirtual 132, 3) := by decide +kernel
theorem dJx40b00_toChars3_cabcc_5 : decode cJx40b00_toChars3_cabcc 5 = .ok (.aload_n 0, 1) := by decide +kernel
theorem dJx40b00_toChars3_cabcc_6 : decode cJx40b00_toChars3_cabcc 6 = .ok (.bipush 46, 2) := by decide +kernel
theorem dJx40b00_toChars3_cabcc_8 : decode cJx40b00_toChars3_cabcc 8 = .ok (.invokevirtual 69, 3) := by decide +kernel
theorem dJx40b00_toChars3_cabcc_11 : decode cJx40b00_toChars3_cabcc 11 = .ok (.aload_n 0, 1) := by decide +kernel
theorem dJx40b00_toChars3_cabcc_12 : decode cJx40b00_toChars3_cabcc 12 = .ok (.iload_n 2, 1) := by decide +kernel
theorem dJx40b00_toChars3_cabcc_13 : decode cJx40b00_toChars3_cabcc 13 = .ok (.invokevirtual 142, 3) := by decide +kernel
theorem dJx40b00_toChars3_cabcc_16 : decode cJx40b00_toChars3_cabcc 16 = .ok (.aload_n 0, 1) := by decide +kernel
theorem dJx40b00_toChars3_cabcc_17 : decode cJx40b00_toChars3_cabcc 17 = .ok (.invokevirtual 139, 3) := by decide +kernel
theorem dJx40b00_toChars3_cabcc_20 : decode cJx40b00_toChars3_cabcc 20 = .ok (.aload_n 0, 1) := by decide +kernel
theorem dJx40b00_toChars3_cabcc_21 : decode cJx40b00_toChars3_cabcc 21 = .ok (.iload_n 3, 1) := by decide +kernel
theorem dJx40b00_toChars3_cabcc_22 : decode cJx40b00_toChars3_cabcc 22 = .ok (.iconst 1, 1) := by decide +kernel
theorem dJx40b00_toChars3_cabcc_23 : decode cJx40b00_toChars3_cabcc 23 = .ok (.isub, 1) := by decide +kernel
theorem dJx40b00_toChars3_cabcc_24 : decode cJx40b00_toChars3_cabcc 24 = .ok (.invokevirtual 145, 3) := by decide +kernel
theorem dJx40b00_toChars3_cabcc_27 : decode cJx40b00_toChars3_cabcc 27 = .ok (.iconst 0, 1) := by decide +kernel
theorem dJx40b00_toChars3_cabcc_28 : decode cJx40b00_toChars3_cabcc 28 = .ok (.ireturn, 1) := by decide +kernel
set_option maxRecDepth 20000 in
theorem ggJx40b00_append8Digits_d00df_Jx40b00_y_0f7a4 : GoodIn wsJx40b00_append8Digits_d00df wsJx40b00_y_0f7a4 := goodIn_r _ [6, 7, 8, 9, 10, 11, 12] (by decide +kernel) (by decide +kernel)
set_option maxRecDepth 20000 in
theorem gJx40b00_append8Digits_d00df_Jx40b00_y_0f7a4 : GoodIn wsJx40b00_append8Digits_d00df (wsV RJx40b00 135 RJx40b00 yJx40b00_y_0f7a4 wsJx40b00_y_0f7a4) := goodIn_app (goodIn_of _ (by decide +kernel)) ggJx40b00_append8Digits_d00df_Jx40b00_y_0f7a4
set_option maxRecDepth 20000 in
theorem ggJx40b00_append8Digits_d00df_Jx40b00_appendDigit_d00df : GoodIn wsJx40b00_append8Digits_d00df wsJx40b00_appendDigit_d00df := goodIn_r _ [16, 17, 18, 19, 20] (by decide +kernel) (by decide +kernel)
set_option maxRecDepth 20000 in
theorem gJx40b00_append8Digits_d00df_Jx40b00_appendDigit_d00df : GoodIn wsJx40b00_append8Digits_d00df (wsV RJx40b00 132 RJx40b00 yJx40b00_appendDigit_d00df wsJx40b00_appendDigit_d00df) := goodIn_app (goodIn_of _ (by decide +kernel)) ggJx40b00_append8Digits_d00df_Jx40b00_appendDigit_d00df
theorem dJx40b00_append8Digits_d00df_0 : decode cJx40b00_append8Digits_d00df 0 = .ok (.aload_n 0, 1) := by decide +kernel
theorem dJx40b00_append8Digits_d00df_1 : decode cJx40b00_append8Digits_d00df 1 = .ok (.iload_n 1, 1) := by decide +kernel
theorem dJx40b00_append8Digits_d00df_2 : decode cJx40b00_append8Digits_d00df 2 = .ok (.invokevirtual 135, 3) := by decide +kernel
theorem dJx40b00_append8Digits_d00df_5 : decode cJx40b00_append8Digits_d00df 5 = .ok (.istore_n 2, 1) := by decide +kernel
theorem dJx40b00_append8Digits_d00df_6 : decode cJx40b00_append8Digits_d00df 6 = .ok (.iconst 0, 1) := by decide +kernel
theorem dJx40b00_append8Digits_d00df_7 : decode cJx40b00_append8Digits_d00df 7 = .ok (.istore_n 3, 1) := by decide +kernel
theorem dJx40b00_append8Digits_d00df_8 : decode cJx40b00_append8Digits_d00df 8 = .ok (.iload_n 3, 1) := by decide +kernel
theorem dJx40b00_append8Digits_d00df_9 : decode cJx40b00_append8Digits_d00df 9 = .ok (.bipush 8, 2) := by decide +kernel
theorem dJx40b00_append8Digits_d00df_11 : decode cJx40b00_append8Digits_d00df 11 = .ok (.if_icmp .ge 30, 3) := by decide +kernel
theorem dJx40b00_append8Digits_d00df_14 : decode cJx40b00_append8Digits_d00df 14 = .ok (.bipush 10, 2) := by decide +kernel
theorem dJx40b00_append8Digits_d00df_16 : decode cJx40b00_append8Digits_d00df 16 = .ok (.iload_n 2, 1) := by decide +kernel
theorem dJx40b00_append8Digits_d00df_17 : decode cJx40b00_append8Digits_d00df 17 = .ok (.imul, 1) := by decide +kernel
theorem dJx40b00_append8Digits_d00df_18 : decode cJx40b00_append8Digits_d00df 18 = .ok (.istore 4, 2) := by decide +kernel
theorem dJx40b00_append8Digits_d00df_20 : decode cJx40b00_append8Digits_d00df 20 = .ok (.aload_n 0, 1) := by decide +kernel
theorem dJx40b00_append8Digits_d00df_21 : decode cJx40b00_append8Digits_d00df 21 = .ok (.iload 4, 2) := by decide +kernel
theorem dJx40b00_append8Digits_d00df_23 : decode cJx40b00_append8Digits_d00df 23 = .ok (.bipush 28, 2) := by decide +kernel
theorem dJx40b00_append8Digits_d00df_25 : decode cJx40b00_append8Digits_d00df 25 = .ok (.iushr, 1) := by decide +kernel
theorem dJx40b00_append8Digits_d00df_26 : decode cJx40b00_append8Digits_d00df 26 = .ok (.invokevirtual 132, 3) := by decide +kernel
theorem dJx40b00_append8Digits_d00df_29 : decode cJx40b00_append8Digits_d00df 29 = .ok (.iload 4, 2) := by decide +kernel
theorem dJx40b00_append8Digits_d00df_31 : decode cJx40b00_append8Digits_d00df 31 = .ok (.ldc 138, 2) := by decide +kernel
theorem dJx40b00_append8Digits_d00df_33 : decode cJx40b00_append8Digits_d00df 33 = .ok (.iand, 1) := by decide +kernel
theorem dJx40b00_append8Digits_d00df_34 : decode cJx40b00_append8Digits_d00df 34 = .ok (.istore_n 2, 1) := by decide +kernel
theorem dJx40b00_append8Digits_d00df_35 : decode cJx40b00_append8Digits_d00df 35 = .ok (.iinc 3 1, 3) := by decide +kernel
theorem dJx40b00_append8Digits_d00df_38 : decode cJx40b00_append8Digits_d00df 38 = .ok (.goto (-30), 3) := by decide +kernel
theorem dJx40b00_append8Digits_d00df_41 : decode cJx40b00_append8Digits_d00df 41 = .ok (.return_, 1) := by decide +kernel
theorem dJx40b00_removeTrailingZeroes_da8c8_0 : decode cJx40b00_removeTrailingZeroes_da8c8 0 = .ok (.aload_n 0, 1) := by decide +kernel
theorem dJx40b00_removeTrailingZeroes_da8c8_1 : decode cJx40b00_removeTrailingZeroes_da8c8 1 = .ok (.getfield 11, 3) := by decide +kernel
theorem dJx40b00_removeTrailingZeroes_da8c8_4 : decode cJx40b00_removeTrailingZeroes_da8c8 4 = .ok (.aload_n 0, 1) := by decide +kernel
theorem dJx40b00_removeTrailingZeroes_da8c8_5 : decode cJx40b00_removeTrailingZeroes_da8c8 5 = .ok (.getfield 42, 3) := by decide +kernel
theorem dJx40b00_removeTrailingZeroes_da8c8_8 : decode cJx40b00_removeTrailingZeroes_da8c8 8 = .ok (.baload, 1) := by decide +kernel
theorem dJx40b00_removeTrailingZeroes_da8c8_9 : decode cJx40b00_removeTrailingZeroes_da8c8 9 = .ok (.bipush 48, 2) := by decide +kernel
theorem dJx40b00_removeTrailingZeroes_da8c8_11 : decode cJx40b00_removeTrailingZeroes_da8c8 11 = .ok (.if_icmp .ne 16, 3) := by decide +kernel
theorem dJx40b00_removeTrailingZeroes_da8c8_14 : decode cJx40b00_removeTrailingZeroes_da8c8 14 = .ok (.aload_n 0, 1) := by decide +kernel
theorem dJx40b00_removeTrailingZeroes_da8c8_15 : decode cJx40b00_removeTrailingZeroes_da8c8 15 = .ok (.dup, 1) := by decide +kernel
theorem dJx40b00_removeTrailingZeroes_da8c8_16 : decode cJx40b00_removeTrailingZeroes_da8c8 16 = .ok (.getfield 42, 3) := by decide +kernel
theorem dJx40b00_removeTrailingZeroes_da8c8_19 : decode cJx40b00_removeTrailingZeroes_da8c8 19 = .ok (.iconst 1, 1) := by decide +kernel
theorem dJx40b00_removeTrailingZeroes_da8c8_20 : decode cJx40b00_removeTrailingZeroes_da8c8 20 = .ok (.isub, 1) := by decide +kernel
theorem dJx40b00_removeTrailingZeroes_da8c8_21 : decode cJx40b00_removeTrailingZeroes_da8c8 21 = .ok (.putfield 42, 3) := by decide +kernel
theorem dJx40b00_removeTrailingZeroes_da8c8_24 : decode cJx40b00_removeTrailingZeroes_da8c8 24 = .ok (.goto (-24), 3) := by decide +kernel
theorem dJx40b00_removeTrailingZeroes_da8c8_27 : decode cJx40b00_removeTrailingZeroes_da8c8 27 = .ok (.aload_n 0, 1) := by decide +kernel
theorem dJx40b00_removeTrailingZeroes_da8c8_28 : decode cJx40b00_removeTrailingZeroes_da8c8 28 = .ok (.getfield 11, 3) := by decide +kernel
theorem dJx40b00_removeTrailingZeroes_da8c8_31 : decode cJx40b00_removeTrailingZeroes_da8c8 31 = .ok (.aload_n 0, 1) := by decide +kernel
theorem dJx40b00_removeTrailingZeroes_da8c8_32 : decode cJx40b00_removeTrailingZeroes_da8c8 32 = .ok (.getfield 42, 3) := by decide +kernel
theorem dJx40b00_removeTrailingZeroes_da8c8_35 : decode cJx40b00_removeTrailingZeroes_da8c8 35 = .ok (.baload, 1) := by decide +kernel
theorem dJx40b00_removeTrailingZeroes_da8c8_36 : decode cJx40b00_removeTrailingZeroes_da8c8 36 = .ok (.bipush 46, 2) := by decide +kernel
theorem dJx40b00_removeTrailingZeroes_da8c8_38 : decode cJx40b00_removeTrailingZeroes_da8c8 38 = .ok (.if_icmp .ne 13, 3) := by decide +kernel
theorem dJx40b00_removeTrailingZeroes_da8c8_41 : decode cJx40b00_removeTrailingZeroes_da8c8 41 = .ok (.aload_n 0, 1) := by decide +kernel
theorem dJx40b00_removeTrailingZeroes_da8c8_42 : decode cJx40b00_removeTrailingZeroes_da8c8 42 = .ok (.dup, 1) := by decide +kernel
theorem dJx40b00_removeTrailingZeroes_da8c8_43 : decode cJx40b00_removeTrailingZeroes_da8c8 43 = .ok (.getfield 42, 3) := by decide +kernel
theorem dJx40b00_removeTrailingZeroes_da8c8_46 : decode cJx40b00_removeTrailingZeroes_da8c8 46 = .ok (.iconst 1, 1) := by decide +kernel
theorem dJx40b00_removeTrailingZeroes_da8c8_47 : decode cJx40b00_removeTrailingZeroes_da8c8 47 = .ok (.iadd, 1) := by decide +kernel
theorem dJx40b00_removeTrailingZeroes_da8c8_48 : decode cJx40b00_removeTrailingZeroes_da8c8 48 = .ok (.putfield 42, 3) := by decide +kernel
theorem dJx40b00_removeTrailingZeroes_da8c8_51 : decode cJx40b00_removeTrailingZeroes_da8c8 51 = .ok (.return_, 1) := by decide +kernel
set_option maxRecDepth 20000 in
theorem ggJx40b00_y_0f7a4_J9_multiplyHigh_f86c9 : GoodIn wsJx40b00_y_0f7a4 wsJ9_multiplyHigh_f86c9 := goodIn_r _ [5, 6] (by decide +kernel) (by decide +kernel)
set_option maxRecDepth 20000 in
theorem gJx40b00_y_0f7a4_J9_multiplyHigh_f86c9 : GoodIn wsJx40b00_y_0f7a4 (va_wsS RJx40b00 104 yJ9_multiplyHigh_f86c9 wsJ9_multiplyHigh_f86c9) := goodIn_app (goodIn_of _ (by decide +kernel)) ggJx40b00_y_0f7a4_J9_multiplyHigh_f86c9
theorem dJx40b00_y_0f7a4_0 : decode cJx40b00_y_0f7a4 0 = .ok (.iload_n 1, 1) := by decide +kernel
theorem dJx40b00_y_0f7a4_1 : decode cJx40b00_y_0f7a4 1 = .ok (.iconst 1, 1) := by decide +kernel
theorem dJx40b00_y_0f7a4_2 : decode cJx40b00_y_0f7a4 2 = .ok (.iadd, 1) := by decide +kernel
theorem dJx40b00_y_0f7a4_3 : decode cJx40b00_y_0f7a4 3 = .ok (.i2l, 1) := by decide +kernel
theorem dJx40b00_y_0f7a4_4 : decode cJx40b00_y_0f7a4 4 = .ok (.bipush 28, 2) := by decide +kernel
theorem dJx40b00_y_0f7a4_6 : decode cJx40b00_y_0f7a4 6 = .ok (.lshl, 1) := by decide +kernel
theorem dJx40b00_y_0f7a4_7 : decode cJx40b00_y_0f7a4 7 = .ok (.ldc2_w 148, 3) := by decide +kernel
theorem dJx40b00_y_0f7a4_10 : decode cJx40b00_y_0f7a4 10 = .ok (.invokestatic 104, 3) := by decide +kernel
theorem dJx40b00_y_0f7a4_13 : decode cJx40b00_y_0f7a4 13 = .ok (.bipush 20, 2) := by decide +kernel
theorem dJx40b00_y_0f7a4_15 : decode cJx40b00_y_0f7a4 15 = .ok (.lushr, 1) := by decide +kernel
theorem dJx40b00_y_0f7a4_16 : decode cJx40b00_y_0f7a4 16 = .ok (.l2i, 1) := by decide +kernel
theorem dJx40b00_y_0f7a4_17 : decode cJx40b00_y_0f7a4 17 = .ok (.iconst 1, 1) := by decide +kernel
theorem dJx40b00_y_0f7a4_18 : decode cJx40b00_y_0f7a4 18 = .ok (.isub, 1) := by decide +kernel
theorem dJx40b00_y_0f7a4_19 : decode cJx40b00_y_0f7a4 19 = .ok (.ireturn, 1) := by decide +kernel
set_option maxRecDepth 20000 in
theorem ggJx40b00_exponent_d00df_Jx40b00_append_d00df : GoodIn wsJx40b00_exponent_d00df wsJx40b00_append_d00df := goodIn_r _ [5, 6, 7, 12, 13] (by decide +kernel) (by decide +kernel)
set_option maxRecDepth 20000 in
theorem gJx40b00_exponent_d00df_Jx40b00_append_d00df : GoodIn wsJx40b00_exponent_d00df (wsV RJx40b00 69 RJx40b00 yJx40b00_append_d00df wsJx40b00_append_d00df) := goodIn_app (goodIn_of _ (by decide +kernel)) ggJx40b00_exponent_d00df_Jx40b00_append_d00df
set_option maxRecDepth 20000 in
theorem ggJx40b00_exponent_d00df_Jx40b00_appendDigit_d00df : GoodIn wsJx40b00_exponent_d00df wsJx40b00_appendDigit_d00df := goodIn_r _ [11, 6, 7, 12, 13] (by decide +kernel) (by decide +kernel)
set_option maxRecDepth 20000 in
theorem gJx40b00_exponent_d00df_Jx40b00_appendDigit_d00df : GoodIn wsJx40b00_exponent_d00df (wsV RJx40b00 132 RJx40b00 yJx40b00_appendDigit_d00df wsJx40b00_appendDigit_d00df) := goodIn_app (goodIn_of _ (by decide +kernel)) ggJx40b00_exponent_d00df_Jx40b00_appendDigit_d00df
theorem dJx40b00_exponent_d00df_0 : decode cJx40b00_exponent_d00df 0 = .ok (.aload_n 0, 1) := by decide +kernel
theorem dJx40b00_exponent_d00df_1 : decode cJx40b00_exponent_d00df 1 = .ok (.bipush 69, 2) := by decide +kernel
theorem dJx40b00_exponent_d00df_3 : decode cJx40b00_exponent_d00df 3 = .ok (.invokevirtual 69, 3) := by decide +kernel
theorem dJx40b00_exponent_d00df_6 : decode cJx40b00_exponent_d00df 6 = .ok (.iload_n 1, 1) := by decide +kernel
theorem dJx40b00_exponent_d00df_7 : decode cJx40b00_exponent_d00df 7 = .ok (.ifCond .ge 12, 3) := by decide +kernel
theorem dJx40b00_exponent_d00df_10 : decode cJx40b00_exponent_d00df 10 = .ok (.aload_n 0, 1) := by decide +kernel
theorem dJx40b00_exponent_d00df_11 : decode cJx40b00_exponent_d00df 11 = .ok (.bipush 45, 2) := by decide +kernel
theorem dJx40b00_exponent_d00df_13 : decode cJx40b00_exponent_d00df 13 = .ok (.invokevirtual 69, 3) := by decide +kernel
theorem dJx40b00_exponent_d00df_16 : decode cJx40b00_exponent_d00df 16 = .ok (.iload_n 1, 1) := by decide +kernel
theorem dJx40b00_exponent_d00df_17 : decode cJx40b00_exponent_d00df 17 = .ok (.ineg, 1) := by decide +kernel
theorem dJx40b00_exponent_d00df_18 : decode cJx40b00_exponent_d00df 18 = .ok (.istore_n 1, 1) := by decide +kernel
theorem dJx40b00_exponent_d00df_19 : decode cJx40b00_exponent_d00df 19 = .ok (.iload_n 1, 1) := by decide +kernel
theorem dJx40b00_exponent_d00df_20 : decode cJx40b00_exponent_d00df 20 = .ok (.bipush 10, 2) := by decide +kernel
theorem dJx40b00_exponent_d00df_22 : decode cJx40b00_exponent_d00df 22 = .ok (.if_icmp .ge 9, 3) := by decide +kernel
theorem dJx40b00_exponent_d00df_25 : decode cJx40b00_exponent_d00df 25 = .ok (.aload_n 0, 1) := by decide +kernel
theorem dJx40b00_exponent_d00df_26 : decode cJx40b00_exponent_d00df 26 = .ok (.iload_n 1, 1) := by decide +kernel
theorem dJx40b00_exponent_d00df_27 : decode cJx40b00_exponent_d00df 27 = .ok (.invokevirtual 132, 3) := by decide +kernel
theorem dJx40b00_exponent_d00df_30 : decode cJx40b00_exponent_d00df 30 = .ok (.return_, 1) := by decide +kernel
theorem dJx40b00_exponent_d00df_31 : decode cJx40b00_exponent_d00df 31 = .ok (.iload_n 1, 1) := by decide +kernel
theorem dJx40b00_exponent_d00df_32 : decode cJx40b00_exponent_d00df 32 = .ok (.bipush 103, 2) := by decide +kernel
theorem dJx40b00_exponent_d00df_34 : decode cJx40b00_exponent_d00df 34 = .ok (.imul, 1) := by decide +kernel
theorem dJx40b00_exponent_d00df_35 : decode cJx40b00_exponent_d00df 35 = .ok (.bipush 10, 2) := by decide +kernel
theorem dJx40b00_exponent_d00df_37 : decode cJx40b00_exponent_d00df 37 = .ok (.iushr, 1) := by decide +kernel
theorem dJx40b00_exponent_d00df_38 : decode cJx40b00_exponent_d00df 38 = .ok (.istore_n 2, 1) := by decide +kernel
theorem dJx40b00_exponent_d00df_39 : decode cJx40b00_exponent_d00df 39 = .ok (.aload_n 0, 1) := by decide +kernel
theorem dJx40b00_exponent_d00df_40 : decode cJx40b00_exponent_d00df 40 = .ok (.iload_n 2, 1) := by decide +kernel
theorem dJx40b00_exponent_d00df_41 : decode cJx40b00_exponent_d00df 41 = .ok (.invokevirtual 132, 3) := by decide +kernel
theorem dJx40b00_exponent_d00df_44 : decode cJx40b00_exponent_d00df 44 = .ok (.aload_n 0, 1) := by decide +kernel
theorem dJx40b00_exponent_d00df_45 : decode cJx40b00_exponent_d00df 45 = .ok (.iload_n 1, 1) := by decide +kernel
theorem dJx40b00_exponent_d00df_46 : decode cJx40b00_exponent_d00df 46 = .ok (.bipush 10, 2) := by decide +kernel
theorem dJx40b00_exponent_d00df_48 : decode cJx40b00_exponent_d00df 48 = .ok (.iload_n 2, 1) := by decide +kernel
theorem dJx40b00_exponent_d00df_49 : decode cJx40b00_exponent_d00df 49 = .ok (.imul, 1) := by decide +kernel
theorem dJx40b00_exponent_d00df_50 : decode cJx40b00_exponent_d00df 50 = .ok (.isub, 1) := by decide +kernel
theorem dJx40b00_exponent_d00df_51 : decode cJx40b00_exponent_d00df 51 = .ok (.invokevirtual 132, 3) := by decide +kernel
theorem dJx40b00_exponent_d00df_54 : decode cJx40b00_exponent_d00df 54 = .ok (.return_, 1) := by decide +kernel
theorem dJx40b00_append_d00df_0 : decode cJx40b00_append_d00df 0 = .ok (.aload_n 0, 1) := by decide +kernel
theorem dJx40b00_append_d00df_1 : decode cJx40b00_append_d00df 1 = .ok (.getfield 11, 3) := by decide +kernel
theorem dJx40b00_append_d00df_4 : decode cJx40b00_append_d00df 4 = .ok (.aload_n 0, 1) := by decide +kernel
theorem dJx40b00_append_d00df_5 : decode cJx40b00_append_d00df 5 = .ok (.dup, 1) := by decide +kernel
theorem dJx40b00_append_d00df_6 : decode cJx40b00_append_d00df 6 = .ok (.getfield 42, 3) := by decide +kernel
theorem dJx40b00_append_d00df_9 : decode cJx40b00_append_d00df 9 = .ok (.iconst 1, 1) := by decide +kernel
theorem dJx40b00_append_d00df_10 : decode cJx40b00_append_d00df 10 = .ok (.iadd, 1) := by decide +kernel
theorem dJx40b00_append_d00df_11 : decode cJx40b00_append_d00df 11 = .ok (.dup_x1, 1) := by decide +kernel
theorem dJx40b00_append_d00df_12 : decode cJx40b00_append_d00df 12 = .ok (.putfield 42, 3) := by decide +kernel
theorem dJx40b00_append_d00df_15 : decode cJx40b00_append_d00df 15 = .ok (.iload_n 1, 1) := by decide +kernel
theorem dJx40b00_append_d00df_16 : decode cJx40b00_append_d00df 16 = .ok (.i2b, 1) := by decide +kernel
theorem dJx40b00_append_d00df_17 : decode cJx40b00_append_d00df 17 = .ok (.bastore, 1) := by decide +kernel
theorem dJx40b00_append_d00df_18 : decode cJx40b00_append_d00df 18 = .ok (.return_, 1) := by decide +kernel
theorem dJx40b00_appendDigit_d00df_0 : decode cJx40b00_appendDigit_d00df 0 = .ok (.aload_n 0, 1) := by decide +kernel
theorem dJx40b00_appendDigit_d00df_1 : decode cJx40b00_appendDigit_d00df 1 = .ok (.getfield 11, 3) := by decide +kernel
theorem dJx40b00_appendDigit_d00df_4 : decode cJx40b00_appendDigit_d00df 4 = .ok (.aload_n 0, 1) := by decide +kernel
theorem dJx40b00_appendDigit_d00df_5 : decode cJx40b00_appendDigit_d00df 5 = .ok (.dup, 1) := by decide +kernel
theorem dJx40b00_appendDigit_d00df_6 : decode cJx40b00_appendDigit_d00df 6 = .ok (.getfield 42, 3) := by decide +kernel
theorem dJx40b00_appendDigit_d00df_9 : decode cJx40b00_appendDigit_d00df 9 = .ok (.iconst 1, 1) := by decide +kernel
theorem dJx40b00_appendDigit_d00df_10 : decode cJx40b00_appendDigit_d00df 10 = .ok (.iadd, 1) := by decide +kernel
theorem dJx40b00_appendDigit_d00df_11 : decode cJx40b00_appendDigit_d00df 11 = .ok (.dup_x1, 1) := by decide +kernel
theorem dJx40b00_appendDigit_d00df_12 : decode cJx40b00_appendDigit_d00df 12 = .ok (.putfield 42, 3) := by decide +kernel
theorem dJx40b00_appendDigit_d00df_15 : decode cJx40b00_appendDigit_d00df 15 = .ok (.bipush 48, 2) := by decide +kernel
theorem dJx40b00_appendDigit_d00df_17 : decode cJx40b00_appendDigit_d00df 17 = .ok (.iload_n 1, 1) := by decide +kernel
theorem dJx40b00_appendDigit_d00df_18 : decode cJx40b00_appendDigit_d00df 18 = .ok (.iadd, 1) := by decide +kernel
theorem dJx40b00_appendDigit_d00df_19 : decode cJx40b00_appendDigit_d00df 19 = .ok (.i2b, 1) := by decide +kernel
theorem dJx40b00_appendDigit_d00df_20 : decode cJx40b00_appendDigit_d00df 20 = .ok (.bastore, 1) := by decide +kernel
theorem dJx40b00_appendDigit_d00df_21 : decode cJx40b00_appendDigit_d00df 21 = .ok (.return_, 1) := by decide +kernel
theorem dJx5991d_set_6c0ba_0 : decode cJx5991d_set_6c0ba 0 = .ok (.aload_n 0, 1) := by decide +kernel
theorem dJx5991d_set_6c0ba_1 : decode cJx5991d_set_6c0ba 1 = .ok (.lload_n 1, 1) := by decide +kernel
theorem dJx5991d_set_6c0ba_2 : decode cJx5991d_set_6c0ba 2 = .ok (.putfield 45, 3) := by decide +kernel
theorem dJx5991d_set_6c0ba_5 : decode cJx5991d_set_6c0ba 5 = .ok (.aload_n 0, 1) := by decide +kernel
theorem dJx5991d_set_6c0ba_6 : decode cJx5991d_set_6c0ba 6 = .ok (.iload_n 3, 1) := by decide +kernel
theorem dJx5991d_set_6c0ba_7 : decode cJx5991d_set_6c0ba 7 = .ok (.putfield 49, 3) := by decide +kernel
theorem dJx5991d_set_6c0ba_10 : decode cJx5991d_set_6c0ba 10 = .ok (.aload_n 0, 1) := by decide +kernel
theorem dJx5991d_set_6c0ba_11 : decode cJx5991d_set_6c0ba 11 = .ok (.iload 4, 2) := by decide +kernel
theorem dJx5991d_set_6c0ba_13 : decode cJx5991d_set_6c0ba 13 = .ok (.putfield 53, 3) := by decide +kernel
theorem dJx5991d_set_6c0ba_16 : decode cJx5991d_set_6c0ba 16 = .ok (.return_, 1) := by decide +kernel
theorem dJx25f51_pow10_3e8ac_0 : decode cJx25f51_pow10_3e8ac 0 = .ok (.getstatic 14, 3) := by decide +kernel
theorem dJx25f51_pow10_3e8ac_3 : decode cJx25f51_pow10_3e8ac 3 = .ok (.iload_n 0, 1) := by decide +kernel
theorem dJx25f51_pow10_3e8ac_4 : decode cJx25f51_pow10_3e8ac 4 = .ok (.laload, 1) := by decide +kernel
theorem dJx25f51_pow10_3e8ac_5 : decode cJx25f51_pow10_3e8ac 5 = .ok (.lreturn, 1) := by decide +kernel
theorem dJx25f51_flog10pow2_0f7a4_0 : decode cJx25f51_flog10pow2_0f7a4 0 = .ok (.iload_n 0, 1) := by decide +kernel
theorem dJx25f51_flog10pow2_0f7a4_1 : decode cJx25f51_flog10pow2_0f7a4 1 = .ok (.i2l, 1) := by decide +kernel
theorem dJx25f51_flog10pow2_0f7a4_2 : decode cJx25f51_flog10pow2_0f7a4 2 = .ok (.ldc2_w 20, 3) := by decide +kernel
theorem dJx25f51_flog10pow2_0f7a4_5 : decode cJx25f51_flog10pow2_0f7a4 5 = .ok (.lmul, 1) := by decide +kernel
theorem dJx25f51_flog10pow2_0f7a4_6 : decode cJx25f51_flog10pow2_0f7a4 6 = .ok (.bipush 41, 2) := by decide +kernel
theorem dJx25f51_flog10pow2_0f7a4_8 : decode cJx25f51_flog10pow2_0f7a4 8 = .ok (.lshr, 1) := by decide +kernel
theorem dJx25f51_flog10pow2_0f7a4_9 : decode cJx25f51_flog10pow2_0f7a4 9 = .ok (.l2i, 1) := by decide +kernel
theorem dJx25f51_flog10pow2_0f7a4_10 : decode cJx25f51_flog10pow2_0f7a4 10 = .ok (.ireturn, 1) := by decide +kernel
theorem dJx25f51_flog10threeQuartersPow2_0f7a4_0 : decode cJx25f51_flog10threeQuartersPow2_0f7a4 0 = .ok (.iload_n 0, 1) := by decide +kernel
theorem dJx25f51_flog10threeQuartersPow2_0f7a4_1 : decode cJx25f51_flog10threeQuartersPow2_0f7a4 1 = .ok (.i2l, 1) := by decide +kernel
theorem dJx25f51_flog10threeQuartersPow2_0f7a4_2 : decode cJx25f51_flog10threeQuartersPow2_0f7a4 2 = .ok (.ldc2_w 20, 3) := by decide +kernel
theorem dJx25f51_flog10threeQuartersPow2_0f7a4_5 : decode cJx25f51_flog10threeQuartersPow2_0f7a4 5 = .ok (.lmul, 1) := by decide +kernel
theorem dJx25f51_flog10threeQuartersPow2_0f7a4_6 : decode cJx25f51_flog10threeQuartersPow2_0f7a4 6 = .ok (.ldc2_w 22, 3) := by decide +kernel
theorem dJx25f51_flog10threeQuartersPow2_0f7a4_9 : decode cJx25f51_flog10threeQuartersPow2_0f7a4 9 = .ok (.ladd, 1) := by decide +kernel
theorem dJx25f51_flog10threeQuartersPow2_0f7a4_10 : decode cJx25f51_flog10threeQuartersPow2_0f7a4 10 = .ok (.bipush 41, 2) := by decide +kernel
theorem dJx25f51_flog10threeQuartersPow2_0f7a4_12 : decode cJx25f51_flog10threeQuartersPow2_0f7a4 12 = .ok (.lshr, 1) := by decide +kernel
theorem dJx25f51_flog10threeQuartersPow2_0f7a4_13 : decode cJx25f51_flog10threeQuartersPow2_0f7a4 13 = .ok (.l2i, 1) := by decide +kernel
theorem dJx25f51_flog10threeQuartersPow2_0f7a4_14 : decode cJx25f51_flog10threeQuartersPow2_0f7a4 14 = .ok (.ireturn, 1) := by decide +kernel
theorem dJx25f51_flog2pow10_0f7a4_0 : decode cJx25f51_flog2pow10_0f7a4 0 = .ok (.iload_n 0, 1) := by decide +kernel
theorem dJx25f51_flog2pow10_0f7a4_1 : decode cJx25f51_flog2pow10_0f7a4 1 = .ok (.i2l, 1) := by decide +kernel
theorem dJx25f51_flog2pow10_0f7a4_2 : decode cJx25f51_flog2pow10_0f7a4 2 = .ok (.ldc2_w 24, 3) := by decide +kernel
theorem dJx25f51_flog2pow10_0f7a4_5 : decode cJx25f51_flog2pow10_0f7a4 5 = .ok (.lmul, 1) := by decide +kernel
theorem dJx25f51_flog2pow10_0f7a4_6 : decode cJx25f51_flog2pow10_0f7a4 6 = .ok (.bipush 38, 2) := by decide +kernel
theorem dJx25f51_flog2pow10_0f7a4_8 : decode cJx25f51_flog2pow10_0f7a4 8 = .ok (.lshr, 1) := by decide +kernel
theorem dJx25f51_flog2pow10_0f7a4_9 : decode cJx25f51_flog2pow10_0f7a4 9 = .ok (.l2i, 1) := by decide +kernel
theorem dJx25f51_flog2pow10_0f7a4_10 : decode cJx25f51_flog2pow10_0f7a4 10 = .ok (.ireturn, 1) := by decide +kernel
theorem dJx25f51_g1_3e8ac_0 : decode cJx25f51_g1_3e8ac 0 = .ok (.getstatic 26, 3) := by decide +kernel
theorem dJx25f51_g1_3e8ac_3 : decode cJx25f51_g1_3e8ac 3 = .ok (.iload_n 0, 1) := by decide +kernel
theorem dJx25f51_g1_3e8ac_4 : decode cJx25f51_g1_3e8ac 4 = .ok (.sipush (-324), 3) := by decide +kernel
theorem dJx25f51_g1_3e8ac_7 : decode cJx25f51_g1_3e8ac 7 = .ok (.isub, 1) := by decide +kernel
theorem dJx25f51_g1_3e8ac_8 : decode cJx25f51_g1_3e8ac 8 = .ok (.iconst 1, 1) := by decide +kernel
theorem dJx25f51_g1_3e8ac_9 : decode cJx25f51_g1_3e8ac 9 = .ok (.ishl, 1) := by decide +kernel
theorem dJx25f51_g1_3e8ac_10 : decode cJx25f51_g1_3e8ac 10 = .ok (.laload, 1) := by decide +kernel
theorem dJx25f51_g1_3e8ac_11 : decode cJx25f51_g1_3e8ac 11 = .ok (.lreturn, 1) := by decide +kernel
theorem dJx25f51_g0_3e8ac_0 : decode cJx25f51_g0_3e8ac 0 = .ok (.getstatic 26, 3) := by decide +kernel
theorem dJx25f51_g0_3e8ac_3 : decode cJx25f51_g0_3e8ac 3 = .ok (.iload_n 0, 1) := by decide +kernel
theorem dJx25f51_g0_3e8ac_4 : decode cJx25f51_g0_3e8ac 4 = .ok (.sipush (-324), 3) := by decide +kernel
theorem dJx25f51_g0_3e8ac_7 : decode cJx25f51_g0_3e8ac 7 = .ok (.isub, 1) := by decide +kernel
theorem dJx25f51_g0_3e8ac_8 : decode cJx25f51_g0_3e8ac 8 = .ok (.iconst 1, 1) := by decide +kernel
theorem dJx25f51_g0_3e8ac_9 : decode cJx25f51_g0_3e8ac 9 = .ok (.ishl, 1) := by decide +kernel
theorem dJx25f51_g0_3e8ac_10 : decode cJx25f51_g0_3e8ac 10 = .ok (.iconst 1, 1) := by decide +kernel
theorem dJx25f51_g0_3e8ac_11 : decode cJx25f51_g0_3e8ac 11 = .ok (.ior, 1) := by decide +kernel
theorem dJx25f51_g0_3e8ac_12 : decode cJx25f51_g0_3e8ac 12 = .ok (.laload, 1) := by decide +kernel
theorem dJx25f51_g0_3e8ac_13 : decode cJx25f51_g0_3e8ac 13 = .ok (.lreturn, 1) := by decide +kernel
set_option maxRecDepth 20000 in
theorem ggJ8_newLength_cabcc_J8_hugeLength_7cf53 : GoodIn wsJ8_newLength_cabcc wsJ8_hugeLength_7cf53 := goodIn_r _ [9, 5] (by decide +kernel) (by decide +kernel)
set_option maxRecDepth 20000 in
theorem gJ8_newLength_cabcc_J8_hugeLength_7cf53 : GoodIn wsJ8_newLength_cabcc (va_wsS RJ8 201 yJ8_hugeLength_7cf53 wsJ8_hugeLength_7cf53) := goodIn_app (goodIn_of _ (by decide +kernel)) ggJ8_newLength_cabcc_J8_hugeLength_7cf53
theorem dJ8_newLength_cabcc_0 : decode cJ8_newLength_cabcc 0 = .ok (.iload_n 0, 1) := by decide +kernel
theorem dJ8_newLength_cabcc_1 : decode cJ8_newLength_cabcc 1 = .ok (.iload_n 1, 1) := by decide +kernel
theorem dJ8_newLength_cabcc_2 : decode cJ8_newLength_cabcc 2 = .ok (.iload_n 2, 1) := by decide +kernel
theorem dJ8_newLength_cabcc_3 : decode cJ8_newLength_cabcc 3 = .ok (.invokestatic 194, 3) := by decide +kernel
theorem dJ8_newLength_cabcc_6 : decode cJ8_newLength_cabcc 6 = .ok (.iadd, 1) := by decide +kernel
theorem dJ8_newLength_cabcc_7 : decode cJ8_newLength_cabcc 7 = .ok (.istore_n 3, 1) := by decide +kernel
theorem dJ8_newLength_cabcc_8 : decode cJ8_newLength_cabcc 8 = .ok (.iconst 0, 1) := by decide +kernel
theorem dJ8_newLength_cabcc_9 : decode cJ8_newLength_cabcc 9 = .ok (.iload_n 3, 1) := by decide +kernel
theorem dJ8_newLength_cabcc_10 : decode cJ8_newLength_cabcc 10 = .ok (.if_icmp .ge 11, 3) := by decide +kernel
theorem dJ8_newLength_cabcc_13 : decode cJ8_newLength_cabcc 13 = .ok (.iload_n 3, 1) := by decide +kernel
theorem dJ8_newLength_cabcc_14 : decode cJ8_newLength_cabcc 14 = .ok (.ldc 200, 2) := by decide +kernel
theorem dJ8_newLength_cabcc_16 : decode cJ8_newLength_cabcc 16 = .ok (.if_icmp .gt 5, 3) := by decide +kernel
theorem dJ8_newLength_cabcc_19 : decode cJ8_newLength_cabcc 19 = .ok (.iload_n 3, 1) := by decide +kernel
theorem dJ8_newLength_cabcc_20 : decode cJ8_newLength_cabcc 20 = .ok (.ireturn, 1) := by decide +kernel
theorem dJ8_newLength_cabcc_21 : decode cJ8_newLength_cabcc 21 = .ok (.iload_n 0, 1) := by decide +kernel
theorem dJ8_newLength_cabcc_22 : decode cJ8_newLength_cabcc 22 = .ok (.iload_n 1, 1) := by decide +kernel
theorem dJ8_newLength_cabcc_23 : decode cJ8_newLength_cabcc 23 = .ok (.invokestatic 201, 3) := by decide +kernel
theorem dJ8_newLength_cabcc_26 : decode cJ8_newLength_cabcc 26 = .ok (.ireturn, 1) := by decide +kernel
theorem dJ8_hugeLength_7cf53_0 : decode cJ8_hugeLength_7cf53 0 = .ok (.iload_n 0, 1) := by decide +kernel
theorem dJ8_hugeLength_7cf53_1 : decode cJ8_hugeLength_7cf53 1 = .ok (.iload_n 1, 1) := by decide +kernel
theorem dJ8_hugeLength_7cf53_2 : decode cJ8_hugeLength_7cf53 2 = .ok (.iadd, 1) := by decide +kernel
theorem dJ8_hugeLength_7cf53_3 : decode cJ8_hugeLength_7cf53 3 = .ok (.istore_n 2, 1) := by decide +kernel
theorem dJ8_hugeLength_7cf53_4 : decode cJ8_hugeLength_7cf53 4 = .ok (.iload_n 2, 1) := by decide +kernel
theorem dJ8_hugeLength_7cf53_5 : decode cJ8_hugeLength_7cf53 5 = .ok (.ifCond .ge 44, 3) := by decide +kernel
theorem dJ8_hugeLength_7cf53_8 : decode cJ8_hugeLength_7cf53 8 = .ok (.new 204, 3) := by decide +kernel
theorem dJ8_hugeLength_7cf53_11 : decode cJ8_hugeLength_7cf53 11 = .ok (.dup, 1) := by decide +kernel
theorem dJ8_hugeLength_7cf53_12 : decode cJ8_hugeLength_7cf53 12 = .ok (.new 89, 3) := by decide +kernel
theorem dJ8_hugeLength_7cf53_15 : decode cJ8_hugeLength_7cf53 15 = .ok (.dup, 1) := by decide +kernel
theorem dJ8_hugeLength_7cf53_16 : decode cJ8_hugeLength_7cf53 16 = .ok (.invokespecial 91, 3) := by decide +kernel
theorem dJ8_hugeLength_7cf53_19 : decode cJ8_hugeLength_7cf53 19 = .ok (.ldc 206, 2) := by decide +kernel
theorem dJ8_hugeLength_7cf53_21 : decode cJ8_hugeLength_7cf53 21 = .ok (.invokevirtual 94, 3) := by decide +kernel
theorem dJ8_hugeLength_7cf53_24 : decode cJ8_hugeLength_7cf53 24 = .ok (.iload_n 0, 1) := by decide +kernel
theorem dJ8_hugeLength_7cf53_25 : decode cJ8_hugeLength_7cf53 25 = .ok (.invokevirtual 98, 3) := by decide +kernel
theorem dJ8_hugeLength_7cf53_28 : decode cJ8_hugeLength_7cf53 28 = .ok (.ldc 208, 2) := by decide +kernel
theorem dJ8_hugeLength_7cf53_30 : decode cJ8_hugeLength_7cf53 30 = .ok (.invokevirtual 94, 3) := by decide +kernel
theorem dJ8_hugeLength_7cf53_33 : decode cJ8_hugeLength_7cf53 33 = .ok (.iload_n 1, 1) := by decide +kernel
theorem dJ8_hugeLength_7cf53_34 : decode cJ8_hugeLength_7cf53 34 = .ok (.invokevirtual 98, 3) := by decide +kernel
theorem dJ8_hugeLength_7cf53_37 : decode cJ8_hugeLength_7cf53 37 = .ok (.ldc 210, 2) := by decide +kernel
theorem dJ8_hugeLength_7cf53_39 : decode cJ8_hugeLength_7cf53 39 = .ok (.invokevirtual 94, 3) := by decide +kernel
theorem dJ8_hugeLength_7cf53_42 : decode cJ8_hugeLength_7cf53 42 = .ok (.invokevirtual 101, 3) := by decide +kernel
theorem dJ8_hugeLength_7cf53_45 : decode cJ8_hugeLength_7cf53 45 = .ok (.invokespecial 212, 3) := by decide +kernel
theorem dJ8_hugeLength_7cf53_48 : decode cJ8_hugeLength_7cf53 48 = .ok (.athrow, 1) := by decide +kernel
theorem dJ8_hugeLength_7cf53_49 : decode cJ8_hugeLength_7cf53 49 = .ok (.iload_n 2, 1) := by decide +kernel
theorem dJ8_hugeLength_7cf53_50 : decode cJ8_hugeLength_7cf53 50 = .ok (.ldc 200, 2) := by decide +kernel
theorem dJ8_hugeLength_7cf53_52 : decode cJ8_hugeLength_7cf53 52 = .ok (.if_icmp .gt 6, 3) := by decide +kernel
theorem dJ8_hugeLength_7cf53_55 : decode cJ8_hugeLength_7cf53 55 = .ok (.ldc 200, 2) := by decide +kernel
theorem dJ8_hugeLength_7cf53_57 : decode cJ8_hugeLength_7cf53 57 = .ok (.ireturn, 1) := by decide +kernel
theorem dJ8_hugeLength_7cf53_58 : decode cJ8_hugeLength_7cf53 58 = .ok (.iload_n 2, 1) := by decide +kernel
theorem dJ8_hugeLength_7cf53_59 : decode cJ8_hugeLength_7cf53 59 = .ok (.ireturn, 1) := by decide +kernel
theorem dJ3_checkIndex_8e157_0 : decode cJ3_checkIndex_8e157 0 = .ok (.iload_n 0, 1) := by decide +kernel
theorem dJ3_checkIndex_8e157_1 : decode cJ3_checkIndex_8e157 1 = .ok (.ifCond .lt 8, 3) := by decide +kernel
theorem dJ3_checkIndex_8e157_4 : decode cJ3_checkIndex_8e157 4 = .ok (.iload_n 0, 1) := by decide +kernel
theorem dJ3_checkIndex_8e157_5 : decode cJ3_checkIndex_8e157 5 = .ok (.iload_n 1, 1) := by decide +kernel
theorem dJ3_checkIndex_8e157_6 : decode cJ3_checkIndex_8e157 6 = .ok (.if_icmp .lt 10, 3) := by decide +kernel
theorem dJ3_checkIndex_8e157_9 : decode cJ3_checkIndex_8e157 9 = .ok (.aload_n 2, 1) := by decide +kernel
theorem dJ3_checkIndex_8e157_10 : decode cJ3_checkIndex_8e157 10 = .ok (.iload_n 0, 1) := by decide +kernel
theorem dJ3_checkIndex_8e157_11 : decode cJ3_checkIndex_8e157 11 = .ok (.iload_n 1, 1) := by decide +kernel
theorem dJ3_checkIndex_8e157_12 : decode cJ3_checkIndex_8e157 12 = .ok (.invokestatic 95, 3) := by decide +kernel
theorem dJ3_checkIndex_8e157_15 : decode cJ3_checkIndex_8e157 15 = .ok (.athrow, 1) := by decide +kernel
theorem dJ3_checkIndex_8e157_16 : decode cJ3_checkIndex_8e157 16 = .ok (.iload_n 0, 1) := by decide +kernel
theorem dJ3_checkIndex_8e157_17 : decode cJ3_checkIndex_8e157 17 = .ok (.ireturn, 1) := by decide +kernel
theorem dJ3_checkFromToIndex_8c36e_0 : decode cJ3_checkFromToIndex_8c36e 0 = .ok (.iload_n 0, 1) := by decide +kernel
theorem dJ3_checkFromToIndex_8c36e_1 : decode cJ3_checkFromToIndex_8c36e 1 = .ok (.ifCond .lt 13, 3) := by decide +kernel
theorem dJ3_checkFromToIndex_8c36e_4 : decode cJ3_checkFromToIndex_8c36e 4 = .ok (.iload_n 0, 1) := by decide +kernel
theorem dJ3_checkFromToIndex_8c36e_5 : decode cJ3_checkFromToIndex_8c36e 5 = .ok (.iload_n 1, 1) := by decide +kernel
theorem dJ3_checkFromToIndex_8c36e_6 : decode cJ3_checkFromToIndex_8c36e 6 = .ok (.if_icmp .gt 8, 3) := by decide +kernel
theorem dJ3_checkFromToIndex_8c36e_9 : decode cJ3_checkFromToIndex_8c36e 9 = .ok (.iload_n 1, 1) := by decide +kernel
theorem dJ3_checkFromToIndex_8c36e_10 : decode cJ3_checkFromToIndex_8c36e 10 = .ok (.iload_n 2, 1) := by decide +kernel
theorem dJ3_checkFromToIndex_8c36e_11 : decode cJ3_checkFromToIndex_8c36e 11 = .ok (.if_icmp .le 11, 3) := by decide +kernel
theorem dJ3_checkFromToIndex_8c36e_14 : decode cJ3_checkFromToIndex_8c36e 14 = .ok (.aload_n 3, 1) := by decide +kernel
theorem dJ3_checkFromToIndex_8c36e_15 : decode cJ3_checkFromToIndex_8c36e 15 = .ok (.iload_n 0, 1) := by decide +kernel
theorem dJ3_checkFromToIndex_8c36e_16 : decode cJ3_checkFromToIndex_8c36e 16 = .ok (.iload_n 1, 1) := by decide +kernel
theorem dJ3_checkFromToIndex_8c36e_17 : decode cJ3_checkFromToIndex_8c36e 17 = .ok (.iload_n 2, 1) := by decide +kernel
theorem dJ3_checkFromToIndex_8c36e_18 : decode cJ3_checkFromToIndex_8c36e 18 = .ok (.invokestatic 99, 3) := by decide +kernel
theorem dJ3_checkFromToIndex_8c36e_21 : decode cJ3_checkFromToIndex_8c36e 21 = .ok (.athrow, 1) := by decide +kernel
theorem dJ3_checkFromToIndex_8c36e_22 : decode cJ3_checkFromToIndex_8c36e 22 = .ok (.iload_n 0, 1) := by decide +kernel
theorem dJ3_checkFromToIndex_8c36e_23 : decode cJ3_checkFromToIndex_8c36e 23 = .ok (.ireturn, 1) := by decide +kernel
theorem dJ3_checkFromIndexSize_8c36e_0 : decode cJ3_checkFromIndexSize_8c36e 0 = .ok (.iload_n 2, 1) := by decide +kernel
theorem dJ3_checkFromIndexSize_8c36e_1 : decode cJ3_checkFromIndexSize_8c36e 1 = .ok (.iload_n 0, 1) := by decide +kernel
theorem dJ3_checkFromIndexSize_8c36e_2 : decode cJ3_checkFromIndexSize_8c36e 2 = .ok (.ior, 1) := by decide +kernel
theorem dJ3_checkFromIndexSize_8c36e_3 : decode cJ3_checkFromIndexSize_8c36e 3 = .ok (.iload_n 1, 1) := by decide +kernel
theorem dJ3_checkFromIndexSize_8c36e_4 : decode cJ3_checkFromIndexSize_8c36e 4 = .ok (.ior, 1) := by decide +kernel
theorem dJ3_checkFromIndexSize_8c36e_5 : decode cJ3_checkFromIndexSize_8c36e 5 = .ok (.ifCond .lt 10, 3) := by decide +kernel
theorem dJ3_checkFromIndexSize_8c36e_8 : decode cJ3_checkFromIndexSize_8c36e 8 = .ok (.iload_n 1, 1) := by decide +kernel
theorem dJ3_checkFromIndexSize_8c36e_9 : decode cJ3_checkFromIndexSize_8c36e 9 = .ok (.iload_n 2, 1) := by decide +kernel
theorem dJ3_checkFromIndexSize_8c36e_10 : decode cJ3_checkFromIndexSize_8c36e 10 = .ok (.iload_n 0, 1) := by decide +kernel
theorem dJ3_checkFromIndexSize_8c36e_11 : decode cJ3_checkFromIndexSize_8c36e 11 = .ok (.isub, 1) := by decide +kernel
theorem dJ3_checkFromIndexSize_8c36e_12 : decode cJ3_checkFromIndexSize_8c36e 12 = .ok (.if_icmp .le 11, 3) := by decide +kernel
theorem dJ3_checkFromIndexSize_8c36e_15 : decode cJ3_checkFromIndexSize_8c36e 15 = .ok (.aload_n 3, 1) := by decide +kernel
theorem dJ3_checkFromIndexSize_8c36e_16 : decode cJ3_checkFromIndexSize_8c36e 16 = .ok (.iload_n 0, 1) := by decide +kernel
theorem dJ3_checkFromIndexSize_8c36e_17 : decode cJ3_checkFromIndexSize_8c36e 17 = .ok (.iload_n 1, 1) := by decide +kernel
theorem dJ3_checkFromIndexSize_8c36e_18 : decode cJ3_checkFromIndexSize_8c36e 18 = .ok (.iload_n 2, 1) := by decide +kernel
theorem dJ3_checkFromIndexSize_8c36e_19 : decode cJ3_checkFromIndexSize_8c36e 19 = .ok (.invokestatic 103, 3) := by decide +kernel
theorem dJ3_checkFromIndexSize_8c36e_22 : decode cJ3_checkFromIndexSize_8c36e 22 = .ok (.athrow, 1) := by decide +kernel
theorem dJ3_checkFromIndexSize_8c36e_23 : decode cJ3_checkFromIndexSize_8c36e 23 = .ok (.iload_n 0, 1) := by decide +kernel
theorem dJ3_checkFromIndexSize_8c36e_24 : decode cJ3_checkFromIndexSize_8c36e 24 = .ok (.ireturn, 1) := by decide +kernel
