set_option maxRecDepth 100000 in
theorem in_wsX80 : ∀ w ∈ wsX80, w ∈ lw_tbx := lw_by [338, 340, 342, 344, 346, 348, 350, 352, 354] (by decide +kernel)
set_option maxRecDepth 100000 in
theorem in_wsX90 : ∀ w ∈ wsX90, w ∈ lw_tbx := lw_by [485] (by decide +kernel)
set_option maxRecDepth 100000 in
theorem in_wsJx4a65c0 : ∀ w ∈ wsJx4a65c0, w ∈ lw_tbx := lw_by [140, 136, 138] (by decide +kernel)
set_option maxRecDepth 100000 in
theorem in_wsX10 : ∀ w ∈ wsX10, w ∈ lw_tbx := lw_by [153] (by decide +kernel)
set_option maxRecDepth 100000 in
theorem in_wsX70 : ∀ w ∈ wsX70, w ∈ lw_tbx := lw_by [164, 166] (by decide +kernel)
set_option maxRecDepth 100000 in
theorem in_wsX50 : ∀ w ∈ wsX50, w ∈ lw_tbx := lw_by [271, 273, 275] (by decide +kernel)
set_option maxRecDepth 100000 in
theorem in_wsX30 : ∀ w ∈ wsX30, w ∈ lw_tbx := lw_by [289, 291, 293] (by decide +kernel)
set_option maxRecDepth 100000 in
theorem in_wsJ40 : ∀ w ∈ wsJ40, w ∈ lw_tbx := lw_by [319, 321, 323, 325] (by decide +kernel)
set_option maxRecDepth 100000 in
theorem in_wsX40 : ∀ w ∈ wsX40, w ∈ lw_tbx := lw_by [192, 194] (by decide +kernel)
set_option maxRecDepth 100000 in
theorem in_wsX60 : ∀ w ∈ wsX60, w ∈ lw_tbx := lw_by [989, 991, 993, 995, 997] (by decide +kernel)
set_option maxRecDepth 100000 in
theorem in_wsX00 : ∀ w ∈ wsX00, w ∈ lw_tbx := lw_by [713, 715, 717, 719, 721, 723, 725] (by decide +kernel)
set_option maxRecDepth 100000 in
theorem in_wsX20 : ∀ w ∈ wsX20, w ∈ lw_tbx := lw_by [614, 616, 618, 620, 622, 624] (by decide +kernel)
set_option maxRecDepth 100000 in
theorem in_wsJx7c7330 : ∀ w ∈ wsJx7c7330, w ∈ lw_tbx := lw_by [1075, 1076, 1077, 1078, 1079, 1080] (by decide +kernel)
set_option maxRecDepth 100000 in
theorem in_wsJx000600 : ∀ w ∈ wsJx000600, w ∈ lw_tbx := lw_by [639, 640, 641, 642, 643, 644] (by decide +kernel)
set_option maxRecDepth 100000 in
theorem in_wsJx4497a0 : ∀ w ∈ wsJx4497a0, w ∈ lw_tbx := lw_by [1469, 1471] (by decide +kernel)
set_option maxRecDepth 100000 in
theorem in_wsJ00 : ∀ w ∈ wsJ00, w ∈ lw_tbx := lw_by [651, 653, 958, 960] (by decide +kernel)
set_option maxRecDepth 100000 in
theorem in_wsJx40b000 : ∀ w ∈ wsJx40b000, w ∈ lw_tbx := lw_by [1762, 1764] (by decide +kernel)
theorem lw_app {a b : List Cond} (ha : ∀ w ∈ a, w ∈ lw_tbx) (hb : ∀ w ∈ b, w ∈ lw_tbx) : ∀ w ∈ a ++ b, w ∈ lw_tbx := fun w h => (List.mem_append.mp h).elim (ha w) (hb w)
set_option maxRecDepth 100000 in
theorem wsL_law_in0 : ∀ w ∈ wsL_law0, w ∈ lw_tbx := (lw_app (lw_app (lw_app (lw_app (lw_app (lw_app (lw_app (lw_app (lw_app (lw_app (lw_app (lw_app (lw_app (lw_app (lw_app (lw_app (lw_app (lw_app (lw_app in_wsL_law0_r1 (lw_app in_wsL_law0_r2 (lw_app in_wsL_law0_r3 (lw_app in_wsL_law0_r4 (lw_app in_wsL_law0_r5 (lw_app in_wsL_law0_r6 (lw_app in_wsL_law0_r7 (lw_app in_wsL_law0_r8 (lw_app in_wsL_law0_r9 (lw_app in_wsL_law0_r10 (lw_app in_wsL_law0_r11 (lw_app in_wsL_law0_r12 (lw_app in_wsL_law0_r13 (lw_app in_wsL_law0_r14 (lw_app in_wsL_law0_r15 (lw_app in_wsL_law0_r16 (lw_app in_wsL_law0_r17 (lw_app in_wsL_law0_r18 (lw_app in_wsL_law0_r19 (lw_app in_wsL_law0_r20 (lw_app in_wsL_law0_r21 (lw_app in_wsL_law0_r22 (lw_app in_wsL_law0_r23 (lw_app in_wsL_law0_r24 (lw_app in_wsL_law0_r25 (lw_app in_wsL_law0_r26 (lw_app in_wsL_law0_r27 (lw_app in_wsL_law0_r28 (lw_app in_wsL_law0_r29 (lw_app in_wsL_law0_r30 (lw_app in_wsL_law0_r31 (lw_app in_wsL_law0_r32 (lw_app in_wsL_law0_r33 (lw_app in_wsL_law0_r34 (lw_app in_wsL_law0_r35 (lw_app in_wsL_law0_r36 (lw_app in_wsL_law0_r37 (lw_app in_wsL_law0_r38 (lw_app in_wsL_law0_r39 (lw_app in_wsL_law0_r40 (lw_app in_wsL_law0_r41 (lw_app in_wsL_law0_r42 (lw_app in_wsL_law0_r43 (lw_app in_wsL_law0_r44 (lw_app in_wsL_law0_r45 (lw_app in_wsL_law0_r46 (lw_app in_wsL_law0_r47 (lw_app in_wsL_law0_r48 (lw_app in_wsL_law0_r49 (lw_app in_wsL_law0_r50 (lw_app in_wsL_law0_r51 (lw_app in_wsL_law0_r52 (lw_app in_wsL_law0_r53 (lw_app in_wsL_law0_r54 (lw_app in_wsL_law0_r55 (lw_app in_wsL_law0_r56 (lw_app in_wsL_law0_r57 (lw_app in_wsL_law0_r58 (lw_app in_wsL_law0_r59 (lw_app in_wsL_law0_r60 (lw_app in_wsL_law0_r61 in_wsL_law0_r62))))))))))))))))))))))))))))))))))))))))))))))))))))))))))))) in_wsX80) in_wsX90) in_wsJx4a65c0) in_wsX10) in_wsX70) in_wsX50) in_wsX30) in_wsJ40) in_wsX40) in_wsX60) in_wsX00) in_wsX20) in_wsJx7c7330) in_wsJx000600) in_wsJx4497a0) in_wsJ00) in_wsJx40b000) (fun w h => absurd h List.not_mem_nil))
theorem wsL_law_x0 : ∀ w ∈ (vx_at13 RX8 144 "java/util/NoSuchElementException" ["java/lang/RuntimeException", "java/lang/Exception"]).filter goodWord, w ∈ lw_tbx := by decide +kernel
theorem wsL_law_x1 : ∀ w ∈ (vx_atS RX8 72 "java/lang/IllegalStateException" ["java/lang/RuntimeException", "java/lang/Exception"]).filter goodWord, w ∈ lw_tbx := by decide +kernel
theorem wsL_law_x2 : ∀ w ∈ (vx_atS RX8 357 "java/lang/IndexOutOfBoundsException" ["java/lang/RuntimeException", "java/lang/Exception"]).filter goodWord, w ∈ lw_tbx := by decide +kernel
theorem wsL_law_x3 : ∀ w ∈ (vx_atS RX8 159 "java/lang/IllegalArgumentException" ["java/lang/RuntimeException", "java/lang/Exception"]).filter goodWord, w ∈ lw_tbx := by decide +kernel
theorem wsL_law_x4 : ∀ w ∈ (vx_atS RX8 132 "java/lang/UnsupportedOperationException" ["java/lang/RuntimeException", "java/lang/Exception"]).filter goodWord, w ∈ lw_tbx := by decide +kernel
theorem wsL_law_x5 : ∀ w ∈ (vx_atM "java/lang/ArrayIndexOutOfBoundsException" ["java/lang/IndexOutOfBoundsException", "java/lang/RuntimeException", "java/lang/Exception"]).filter goodWord, w ∈ lw_tbx := by decide +kernel
theorem wsL_law_x6 : ∀ w ∈ (vx_atS RX8 315 "java/lang/ArithmeticException" ["java/lang/RuntimeException", "java/lang/Exception"]).filter goodWord, w ∈ lw_tbx := by decide +kernel
theorem wsL_law_x7 : ∀ w ∈ (vx_atM "java/lang/ArithmeticException" ["java/lang/RuntimeException", "java/lang/Exception"]).filter goodWord, w ∈ lw_tbx := by decide +kernel
theorem wsL_law_in : ∀ w ∈ wsL_law, w ∈ lw_tbx := fun w h => (List.mem_append.mp h).elim (fun h => (List.mem_append.mp h).elim (fun h => (List.mem_append.mp h).elim (fun h => (List.mem_append.mp h).elim (fun h => (List.mem_append.mp h).elim (fun h => (List.mem_append.mp h).elim (fun h => (List.mem_append.mp h).elim (fun h => (List.mem_append.mp h).elim (fun h => wsL_law_in0 w h) (fun h => wsL_law_x0 w h)) (fun h => wsL_law_x1 w h)) (fun h => wsL_law_x2 w h)) (fun h => wsL_law_x3 w h)) (fun h => wsL_law_x4 w h)) (fun h => wsL_law_x5 w h)) (fun h => wsL_law_x6 w h)) (fun h => wsL_law_x7 w h)
theorem inlX0 : ∀ w ∈ wsX00, w ∈ wsL_law := fun _ h => List.mem_append_left _ (List.mem_append_left _ (List.mem_append_left _ (List.mem_append_left _ (List.mem_append_left _ (List.mem_append_left _ (List.mem_append_left _ (List.mem_append_left _ (List.mem_append_left _ (List.mem_append_left _ (List.mem_append_left _ (List.mem_append_left _ (List.mem_append_left _ (List.mem_append_left _ (List.mem_append_left _ (List.mem_append_right _ h)))))))))))))))
theorem inX0 : ∀ w ∈ wsX00, w ∈ lw_tbx := fun w h => wsL_law_in w (inlX0 w h)
theorem inlX1 : ∀ w ∈ wsX10, w ∈ wsL_law := fun _ h => List.mem_append_left _ (List.mem_append_left _ (List.mem_append_left _ (List.mem_append_left _ (List.mem_append_left _ (List.mem_append_left _ (List.mem_append_left _ (List.mem_append_left _ (List.mem_append_left _ (List.mem_append_left _ (List.mem_append_left _ (List.mem_append_left _ (List.mem_append_left _ (List.mem_append_left _ (List.mem_append_left _ (List.mem_append_left _ (List.mem_append_left _ (List.mem_append_left _ (List.mem_append_left _ (List.mem_append_left _ (List.mem_append_left _ (List.mem_append_left _ (List.mem_append_right _ h))))))))))))))))))))))
theorem inX1 : ∀ w ∈ wsX10, w ∈ lw_tbx := fun w h => wsL_law_in w (inlX1 w h)
theorem inlX2 : ∀ w ∈ wsX20, w ∈ wsL_law := fun _ h => List.mem_append_left _ (List.mem_append_left _ (List.mem_append_left _ (List.mem_append_left _ (List.mem_append_left _ (List.mem_append_left _ (List.mem_append_left _ (List.mem_append_left _ (List.mem_append_left _ (List.mem_append_left _ (List.mem_append_left _ (List.mem_append_left _ (List.mem_append_left _ (List.mem_append_left _ (List.mem_append_right _ h))))))))))))))
theorem inX2 : ∀ w ∈ wsX20, w ∈ lw_tbx := fun w h => wsL_law_in w (inlX2 w h)
theorem inlX3 : ∀ w ∈ wsX30, w ∈ wsL_law := fun _ h => List.mem_append_left _ (List.mem_append_left _ (List.mem_append_left _ (List.mem_append_left _ (List.mem_append_left _ (List.mem_append_left _ (List.mem_append_left _ (List.mem_append_left _ (List.mem_append_left _ (List.mem_append_left _ (List.mem_append_left _ (List.mem_append_left _ (List.mem_append_left _ (List.mem_append_left _ (List.mem_append_left _ (List.mem_append_left _ (List.mem_append_left _ (List.mem_append_left _ (List.mem_append_left _ (List.mem_append_right _ h)))))))))))))))))))
theorem inX3 : ∀ w ∈ wsX30, w ∈ lw_tbx := fun w h => wsL_law_in w (inlX3 w h)
theorem inlX4 : ∀ w ∈ wsX40, w ∈ wsL_law := fun _ h => List.mem_append_left _ (List.mem_append_left _ (List.mem_append_left _ (List.mem_append_left _ (List.mem_append_left _ (List.mem_append_left _ (List.mem_append_left _ (List.mem_append_left _ (List.mem_append_left _ (List.mem_append_left _ (List.mem_append_left _ (List.mem_append_left _ (List.mem_append_left _ (List.mem_append_left _ (List.mem_append_left _ (List.mem_append_left _ (List.mem_append_left _ (List.mem_append_right _ h)))))))))))))))))
theorem inX4 : ∀ w ∈ wsX40, w ∈ lw_tbx := fun w h => wsL_law_in w (inlX4 w h)
theorem inlX5 : ∀ w ∈ wsX50, w ∈ wsL_law := fun _ h => List.mem_append_left _ (List.mem_append_left _ (List.mem_append_left _ (List.mem_append_left _ (List.mem_append_left _ (List.mem_append_left _ (List.mem_append_left _ (List.mem_append_left _ (List.mem_append_left _ (List.mem_append_left _ (List.mem_append_left _ (List.mem_append_left _ (List.mem_append_left _ (List.mem_append_left _ (List.mem_append_left _ (List.mem_append_left _ (List.mem_append_left _ (List.mem_append_left _ (List.mem_append_left _ (List.mem_append_left _ (List.mem_append_right _ h))))))))))))))))))))
theorem inX5 : ∀ w ∈ wsX50, w ∈ lw_tbx := fun w h => wsL_law_in w (inlX5 w h)
theorem inlX6 : ∀ w ∈ wsX60, w ∈ wsL_law := fun _ h => List.mem_append_left _ (List.mem_append_left _ (List.mem_append_left _ (List.mem_append_left _ (List.mem_append_left _ (List.mem_append_left _ (List.mem_append_left _ (List.mem_append_left _ (List.mem_append_left _ (List.mem_append_left _ (List.mem_append_left _ (List.mem_append_left _ (List.mem_append_left _ (List.mem_append_left _ (List.mem_append_left _ (List.mem_append_left _ (List.mem_append_right _ h))))))))))))))))
theorem inX6 : ∀ w ∈ wsX60, w ∈ lw_tbx := fun w h => wsL_law_in w (inlX6 w h)
theorem inlX7 : ∀ w ∈ wsX70, w ∈ wsL_law := fun _ h => List.mem_append_left _ (List.mem_append_left _ (List.mem_append_left _ (List.mem_append_left _ (List.mem_append_left _ (List.mem_append_left _ (List.mem_append_left _ (List.mem_append_left _ (List.mem_append_left _ (List.mem_append_left _ (List.mem_append_left _ (List.mem_append_left _ (List.mem_append_left _ (List.mem_append_left _ (List.mem_append_left _ (List.mem_append_left _ (List.mem_append_left _ (List.mem_append_left _ (List.mem_append_left _ (List.mem_append_left _ (List.mem_append_left _ (List.mem_append_right _ h)))))))))))))))))))))
theorem inX7 : ∀ w ∈ wsX70, w ∈ lw_tbx := fun w h => wsL_law_in w (inlX7 w h)
theorem inlX8 : ∀ w ∈ wsX80, w ∈ wsL_law := fun _ h => List.mem_append_left _ (List.mem_append_left _ (List.mem_append_left _ (List.mem_append_left _ (List.mem_append_left _ (List.mem_append_left _ (List.mem_append_left _ (List.mem_append_left _ (List.mem_append_left _ (List.mem_append_left _ (List.mem_append_left _ (List.mem_append_left _ (List.mem_append_left _ (List.mem_append_left _ (List.mem_append_left _ (List.mem_append_left _ (List.mem_append_left _ (List.mem_append_left _ (List.mem_append_left _ (List.mem_append_left _ (List.mem_append_left _ (List.mem_append_left _ (List.mem_append_left _ (List.mem_append_left _ (List.mem_append_left _ (List.mem_append_right _ h)))))))))))))))))))))))))
theorem inX8 : ∀ w ∈ wsX80, w ∈ lw_tbx := fun w h => wsL_law_in w (inlX8 w h)
theorem inlX9 : ∀ w ∈ wsX90, w ∈ wsL_law := fun _ h => List.mem_append_left _ (List.mem_append_left _ (List.mem_append_left _ (List.mem_append_left _ (List.mem_append_left _ (List.mem_append_left _ (List.mem_append_left _ (List.mem_append_left _ (List.mem_append_left _ (List.mem_append_left _ (List.mem_append_left _ (List.mem_append_left _ (List.mem_append_left _ (List.mem_append_left _ (List.mem_append_left _ (List.mem_append_left _ (List.mem_append_left _ (List.mem_append_left _ (List.mem_append_left _ (List.mem_append_left _ (List.mem_append_left _ (List.mem_append_left _ (List.mem_append_left _ (List.mem_append_left _ (List.mem_append_right _ h))))))))))))))))))))))))
theorem inX9 : ∀ w ∈ wsX90, w ∈ lw_tbx := fun w h => wsL_law_in w (inlX9 w h)
theorem inX10 : ∀ w ∈ wsX100, w ∈ lw_tbx := by decide +kernel
theorem inJx145de : ∀ w ∈ wsJx145de0, w ∈ lw_tbx := by decide +kernel
theorem inJ5 : ∀ w ∈ wsJ50, w ∈ lw_tbx := by decide +kernel
theorem inJx2cfe8 : ∀ w ∈ wsJx2cfe80, w ∈ lw_tbx := by decide +kernel
theorem inlJx00060 : ∀ w ∈ wsJx000600, w ∈ wsL_law := fun _ h => List.mem_append_left _ (List.mem_append_left _ (List.mem_append_left _ (List.mem_append_left _ (List.mem_append_left _ (List.mem_append_left _ (List.mem_append_left _ (List.mem_append_left _ (List.mem_append_left _ (List.mem_append_left _ (List.mem_append_left _ (List.mem_append_left _ (List.mem_append_right _ h))))))))))))
theorem inJx00060 : ∀ w ∈ wsJx000600, w ∈ lw_tbx := fun w h => wsL_law_in w (inlJx00060 w h)
theorem inJx9f9b0 : ∀ w ∈ wsJx9f9b00, w ∈ lw_tbx := by decide +kernel
theorem inJx8e188 : ∀ w ∈ wsJx8e1880, w ∈ lw_tbx := by decide +kernel
theorem inJxb160c : ∀ w ∈ wsJxb160c0, w ∈ lw_tbx := by decide +kernel
theorem inJxe99ae : ∀ w ∈ wsJxe99ae0, w ∈ lw_tbx := by decide +kernel
theorem inJxf58ca : ∀ w ∈ wsJxf58ca0, w ∈ lw_tbx := by decide +kernel
theorem inJ6 : ∀ w ∈ wsJ60, w ∈ lw_tbx := by decide +kernel
theorem inJxab1ab : ∀ w ∈ wsJxab1ab0, w ∈ lw_tbx := by decide +kernel
theorem inJ13 : ∀ w ∈ wsJ130, w ∈ lw_tbx := by decide +kernel
theorem inJ9 : ∀ w ∈ wsJ90, w ∈ lw_tbx := by decide +kernel
theorem inJxd2413 : ∀ w ∈ wsJxd24130, w ∈ lw_tbx := by decide +kernel
theorem inlJ0 : ∀ w ∈ wsJ00, w ∈ wsL_law := fun _ h => List.mem_append_left _ (List.mem_append_left _ (List.mem_append_left _ (List.mem_append_left _ (List.mem_append_left _ (List.mem_append_left _ (List.mem_append_left _ (List.mem_append_left _ (List.mem_append_left _ (List.mem_append_left _ (List.mem_append_right _ h))))))))))
theorem inJ0 : ∀ w ∈ wsJ00, w ∈ lw_tbx := fun w h => wsL_law_in w (inlJ0 w h)
theorem inJxe8eeb : ∀ w ∈ wsJxe8eeb0, w ∈ lw_tbx := by decide +kernel
theorem inlJ4 : ∀ w ∈ wsJ40, w ∈ wsL_law := fun _ h => List.mem_append_left _ (List.mem_append_left _ (List.mem_append_left _ (List.mem_append_left _ (List.mem_append_left _ (List.mem_append_left _ (List.mem_append_left _ (List.mem_append_left _ (List.mem_append_left _ (List.mem_append_left _ (List.mem_append_left _ (List.mem_append_left _ (List.mem_append_left _ (List.mem_append_left _ (List.mem_append_left _ (List.mem_append_left _ (List.mem_append_left _ (List.mem_append_left _ (List.mem_append_right _ h))))))))))))))))))
theorem inJ4 : ∀ w ∈ wsJ40, w ∈ lw_tbx := fun w h => wsL_law_in w (inlJ4 w h)
theorem inlJx7c733 : ∀ w ∈ wsJx7c7330, w ∈ wsL_law := fun _ h => List.mem_append_left _ (List.mem_append_left _ (List.mem_append_left _ (List.mem_append_left _ (List.mem_append_left _ (List.mem_append_left _ (List.mem_append_left _ (List.mem_append_left _ (List.mem_append_left _ (List.mem_append_left _ (List.mem_append_left _ (List.mem_append_left _ (List.mem_append_left _ (List.mem_append_right _ h)))))))))))))
theorem inJx7c733 : ∀ w ∈ wsJx7c7330, w ∈ lw_tbx := fun w h => wsL_law_in w (inlJx7c733 w h)
theorem inJ1 : ∀ w ∈ wsJ10, w ∈ lw_tbx := by decide +kernel
theorem inJ2 : ∀ w ∈ wsJ20, w ∈ lw_tbx := by decide +kernel
theorem inJ10 : ∀ w ∈ wsJ100, w ∈ lw_tbx := by decide +kernel
theorem inJxfd54e : ∀ w ∈ wsJxfd54e0, w ∈ lw_tbx := by decide +kernel
theorem inJx3cf43 : ∀ w ∈ wsJx3cf430, w ∈ lw_tbx := by decide +kernel
theorem inJxa1e45 : ∀ w ∈ wsJxa1e450, w ∈ lw_tbx := by decide +kernel
theorem inJxc12de : ∀ w ∈ wsJxc12de0, w ∈ lw_tbx := by decide +kernel
theorem inlJx4a65c : ∀ w ∈ wsJx4a65c0, w ∈ wsL_law := fun _ h => List.mem_append_left _ (List.mem_append_left _ (List.mem_append_left _ (List.mem_append_left _ (List.mem_append_left _ (List.mem_append_left _ (List.mem_append_left _ (List.mem_append_left _ (List.mem_append_left _ (List.mem_append_left _ (List.mem_append_left _ (List.mem_append_left _ (List.mem_append_left _ (List.mem_append_left _ (List.mem_append_left _ (List.mem_append_left _ (List.mem_append_left _ (List.mem_append_left _ (List.mem_append_left _ (List.mem_append_left _ (List.mem_append_left _ (List.mem_append_left _ (List.mem_append_left _ (List.mem_append_right _ h)))))))))))))))))))))))
theorem inJx4a65c : ∀ w ∈ wsJx4a65c0, w ∈ lw_tbx := fun w h => wsL_law_in w (inlJx4a65c w h)
theorem inJ7 : ∀ w ∈ wsJ70, w ∈ lw_tbx := by decide +kernel
theorem inJx5ef63 : ∀ w ∈ wsJx5ef630, w ∈ lw_tbx := by decide +kernel
theorem inJxbd725 : ∀ w ∈ wsJxbd7250, w ∈ lw_tbx := by decide +kernel
theorem inJ15 : ∀ w ∈ wsJ150, w ∈ lw_tbx := by decide +kernel
theorem inJxf0a74 : ∀ w ∈ wsJxf0a740, w ∈ lw_tbx := by decide +kernel
theorem inJxa66e6 : ∀ w ∈ wsJxa66e60, w ∈ lw_tbx := by decide +kernel
theorem inlJx4497a : ∀ w ∈ wsJx4497a0, w ∈ wsL_law := fun _ h => List.mem_append_left _ (List.mem_append_left _ (List.mem_append_left _ (List.mem_append_left _ (List.mem_append_left _ (List.mem_append_left _ (List.mem_append_left _ (List.mem_append_left _ (List.mem_append_left _ (List.mem_append_left _ (List.mem_append_left _ (List.mem_append_right _ h)))))))))))
theorem inJx4497a : ∀ w ∈ wsJx4497a0, w ∈ lw_tbx := fun w h => wsL_law_in w (inlJx4497a w h)
theorem inlJx40b00 : ∀ w ∈ wsJx40b000, w ∈ wsL_law := fun _ h => List.mem_append_left _ (List.mem_append_left _ (List.mem_append_left _ (List.mem_append_left _ (List.mem_append_left _ (List.mem_append_left _ (List.mem_append_left _ (List.mem_append_left _ (List.mem_append_left _ (List.mem_append_right _ h)))))))))
theorem inJx40b00 : ∀ w ∈ wsJx40b000, w ∈ lw_tbx := fun w h => wsL_law_in w (inlJx40b00 w h)
theorem inJx5991d : ∀ w ∈ wsJx5991d0, w ∈ lw_tbx := by decide +kernel
theorem inJx25f51 : ∀ w ∈ wsJx25f510, w ∈ lw_tbx := by decide +kernel
theorem inJ8 : ∀ w ∈ wsJ80, w ∈ lw_tbx := by decide +kernel
theorem inJ3 : ∀ w ∈ wsJ30, w ∈ lw_tbx := by decide +kernel

