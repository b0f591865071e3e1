set_option maxRecDepth 20000 in
theorem lwin_r1 : ∀ w ∈ wsL_law_r1, w ∈ lw_tbl := fun w h => (goodIn_p wsL_law_r1 [697, 56, 59] (by first | rfl | decide +kernel) (by decide +kernel) w h).1
set_option maxRecDepth 20000 in
theorem lwin_r2 : ∀ w ∈ wsL_law_r2, w ∈ lw_tbl := fun w h => (goodIn_p wsL_law_r2 [] (by first | rfl | decide +kernel) (by decide +kernel) w h).1
set_option maxRecDepth 20000 in
theorem lwin_r3 : ∀ w ∈ wsL_law_r3, w ∈ lw_tbl := fun w h => (goodIn_p wsL_law_r3 [64, 75] (by first | rfl | decide +kernel) (by decide +kernel) w h).1
set_option maxRecDepth 20000 in
theorem lwin_r4 : ∀ w ∈ wsL_law_r4, w ∈ lw_tbl := fun w h => (goodIn_p wsL_law_r4 [107, 133, 170] (by first | rfl | decide +kernel) (by decide +kernel) w h).1
set_option maxRecDepth 20000 in
theorem lwin_r5 : ∀ w ∈ wsL_law_r5, w ∈ lw_tbl := fun w h => (goodIn_p wsL_law_r5 [205, 232, 252, 266, 702] (by first | rfl | decide +kernel) (by decide +kernel) w h).1
set_option maxRecDepth 20000 in
theorem lwin_r6 : ∀ w ∈ wsL_law_r6, w ∈ lw_tbl := fun w h => (goodIn_p wsL_law_r6 [706, 322, 326] (by first | rfl | decide +kernel) (by decide +kernel) w h).1
set_option maxRecDepth 20000 in
theorem lwin_r7 : ∀ w ∈ wsL_law_r7, w ∈ lw_tbl := fun w h => (goodIn_p wsL_law_r7 [330, 334, 810, 813, 338, 342] (by first | rfl | decide +kernel) (by decide +kernel) w h).1
set_option maxRecDepth 20000 in
theorem lwin_r8 : ∀ w ∈ wsL_law_r8, w ∈ lw_tbl := fun w h => (goodIn_p wsL_law_r8 [819, 346, 350, 355, 359] (by first | rfl | decide +kernel) (by decide +kernel) w h).1
set_option maxRecDepth 20000 in
theorem lwin_r9 : ∀ w ∈ wsL_law_r9, w ∈ lw_tbl := fun w h => (goodIn_p wsL_law_r9 [363, 367, 371, 377, 381] (by first | rfl | decide +kernel) (by decide +kernel) w h).1
set_option maxRecDepth 20000 in
theorem lwin_r10 : ∀ w ∈ wsL_law_r10, w ∈ lw_tbl := fun w h => (goodIn_p wsL_law_r10 [384, 390, 393, 387, 396, 399] (by first | rfl | decide +kernel) (by decide +kernel) w h).1
set_option maxRecDepth 20000 in
theorem lwin_r11 : ∀ w ∈ wsL_law_r11, w ∈ lw_tbl := fun w h => (goodIn_p wsL_law_r11 [405, 408, 411, 414, 419, 422, 425] (by first | rfl | decide +kernel) (by decide +kernel) w h).1
set_option maxRecDepth 20000 in
theorem lwin_r12 : ∀ w ∈ wsL_law_r12, w ∈ lw_tbl := fun w h => (goodIn_p wsL_law_r12 [434, 437, 440, 444, 823, 827] (by first | rfl | decide +kernel) (by decide +kernel) w h).1
set_option maxRecDepth 20000 in
theorem lwin_r13 : ∀ w ∈ wsL_law_r13, w ∈ lw_tbl := fun w h => (goodIn_p wsL_law_r13 [831, 835, 839, 843, 451, 454] (by first | rfl | decide +kernel) (by decide +kernel) w h).1
set_option maxRecDepth 20000 in
theorem lwin_r14 : ∀ w ∈ wsL_law_r14, w ∈ lw_tbl := fun w h => (goodIn_p wsL_law_r14 [848, 458, 462] (by first | rfl | decide +kernel) (by decide +kernel) w h).1
set_option maxRecDepth 20000 in
theorem lwin_r15 : ∀ w ∈ wsL_law_r15, w ∈ lw_tbl := fun w h => (goodIn_p wsL_law_r15 [468, 475, 480, 485, 852, 856] (by first | rfl | decide +kernel) (by decide +kernel) w h).1
set_option maxRecDepth 20000 in
theorem lwin_r16 : ∀ w ∈ wsL_law_r16, w ∈ lw_tbl := fun w h => (goodIn_p wsL_law_r16 [861, 489, 493, 497] (by first | rfl | decide +kernel) (by decide +kernel) w h).1
set_option maxRecDepth 20000 in
theorem lwin_r17 : ∀ w ∈ wsL_law_r17, w ∈ lw_tbl := fun w h => (goodIn_p wsL_law_r17 [504, 508, 512, 520] (by first | rfl | decide +kernel) (by decide +kernel) w h).1
set_option maxRecDepth 20000 in
theorem lwin_r18 : ∀ w ∈ wsL_law_r18, w ∈ lw_tbl := fun w h => (goodIn_p wsL_law_r18 [865, 869, 874, 525, 529] (by first | rfl | decide +kernel) (by decide +kernel) w h).1
set_option maxRecDepth 20000 in
theorem lwin_r19 : ∀ w ∈ wsL_law_r19, w ∈ lw_tbl := fun w h => (goodIn_p wsL_law_r19 [534, 538, 542, 546] (by first | rfl | decide +kernel) (by decide +kernel) w h).1
set_option maxRecDepth 20000 in
theorem lwin_r20 : ∀ w ∈ wsL_law_r20, w ∈ lw_tbl := fun w h => (goodIn_p wsL_law_r20 [879, 550, 553] (by first | rfl | decide +kernel) (by decide +kernel) w h).1
set_option maxRecDepth 20000 in
theorem lwin_r21 : ∀ w ∈ wsL_law_r21, w ∈ lw_tbl := fun w h => (goodIn_p wsL_law_r21 [557, 561, 565, 569, 573] (by first | rfl | decide +kernel) (by decide +kernel) w h).1
set_option maxRecDepth 20000 in
theorem lwin_r22 : ∀ w ∈ wsL_law_r22, w ∈ lw_tbl := fun w h => (goodIn_p wsL_law_r22 [577, 582, 588, 592, 596] (by first | rfl | decide +kernel) (by decide +kernel) w h).1
set_option maxRecDepth 20000 in
theorem lwin_r23 : ∀ w ∈ wsL_law_r23, w ∈ lw_tbl := fun w h => (goodIn_p wsL_law_r23 [600, 604, 608, 612, 616] (by first | rfl | decide +kernel) (by decide +kernel) w h).1
set_option maxRecDepth 20000 in
theorem lwin_r24 : ∀ w ∈ wsL_law_r24, w ∈ lw_tbl := fun w h => (goodIn_p wsL_law_r24 [620, 625, 628, 631, 883, 887] (by first | rfl | decide +kernel) (by decide +kernel) w h).1
set_option maxRecDepth 20000 in
theorem lwin_r25 : ∀ w ∈ wsL_law_r25, w ∈ lw_tbl := fun w h => (goodIn_p wsL_law_r25 [891, 895, 899, 903, 635] (by first | rfl | decide +kernel) (by decide +kernel) w h).1
set_option maxRecDepth 20000 in
theorem lwin_r26 : ∀ w ∈ wsL_law_r26, w ∈ lw_tbl := fun w h => (goodIn_p wsL_law_r26 [907, 640, 645, 649, 654] (by first | rfl | decide +kernel) (by decide +kernel) w h).1
set_option maxRecDepth 20000 in
theorem lwin_r27 : ∀ w ∈ wsL_law_r27, w ∈ lw_tbl := fun w h => (goodIn_p wsL_law_r27 [911, 658, 662, 916, 666] (by first | rfl | decide +kernel) (by decide +kernel) w h).1
set_option maxRecDepth 20000 in
theorem lwin_r28 : ∀ w ∈ wsL_law_r28, w ∈ lw_tbl := fun w h => (goodIn_p wsL_law_r28 [670, 920, 674, 925, 678] (by first | rfl | decide +kernel) (by decide +kernel) w h).1
set_option maxRecDepth 20000 in
theorem lwin_r29 : ∀ w ∈ wsL_law_r29, w ∈ lw_tbl := fun w h => (goodIn_p wsL_law_r29 [929, 682, 933, 686, 690, 694] (by first | rfl | decide +kernel) (by decide +kernel) w h).1
set_option maxRecDepth 20000 in
theorem lwin_r30 : ∀ w ∈ wsL_law_r30, w ∈ lw_tbl := fun w h => (goodIn_p wsL_law_r30 [937] (by first | rfl | decide +kernel) (by decide +kernel) w h).1
set_option maxRecDepth 20000 in
theorem lwin_X9 : ∀ w ∈ wsX90, w ∈ lw_tbl := fun w h => (goodIn_p wsX90 [] (by first | rfl | decide +kernel) (by decide +kernel) w h).1
set_option maxRecDepth 20000 in
theorem lwin_X10 : ∀ w ∈ wsX100, w ∈ lw_tbl := fun w h => (goodIn_p wsX100 [] (by first | rfl | decide +kernel) (by decide +kernel) w h).1
set_option maxRecDepth 20000 in
theorem lwin_X4 : ∀ w ∈ wsX40, w ∈ lw_tbl := fun w h => (goodIn_p wsX40 [] (by first | rfl | decide +kernel) (by decide +kernel) w h).1
set_option maxRecDepth 20000 in
theorem lwin_X5 : ∀ w ∈ wsX50, w ∈ lw_tbl := fun w h => (goodIn_p wsX50 [] (by first | rfl | decide +kernel) (by decide +kernel) w h).1
set_option maxRecDepth 20000 in
theorem lwin_X1 : ∀ w ∈ wsX10, w ∈ lw_tbl := fun w h => (goodIn_p wsX10 [] (by first | rfl | decide +kernel) (by decide +kernel) w h).1
set_option maxRecDepth 20000 in
theorem lwin_X6 : ∀ w ∈ wsX60, w ∈ lw_tbl := fun w h => (goodIn_p wsX60 [] (by first | rfl | decide +kernel) (by decide +kernel) w h).1
set_option maxRecDepth 20000 in
theorem lwin_X7 : ∀ w ∈ wsX70, w ∈ lw_tbl := fun w h => (goodIn_p wsX70 [] (by first | rfl | decide +kernel) (by decide +kernel) w h).1
set_option maxRecDepth 20000 in
theorem lwin_X0 : ∀ w ∈ wsX00, w ∈ lw_tbl := fun w h => (goodIn_p wsX00 [] (by first | rfl | decide +kernel) (by decide +kernel) w h).1
set_option maxRecDepth 20000 in
theorem lwin_X3 : ∀ w ∈ wsX30, w ∈ lw_tbl := fun w h => (goodIn_p wsX30 [] (by first | rfl | decide +kernel) (by decide +kernel) w h).1
set_option maxRecDepth 20000 in
theorem lwin_X2 : ∀ w ∈ wsX20, w ∈ lw_tbl := fun w h => (goodIn_p wsX20 [] (by first | rfl | decide +kernel) (by decide +kernel) w h).1
set_option maxRecDepth 20000 in
theorem lwin_X8 : ∀ w ∈ wsX80, w ∈ lw_tbl := fun w h => (goodIn_p wsX80 [] (by first | rfl | decide +kernel) (by decide +kernel) w h).1
set_option maxRecDepth 100000 in
theorem wsL_law_in : ∀ w ∈ wsL_law, w ∈ lw_tbl := fun w h => ((List.mem_append.mp h).elim (fun h => ((List.mem_append.mp h).elim (fun h => ((List.mem_append.mp h).elim (fun h => ((List.mem_append.mp h).elim (fun h => ((List.mem_append.mp h).elim (fun h => ((List.mem_append.mp h).elim (fun h => ((List.mem_append.mp h).elim (fun h => ((List.mem_append.mp h).elim (fun h => ((List.mem_append.mp h).elim (fun h => ((List.mem_append.mp h).elim (fun h => ((List.mem_append.mp h).elim (fun h => ((List.mem_append.mp h).elim (fun h => ((List.mem_append.mp h).elim (fun h => (lwin_r1 w h)) (fun h => ((List.mem_append.mp h).elim (fun h => (lwin_r2 w h)) (fun h => ((List.mem_append.mp h).elim (fun h => (lwin_r3 w h)) (fun h => ((List.mem_append.mp h).elim (fun h => (lwin_r4 w h)) (fun h => ((List.mem_append.mp h).elim (fun h => (lwin_r5 w h)) (fun h => ((List.mem_append.mp h).elim (fun h => (lwin_r6 w h)) (fun h => ((List.mem_append.mp h).elim (fun h => (lwin_r7 w h)) (fun h => ((List.mem_append.mp h).elim (fun h => (lwin_r8 w h)) (fun h => ((List.mem_append.mp h).elim (fun h => (lwin_r9 w h)) (fun h => ((List.mem_append.mp h).elim (fun h => (lwin_r10 w h)) (fun h => ((List.mem_append.mp h).elim (fun h => (lwin_r11 w h)) (fun h => ((List.mem_append.mp h).elim (fun h => (lwin_r12 w h)) (fun h => ((List.mem_append.mp h).elim (fun h => (lwin_r13 w h)) (fun h => ((List.mem_append.mp h).elim (fun h => (lwin_r14 w h)) (fun h => ((List.mem_append.mp h).elim (fun h => (lwin_r15 w h)) (fun h => ((List.mem_append.mp h).elim (fun h => (lwin_r16 w h)) (fun h => ((List.mem_append.mp h).elim (fun h => (lwin_r17 w h)) (fun h => ((List.mem_append.mp h).elim (fun h => (lwin_r18 w h)) (fun h => ((List.mem_append.mp h).elim (fun h => (lwin_r19 w h)) (fun h => ((List.mem_append.mp h).elim (fun h => (lwin_r20 w h)) (fun h => ((List.mem_append.mp h).elim (fun h => (lwin_r21 w h)) (fun h => ((List.mem_append.mp h).elim (fun h => (lwin_r22 w h)) (fun h => ((List.mem_append.mp h).elim (fun h => (lwin_r23 w h)) (fun h => ((List.mem_append.mp h).elim (fun h => (lwin_r24 w h)) (fun h => ((List.mem_append.mp h).elim (fun h => (lwin_r25 w h)) (fun h => ((List.mem_append.mp h).elim (fun h => (lwin_r26 w h)) (fun h => ((List.mem_append.mp h).elim (fun h => (lwin_r27 w h)) (fun h => ((List.mem_append.mp h).elim (fun h => (lwin_r28 w h)) (fun h => ((List.mem_append.mp h).elim (fun h => (lwin_r29 w h)) (fun h => (lwin_r30 w h)))))))))))))))))))))))))))))))))))))))))))))))))))))))))))) (fun h => (lwin_X9 w h)))) (fun h => (lwin_X10 w h)))) (fun h => (lwin_X4 w h)))) (fun h => (lwin_X5 w h)))) (fun h => (lwin_X1 w h)))) (fun h => (lwin_X6 w h)))) (fun h => (lwin_X7 w h)))) (fun h => (lwin_X0 w h)))) (fun h => (lwin_X3 w h)))) (fun h => (lwin_X2 w h)))) (fun h => (lwin_X8 w h)))) (fun h => (absurd h List.not_mem_nil)))
