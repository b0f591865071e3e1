set_option maxRecDepth 100000 in
theorem gX9_kept_X3_code : GoodIn wsX9_kept (wsV RX9 193 RX3 yX3_code wsX3_code) := goodIn_app (goodIn_of _ (by decide +kernel)) ggX9_kept_X3_code
theorem dX9_kept_0 : decode cX9_kept 0 = .ok (.iload_n 2, 1) := by decide +kernel
theorem dX9_kept_1 : decode cX9_kept 1 = .ok (.ifCond .lt 27, 3) := by decide +kernel
theorem dX9_kept_4 : decode cX9_kept 4 = .ok (.iload_n 2, 1) := by decide +kernel
theorem dX9_kept_5 : decode cX9_kept 5 = .ok (.aload_n 0, 1) := by decide +kernel
theorem dX9_kept_6 : decode cX9_kept 6 = .ok (.getfield 65, 3) := by decide +kernel
theorem dX9_kept_9 : decode cX9_kept 9 = .ok (.iload_n 1, 1) := by decide +kernel
theorem dX9_kept_10 : decode cX9_kept 10 = .ok (.invokevirtual 190, 3) := by decide +kernel
theorem dX9_kept_13 : decode cX9_kept 13 = .ok (.if_icmp .ge 15, 3) := by decide +kernel
theorem dX9_kept_16 : decode cX9_kept 16 = .ok (.aload_n 0, 1) := by decide +kernel
theorem dX9_kept_17 : decode cX9_kept 17 = .ok (.getfield 65, 3) := by decide +kernel
theorem dX9_kept_20 : decode cX9_kept 20 = .ok (.iload_n 1, 1) := by decide +kernel
theorem dX9_kept_21 : decode cX9_kept 21 = .ok (.iload_n 2, 1) := by decide +kernel
theorem dX9_kept_22 : decode cX9_kept 22 = .ok (.invokevirtual 193, 3) := by decide +kernel
theorem dX9_kept_25 : decode cX9_kept 25 = .ok (.goto 5, 3) := by decide +kernel
theorem dX9_kept_28 : decode cX9_kept 28 = .ok (.bipush (-2), 2) := by decide +kernel
theorem dX9_kept_30 : decode cX9_kept 30 = .ok (.ireturn, 1) := by decide +kernel
set_option maxRecDepth 100000 in
theorem ggX9_echo_X2_has : GoodIn wsX9_echo wsX2_has := goodIn_r _ [6, 7, 26, 27] rfl (by decide +kernel)
set_option maxRecDepth 100000 in
theorem gX9_echo_X2_has : GoodIn wsX9_echo (wsV RX9 195 RX2 yX2_has wsX2_has) := goodIn_app (goodIn_of _ (by decide +kernel)) ggX9_echo_X2_has
set_option maxRecDepth 100000 in
theorem ggX9_echo_X2_code : GoodIn wsX9_echo wsX2_code := goodIn_r _ [11, 12, 26, 27] rfl (by decide +kernel)
set_option maxRecDepth 100000 in
theorem gX9_echo_X2_code : GoodIn wsX9_echo (wsV RX9 198 RX2 yX2_code wsX2_code) := goodIn_app (goodIn_of _ (by decide +kernel)) ggX9_echo_X2_code
theorem dX9_echo_0 : decode cX9_echo 0 = .ok (.aload_n 0, 1) := by decide +kernel
theorem dX9_echo_1 : decode cX9_echo 1 = .ok (.getfield 72, 3) := by decide +kernel
theorem dX9_echo_4 : decode cX9_echo 4 = .ok (.iload_n 1, 1) := by decide +kernel
theorem dX9_echo_5 : decode cX9_echo 5 = .ok (.invokevirtual 195, 3) := by decide +kernel
theorem dX9_echo_8 : decode cX9_echo 8 = .ok (.ifCond .eq 14, 3) := by decide +kernel
theorem dX9_echo_11 : decode cX9_echo 11 = .ok (.aload_n 0, 1) := by decide +kernel
theorem dX9_echo_12 : decode cX9_echo 12 = .ok (.getfield 72, 3) := by decide +kernel
theorem dX9_echo_15 : decode cX9_echo 15 = .ok (.iload_n 1, 1) := by decide +kernel
theorem dX9_echo_16 : decode cX9_echo 16 = .ok (.invokevirtual 198, 3) := by decide +kernel
theorem dX9_echo_19 : decode cX9_echo 19 = .ok (.goto 5, 3) := by decide +kernel
theorem dX9_echo_22 : decode cX9_echo 22 = .ok (.bipush (-2), 2) := by decide +kernel
theorem dX9_echo_24 : decode cX9_echo 24 = .ok (.ireturn, 1) := by decide +kernel
theorem dX9_isCode_0 : decode cX9_isCode 0 = .ok (.iload_n 0, 1) := by decide +kernel
theorem dX9_isCode_1 : decode cX9_isCode 1 = .ok (.ifCond .lt 14, 3) := by decide +kernel
theorem dX9_isCode_4 : decode cX9_isCode 4 = .ok (.iload_n 0, 1) := by decide +kernel
theorem dX9_isCode_5 : decode cX9_isCode 5 = .ok (.sipush 255, 3) := by decide +kernel
theorem dX9_isCode_8 : decode cX9_isCode 8 = .ok (.if_icmp .gt 7, 3) := by decide +kernel
theorem dX9_isCode_11 : decode cX9_isCode 11 = .ok (.iconst 1, 1) := by decide +kernel
theorem dX9_isCode_12 : decode cX9_isCode 12 = .ok (.goto 4, 3) := by decide +kernel
theorem dX9_isCode_15 : decode cX9_isCode 15 = .ok (.iconst 0, 1) := by decide +kernel
theorem dX9_isCode_16 : decode cX9_isCode 16 = .ok (.ireturn, 1) := by decide +kernel
theorem dX9_isStart_0 : decode cX9_isStart 0 = .ok (.iload_n 0, 1) := by decide +kernel
theorem dX9_isStart_1 : decode cX9_isStart 1 = .ok (.ifCond .lt 14, 3) := by decide +kernel
theorem dX9_isStart_4 : decode cX9_isStart 4 = .ok (.iload_n 0, 1) := by decide +kernel
theorem dX9_isStart_5 : decode cX9_isStart 5 = .ok (.sipush 4000, 3) := by decide +kernel
theorem dX9_isStart_8 : decode cX9_isStart 8 = .ok (.if_icmp .gt 7, 3) := by decide +kernel
theorem dX9_isStart_11 : decode cX9_isStart 11 = .ok (.iconst 1, 1) := by decide +kernel
theorem dX9_isStart_12 : decode cX9_isStart 12 = .ok (.goto 4, 3) := by decide +kernel
theorem dX9_isStart_15 : decode cX9_isStart 15 = .ok (.iconst 0, 1) := by decide +kernel
theorem dX9_isStart_16 : decode cX9_isStart 16 = .ok (.ireturn, 1) := by decide +kernel
theorem dX9_countsCodes_0 : decode cX9_countsCodes 0 = .ok (.aload_n 0, 1) := by decide +kernel
theorem dX9_countsCodes_1 : decode cX9_countsCodes 1 = .ok (.getfield 22, 3) := by decide +kernel
theorem dX9_countsCodes_4 : decode cX9_countsCodes 4 = .ok (.iconst 5, 1) := by decide +kernel
theorem dX9_countsCodes_5 : decode cX9_countsCodes 5 = .ok (.if_icmp .lt 7, 3) := by decide +kernel
theorem dX9_countsCodes_8 : decode cX9_countsCodes 8 = .ok (.iconst 1, 1) := by decide +kernel
theorem dX9_countsCodes_9 : decode cX9_countsCodes 9 = .ok (.goto 4, 3) := by decide +kernel
theorem dX9_countsCodes_12 : decode cX9_countsCodes 12 = .ok (.iconst 0, 1) := by decide +kernel
theorem dX9_countsCodes_13 : decode cX9_countsCodes 13 = .ok (.ireturn, 1) := by decide +kernel
set_option maxRecDepth 100000 in
theorem ggX9_press_X9_isEnding : GoodIn wsX9_press wsX9_isEnding := goodIn_r _ [6, 7, 8, 9, 10, 5, 11, 12, 13, 14, 15, 16, 17, 18, 19, 20, 21, 22, 23, 313, 314, 315, 316, 317, 318, 319, 320, 321, 322, 323, 324, 325, 326] rfl (by decide +kernel)
set_option maxRecDepth 100000 in
theorem gX9_press_X9_isEnding : GoodIn wsX9_press (wsV RX9 199 RX9 yX9_isEnding wsX9_isEnding) := goodIn_app (goodIn_of _ (by decide +kernel)) ggX9_press_X9_isEnding
set_option maxRecDepth 100000 in
theorem ggX9_press_X9_endByKey : GoodIn wsX9_press wsX9_endByKey := goodIn_r _ [27, 28, 1, 29, 30, 31, 32, 33, 34, 35, 36, 37, 5, 38, 17, 8, 9, 10, 11, 12, 39, 40, 41, 42, 43, 44, 45, 46, 47, 48, 21, 49, 23, 50, 51, 52, 53, 54, 55, 56, 57, 58, 59, 60, 61, 62, 63, 64, 65, 66, 67, 68, 69, 70, 71, 72, 73, 74, 75, 76, 77, 78, 79, 80, 81, 82, 83, 84, 85, 86, 87, 88, 89, 90, 91, 92, 93, 94, 95, 96, 97, 98, 19, 20, 22, 99, 100, 101, 102, 103, 104, 105, 106, 107, 108, 109, 110, 111, 112, 113, 114, 115, 116, 117, 118, 119, 120, 121, 122, 123, 124, 125, 126, 127, 128, 129, 130, 131, 132, 133, 134, 135, 136, 137, 138, 139, 140, 141, 142, 143, 144, 145, 146, 147, 148, 149, 150, 151, 152, 153, 154, 155, 156, 157, 158, 159, 160, 161, 162, 163, 164, 165, 166, 167, 168, 169, 170, 171, 172, 173, 174, 175, 176, 177, 178, 179, 180, 181, 182, 183, 184, 185, 186, 187, 188, 189, 190, 191, 192, 193, 194, 195, 196, 197, 198, 199, 200, 201, 202, 203, 204, 205, 206, 207, 208, 209, 210, 211, 212, 213, 214, 215, 216, 217, 218, 219, 220, 221, 222, 223, 224, 225, 226, 227, 228, 229, 230, 231, 232, 233, 234, 235, 236, 237, 238, 239, 240, 241, 242, 243, 244, 245, 246, 247, 248, 249, 250, 251, 252, 253, 254, 255, 256, 257, 258, 259, 260, 261, 262, 263, 264, 265, 266, 313, 314, 315, 316, 317, 318, 319, 320, 321, 322, 323, 324, 325, 327, 328, 329, 330, 331, 332, 333, 326, 334, 335, 336, 337, 338, 339, 340, 341, 342, 343, 344, 345, 346, 347, 348, 349, 350, 351, 352, 353, 354, 355, 356, 357, 358, 359, 360, 361, 362] rfl (by decide +kernel)
set_option maxRecDepth 100000 in
theorem gX9_press_X9_endByKey : GoodIn wsX9_press (wsV RX9 202 RX9 yX9_endByKey wsX9_endByKey) := goodIn_app (goodIn_of _ (by decide +kernel)) ggX9_press_X9_endByKey
set_option maxRecDepth 100000 in
theorem ggX9_press_X7_dropLast : GoodIn wsX9_press wsX7_dropLast := goodIn_r _ [270, 44, 327, 328, 329, 330, 331, 332, 333] rfl (by decide +kernel)
set_option maxRecDepth 100000 in
theorem gX9_press_X7_dropLast : GoodIn wsX9_press (wsV RX9 205 RX7 yX7_dropLast wsX7_dropLast) := goodIn_app (goodIn_of _ (by decide +kernel)) ggX9_press_X7_dropLast
set_option maxRecDepth 100000 in
theorem ggX9_press_X9_showOlderLine : GoodIn wsX9_press wsX9_showOlderLine := goodIn_r _ [274, 1, 275, 28, 276, 277, 278, 279, 5, 280, 281, 282, 283, 42, 284, 44, 285, 286, 287, 53, 288, 62, 289, 290, 291, 292, 57, 56, 293, 294, 295, 296, 63, 297, 298, 299, 300, 301, 302, 45, 313, 314, 315, 316, 317, 318, 319, 320, 321, 322, 323, 324, 325, 327, 328, 329, 330, 331, 332, 333, 334, 335, 336, 337] rfl (by decide +kernel)
set_option maxRecDepth 100000 in
theorem gX9_press_X9_showOlderLine : GoodIn wsX9_press (wsV RX9 208 RX9 yX9_showOlderLine wsX9_showOlderLine) := goodIn_app (goodIn_of _ (by decide +kernel)) ggX9_press_X9_showOlderLine
set_option maxRecDepth 100000 in
theorem ggX9_press_X9_showNewerLine : GoodIn wsX9_press wsX9_showNewerLine := goodIn_r _ [306, 1, 275, 277, 278, 279, 5, 280, 28, 281, 282, 283, 42, 284, 44, 285, 286, 287, 53, 288, 62, 289, 290, 291, 292, 57, 56, 293, 294, 295, 296, 63, 297, 298, 299, 300, 301, 302, 45, 313, 314, 315, 316, 317, 318, 319, 320, 321, 322, 323, 324, 325, 327, 328, 329, 330, 331, 332, 333, 334, 335, 336, 337] rfl (by decide +kernel)
set_option maxRecDepth 100000 in
theorem gX9_press_X9_showNewerLine : GoodIn wsX9_press (wsV RX9 211 RX9 yX9_showNewerLine wsX9_showNewerLine) := goodIn_app (goodIn_of _ (by decide +kernel)) ggX9_press_X9_showNewerLine
set_option maxRecDepth 100000 in
theorem ggX9_press_X9_isTypable : GoodIn wsX9_press wsX9_isTypable := goodIn_r _ [309] rfl (by decide +kernel)
set_option maxRecDepth 100000 in
theorem gX9_press_X9_isTypable : GoodIn wsX9_press (va_wsS RX9 214 yX9_isTypable wsX9_isTypable) := goodIn_app (goodIn_of _ (by decide +kernel)) ggX9_press_X9_isTypable
set_option maxRecDepth 100000 in
theorem ggX9_press_X9_lowerCase : GoodIn wsX9_press wsX9_lowerCase := goodIn_r _ [312] rfl (by decide +kernel)
set_option maxRecDepth 100000 in
theorem gX9_press_X9_lowerCase : GoodIn wsX9_press (va_wsS RX9 217 yX9_lowerCase wsX9_lowerCase) := goodIn_app (goodIn_of _ (by decide +kernel)) ggX9_press_X9_lowerCase
set_option maxRecDepth 100000 in
theorem ggX9_press_X7_add : GoodIn wsX9_press wsX7_add := goodIn_r _ [301, 44, 302, 45, 327, 328, 329, 330, 331, 332, 333] rfl (by decide +kernel)
set_option maxRecDepth 100000 in
theorem gX9_press_X7_add : GoodIn wsX9_press (wsV RX9 140 RX7 yX7_add wsX7_add) := goodIn_app (goodIn_of _ (by decide +kernel)) ggX9_press_X7_add
theorem dX9_press_0 : decode cX9_press 0 = .ok (.aload_n 0, 1) := by decide +kernel
theorem dX9_press_1 : decode cX9_press 1 = .ok (.iload_n 1, 1) := by decide +kernel
theorem dX9_press_2 : decode cX9_press 2 = .ok (.invokevirtual 199, 3) := by decide +kernel
theorem dX9_press_5 : decode cX9_press 5 = .ok (.ifCond .eq 9, 3) := by decide +kernel
theorem dX9_press_8 : decode cX9_press 8 = .ok (.aload_n 0, 1) := by decide +kernel
theorem dX9_press_9 : decode cX9_press 9 = .ok (.iload_n 1, 1) := by decide +kernel
theorem dX9_press_10 : decode cX9_press 10 = .ok (.invokevirtual 202, 3) := by decide +kernel
theorem dX9_press_13 : decode cX9_press 13 = .ok (.ireturn, 1) := by decide +kernel
theorem dX9_press_14 : decode cX9_press 14 = .ok (.iload_n 1, 1) := by decide +kernel
theorem dX9_press_15 : decode cX9_press 15 = .ok (.bipush 8, 2) := by decide +kernel
theorem dX9_press_17 : decode cX9_press 17 = .ok (.if_icmp .ne 13, 3) := by decide +kernel
theorem dX9_press_20 : decode cX9_press 20 = .ok (.aload_n 0, 1) := by decide +kernel
theorem dX9_press_21 : decode cX9_press 21 = .ok (.getfield 51, 3) := by decide +kernel
theorem dX9_press_24 : decode cX9_press 24 = .ok (.invokevirtual 205, 3) := by decide +kernel
theorem dX9_press_27 : decode cX9_press 27 = .ok (.goto 49, 3) := by decide +kernel
theorem dX9_press_30 : decode cX9_press 30 = .ok (.iload_n 1, 1) := by decide +kernel
theorem dX9_press_31 : decode cX9_press 31 = .ok (.sipush 129, 3) := by decide +kernel
theorem dX9_press_34 : decode cX9_press 34 = .ok (.if_icmp .ne 10, 3) := by decide +kernel
theorem dX9_press_37 : decode cX9_press 37 = .ok (.aload_n 0, 1) := by decide +kernel
theorem dX9_press_38 : decode cX9_press 38 = .ok (.invokevirtual 208, 3) := by decide +kernel
theorem dX9_press_41 : decode cX9_press 41 = .ok (.goto 35, 3) := by decide +kernel
theorem dX9_press_44 : decode cX9_press 44 = .ok (.iload_n 1, 1) := by decide +kernel
theorem dX9_press_45 : decode cX9_press 45 = .ok (.sipush 130, 3) := by decide +kernel
theorem dX9_press_48 : decode cX9_press 48 = .ok (.if_icmp .ne 10, 3) := by decide +kernel
theorem dX9_press_51 : decode cX9_press 51 = .ok (.aload_n 0, 1) := by decide +kernel
theorem dX9_press_52 : decode cX9_press 52 = .ok (.invokevirtual 211, 3) := by decide +kernel
theorem dX9_press_55 : decode cX9_press 55 = .ok (.goto 21, 3) := by decide +kernel
theorem dX9_press_58 : decode cX9_press 58 = .ok (.iload_n 1, 1) := by decide +kernel
theorem dX9_press_59 : decode cX9_press 59 = .ok (.invokestatic 214, 3) := by decide +kernel
theorem dX9_press_62 : decode cX9_press 62 = .ok (.ifCond .eq 14, 3) := by decide +kernel
theorem dX9_press_65 : decode cX9_press 65 = .ok (.aload_n 0, 1) := by decide +kernel
theorem dX9_press_66 : decode cX9_press 66 = .ok (.getfield 51, 3) := by decide +kernel
theorem dX9_press_69 : decode cX9_press 69 = .ok (.iload_n 1, 1) := by decide +kernel
theorem dX9_press_70 : decode cX9_press 70 = .ok (.invokestatic 217, 3) := by decide +kernel
theorem dX9_press_73 : decode cX9_press 73 = .ok (.invokevirtual 140, 3) := by decide +kernel
theorem dX9_press_76 : decode cX9_press 76 = .ok (.iconst 0, 1) := by decide +kernel
theorem dX9_press_77 : decode cX9_press 77 = .ok (.ireturn, 1) := by decide +kernel
set_option maxRecDepth 100000 in
theorem ggX9_isEnding_X9_countsCodes : GoodIn wsX9_isEnding wsX9_countsCodes := goodIn_r _ [6, 7, 19, 20, 21, 22, 23, 24, 25, 26, 27, 28, 29, 30, 31] rfl (by decide +kernel)
set_option maxRecDepth 100000 in
theorem gX9_isEnding_X9_countsCodes : GoodIn wsX9_isEnding (wsV RX9 126 RX9 yX9_countsCodes wsX9_countsCodes) := goodIn_app (goodIn_of _ (by decide +kernel)) ggX9_isEnding_X9_countsCodes
set_option maxRecDepth 100000 in
theorem ggX9_isEnding_X9_tableHas : GoodIn wsX9_isEnding wsX9_tableHas := goodIn_r _ [11, 1, 12, 13, 14, 15, 16, 17, 18, 19, 20, 21, 22, 23, 24, 25, 26, 27, 28, 29, 30, 31, 32] rfl (by decide +kernel)
set_option maxRecDepth 100000 in
theorem gX9_isEnding_X9_tableHas : GoodIn wsX9_isEnding (wsV RX9 220 RX9 yX9_tableHas wsX9_tableHas) := goodIn_app (goodIn_of _ (by decide +kernel)) ggX9_isEnding_X9_tableHas
theorem dX9_isEnding_0 : decode cX9_isEnding 0 = .ok (.iload_n 1, 1) := by decide +kernel
theorem dX9_isEnding_1 : decode cX9_isEnding 1 = .ok (.bipush 13, 2) := by decide +kernel
theorem dX9_isEnding_3 : decode cX9_isEnding 3 = .ok (.if_icmp .ne 5, 3) := by decide +kernel
theorem dX9_isEnding_6 : decode cX9_isEnding 6 = .ok (.iconst 1, 1) := by decide +kernel
theorem dX9_isEnding_7 : decode cX9_isEnding 7 = .ok (.ireturn, 1) := by decide +kernel
theorem dX9_isEnding_8 : decode cX9_isEnding 8 = .ok (.iload_n 1, 1) := by decide +kernel
theorem dX9_isEnding_9 : decode cX9_isEnding 9 = .ok (.sipush 129, 3) := by decide +kernel
theorem dX9_isEnding_12 : decode cX9_isEnding 12 = .ok (.if_icmp .lt 10, 3) := by decide +kernel
theorem dX9_isEnding_15 : decode cX9_isEnding 15 = .ok (.iload_n 1, 1) := by decide +kernel
theorem dX9_isEnding_16 : decode cX9_isEnding 16 = .ok (.sipush 154, 3) := by decide +kernel
theorem dX9_isEnding_19 : decode cX9_isEnding 19 = .ok (.if_icmp .le 17, 3) := by decide +kernel
theorem dX9_isEnding_22 : decode cX9_isEnding 22 = .ok (.iload_n 1, 1) := by decide +kernel
theorem dX9_isEnding_23 : decode cX9_isEnding 23 = .ok (.sipush 252, 3) := by decide +kernel
theorem dX9_isEnding_26 : decode cX9_isEnding 26 = .ok (.if_icmp .lt 14, 3) := by decide +kernel
theorem dX9_isEnding_29 : decode cX9_isEnding 29 = .ok (.iload_n 1, 1) := by decide +kernel
theorem dX9_isEnding_30 : decode cX9_isEnding 30 = .ok (.sipush 254, 3) := by decide +kernel
theorem dX9_isEnding_33 : decode cX9_isEnding 33 = .ok (.if_icmp .gt 7, 3) := by decide +kernel
theorem dX9_isEnding_36 : decode cX9_isEnding 36 = .ok (.iconst 1, 1) := by decide +kernel
theorem dX9_isEnding_37 : decode cX9_isEnding 37 = .ok (.goto 4, 3) := by decide +kernel
theorem dX9_isEnding_40 : decode cX9_isEnding 40 = .ok (.iconst 0, 1) := by decide +kernel
theorem dX9_isEnding_41 : decode cX9_isEnding 41 = .ok (.istore_n 2, 1) := by decide +kernel
theorem dX9_isEnding_42 : decode cX9_isEnding 42 = .ok (.iload_n 2, 1) := by decide +kernel
theorem dX9_isEnding_43 : decode cX9_isEnding 43 = .ok (.ifCond .eq 29, 3) := by decide +kernel
theorem dX9_isEnding_46 : decode cX9_isEnding 46 = .ok (.aload_n 0, 1) := by decide +kernel
theorem dX9_isEnding_47 : decode cX9_isEnding 47 = .ok (.invokevirtual 126, 3) := by decide +kernel
theorem dX9_isEnding_50 : decode cX9_isEnding 50 = .ok (.ifCond .eq 22, 3) := by decide +kernel
theorem dX9_isEnding_53 : decode cX9_isEnding 53 = .ok (.aload_n 0, 1) := by decide +kernel
theorem dX9_isEnding_54 : decode cX9_isEnding 54 = .ok (.getfield 86, 3) := by decide +kernel
theorem dX9_isEnding_57 : decode cX9_isEnding 57 = .ok (.ifCond .eq 15, 3) := by decide +kernel
theorem dX9_isEnding_60 : decode cX9_isEnding 60 = .ok (.aload_n 0, 1) := by decide +kernel
theorem dX9_isEnding_61 : decode cX9_isEnding 61 = .ok (.iload_n 1, 1) := by decide +kernel
theorem dX9_isEnding_62 : decode cX9_isEnding 62 = .ok (.invokevirtual 220, 3) := by decide +kernel
theorem dX9_isEnding_65 : decode cX9_isEnding 65 = .ok (.ifCond .eq 7, 3) := by decide +kernel
theorem dX9_isEnding_68 : decode cX9_isEnding 68 = .ok (.iconst 1, 1) := by decide +kernel
theorem dX9_isEnding_69 : decode cX9_isEnding 69 = .ok (.goto 4, 3) := by decide +kernel
theorem dX9_isEnding_72 : decode cX9_isEnding 72 = .ok (.iconst 0, 1) := by decide +kernel
theorem dX9_isEnding_73 : decode cX9_isEnding 73 = .ok (.ireturn, 1) := by decide +kernel
set_option maxRecDepth 100000 in
theorem ggX9_tableHas_X4_octet : GoodIn wsX9_tableHas wsX4_octet := goodIn_r _ [7, 8, 22] rfl (by decide +kernel)
set_option maxRecDepth 100000 in
theorem gX9_tableHas_X4_octet : GoodIn wsX9_tableHas (wsV RX9 100 RX4 yX4_octet wsX4_octet) := goodIn_app (goodIn_of _ (by decide +kernel)) ggX9_tableHas_X4_octet
theorem dX9_tableHas_0 : decode cX9_tableHas 0 = .ok (.aload_n 0, 1) := by decide +kernel
theorem dX9_tableHas_1 : decode cX9_tableHas 1 = .ok (.getfield 86, 3) := by decide +kernel
theorem dX9_tableHas_4 : decode cX9_tableHas 4 = .ok (.istore_n 2, 1) := by decide +kernel
theorem dX9_tableHas_5 : decode cX9_tableHas 5 = .ok (.iload_n 2, 1) := by decide +kernel
theorem dX9_tableHas_6 : decode cX9_tableHas 6 = .ok (.sipush 4096, 3) := by decide +kernel
theorem dX9_tableHas_9 : decode cX9_tableHas 9 = .ok (.if_icmp .ge 38, 3) := by decide +kernel
theorem dX9_tableHas_12 : decode cX9_tableHas 12 = .ok (.aload_n 0, 1) := by decide +kernel
theorem dX9_tableHas_13 : decode cX9_tableHas 13 = .ok (.getfield 27, 3) := by decide +kernel
theorem dX9_tableHas_16 : decode cX9_tableHas 16 = .ok (.iload_n 2, 1) := by decide +kernel
theorem dX9_tableHas_17 : decode cX9_tableHas 17 = .ok (.invokevirtual 100, 3) := by decide +kernel
theorem dX9_tableHas_20 : decode cX9_tableHas 20 = .ok (.istore_n 3, 1) := by decide +kernel
theorem dX9_tableHas_21 : decode cX9_tableHas 21 = .ok (.iload_n 3, 1) := by decide +kernel
theorem dX9_tableHas_22 : decode cX9_tableHas 22 = .ok (.ifCond .ne 5, 3) := by decide +kernel
theorem dX9_tableHas_25 : decode cX9_tableHas 25 = .ok (.iconst 0, 1) := by decide +kernel
theorem dX9_tableHas_26 : decode cX9_tableHas 26 = .ok (.ireturn, 1) := by decide +kernel
theorem dX9_tableHas_27 : decode cX9_tableHas 27 = .ok (.iload_n 3, 1) := by decide +kernel
theorem dX9_tableHas_28 : decode cX9_tableHas 28 = .ok (.iload_n 1, 1) := by decide +kernel
theorem dX9_tableHas_29 : decode cX9_tableHas 29 = .ok (.if_icmp .eq 10, 3) := by decide +kernel
theorem dX9_tableHas_32 : decode cX9_tableHas 32 = .ok (.iload_n 3, 1) := by decide +kernel
theorem dX9_tableHas_33 : decode cX9_tableHas 33 = .ok (.sipush 255, 3) := by decide +kernel
theorem dX9_tableHas_36 : decode cX9_tableHas 36 = .ok (.if_icmp .ne 5, 3) := by decide +kernel
theorem dX9_tableHas_39 : decode cX9_tableHas 39 = .ok (.iconst 1, 1) := by decide +kernel
theorem dX9_tableHas_40 : decode cX9_tableHas 40 = .ok (.ireturn, 1) := by decide +kernel
theorem dX9_tableHas_41 : decode cX9_tableHas 41 = .ok (.iinc 2 1, 3) := by decide +kernel
theorem dX9_tableHas_44 : decode cX9_tableHas 44 = .ok (.goto (-39), 3) := by decide +kernel
theorem dX9_tableHas_47 : decode cX9_tableHas 47 = .ok (.iconst 0, 1) := by decide +kernel
theorem dX9_tableHas_48 : decode cX9_tableHas 48 = .ok (.ireturn, 1) := by decide +kernel
theorem dX9_isTypable_0 : decode cX9_isTypable 0 = .ok (.iload_n 0, 1) := by decide +kernel
theorem dX9_isTypable_1 : decode cX9_isTypable 1 = .ok (.bipush 32, 2) := by decide +kernel
theorem dX9_isTypable_3 : decode cX9_isTypable 3 = .ok (.if_icmp .lt 9, 3) := by decide +kernel
theorem dX9_isTypable_6 : decode cX9_isTypable 6 = .ok (.iload_n 0, 1) := by decide +kernel
theorem dX9_isTypable_7 : decode cX9_isTypable 7 = .ok (.bipush 126, 2) := by decide +kernel
theorem dX9_isTypable_9 : decode cX9_isTypable 9 = .ok (.if_icmp .le 17, 3) := by decide +kernel
theorem dX9_isTypable_12 : decode cX9_isTypable 12 = .ok (.iload_n 0, 1) := by decide +kernel
theorem dX9_isTypable_13 : decode cX9_isTypable 13 = .ok (.sipush 155, 3) := by decide +kernel
theorem dX9_isTypable_16 : decode cX9_isTypable 16 = .ok (.if_icmp .lt 14, 3) := by decide +kernel
theorem dX9_isTypable_19 : decode cX9_isTypable 19 = .ok (.iload_n 0, 1) := by decide +kernel
theorem dX9_isTypable_20 : decode cX9_isTypable 20 = .ok (.sipush 251, 3) := by decide +kernel
theorem dX9_isTypable_23 : decode cX9_isTypable 23 = .ok (.if_icmp .gt 7, 3) := by decide +kernel
theorem dX9_isTypable_26 : decode cX9_isTypable 26 = .ok (.iconst 1, 1) := by decide +kernel
theorem dX9_isTypable_27 : decode cX9_isTypable 27 = .ok (.goto 4, 3) := by decide +kernel
theorem dX9_isTypable_30 : decode cX9_isTypable 30 = .ok (.iconst 0, 1) := by decide +kernel
theorem dX9_isTypable_31 : decode cX9_isTypable 31 = .ok (.ireturn, 1) := by decide +kernel
theorem dX9_lowerCase_0 : decode cX9_lowerCase 0 = .ok (.iload_n 0, 1) := by decide +kernel
theorem dX9_lowerCase_1 : decode cX9_lowerCase 1 = .ok (.bipush 65, 2) := by decide +kernel
theorem dX9_lowerCase_3 : decode cX9_lowerCase 3 = .ok (.if_icmp .lt 19, 3) := by decide +kernel
theorem dX9_lowerCase_6 : decode cX9_lowerCase 6 = .ok (.iload_n 0, 1) := by decide +kernel
theorem dX9_lowerCase_7 : decode cX9_lowerCase 7 = .ok (.bipush 90, 2) := by decide +kernel
theorem dX9_lowerCase_9 : decode cX9_lowerCase 9 = .ok (.if_icmp .gt 13, 3) := by decide +kernel
theorem dX9_lowerCase_12 : decode cX9_lowerCase 12 = .ok (.iload_n 0, 1) := by decide +kernel
theorem dX9_lowerCase_13 : decode cX9_lowerCase 13 = .ok (.bipush 65, 2) := by decide +kernel
theorem dX9_lowerCase_15 : decode cX9_lowerCase 15 = .ok (.isub, 1) := by decide +kernel
theorem dX9_lowerCase_16 : decode cX9_lowerCase 16 = .ok (.bipush 97, 2) := by decide +kernel
theorem dX9_lowerCase_18 : decode cX9_lowerCase 18 = .ok (.iadd, 1) := by decide +kernel
theorem dX9_lowerCase_19 : decode cX9_lowerCase 19 = .ok (.goto 4, 3) := by decide +kernel
theorem dX9_lowerCase_22 : decode cX9_lowerCase 22 = .ok (.iload_n 0, 1) := by decide +kernel
theorem dX9_lowerCase_23 : decode cX9_lowerCase 23 = .ok (.ireturn, 1) := by decide +kernel
set_option maxRecDepth 100000 in
theorem ggX9_showOlderLine_X9_showLine : GoodIn wsX9_showOlderLine wsX9_showLine := goodIn_r _ [9, 1, 3, 2, 10, 11, 12, 13, 14, 15, 16, 17, 18, 19, 20, 21, 22, 23, 24, 25, 26, 27, 28, 29, 30, 31, 32, 33, 34, 35, 36, 37, 38, 39, 40, 41, 42, 43, 44, 45, 46, 47, 48, 49, 50, 51, 52, 53, 54, 55, 56, 57, 58, 59, 60, 61, 62, 63] rfl (by decide +kernel)
set_option maxRecDepth 100000 in
theorem gX9_showOlderLine_X9_showLine : GoodIn wsX9_showOlderLine (wsV RX9 226 RX9 yX9_showLine wsX9_showLine) := goodIn_app (goodIn_of _ (by decide +kernel)) ggX9_showOlderLine_X9_showLine
theorem dX9_showOlderLine_0 : decode cX9_showOlderLine 0 = .ok (.aload_n 0, 1) := by decide +kernel
theorem dX9_showOlderLine_1 : decode cX9_showOlderLine 1 = .ok (.getfield 51, 3) := by decide +kernel
theorem dX9_showOlderLine_4 : decode cX9_showOlderLine 4 = .ok (.getfield 223, 3) := by decide +kernel
theorem dX9_showOlderLine_7 : decode cX9_showOlderLine 7 = .ok (.iconst 1, 1) := by decide +kernel
theorem dX9_showOlderLine_8 : decode cX9_showOlderLine 8 = .ok (.iadd, 1) := by decide +kernel
theorem dX9_showOlderLine_9 : decode cX9_showOlderLine 9 = .ok (.istore_n 1, 1) := by decide +kernel
theorem dX9_showOlderLine_10 : decode cX9_showOlderLine 10 = .ok (.iload_n 1, 1) := by decide +kernel
theorem dX9_showOlderLine_11 : decode cX9_showOlderLine 11 = .ok (.aload_n 0, 1) := by decide +kernel
theorem dX9_showOlderLine_12 : decode cX9_showOlderLine 12 = .ok (.getfield 65, 3) := by decide +kernel
theorem dX9_showOlderLine_15 : decode cX9_showOlderLine 15 = .ok (.getfield 183, 3) := by decide +kernel
theorem dX9_showOlderLine_18 : decode cX9_showOlderLine 18 = .ok (.if_icmp .ge 8, 3) := by decide +kernel
theorem dX9_showOlderLine_21 : decode cX9_showOlderLine 21 = .ok (.aload_n 0, 1) := by decide +kernel
theorem dX9_showOlderLine_22 : decode cX9_showOlderLine 22 = .ok (.iload_n 1, 1) := by decide +kernel
theorem dX9_showOlderLine_23 : decode cX9_showOlderLine 23 = .ok (.invokevirtual 226, 3) := by decide +kernel
theorem dX9_showOlderLine_26 : decode cX9_showOlderLine 26 = .ok (.return_, 1) := by decide +kernel
set_option maxRecDepth 100000 in
theorem ggX9_showNewerLine_X9_showLine : GoodIn wsX9_showNewerLine wsX9_showLine := goodIn_r _ [7, 1, 8, 2, 9, 10, 11, 12, 13, 14, 15, 16, 17, 18, 19, 20, 21, 22, 23, 24, 25, 26, 27, 28, 29, 30, 31, 32, 33, 34, 35, 36, 37, 38, 39, 40, 41, 42, 43, 44, 45, 46, 47, 48, 49, 50, 51, 52, 53, 54, 55, 56, 57, 58, 59, 60, 61, 62] rfl (by decide +kernel)
set_option maxRecDepth 100000 in
theorem gX9_showNewerLine_X9_showLine : GoodIn wsX9_showNewerLine (wsV RX9 226 RX9 yX9_showLine wsX9_showLine) := goodIn_app (goodIn_of _ (by decide +kernel)) ggX9_showNewerLine_X9_showLine
theorem dX9_showNewerLine_0 : decode cX9_showNewerLine 0 = .ok (.aload_n 0, 1) := by decide +kernel
theorem dX9_showNewerLine_1 : decode cX9_showNewerLine 1 = .ok (.getfield 51, 3) := by decide +kernel
theorem dX9_showNewerLine_4 : decode cX9_showNewerLine 4 = .ok (.getfield 223, 3) := by decide +kernel
theorem dX9_showNewerLine_7 : decode cX9_showNewerLine 7 = .ok (.iconst (-1), 1) := by decide +kernel
theorem dX9_showNewerLine_8 : decode cX9_showNewerLine 8 = .ok (.if_icmp .eq 16, 3) := by decide +kernel
theorem dX9_showNewerLine_11 : decode cX9_showNewerLine 11 = .ok (.aload_n 0, 1) := by decide +kernel
theorem dX9_showNewerLine_12 : decode cX9_showNewerLine 12 = .ok (.aload_n 0, 1) := by decide +kernel
theorem dX9_showNewerLine_13 : decode cX9_showNewerLine 13 = .ok (.getfield 51, 3) := by decide +kernel
theorem dX9_showNewerLine_16 : decode cX9_showNewerLine 16 = .ok (.getfield 223, 3) := by decide +kernel
theorem dX9_showNewerLine_19 : decode cX9_showNewerLine 19 = .ok (.iconst 1, 1) := by decide +kernel
theorem dX9_showNewerLine_20 : decode cX9_showNewerLine 20 = .ok (.isub, 1) := by decide +kernel
theorem dX9_showNewerLine_21 : decode cX9_showNewerLine 21 = .ok (.invokevirtual 226, 3) := by decide +kernel
theorem dX9_showNewerLine_24 : decode cX9_showNewerLine 24 = .ok (.return_, 1) := by decide +kernel
set_option maxRecDepth 100000 in
theorem ggX9_showLine_X7_clear : GoodIn wsX9_showLine wsX7_clear := goodIn_r _ [8, 9, 47, 48, 49, 50, 51, 52, 53] rfl (by decide +kernel)
set_option maxRecDepth 100000 in
theorem gX9_showLine_X7_clear : GoodIn wsX9_showLine (wsV RX9 229 RX7 yX7_clear wsX7_clear) := goodIn_app (goodIn_of _ (by decide +kernel)) ggX9_showLine_X7_clear
set_option maxRecDepth 100000 in
theorem ggX9_showLine_X3_length : GoodIn wsX9_showLine wsX3_length := goodIn_r _ [14, 15, 16, 17, 18, 13, 19, 20, 21, 54, 55, 56, 57] rfl (by decide +kernel)
set_option maxRecDepth 100000 in
theorem gX9_showLine_X3_length : GoodIn wsX9_showLine (wsV RX9 190 RX3 yX3_length wsX3_length) := goodIn_app (goodIn_of _ (by decide +kernel)) ggX9_showLine_X3_length
set_option maxRecDepth 100000 in
theorem ggX9_showLine_X3_code : GoodIn wsX9_showLine wsX3_code := goodIn_r _ [25, 26, 16, 17, 18, 13, 19, 20, 21, 27, 11, 12, 14, 15, 54, 55, 56, 57] rfl (by decide +kernel)
set_option maxRecDepth 100000 in
theorem gX9_showLine_X3_code : GoodIn wsX9_showLine (wsV RX9 193 RX3 yX3_code wsX3_code) := goodIn_app (goodIn_of _ (by decide +kernel)) ggX9_showLine_X3_code
set_option maxRecDepth 100000 in
theorem ggX9_showLine_X7_add : GoodIn wsX9_showLine wsX7_add := goodIn_r _ [31, 9, 32, 33, 47, 48, 49, 50, 51, 52, 53] rfl (by decide +kernel)
set_option maxRecDepth 100000 in
theorem gX9_showLine_X7_add : GoodIn wsX9_showLine (wsV RX9 140 RX7 yX7_add wsX7_add) := goodIn_app (goodIn_of _ (by decide +kernel)) ggX9_showLine_X7_add
theorem dX9_showLine_0 : decode cX9_showLine 0 = .ok (.aload_n 0, 1) := by decide +kernel
theorem dX9_showLine_1 : decode cX9_showLine 1 = .ok (.getfield 51, 3) := by decide +kernel
theorem dX9_showLine_4 : decode cX9_showLine 4 = .ok (.invokevirtual 229, 3) := by decide +kernel
theorem dX9_showLine_7 : decode cX9_showLine 7 = .ok (.aload_n 0, 1) := by decide +kernel
theorem dX9_showLine_8 : decode cX9_showLine 8 = .ok (.getfield 65, 3) := by decide +kernel
theorem dX9_showLine_11 : decode cX9_showLine 11 = .ok (.iload_n 1, 1) := by decide +kernel
theorem dX9_showLine_12 : decode cX9_showLine 12 = .ok (.invokevirtual 190, 3) := by decide +kernel
theorem dX9_showLine_15 : decode cX9_showLine 15 = .ok (.istore_n 2, 1) := by decide +kernel
theorem dX9_showLine_16 : decode cX9_showLine 16 = .ok (.iconst 0, 1) := by decide +kernel
theorem dX9_showLine_17 : decode cX9_showLine 17 = .ok (.istore_n 3, 1) := by decide +kernel
theorem dX9_showLine_18 : decode cX9_showLine 18 = .ok (.iload_n 3, 1) := by decide +kernel
theorem dX9_showLine_19 : decode cX9_showLine 19 = .ok (.iload_n 2, 1) := by decide +kernel
theorem dX9_showLine_20 : decode cX9_showLine 20 = .ok (.if_icmp .ge 25, 3) := by decide +kernel
theorem dX9_showLine_23 : decode cX9_showLine 23 = .ok (.aload_n 0, 1) := by decide +kernel
theorem dX9_showLine_24 : decode cX9_showLine 24 = .ok (.getfield 51, 3) := by decide +kernel
theorem dX9_showLine_27 : decode cX9_showLine 27 = .ok (.aload_n 0, 1) := by decide +kernel
theorem dX9_showLine_28 : decode cX9_showLine 28 = .ok (.getfield 65, 3) := by decide +kernel
theorem dX9_showLine_31 : decode cX9_showLine 31 = .ok (.iload_n 1, 1) := by decide +kernel
theorem dX9_showLine_32 : decode cX9_showLine 32 = .ok (.iload_n 3, 1) := by decide +kernel
theorem dX9_showLine_33 : decode cX9_showLine 33 = .ok (.invokevirtual 193, 3) := by decide +kernel
theorem dX9_showLine_36 : decode cX9_showLine 36 = .ok (.invokevirtual 140, 3) := by decide +kernel
theorem dX9_showLine_39 : decode cX9_showLine 39 = .ok (.iinc 3 1, 3) := by decide +kernel
theorem dX9_showLine_42 : decode cX9_showLine 42 = .ok (.goto (-24), 3) := by decide +kernel
theorem dX9_showLine_45 : decode cX9_showLine 45 = .ok (.aload_n 0, 1) := by decide +kernel
theorem dX9_showLine_46 : decode cX9_showLine 46 = .ok (.getfield 51, 3) := by decide +kernel
theorem dX9_showLine_49 : decode cX9_showLine 49 = .ok (.iload_n 1, 1) := by decide +kernel
theorem dX9_showLine_50 : decode cX9_showLine 50 = .ok (.putfield 223, 3) := by decide +kernel
theorem dX9_showLine_53 : decode cX9_showLine 53 = .ok (.return_, 1) := by decide +kernel
set_option maxRecDepth 100000 in
theorem ggX9_endByKey_X9_layDownCodes : GoodIn wsX9_endByKey wsX9_layDownCodes := goodIn_r _ [13, 2, 7, 3, 14, 15, 16, 17, 12, 18, 19, 20, 21, 22, 23, 24, 25, 26, 27, 28, 29, 30, 31, 32, 253, 254, 255, 256, 257, 258, 259, 260, 261, 262, 263, 264, 265, 266, 267, 268, 269, 270, 271, 272, 273] rfl (by decide +kernel)
set_option maxRecDepth 100000 in
theorem gX9_endByKey_X9_layDownCodes : GoodIn wsX9_endByKey (wsV RX9 232 RX9 yX9_layDownCodes wsX9_layDownCodes) := goodIn_app (goodIn_of _ (by decide +kernel)) ggX9_endByKey_X9_layDownCodes
set_option maxRecDepth 100000 in
theorem ggX9_endByKey_X3_keep : GoodIn wsX9_endByKey wsX3_keep := goodIn_r _ [37, 38, 39, 40, 41, 42, 43, 44, 45, 46, 47, 21, 22, 23, 24, 25, 26, 266, 267, 268, 269, 270, 271, 272, 274, 275, 276, 277] rfl (by decide +kernel)
set_option maxRecDepth 100000 in
theorem gX9_endByKey_X3_keep : GoodIn wsX9_endByKey (wsV RX9 235 RX3 yX3_keep wsX3_keep) := goodIn_app (goodIn_of _ (by decide +kernel)) ggX9_endByKey_X3_keep
set_option maxRecDepth 100000 in
theorem ggX9_endByKey_X7_code : GoodIn wsX9_endByKey wsX7_code := goodIn_r _ [24, 25, 26, 266, 267, 268, 269, 270, 271, 272] rfl (by decide +kernel)
set_option maxRecDepth 100000 in
theorem gX9_endByKey_X7_code : GoodIn wsX9_endByKey (wsV RX9 187 RX7 yX7_code wsX7_code) := goodIn_app (goodIn_of _ (by decide +kernel)) ggX9_endByKey_X7_code
set_option maxRecDepth 100000 in
theorem ggX9_endByKey_X2_add : GoodIn wsX9_endByKey wsX2_add := goodIn_r _ [52, 53, 54, 278, 279] rfl (by decide +kernel)
set_option maxRecDepth 100000 in
theorem gX9_endByKey_X2_add : GoodIn wsX9_endByKey (wsV RX9 239 RX2 yX2_add wsX2_add) := goodIn_app (goodIn_of _ (by decide +kernel)) ggX9_endByKey_X2_add
set_option maxRecDepth 100000 in
theorem ggX9_endByKey_X9_close : GoodIn wsX9_endByKey wsX9_close := goodIn_r _ [58, 2, 59, 60, 253, 254, 255, 256, 257, 258, 259, 260, 261, 262, 263, 264, 265, 266, 267, 268, 269, 270, 271, 272] rfl (by decide +kernel)
set_option maxRecDepth 100000 in
theorem gX9_endByKey_X9_close : GoodIn wsX9_endByKey (wsV RX9 240 RX9 yX9_close wsX9_close) := goodIn_app (goodIn_of _ (by decide +kernel)) ggX9_endByKey_X9_close
set_option maxRecDepth 100000 in
theorem ggX9_endByKey_X6_run : GoodIn wsX9_endByKey wsX6_run := goodIn_r _ [65, 66, 67, 68, 69, 42, 43, 44, 70, 71, 72, 73, 74, 75, 76, 64, 77, 78, 79, 80, 81, 82, 83, 30, 84, 32, 85, 86, 87, 88, 89, 90, 91, 92, 93, 94, 95, 96, 97, 98, 99, 100, 101, 102, 103, 104, 105, 106, 107, 108, 109, 110, 111, 112, 113, 114, 115, 116, 117, 118, 119, 120, 121, 122, 123, 124, 125, 126, 127, 128, 129, 130, 131, 132, 133, 134, 135, 136, 137, 138, 139, 140, 141, 142, 143, 144, 145, 146, 147, 148, 149, 150, 151, 152, 153, 154, 155, 156, 157, 158, 159, 160, 161, 162, 163, 164, 165, 166, 167, 168, 169, 170, 171, 172, 173, 174, 175, 176, 177, 178, 179, 180, 181, 182, 183, 184, 185, 186, 187, 188, 189, 190, 191, 192, 193, 194, 195, 196, 197, 198, 199, 200, 201, 202, 203, 204, 205, 206, 207, 208, 209, 210, 211, 212, 213, 214, 215, 216, 217, 218, 219, 220, 221, 222, 223, 224, 225, 226, 227, 228, 229, 230, 231, 232, 233, 234, 235, 236, 237, 238, 239, 240, 241, 242, 243, 28, 29, 31, 244, 245, 246, 247, 248, 249, 250, 251, 252, 280, 281, 282, 283, 284, 285, 286, 287, 288, 289, 273, 290, 291, 292, 293, 294, 295, 296, 297, 298, 299, 300, 301, 302] rfl (by decide +kernel)
set_option maxRecDepth 100000 in
theorem gX9_endByKey_X6_run : GoodIn wsX9_endByKey (wsV RX9 119 RX6 yX6_run wsX6_run) := goodIn_app (goodIn_of _ (by decide +kernel)) ggX9_endByKey_X6_run
theorem dX9_endByKey_0 : decode cX9_endByKey 0 = .ok (.aload_n 0, 1) := by decide +kernel
theorem dX9_endByKey_1 : decode cX9_endByKey 1 = .ok (.invokevirtual 232, 3) := by decide +kernel
theorem dX9_endByKey_4 : decode cX9_endByKey 4 = .ok (.aload_n 0, 1) := by decide +kernel
theorem dX9_endByKey_5 : decode cX9_endByKey 5 = .ok (.getfield 65, 3) := by decide +kernel
theorem dX9_endByKey_8 : decode cX9_endByKey 8 = .ok (.aload_n 0, 1) := by decide +kernel
theorem dX9_endByKey_9 : decode cX9_endByKey 9 = .ok (.getfield 51, 3) := by decide +kernel
theorem dX9_endByKey_12 : decode cX9_endByKey 12 = .ok (.invokevirtual 235, 3) := by decide +kernel
theorem dX9_endByKey_15 : decode cX9_endByKey 15 = .ok (.iconst 0, 1) := by decide +kernel
theorem dX9_endByKey_16 : decode cX9_endByKey 16 = .ok (.istore_n 2, 1) := by decide +kernel
theorem dX9_endByKey_17 : decode cX9_endByKey 17 = .ok (.iload_n 2, 1) := by decide +kernel
theorem dX9_endByKey_18 : decode cX9_endByKey 18 = .ok (.aload_n 0, 1) := by decide +kernel
theorem dX9_endByKey_19 : decode cX9_endByKey 19 = .ok (.getfield 51, 3) := by decide +kernel
theorem dX9_endByKey_22 : decode cX9_endByKey 22 = .ok (.getfield 179, 3) := by decide +kernel
theorem dX9_endByKey_25 : decode cX9_endByKey 25 = .ok (.if_icmp .ge 24, 3) := by decide +kernel
theorem dX9_endByKey_28 : decode cX9_endByKey 28 = .ok (.aload_n 0, 1) := by decide +kernel
theorem dX9_endByKey_29 : decode cX9_endByKey 29 = .ok (.getfield 72, 3) := by decide +kernel
theorem dX9_endByKey_32 : decode cX9_endByKey 32 = .ok (.aload_n 0, 1) := by decide +kernel
theorem dX9_endByKey_33 : decode cX9_endByKey 33 = .ok (.getfield 51, 3) := by decide +kernel
theorem dX9_endByKey_36 : decode cX9_endByKey 36 = .ok (.iload_n 2, 1) := by decide +kernel
theorem dX9_endByKey_37 : decode cX9_endByKey 37 = .ok (.invokevirtual 187, 3) := by decide +kernel
theorem dX9_endByKey_40 : decode cX9_endByKey 40 = .ok (.invokevirtual 239, 3) := by decide +kernel
theorem dX9_endByKey_43 : decode cX9_endByKey 43 = .ok (.iinc 2 1, 3) := by decide +kernel
theorem dX9_endByKey_46 : decode cX9_endByKey 46 = .ok (.goto (-29), 3) := by decide +kernel
theorem dX9_endByKey_49 : decode cX9_endByKey 49 = .ok (.aload_n 0, 1) := by decide +kernel
theorem dX9_endByKey_50 : decode cX9_endByKey 50 = .ok (.getfield 72, 3) := by decide +kernel
theorem dX9_endByKey_53 : decode cX9_endByKey 53 = .ok (.bipush 13, 2) := by decide +kernel
theorem dX9_endByKey_55 : decode cX9_endByKey 55 = .ok (.invokevirtual 239, 3) := by decide +kernel
theorem dX9_endByKey_58 : decode cX9_endByKey 58 = .ok (.aload_n 0, 1) := by decide +kernel
theorem dX9_endByKey_59 : decode cX9_endByKey 59 = .ok (.iload_n 1, 1) := by decide +kernel
theorem dX9_endByKey_60 : decode cX9_endByKey 60 = .ok (.invokevirtual 240, 3) := by decide +kernel
theorem dX9_endByKey_63 : decode cX9_endByKey 63 = .ok (.aload_n 0, 1) := by decide +kernel
theorem dX9_endByKey_64 : decode cX9_endByKey 64 = .ok (.getfield 51, 3) := by decide +kernel
theorem dX9_endByKey_67 : decode cX9_endByKey 67 = .ok (.getfield 243, 3) := by decide +kernel
theorem dX9_endByKey_70 : decode cX9_endByKey 70 = .ok (.ifCond .ne 5, 3) := by decide +kernel
theorem dX9_endByKey_73 : decode cX9_endByKey 73 = .ok (.iconst 1, 1) := by decide +kernel
theorem dX9_endByKey_74 : decode cX9_endByKey 74 = .ok (.ireturn, 1) := by decide +kernel
theorem dX9_endByKey_75 : decode cX9_endByKey 75 = .ok (.aload_n 0, 1) := by decide +kernel
theorem dX9_endByKey_76 : decode cX9_endByKey 76 = .ok (.getfield 44, 3) := by decide +kernel
theorem dX9_endByKey_79 : decode cX9_endByKey 79 = .ok (.aload_n 0, 1) := by decide +kernel
theorem dX9_endByKey_80 : decode cX9_endByKey 80 = .ok (.getfield 51, 3) := by decide +kernel
theorem dX9_endByKey_83 : decode cX9_endByKey 83 = .ok (.getfield 246, 3) := by decide +kernel
theorem dX9_endByKey_86 : decode cX9_endByKey 86 = .ok (.aload_n 0, 1) := by decide +kernel
theorem dX9_endByKey_87 : decode cX9_endByKey 87 = .ok (.getfield 51, 3) := by decide +kernel
theorem dX9_endByKey_90 : decode cX9_endByKey 90 = .ok (.getfield 243, 3) := by decide +kernel
theorem dX9_endByKey_93 : decode cX9_endByKey 93 = .ok (.aload_n 0, 1) := by decide +kernel
theorem dX9_endByKey_94 : decode cX9_endByKey 94 = .ok (.getfield 83, 3) := by decide +kernel
theorem dX9_endByKey_97 : decode cX9_endByKey 97 = .ok (.iconst 0, 1) := by decide +kernel
theorem dX9_endByKey_98 : decode cX9_endByKey 98 = .ok (.invokevirtual 119, 3) := by decide +kernel
theorem dX9_endByKey_101 : decode cX9_endByKey 101 = .ok (.istore_n 2, 1) := by decide +kernel
theorem dX9_endByKey_102 : decode cX9_endByKey 102 = .ok (.iload_n 2, 1) := by decide +kernel
theorem dX9_endByKey_103 : decode cX9_endByKey 103 = .ok (.bipush (-3), 2) := by decide +kernel
theorem dX9_endByKey_105 : decode cX9_endByKey 105 = .ok (.if_icmp .ne 8, 3) := by decide +kernel
theorem dX9_endByKey_108 : decode cX9_endByKey 108 = .ok (.bipush (-3), 2) := by decide +kernel
theorem dX9_endByKey_110 : decode cX9_endByKey 110 = .ok (.goto 4, 3) := by decide +kernel
theorem dX9_endByKey_113 : decode cX9_endByKey 113 = .ok (.iconst 1, 1) := by decide +kernel
theorem dX9_endByKey_114 : decode cX9_endByKey 114 = .ok (.ireturn, 1) := by decide +kernel
set_option maxRecDepth 100000 in
theorem ggX9_endByClock_X7_clear : GoodIn wsX9_endByClock wsX7_clear := goodIn_r _ [6, 7, 51, 52, 53, 54, 55, 56, 57] rfl (by decide +kernel)
set_option maxRecDepth 100000 in
theorem gX9_endByClock_X7_clear : GoodIn wsX9_endByClock (wsV RX9 229 RX7 yX7_clear wsX7_clear) := goodIn_app (goodIn_of _ (by decide +kernel)) ggX9_endByClock_X7_clear
set_option maxRecDepth 100000 in
theorem ggX9_endByClock_X9_layDownCodes : GoodIn wsX9_endByClock wsX9_layDownCodes := goodIn_r _ [12, 1, 13, 14, 15, 16, 17, 18, 11, 19, 20, 21, 22, 23, 5, 24, 7, 25, 26, 27, 28, 29, 30, 31, 38, 39, 40, 41, 42, 43, 44, 45, 46, 47, 48, 49, 50, 51, 52, 53, 54, 55, 56, 57, 58] rfl (by decide +kernel)
set_option maxRecDepth 100000 in
theorem gX9_endByClock_X9_layDownCodes : GoodIn wsX9_endByClock (wsV RX9 232 RX9 yX9_layDownCodes wsX9_layDownCodes) := goodIn_app (goodIn_of _ (by decide +kernel)) ggX9_endByClock_X9_layDownCodes
set_option maxRecDepth 100000 in
theorem ggX9_endByClock_X9_close : GoodIn wsX9_endByClock wsX9_close := goodIn_r _ [35, 1, 36, 37, 38, 39, 40, 41, 42, 43, 44, 45, 46, 47, 48, 49, 50, 51, 52, 53, 54, 55, 56, 57] rfl (by decide +kernel)
set_option maxRecDepth 100000 in
theorem gX9_endByClock_X9_close : GoodIn wsX9_endByClock (wsV RX9 240 RX9 yX9_close wsX9_close) := goodIn_app (goodIn_of _ (by decide +kernel)) ggX9_endByClock_X9_close
theorem dX9_endByClock_0 : decode cX9_endByClock 0 = .ok (.aload_n 0, 1) := by decide +kernel
theorem dX9_endByClock_1 : decode cX9_endByClock 1 = .ok (.getfield 51, 3) := by decide +kernel
theorem dX9_endByClock_4 : decode cX9_endByClock 4 = .ok (.invokevirtual 229, 3) := by decide +kernel
theorem dX9_endByClock_7 : decode cX9_endByClock 7 = .ok (.aload_n 0, 1) := by decide +kernel
theorem dX9_endByClock_8 : decode cX9_endByClock 8 = .ok (.invokevirtual 232, 3) := by decide +kernel
theorem dX9_endByClock_11 : decode cX9_endByClock 11 = .ok (.aload_n 0, 1) := by decide +kernel
theorem dX9_endByClock_12 : decode cX9_endByClock 12 = .ok (.iconst 0, 1) := by decide +kernel
theorem dX9_endByClock_13 : decode cX9_endByClock 13 = .ok (.invokevirtual 240, 3) := by decide +kernel
theorem dX9_endByClock_16 : decode cX9_endByClock 16 = .ok (.return_, 1) := by decide +kernel
theorem dX9_close_0 : decode cX9_close 0 = .ok (.aload_n 0, 1) := by decide +kernel
theorem dX9_close_1 : decode cX9_close 1 = .ok (.getfield 51, 3) := by decide +kernel
theorem dX9_close_4 : decode cX9_close 4 = .ok (.iconst 0, 1) := by decide +kernel
theorem dX9_close_5 : decode cX9_close 5 = .ok (.putfield 123, 3) := by decide +kernel
theorem dX9_close_8 : decode cX9_close 8 = .ok (.aload_n 0, 1) := by decide +kernel
theorem dX9_close_9 : decode cX9_close 9 = .ok (.iload_n 1, 1) := by decide +kernel
theorem dX9_close_10 : decode cX9_close 10 = .ok (.putfield 89, 3) := by decide +kernel
theorem dX9_close_13 : decode cX9_close 13 = .ok (.return_, 1) := by decide +kernel
set_option maxRecDepth 100000 in
theorem ggX9_layDownCodes_X9_countsCodes : GoodIn wsX9_layDownCodes wsX9_countsCodes := goodIn_r _ [9, 10, 24, 25, 26, 27, 28, 29, 30, 31, 32, 33, 34, 35, 36] rfl (by decide +kernel)
set_option maxRecDepth 100000 in
theorem gX9_layDownCodes_X9_countsCodes : GoodIn wsX9_layDownCodes (wsV RX9 126 RX9 yX9_countsCodes wsX9_countsCodes) := goodIn_app (goodIn_of _ (by decide +kernel)) ggX9_layDownCodes_X9_countsCodes
set_option maxRecDepth 100000 in
theorem ggX9_layDownCodes_X7_code : GoodIn wsX9_layDownCodes wsX7_code := goodIn_r _ [15, 16, 17, 37, 38, 39, 40, 41, 42, 43] rfl (by decide +kernel)
set_option maxRecDepth 100000 in
theorem gX9_layDownCodes_X7_code : GoodIn wsX9_layDownCodes (wsV RX9 187 RX7 yX7_code wsX7_code) := goodIn_app (goodIn_of _ (by decide +kernel)) ggX9_layDownCodes_X7_code
set_option maxRecDepth 100000 in
theorem ggX9_layDownCodes_X4_setOctet : GoodIn wsX9_layDownCodes wsX4_setOctet := goodIn_r _ [22, 23, 44] rfl (by decide +kernel)
set_option maxRecDepth 100000 in
theorem gX9_layDownCodes_X4_setOctet : GoodIn wsX9_layDownCodes (wsV RX9 249 RX4 yX4_setOctet wsX4_setOctet) := goodIn_app (goodIn_of _ (by decide +kernel)) ggX9_layDownCodes_X4_setOctet
theorem dX9_layDownCodes_0 : decode cX9_layDownCodes 0 = .ok (.aload_n 0, 1) := by decide +kernel
theorem dX9_layDownCodes_1 : decode cX9_layDownCodes 1 = .ok (.getfield 51, 3) := by decide +kernel
theorem dX9_layDownCodes_4 : decode cX9_layDownCodes 4 = .ok (.getfield 246, 3) := by decide +kernel
theorem dX9_layDownCodes_7 : decode cX9_layDownCodes 7 = .ok (.aload_n 0, 1) := by decide +kernel
theorem dX9_layDownCodes_8 : decode cX9_layDownCodes 8 = .ok (.invokevirtual 126, 3) := by decide +kernel
theorem dX9_layDownCodes_11 : decode cX9_layDownCodes 11 = .ok (.ifCond .eq 7, 3) := by decide +kernel
theorem dX9_layDownCodes_14 : decode cX9_layDownCodes 14 = .ok (.iconst 2, 1) := by decide +kernel
theorem dX9_layDownCodes_15 : decode cX9_layDownCodes 15 = .ok (.goto 4, 3) := by decide +kernel
theorem dX9_layDownCodes_18 : decode cX9_layDownCodes 18 = .ok (.iconst 1, 1) := by decide +kernel
theorem dX9_layDownCodes_19 : decode cX9_layDownCodes 19 = .ok (.iadd, 1) := by decide +kernel
theorem dX9_layDownCodes_20 : decode cX9_layDownCodes 20 = .ok (.istore_n 1, 1) := by decide +kernel
theorem dX9_layDownCodes_21 : decode cX9_layDownCodes 21 = .ok (.iconst 0, 1) := by decide +kernel
theorem dX9_layDownCodes_22 : decode cX9_layDownCodes 22 = .ok (.istore_n 2, 1) := by decide +kernel
theorem dX9_layDownCodes_23 : decode cX9_layDownCodes 23 = .ok (.iload_n 2, 1) := by decide +kernel
theorem dX9_layDownCodes_24 : decode cX9_layDownCodes 24 = .ok (.aload_n 0, 1) := by decide +kernel
theorem dX9_layDownCodes_25 : decode cX9_layDownCodes 25 = .ok (.getfield 51, 3) := by decide +kernel
theorem dX9_layDownCodes_28 : decode cX9_layDownCodes 28 = .ok (.getfield 179, 3) := by decide +kernel
theorem dX9_layDownCodes_31 : decode cX9_layDownCodes 31 = .ok (.if_icmp .ge 27, 3) := by decide +kernel
theorem dX9_layDownCodes_34 : decode cX9_layDownCodes 34 = .ok (.aload_n 0, 1) := by decide +kernel
theorem dX9_layDownCodes_35 : decode cX9_layDownCodes 35 = .ok (.getfield 27, 3) := by decide +kernel
theorem dX9_layDownCodes_38 : decode cX9_layDownCodes 38 = .ok (.iload_n 1, 1) := by decide +kernel
theorem dX9_layDownCodes_39 : decode cX9_layDownCodes 39 = .ok (.iload_n 2, 1) := by decide +kernel
theorem dX9_layDownCodes_40 : decode cX9_layDownCodes 40 = .ok (.iadd, 1) := by decide +kernel
theorem dX9_layDownCodes_41 : decode cX9_layDownCodes 41 = .ok (.aload_n 0, 1) := by decide +kernel
theorem dX9_layDownCodes_42 : decode cX9_layDownCodes 42 = .ok (.getfield 51, 3) := by decide +kernel
theorem dX9_layDownCodes_45 : decode cX9_layDownCodes 45 = .ok (.iload_n 2, 1) := by decide +kernel
theorem dX9_layDownCodes_46 : decode cX9_layDownCodes 46 = .ok (.invokevirtual 187, 3) := by decide +kernel
theorem dX9_layDownCodes_49 : decode cX9_layDownCodes 49 = .ok (.invokevirtual 249, 3) := by decide +kernel
theorem dX9_layDownCodes_52 : decode cX9_layDownCodes 52 = .ok (.iinc 2 1, 3) := by decide +kernel
theorem dX9_layDownCodes_55 : decode cX9_layDownCodes 55 = .ok (.goto (-32), 3) := by decide +kernel
theorem dX9_layDownCodes_58 : decode cX9_layDownCodes 58 = .ok (.aload_n 0, 1) := by decide +kernel
theorem dX9_layDownCodes_59 : decode cX9_layDownCodes 59 = .ok (.invokevirtual 126, 3) := by decide +kernel
theorem dX9_layDownCodes_62 : decode cX9_layDownCodes 62 = .ok (.ifCond .eq 29, 3) := by decide +kernel
theorem dX9_layDownCodes_65 : decode cX9_layDownCodes 65 = .ok (.aload_n 0, 1) := by decide +kernel
theorem dX9_layDownCodes_66 : decode cX9_layDownCodes 66 = .ok (.getfield 27, 3) := by decide +kernel
theorem dX9_layDownCodes_69 : decode cX9_layDownCodes 69 = .ok (.aload_n 0, 1) := by decide +kernel
theorem dX9_layDownCodes_70 : decode cX9_layDownCodes 70 = .ok (.getfield 51, 3) := by decide +kernel
theorem dX9_layDownCodes_73 : decode cX9_layDownCodes 73 = .ok (.getfield 246, 3) := by decide +kernel
theorem dX9_layDownCodes_76 : decode cX9_layDownCodes 76 = .ok (.iconst 1, 1) := by decide +kernel
theorem dX9_layDownCodes_77 : decode cX9_layDownCodes 77 = .ok (.iadd, 1) := by decide +kernel
theorem dX9_layDownCodes_78 : decode cX9_layDownCodes 78 = .ok (.aload_n 0, 1) := by decide +kernel
theorem dX9_layDownCodes_79 : decode cX9_layDownCodes 79 = .ok (.getfield 51, 3) := by decide +kernel
theorem dX9_layDownCodes_82 : decode cX9_layDownCodes 82 = .ok (.getfield 179, 3) := by decide +kernel
theorem dX9_layDownCodes_85 : decode cX9_layDownCodes 85 = .ok (.invokevirtual 249, 3) := by decide +kernel
theorem dX9_layDownCodes_88 : decode cX9_layDownCodes 88 = .ok (.goto 20, 3) := by decide +kernel
theorem dX9_layDownCodes_91 : decode cX9_layDownCodes 91 = .ok (.aload_n 0, 1) := by decide +kernel
theorem dX9_layDownCodes_92 : decode cX9_layDownCodes 92 = .ok (.getfield 27, 3) := by decide +kernel
theorem dX9_layDownCodes_95 : decode cX9_layDownCodes 95 = .ok (.iload_n 1, 1) := by decide +kernel
theorem dX9_layDownCodes_96 : decode cX9_layDownCodes 96 = .ok (.aload_n 0, 1) := by decide +kernel
theorem dX9_layDownCodes_97 : decode cX9_layDownCodes 97 = .ok (.getfield 51, 3) := by decide +kernel
theorem dX9_layDownCodes_100 : decode cX9_layDownCodes 100 = .ok (.getfield 179, 3) := by decide +kernel
theorem dX9_layDownCodes_103 : decode cX9_layDownCodes 103 = .ok (.iadd, 1) := by decide +kernel
theorem dX9_layDownCodes_104 : decode cX9_layDownCodes 104 = .ok (.iconst 0, 1) := by decide +kernel
theorem dX9_layDownCodes_105 : decode cX9_layDownCodes 105 = .ok (.invokevirtual 249, 3) := by decide +kernel
theorem dX9_layDownCodes_108 : decode cX9_layDownCodes 108 = .ok (.return_, 1) := by decide +kernel
