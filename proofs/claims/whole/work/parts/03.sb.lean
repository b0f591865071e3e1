theorem dX5_packed_89 : decode cX5_packed 89 = .ok (.irem, 1) := by decide +kernel
theorem dX5_packed_90 : decode cX5_packed 90 = .ok (.ifCond .ne 28, 3) := by decide +kernel
theorem dX5_packed_93 : decode cX5_packed 93 = .ok (.lload_n 3, 1) := by decide +kernel
theorem dX5_packed_94 : decode cX5_packed 94 = .ok (.ldc2_w 50, 3) := by decide +kernel
theorem dX5_packed_97 : decode cX5_packed 97 = .ok (.lmul, 1) := by decide +kernel
theorem dX5_packed_98 : decode cX5_packed 98 = .ok (.iload 5, 2) := by decide +kernel
theorem dX5_packed_100 : decode cX5_packed 100 = .ok (.aload_n 0, 1) := by decide +kernel
theorem dX5_packed_101 : decode cX5_packed 101 = .ok (.getfield 30, 3) := by decide +kernel
theorem dX5_packed_104 : decode cX5_packed 104 = .ok (.arraylength, 1) := by decide +kernel
theorem dX5_packed_105 : decode cX5_packed 105 = .ok (.iconst 3, 1) := by decide +kernel
theorem dX5_packed_106 : decode cX5_packed 106 = .ok (.isub, 1) := by decide +kernel
theorem dX5_packed_107 : decode cX5_packed 107 = .ok (.if_icmp .ne 7, 3) := by decide +kernel
theorem dX5_packed_110 : decode cX5_packed 110 = .ok (.iconst 1, 1) := by decide +kernel
theorem dX5_packed_111 : decode cX5_packed 111 = .ok (.goto 4, 3) := by decide +kernel
theorem dX5_packed_114 : decode cX5_packed 114 = .ok (.iconst 0, 1) := by decide +kernel
theorem dX5_packed_115 : decode cX5_packed 115 = .ok (.i2l, 1) := by decide +kernel
theorem dX5_packed_116 : decode cX5_packed 116 = .ok (.ladd, 1) := by decide +kernel
theorem dX5_packed_117 : decode cX5_packed 117 = .ok (.lstore_n 3, 1) := by decide +kernel
theorem dX5_packed_118 : decode cX5_packed 118 = .ok (.lload_n 3, 1) := by decide +kernel
theorem dX5_packed_119 : decode cX5_packed 119 = .ok (.ldc2_w 52, 3) := by decide +kernel
theorem dX5_packed_122 : decode cX5_packed 122 = .ok (.lmul, 1) := by decide +kernel
theorem dX5_packed_123 : decode cX5_packed 123 = .ok (.aload_n 0, 1) := by decide +kernel
theorem dX5_packed_124 : decode cX5_packed 124 = .ok (.getfield 30, 3) := by decide +kernel
theorem dX5_packed_127 : decode cX5_packed 127 = .ok (.iload 5, 2) := by decide +kernel
theorem dX5_packed_129 : decode cX5_packed 129 = .ok (.iaload, 1) := by decide +kernel
theorem dX5_packed_130 : decode cX5_packed 130 = .ok (.i2l, 1) := by decide +kernel
theorem dX5_packed_131 : decode cX5_packed 131 = .ok (.ladd, 1) := by decide +kernel
theorem dX5_packed_132 : decode cX5_packed 132 = .ok (.lstore_n 3, 1) := by decide +kernel
theorem dX5_packed_133 : decode cX5_packed 133 = .ok (.iinc 5 1, 3) := by decide +kernel
theorem dX5_packed_136 : decode cX5_packed 136 = .ok (.goto (-60), 3) := by decide +kernel
theorem dX5_packed_139 : decode cX5_packed 139 = .ok (.lload_n 3, 1) := by decide +kernel
theorem dX5_packed_140 : decode cX5_packed 140 = .ok (.lreturn, 1) := by decide +kernel
set_option maxRecDepth 100000 in
theorem ggX5_addCode_X5_addLetter : GoodIn wsX5_addCode wsX5_addLetter := goodIn_r _ [8, 9, 10, 100, 101, 102, 103, 104, 105, 106] rfl (by decide +kernel)
set_option maxRecDepth 100000 in
theorem gX5_addCode_X5_addLetter : GoodIn wsX5_addCode (wsV RX5 54 RX5 yX5_addLetter wsX5_addLetter) := goodIn_app (goodIn_of _ (by decide +kernel)) ggX5_addCode_X5_addLetter
set_option maxRecDepth 100000 in
theorem ggX5_addCode_J0_indexOf_0f7a4 : GoodIn wsX5_addCode wsJ0_indexOf_0f7a4 := goodIn_r _ [15, 16, 17, 18, 14, 19, 20, 21, 22, 23, 24, 25, 26, 27, 28, 29, 30, 31, 32, 33, 34, 35, 36, 37, 38, 39, 40, 41, 42, 43, 44, 45, 46, 47, 48, 49, 50, 51, 52, 53, 54, 55, 56, 57, 58, 59, 60, 61, 62, 63, 64, 65, 66, 67, 68, 69, 70, 71, 72, 73, 74, 75, 76, 77, 78, 79, 80, 81, 82, 83, 84, 85, 86, 87, 88, 89, 90, 91, 92, 93, 94, 95, 96, 97, 98, 99] rfl (by decide +kernel)
set_option maxRecDepth 100000 in
theorem gX5_addCode_J0_indexOf_0f7a4 : GoodIn wsX5_addCode (wsV RX5 57 RJ0 yJ0_indexOf_0f7a4 wsJ0_indexOf_0f7a4) := goodIn_app (goodIn_of _ (by decide +kernel)) ggX5_addCode_J0_indexOf_0f7a4
theorem dX5_addCode_0 : decode cX5_addCode 0 = .ok (.iload_n 1, 1) := by decide +kernel
theorem dX5_addCode_1 : decode cX5_addCode 1 = .ok (.bipush 32, 2) := by decide +kernel
theorem dX5_addCode_3 : decode cX5_addCode 3 = .ok (.if_icmp .ne 11, 3) := by decide +kernel
theorem dX5_addCode_6 : decode cX5_addCode 6 = .ok (.aload_n 0, 1) := by decide +kernel
theorem dX5_addCode_7 : decode cX5_addCode 7 = .ok (.iconst 0, 1) := by decide +kernel
theorem dX5_addCode_8 : decode cX5_addCode 8 = .ok (.invokevirtual 54, 3) := by decide +kernel
theorem dX5_addCode_11 : decode cX5_addCode 11 = .ok (.goto 118, 3) := by decide +kernel
theorem dX5_addCode_14 : decode cX5_addCode 14 = .ok (.iload_n 1, 1) := by decide +kernel
theorem dX5_addCode_15 : decode cX5_addCode 15 = .ok (.bipush 97, 2) := by decide +kernel
theorem dX5_addCode_17 : decode cX5_addCode 17 = .ok (.if_icmp .lt 23, 3) := by decide +kernel
theorem dX5_addCode_20 : decode cX5_addCode 20 = .ok (.iload_n 1, 1) := by decide +kernel
theorem dX5_addCode_21 : decode cX5_addCode 21 = .ok (.bipush 122, 2) := by decide +kernel
theorem dX5_addCode_23 : decode cX5_addCode 23 = .ok (.if_icmp .gt 17, 3) := by decide +kernel
theorem dX5_addCode_26 : decode cX5_addCode 26 = .ok (.aload_n 0, 1) := by decide +kernel
theorem dX5_addCode_27 : decode cX5_addCode 27 = .ok (.iload_n 1, 1) := by decide +kernel
theorem dX5_addCode_28 : decode cX5_addCode 28 = .ok (.bipush 97, 2) := by decide +kernel
theorem dX5_addCode_30 : decode cX5_addCode 30 = .ok (.isub, 1) := by decide +kernel
theorem dX5_addCode_31 : decode cX5_addCode 31 = .ok (.bipush 6, 2) := by decide +kernel
theorem dX5_addCode_33 : decode cX5_addCode 33 = .ok (.iadd, 1) := by decide +kernel
theorem dX5_addCode_34 : decode cX5_addCode 34 = .ok (.invokevirtual 54, 3) := by decide +kernel
theorem dX5_addCode_37 : decode cX5_addCode 37 = .ok (.goto 92, 3) := by decide +kernel
theorem dX5_addCode_40 : decode cX5_addCode 40 = .ok (.iload_n 1, 1) := by decide +kernel
theorem dX5_addCode_41 : decode cX5_addCode 41 = .ok (.bipush 65, 2) := by decide +kernel
theorem dX5_addCode_43 : decode cX5_addCode 43 = .ok (.if_icmp .lt 31, 3) := by decide +kernel
theorem dX5_addCode_46 : decode cX5_addCode 46 = .ok (.iload_n 1, 1) := by decide +kernel
theorem dX5_addCode_47 : decode cX5_addCode 47 = .ok (.bipush 90, 2) := by decide +kernel
theorem dX5_addCode_49 : decode cX5_addCode 49 = .ok (.if_icmp .gt 25, 3) := by decide +kernel
theorem dX5_addCode_52 : decode cX5_addCode 52 = .ok (.aload_n 0, 1) := by decide +kernel
theorem dX5_addCode_53 : decode cX5_addCode 53 = .ok (.aload_n 0, 1) := by decide +kernel
theorem dX5_addCode_54 : decode cX5_addCode 54 = .ok (.getfield 23, 3) := by decide +kernel
theorem dX5_addCode_57 : decode cX5_addCode 57 = .ok (.invokevirtual 54, 3) := by decide +kernel
theorem dX5_addCode_60 : decode cX5_addCode 60 = .ok (.aload_n 0, 1) := by decide +kernel
theorem dX5_addCode_61 : decode cX5_addCode 61 = .ok (.iload_n 1, 1) := by decide +kernel
theorem dX5_addCode_62 : decode cX5_addCode 62 = .ok (.bipush 65, 2) := by decide +kernel
theorem dX5_addCode_64 : decode cX5_addCode 64 = .ok (.isub, 1) := by decide +kernel
theorem dX5_addCode_65 : decode cX5_addCode 65 = .ok (.bipush 6, 2) := by decide +kernel
theorem dX5_addCode_67 : decode cX5_addCode 67 = .ok (.iadd, 1) := by decide +kernel
theorem dX5_addCode_68 : decode cX5_addCode 68 = .ok (.invokevirtual 54, 3) := by decide +kernel
theorem dX5_addCode_71 : decode cX5_addCode 71 = .ok (.goto 58, 3) := by decide +kernel
theorem dX5_addCode_74 : decode cX5_addCode 74 = .ok (.aload_n 0, 1) := by decide +kernel
theorem dX5_addCode_75 : decode cX5_addCode 75 = .ok (.aload_n 0, 1) := by decide +kernel
theorem dX5_addCode_76 : decode cX5_addCode 76 = .ok (.getfield 27, 3) := by decide +kernel
theorem dX5_addCode_79 : decode cX5_addCode 79 = .ok (.invokevirtual 54, 3) := by decide +kernel
theorem dX5_addCode_82 : decode cX5_addCode 82 = .ok (.aload_n 0, 1) := by decide +kernel
theorem dX5_addCode_83 : decode cX5_addCode 83 = .ok (.getfield 19, 3) := by decide +kernel
theorem dX5_addCode_86 : decode cX5_addCode 86 = .ok (.iload_n 1, 1) := by decide +kernel
theorem dX5_addCode_87 : decode cX5_addCode 87 = .ok (.i2c, 1) := by decide +kernel
theorem dX5_addCode_88 : decode cX5_addCode 88 = .ok (.invokevirtual 57, 3) := by decide +kernel
theorem dX5_addCode_91 : decode cX5_addCode 91 = .ok (.istore_n 2, 1) := by decide +kernel
theorem dX5_addCode_92 : decode cX5_addCode 92 = .ok (.iload_n 2, 1) := by decide +kernel
theorem dX5_addCode_93 : decode cX5_addCode 93 = .ok (.ifCond .lt 14, 3) := by decide +kernel
theorem dX5_addCode_96 : decode cX5_addCode 96 = .ok (.aload_n 0, 1) := by decide +kernel
theorem dX5_addCode_97 : decode cX5_addCode 97 = .ok (.iload_n 2, 1) := by decide +kernel
theorem dX5_addCode_98 : decode cX5_addCode 98 = .ok (.bipush 7, 2) := by decide +kernel
theorem dX5_addCode_100 : decode cX5_addCode 100 = .ok (.iadd, 1) := by decide +kernel
theorem dX5_addCode_101 : decode cX5_addCode 101 = .ok (.invokevirtual 54, 3) := by decide +kernel
theorem dX5_addCode_104 : decode cX5_addCode 104 = .ok (.goto 25, 3) := by decide +kernel
theorem dX5_addCode_107 : decode cX5_addCode 107 = .ok (.aload_n 0, 1) := by decide +kernel
theorem dX5_addCode_108 : decode cX5_addCode 108 = .ok (.bipush 6, 2) := by decide +kernel
theorem dX5_addCode_110 : decode cX5_addCode 110 = .ok (.invokevirtual 54, 3) := by decide +kernel
theorem dX5_addCode_113 : decode cX5_addCode 113 = .ok (.aload_n 0, 1) := by decide +kernel
theorem dX5_addCode_114 : decode cX5_addCode 114 = .ok (.iload_n 1, 1) := by decide +kernel
theorem dX5_addCode_115 : decode cX5_addCode 115 = .ok (.bipush 32, 2) := by decide +kernel
theorem dX5_addCode_117 : decode cX5_addCode 117 = .ok (.idiv, 1) := by decide +kernel
theorem dX5_addCode_118 : decode cX5_addCode 118 = .ok (.invokevirtual 54, 3) := by decide +kernel
theorem dX5_addCode_121 : decode cX5_addCode 121 = .ok (.aload_n 0, 1) := by decide +kernel
theorem dX5_addCode_122 : decode cX5_addCode 122 = .ok (.iload_n 1, 1) := by decide +kernel
theorem dX5_addCode_123 : decode cX5_addCode 123 = .ok (.bipush 32, 2) := by decide +kernel
theorem dX5_addCode_125 : decode cX5_addCode 125 = .ok (.irem, 1) := by decide +kernel
theorem dX5_addCode_126 : decode cX5_addCode 126 = .ok (.invokevirtual 54, 3) := by decide +kernel
theorem dX5_addCode_129 : decode cX5_addCode 129 = .ok (.return_, 1) := by decide +kernel
theorem dX5_addLetter_0 : decode cX5_addLetter 0 = .ok (.aload_n 0, 1) := by decide +kernel
theorem dX5_addLetter_1 : decode cX5_addLetter 1 = .ok (.getfield 37, 3) := by decide +kernel
theorem dX5_addLetter_4 : decode cX5_addLetter 4 = .ok (.ifCond .lt 35, 3) := by decide +kernel
theorem dX5_addLetter_7 : decode cX5_addLetter 7 = .ok (.aload_n 0, 1) := by decide +kernel
theorem dX5_addLetter_8 : decode cX5_addLetter 8 = .ok (.getfield 37, 3) := by decide +kernel
theorem dX5_addLetter_11 : decode cX5_addLetter 11 = .ok (.aload_n 0, 1) := by decide +kernel
theorem dX5_addLetter_12 : decode cX5_addLetter 12 = .ok (.getfield 30, 3) := by decide +kernel
theorem dX5_addLetter_15 : decode cX5_addLetter 15 = .ok (.arraylength, 1) := by decide +kernel
theorem dX5_addLetter_16 : decode cX5_addLetter 16 = .ok (.if_icmp .ge 23, 3) := by decide +kernel
theorem dX5_addLetter_19 : decode cX5_addLetter 19 = .ok (.aload_n 0, 1) := by decide +kernel
theorem dX5_addLetter_20 : decode cX5_addLetter 20 = .ok (.getfield 30, 3) := by decide +kernel
theorem dX5_addLetter_23 : decode cX5_addLetter 23 = .ok (.aload_n 0, 1) := by decide +kernel
theorem dX5_addLetter_24 : decode cX5_addLetter 24 = .ok (.getfield 37, 3) := by decide +kernel
theorem dX5_addLetter_27 : decode cX5_addLetter 27 = .ok (.iload_n 1, 1) := by decide +kernel
theorem dX5_addLetter_28 : decode cX5_addLetter 28 = .ok (.iastore, 1) := by decide +kernel
theorem dX5_addLetter_29 : decode cX5_addLetter 29 = .ok (.aload_n 0, 1) := by decide +kernel
theorem dX5_addLetter_30 : decode cX5_addLetter 30 = .ok (.dup, 1) := by decide +kernel
theorem dX5_addLetter_31 : decode cX5_addLetter 31 = .ok (.getfield 37, 3) := by decide +kernel
theorem dX5_addLetter_34 : decode cX5_addLetter 34 = .ok (.iconst 1, 1) := by decide +kernel
theorem dX5_addLetter_35 : decode cX5_addLetter 35 = .ok (.iadd, 1) := by decide +kernel
theorem dX5_addLetter_36 : decode cX5_addLetter 36 = .ok (.putfield 37, 3) := by decide +kernel
theorem dX5_addLetter_39 : decode cX5_addLetter 39 = .ok (.return_, 1) := by decide +kernel
theorem dX6_init_0 : decode cX6_init 0 = .ok (.aload_n 0, 1) := by decide +kernel
theorem dX6_init_1 : decode cX6_init 1 = .ok (.invokespecial 3, 3) := by decide +kernel
theorem dX6_init_4 : decode cX6_init 4 = .ok (.aload_n 0, 1) := by decide +kernel
theorem dX6_init_5 : decode cX6_init 5 = .ok (.sipush 255, 3) := by decide +kernel
theorem dX6_init_8 : decode cX6_init 8 = .ok (.newarray .int, 2) := by decide +kernel
theorem dX6_init_10 : decode cX6_init 10 = .ok (.putfield 11, 3) := by decide +kernel
theorem dX6_init_13 : decode cX6_init 13 = .ok (.aload_n 0, 1) := by decide +kernel
theorem dX6_init_14 : decode cX6_init 14 = .ok (.sipush 255, 3) := by decide +kernel
theorem dX6_init_17 : decode cX6_init 17 = .ok (.newarray .int, 2) := by decide +kernel
theorem dX6_init_19 : decode cX6_init 19 = .ok (.putfield 15, 3) := by decide +kernel
theorem dX6_init_22 : decode cX6_init 22 = .ok (.aload_n 0, 1) := by decide +kernel
theorem dX6_init_23 : decode cX6_init 23 = .ok (.sipush 255, 3) := by decide +kernel
theorem dX6_init_26 : decode cX6_init 26 = .ok (.newarray .int, 2) := by decide +kernel
theorem dX6_init_28 : decode cX6_init 28 = .ok (.putfield 18, 3) := by decide +kernel
theorem dX6_init_31 : decode cX6_init 31 = .ok (.aload_n 0, 1) := by decide +kernel
theorem dX6_init_32 : decode cX6_init 32 = .ok (.aload_n 1, 1) := by decide +kernel
theorem dX6_init_33 : decode cX6_init 33 = .ok (.putfield 21, 3) := by decide +kernel
theorem dX6_init_36 : decode cX6_init 36 = .ok (.aload_n 0, 1) := by decide +kernel
theorem dX6_init_37 : decode cX6_init 37 = .ok (.aload_n 2, 1) := by decide +kernel
theorem dX6_init_38 : decode cX6_init 38 = .ok (.putfield 25, 3) := by decide +kernel
theorem dX6_init_41 : decode cX6_init 41 = .ok (.aload_n 0, 1) := by decide +kernel
theorem dX6_init_42 : decode cX6_init 42 = .ok (.aload_n 3, 1) := by decide +kernel
theorem dX6_init_43 : decode cX6_init 43 = .ok (.putfield 29, 3) := by decide +kernel
theorem dX6_init_46 : decode cX6_init 46 = .ok (.aload_n 0, 1) := by decide +kernel
theorem dX6_init_47 : decode cX6_init 47 = .ok (.iload 4, 2) := by decide +kernel
theorem dX6_init_49 : decode cX6_init 49 = .ok (.putfield 33, 3) := by decide +kernel
theorem dX6_init_52 : decode cX6_init 52 = .ok (.return_, 1) := by decide +kernel
set_option maxRecDepth 100000 in
theorem ggX6_run_X6_findText : GoodIn wsX6_run wsX6_findText := goodIn_r _ [16, 17, 18, 3, 19, 20, 21, 22, 23, 24, 25, 26, 27, 28, 29, 197, 198, 199, 200, 201, 202, 203, 204, 205, 206, 207] rfl (by decide +kernel)
set_option maxRecDepth 100000 in
theorem gX6_run_X6_findText : GoodIn wsX6_run (wsV RX6 37 RX6 yX6_findText wsX6_findText) := goodIn_app (goodIn_of _ (by decide +kernel)) ggX6_run_X6_findText
set_option maxRecDepth 100000 in
theorem ggX6_run_X1_open : GoodIn wsX6_run wsX1_open := goodIn_r _ [34, 35, 36, 37, 38, 39, 40, 41, 42, 43, 6, 44, 45, 21, 22, 23, 24, 25, 46, 27, 28, 29, 47, 48, 49, 50, 51, 52, 53, 54, 33, 55, 56, 208, 209, 210, 211, 212, 213, 207] rfl (by decide +kernel)
set_option maxRecDepth 100000 in
theorem gX6_run_X1_open : GoodIn wsX6_run (wsV RX6 41 RX1 yX1_open wsX1_open) := goodIn_app (goodIn_of _ (by decide +kernel)) ggX6_run_X1_open
set_option maxRecDepth 100000 in
theorem ggX6_run_X6_splitText : GoodIn wsX6_run wsX6_splitText := goodIn_r _ [60, 2, 18, 19, 3, 1, 20, 21, 22, 23, 24, 25, 61, 62, 63, 33, 64, 56, 65, 66, 67, 15, 68, 10, 11, 197, 198, 199, 200, 201, 202, 203, 204, 205, 206, 207, 208, 209, 210, 211, 212, 213] rfl (by decide +kernel)
set_option maxRecDepth 100000 in
theorem gX6_run_X6_splitText : GoodIn wsX6_run (wsV RX6 46 RX6 yX6_splitText wsX6_splitText) := goodIn_app (goodIn_of _ (by decide +kernel)) ggX6_run_X6_splitText
set_option maxRecDepth 100000 in
theorem ggX6_run_X4_octet : GoodIn wsX6_run wsX4_octet := goodIn_r _ [24, 25, 207] rfl (by decide +kernel)
set_option maxRecDepth 100000 in
theorem gX6_run_X4_octet : GoodIn wsX6_run (wsV RX6 53 RX4 yX4_octet wsX4_octet) := goodIn_app (goodIn_of _ (by decide +kernel)) ggX6_run_X4_octet
set_option maxRecDepth 100000 in
theorem ggX6_run_X4_holds : GoodIn wsX6_run wsX4_holds := goodIn_r _ [29] rfl (by decide +kernel)
set_option maxRecDepth 100000 in
theorem gX6_run_X4_holds : GoodIn wsX6_run (wsV RX6 65 RX4 yX4_holds wsX4_holds) := goodIn_app (goodIn_of _ (by decide +kernel)) ggX6_run_X4_holds
set_option maxRecDepth 100000 in
theorem ggX6_run_X5_packed : GoodIn wsX6_run wsX5_packed := goodIn_r _ [73, 74, 75, 76, 77, 78, 79, 21, 22, 23, 24, 25, 80, 81, 82, 72, 83, 84, 85, 86, 87, 88, 89, 90, 91, 92, 93, 94, 95, 96, 97, 98, 99, 100, 101, 102, 103, 104, 105, 106, 107, 108, 109, 110, 111, 112, 113, 114, 115, 116, 117, 118, 119, 43, 6, 44, 120, 5, 7, 121, 122, 123, 124, 125, 126, 127, 128, 129, 130, 131, 132, 133, 134, 135, 136, 137, 138, 139, 140, 141, 142, 143, 144, 145, 146, 147, 148, 149, 150, 151, 152, 153, 154, 155, 156, 157, 158, 159, 160, 161, 162, 163, 164, 165, 166, 167, 168, 169, 170, 171, 172, 173, 174, 214, 215, 216, 217, 218, 219, 220, 207] rfl (by decide +kernel)
set_option maxRecDepth 100000 in
theorem gX6_run_X5_packed : GoodIn wsX6_run (wsV RX6 69 RX5 yX5_packed wsX5_packed) := goodIn_app (goodIn_of _ (by decide +kernel)) ggX6_run_X5_packed
set_option maxRecDepth 100000 in
theorem ggX6_run_X1_entryOf : GoodIn wsX6_run wsX1_entryOf := goodIn_r _ [178, 36, 39, 179, 5, 6, 7, 40, 35, 41, 180, 181, 182, 23, 183, 51, 21, 22, 24, 25, 208, 209, 210, 211, 212, 213, 207] rfl (by decide +kernel)
set_option maxRecDepth 100000 in
theorem gX6_run_X1_entryOf : GoodIn wsX6_run (wsV RX6 75 RX1 yX1_entryOf wsX1_entryOf) := goodIn_app (goodIn_of _ (by decide +kernel)) ggX6_run_X1_entryOf
set_option maxRecDepth 100000 in
theorem ggX6_run_X4_setOctet : GoodIn wsX6_run wsX4_setOctet := goodIn_r _ [187, 25, 207] rfl (by decide +kernel)
set_option maxRecDepth 100000 in
theorem gX6_run_X4_setOctet : GoodIn wsX6_run (wsV RX6 79 RX4 yX4_setOctet wsX4_setOctet) := goodIn_app (goodIn_of _ (by decide +kernel)) ggX6_run_X4_setOctet
set_option maxRecDepth 100000 in
theorem ggX6_run_X6_tellWord : GoodIn wsX6_run wsX6_tellWord := goodIn_r _ [191, 3, 8, 11, 10, 192, 193, 194, 23, 195, 196, 185, 186, 187, 25, 184, 197, 198, 199, 200, 201, 202, 203, 204, 205, 206, 207] rfl (by decide +kernel)
set_option maxRecDepth 100000 in
theorem gX6_run_X6_tellWord : GoodIn wsX6_run (wsV RX6 83 RX6 yX6_tellWord wsX6_tellWord) := goodIn_app (goodIn_of _ (by decide +kernel)) ggX6_run_X6_tellWord
theorem dX6_run_0 : decode cX6_run 0 = .ok (.aload_n 0, 1) := by decide +kernel
theorem dX6_run_1 : decode cX6_run 1 = .ok (.iload_n 1, 1) := by decide +kernel
theorem dX6_run_2 : decode cX6_run 2 = .ok (.invokevirtual 37, 3) := by decide +kernel
theorem dX6_run_5 : decode cX6_run 5 = .ok (.ifCond .eq 14, 3) := by decide +kernel
theorem dX6_run_8 : decode cX6_run 8 = .ok (.aload_n 0, 1) := by decide +kernel
theorem dX6_run_9 : decode cX6_run 9 = .ok (.getfield 29, 3) := by decide +kernel
theorem dX6_run_12 : decode cX6_run 12 = .ok (.iload_n 3, 1) := by decide +kernel
theorem dX6_run_13 : decode cX6_run 13 = .ok (.invokevirtual 41, 3) := by decide +kernel
theorem dX6_run_16 : decode cX6_run 16 = .ok (.ifCond .ne 6, 3) := by decide +kernel
theorem dX6_run_19 : decode cX6_run 19 = .ok (.bipush (-3), 2) := by decide +kernel
theorem dX6_run_21 : decode cX6_run 21 = .ok (.ireturn, 1) := by decide +kernel
theorem dX6_run_22 : decode cX6_run 22 = .ok (.aload_n 0, 1) := by decide +kernel
theorem dX6_run_23 : decode cX6_run 23 = .ok (.invokevirtual 46, 3) := by decide +kernel
theorem dX6_run_26 : decode cX6_run 26 = .ok (.aload_n 0, 1) := by decide +kernel
theorem dX6_run_27 : decode cX6_run 27 = .ok (.getfield 49, 3) := by decide +kernel
theorem dX6_run_30 : decode cX6_run 30 = .ok (.aload_n 0, 1) := by decide +kernel
theorem dX6_run_31 : decode cX6_run 31 = .ok (.getfield 21, 3) := by decide +kernel
theorem dX6_run_34 : decode cX6_run 34 = .ok (.iload_n 2, 1) := by decide +kernel
theorem dX6_run_35 : decode cX6_run 35 = .ok (.invokevirtual 53, 3) := by decide +kernel
theorem dX6_run_38 : decode cX6_run 38 = .ok (.sipush 255, 3) := by decide +kernel
theorem dX6_run_41 : decode cX6_run 41 = .ok (.invokestatic 59, 3) := by decide +kernel
theorem dX6_run_44 : decode cX6_run 44 = .ok (.invokestatic 59, 3) := by decide +kernel
theorem dX6_run_47 : decode cX6_run 47 = .ok (.istore 5, 2) := by decide +kernel
theorem dX6_run_49 : decode cX6_run 49 = .ok (.aload_n 0, 1) := by decide +kernel
theorem dX6_run_50 : decode cX6_run 50 = .ok (.getfield 21, 3) := by decide +kernel
theorem dX6_run_53 : decode cX6_run 53 = .ok (.iload_n 2, 1) := by decide +kernel
theorem dX6_run_54 : decode cX6_run 54 = .ok (.iconst 2, 1) := by decide +kernel
theorem dX6_run_55 : decode cX6_run 55 = .ok (.iconst 4, 1) := by decide +kernel
theorem dX6_run_56 : decode cX6_run 56 = .ok (.iload 5, 2) := by decide +kernel
theorem dX6_run_58 : decode cX6_run 58 = .ok (.imul, 1) := by decide +kernel
theorem dX6_run_59 : decode cX6_run 59 = .ok (.iadd, 1) := by decide +kernel
theorem dX6_run_60 : decode cX6_run 60 = .ok (.invokevirtual 65, 3) := by decide +kernel
theorem dX6_run_63 : decode cX6_run 63 = .ok (.ifCond .ne 6, 3) := by decide +kernel
theorem dX6_run_66 : decode cX6_run 66 = .ok (.bipush (-3), 2) := by decide +kernel
theorem dX6_run_68 : decode cX6_run 68 = .ok (.ireturn, 1) := by decide +kernel
theorem dX6_run_69 : decode cX6_run 69 = .ok (.iconst 0, 1) := by decide +kernel
theorem dX6_run_70 : decode cX6_run 70 = .ok (.istore 6, 2) := by decide +kernel
theorem dX6_run_72 : decode cX6_run 72 = .ok (.iload 6, 2) := by decide +kernel
theorem dX6_run_74 : decode cX6_run 74 = .ok (.iload 5, 2) := by decide +kernel
theorem dX6_run_76 : decode cX6_run 76 = .ok (.if_icmp .ge 44, 3) := by decide +kernel
theorem dX6_run_79 : decode cX6_run 79 = .ok (.aload_n 0, 1) := by decide +kernel
theorem dX6_run_80 : decode cX6_run 80 = .ok (.getfield 18, 3) := by decide +kernel
theorem dX6_run_83 : decode cX6_run 83 = .ok (.iload 6, 2) := by decide +kernel
theorem dX6_run_85 : decode cX6_run 85 = .ok (.aload_n 0, 1) := by decide +kernel
theorem dX6_run_86 : decode cX6_run 86 = .ok (.getfield 29, 3) := by decide +kernel
theorem dX6_run_89 : decode cX6_run 89 = .ok (.aload_n 0, 1) := by decide +kernel
theorem dX6_run_90 : decode cX6_run 90 = .ok (.getfield 25, 3) := by decide +kernel
theorem dX6_run_93 : decode cX6_run 93 = .ok (.aload_n 0, 1) := by decide +kernel
theorem dX6_run_94 : decode cX6_run 94 = .ok (.getfield 11, 3) := by decide +kernel
theorem dX6_run_97 : decode cX6_run 97 = .ok (.iload 6, 2) := by decide +kernel
theorem dX6_run_99 : decode cX6_run 99 = .ok (.iaload, 1) := by decide +kernel
theorem dX6_run_100 : decode cX6_run 100 = .ok (.aload_n 0, 1) := by decide +kernel
theorem dX6_run_101 : decode cX6_run 101 = .ok (.getfield 15, 3) := by decide +kernel
theorem dX6_run_104 : decode cX6_run 104 = .ok (.iload 6, 2) := by decide +kernel
theorem dX6_run_106 : decode cX6_run 106 = .ok (.iaload, 1) := by decide +kernel
theorem dX6_run_107 : decode cX6_run 107 = .ok (.invokevirtual 69, 3) := by decide +kernel
theorem dX6_run_110 : decode cX6_run 110 = .ok (.invokevirtual 75, 3) := by decide +kernel
theorem dX6_run_113 : decode cX6_run 113 = .ok (.iastore, 1) := by decide +kernel
theorem dX6_run_114 : decode cX6_run 114 = .ok (.iinc 6 1, 3) := by decide +kernel
theorem dX6_run_117 : decode cX6_run 117 = .ok (.goto (-45), 3) := by decide +kernel
theorem dX6_run_120 : decode cX6_run 120 = .ok (.aload_n 0, 1) := by decide +kernel
theorem dX6_run_121 : decode cX6_run 121 = .ok (.getfield 21, 3) := by decide +kernel
theorem dX6_run_124 : decode cX6_run 124 = .ok (.iload_n 2, 1) := by decide +kernel
theorem dX6_run_125 : decode cX6_run 125 = .ok (.iconst 1, 1) := by decide +kernel
theorem dX6_run_126 : decode cX6_run 126 = .ok (.iadd, 1) := by decide +kernel
theorem dX6_run_127 : decode cX6_run 127 = .ok (.iload 5, 2) := by decide +kernel
theorem dX6_run_129 : decode cX6_run 129 = .ok (.invokevirtual 79, 3) := by decide +kernel
theorem dX6_run_132 : decode cX6_run 132 = .ok (.iconst 0, 1) := by decide +kernel
theorem dX6_run_133 : decode cX6_run 133 = .ok (.istore 6, 2) := by decide +kernel
theorem dX6_run_135 : decode cX6_run 135 = .ok (.iload 6, 2) := by decide +kernel
theorem dX6_run_137 : decode cX6_run 137 = .ok (.iload 5, 2) := by decide +kernel
theorem dX6_run_139 : decode cX6_run 139 = .ok (.if_icmp .ge 39, 3) := by decide +kernel
theorem dX6_run_142 : decode cX6_run 142 = .ok (.aload_n 0, 1) := by decide +kernel
theorem dX6_run_143 : decode cX6_run 143 = .ok (.getfield 18, 3) := by decide +kernel
theorem dX6_run_146 : decode cX6_run 146 = .ok (.iload 6, 2) := by decide +kernel
theorem dX6_run_148 : decode cX6_run 148 = .ok (.iaload, 1) := by decide +kernel
theorem dX6_run_149 : decode cX6_run 149 = .ok (.ifCond .ne 8, 3) := by decide +kernel
theorem dX6_run_152 : decode cX6_run 152 = .ok (.iload 4, 2) := by decide +kernel
theorem dX6_run_154 : decode cX6_run 154 = .ok (.ifCond .ne 18, 3) := by decide +kernel
theorem dX6_run_157 : decode cX6_run 157 = .ok (.aload_n 0, 1) := by decide +kernel
theorem dX6_run_158 : decode cX6_run 158 = .ok (.iload 6, 2) := by decide +kernel
theorem dX6_run_160 : decode cX6_run 160 = .ok (.iload_n 2, 1) := by decide +kernel
theorem dX6_run_161 : decode cX6_run 161 = .ok (.iconst 2, 1) := by decide +kernel
theorem dX6_run_162 : decode cX6_run 162 = .ok (.iadd, 1) := by decide +kernel
theorem dX6_run_163 : decode cX6_run 163 = .ok (.iconst 4, 1) := by decide +kernel
theorem dX6_run_164 : decode cX6_run 164 = .ok (.iload 6, 2) := by decide +kernel
theorem dX6_run_166 : decode cX6_run 166 = .ok (.imul, 1) := by decide +kernel
theorem dX6_run_167 : decode cX6_run 167 = .ok (.iadd, 1) := by decide +kernel
theorem dX6_run_168 : decode cX6_run 168 = .ok (.iload_n 1, 1) := by decide +kernel
theorem dX6_run_169 : decode cX6_run 169 = .ok (.invokevirtual 83, 3) := by decide +kernel
theorem dX6_run_172 : decode cX6_run 172 = .ok (.iinc 6 1, 3) := by decide +kernel
theorem dX6_run_175 : decode cX6_run 175 = .ok (.goto (-40), 3) := by decide +kernel
theorem dX6_run_178 : decode cX6_run 178 = .ok (.aload_n 0, 1) := by decide +kernel
theorem dX6_run_179 : decode cX6_run 179 = .ok (.getfield 49, 3) := by decide +kernel
theorem dX6_run_182 : decode cX6_run 182 = .ok (.ireturn, 1) := by decide +kernel
set_option maxRecDepth 100000 in
theorem ggX6_findText_X4_octet : GoodIn wsX6_findText wsX4_octet := goodIn_r _ [9, 10, 25] rfl (by decide +kernel)
set_option maxRecDepth 100000 in
theorem gX6_findText_X4_octet : GoodIn wsX6_findText (wsV RX6 53 RX4 yX4_octet wsX4_octet) := goodIn_app (goodIn_of _ (by decide +kernel)) ggX6_findText_X4_octet
set_option maxRecDepth 100000 in
theorem ggX6_findText_X4_holds : GoodIn wsX6_findText wsX4_holds := goodIn_r _ [14] rfl (by decide +kernel)
set_option maxRecDepth 100000 in
theorem gX6_findText_X4_holds : GoodIn wsX6_findText (wsV RX6 65 RX4 yX4_holds wsX4_holds) := goodIn_app (goodIn_of _ (by decide +kernel)) ggX6_findText_X4_holds
theorem dX6_findText_0 : decode cX6_findText 0 = .ok (.aload_n 0, 1) := by decide +kernel
theorem dX6_findText_1 : decode cX6_findText 1 = .ok (.getfield 33, 3) := by decide +kernel
theorem dX6_findText_4 : decode cX6_findText 4 = .ok (.ifCond .eq 50, 3) := by decide +kernel
theorem dX6_findText_7 : decode cX6_findText 7 = .ok (.aload_n 0, 1) := by decide +kernel
theorem dX6_findText_8 : decode cX6_findText 8 = .ok (.iload_n 1, 1) := by decide +kernel
theorem dX6_findText_9 : decode cX6_findText 9 = .ok (.iconst 2, 1) := by decide +kernel
theorem dX6_findText_10 : decode cX6_findText 10 = .ok (.iadd, 1) := by decide +kernel
theorem dX6_findText_11 : decode cX6_findText 11 = .ok (.putfield 87, 3) := by decide +kernel
theorem dX6_findText_14 : decode cX6_findText 14 = .ok (.aload_n 0, 1) := by decide +kernel
theorem dX6_findText_15 : decode cX6_findText 15 = .ok (.aload_n 0, 1) := by decide +kernel
theorem dX6_findText_16 : decode cX6_findText 16 = .ok (.getfield 87, 3) := by decide +kernel
theorem dX6_findText_19 : decode cX6_findText 19 = .ok (.aload_n 0, 1) := by decide +kernel
theorem dX6_findText_20 : decode cX6_findText 20 = .ok (.getfield 21, 3) := by decide +kernel
theorem dX6_findText_23 : decode cX6_findText 23 = .ok (.iload_n 1, 1) := by decide +kernel
theorem dX6_findText_24 : decode cX6_findText 24 = .ok (.iconst 1, 1) := by decide +kernel
theorem dX6_findText_25 : decode cX6_findText 25 = .ok (.iadd, 1) := by decide +kernel
theorem dX6_findText_26 : decode cX6_findText 26 = .ok (.invokevirtual 53, 3) := by decide +kernel
theorem dX6_findText_29 : decode cX6_findText 29 = .ok (.iadd, 1) := by decide +kernel
theorem dX6_findText_30 : decode cX6_findText 30 = .ok (.putfield 90, 3) := by decide +kernel
theorem dX6_findText_33 : decode cX6_findText 33 = .ok (.aload_n 0, 1) := by decide +kernel
theorem dX6_findText_34 : decode cX6_findText 34 = .ok (.getfield 21, 3) := by decide +kernel
theorem dX6_findText_37 : decode cX6_findText 37 = .ok (.aload_n 0, 1) := by decide +kernel
theorem dX6_findText_38 : decode cX6_findText 38 = .ok (.getfield 87, 3) := by decide +kernel
theorem dX6_findText_41 : decode cX6_findText 41 = .ok (.aload_n 0, 1) := by decide +kernel
theorem dX6_findText_42 : decode cX6_findText 42 = .ok (.getfield 90, 3) := by decide +kernel
theorem dX6_findText_45 : decode cX6_findText 45 = .ok (.aload_n 0, 1) := by decide +kernel
theorem dX6_findText_46 : decode cX6_findText 46 = .ok (.getfield 87, 3) := by decide +kernel
theorem dX6_findText_49 : decode cX6_findText 49 = .ok (.isub, 1) := by decide +kernel
theorem dX6_findText_50 : decode cX6_findText 50 = .ok (.invokevirtual 65, 3) := by decide +kernel
theorem dX6_findText_53 : decode cX6_findText 53 = .ok (.ireturn, 1) := by decide +kernel
theorem dX6_findText_54 : decode cX6_findText 54 = .ok (.aload_n 0, 1) := by decide +kernel
theorem dX6_findText_55 : decode cX6_findText 55 = .ok (.iload_n 1, 1) := by decide +kernel
theorem dX6_findText_56 : decode cX6_findText 56 = .ok (.iconst 1, 1) := by decide +kernel
theorem dX6_findText_57 : decode cX6_findText 57 = .ok (.iadd, 1) := by decide +kernel
theorem dX6_findText_58 : decode cX6_findText 58 = .ok (.putfield 87, 3) := by decide +kernel
theorem dX6_findText_61 : decode cX6_findText 61 = .ok (.aload_n 0, 1) := by decide +kernel
theorem dX6_findText_62 : decode cX6_findText 62 = .ok (.aload_n 0, 1) := by decide +kernel
theorem dX6_findText_63 : decode cX6_findText 63 = .ok (.getfield 87, 3) := by decide +kernel
theorem dX6_findText_66 : decode cX6_findText 66 = .ok (.putfield 90, 3) := by decide +kernel
theorem dX6_findText_69 : decode cX6_findText 69 = .ok (.aload_n 0, 1) := by decide +kernel
theorem dX6_findText_70 : decode cX6_findText 70 = .ok (.getfield 90, 3) := by decide +kernel
theorem dX6_findText_73 : decode cX6_findText 73 = .ok (.sipush 4096, 3) := by decide +kernel
theorem dX6_findText_76 : decode cX6_findText 76 = .ok (.if_icmp .ge 30, 3) := by decide +kernel
theorem dX6_findText_79 : decode cX6_findText 79 = .ok (.aload_n 0, 1) := by decide +kernel
theorem dX6_findText_80 : decode cX6_findText 80 = .ok (.getfield 21, 3) := by decide +kernel
theorem dX6_findText_83 : decode cX6_findText 83 = .ok (.aload_n 0, 1) := by decide +kernel
theorem dX6_findText_84 : decode cX6_findText 84 = .ok (.getfield 90, 3) := by decide +kernel
theorem dX6_findText_87 : decode cX6_findText 87 = .ok (.invokevirtual 53, 3) := by decide +kernel
theorem dX6_findText_90 : decode cX6_findText 90 = .ok (.ifCond .eq 16, 3) := by decide +kernel
theorem dX6_findText_93 : decode cX6_findText 93 = .ok (.aload_n 0, 1) := by decide +kernel
theorem dX6_findText_94 : decode cX6_findText 94 = .ok (.dup, 1) := by decide +kernel
theorem dX6_findText_95 : decode cX6_findText 95 = .ok (.getfield 90, 3) := by decide +kernel
theorem dX6_findText_98 : decode cX6_findText 98 = .ok (.iconst 1, 1) := by decide +kernel
theorem dX6_findText_99 : decode cX6_findText 99 = .ok (.iadd, 1) := by decide +kernel
theorem dX6_findText_100 : decode cX6_findText 100 = .ok (.putfield 90, 3) := by decide +kernel
theorem dX6_findText_103 : decode cX6_findText 103 = .ok (.goto (-34), 3) := by decide +kernel
theorem dX6_findText_106 : decode cX6_findText 106 = .ok (.aload_n 0, 1) := by decide +kernel
theorem dX6_findText_107 : decode cX6_findText 107 = .ok (.getfield 90, 3) := by decide +kernel
theorem dX6_findText_110 : decode cX6_findText 110 = .ok (.sipush 4096, 3) := by decide +kernel
theorem dX6_findText_113 : decode cX6_findText 113 = .ok (.if_icmp .ge 7, 3) := by decide +kernel
theorem dX6_findText_116 : decode cX6_findText 116 = .ok (.iconst 1, 1) := by decide +kernel
theorem dX6_findText_117 : decode cX6_findText 117 = .ok (.goto 4, 3) := by decide +kernel
theorem dX6_findText_120 : decode cX6_findText 120 = .ok (.iconst 0, 1) := by decide +kernel
theorem dX6_findText_121 : decode cX6_findText 121 = .ok (.ireturn, 1) := by decide +kernel
set_option maxRecDepth 100000 in
theorem ggX6_splitText_X4_octet : GoodIn wsX6_splitText wsX4_octet := goodIn_r _ [10, 11, 35] rfl (by decide +kernel)
set_option maxRecDepth 100000 in
theorem gX6_splitText_X4_octet : GoodIn wsX6_splitText (wsV RX6 53 RX4 yX4_octet wsX4_octet) := goodIn_app (goodIn_of _ (by decide +kernel)) ggX6_splitText_X4_octet
set_option maxRecDepth 100000 in
theorem ggX6_splitText_X1_separates : GoodIn wsX6_splitText wsX1_separates := goodIn_r _ [16, 17, 36, 37, 38, 39, 40, 41] rfl (by decide +kernel)
set_option maxRecDepth 100000 in
theorem gX6_splitText_X1_separates : GoodIn wsX6_splitText (wsV RX6 93 RX1 yX1_separates wsX1_separates) := goodIn_app (goodIn_of _ (by decide +kernel)) ggX6_splitText_X1_separates
set_option maxRecDepth 100000 in
theorem ggX6_splitText_X6_addWord : GoodIn wsX6_splitText wsX6_addWord := goodIn_r _ [22, 1, 23, 24, 25, 26, 27, 28, 29, 30, 31, 32, 33, 34] rfl (by decide +kernel)
set_option maxRecDepth 100000 in
theorem gX6_splitText_X6_addWord : GoodIn wsX6_splitText (wsV RX6 96 RX6 yX6_addWord wsX6_addWord) := goodIn_app (goodIn_of _ (by decide +kernel)) ggX6_splitText_X6_addWord
theorem dX6_splitText_0 : decode cX6_splitText 0 = .ok (.aload_n 0, 1) := by decide +kernel
theorem dX6_splitText_1 : decode cX6_splitText 1 = .ok (.iconst 0, 1) := by decide +kernel
theorem dX6_splitText_2 : decode cX6_splitText 2 = .ok (.putfield 49, 3) := by decide +kernel
theorem dX6_splitText_5 : decode cX6_splitText 5 = .ok (.aload_n 0, 1) := by decide +kernel
theorem dX6_splitText_6 : decode cX6_splitText 6 = .ok (.getfield 87, 3) := by decide +kernel
theorem dX6_splitText_9 : decode cX6_splitText 9 = .ok (.istore_n 1, 1) := by decide +kernel
theorem dX6_splitText_10 : decode cX6_splitText 10 = .ok (.aload_n 0, 1) := by decide +kernel
theorem dX6_splitText_11 : decode cX6_splitText 11 = .ok (.getfield 87, 3) := by decide +kernel
theorem dX6_splitText_14 : decode cX6_splitText 14 = .ok (.istore_n 2, 1) := by decide +kernel
theorem dX6_splitText_15 : decode cX6_splitText 15 = .ok (.iload_n 2, 1) := by decide +kernel
theorem dX6_splitText_16 : decode cX6_splitText 16 = .ok (.aload_n 0, 1) := by decide +kernel
theorem dX6_splitText_17 : decode cX6_splitText 17 = .ok (.getfield 90, 3) := by decide +kernel
theorem dX6_splitText_20 : decode cX6_splitText 20 = .ok (.if_icmp .ge 62, 3) := by decide +kernel
theorem dX6_splitText_23 : decode cX6_splitText 23 = .ok (.aload_n 0, 1) := by decide +kernel
theorem dX6_splitText_24 : decode cX6_splitText 24 = .ok (.getfield 21, 3) := by decide +kernel
theorem dX6_splitText_27 : decode cX6_splitText 27 = .ok (.iload_n 2, 1) := by decide +kernel
theorem dX6_splitText_28 : decode cX6_splitText 28 = .ok (.invokevirtual 53, 3) := by decide +kernel
theorem dX6_splitText_31 : decode cX6_splitText 31 = .ok (.istore_n 3, 1) := by decide +kernel
theorem dX6_splitText_32 : decode cX6_splitText 32 = .ok (.aload_n 0, 1) := by decide +kernel
theorem dX6_splitText_33 : decode cX6_splitText 33 = .ok (.getfield 29, 3) := by decide +kernel
theorem dX6_splitText_36 : decode cX6_splitText 36 = .ok (.iload_n 3, 1) := by decide +kernel
theorem dX6_splitText_37 : decode cX6_splitText 37 = .ok (.invokevirtual 93, 3) := by decide +kernel
theorem dX6_splitText_40 : decode cX6_splitText 40 = .ok (.istore 4, 2) := by decide +kernel
theorem dX6_splitText_42 : decode cX6_splitText 42 = .ok (.iload 4, 2) := by decide +kernel
theorem dX6_splitText_44 : decode cX6_splitText 44 = .ok (.ifCond .ne 9, 3) := by decide +kernel
theorem dX6_splitText_47 : decode cX6_splitText 47 = .ok (.iload_n 3, 1) := by decide +kernel
theorem dX6_splitText_48 : decode cX6_splitText 48 = .ok (.bipush 32, 2) := by decide +kernel
theorem dX6_splitText_50 : decode cX6_splitText 50 = .ok (.if_icmp .ne 15, 3) := by decide +kernel
theorem dX6_splitText_53 : decode cX6_splitText 53 = .ok (.aload_n 0, 1) := by decide +kernel
theorem dX6_splitText_54 : decode cX6_splitText 54 = .ok (.iload_n 1, 1) := by decide +kernel
theorem dX6_splitText_55 : decode cX6_splitText 55 = .ok (.iload_n 2, 1) := by decide +kernel
theorem dX6_splitText_56 : decode cX6_splitText 56 = .ok (.iload_n 1, 1) := by decide +kernel
theorem dX6_splitText_57 : decode cX6_splitText 57 = .ok (.isub, 1) := by decide +kernel
theorem dX6_splitText_58 : decode cX6_splitText 58 = .ok (.invokevirtual 96, 3) := by decide +kernel
theorem dX6_splitText_61 : decode cX6_splitText 61 = .ok (.iload_n 2, 1) := by decide +kernel
theorem dX6_splitText_62 : decode cX6_splitText 62 = .ok (.iconst 1, 1) := by decide +kernel
theorem dX6_splitText_63 : decode cX6_splitText 63 = .ok (.iadd, 1) := by decide +kernel
theorem dX6_splitText_64 : decode cX6_splitText 64 = .ok (.istore_n 1, 1) := by decide +kernel
theorem dX6_splitText_65 : decode cX6_splitText 65 = .ok (.iload 4, 2) := by decide +kernel
theorem dX6_splitText_67 : decode cX6_splitText 67 = .ok (.ifCond .eq 9, 3) := by decide +kernel
theorem dX6_splitText_70 : decode cX6_splitText 70 = .ok (.aload_n 0, 1) := by decide +kernel
theorem dX6_splitText_71 : decode cX6_splitText 71 = .ok (.iload_n 2, 1) := by decide +kernel
theorem dX6_splitText_72 : decode cX6_splitText 72 = .ok (.iconst 1, 1) := by decide +kernel
theorem dX6_splitText_73 : decode cX6_splitText 73 = .ok (.invokevirtual 96, 3) := by decide +kernel
theorem dX6_splitText_76 : decode cX6_splitText 76 = .ok (.iinc 2 1, 3) := by decide +kernel
theorem dX6_splitText_79 : decode cX6_splitText 79 = .ok (.goto (-64), 3) := by decide +kernel
theorem dX6_splitText_82 : decode cX6_splitText 82 = .ok (.aload_n 0, 1) := by decide +kernel
theorem dX6_splitText_83 : decode cX6_splitText 83 = .ok (.iload_n 1, 1) := by decide +kernel
theorem dX6_splitText_84 : decode cX6_splitText 84 = .ok (.aload_n 0, 1) := by decide +kernel
theorem dX6_splitText_85 : decode cX6_splitText 85 = .ok (.getfield 90, 3) := by decide +kernel
theorem dX6_splitText_88 : decode cX6_splitText 88 = .ok (.iload_n 1, 1) := by decide +kernel
theorem dX6_splitText_89 : decode cX6_splitText 89 = .ok (.isub, 1) := by decide +kernel
theorem dX6_splitText_90 : decode cX6_splitText 90 = .ok (.invokevirtual 96, 3) := by decide +kernel
theorem dX6_splitText_93 : decode cX6_splitText 93 = .ok (.return_, 1) := by decide +kernel
theorem dX6_addWord_0 : decode cX6_addWord 0 = .ok (.iload_n 2, 1) := by decide +kernel
theorem dX6_addWord_1 : decode cX6_addWord 1 = .ok (.ifCond .gt 4, 3) := by decide +kernel
theorem dX6_addWord_4 : decode cX6_addWord 4 = .ok (.return_, 1) := by decide +kernel
theorem dX6_addWord_5 : decode cX6_addWord 5 = .ok (.aload_n 0, 1) := by decide +kernel
theorem dX6_addWord_6 : decode cX6_addWord 6 = .ok (.getfield 49, 3) := by decide +kernel
theorem dX6_addWord_9 : decode cX6_addWord 9 = .ok (.ifCond .lt 33, 3) := by decide +kernel
theorem dX6_addWord_12 : decode cX6_addWord 12 = .ok (.aload_n 0, 1) := by decide +kernel
theorem dX6_addWord_13 : decode cX6_addWord 13 = .ok (.getfield 49, 3) := by decide +kernel
theorem dX6_addWord_16 : decode cX6_addWord 16 = .ok (.sipush 255, 3) := by decide +kernel
theorem dX6_addWord_19 : decode cX6_addWord 19 = .ok (.if_icmp .ge 23, 3) := by decide +kernel
theorem dX6_addWord_22 : decode cX6_addWord 22 = .ok (.aload_n 0, 1) := by decide +kernel
theorem dX6_addWord_23 : decode cX6_addWord 23 = .ok (.getfield 11, 3) := by decide +kernel
theorem dX6_addWord_26 : decode cX6_addWord 26 = .ok (.aload_n 0, 1) := by decide +kernel
theorem dX6_addWord_27 : decode cX6_addWord 27 = .ok (.getfield 49, 3) := by decide +kernel
theorem dX6_addWord_30 : decode cX6_addWord 30 = .ok (.iload_n 1, 1) := by decide +kernel
theorem dX6_addWord_31 : decode cX6_addWord 31 = .ok (.iastore, 1) := by decide +kernel
theorem dX6_addWord_32 : decode cX6_addWord 32 = .ok (.aload_n 0, 1) := by decide +kernel
theorem dX6_addWord_33 : decode cX6_addWord 33 = .ok (.getfield 15, 3) := by decide +kernel
theorem dX6_addWord_36 : decode cX6_addWord 36 = .ok (.aload_n 0, 1) := by decide +kernel
theorem dX6_addWord_37 : decode cX6_addWord 37 = .ok (.getfield 49, 3) := by decide +kernel
theorem dX6_addWord_40 : decode cX6_addWord 40 = .ok (.iload_n 2, 1) := by decide +kernel
theorem dX6_addWord_41 : decode cX6_addWord 41 = .ok (.iastore, 1) := by decide +kernel
theorem dX6_addWord_42 : decode cX6_addWord 42 = .ok (.aload_n 0, 1) := by decide +kernel
theorem dX6_addWord_43 : decode cX6_addWord 43 = .ok (.dup, 1) := by decide +kernel
theorem dX6_addWord_44 : decode cX6_addWord 44 = .ok (.getfield 49, 3) := by decide +kernel
theorem dX6_addWord_47 : decode cX6_addWord 47 = .ok (.iconst 1, 1) := by decide +kernel
theorem dX6_addWord_48 : decode cX6_addWord 48 = .ok (.iadd, 1) := by decide +kernel
theorem dX6_addWord_49 : decode cX6_addWord 49 = .ok (.putfield 49, 3) := by decide +kernel
theorem dX6_addWord_52 : decode cX6_addWord 52 = .ok (.return_, 1) := by decide +kernel
set_option maxRecDepth 100000 in
theorem ggX6_tellWord_X4_store : GoodIn wsX6_tellWord wsX4_store := goodIn_r _ [9, 10, 11, 12, 8, 13, 14, 26] rfl (by decide +kernel)
set_option maxRecDepth 100000 in
theorem gX6_tellWord_X4_store : GoodIn wsX6_tellWord (wsV RX6 99 RX4 yX4_store wsX4_store) := goodIn_app (goodIn_of _ (by decide +kernel)) ggX6_tellWord_X4_store
set_option maxRecDepth 100000 in
theorem ggX6_tellWord_X4_setOctet : GoodIn wsX6_tellWord wsX4_setOctet := goodIn_r _ [13, 14, 26] rfl (by decide +kernel)
set_option maxRecDepth 100000 in
theorem gX6_tellWord_X4_setOctet : GoodIn wsX6_tellWord (wsV RX6 79 RX4 yX4_setOctet wsX4_setOctet) := goodIn_app (goodIn_of _ (by decide +kernel)) ggX6_tellWord_X4_setOctet
theorem dX6_tellWord_0 : decode cX6_tellWord 0 = .ok (.iload_n 1, 1) := by decide +kernel
theorem dX6_tellWord_1 : decode cX6_tellWord 1 = .ok (.ifCond .lt 60, 3) := by decide +kernel
theorem dX6_tellWord_4 : decode cX6_tellWord 4 = .ok (.iload_n 1, 1) := by decide +kernel
theorem dX6_tellWord_5 : decode cX6_tellWord 5 = .ok (.sipush 255, 3) := by decide +kernel
theorem dX6_tellWord_8 : decode cX6_tellWord 8 = .ok (.if_icmp .ge 53, 3) := by decide +kernel
theorem dX6_tellWord_11 : decode cX6_tellWord 11 = .ok (.aload_n 0, 1) := by decide +kernel
theorem dX6_tellWord_12 : decode cX6_tellWord 12 = .ok (.getfield 21, 3) := by decide +kernel
theorem dX6_tellWord_15 : decode cX6_tellWord 15 = .ok (.iload_n 2, 1) := by decide +kernel
theorem dX6_tellWord_16 : decode cX6_tellWord 16 = .ok (.iconst 2, 1) := by decide +kernel
theorem dX6_tellWord_17 : decode cX6_tellWord 17 = .ok (.aload_n 0, 1) := by decide +kernel
theorem dX6_tellWord_18 : decode cX6_tellWord 18 = .ok (.getfield 18, 3) := by decide +kernel
theorem dX6_tellWord_21 : decode cX6_tellWord 21 = .ok (.iload_n 1, 1) := by decide +kernel
theorem dX6_tellWord_22 : decode cX6_tellWord 22 = .ok (.iaload, 1) := by decide +kernel
theorem dX6_tellWord_23 : decode cX6_tellWord 23 = .ok (.i2l, 1) := by decide +kernel
theorem dX6_tellWord_24 : decode cX6_tellWord 24 = .ok (.invokevirtual 99, 3) := by decide +kernel
theorem dX6_tellWord_27 : decode cX6_tellWord 27 = .ok (.aload_n 0, 1) := by decide +kernel
theorem dX6_tellWord_28 : decode cX6_tellWord 28 = .ok (.getfield 21, 3) := by decide +kernel
theorem dX6_tellWord_31 : decode cX6_tellWord 31 = .ok (.iload_n 2, 1) := by decide +kernel
theorem dX6_tellWord_32 : decode cX6_tellWord 32 = .ok (.iconst 2, 1) := by decide +kernel
theorem dX6_tellWord_33 : decode cX6_tellWord 33 = .ok (.iadd, 1) := by decide +kernel
theorem dX6_tellWord_34 : decode cX6_tellWord 34 = .ok (.aload_n 0, 1) := by decide +kernel
theorem dX6_tellWord_35 : decode cX6_tellWord 35 = .ok (.getfield 15, 3) := by decide +kernel
theorem dX6_tellWord_38 : decode cX6_tellWord 38 = .ok (.iload_n 1, 1) := by decide +kernel
theorem dX6_tellWord_39 : decode cX6_tellWord 39 = .ok (.iaload, 1) := by decide +kernel
theorem dX6_tellWord_40 : decode cX6_tellWord 40 = .ok (.invokevirtual 79, 3) := by decide +kernel
theorem dX6_tellWord_43 : decode cX6_tellWord 43 = .ok (.aload_n 0, 1) := by decide +kernel
theorem dX6_tellWord_44 : decode cX6_tellWord 44 = .ok (.getfield 21, 3) := by decide +kernel
theorem dX6_tellWord_47 : decode cX6_tellWord 47 = .ok (.iload_n 2, 1) := by decide +kernel
theorem dX6_tellWord_48 : decode cX6_tellWord 48 = .ok (.iconst 3, 1) := by decide +kernel
theorem dX6_tellWord_49 : decode cX6_tellWord 49 = .ok (.iadd, 1) := by decide +kernel
theorem dX6_tellWord_50 : decode cX6_tellWord 50 = .ok (.aload_n 0, 1) := by decide +kernel
theorem dX6_tellWord_51 : decode cX6_tellWord 51 = .ok (.getfield 11, 3) := by decide +kernel
theorem dX6_tellWord_54 : decode cX6_tellWord 54 = .ok (.iload_n 1, 1) := by decide +kernel
theorem dX6_tellWord_55 : decode cX6_tellWord 55 = .ok (.iaload, 1) := by decide +kernel
theorem dX6_tellWord_56 : decode cX6_tellWord 56 = .ok (.iload_n 3, 1) := by decide +kernel
theorem dX6_tellWord_57 : decode cX6_tellWord 57 = .ok (.isub, 1) := by decide +kernel
theorem dX6_tellWord_58 : decode cX6_tellWord 58 = .ok (.invokevirtual 79, 3) := by decide +kernel
theorem dX6_tellWord_61 : decode cX6_tellWord 61 = .ok (.return_, 1) := by decide +kernel
theorem dX7_init_0 : decode cX7_init 0 = .ok (.aload_n 0, 1) := by decide +kernel
theorem dX7_init_1 : decode cX7_init 1 = .ok (.invokespecial 3, 3) := by decide +kernel
theorem dX7_init_4 : decode cX7_init 4 = .ok (.aload_n 0, 1) := by decide +kernel
theorem dX7_init_5 : decode cX7_init 5 = .ok (.iconst (-1), 1) := by decide +kernel
theorem dX7_init_6 : decode cX7_init 6 = .ok (.putfield 11, 3) := by decide +kernel
theorem dX7_init_9 : decode cX7_init 9 = .ok (.aload_n 0, 1) := by decide +kernel
theorem dX7_init_10 : decode cX7_init 10 = .ok (.sipush 255, 3) := by decide +kernel
theorem dX7_init_13 : decode cX7_init 13 = .ok (.newarray .int, 2) := by decide +kernel
theorem dX7_init_15 : decode cX7_init 15 = .ok (.putfield 15, 3) := by decide +kernel
theorem dX7_init_18 : decode cX7_init 18 = .ok (.return_, 1) := by decide +kernel
theorem dX7_start_0 : decode cX7_start 0 = .ok (.aload_n 0, 1) := by decide +kernel
theorem dX7_start_1 : decode cX7_start 1 = .ok (.iconst 1, 1) := by decide +kernel
theorem dX7_start_2 : decode cX7_start 2 = .ok (.putfield 19, 3) := by decide +kernel
theorem dX7_start_5 : decode cX7_start 5 = .ok (.aload_n 0, 1) := by decide +kernel
theorem dX7_start_6 : decode cX7_start 6 = .ok (.iload_n 1, 1) := by decide +kernel
theorem dX7_start_7 : decode cX7_start 7 = .ok (.putfield 23, 3) := by decide +kernel
theorem dX7_start_10 : decode cX7_start 10 = .ok (.aload_n 0, 1) := by decide +kernel
theorem dX7_start_11 : decode cX7_start 11 = .ok (.iload_n 2, 1) := by decide +kernel
theorem dX7_start_12 : decode cX7_start 12 = .ok (.putfield 26, 3) := by decide +kernel
theorem dX7_start_15 : decode cX7_start 15 = .ok (.aload_n 0, 1) := by decide +kernel
theorem dX7_start_16 : decode cX7_start 16 = .ok (.iload_n 3, 1) := by decide +kernel
theorem dX7_start_17 : decode cX7_start 17 = .ok (.putfield 29, 3) := by decide +kernel
theorem dX7_start_20 : decode cX7_start 20 = .ok (.aload_n 0, 1) := by decide +kernel
theorem dX7_start_21 : decode cX7_start 21 = .ok (.iconst 0, 1) := by decide +kernel
theorem dX7_start_22 : decode cX7_start 22 = .ok (.putfield 32, 3) := by decide +kernel
theorem dX7_start_25 : decode cX7_start 25 = .ok (.aload_n 0, 1) := by decide +kernel
theorem dX7_start_26 : decode cX7_start 26 = .ok (.iconst (-1), 1) := by decide +kernel
theorem dX7_start_27 : decode cX7_start 27 = .ok (.putfield 11, 3) := by decide +kernel
theorem dX7_start_30 : decode cX7_start 30 = .ok (.return_, 1) := by decide +kernel
theorem dX7_add_0 : decode cX7_add 0 = .ok (.aload_n 0, 1) := by decide +kernel
theorem dX7_add_1 : decode cX7_add 1 = .ok (.getfield 32, 3) := by decide +kernel
theorem dX7_add_4 : decode cX7_add 4 = .ok (.aload_n 0, 1) := by decide +kernel
theorem dX7_add_5 : decode cX7_add 5 = .ok (.getfield 29, 3) := by decide +kernel
theorem dX7_add_8 : decode cX7_add 8 = .ok (.if_icmp .ge 42, 3) := by decide +kernel
theorem dX7_add_11 : decode cX7_add 11 = .ok (.aload_n 0, 1) := by decide +kernel
theorem dX7_add_12 : decode cX7_add 12 = .ok (.getfield 32, 3) := by decide +kernel
theorem dX7_add_15 : decode cX7_add 15 = .ok (.ifCond .lt 35, 3) := by decide +kernel
theorem dX7_add_18 : decode cX7_add 18 = .ok (.aload_n 0, 1) := by decide +kernel
theorem dX7_add_19 : decode cX7_add 19 = .ok (.getfield 32, 3) := by decide +kernel
theorem dX7_add_22 : decode cX7_add 22 = .ok (.aload_n 0, 1) := by decide +kernel
theorem dX7_add_23 : decode cX7_add 23 = .ok (.getfield 15, 3) := by decide +kernel
theorem dX7_add_26 : decode cX7_add 26 = .ok (.arraylength, 1) := by decide +kernel
theorem dX7_add_27 : decode cX7_add 27 = .ok (.if_icmp .ge 23, 3) := by decide +kernel
theorem dX7_add_30 : decode cX7_add 30 = .ok (.aload_n 0, 1) := by decide +kernel
theorem dX7_add_31 : decode cX7_add 31 = .ok (.getfield 15, 3) := by decide +kernel
theorem dX7_add_34 : decode cX7_add 34 = .ok (.aload_n 0, 1) := by decide +kernel
theorem dX7_add_35 : decode cX7_add 35 = .ok (.getfield 32, 3) := by decide +kernel
theorem dX7_add_38 : decode cX7_add 38 = .ok (.iload_n 1, 1) := by decide +kernel
theorem dX7_add_39 : decode cX7_add 39 = .ok (.iastore, 1) := by decide +kernel
theorem dX7_add_40 : decode cX7_add 40 = .ok (.aload_n 0, 1) := by decide +kernel
theorem dX7_add_41 : decode cX7_add 41 = .ok (.dup, 1) := by decide +kernel
theorem dX7_add_42 : decode cX7_add 42 = .ok (.getfield 32, 3) := by decide +kernel
theorem dX7_add_45 : decode cX7_add 45 = .ok (.iconst 1, 1) := by decide +kernel
theorem dX7_add_46 : decode cX7_add 46 = .ok (.iadd, 1) := by decide +kernel
theorem dX7_add_47 : decode cX7_add 47 = .ok (.putfield 32, 3) := by decide +kernel
theorem dX7_add_50 : decode cX7_add 50 = .ok (.return_, 1) := by decide +kernel
theorem dX7_dropLast_0 : decode cX7_dropLast 0 = .ok (.aload_n 0, 1) := by decide +kernel
theorem dX7_dropLast_1 : decode cX7_dropLast 1 = .ok (.getfield 32, 3) := by decide +kernel
theorem dX7_dropLast_4 : decode cX7_dropLast 4 = .ok (.ifCond .le 13, 3) := by decide +kernel
theorem dX7_dropLast_7 : decode cX7_dropLast 7 = .ok (.aload_n 0, 1) := by decide +kernel
theorem dX7_dropLast_8 : decode cX7_dropLast 8 = .ok (.dup, 1) := by decide +kernel
theorem dX7_dropLast_9 : decode cX7_dropLast 9 = .ok (.getfield 32, 3) := by decide +kernel
theorem dX7_dropLast_12 : decode cX7_dropLast 12 = .ok (.iconst 1, 1) := by decide +kernel
theorem dX7_dropLast_13 : decode cX7_dropLast 13 = .ok (.isub, 1) := by decide +kernel
theorem dX7_dropLast_14 : decode cX7_dropLast 14 = .ok (.putfield 32, 3) := by decide +kernel
theorem dX7_dropLast_17 : decode cX7_dropLast 17 = .ok (.return_, 1) := by decide +kernel
theorem dX7_clear_0 : decode cX7_clear 0 = .ok (.aload_n 0, 1) := by decide +kernel
theorem dX7_clear_1 : decode cX7_clear 1 = .ok (.iconst 0, 1) := by decide +kernel
theorem dX7_clear_2 : decode cX7_clear 2 = .ok (.putfield 32, 3) := by decide +kernel
theorem dX7_clear_5 : decode cX7_clear 5 = .ok (.return_, 1) := by decide +kernel
theorem dX7_code_0 : decode cX7_code 0 = .ok (.iload_n 1, 1) := by decide +kernel
theorem dX7_code_1 : decode cX7_code 1 = .ok (.ifCond .lt 29, 3) := by decide +kernel
theorem dX7_code_4 : decode cX7_code 4 = .ok (.iload_n 1, 1) := by decide +kernel
theorem dX7_code_5 : decode cX7_code 5 = .ok (.aload_n 0, 1) := by decide +kernel
theorem dX7_code_6 : decode cX7_code 6 = .ok (.getfield 32, 3) := by decide +kernel
theorem dX7_code_9 : decode cX7_code 9 = .ok (.if_icmp .ge 21, 3) := by decide +kernel
theorem dX7_code_12 : decode cX7_code 12 = .ok (.iload_n 1, 1) := by decide +kernel
theorem dX7_code_13 : decode cX7_code 13 = .ok (.aload_n 0, 1) := by decide +kernel
theorem dX7_code_14 : decode cX7_code 14 = .ok (.getfield 15, 3) := by decide +kernel
theorem dX7_code_17 : decode cX7_code 17 = .ok (.arraylength, 1) := by decide +kernel
theorem dX7_code_18 : decode cX7_code 18 = .ok (.if_icmp .ge 12, 3) := by decide +kernel
theorem dX7_code_21 : decode cX7_code 21 = .ok (.aload_n 0, 1) := by decide +kernel
theorem dX7_code_22 : decode cX7_code 22 = .ok (.getfield 15, 3) := by decide +kernel
theorem dX7_code_25 : decode cX7_code 25 = .ok (.iload_n 1, 1) := by decide +kernel
theorem dX7_code_26 : decode cX7_code 26 = .ok (.iaload, 1) := by decide +kernel
theorem dX7_code_27 : decode cX7_code 27 = .ok (.goto 4, 3) := by decide +kernel
theorem dX7_code_30 : decode cX7_code 30 = .ok (.iconst 0, 1) := by decide +kernel
theorem dX7_code_31 : decode cX7_code 31 = .ok (.ireturn, 1) := by decide +kernel
theorem dX8_init_0 : decode cX8_init 0 = .ok (.aload_n 0, 1) := by decide +kernel
theorem dX8_init_1 : decode cX8_init 1 = .ok (.invokespecial 1, 3) := by decide +kernel
theorem dX8_init_4 : decode cX8_init 4 = .ok (.aload_n 0, 1) := by decide +kernel
theorem dX8_init_5 : decode cX8_init 5 = .ok (.sipush 300, 3) := by decide +kernel
theorem dX8_init_8 : decode cX8_init 8 = .ok (.newarray .int, 2) := by decide +kernel
theorem dX8_init_10 : decode cX8_init 10 = .ok (.putfield 9, 3) := by decide +kernel
theorem dX8_init_13 : decode cX8_init 13 = .ok (.return_, 1) := by decide +kernel
theorem dX8_add_0 : decode cX8_add 0 = .ok (.aload_n 0, 1) := by decide +kernel
theorem dX8_add_1 : decode cX8_add 1 = .ok (.getfield 13, 3) := by decide +kernel
theorem dX8_add_4 : decode cX8_add 4 = .ok (.aload_n 0, 1) := by decide +kernel
theorem dX8_add_5 : decode cX8_add 5 = .ok (.getfield 17, 3) := by decide +kernel
theorem dX8_add_8 : decode cX8_add 8 = .ok (.iadd, 1) := by decide +kernel
theorem dX8_add_9 : decode cX8_add 9 = .ok (.sipush 300, 3) := by decide +kernel
theorem dX8_add_12 : decode cX8_add 12 = .ok (.irem, 1) := by decide +kernel
theorem dX8_add_13 : decode cX8_add 13 = .ok (.istore_n 2, 1) := by decide +kernel
theorem dX8_add_14 : decode cX8_add 14 = .ok (.aload_n 0, 1) := by decide +kernel
theorem dX8_add_15 : decode cX8_add 15 = .ok (.getfield 17, 3) := by decide +kernel
theorem dX8_add_18 : decode cX8_add 18 = .ok (.sipush 300, 3) := by decide +kernel
theorem dX8_add_21 : decode cX8_add 21 = .ok (.if_icmp .ge 16, 3) := by decide +kernel
theorem dX8_add_24 : decode cX8_add 24 = .ok (.iload_n 2, 1) := by decide +kernel
theorem dX8_add_25 : decode cX8_add 25 = .ok (.ifCond .lt 12, 3) := by decide +kernel
theorem dX8_add_28 : decode cX8_add 28 = .ok (.iload_n 2, 1) := by decide +kernel
theorem dX8_add_29 : decode cX8_add 29 = .ok (.aload_n 0, 1) := by decide +kernel
theorem dX8_add_30 : decode cX8_add 30 = .ok (.getfield 9, 3) := by decide +kernel
theorem dX8_add_33 : decode cX8_add 33 = .ok (.arraylength, 1) := by decide +kernel
theorem dX8_add_34 : decode cX8_add 34 = .ok (.if_icmp .lt 5, 3) := by decide +kernel
theorem dX8_add_37 : decode cX8_add 37 = .ok (.iconst 0, 1) := by decide +kernel
theorem dX8_add_38 : decode cX8_add 38 = .ok (.ireturn, 1) := by decide +kernel
theorem dX8_add_39 : decode cX8_add 39 = .ok (.aload_n 0, 1) := by decide +kernel
theorem dX8_add_40 : decode cX8_add 40 = .ok (.getfield 9, 3) := by decide +kernel
theorem dX8_add_43 : decode cX8_add 43 = .ok (.iload_n 2, 1) := by decide +kernel
theorem dX8_add_44 : decode cX8_add 44 = .ok (.iload_n 1, 1) := by decide +kernel
theorem dX8_add_45 : decode cX8_add 45 = .ok (.iastore, 1) := by decide +kernel
theorem dX8_add_46 : decode cX8_add 46 = .ok (.aload_n 0, 1) := by decide +kernel
theorem dX8_add_47 : decode cX8_add 47 = .ok (.dup, 1) := by decide +kernel
theorem dX8_add_48 : decode cX8_add 48 = .ok (.getfield 17, 3) := by decide +kernel
theorem dX8_add_51 : decode cX8_add 51 = .ok (.iconst 1, 1) := by decide +kernel
theorem dX8_add_52 : decode cX8_add 52 = .ok (.iadd, 1) := by decide +kernel
theorem dX8_add_53 : decode cX8_add 53 = .ok (.putfield 17, 3) := by decide +kernel
theorem dX8_add_56 : decode cX8_add 56 = .ok (.iconst 1, 1) := by decide +kernel
theorem dX8_add_57 : decode cX8_add 57 = .ok (.ireturn, 1) := by decide +kernel
theorem dX8_takeFirst_0 : decode cX8_takeFirst 0 = .ok (.aload_n 0, 1) := by decide +kernel
theorem dX8_takeFirst_1 : decode cX8_takeFirst 1 = .ok (.getfield 17, 3) := by decide +kernel
theorem dX8_takeFirst_4 : decode cX8_takeFirst 4 = .ok (.ifCond .le 22, 3) := by decide +kernel
theorem dX8_takeFirst_7 : decode cX8_takeFirst 7 = .ok (.aload_n 0, 1) := by decide +kernel
theorem dX8_takeFirst_8 : decode cX8_takeFirst 8 = .ok (.getfield 13, 3) := by decide +kernel
theorem dX8_takeFirst_11 : decode cX8_takeFirst 11 = .ok (.ifCond .lt 15, 3) := by decide +kernel
theorem dX8_takeFirst_14 : decode cX8_takeFirst 14 = .ok (.aload_n 0, 1) := by decide +kernel
theorem dX8_takeFirst_15 : decode cX8_takeFirst 15 = .ok (.getfield 13, 3) := by decide +kernel
theorem dX8_takeFirst_18 : decode cX8_takeFirst 18 = .ok (.aload_n 0, 1) := by decide +kernel
theorem dX8_takeFirst_19 : decode cX8_takeFirst 19 = .ok (.getfield 9, 3) := by decide +kernel
theorem dX8_takeFirst_22 : decode cX8_takeFirst 22 = .ok (.arraylength, 1) := by decide +kernel
theorem dX8_takeFirst_23 : decode cX8_takeFirst 23 = .ok (.if_icmp .lt 5, 3) := by decide +kernel
theorem dX8_takeFirst_26 : decode cX8_takeFirst 26 = .ok (.iconst 0, 1) := by decide +kernel
theorem dX8_takeFirst_27 : decode cX8_takeFirst 27 = .ok (.ireturn, 1) := by decide +kernel
theorem dX8_takeFirst_28 : decode cX8_takeFirst 28 = .ok (.aload_n 0, 1) := by decide +kernel
theorem dX8_takeFirst_29 : decode cX8_takeFirst 29 = .ok (.getfield 9, 3) := by decide +kernel
theorem dX8_takeFirst_32 : decode cX8_takeFirst 32 = .ok (.aload_n 0, 1) := by decide +kernel
theorem dX8_takeFirst_33 : decode cX8_takeFirst 33 = .ok (.getfield 13, 3) := by decide +kernel
theorem dX8_takeFirst_36 : decode cX8_takeFirst 36 = .ok (.iaload, 1) := by decide +kernel
theorem dX8_takeFirst_37 : decode cX8_takeFirst 37 = .ok (.istore_n 1, 1) := by decide +kernel
theorem dX8_takeFirst_38 : decode cX8_takeFirst 38 = .ok (.aload_n 0, 1) := by decide +kernel
theorem dX8_takeFirst_39 : decode cX8_takeFirst 39 = .ok (.aload_n 0, 1) := by decide +kernel
theorem dX8_takeFirst_40 : decode cX8_takeFirst 40 = .ok (.getfield 13, 3) := by decide +kernel
theorem dX8_takeFirst_43 : decode cX8_takeFirst 43 = .ok (.iconst 1, 1) := by decide +kernel
theorem dX8_takeFirst_44 : decode cX8_takeFirst 44 = .ok (.iadd, 1) := by decide +kernel
theorem dX8_takeFirst_45 : decode cX8_takeFirst 45 = .ok (.sipush 300, 3) := by decide +kernel
theorem dX8_takeFirst_48 : decode cX8_takeFirst 48 = .ok (.irem, 1) := by decide +kernel
theorem dX8_takeFirst_49 : decode cX8_takeFirst 49 = .ok (.putfield 13, 3) := by decide +kernel
theorem dX8_takeFirst_52 : decode cX8_takeFirst 52 = .ok (.aload_n 0, 1) := by decide +kernel
theorem dX8_takeFirst_53 : decode cX8_takeFirst 53 = .ok (.dup, 1) := by decide +kernel
theorem dX8_takeFirst_54 : decode cX8_takeFirst 54 = .ok (.getfield 17, 3) := by decide +kernel
theorem dX8_takeFirst_57 : decode cX8_takeFirst 57 = .ok (.iconst 1, 1) := by decide +kernel
theorem dX8_takeFirst_58 : decode cX8_takeFirst 58 = .ok (.isub, 1) := by decide +kernel
theorem dX8_takeFirst_59 : decode cX8_takeFirst 59 = .ok (.putfield 17, 3) := by decide +kernel
theorem dX8_takeFirst_62 : decode cX8_takeFirst 62 = .ok (.iload_n 1, 1) := by decide +kernel
theorem dX8_takeFirst_63 : decode cX8_takeFirst 63 = .ok (.ireturn, 1) := by decide +kernel
set_option maxRecDepth 100000 in
theorem ggJ0_length_8abf5_J0_coder_7d493 : GoodIn wsJ0_length_8abf5 wsJ0_coder_7d493 := goodIn_r _ [6, 7, 8] rfl (by decide +kernel)
set_option maxRecDepth 100000 in
theorem gJ0_length_8abf5_J0_coder_7d493 : GoodIn wsJ0_length_8abf5 (wsV RJ0 335 RJ0 yJ0_coder_7d493 wsJ0_coder_7d493) := goodIn_app (goodIn_of _ (by decide +kernel)) ggJ0_length_8abf5_J0_coder_7d493
theorem dJ0_length_8abf5_0 : decode cJ0_length_8abf5 0 = .ok (.aload_n 0, 1) := by decide +kernel
theorem dJ0_length_8abf5_1 : decode cJ0_length_8abf5 1 = .ok (.getfield 9, 3) := by decide +kernel
theorem dJ0_length_8abf5_4 : decode cJ0_length_8abf5 4 = .ok (.arraylength, 1) := by decide +kernel
theorem dJ0_length_8abf5_5 : decode cJ0_length_8abf5 5 = .ok (.aload_n 0, 1) := by decide +kernel
theorem dJ0_length_8abf5_6 : decode cJ0_length_8abf5 6 = .ok (.invokevirtual 335, 3) := by decide +kernel
theorem dJ0_length_8abf5_9 : decode cJ0_length_8abf5 9 = .ok (.ishr, 1) := by decide +kernel
theorem dJ0_length_8abf5_10 : decode cJ0_length_8abf5 10 = .ok (.ireturn, 1) := by decide +kernel
set_option maxRecDepth 100000 in
theorem ggJ0_indexOf_0f7a4_J0_indexOf_7cf53 : GoodIn wsJ0_indexOf_0f7a4 wsJ0_indexOf_7cf53 := goodIn_r _ [5, 6, 7, 8, 9, 4, 10, 11, 12, 13, 14, 15, 16, 17, 18, 19, 20, 21, 22, 23, 24, 25, 26, 27, 28, 29, 30, 31, 32, 33, 34, 35, 36, 37, 38, 39, 40, 41, 42, 43, 44, 45, 46, 47, 48, 49, 50, 51, 52, 53, 54, 55, 56, 57, 58, 59, 60, 61, 62, 63, 64, 65, 66, 67, 68, 69, 70, 71, 72, 73, 74, 75, 76, 77, 78, 79, 80, 81, 82, 83, 84, 85] rfl (by decide +kernel)
set_option maxRecDepth 100000 in
theorem gJ0_indexOf_0f7a4_J0_indexOf_7cf53 : GoodIn wsJ0_indexOf_0f7a4 (wsV RJ0 633 RJ0 yJ0_indexOf_7cf53 wsJ0_indexOf_7cf53) := goodIn_app (goodIn_of _ (by decide +kernel)) ggJ0_indexOf_0f7a4_J0_indexOf_7cf53
theorem dJ0_indexOf_0f7a4_0 : decode cJ0_indexOf_0f7a4 0 = .ok (.aload_n 0, 1) := by decide +kernel
theorem dJ0_indexOf_0f7a4_1 : decode cJ0_indexOf_0f7a4 1 = .ok (.iload_n 1, 1) := by decide +kernel
theorem dJ0_indexOf_0f7a4_2 : decode cJ0_indexOf_0f7a4 2 = .ok (.iconst 0, 1) := by decide +kernel
theorem dJ0_indexOf_0f7a4_3 : decode cJ0_indexOf_0f7a4 3 = .ok (.invokevirtual 633, 3) := by decide +kernel
theorem dJ0_indexOf_0f7a4_6 : decode cJ0_indexOf_0f7a4 6 = .ok (.ireturn, 1) := by decide +kernel
set_option maxRecDepth 100000 in
theorem ggJ0_indexOf_7cf53_J0_isLatin1_aae02 : GoodIn wsJ0_indexOf_7cf53 wsJ0_isLatin1_aae02 := goodIn_r _ [6, 7, 8] rfl (by decide +kernel)
set_option maxRecDepth 100000 in
theorem gJ0_indexOf_7cf53_J0_isLatin1_aae02 : GoodIn wsJ0_indexOf_7cf53 (wsV RJ0 492 RJ0 yJ0_isLatin1_aae02 wsJ0_isLatin1_aae02) := goodIn_app (goodIn_of _ (by decide +kernel)) ggJ0_indexOf_7cf53_J0_isLatin1_aae02
set_option maxRecDepth 100000 in
theorem ggJ0_indexOf_7cf53_J0_length_8abf5 : GoodIn wsJ0_indexOf_7cf53 wsJ0_length_8abf5 := goodIn_r _ [12, 1, 13, 14, 15, 5, 16, 7, 8] rfl (by decide +kernel)
set_option maxRecDepth 100000 in
theorem gJ0_indexOf_7cf53_J0_length_8abf5 : GoodIn wsJ0_indexOf_7cf53 (wsV RJ0 505 RJ0 yJ0_length_8abf5 wsJ0_length_8abf5) := goodIn_app (goodIn_of _ (by decide +kernel)) ggJ0_indexOf_7cf53_J0_length_8abf5
set_option maxRecDepth 100000 in
theorem ggJ0_indexOf_7cf53_J1_indexOf_4cfef : GoodIn wsJ0_indexOf_7cf53 wsJ1_indexOf_4cfef := goodIn_r _ [20, 21, 22, 23, 24, 25, 26, 27, 28, 29, 19, 30, 31, 32, 33] rfl (by decide +kernel)
set_option maxRecDepth 100000 in
theorem gJ0_indexOf_7cf53_J1_indexOf_4cfef : GoodIn wsJ0_indexOf_7cf53 (va_wsS RJ0 637 yJ1_indexOf_4cfef wsJ1_indexOf_4cfef) := goodIn_app (goodIn_of _ (by decide +kernel)) ggJ0_indexOf_7cf53_J1_indexOf_4cfef
set_option maxRecDepth 100000 in
theorem ggJ0_indexOf_7cf53_J2_indexOf_4cfef : GoodIn wsJ0_indexOf_7cf53 wsJ2_indexOf_4cfef := goodIn_r _ [37, 38, 22, 23, 24, 39, 26, 27, 40, 41, 42, 36, 43, 44, 45, 46, 47, 48, 49, 50, 51, 5, 52, 53, 54, 55, 56, 57, 58, 59, 60, 61, 62, 63, 64, 65, 66, 67, 68, 69, 70, 71, 72, 73, 74, 75, 76, 77, 78, 79, 80, 81] rfl (by decide +kernel)
set_option maxRecDepth 100000 in
theorem gJ0_indexOf_7cf53_J2_indexOf_4cfef : GoodIn wsJ0_indexOf_7cf53 (va_wsS RJ0 640 yJ2_indexOf_4cfef wsJ2_indexOf_4cfef) := goodIn_app (goodIn_of _ (by decide +kernel)) ggJ0_indexOf_7cf53_J2_indexOf_4cfef
theorem dJ0_indexOf_7cf53_0 : decode cJ0_indexOf_7cf53 0 = .ok (.aload_n 0, 1) := by decide +kernel
theorem dJ0_indexOf_7cf53_1 : decode cJ0_indexOf_7cf53 1 = .ok (.invokevirtual 492, 3) := by decide +kernel
theorem dJ0_indexOf_7cf53_4 : decode cJ0_indexOf_7cf53 4 = .ok (.ifCond .eq 19, 3) := by decide +kernel
theorem dJ0_indexOf_7cf53_7 : decode cJ0_indexOf_7cf53 7 = .ok (.aload_n 0, 1) := by decide +kernel
theorem dJ0_indexOf_7cf53_8 : decode cJ0_indexOf_7cf53 8 = .ok (.getfield 9, 3) := by decide +kernel
theorem dJ0_indexOf_7cf53_11 : decode cJ0_indexOf_7cf53 11 = .ok (.iload_n 1, 1) := by decide +kernel
theorem dJ0_indexOf_7cf53_12 : decode cJ0_indexOf_7cf53 12 = .ok (.iload_n 2, 1) := by decide +kernel
theorem dJ0_indexOf_7cf53_13 : decode cJ0_indexOf_7cf53 13 = .ok (.aload_n 0, 1) := by decide +kernel
theorem dJ0_indexOf_7cf53_14 : decode cJ0_indexOf_7cf53 14 = .ok (.invokevirtual 505, 3) := by decide +kernel
theorem dJ0_indexOf_7cf53_17 : decode cJ0_indexOf_7cf53 17 = .ok (.invokestatic 637, 3) := by decide +kernel
theorem dJ0_indexOf_7cf53_20 : decode cJ0_indexOf_7cf53 20 = .ok (.goto 16, 3) := by decide +kernel
theorem dJ0_indexOf_7cf53_23 : decode cJ0_indexOf_7cf53 23 = .ok (.aload_n 0, 1) := by decide +kernel
theorem dJ0_indexOf_7cf53_24 : decode cJ0_indexOf_7cf53 24 = .ok (.getfield 9, 3) := by decide +kernel
theorem dJ0_indexOf_7cf53_27 : decode cJ0_indexOf_7cf53 27 = .ok (.iload_n 1, 1) := by decide +kernel
theorem dJ0_indexOf_7cf53_28 : decode cJ0_indexOf_7cf53 28 = .ok (.iload_n 2, 1) := by decide +kernel
theorem dJ0_indexOf_7cf53_29 : decode cJ0_indexOf_7cf53 29 = .ok (.aload_n 0, 1) := by decide +kernel
theorem dJ0_indexOf_7cf53_30 : decode cJ0_indexOf_7cf53 30 = .ok (.invokevirtual 505, 3) := by decide +kernel
theorem dJ0_indexOf_7cf53_33 : decode cJ0_indexOf_7cf53 33 = .ok (.invokestatic 640, 3) := by decide +kernel
theorem dJ0_indexOf_7cf53_36 : decode cJ0_indexOf_7cf53 36 = .ok (.ireturn, 1) := by decide +kernel
theorem dJ0_coder_7d493_0 : decode cJ0_coder_7d493 0 = .ok (.getstatic 38, 3) := by decide +kernel
theorem dJ0_coder_7d493_3 : decode cJ0_coder_7d493 3 = .ok (.ifCond .eq 10, 3) := by decide +kernel
theorem dJ0_coder_7d493_6 : decode cJ0_coder_7d493 6 = .ok (.aload_n 0, 1) := by decide +kernel
theorem dJ0_coder_7d493_7 : decode cJ0_coder_7d493 7 = .ok (.getfield 15, 3) := by decide +kernel
theorem dJ0_coder_7d493_10 : decode cJ0_coder_7d493 10 = .ok (.goto 4, 3) := by decide +kernel
theorem dJ0_coder_7d493_13 : decode cJ0_coder_7d493 13 = .ok (.iconst 1, 1) := by decide +kernel
theorem dJ0_coder_7d493_14 : decode cJ0_coder_7d493 14 = .ok (.ireturn, 1) := by decide +kernel
theorem dJ0_isLatin1_aae02_0 : decode cJ0_isLatin1_aae02 0 = .ok (.getstatic 38, 3) := by decide +kernel
theorem dJ0_isLatin1_aae02_3 : decode cJ0_isLatin1_aae02 3 = .ok (.ifCond .eq 14, 3) := by decide +kernel
theorem dJ0_isLatin1_aae02_6 : decode cJ0_isLatin1_aae02 6 = .ok (.aload_n 0, 1) := by decide +kernel
theorem dJ0_isLatin1_aae02_7 : decode cJ0_isLatin1_aae02 7 = .ok (.getfield 15, 3) := by decide +kernel
theorem dJ0_isLatin1_aae02_10 : decode cJ0_isLatin1_aae02 10 = .ok (.ifCond .ne 7, 3) := by decide +kernel
theorem dJ0_isLatin1_aae02_13 : decode cJ0_isLatin1_aae02 13 = .ok (.iconst 1, 1) := by decide +kernel
theorem dJ0_isLatin1_aae02_14 : decode cJ0_isLatin1_aae02 14 = .ok (.goto 4, 3) := by decide +kernel
theorem dJ0_isLatin1_aae02_17 : decode cJ0_isLatin1_aae02 17 = .ok (.iconst 0, 1) := by decide +kernel
theorem dJ0_isLatin1_aae02_18 : decode cJ0_isLatin1_aae02 18 = .ok (.ireturn, 1) := by decide +kernel
set_option maxRecDepth 100000 in
theorem ggJ0_checkBoundsBeginEnd_23922_J3_checkFromToIndex_8c36e : GoodIn wsJ0_checkBoundsBeginEnd_23922 wsJ3_checkFromToIndex_8c36e := goodIn_r _ [5] rfl (by decide +kernel)
set_option maxRecDepth 100000 in
theorem gJ0_checkBoundsBeginEnd_23922_J3_checkFromToIndex_8c36e : GoodIn wsJ0_checkBoundsBeginEnd_23922 (va_wsS RJ0 1062 yJ3_checkFromToIndex_8c36e wsJ3_checkFromToIndex_8c36e) := goodIn_app (goodIn_of _ (by decide +kernel)) ggJ0_checkBoundsBeginEnd_23922_J3_checkFromToIndex_8c36e
theorem dJ0_checkBoundsBeginEnd_23922_0 : decode cJ0_checkBoundsBeginEnd_23922 0 = .ok (.iload_n 0, 1) := by decide +kernel
theorem dJ0_checkBoundsBeginEnd_23922_1 : decode cJ0_checkBoundsBeginEnd_23922 1 = .ok (.iload_n 1, 1) := by decide +kernel
theorem dJ0_checkBoundsBeginEnd_23922_2 : decode cJ0_checkBoundsBeginEnd_23922 2 = .ok (.iload_n 2, 1) := by decide +kernel
theorem dJ0_checkBoundsBeginEnd_23922_3 : decode cJ0_checkBoundsBeginEnd_23922 3 = .ok (.getstatic 1053, 3) := by decide +kernel
theorem dJ0_checkBoundsBeginEnd_23922_6 : decode cJ0_checkBoundsBeginEnd_23922 6 = .ok (.invokestatic 1062, 3) := by decide +kernel
theorem dJ0_checkBoundsBeginEnd_23922_9 : decode cJ0_checkBoundsBeginEnd_23922 9 = .ok (.pop, 1) := by decide +kernel
theorem dJ0_checkBoundsBeginEnd_23922_10 : decode cJ0_checkBoundsBeginEnd_23922 10 = .ok (.return_, 1) := by decide +kernel
theorem dJ1_canEncode_9a6ad_0 : decode cJ1_canEncode_9a6ad 0 = .ok (.iload_n 0, 1) := by decide +kernel
theorem dJ1_canEncode_9a6ad_1 : decode cJ1_canEncode_9a6ad 1 = .ok (.ifCond .lt 14, 3) := by decide +kernel
theorem dJ1_canEncode_9a6ad_4 : decode cJ1_canEncode_9a6ad 4 = .ok (.iload_n 0, 1) := by decide +kernel
theorem dJ1_canEncode_9a6ad_5 : decode cJ1_canEncode_9a6ad 5 = .ok (.sipush 255, 3) := by decide +kernel
theorem dJ1_canEncode_9a6ad_8 : decode cJ1_canEncode_9a6ad 8 = .ok (.if_icmp .gt 7, 3) := by decide +kernel
theorem dJ1_canEncode_9a6ad_11 : decode cJ1_canEncode_9a6ad 11 = .ok (.iconst 1, 1) := by decide +kernel
theorem dJ1_canEncode_9a6ad_12 : decode cJ1_canEncode_9a6ad 12 = .ok (.goto 4, 3) := by decide +kernel
theorem dJ1_canEncode_9a6ad_15 : decode cJ1_canEncode_9a6ad 15 = .ok (.iconst 0, 1) := by decide +kernel
theorem dJ1_canEncode_9a6ad_16 : decode cJ1_canEncode_9a6ad 16 = .ok (.ireturn, 1) := by decide +kernel
set_option maxRecDepth 100000 in
theorem ggJ1_indexOf_4cfef_J1_canEncode_9a6ad : GoodIn wsJ1_indexOf_4cfef wsJ1_canEncode_9a6ad := goodIn_r _ [11] rfl (by decide +kernel)
set_option maxRecDepth 100000 in
theorem gJ1_indexOf_4cfef_J1_canEncode_9a6ad : GoodIn wsJ1_indexOf_4cfef (va_wsS RJ1 88 yJ1_canEncode_9a6ad wsJ1_canEncode_9a6ad) := goodIn_app (goodIn_of _ (by decide +kernel)) ggJ1_indexOf_4cfef_J1_canEncode_9a6ad
set_option maxRecDepth 100000 in
theorem ggJ1_indexOf_4cfef_J1_indexOfChar_4cfef : GoodIn wsJ1_indexOf_4cfef wsJ1_indexOfChar_4cfef := goodIn_r _ [14] rfl (by decide +kernel)
set_option maxRecDepth 100000 in
theorem gJ1_indexOf_4cfef_J1_indexOfChar_4cfef : GoodIn wsJ1_indexOf_4cfef (va_wsS RJ1 95 yJ1_indexOfChar_4cfef wsJ1_indexOfChar_4cfef) := goodIn_app (goodIn_of _ (by decide +kernel)) ggJ1_indexOf_4cfef_J1_indexOfChar_4cfef
theorem dJ1_indexOf_4cfef_0 : decode cJ1_indexOf_4cfef 0 = .ok (.iload_n 1, 1) := by decide +kernel
theorem dJ1_indexOf_4cfef_1 : decode cJ1_indexOf_4cfef 1 = .ok (.invokestatic 88, 3) := by decide +kernel
theorem dJ1_indexOf_4cfef_4 : decode cJ1_indexOf_4cfef 4 = .ok (.ifCond .ne 5, 3) := by decide +kernel
theorem dJ1_indexOf_4cfef_7 : decode cJ1_indexOf_4cfef 7 = .ok (.iconst (-1), 1) := by decide +kernel
theorem dJ1_indexOf_4cfef_8 : decode cJ1_indexOf_4cfef 8 = .ok (.ireturn, 1) := by decide +kernel
theorem dJ1_indexOf_4cfef_9 : decode cJ1_indexOf_4cfef 9 = .ok (.iload_n 2, 1) := by decide +kernel
theorem dJ1_indexOf_4cfef_10 : decode cJ1_indexOf_4cfef 10 = .ok (.iconst 0, 1) := by decide +kernel
theorem dJ1_indexOf_4cfef_11 : decode cJ1_indexOf_4cfef 11 = .ok (.invokestatic 92, 3) := by decide +kernel
theorem dJ1_indexOf_4cfef_14 : decode cJ1_indexOf_4cfef 14 = .ok (.istore_n 2, 1) := by decide +kernel
theorem dJ1_indexOf_4cfef_15 : decode cJ1_indexOf_4cfef 15 = .ok (.iload_n 3, 1) := by decide +kernel
theorem dJ1_indexOf_4cfef_16 : decode cJ1_indexOf_4cfef 16 = .ok (.aload_n 0, 1) := by decide +kernel
theorem dJ1_indexOf_4cfef_17 : decode cJ1_indexOf_4cfef 17 = .ok (.arraylength, 1) := by decide +kernel
theorem dJ1_indexOf_4cfef_18 : decode cJ1_indexOf_4cfef 18 = .ok (.invokestatic 38, 3) := by decide +kernel
theorem dJ1_indexOf_4cfef_21 : decode cJ1_indexOf_4cfef 21 = .ok (.istore_n 3, 1) := by decide +kernel
theorem dJ1_indexOf_4cfef_22 : decode cJ1_indexOf_4cfef 22 = .ok (.iload_n 2, 1) := by decide +kernel
theorem dJ1_indexOf_4cfef_23 : decode cJ1_indexOf_4cfef 23 = .ok (.iload_n 3, 1) := by decide +kernel
theorem dJ1_indexOf_4cfef_24 : decode cJ1_indexOf_4cfef 24 = .ok (.if_icmp .lt 5, 3) := by decide +kernel
theorem dJ1_indexOf_4cfef_27 : decode cJ1_indexOf_4cfef 27 = .ok (.iconst (-1), 1) := by decide +kernel
theorem dJ1_indexOf_4cfef_28 : decode cJ1_indexOf_4cfef 28 = .ok (.ireturn, 1) := by decide +kernel
theorem dJ1_indexOf_4cfef_29 : decode cJ1_indexOf_4cfef 29 = .ok (.aload_n 0, 1) := by decide +kernel
theorem dJ1_indexOf_4cfef_30 : decode cJ1_indexOf_4cfef 30 = .ok (.iload_n 1, 1) := by decide +kernel
theorem dJ1_indexOf_4cfef_31 : decode cJ1_indexOf_4cfef 31 = .ok (.iload_n 2, 1) := by decide +kernel
theorem dJ1_indexOf_4cfef_32 : decode cJ1_indexOf_4cfef 32 = .ok (.iload_n 3, 1) := by decide +kernel
theorem dJ1_indexOf_4cfef_33 : decode cJ1_indexOf_4cfef 33 = .ok (.invokestatic 95, 3) := by decide +kernel
theorem dJ1_indexOf_4cfef_36 : decode cJ1_indexOf_4cfef 36 = .ok (.ireturn, 1) := by decide +kernel
theorem dJ1_indexOfChar_4cfef_0 : decode cJ1_indexOfChar_4cfef 0 = .ok (.iload_n 1, 1) := by decide +kernel
theorem dJ1_indexOfChar_4cfef_1 : decode cJ1_indexOfChar_4cfef 1 = .ok (.i2b, 1) := by decide +kernel
theorem dJ1_indexOfChar_4cfef_2 : decode cJ1_indexOfChar_4cfef 2 = .ok (.istore 4, 2) := by decide +kernel
theorem dJ1_indexOfChar_4cfef_4 : decode cJ1_indexOfChar_4cfef 4 = .ok (.iload_n 2, 1) := by decide +kernel
theorem dJ1_indexOfChar_4cfef_5 : decode cJ1_indexOfChar_4cfef 5 = .ok (.istore 5, 2) := by decide +kernel
theorem dJ1_indexOfChar_4cfef_7 : decode cJ1_indexOfChar_4cfef 7 = .ok (.iload 5, 2) := by decide +kernel
theorem dJ1_indexOfChar_4cfef_9 : decode cJ1_indexOfChar_4cfef 9 = .ok (.iload_n 3, 1) := by decide +kernel
theorem dJ1_indexOfChar_4cfef_10 : decode cJ1_indexOfChar_4cfef 10 = .ok (.if_icmp .ge 21, 3) := by decide +kernel
theorem dJ1_indexOfChar_4cfef_13 : decode cJ1_indexOfChar_4cfef 13 = .ok (.aload_n 0, 1) := by decide +kernel
theorem dJ1_indexOfChar_4cfef_14 : decode cJ1_indexOfChar_4cfef 14 = .ok (.iload 5, 2) := by decide +kernel
theorem dJ1_indexOfChar_4cfef_16 : decode cJ1_indexOfChar_4cfef 16 = .ok (.baload, 1) := by decide +kernel
