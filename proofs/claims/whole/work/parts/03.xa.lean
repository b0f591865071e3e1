set_option maxRecDepth 100000 in
theorem ggX9_init_X4_init : GoodIn wsX9_init wsX4_init := goodIn_r _ [46, 47, 2, 3, 48, 49, 101] rfl (by decide +kernel)
set_option maxRecDepth 100000 in
theorem gX9_init_X4_init_n9 : GoodIn wsX9_init (wsX4_init) := ggX9_init_X4_init
set_option maxRecDepth 100000 in
theorem ggX9_init_X5_init : GoodIn wsX9_init wsX5_init := goodIn_r _ [52, 53, 2, 3, 54, 55, 56, 57, 48, 58, 59, 60, 102, 103, 104, 105, 106, 107, 108] rfl (by decide +kernel)
set_option maxRecDepth 100000 in
theorem gX9_init_X5_init : GoodIn wsX9_init (wsX5_init) := ggX9_init_X5_init
set_option maxRecDepth 100000 in
theorem ggX9_init_X1_init : GoodIn wsX9_init wsX1_init := goodIn_r _ [63, 64, 2, 3, 65, 66, 67, 68, 109, 110, 111, 112, 113, 114] rfl (by decide +kernel)
set_option maxRecDepth 100000 in
theorem gX9_init_X1_init : GoodIn wsX9_init (wsX1_init) := ggX9_init_X1_init
set_option maxRecDepth 100000 in
theorem ggX9_init_X6_init : GoodIn wsX9_init wsX6_init := goodIn_r _ [71, 72, 2, 3, 48, 73, 74, 75, 76, 77, 78, 79, 128, 129, 130, 131, 132, 133, 134, 135, 136, 137] rfl (by decide +kernel)
set_option maxRecDepth 100000 in
theorem gX9_init_X6_init : GoodIn wsX9_init (wsX6_init) := ggX9_init_X6_init
set_option maxRecDepth 100000 in
theorem ggX9_init_X7_init : GoodIn wsX9_init wsX7_init := goodIn_r _ [81, 82, 2, 3, 83, 48, 84, 138, 139, 140, 141, 142, 143, 144] rfl (by decide +kernel)
set_option maxRecDepth 100000 in
theorem gX9_init_X7_init_n50 : GoodIn wsX9_init (wsX7_init) := ggX9_init_X7_init
set_option maxRecDepth 100000 in
theorem ggX9_init_X0_init : GoodIn wsX9_init wsX0_init := goodIn_r _ [86, 87, 2, 3] rfl (by decide +kernel)
set_option maxRecDepth 100000 in
theorem gX9_init_X0_init_n57 : GoodIn wsX9_init (wsX0_init) := ggX9_init_X0_init
set_option maxRecDepth 100000 in
theorem ggX9_init_X3_init : GoodIn wsX9_init wsX3_init := goodIn_r _ [89, 90, 2, 3, 48, 91, 92, 151, 152, 153, 154] rfl (by decide +kernel)
set_option maxRecDepth 100000 in
theorem gX9_init_X3_init_n64 : GoodIn wsX9_init (wsX3_init) := ggX9_init_X3_init
set_option maxRecDepth 100000 in
theorem ggX9_init_X2_init : GoodIn wsX9_init wsX2_init := goodIn_r _ [94, 95, 2, 3, 48, 96, 155, 156] rfl (by decide +kernel)
set_option maxRecDepth 100000 in
theorem gX9_init_X2_init_n71 : GoodIn wsX9_init (wsX2_init) := ggX9_init_X2_init
set_option maxRecDepth 100000 in
theorem ggX9_init_X8_init : GoodIn wsX9_init wsX8_init := goodIn_r _ [98, 99, 2, 3, 48, 100, 157, 158, 159] rfl (by decide +kernel)
set_option maxRecDepth 100000 in
theorem gX9_init_X8_init_n78 : GoodIn wsX9_init (wsX8_init) := ggX9_init_X8_init
theorem dX9_init_0 : decode cX9_init 0 = .ok (.aload_n 0, 1) := by decide +kernel
theorem dX9_init_1 : decode cX9_init 1 = .ok (.invokespecial 1, 3) := by decide +kernel
theorem dX9_init_4 : decode cX9_init 4 = .ok (.iload_n 1, 1) := by decide +kernel
theorem dX9_init_5 : decode cX9_init 5 = .ok (.iconst 1, 1) := by decide +kernel
theorem dX9_init_6 : decode cX9_init 6 = .ok (.if_icmp .lt 13, 3) := by decide +kernel
theorem dX9_init_9 : decode cX9_init 9 = .ok (.iload_n 1, 1) := by decide +kernel
theorem dX9_init_10 : decode cX9_init 10 = .ok (.bipush 8, 2) := by decide +kernel
theorem dX9_init_12 : decode cX9_init 12 = .ok (.if_icmp .gt 7, 3) := by decide +kernel
theorem dX9_init_15 : decode cX9_init 15 = .ok (.iload_n 1, 1) := by decide +kernel
theorem dX9_init_16 : decode cX9_init 16 = .ok (.goto 4, 3) := by decide +kernel
theorem dX9_init_19 : decode cX9_init 19 = .ok (.iconst 5, 1) := by decide +kernel
theorem dX9_init_20 : decode cX9_init 20 = .ok (.istore_n 2, 1) := by decide +kernel
theorem dX9_init_21 : decode cX9_init 21 = .ok (.new 7, 3) := by decide +kernel
theorem dX9_init_24 : decode cX9_init 24 = .ok (.dup, 1) := by decide +kernel
theorem dX9_init_25 : decode cX9_init 25 = .ok (.invokespecial 9, 3) := by decide +kernel
theorem dX9_init_28 : decode cX9_init 28 = .ok (.astore_n 3, 1) := by decide +kernel
theorem dX9_init_29 : decode cX9_init 29 = .ok (.new 10, 3) := by decide +kernel
theorem dX9_init_32 : decode cX9_init 32 = .ok (.dup, 1) := by decide +kernel
theorem dX9_init_33 : decode cX9_init 33 = .ok (.aload_n 3, 1) := by decide +kernel
theorem dX9_init_34 : decode cX9_init 34 = .ok (.iload_n 2, 1) := by decide +kernel
theorem dX9_init_35 : decode cX9_init 35 = .ok (.invokespecial 12, 3) := by decide +kernel
theorem dX9_init_38 : decode cX9_init 38 = .ok (.astore 4, 2) := by decide +kernel
theorem dX9_init_40 : decode cX9_init 40 = .ok (.new 15, 3) := by decide +kernel
theorem dX9_init_43 : decode cX9_init 43 = .ok (.dup, 1) := by decide +kernel
theorem dX9_init_44 : decode cX9_init 44 = .ok (.aload_n 3, 1) := by decide +kernel
theorem dX9_init_45 : decode cX9_init 45 = .ok (.aload 4, 2) := by decide +kernel
theorem dX9_init_47 : decode cX9_init 47 = .ok (.getfield 17, 3) := by decide +kernel
theorem dX9_init_50 : decode cX9_init 50 = .ok (.invokespecial 21, 3) := by decide +kernel
theorem dX9_init_53 : decode cX9_init 53 = .ok (.astore 5, 2) := by decide +kernel
theorem dX9_init_55 : decode cX9_init 55 = .ok (.aload_n 0, 1) := by decide +kernel
theorem dX9_init_56 : decode cX9_init 56 = .ok (.iload_n 2, 1) := by decide +kernel
theorem dX9_init_57 : decode cX9_init 57 = .ok (.putfield 22, 3) := by decide +kernel
theorem dX9_init_60 : decode cX9_init 60 = .ok (.aload_n 0, 1) := by decide +kernel
theorem dX9_init_61 : decode cX9_init 61 = .ok (.aload_n 3, 1) := by decide +kernel
theorem dX9_init_62 : decode cX9_init 62 = .ok (.putfield 27, 3) := by decide +kernel
theorem dX9_init_65 : decode cX9_init 65 = .ok (.aload_n 0, 1) := by decide +kernel
theorem dX9_init_66 : decode cX9_init 66 = .ok (.aload 4, 2) := by decide +kernel
theorem dX9_init_68 : decode cX9_init 68 = .ok (.putfield 31, 3) := by decide +kernel
theorem dX9_init_71 : decode cX9_init 71 = .ok (.aload_n 0, 1) := by decide +kernel
theorem dX9_init_72 : decode cX9_init 72 = .ok (.aload 5, 2) := by decide +kernel
theorem dX9_init_74 : decode cX9_init 74 = .ok (.putfield 35, 3) := by decide +kernel
theorem dX9_init_77 : decode cX9_init 77 = .ok (.aload_n 0, 1) := by decide +kernel
theorem dX9_init_78 : decode cX9_init 78 = .ok (.new 39, 3) := by decide +kernel
theorem dX9_init_81 : decode cX9_init 81 = .ok (.dup, 1) := by decide +kernel
theorem dX9_init_82 : decode cX9_init 82 = .ok (.aload_n 3, 1) := by decide +kernel
theorem dX9_init_83 : decode cX9_init 83 = .ok (.aload 4, 2) := by decide +kernel
theorem dX9_init_85 : decode cX9_init 85 = .ok (.aload 5, 2) := by decide +kernel
theorem dX9_init_87 : decode cX9_init 87 = .ok (.iload_n 2, 1) := by decide +kernel
theorem dX9_init_88 : decode cX9_init 88 = .ok (.iconst 5, 1) := by decide +kernel
theorem dX9_init_89 : decode cX9_init 89 = .ok (.if_icmp .lt 7, 3) := by decide +kernel
theorem dX9_init_92 : decode cX9_init 92 = .ok (.iconst 1, 1) := by decide +kernel
theorem dX9_init_93 : decode cX9_init 93 = .ok (.goto 4, 3) := by decide +kernel
theorem dX9_init_96 : decode cX9_init 96 = .ok (.iconst 0, 1) := by decide +kernel
theorem dX9_init_97 : decode cX9_init 97 = .ok (.invokespecial 41, 3) := by decide +kernel
theorem dX9_init_100 : decode cX9_init 100 = .ok (.putfield 44, 3) := by decide +kernel
theorem dX9_init_103 : decode cX9_init 103 = .ok (.aload_n 0, 1) := by decide +kernel
theorem dX9_init_104 : decode cX9_init 104 = .ok (.new 48, 3) := by decide +kernel
theorem dX9_init_107 : decode cX9_init 107 = .ok (.dup, 1) := by decide +kernel
theorem dX9_init_108 : decode cX9_init 108 = .ok (.invokespecial 50, 3) := by decide +kernel
theorem dX9_init_111 : decode cX9_init 111 = .ok (.putfield 51, 3) := by decide +kernel
theorem dX9_init_114 : decode cX9_init 114 = .ok (.aload_n 0, 1) := by decide +kernel
theorem dX9_init_115 : decode cX9_init 115 = .ok (.new 55, 3) := by decide +kernel
theorem dX9_init_118 : decode cX9_init 118 = .ok (.dup, 1) := by decide +kernel
theorem dX9_init_119 : decode cX9_init 119 = .ok (.invokespecial 57, 3) := by decide +kernel
theorem dX9_init_122 : decode cX9_init 122 = .ok (.putfield 58, 3) := by decide +kernel
theorem dX9_init_125 : decode cX9_init 125 = .ok (.aload_n 0, 1) := by decide +kernel
theorem dX9_init_126 : decode cX9_init 126 = .ok (.new 62, 3) := by decide +kernel
theorem dX9_init_129 : decode cX9_init 129 = .ok (.dup, 1) := by decide +kernel
theorem dX9_init_130 : decode cX9_init 130 = .ok (.invokespecial 64, 3) := by decide +kernel
theorem dX9_init_133 : decode cX9_init 133 = .ok (.putfield 65, 3) := by decide +kernel
theorem dX9_init_136 : decode cX9_init 136 = .ok (.aload_n 0, 1) := by decide +kernel
theorem dX9_init_137 : decode cX9_init 137 = .ok (.new 69, 3) := by decide +kernel
theorem dX9_init_140 : decode cX9_init 140 = .ok (.dup, 1) := by decide +kernel
theorem dX9_init_141 : decode cX9_init 141 = .ok (.invokespecial 71, 3) := by decide +kernel
theorem dX9_init_144 : decode cX9_init 144 = .ok (.putfield 72, 3) := by decide +kernel
theorem dX9_init_147 : decode cX9_init 147 = .ok (.aload_n 0, 1) := by decide +kernel
theorem dX9_init_148 : decode cX9_init 148 = .ok (.new 76, 3) := by decide +kernel
theorem dX9_init_151 : decode cX9_init 151 = .ok (.dup, 1) := by decide +kernel
theorem dX9_init_152 : decode cX9_init 152 = .ok (.invokespecial 78, 3) := by decide +kernel
theorem dX9_init_155 : decode cX9_init 155 = .ok (.putfield 79, 3) := by decide +kernel
theorem dX9_init_158 : decode cX9_init 158 = .ok (.aload_n 0, 1) := by decide +kernel
theorem dX9_init_159 : decode cX9_init 159 = .ok (.iconst 0, 1) := by decide +kernel
theorem dX9_init_160 : decode cX9_init 160 = .ok (.putfield 83, 3) := by decide +kernel
theorem dX9_init_163 : decode cX9_init 163 = .ok (.aload_n 0, 1) := by decide +kernel
theorem dX9_init_164 : decode cX9_init 164 = .ok (.iconst 0, 1) := by decide +kernel
theorem dX9_init_165 : decode cX9_init 165 = .ok (.putfield 86, 3) := by decide +kernel
theorem dX9_init_168 : decode cX9_init 168 = .ok (.aload_n 0, 1) := by decide +kernel
theorem dX9_init_169 : decode cX9_init 169 = .ok (.iconst (-1), 1) := by decide +kernel
theorem dX9_init_170 : decode cX9_init 170 = .ok (.putfield 89, 3) := by decide +kernel
theorem dX9_init_173 : decode cX9_init 173 = .ok (.return_, 1) := by decide +kernel
set_option maxRecDepth 100000 in
theorem ggX9_put_X4_holds : GoodIn wsX9_put wsX4_holds := goodIn_r _ [6] rfl (by decide +kernel)
set_option maxRecDepth 100000 in
theorem gX9_put_X4_holds : GoodIn wsX9_put (wsV RX9 92 RX4 yX4_holds wsX4_holds) := goodIn_app (goodIn_of _ (by decide +kernel)) ggX9_put_X4_holds
set_option maxRecDepth 100000 in
theorem ggX9_put_X4_store : GoodIn wsX9_put wsX4_store := goodIn_r _ [10, 11, 12, 13, 5, 14, 15, 29] rfl (by decide +kernel)
set_option maxRecDepth 100000 in
theorem gX9_put_X4_store : GoodIn wsX9_put (wsV RX9 96 RX4 yX4_store wsX4_store) := goodIn_app (goodIn_of _ (by decide +kernel)) ggX9_put_X4_store
theorem dX9_put_0 : decode cX9_put 0 = .ok (.iload_n 2, 1) := by decide +kernel
theorem dX9_put_1 : decode cX9_put 1 = .ok (.iconst 1, 1) := by decide +kernel
theorem dX9_put_2 : decode cX9_put 2 = .ok (.if_icmp .lt 9, 3) := by decide +kernel
theorem dX9_put_5 : decode cX9_put 5 = .ok (.iload_n 2, 1) := by decide +kernel
theorem dX9_put_6 : decode cX9_put 6 = .ok (.bipush 8, 2) := by decide +kernel
theorem dX9_put_8 : decode cX9_put 8 = .ok (.if_icmp .le 6, 3) := by decide +kernel
theorem dX9_put_11 : decode cX9_put 11 = .ok (.bipush (-2), 2) := by decide +kernel
theorem dX9_put_13 : decode cX9_put 13 = .ok (.ireturn, 1) := by decide +kernel
theorem dX9_put_14 : decode cX9_put 14 = .ok (.aload_n 0, 1) := by decide +kernel
theorem dX9_put_15 : decode cX9_put 15 = .ok (.getfield 27, 3) := by decide +kernel
theorem dX9_put_18 : decode cX9_put 18 = .ok (.iload_n 1, 1) := by decide +kernel
theorem dX9_put_19 : decode cX9_put 19 = .ok (.iload_n 2, 1) := by decide +kernel
theorem dX9_put_20 : decode cX9_put 20 = .ok (.invokevirtual 92, 3) := by decide +kernel
theorem dX9_put_23 : decode cX9_put 23 = .ok (.ifCond .ne 6, 3) := by decide +kernel
theorem dX9_put_26 : decode cX9_put 26 = .ok (.bipush (-3), 2) := by decide +kernel
theorem dX9_put_28 : decode cX9_put 28 = .ok (.ireturn, 1) := by decide +kernel
theorem dX9_put_29 : decode cX9_put 29 = .ok (.aload_n 0, 1) := by decide +kernel
theorem dX9_put_30 : decode cX9_put 30 = .ok (.getfield 27, 3) := by decide +kernel
theorem dX9_put_33 : decode cX9_put 33 = .ok (.iload_n 1, 1) := by decide +kernel
theorem dX9_put_34 : decode cX9_put 34 = .ok (.iload_n 2, 1) := by decide +kernel
theorem dX9_put_35 : decode cX9_put 35 = .ok (.lload_n 3, 1) := by decide +kernel
theorem dX9_put_36 : decode cX9_put 36 = .ok (.invokevirtual 96, 3) := by decide +kernel
theorem dX9_put_39 : decode cX9_put 39 = .ok (.iload_n 1, 1) := by decide +kernel
theorem dX9_put_40 : decode cX9_put 40 = .ok (.iload_n 2, 1) := by decide +kernel
theorem dX9_put_41 : decode cX9_put 41 = .ok (.iadd, 1) := by decide +kernel
theorem dX9_put_42 : decode cX9_put 42 = .ok (.ireturn, 1) := by decide +kernel
set_option maxRecDepth 100000 in
theorem ggX9_at_X4_holds : GoodIn wsX9_at wsX4_holds := goodIn_r _ [6] rfl (by decide +kernel)
set_option maxRecDepth 100000 in
theorem gX9_at_X4_holds : GoodIn wsX9_at (wsV RX9 92 RX4 yX4_holds wsX4_holds) := goodIn_app (goodIn_of _ (by decide +kernel)) ggX9_at_X4_holds
set_option maxRecDepth 100000 in
theorem ggX9_at_X4_octet : GoodIn wsX9_at wsX4_octet := goodIn_r _ [10, 11, 25] rfl (by decide +kernel)
set_option maxRecDepth 100000 in
theorem gX9_at_X4_octet : GoodIn wsX9_at (wsV RX9 100 RX4 yX4_octet wsX4_octet) := goodIn_app (goodIn_of _ (by decide +kernel)) ggX9_at_X4_octet
theorem dX9_at_0 : decode cX9_at 0 = .ok (.aload_n 0, 1) := by decide +kernel
theorem dX9_at_1 : decode cX9_at 1 = .ok (.getfield 27, 3) := by decide +kernel
theorem dX9_at_4 : decode cX9_at 4 = .ok (.iload_n 1, 1) := by decide +kernel
theorem dX9_at_5 : decode cX9_at 5 = .ok (.iconst 1, 1) := by decide +kernel
theorem dX9_at_6 : decode cX9_at 6 = .ok (.invokevirtual 92, 3) := by decide +kernel
theorem dX9_at_9 : decode cX9_at 9 = .ok (.ifCond .eq 14, 3) := by decide +kernel
theorem dX9_at_12 : decode cX9_at 12 = .ok (.aload_n 0, 1) := by decide +kernel
theorem dX9_at_13 : decode cX9_at 13 = .ok (.getfield 27, 3) := by decide +kernel
theorem dX9_at_16 : decode cX9_at 16 = .ok (.iload_n 1, 1) := by decide +kernel
theorem dX9_at_17 : decode cX9_at 17 = .ok (.invokevirtual 100, 3) := by decide +kernel
theorem dX9_at_20 : decode cX9_at 20 = .ok (.goto 5, 3) := by decide +kernel
theorem dX9_at_23 : decode cX9_at 23 = .ok (.bipush (-3), 2) := by decide +kernel
theorem dX9_at_25 : decode cX9_at 25 = .ok (.ireturn, 1) := by decide +kernel
set_option maxRecDepth 100000 in
theorem ggX9_pack_X4_holds : GoodIn wsX9_pack wsX4_holds := goodIn_r _ [8] rfl (by decide +kernel)
set_option maxRecDepth 100000 in
theorem gX9_pack_X4_holds : GoodIn wsX9_pack (wsV RX9 92 RX4 yX4_holds wsX4_holds) := goodIn_app (goodIn_of _ (by decide +kernel)) ggX9_pack_X4_holds
set_option maxRecDepth 100000 in
theorem ggX9_pack_X5_packed : GoodIn wsX9_pack wsX5_packed := goodIn_r _ [13, 14, 15, 16, 17, 18, 19, 20, 21, 7, 22, 23, 24, 25, 26, 12, 27, 28, 29, 30, 31, 32, 33, 34, 35, 36, 37, 38, 39, 40, 41, 42, 43, 44, 45, 46, 47, 48, 49, 50, 51, 52, 53, 54, 55, 56, 57, 58, 59, 60, 61, 62, 63, 64, 65, 66, 67, 68, 69, 70, 71, 72, 73, 74, 75, 76, 77, 78, 79, 80, 81, 82, 83, 84, 85, 86, 87, 88, 89, 90, 91, 92, 93, 94, 95, 96, 97, 98, 99, 100, 101, 102, 103, 104, 105, 106, 107, 108, 109, 110, 111, 112, 113, 114, 115, 116, 117, 118, 119, 120, 121, 122, 123, 145, 146, 147, 148, 149, 150, 151, 152] rfl (by decide +kernel)
set_option maxRecDepth 100000 in
theorem gX9_pack_X5_packed : GoodIn wsX9_pack (wsV RX9 104 RX5 yX5_packed wsX5_packed) := goodIn_app (goodIn_of _ (by decide +kernel)) ggX9_pack_X5_packed
set_option maxRecDepth 100000 in
theorem ggX9_pack_X4_store : GoodIn wsX9_pack wsX4_store := goodIn_r _ [127, 128, 129, 130, 7, 131, 23, 152] rfl (by decide +kernel)
set_option maxRecDepth 100000 in
theorem gX9_pack_X4_store : GoodIn wsX9_pack (wsV RX9 96 RX4 yX4_store wsX4_store) := goodIn_app (goodIn_of _ (by decide +kernel)) ggX9_pack_X4_store
theorem dX9_pack_0 : decode cX9_pack 0 = .ok (.iload_n 2, 1) := by decide +kernel
theorem dX9_pack_1 : decode cX9_pack 1 = .ok (.ifCond .lt 10, 3) := by decide +kernel
theorem dX9_pack_4 : decode cX9_pack 4 = .ok (.iload_n 2, 1) := by decide +kernel
theorem dX9_pack_5 : decode cX9_pack 5 = .ok (.sipush 255, 3) := by decide +kernel
theorem dX9_pack_8 : decode cX9_pack 8 = .ok (.if_icmp .le 6, 3) := by decide +kernel
theorem dX9_pack_11 : decode cX9_pack 11 = .ok (.bipush (-2), 2) := by decide +kernel
theorem dX9_pack_13 : decode cX9_pack 13 = .ok (.ireturn, 1) := by decide +kernel
theorem dX9_pack_14 : decode cX9_pack 14 = .ok (.aload_n 0, 1) := by decide +kernel
theorem dX9_pack_15 : decode cX9_pack 15 = .ok (.getfield 27, 3) := by decide +kernel
theorem dX9_pack_18 : decode cX9_pack 18 = .ok (.iload_n 1, 1) := by decide +kernel
theorem dX9_pack_19 : decode cX9_pack 19 = .ok (.iload_n 2, 1) := by decide +kernel
theorem dX9_pack_20 : decode cX9_pack 20 = .ok (.invokevirtual 92, 3) := by decide +kernel
theorem dX9_pack_23 : decode cX9_pack 23 = .ok (.ifCond .eq 21, 3) := by decide +kernel
theorem dX9_pack_26 : decode cX9_pack 26 = .ok (.aload_n 0, 1) := by decide +kernel
theorem dX9_pack_27 : decode cX9_pack 27 = .ok (.getfield 27, 3) := by decide +kernel
theorem dX9_pack_30 : decode cX9_pack 30 = .ok (.iload_n 3, 1) := by decide +kernel
theorem dX9_pack_31 : decode cX9_pack 31 = .ok (.aload_n 0, 1) := by decide +kernel
theorem dX9_pack_32 : decode cX9_pack 32 = .ok (.getfield 31, 3) := by decide +kernel
theorem dX9_pack_35 : decode cX9_pack 35 = .ok (.getfield 17, 3) := by decide +kernel
theorem dX9_pack_38 : decode cX9_pack 38 = .ok (.invokevirtual 92, 3) := by decide +kernel
theorem dX9_pack_41 : decode cX9_pack 41 = .ok (.ifCond .ne 6, 3) := by decide +kernel
theorem dX9_pack_44 : decode cX9_pack 44 = .ok (.bipush (-3), 2) := by decide +kernel
theorem dX9_pack_46 : decode cX9_pack 46 = .ok (.ireturn, 1) := by decide +kernel
theorem dX9_pack_47 : decode cX9_pack 47 = .ok (.aload_n 0, 1) := by decide +kernel
theorem dX9_pack_48 : decode cX9_pack 48 = .ok (.getfield 27, 3) := by decide +kernel
theorem dX9_pack_51 : decode cX9_pack 51 = .ok (.iload_n 3, 1) := by decide +kernel
theorem dX9_pack_52 : decode cX9_pack 52 = .ok (.aload_n 0, 1) := by decide +kernel
theorem dX9_pack_53 : decode cX9_pack 53 = .ok (.getfield 31, 3) := by decide +kernel
theorem dX9_pack_56 : decode cX9_pack 56 = .ok (.getfield 17, 3) := by decide +kernel
theorem dX9_pack_59 : decode cX9_pack 59 = .ok (.aload_n 0, 1) := by decide +kernel
theorem dX9_pack_60 : decode cX9_pack 60 = .ok (.getfield 31, 3) := by decide +kernel
theorem dX9_pack_63 : decode cX9_pack 63 = .ok (.iload_n 1, 1) := by decide +kernel
theorem dX9_pack_64 : decode cX9_pack 64 = .ok (.iload_n 2, 1) := by decide +kernel
theorem dX9_pack_65 : decode cX9_pack 65 = .ok (.invokevirtual 104, 3) := by decide +kernel
theorem dX9_pack_68 : decode cX9_pack 68 = .ok (.invokevirtual 96, 3) := by decide +kernel
theorem dX9_pack_71 : decode cX9_pack 71 = .ok (.aload_n 0, 1) := by decide +kernel
theorem dX9_pack_72 : decode cX9_pack 72 = .ok (.getfield 31, 3) := by decide +kernel
theorem dX9_pack_75 : decode cX9_pack 75 = .ok (.getfield 17, 3) := by decide +kernel
theorem dX9_pack_78 : decode cX9_pack 78 = .ok (.ireturn, 1) := by decide +kernel
set_option maxRecDepth 100000 in
theorem ggX9_tables_X9_isStart : GoodIn wsX9_tables wsX9_isStart := goodIn_r _ [6] rfl (by decide +kernel)
set_option maxRecDepth 100000 in
theorem gX9_tables_X9_isStart : GoodIn wsX9_tables (va_wsS RX9 108 yX9_isStart wsX9_isStart) := goodIn_app (goodIn_of _ (by decide +kernel)) ggX9_tables_X9_isStart
theorem dX9_tables_0 : decode cX9_tables 0 = .ok (.iload_n 1, 1) := by decide +kernel
theorem dX9_tables_1 : decode cX9_tables 1 = .ok (.invokestatic 108, 3) := by decide +kernel
theorem dX9_tables_4 : decode cX9_tables 4 = .ok (.ifCond .eq 10, 3) := by decide +kernel
theorem dX9_tables_7 : decode cX9_tables 7 = .ok (.iload_n 2, 1) := by decide +kernel
theorem dX9_tables_8 : decode cX9_tables 8 = .ok (.invokestatic 108, 3) := by decide +kernel
theorem dX9_tables_11 : decode cX9_tables 11 = .ok (.ifCond .ne 6, 3) := by decide +kernel
theorem dX9_tables_14 : decode cX9_tables 14 = .ok (.bipush (-2), 2) := by decide +kernel
theorem dX9_tables_16 : decode cX9_tables 16 = .ok (.ireturn, 1) := by decide +kernel
theorem dX9_tables_17 : decode cX9_tables 17 = .ok (.aload_n 0, 1) := by decide +kernel
theorem dX9_tables_18 : decode cX9_tables 18 = .ok (.iload_n 1, 1) := by decide +kernel
theorem dX9_tables_19 : decode cX9_tables 19 = .ok (.putfield 83, 3) := by decide +kernel
theorem dX9_tables_22 : decode cX9_tables 22 = .ok (.aload_n 0, 1) := by decide +kernel
theorem dX9_tables_23 : decode cX9_tables 23 = .ok (.iload_n 2, 1) := by decide +kernel
theorem dX9_tables_24 : decode cX9_tables 24 = .ok (.putfield 86, 3) := by decide +kernel
theorem dX9_tables_27 : decode cX9_tables 27 = .ok (.iconst 1, 1) := by decide +kernel
theorem dX9_tables_28 : decode cX9_tables 28 = .ok (.ireturn, 1) := by decide +kernel
set_option maxRecDepth 100000 in
theorem ggX9_look_X9_isStart : GoodIn wsX9_look wsX9_isStart := goodIn_r _ [7] rfl (by decide +kernel)
set_option maxRecDepth 100000 in
theorem gX9_look_X9_isStart : GoodIn wsX9_look (va_wsS RX9 108 yX9_isStart wsX9_isStart) := goodIn_app (goodIn_of _ (by decide +kernel)) ggX9_look_X9_isStart
set_option maxRecDepth 100000 in
theorem ggX9_look_X4_holds : GoodIn wsX9_look wsX4_holds := goodIn_r _ [12] rfl (by decide +kernel)
set_option maxRecDepth 100000 in
theorem gX9_look_X4_holds : GoodIn wsX9_look (wsV RX9 92 RX4 yX4_holds wsX4_holds) := goodIn_app (goodIn_of _ (by decide +kernel)) ggX9_look_X4_holds
set_option maxRecDepth 100000 in
theorem ggX9_look_X1_open : GoodIn wsX9_look wsX1_open := goodIn_r _ [17, 18, 19, 20, 21, 22, 23, 24, 25, 26, 27, 28, 29, 30, 31, 11, 32, 33, 34, 9, 10, 12, 35, 36, 37, 38, 39, 40, 41, 42, 16, 43, 44, 175, 176, 177, 178, 179, 180, 181] rfl (by decide +kernel)
set_option maxRecDepth 100000 in
theorem gX9_look_X1_open : GoodIn wsX9_look (wsV RX9 112 RX1 yX1_open wsX1_open) := goodIn_app (goodIn_of _ (by decide +kernel)) ggX9_look_X1_open
set_option maxRecDepth 100000 in
theorem ggX9_look_X5_packed : GoodIn wsX9_look wsX5_packed := goodIn_r _ [49, 50, 51, 52, 53, 54, 55, 30, 31, 11, 32, 33, 56, 57, 58, 48, 59, 60, 61, 62, 63, 64, 65, 66, 67, 68, 69, 70, 71, 72, 73, 74, 75, 76, 77, 78, 79, 80, 81, 82, 83, 84, 85, 86, 87, 88, 89, 90, 91, 92, 93, 94, 95, 26, 27, 28, 96, 97, 98, 99, 100, 101, 102, 103, 104, 105, 106, 107, 108, 109, 110, 111, 112, 113, 114, 115, 116, 117, 118, 119, 120, 121, 122, 123, 124, 125, 126, 127, 128, 129, 130, 131, 132, 133, 134, 135, 136, 137, 138, 139, 140, 141, 142, 143, 144, 145, 146, 147, 148, 149, 150, 151, 152, 182, 183, 184, 185, 186, 187, 188, 181] rfl (by decide +kernel)
set_option maxRecDepth 100000 in
theorem gX9_look_X5_packed : GoodIn wsX9_look (wsV RX9 104 RX5 yX5_packed wsX5_packed) := goodIn_app (goodIn_of _ (by decide +kernel)) ggX9_look_X5_packed
set_option maxRecDepth 100000 in
theorem ggX9_look_X1_entryOf : GoodIn wsX9_look wsX1_entryOf := goodIn_r _ [156, 19, 22, 157, 97, 27, 98, 23, 18, 24, 158, 159, 160, 11, 161, 39, 30, 31, 32, 33, 175, 176, 177, 178, 179, 180, 181] rfl (by decide +kernel)
set_option maxRecDepth 100000 in
theorem gX9_look_X1_entryOf : GoodIn wsX9_look (wsV RX9 115 RX1 yX1_entryOf wsX1_entryOf) := goodIn_app (goodIn_of _ (by decide +kernel)) ggX9_look_X1_entryOf
theorem dX9_look_0 : decode cX9_look 0 = .ok (.iload_n 2, 1) := by decide +kernel
theorem dX9_look_1 : decode cX9_look 1 = .ok (.ifCond .lt 17, 3) := by decide +kernel
theorem dX9_look_4 : decode cX9_look 4 = .ok (.iload_n 2, 1) := by decide +kernel
theorem dX9_look_5 : decode cX9_look 5 = .ok (.sipush 255, 3) := by decide +kernel
theorem dX9_look_8 : decode cX9_look 8 = .ok (.if_icmp .gt 10, 3) := by decide +kernel
theorem dX9_look_11 : decode cX9_look 11 = .ok (.iload_n 3, 1) := by decide +kernel
theorem dX9_look_12 : decode cX9_look 12 = .ok (.invokestatic 108, 3) := by decide +kernel
theorem dX9_look_15 : decode cX9_look 15 = .ok (.ifCond .ne 6, 3) := by decide +kernel
theorem dX9_look_18 : decode cX9_look 18 = .ok (.bipush (-2), 2) := by decide +kernel
theorem dX9_look_20 : decode cX9_look 20 = .ok (.ireturn, 1) := by decide +kernel
theorem dX9_look_21 : decode cX9_look 21 = .ok (.aload_n 0, 1) := by decide +kernel
theorem dX9_look_22 : decode cX9_look 22 = .ok (.getfield 27, 3) := by decide +kernel
theorem dX9_look_25 : decode cX9_look 25 = .ok (.iload_n 1, 1) := by decide +kernel
theorem dX9_look_26 : decode cX9_look 26 = .ok (.iload_n 2, 1) := by decide +kernel
theorem dX9_look_27 : decode cX9_look 27 = .ok (.invokevirtual 92, 3) := by decide +kernel
theorem dX9_look_30 : decode cX9_look 30 = .ok (.ifCond .eq 14, 3) := by decide +kernel
theorem dX9_look_33 : decode cX9_look 33 = .ok (.aload_n 0, 1) := by decide +kernel
theorem dX9_look_34 : decode cX9_look 34 = .ok (.getfield 35, 3) := by decide +kernel
theorem dX9_look_37 : decode cX9_look 37 = .ok (.iload_n 3, 1) := by decide +kernel
theorem dX9_look_38 : decode cX9_look 38 = .ok (.invokevirtual 112, 3) := by decide +kernel
theorem dX9_look_41 : decode cX9_look 41 = .ok (.ifCond .ne 6, 3) := by decide +kernel
theorem dX9_look_44 : decode cX9_look 44 = .ok (.bipush (-3), 2) := by decide +kernel
theorem dX9_look_46 : decode cX9_look 46 = .ok (.ireturn, 1) := by decide +kernel
theorem dX9_look_47 : decode cX9_look 47 = .ok (.aload_n 0, 1) := by decide +kernel
theorem dX9_look_48 : decode cX9_look 48 = .ok (.getfield 35, 3) := by decide +kernel
theorem dX9_look_51 : decode cX9_look 51 = .ok (.aload_n 0, 1) := by decide +kernel
theorem dX9_look_52 : decode cX9_look 52 = .ok (.getfield 31, 3) := by decide +kernel
theorem dX9_look_55 : decode cX9_look 55 = .ok (.iload_n 1, 1) := by decide +kernel
theorem dX9_look_56 : decode cX9_look 56 = .ok (.iload_n 2, 1) := by decide +kernel
theorem dX9_look_57 : decode cX9_look 57 = .ok (.invokevirtual 104, 3) := by decide +kernel
theorem dX9_look_60 : decode cX9_look 60 = .ok (.invokevirtual 115, 3) := by decide +kernel
theorem dX9_look_63 : decode cX9_look 63 = .ok (.ireturn, 1) := by decide +kernel
set_option maxRecDepth 100000 in
theorem ggX9_parse_X9_isStart : GoodIn wsX9_parse wsX9_isStart := goodIn_r _ [5] rfl (by decide +kernel)
set_option maxRecDepth 100000 in
theorem gX9_parse_X9_isStart : GoodIn wsX9_parse (va_wsS RX9 108 yX9_isStart wsX9_isStart) := goodIn_app (goodIn_of _ (by decide +kernel)) ggX9_parse_X9_isStart
set_option maxRecDepth 100000 in
theorem ggX9_parse_X6_run : GoodIn wsX9_parse wsX6_run := goodIn_r _ [10, 11, 12, 13, 14, 15, 16, 17, 18, 19, 20, 21, 22, 23, 24, 9, 25, 26, 27, 28, 29, 30, 31, 32, 33, 34, 35, 36, 37, 38, 39, 40, 41, 42, 43, 44, 45, 46, 47, 48, 49, 50, 51, 52, 53, 54, 55, 56, 57, 58, 59, 60, 61, 62, 63, 64, 65, 66, 67, 68, 69, 70, 71, 72, 73, 74, 75, 76, 77, 78, 79, 80, 81, 82, 83, 84, 85, 86, 87, 88, 89, 90, 91, 92, 93, 94, 95, 96, 97, 98, 99, 100, 101, 102, 103, 104, 105, 106, 107, 108, 109, 110, 111, 112, 113, 114, 115, 116, 117, 118, 119, 120, 121, 122, 123, 124, 125, 126, 127, 128, 129, 130, 131, 132, 133, 134, 135, 136, 137, 138, 139, 140, 141, 142, 143, 144, 145, 146, 147, 148, 149, 150, 151, 152, 153, 154, 155, 156, 157, 158, 159, 160, 161, 162, 163, 164, 165, 166, 167, 168, 169, 170, 171, 172, 173, 174, 175, 176, 177, 178, 179, 180, 181, 182, 183, 184, 185, 186, 187, 188, 189, 190, 191, 192, 193, 194, 195, 196, 197, 198, 199, 200, 201, 202, 203, 204, 205, 219, 220, 221, 222, 223, 224, 225, 226, 227, 228, 229, 230, 231, 232, 233, 234, 235, 236, 237, 238, 239, 240, 241, 242] rfl (by decide +kernel)
set_option maxRecDepth 100000 in
theorem gX9_parse_X6_run : GoodIn wsX9_parse (wsV RX9 119 RX6 yX6_run wsX6_run) := goodIn_app (goodIn_of _ (by decide +kernel)) ggX9_parse_X6_run
theorem dX9_parse_0 : decode cX9_parse 0 = .ok (.iload_n 1, 1) := by decide +kernel
theorem dX9_parse_1 : decode cX9_parse 1 = .ok (.invokestatic 108, 3) := by decide +kernel
theorem dX9_parse_4 : decode cX9_parse 4 = .ok (.ifCond .eq 17, 3) := by decide +kernel
theorem dX9_parse_7 : decode cX9_parse 7 = .ok (.iload_n 2, 1) := by decide +kernel
theorem dX9_parse_8 : decode cX9_parse 8 = .ok (.invokestatic 108, 3) := by decide +kernel
theorem dX9_parse_11 : decode cX9_parse 11 = .ok (.ifCond .eq 10, 3) := by decide +kernel
theorem dX9_parse_14 : decode cX9_parse 14 = .ok (.iload_n 3, 1) := by decide +kernel
theorem dX9_parse_15 : decode cX9_parse 15 = .ok (.invokestatic 108, 3) := by decide +kernel
theorem dX9_parse_18 : decode cX9_parse 18 = .ok (.ifCond .ne 6, 3) := by decide +kernel
theorem dX9_parse_21 : decode cX9_parse 21 = .ok (.bipush (-2), 2) := by decide +kernel
theorem dX9_parse_23 : decode cX9_parse 23 = .ok (.ireturn, 1) := by decide +kernel
theorem dX9_parse_24 : decode cX9_parse 24 = .ok (.aload_n 0, 1) := by decide +kernel
theorem dX9_parse_25 : decode cX9_parse 25 = .ok (.getfield 44, 3) := by decide +kernel
theorem dX9_parse_28 : decode cX9_parse 28 = .ok (.iload_n 1, 1) := by decide +kernel
theorem dX9_parse_29 : decode cX9_parse 29 = .ok (.iload_n 2, 1) := by decide +kernel
theorem dX9_parse_30 : decode cX9_parse 30 = .ok (.iload_n 3, 1) := by decide +kernel
theorem dX9_parse_31 : decode cX9_parse 31 = .ok (.iload 4, 2) := by decide +kernel
theorem dX9_parse_33 : decode cX9_parse 33 = .ok (.invokevirtual 119, 3) := by decide +kernel
theorem dX9_parse_36 : decode cX9_parse 36 = .ok (.ireturn, 1) := by decide +kernel
set_option maxRecDepth 100000 in
theorem ggX9_begin_X9_isStart : GoodIn wsX9_begin wsX9_isStart := goodIn_r _ [12] rfl (by decide +kernel)
set_option maxRecDepth 100000 in
theorem gX9_begin_X9_isStart : GoodIn wsX9_begin (va_wsS RX9 108 yX9_isStart wsX9_isStart) := goodIn_app (goodIn_of _ (by decide +kernel)) ggX9_begin_X9_isStart
set_option maxRecDepth 100000 in
theorem ggX9_begin_X4_octet : GoodIn wsX9_begin wsX4_octet := goodIn_r _ [17, 18, 79] rfl (by decide +kernel)
set_option maxRecDepth 100000 in
theorem gX9_begin_X4_octet : GoodIn wsX9_begin (wsV RX9 100 RX4 yX4_octet wsX4_octet) := goodIn_app (goodIn_of _ (by decide +kernel)) ggX9_begin_X4_octet
set_option maxRecDepth 100000 in
theorem ggX9_begin_X9_countsCodes : GoodIn wsX9_begin wsX9_countsCodes := goodIn_r _ [22, 23, 59, 60, 61, 62, 63, 64, 65, 66, 67, 68, 69, 70, 71] rfl (by decide +kernel)
set_option maxRecDepth 100000 in
theorem gX9_begin_X9_countsCodes : GoodIn wsX9_begin (wsV RX9 126 RX9 yX9_countsCodes wsX9_countsCodes) := goodIn_app (goodIn_of _ (by decide +kernel)) ggX9_begin_X9_countsCodes
set_option maxRecDepth 100000 in
theorem ggX9_begin_X4_holds : GoodIn wsX9_begin wsX4_holds := goodIn_r _ [27] rfl (by decide +kernel)
set_option maxRecDepth 100000 in
theorem gX9_begin_X4_holds : GoodIn wsX9_begin (wsV RX9 92 RX4 yX4_holds wsX4_holds) := goodIn_app (goodIn_of _ (by decide +kernel)) ggX9_begin_X4_holds
set_option maxRecDepth 100000 in
theorem ggX9_begin_X7_start : GoodIn wsX9_begin wsX7_start := goodIn_r _ [32, 33, 34, 35, 36, 37, 38, 72, 73, 74, 75, 76, 77, 78] rfl (by decide +kernel)
set_option maxRecDepth 100000 in
theorem gX9_begin_X7_start : GoodIn wsX9_begin (wsV RX9 136 RX7 yX7_start wsX7_start) := goodIn_app (goodIn_of _ (by decide +kernel)) ggX9_begin_X7_start
set_option maxRecDepth 100000 in
theorem ggX9_begin_X7_add : GoodIn wsX9_begin wsX7_add := goodIn_r _ [42, 37, 36, 43, 72, 73, 74, 75, 76, 77, 78] rfl (by decide +kernel)
set_option maxRecDepth 100000 in
theorem gX9_begin_X7_add : GoodIn wsX9_begin (wsV RX9 140 RX7 yX7_add wsX7_add) := goodIn_app (goodIn_of _ (by decide +kernel)) ggX9_begin_X7_add
set_option maxRecDepth 100000 in
theorem ggX9_begin_X0_restart : GoodIn wsX9_begin wsX0_restart := goodIn_r _ [48, 49, 50, 51, 52, 53, 47, 54, 55, 56, 57, 58, 80, 81, 82, 83, 84, 85] rfl (by decide +kernel)
set_option maxRecDepth 100000 in
theorem gX9_begin_X0_restart : GoodIn wsX9_begin (wsV RX9 144 RX0 yX0_restart wsX0_restart) := goodIn_app (goodIn_of _ (by decide +kernel)) ggX9_begin_X0_restart
theorem dX9_begin_0 : decode cX9_begin 0 = .ok (.aload_n 0, 1) := by decide +kernel
theorem dX9_begin_1 : decode cX9_begin 1 = .ok (.getfield 51, 3) := by decide +kernel
theorem dX9_begin_4 : decode cX9_begin 4 = .ok (.getfield 123, 3) := by decide +kernel
theorem dX9_begin_7 : decode cX9_begin 7 = .ok (.ifCond .eq 5, 3) := by decide +kernel
theorem dX9_begin_10 : decode cX9_begin 10 = .ok (.iconst (-1), 1) := by decide +kernel
theorem dX9_begin_11 : decode cX9_begin 11 = .ok (.ireturn, 1) := by decide +kernel
theorem dX9_begin_12 : decode cX9_begin 12 = .ok (.iload_n 1, 1) := by decide +kernel
theorem dX9_begin_13 : decode cX9_begin 13 = .ok (.iconst 1, 1) := by decide +kernel
theorem dX9_begin_14 : decode cX9_begin 14 = .ok (.if_icmp .lt 17, 3) := by decide +kernel
theorem dX9_begin_17 : decode cX9_begin 17 = .ok (.iload_n 1, 1) := by decide +kernel
theorem dX9_begin_18 : decode cX9_begin 18 = .ok (.invokestatic 108, 3) := by decide +kernel
theorem dX9_begin_21 : decode cX9_begin 21 = .ok (.ifCond .eq 10, 3) := by decide +kernel
theorem dX9_begin_24 : decode cX9_begin 24 = .ok (.iload_n 2, 1) := by decide +kernel
theorem dX9_begin_25 : decode cX9_begin 25 = .ok (.invokestatic 108, 3) := by decide +kernel
theorem dX9_begin_28 : decode cX9_begin 28 = .ok (.ifCond .ne 6, 3) := by decide +kernel
theorem dX9_begin_31 : decode cX9_begin 31 = .ok (.bipush (-2), 2) := by decide +kernel
theorem dX9_begin_33 : decode cX9_begin 33 = .ok (.ireturn, 1) := by decide +kernel
theorem dX9_begin_34 : decode cX9_begin 34 = .ok (.aload_n 0, 1) := by decide +kernel
theorem dX9_begin_35 : decode cX9_begin 35 = .ok (.getfield 27, 3) := by decide +kernel
theorem dX9_begin_38 : decode cX9_begin 38 = .ok (.iload_n 1, 1) := by decide +kernel
theorem dX9_begin_39 : decode cX9_begin 39 = .ok (.invokevirtual 100, 3) := by decide +kernel
theorem dX9_begin_42 : decode cX9_begin 42 = .ok (.istore_n 3, 1) := by decide +kernel
theorem dX9_begin_43 : decode cX9_begin 43 = .ok (.aload_n 0, 1) := by decide +kernel
theorem dX9_begin_44 : decode cX9_begin 44 = .ok (.invokevirtual 126, 3) := by decide +kernel
theorem dX9_begin_47 : decode cX9_begin 47 = .ok (.ifCond .eq 7, 3) := by decide +kernel
theorem dX9_begin_50 : decode cX9_begin 50 = .ok (.iload_n 3, 1) := by decide +kernel
theorem dX9_begin_51 : decode cX9_begin 51 = .ok (.goto 10, 3) := by decide +kernel
theorem dX9_begin_54 : decode cX9_begin 54 = .ok (.iload_n 3, 1) := by decide +kernel
theorem dX9_begin_55 : decode cX9_begin 55 = .ok (.iconst 1, 1) := by decide +kernel
theorem dX9_begin_56 : decode cX9_begin 56 = .ok (.isub, 1) := by decide +kernel
theorem dX9_begin_57 : decode cX9_begin 57 = .ok (.iconst 0, 1) := by decide +kernel
theorem dX9_begin_58 : decode cX9_begin 58 = .ok (.invokestatic 130, 3) := by decide +kernel
theorem dX9_begin_61 : decode cX9_begin 61 = .ok (.istore 4, 2) := by decide +kernel
theorem dX9_begin_63 : decode cX9_begin 63 = .ok (.aload_n 0, 1) := by decide +kernel
theorem dX9_begin_64 : decode cX9_begin 64 = .ok (.invokevirtual 126, 3) := by decide +kernel
theorem dX9_begin_67 : decode cX9_begin 67 = .ok (.ifCond .eq 16, 3) := by decide +kernel
theorem dX9_begin_70 : decode cX9_begin 70 = .ok (.aload_n 0, 1) := by decide +kernel
theorem dX9_begin_71 : decode cX9_begin 71 = .ok (.getfield 27, 3) := by decide +kernel
theorem dX9_begin_74 : decode cX9_begin 74 = .ok (.iload_n 1, 1) := by decide +kernel
theorem dX9_begin_75 : decode cX9_begin 75 = .ok (.iconst 1, 1) := by decide +kernel
theorem dX9_begin_76 : decode cX9_begin 76 = .ok (.iadd, 1) := by decide +kernel
theorem dX9_begin_77 : decode cX9_begin 77 = .ok (.invokevirtual 100, 3) := by decide +kernel
theorem dX9_begin_80 : decode cX9_begin 80 = .ok (.goto 4, 3) := by decide +kernel
theorem dX9_begin_83 : decode cX9_begin 83 = .ok (.iconst 0, 1) := by decide +kernel
theorem dX9_begin_84 : decode cX9_begin 84 = .ok (.istore 5, 2) := by decide +kernel
theorem dX9_begin_86 : decode cX9_begin 86 = .ok (.iload 5, 2) := by decide +kernel
theorem dX9_begin_88 : decode cX9_begin 88 = .ok (.iload 4, 2) := by decide +kernel
theorem dX9_begin_90 : decode cX9_begin 90 = .ok (.if_icmp .le 6, 3) := by decide +kernel
theorem dX9_begin_93 : decode cX9_begin 93 = .ok (.bipush (-2), 2) := by decide +kernel
theorem dX9_begin_95 : decode cX9_begin 95 = .ok (.ireturn, 1) := by decide +kernel
theorem dX9_begin_96 : decode cX9_begin 96 = .ok (.aload_n 0, 1) := by decide +kernel
theorem dX9_begin_97 : decode cX9_begin 97 = .ok (.getfield 27, 3) := by decide +kernel
theorem dX9_begin_100 : decode cX9_begin 100 = .ok (.iload_n 1, 1) := by decide +kernel
theorem dX9_begin_101 : decode cX9_begin 101 = .ok (.iconst 1, 1) := by decide +kernel
theorem dX9_begin_102 : decode cX9_begin 102 = .ok (.iadd, 1) := by decide +kernel
theorem dX9_begin_103 : decode cX9_begin 103 = .ok (.iload 4, 2) := by decide +kernel
theorem dX9_begin_105 : decode cX9_begin 105 = .ok (.iconst 1, 1) := by decide +kernel
theorem dX9_begin_106 : decode cX9_begin 106 = .ok (.iadd, 1) := by decide +kernel
theorem dX9_begin_107 : decode cX9_begin 107 = .ok (.invokevirtual 92, 3) := by decide +kernel
theorem dX9_begin_110 : decode cX9_begin 110 = .ok (.ifCond .ne 6, 3) := by decide +kernel
theorem dX9_begin_113 : decode cX9_begin 113 = .ok (.bipush (-3), 2) := by decide +kernel
theorem dX9_begin_115 : decode cX9_begin 115 = .ok (.ireturn, 1) := by decide +kernel
theorem dX9_begin_116 : decode cX9_begin 116 = .ok (.aload_n 0, 1) := by decide +kernel
theorem dX9_begin_117 : decode cX9_begin 117 = .ok (.getfield 51, 3) := by decide +kernel
theorem dX9_begin_120 : decode cX9_begin 120 = .ok (.iload_n 1, 1) := by decide +kernel
theorem dX9_begin_121 : decode cX9_begin 121 = .ok (.iload_n 2, 1) := by decide +kernel
theorem dX9_begin_122 : decode cX9_begin 122 = .ok (.iload 4, 2) := by decide +kernel
theorem dX9_begin_124 : decode cX9_begin 124 = .ok (.invokevirtual 136, 3) := by decide +kernel
theorem dX9_begin_127 : decode cX9_begin 127 = .ok (.iconst 0, 1) := by decide +kernel
theorem dX9_begin_128 : decode cX9_begin 128 = .ok (.istore 6, 2) := by decide +kernel
theorem dX9_begin_130 : decode cX9_begin 130 = .ok (.iload 6, 2) := by decide +kernel
theorem dX9_begin_132 : decode cX9_begin 132 = .ok (.iload 5, 2) := by decide +kernel
theorem dX9_begin_134 : decode cX9_begin 134 = .ok (.if_icmp .ge 29, 3) := by decide +kernel
theorem dX9_begin_137 : decode cX9_begin 137 = .ok (.aload_n 0, 1) := by decide +kernel
theorem dX9_begin_138 : decode cX9_begin 138 = .ok (.getfield 51, 3) := by decide +kernel
theorem dX9_begin_141 : decode cX9_begin 141 = .ok (.aload_n 0, 1) := by decide +kernel
theorem dX9_begin_142 : decode cX9_begin 142 = .ok (.getfield 27, 3) := by decide +kernel
theorem dX9_begin_145 : decode cX9_begin 145 = .ok (.iload_n 1, 1) := by decide +kernel
theorem dX9_begin_146 : decode cX9_begin 146 = .ok (.iconst 2, 1) := by decide +kernel
theorem dX9_begin_147 : decode cX9_begin 147 = .ok (.iadd, 1) := by decide +kernel
theorem dX9_begin_148 : decode cX9_begin 148 = .ok (.iload 6, 2) := by decide +kernel
theorem dX9_begin_150 : decode cX9_begin 150 = .ok (.iadd, 1) := by decide +kernel
theorem dX9_begin_151 : decode cX9_begin 151 = .ok (.invokevirtual 100, 3) := by decide +kernel
theorem dX9_begin_154 : decode cX9_begin 154 = .ok (.invokevirtual 140, 3) := by decide +kernel
theorem dX9_begin_157 : decode cX9_begin 157 = .ok (.iinc 6 1, 3) := by decide +kernel
theorem dX9_begin_160 : decode cX9_begin 160 = .ok (.goto (-30), 3) := by decide +kernel
theorem dX9_begin_163 : decode cX9_begin 163 = .ok (.aload_n 0, 1) := by decide +kernel
theorem dX9_begin_164 : decode cX9_begin 164 = .ok (.getfield 58, 3) := by decide +kernel
theorem dX9_begin_167 : decode cX9_begin 167 = .ok (.invokevirtual 144, 3) := by decide +kernel
theorem dX9_begin_170 : decode cX9_begin 170 = .ok (.iload 4, 2) := by decide +kernel
theorem dX9_begin_172 : decode cX9_begin 172 = .ok (.ireturn, 1) := by decide +kernel
set_option maxRecDepth 100000 in
theorem ggX9_key_X9_isCode : GoodIn wsX9_key wsX9_isCode := goodIn_r _ [6] rfl (by decide +kernel)
set_option maxRecDepth 100000 in
theorem gX9_key_X9_isCode : GoodIn wsX9_key (va_wsS RX9 147 yX9_isCode wsX9_isCode) := goodIn_app (goodIn_of _ (by decide +kernel)) ggX9_key_X9_isCode
set_option maxRecDepth 100000 in
theorem ggX9_key_X9_press : GoodIn wsX9_key wsX9_press := goodIn_r _ [10, 1, 11, 12, 13, 5, 14, 15, 16, 17, 18, 19, 20, 21, 22, 23, 24, 25, 26, 27, 28, 29, 30, 31, 32, 33, 34, 35, 36, 37, 38, 39, 40, 41, 42, 43, 44, 45, 46, 47, 48, 49, 50, 51, 52, 53, 54, 55, 56, 57, 58, 59, 60, 61, 62, 63, 64, 65, 66, 67, 68, 69, 70, 71, 72, 73, 74, 75, 76, 77, 78, 79, 80, 81, 82, 83, 2, 84, 85, 86, 87, 88, 89, 90, 91, 92, 93, 94, 95, 96, 97, 98, 99, 100, 101, 102, 103, 104, 105, 106, 107, 108, 109, 110, 111, 112, 113, 114, 115, 116, 117, 118, 119, 120, 121, 122, 123, 124, 125, 126, 127, 128, 129, 130, 131, 132, 133, 134, 135, 136, 137, 138, 139, 140, 141, 142, 143, 144, 145, 146, 147, 148, 149, 150, 151, 152, 153, 154, 155, 156, 157, 158, 159, 160, 161, 162, 163, 164, 165, 166, 167, 168, 169, 170, 171, 172, 173, 174, 175, 176, 177, 178, 179, 180, 181, 182, 183, 184, 185, 186, 187, 188, 189, 190, 191, 192, 193, 194, 195, 196, 197, 198, 199, 200, 201, 202, 203, 204, 205, 206, 207, 208, 209, 210, 211, 212, 213, 214, 215, 216, 217, 218, 219, 220, 221, 222, 223, 224, 225, 226, 227, 228, 229, 230, 231, 232, 233, 234, 235, 236, 237, 238, 239, 240, 241, 242, 243, 244, 245, 246, 247, 248, 249, 250, 251, 252, 253, 254, 255, 256, 257, 258, 259, 260, 261, 262, 263, 264, 265, 266, 267, 268, 269, 270, 271, 272, 273, 274, 275, 276, 277, 278, 279, 280, 281, 282, 283, 284, 285, 286, 287, 288, 289, 290, 291, 292, 293, 294, 295, 296, 297, 298, 299, 300, 301, 302, 303, 304, 305, 306, 307, 308, 309, 310, 311, 312, 313, 314, 315, 316, 317, 318, 319, 320, 321, 322, 323, 324, 325, 326, 327, 328, 329, 330, 331, 332, 340, 333, 334, 335, 336, 337, 338, 339, 341, 342, 343, 344, 345, 346, 347, 348, 349, 350, 351, 352, 353, 354, 355, 356, 357, 358, 359, 360, 361, 362, 363, 364, 365, 366, 367, 368, 369] rfl (by decide +kernel)
set_option maxRecDepth 100000 in
theorem gX9_key_X9_press : GoodIn wsX9_key (wsV RX9 150 RX9 yX9_press wsX9_press) := goodIn_app (goodIn_of _ (by decide +kernel)) ggX9_key_X9_press
theorem dX9_key_0 : decode cX9_key 0 = .ok (.aload_n 0, 1) := by decide +kernel
theorem dX9_key_1 : decode cX9_key 1 = .ok (.getfield 51, 3) := by decide +kernel
theorem dX9_key_4 : decode cX9_key 4 = .ok (.getfield 123, 3) := by decide +kernel
theorem dX9_key_7 : decode cX9_key 7 = .ok (.ifCond .ne 5, 3) := by decide +kernel
theorem dX9_key_10 : decode cX9_key 10 = .ok (.iconst (-1), 1) := by decide +kernel
theorem dX9_key_11 : decode cX9_key 11 = .ok (.ireturn, 1) := by decide +kernel
theorem dX9_key_12 : decode cX9_key 12 = .ok (.iload_n 1, 1) := by decide +kernel
theorem dX9_key_13 : decode cX9_key 13 = .ok (.invokestatic 147, 3) := by decide +kernel
theorem dX9_key_16 : decode cX9_key 16 = .ok (.ifCond .eq 11, 3) := by decide +kernel
theorem dX9_key_19 : decode cX9_key 19 = .ok (.aload_n 0, 1) := by decide +kernel
theorem dX9_key_20 : decode cX9_key 20 = .ok (.iload_n 1, 1) := by decide +kernel
theorem dX9_key_21 : decode cX9_key 21 = .ok (.invokevirtual 150, 3) := by decide +kernel
theorem dX9_key_24 : decode cX9_key 24 = .ok (.goto 5, 3) := by decide +kernel
theorem dX9_key_27 : decode cX9_key 27 = .ok (.bipush (-2), 2) := by decide +kernel
theorem dX9_key_29 : decode cX9_key 29 = .ok (.ireturn, 1) := by decide +kernel
set_option maxRecDepth 100000 in
theorem ggX9_timed_X0_set : GoodIn wsX9_timed wsX0_set := goodIn_r _ [10, 11, 12, 13, 14, 35, 36, 37, 38, 39, 40] rfl (by decide +kernel)
set_option maxRecDepth 100000 in
theorem gX9_timed_X0_set : GoodIn wsX9_timed (wsV RX9 153 RX0 yX0_set wsX0_set) := goodIn_app (goodIn_of _ (by decide +kernel)) ggX9_timed_X0_set
theorem dX9_timed_0 : decode cX9_timed 0 = .ok (.aload_n 0, 1) := by decide +kernel
theorem dX9_timed_1 : decode cX9_timed 1 = .ok (.getfield 51, 3) := by decide +kernel
theorem dX9_timed_4 : decode cX9_timed 4 = .ok (.getfield 123, 3) := by decide +kernel
theorem dX9_timed_7 : decode cX9_timed 7 = .ok (.ifCond .ne 5, 3) := by decide +kernel
theorem dX9_timed_10 : decode cX9_timed 10 = .ok (.iconst (-1), 1) := by decide +kernel
theorem dX9_timed_11 : decode cX9_timed 11 = .ok (.ireturn, 1) := by decide +kernel
theorem dX9_timed_12 : decode cX9_timed 12 = .ok (.aload_n 0, 1) := by decide +kernel
theorem dX9_timed_13 : decode cX9_timed 13 = .ok (.getfield 22, 3) := by decide +kernel
theorem dX9_timed_16 : decode cX9_timed 16 = .ok (.iconst 4, 1) := by decide +kernel
theorem dX9_timed_17 : decode cX9_timed 17 = .ok (.if_icmp .lt 14, 3) := by decide +kernel
theorem dX9_timed_20 : decode cX9_timed 20 = .ok (.iload_n 1, 1) := by decide +kernel
theorem dX9_timed_21 : decode cX9_timed 21 = .ok (.ifCond .lt 10, 3) := by decide +kernel
theorem dX9_timed_24 : decode cX9_timed 24 = .ok (.iload_n 1, 1) := by decide +kernel
theorem dX9_timed_25 : decode cX9_timed 25 = .ok (.sipush 1000, 3) := by decide +kernel
theorem dX9_timed_28 : decode cX9_timed 28 = .ok (.if_icmp .le 6, 3) := by decide +kernel
theorem dX9_timed_31 : decode cX9_timed 31 = .ok (.bipush (-2), 2) := by decide +kernel
theorem dX9_timed_33 : decode cX9_timed 33 = .ok (.ireturn, 1) := by decide +kernel
theorem dX9_timed_34 : decode cX9_timed 34 = .ok (.aload_n 0, 1) := by decide +kernel
theorem dX9_timed_35 : decode cX9_timed 35 = .ok (.getfield 58, 3) := by decide +kernel
theorem dX9_timed_38 : decode cX9_timed 38 = .ok (.iload_n 1, 1) := by decide +kernel
theorem dX9_timed_39 : decode cX9_timed 39 = .ok (.iload_n 2, 1) := by decide +kernel
theorem dX9_timed_40 : decode cX9_timed 40 = .ok (.invokevirtual 153, 3) := by decide +kernel
theorem dX9_timed_43 : decode cX9_timed 43 = .ok (.aload_n 0, 1) := by decide +kernel
theorem dX9_timed_44 : decode cX9_timed 44 = .ok (.getfield 58, 3) := by decide +kernel
theorem dX9_timed_47 : decode cX9_timed 47 = .ok (.getfield 157, 3) := by decide +kernel
theorem dX9_timed_50 : decode cX9_timed 50 = .ok (.ireturn, 1) := by decide +kernel
set_option maxRecDepth 100000 in
theorem ggX9_tick_X0_pass : GoodIn wsX9_tick wsX0_pass := goodIn_r _ [10, 11, 12, 13, 14, 15, 16, 17, 18, 19, 20, 21, 22, 9, 23, 24, 84, 85, 86, 87, 88, 89] rfl (by decide +kernel)
set_option maxRecDepth 100000 in
theorem gX9_tick_X0_pass : GoodIn wsX9_tick (wsV RX9 161 RX0 yX0_pass wsX0_pass) := goodIn_app (goodIn_of _ (by decide +kernel)) ggX9_tick_X0_pass
set_option maxRecDepth 100000 in
theorem ggX9_tick_X9_endByClock : GoodIn wsX9_tick wsX9_endByClock := goodIn_r _ [29, 1, 30, 31, 32, 33, 34, 35, 36, 37, 38, 28, 39, 40, 41, 42, 43, 44, 45, 46, 47, 48, 49, 50, 51, 52, 53, 54, 55, 56, 57, 58, 59, 60, 61, 62, 2, 63, 64, 65, 66, 67, 68, 69, 70, 71, 72, 73, 74, 75, 76, 77, 78, 79, 80, 81, 82, 83, 90] rfl (by decide +kernel)
set_option maxRecDepth 100000 in
theorem gX9_tick_X9_endByClock : GoodIn wsX9_tick (wsV RX9 167 RX9 yX9_endByClock wsX9_endByClock) := goodIn_app (goodIn_of _ (by decide +kernel)) ggX9_tick_X9_endByClock
theorem dX9_tick_0 : decode cX9_tick 0 = .ok (.aload_n 0, 1) := by decide +kernel
theorem dX9_tick_1 : decode cX9_tick 1 = .ok (.getfield 51, 3) := by decide +kernel
theorem dX9_tick_4 : decode cX9_tick 4 = .ok (.getfield 123, 3) := by decide +kernel
theorem dX9_tick_7 : decode cX9_tick 7 = .ok (.ifCond .ne 5, 3) := by decide +kernel
theorem dX9_tick_10 : decode cX9_tick 10 = .ok (.iconst (-1), 1) := by decide +kernel
theorem dX9_tick_11 : decode cX9_tick 11 = .ok (.ireturn, 1) := by decide +kernel
theorem dX9_tick_12 : decode cX9_tick 12 = .ok (.iload_n 1, 1) := by decide +kernel
theorem dX9_tick_13 : decode cX9_tick 13 = .ok (.ifCond .lt 9, 3) := by decide +kernel
theorem dX9_tick_16 : decode cX9_tick 16 = .ok (.iload_n 1, 1) := by decide +kernel
theorem dX9_tick_17 : decode cX9_tick 17 = .ok (.ldc 160, 2) := by decide +kernel
theorem dX9_tick_19 : decode cX9_tick 19 = .ok (.if_icmp .le 6, 3) := by decide +kernel
theorem dX9_tick_22 : decode cX9_tick 22 = .ok (.bipush (-2), 2) := by decide +kernel
theorem dX9_tick_24 : decode cX9_tick 24 = .ok (.ireturn, 1) := by decide +kernel
theorem dX9_tick_25 : decode cX9_tick 25 = .ok (.aload_n 0, 1) := by decide +kernel
theorem dX9_tick_26 : decode cX9_tick 26 = .ok (.getfield 58, 3) := by decide +kernel
theorem dX9_tick_29 : decode cX9_tick 29 = .ok (.iload_n 1, 1) := by decide +kernel
theorem dX9_tick_30 : decode cX9_tick 30 = .ok (.invokevirtual 161, 3) := by decide +kernel
theorem dX9_tick_33 : decode cX9_tick 33 = .ok (.istore_n 2, 1) := by decide +kernel
theorem dX9_tick_34 : decode cX9_tick 34 = .ok (.aload_n 0, 1) := by decide +kernel
theorem dX9_tick_35 : decode cX9_tick 35 = .ok (.getfield 58, 3) := by decide +kernel
theorem dX9_tick_38 : decode cX9_tick 38 = .ok (.getfield 164, 3) := by decide +kernel
theorem dX9_tick_41 : decode cX9_tick 41 = .ok (.ifCond .eq 7, 3) := by decide +kernel
theorem dX9_tick_44 : decode cX9_tick 44 = .ok (.aload_n 0, 1) := by decide +kernel
theorem dX9_tick_45 : decode cX9_tick 45 = .ok (.invokevirtual 167, 3) := by decide +kernel
theorem dX9_tick_48 : decode cX9_tick 48 = .ok (.iload_n 2, 1) := by decide +kernel
theorem dX9_tick_49 : decode cX9_tick 49 = .ok (.ireturn, 1) := by decide +kernel
set_option maxRecDepth 100000 in
theorem ggX9_script_X9_isCode : GoodIn wsX9_script wsX9_isCode := goodIn_r _ [6] rfl (by decide +kernel)
set_option maxRecDepth 100000 in
theorem gX9_script_X9_isCode : GoodIn wsX9_script (va_wsS RX9 147 yX9_isCode wsX9_isCode) := goodIn_app (goodIn_of _ (by decide +kernel)) ggX9_script_X9_isCode
set_option maxRecDepth 100000 in
theorem ggX9_script_X8_add : GoodIn wsX9_script wsX8_add := goodIn_r _ [11, 12, 13, 14, 28, 29, 30] rfl (by decide +kernel)
set_option maxRecDepth 100000 in
theorem gX9_script_X8_add : GoodIn wsX9_script (wsV RX9 170 RX8 yX8_add wsX8_add) := goodIn_app (goodIn_of _ (by decide +kernel)) ggX9_script_X8_add
theorem dX9_script_0 : decode cX9_script 0 = .ok (.iload_n 1, 1) := by decide +kernel
theorem dX9_script_1 : decode cX9_script 1 = .ok (.invokestatic 147, 3) := by decide +kernel
theorem dX9_script_4 : decode cX9_script 4 = .ok (.ifCond .ne 6, 3) := by decide +kernel
theorem dX9_script_7 : decode cX9_script 7 = .ok (.bipush (-2), 2) := by decide +kernel
theorem dX9_script_9 : decode cX9_script 9 = .ok (.ireturn, 1) := by decide +kernel
theorem dX9_script_10 : decode cX9_script 10 = .ok (.aload_n 0, 1) := by decide +kernel
theorem dX9_script_11 : decode cX9_script 11 = .ok (.getfield 79, 3) := by decide +kernel
theorem dX9_script_14 : decode cX9_script 14 = .ok (.iload_n 1, 1) := by decide +kernel
theorem dX9_script_15 : decode cX9_script 15 = .ok (.invokevirtual 170, 3) := by decide +kernel
theorem dX9_script_18 : decode cX9_script 18 = .ok (.ifCond .eq 13, 3) := by decide +kernel
theorem dX9_script_21 : decode cX9_script 21 = .ok (.aload_n 0, 1) := by decide +kernel
theorem dX9_script_22 : decode cX9_script 22 = .ok (.getfield 79, 3) := by decide +kernel
theorem dX9_script_25 : decode cX9_script 25 = .ok (.getfield 172, 3) := by decide +kernel
theorem dX9_script_28 : decode cX9_script 28 = .ok (.goto 5, 3) := by decide +kernel
theorem dX9_script_31 : decode cX9_script 31 = .ok (.bipush (-4), 2) := by decide +kernel
theorem dX9_script_33 : decode cX9_script 33 = .ok (.ireturn, 1) := by decide +kernel
set_option maxRecDepth 100000 in
theorem ggX9_play_X8_takeFirst : GoodIn wsX9_play wsX8_takeFirst := goodIn_r _ [9, 10, 11, 12, 347, 348, 349] rfl (by decide +kernel)
set_option maxRecDepth 100000 in
theorem gX9_play_X8_takeFirst : GoodIn wsX9_play (wsV RX9 175 RX8 yX8_takeFirst wsX8_takeFirst) := goodIn_app (goodIn_of _ (by decide +kernel)) ggX9_play_X8_takeFirst
set_option maxRecDepth 100000 in
theorem ggX9_play_X9_press : GoodIn wsX9_play wsX9_press := goodIn_r _ [17, 1, 18, 19, 20, 16, 21, 22, 23, 24, 25, 26, 27, 28, 29, 30, 31, 32, 33, 34, 35, 36, 37, 38, 39, 40, 41, 42, 43, 44, 45, 46, 47, 48, 49, 50, 51, 52, 53, 54, 55, 56, 57, 58, 59, 60, 61, 62, 63, 64, 65, 66, 67, 68, 69, 70, 71, 72, 73, 74, 75, 76, 77, 78, 79, 80, 81, 82, 83, 84, 85, 86, 87, 88, 89, 90, 2, 91, 92, 93, 94, 95, 96, 97, 98, 99, 100, 101, 102, 103, 104, 105, 106, 107, 108, 109, 110, 111, 112, 113, 114, 115, 116, 117, 118, 119, 120, 121, 122, 123, 124, 125, 126, 127, 128, 129, 130, 131, 132, 133, 134, 135, 136, 137, 138, 139, 140, 141, 142, 143, 144, 145, 146, 147, 148, 149, 150, 151, 152, 153, 154, 155, 156, 157, 158, 159, 160, 161, 162, 163, 164, 165, 166, 167, 168, 169, 170, 171, 172, 173, 174, 175, 176, 177, 178, 179, 180, 181, 182, 183, 184, 185, 186, 187, 188, 189, 190, 191, 192, 193, 194, 195, 196, 197, 198, 199, 200, 201, 202, 203, 204, 205, 206, 207, 208, 209, 210, 211, 212, 213, 214, 215, 216, 217, 218, 219, 220, 221, 222, 223, 224, 225, 226, 227, 228, 229, 230, 231, 232, 233, 234, 235, 236, 237, 238, 239, 240, 241, 242, 243, 244, 245, 246, 247, 248, 249, 250, 251, 252, 253, 254, 255, 256, 257, 258, 259, 260, 261, 262, 263, 264, 265, 266, 267, 268, 269, 270, 271, 272, 273, 274, 275, 276, 277, 278, 279, 280, 281, 282, 283, 284, 285, 286, 287, 288, 289, 290, 291, 292, 293, 294, 295, 296, 297, 298, 299, 300, 301, 302, 303, 304, 305, 306, 307, 308, 309, 310, 311, 312, 313, 314, 315, 316, 317, 318, 319, 320, 321, 322, 323, 324, 325, 326, 327, 328, 329, 330, 331, 332, 333, 334, 335, 336, 337, 338, 339, 350, 340, 341, 342, 343, 344, 345, 346, 351, 352, 353, 354, 355, 356, 357, 358, 359, 360, 361, 362, 363, 364, 365, 366, 367, 368, 369, 370, 371, 372, 373, 374, 375, 376, 377, 378, 379] rfl (by decide +kernel)
set_option maxRecDepth 100000 in
theorem gX9_play_X9_press : GoodIn wsX9_play (wsV RX9 150 RX9 yX9_press wsX9_press) := goodIn_app (goodIn_of _ (by decide +kernel)) ggX9_play_X9_press
theorem dX9_play_0 : decode cX9_play 0 = .ok (.aload_n 0, 1) := by decide +kernel
theorem dX9_play_1 : decode cX9_play 1 = .ok (.getfield 51, 3) := by decide +kernel
theorem dX9_play_4 : decode cX9_play 4 = .ok (.getfield 123, 3) := by decide +kernel
theorem dX9_play_7 : decode cX9_play 7 = .ok (.ifCond .ne 5, 3) := by decide +kernel
theorem dX9_play_10 : decode cX9_play 10 = .ok (.iconst (-1), 1) := by decide +kernel
theorem dX9_play_11 : decode cX9_play 11 = .ok (.ireturn, 1) := by decide +kernel
theorem dX9_play_12 : decode cX9_play 12 = .ok (.aload_n 0, 1) := by decide +kernel
theorem dX9_play_13 : decode cX9_play 13 = .ok (.getfield 79, 3) := by decide +kernel
theorem dX9_play_16 : decode cX9_play 16 = .ok (.getfield 172, 3) := by decide +kernel
theorem dX9_play_19 : decode cX9_play 19 = .ok (.istore_n 1, 1) := by decide +kernel
theorem dX9_play_20 : decode cX9_play 20 = .ok (.iconst 0, 1) := by decide +kernel
theorem dX9_play_21 : decode cX9_play 21 = .ok (.istore_n 2, 1) := by decide +kernel
theorem dX9_play_22 : decode cX9_play 22 = .ok (.iload_n 2, 1) := by decide +kernel
theorem dX9_play_23 : decode cX9_play 23 = .ok (.iload_n 1, 1) := by decide +kernel
theorem dX9_play_24 : decode cX9_play 24 = .ok (.if_icmp .ge 31, 3) := by decide +kernel
theorem dX9_play_27 : decode cX9_play 27 = .ok (.aload_n 0, 1) := by decide +kernel
theorem dX9_play_28 : decode cX9_play 28 = .ok (.getfield 51, 3) := by decide +kernel
theorem dX9_play_31 : decode cX9_play 31 = .ok (.getfield 123, 3) := by decide +kernel
theorem dX9_play_34 : decode cX9_play 34 = .ok (.ifCond .eq 21, 3) := by decide +kernel
theorem dX9_play_37 : decode cX9_play 37 = .ok (.aload_n 0, 1) := by decide +kernel
theorem dX9_play_38 : decode cX9_play 38 = .ok (.aload_n 0, 1) := by decide +kernel
theorem dX9_play_39 : decode cX9_play 39 = .ok (.getfield 79, 3) := by decide +kernel
theorem dX9_play_42 : decode cX9_play 42 = .ok (.invokevirtual 175, 3) := by decide +kernel
theorem dX9_play_45 : decode cX9_play 45 = .ok (.invokevirtual 150, 3) := by decide +kernel
theorem dX9_play_48 : decode cX9_play 48 = .ok (.pop, 1) := by decide +kernel
theorem dX9_play_49 : decode cX9_play 49 = .ok (.iinc 2 1, 3) := by decide +kernel
theorem dX9_play_52 : decode cX9_play 52 = .ok (.goto (-30), 3) := by decide +kernel
theorem dX9_play_55 : decode cX9_play 55 = .ok (.iload_n 2, 1) := by decide +kernel
theorem dX9_play_56 : decode cX9_play 56 = .ok (.ireturn, 1) := by decide +kernel
theorem dX9_told_0 : decode cX9_told 0 = .ok (.iload_n 1, 1) := by decide +kernel
theorem dX9_told_1 : decode cX9_told 1 = .ok (.tableswitch 158 0 7 #[47, 63, 85, 107, 115, 123, 131, 136], 47) := by decide +kernel
theorem dX9_told_48 : decode cX9_told 48 = .ok (.aload_n 0, 1) := by decide +kernel
theorem dX9_told_49 : decode cX9_told 49 = .ok (.getfield 51, 3) := by decide +kernel
theorem dX9_told_52 : decode cX9_told 52 = .ok (.getfield 123, 3) := by decide +kernel
theorem dX9_told_55 : decode cX9_told 55 = .ok (.ifCond .eq 7, 3) := by decide +kernel
theorem dX9_told_58 : decode cX9_told 58 = .ok (.iconst 1, 1) := by decide +kernel
theorem dX9_told_59 : decode cX9_told 59 = .ok (.goto 4, 3) := by decide +kernel
theorem dX9_told_62 : decode cX9_told 62 = .ok (.iconst 0, 1) := by decide +kernel
theorem dX9_told_63 : decode cX9_told 63 = .ok (.ireturn, 1) := by decide +kernel
theorem dX9_told_64 : decode cX9_told 64 = .ok (.aload_n 0, 1) := by decide +kernel
theorem dX9_told_65 : decode cX9_told 65 = .ok (.getfield 51, 3) := by decide +kernel
theorem dX9_told_68 : decode cX9_told 68 = .ok (.getfield 123, 3) := by decide +kernel
theorem dX9_told_71 : decode cX9_told 71 = .ok (.ifCond .eq 13, 3) := by decide +kernel
theorem dX9_told_74 : decode cX9_told 74 = .ok (.aload_n 0, 1) := by decide +kernel
theorem dX9_told_75 : decode cX9_told 75 = .ok (.getfield 51, 3) := by decide +kernel
theorem dX9_told_78 : decode cX9_told 78 = .ok (.getfield 179, 3) := by decide +kernel
theorem dX9_told_81 : decode cX9_told 81 = .ok (.goto 4, 3) := by decide +kernel
theorem dX9_told_84 : decode cX9_told 84 = .ok (.iconst 0, 1) := by decide +kernel
theorem dX9_told_85 : decode cX9_told 85 = .ok (.ireturn, 1) := by decide +kernel
theorem dX9_told_86 : decode cX9_told 86 = .ok (.aload_n 0, 1) := by decide +kernel
theorem dX9_told_87 : decode cX9_told 87 = .ok (.getfield 51, 3) := by decide +kernel
theorem dX9_told_90 : decode cX9_told 90 = .ok (.getfield 123, 3) := by decide +kernel
theorem dX9_told_93 : decode cX9_told 93 = .ok (.ifCond .eq 13, 3) := by decide +kernel
theorem dX9_told_96 : decode cX9_told 96 = .ok (.aload_n 0, 1) := by decide +kernel
theorem dX9_told_97 : decode cX9_told 97 = .ok (.getfield 51, 3) := by decide +kernel
theorem dX9_told_100 : decode cX9_told 100 = .ok (.getfield 180, 3) := by decide +kernel
theorem dX9_told_103 : decode cX9_told 103 = .ok (.goto 4, 3) := by decide +kernel
theorem dX9_told_106 : decode cX9_told 106 = .ok (.iconst 0, 1) := by decide +kernel
theorem dX9_told_107 : decode cX9_told 107 = .ok (.ireturn, 1) := by decide +kernel
theorem dX9_told_108 : decode cX9_told 108 = .ok (.aload_n 0, 1) := by decide +kernel
theorem dX9_told_109 : decode cX9_told 109 = .ok (.getfield 79, 3) := by decide +kernel
theorem dX9_told_112 : decode cX9_told 112 = .ok (.getfield 172, 3) := by decide +kernel
theorem dX9_told_115 : decode cX9_told 115 = .ok (.ireturn, 1) := by decide +kernel
theorem dX9_told_116 : decode cX9_told 116 = .ok (.aload_n 0, 1) := by decide +kernel
theorem dX9_told_117 : decode cX9_told 117 = .ok (.getfield 65, 3) := by decide +kernel
theorem dX9_told_120 : decode cX9_told 120 = .ok (.getfield 183, 3) := by decide +kernel
theorem dX9_told_123 : decode cX9_told 123 = .ok (.ireturn, 1) := by decide +kernel
theorem dX9_told_124 : decode cX9_told 124 = .ok (.aload_n 0, 1) := by decide +kernel
theorem dX9_told_125 : decode cX9_told 125 = .ok (.getfield 72, 3) := by decide +kernel
theorem dX9_told_128 : decode cX9_told 128 = .ok (.getfield 184, 3) := by decide +kernel
theorem dX9_told_131 : decode cX9_told 131 = .ok (.ireturn, 1) := by decide +kernel
theorem dX9_told_132 : decode cX9_told 132 = .ok (.aload_n 0, 1) := by decide +kernel
theorem dX9_told_133 : decode cX9_told 133 = .ok (.getfield 89, 3) := by decide +kernel
theorem dX9_told_136 : decode cX9_told 136 = .ok (.ireturn, 1) := by decide +kernel
theorem dX9_told_137 : decode cX9_told 137 = .ok (.aload_n 0, 1) := by decide +kernel
theorem dX9_told_138 : decode cX9_told 138 = .ok (.getfield 51, 3) := by decide +kernel
theorem dX9_told_141 : decode cX9_told 141 = .ok (.getfield 123, 3) := by decide +kernel
theorem dX9_told_144 : decode cX9_told 144 = .ok (.ifCond .eq 13, 3) := by decide +kernel
theorem dX9_told_147 : decode cX9_told 147 = .ok (.aload_n 0, 1) := by decide +kernel
theorem dX9_told_148 : decode cX9_told 148 = .ok (.getfield 58, 3) := by decide +kernel
theorem dX9_told_151 : decode cX9_told 151 = .ok (.getfield 157, 3) := by decide +kernel
theorem dX9_told_154 : decode cX9_told 154 = .ok (.goto 4, 3) := by decide +kernel
theorem dX9_told_157 : decode cX9_told 157 = .ok (.iconst 0, 1) := by decide +kernel
theorem dX9_told_158 : decode cX9_told 158 = .ok (.ireturn, 1) := by decide +kernel
theorem dX9_told_159 : decode cX9_told 159 = .ok (.bipush (-2), 2) := by decide +kernel
theorem dX9_told_161 : decode cX9_told 161 = .ok (.ireturn, 1) := by decide +kernel
set_option maxRecDepth 100000 in
theorem ggX9_typed_X7_code : GoodIn wsX9_typed wsX7_code := goodIn_r _ [8, 9, 10, 24, 25, 26, 27, 28, 29, 30] rfl (by decide +kernel)
set_option maxRecDepth 100000 in
theorem gX9_typed_X7_code : GoodIn wsX9_typed (wsV RX9 187 RX7 yX7_code wsX7_code) := goodIn_app (goodIn_of _ (by decide +kernel)) ggX9_typed_X7_code
theorem dX9_typed_0 : decode cX9_typed 0 = .ok (.aload_n 0, 1) := by decide +kernel
theorem dX9_typed_1 : decode cX9_typed 1 = .ok (.getfield 51, 3) := by decide +kernel
theorem dX9_typed_4 : decode cX9_typed 4 = .ok (.getfield 123, 3) := by decide +kernel
theorem dX9_typed_7 : decode cX9_typed 7 = .ok (.ifCond .ne 5, 3) := by decide +kernel
theorem dX9_typed_10 : decode cX9_typed 10 = .ok (.iconst (-1), 1) := by decide +kernel
theorem dX9_typed_11 : decode cX9_typed 11 = .ok (.ireturn, 1) := by decide +kernel
theorem dX9_typed_12 : decode cX9_typed 12 = .ok (.iload_n 1, 1) := by decide +kernel
theorem dX9_typed_13 : decode cX9_typed 13 = .ok (.ifCond .lt 25, 3) := by decide +kernel
theorem dX9_typed_16 : decode cX9_typed 16 = .ok (.iload_n 1, 1) := by decide +kernel
theorem dX9_typed_17 : decode cX9_typed 17 = .ok (.aload_n 0, 1) := by decide +kernel
theorem dX9_typed_18 : decode cX9_typed 18 = .ok (.getfield 51, 3) := by decide +kernel
theorem dX9_typed_21 : decode cX9_typed 21 = .ok (.getfield 179, 3) := by decide +kernel
theorem dX9_typed_24 : decode cX9_typed 24 = .ok (.if_icmp .ge 14, 3) := by decide +kernel
theorem dX9_typed_27 : decode cX9_typed 27 = .ok (.aload_n 0, 1) := by decide +kernel
theorem dX9_typed_28 : decode cX9_typed 28 = .ok (.getfield 51, 3) := by decide +kernel
theorem dX9_typed_31 : decode cX9_typed 31 = .ok (.iload_n 1, 1) := by decide +kernel
theorem dX9_typed_32 : decode cX9_typed 32 = .ok (.invokevirtual 187, 3) := by decide +kernel
theorem dX9_typed_35 : decode cX9_typed 35 = .ok (.goto 5, 3) := by decide +kernel
theorem dX9_typed_38 : decode cX9_typed 38 = .ok (.bipush (-2), 2) := by decide +kernel
theorem dX9_typed_40 : decode cX9_typed 40 = .ok (.ireturn, 1) := by decide +kernel
set_option maxRecDepth 100000 in
theorem ggX9_kept_X3_length : GoodIn wsX9_kept wsX3_length := goodIn_r _ [6, 7, 8, 9, 10, 5, 11, 12, 13, 33, 34, 35, 36] rfl (by decide +kernel)
set_option maxRecDepth 100000 in
theorem gX9_kept_X3_length : GoodIn wsX9_kept (wsV RX9 190 RX3 yX3_length wsX3_length) := goodIn_app (goodIn_of _ (by decide +kernel)) ggX9_kept_X3_length
set_option maxRecDepth 100000 in
theorem ggX9_kept_X3_code : GoodIn wsX9_kept wsX3_code := goodIn_r _ [17, 18, 8, 9, 10, 5, 11, 12, 13, 19, 3, 4, 6, 7, 33, 34, 35, 36] rfl (by decide +kernel)
