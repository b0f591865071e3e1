theorem dX10_entryOf_53 : decode cX10_entryOf 53 = .ok (.iload 4, 2) := by decide +kernel
theorem dX10_entryOf_55 : decode cX10_entryOf 55 = .ok (.iload 6, 2) := by decide +kernel
theorem dX10_entryOf_57 : decode cX10_entryOf 57 = .ok (.iadd, 1) := by decide +kernel
theorem dX10_entryOf_58 : decode cX10_entryOf 58 = .ok (.iaload, 1) := by decide +kernel
theorem dX10_entryOf_59 : decode cX10_entryOf 59 = .ok (.aload_n 0, 1) := by decide +kernel
theorem dX10_entryOf_60 : decode cX10_entryOf 60 = .ok (.getfield 16, 3) := by decide +kernel
theorem dX10_entryOf_63 : decode cX10_entryOf 63 = .ok (.iload 6, 2) := by decide +kernel
theorem dX10_entryOf_65 : decode cX10_entryOf 65 = .ok (.iaload, 1) := by decide +kernel
theorem dX10_entryOf_66 : decode cX10_entryOf 66 = .ok (.if_icmp .ne 7, 3) := by decide +kernel
theorem dX10_entryOf_69 : decode cX10_entryOf 69 = .ok (.iconst 1, 1) := by decide +kernel
theorem dX10_entryOf_70 : decode cX10_entryOf 70 = .ok (.goto 4, 3) := by decide +kernel
theorem dX10_entryOf_73 : decode cX10_entryOf 73 = .ok (.iconst 0, 1) := by decide +kernel
theorem dX10_entryOf_74 : decode cX10_entryOf 74 = .ok (.istore 5, 2) := by decide +kernel
theorem dX10_entryOf_76 : decode cX10_entryOf 76 = .ok (.iinc 6 1, 3) := by decide +kernel
theorem dX10_entryOf_79 : decode cX10_entryOf 79 = .ok (.goto (-44), 3) := by decide +kernel
theorem dX10_entryOf_82 : decode cX10_entryOf 82 = .ok (.iload 5, 2) := by decide +kernel
theorem dX10_entryOf_84 : decode cX10_entryOf 84 = .ok (.ifCond .eq 6, 3) := by decide +kernel
theorem dX10_entryOf_87 : decode cX10_entryOf 87 = .ok (.iload 4, 2) := by decide +kernel
theorem dX10_entryOf_89 : decode cX10_entryOf 89 = .ok (.ireturn, 1) := by decide +kernel
theorem dX10_entryOf_90 : decode cX10_entryOf 90 = .ok (.iinc 3 1, 3) := by decide +kernel
theorem dX10_entryOf_93 : decode cX10_entryOf 93 = .ok (.goto (-85), 3) := by decide +kernel
theorem dX10_entryOf_96 : decode cX10_entryOf 96 = .ok (.iconst 0, 1) := by decide +kernel
theorem dX10_entryOf_97 : decode cX10_entryOf 97 = .ok (.ireturn, 1) := by decide +kernel
set_option maxRecDepth 100000 in
theorem ggX10_look_X10_in : GoodIn wsX10_look wsX10_in := goodIn_r _ [4] rfl (by decide +kernel)
set_option maxRecDepth 100000 in
theorem gX10_look_X10_in : GoodIn wsX10_look (va_wsS RX10 47 yX10_in wsX10_in) := goodIn_app (goodIn_of _ (by decide +kernel)) ggX10_look_X10_in
set_option maxRecDepth 100000 in
theorem ggX10_look_X10_within : GoodIn wsX10_look wsX10_within := goodIn_r _ [7, 8] rfl (by decide +kernel)
set_option maxRecDepth 100000 in
theorem gX10_look_X10_within : GoodIn wsX10_look (va_wsS RX10 56 yX10_within wsX10_within) := goodIn_app (goodIn_of _ (by decide +kernel)) ggX10_look_X10_within
set_option maxRecDepth 100000 in
theorem ggX10_look_X10_isThere : GoodIn wsX10_look wsX10_isThere := goodIn_r _ [12, 13, 14, 15, 16, 17, 18, 5, 6, 3, 7, 8, 19, 20, 21, 22, 23, 47, 48, 49, 50, 51, 52, 53, 54, 55, 56, 57, 58, 59, 60, 61, 62, 63, 64, 65, 66, 67, 68, 69, 70, 71, 72, 73, 74, 75, 76, 77, 78, 79] rfl (by decide +kernel)
set_option maxRecDepth 100000 in
theorem gX10_look_X10_isThere : GoodIn wsX10_look (wsV RX10 101 RX10 yX10_isThere wsX10_isThere) := goodIn_app (goodIn_of _ (by decide +kernel)) ggX10_look_X10_isThere
set_option maxRecDepth 100000 in
theorem ggX10_look_X10_entryOf : GoodIn wsX10_look wsX10_entryOf := goodIn_r _ [27, 17, 18, 14, 13, 28, 29, 30, 31, 3, 32, 33, 15, 34, 35, 36, 37, 38, 23, 39, 40, 41, 42, 1, 2, 4, 43, 44, 45, 46, 19, 20, 21, 22, 47, 48, 49, 50, 51, 52, 53, 54, 55, 56, 57, 58, 59, 60, 61, 62, 63, 64, 65, 66, 67, 68, 69, 70, 71, 72, 73, 74, 75, 76, 77, 78, 79] rfl (by decide +kernel)
set_option maxRecDepth 100000 in
theorem gX10_look_X10_entryOf : GoodIn wsX10_look (wsV RX10 105 RX10 yX10_entryOf wsX10_entryOf) := goodIn_app (goodIn_of _ (by decide +kernel)) ggX10_look_X10_entryOf
theorem dX10_look_0 : decode cX10_look 0 = .ok (.iload_n 2, 1) := by decide +kernel
theorem dX10_look_1 : decode cX10_look 1 = .ok (.iconst 0, 1) := by decide +kernel
theorem dX10_look_2 : decode cX10_look 2 = .ok (.sipush 255, 3) := by decide +kernel
theorem dX10_look_5 : decode cX10_look 5 = .ok (.invokestatic 47, 3) := by decide +kernel
theorem dX10_look_8 : decode cX10_look 8 = .ok (.ifCond .eq 14, 3) := by decide +kernel
theorem dX10_look_11 : decode cX10_look 11 = .ok (.iload_n 3, 1) := by decide +kernel
theorem dX10_look_12 : decode cX10_look 12 = .ok (.iconst 0, 1) := by decide +kernel
theorem dX10_look_13 : decode cX10_look 13 = .ok (.sipush 4000, 3) := by decide +kernel
theorem dX10_look_16 : decode cX10_look 16 = .ok (.invokestatic 47, 3) := by decide +kernel
theorem dX10_look_19 : decode cX10_look 19 = .ok (.ifCond .ne 6, 3) := by decide +kernel
theorem dX10_look_22 : decode cX10_look 22 = .ok (.bipush (-2), 2) := by decide +kernel
theorem dX10_look_24 : decode cX10_look 24 = .ok (.ireturn, 1) := by decide +kernel
theorem dX10_look_25 : decode cX10_look 25 = .ok (.iload_n 1, 1) := by decide +kernel
theorem dX10_look_26 : decode cX10_look 26 = .ok (.i2l, 1) := by decide +kernel
theorem dX10_look_27 : decode cX10_look 27 = .ok (.iload_n 2, 1) := by decide +kernel
theorem dX10_look_28 : decode cX10_look 28 = .ok (.i2l, 1) := by decide +kernel
theorem dX10_look_29 : decode cX10_look 29 = .ok (.invokestatic 56, 3) := by decide +kernel
theorem dX10_look_32 : decode cX10_look 32 = .ok (.ifCond .eq 11, 3) := by decide +kernel
theorem dX10_look_35 : decode cX10_look 35 = .ok (.aload_n 0, 1) := by decide +kernel
theorem dX10_look_36 : decode cX10_look 36 = .ok (.iload_n 3, 1) := by decide +kernel
theorem dX10_look_37 : decode cX10_look 37 = .ok (.invokevirtual 101, 3) := by decide +kernel
theorem dX10_look_40 : decode cX10_look 40 = .ok (.ifCond .ne 6, 3) := by decide +kernel
theorem dX10_look_43 : decode cX10_look 43 = .ok (.bipush (-3), 2) := by decide +kernel
theorem dX10_look_45 : decode cX10_look 45 = .ok (.ireturn, 1) := by decide +kernel
theorem dX10_look_46 : decode cX10_look 46 = .ok (.aload_n 0, 1) := by decide +kernel
theorem dX10_look_47 : decode cX10_look 47 = .ok (.iload_n 1, 1) := by decide +kernel
theorem dX10_look_48 : decode cX10_look 48 = .ok (.iload_n 2, 1) := by decide +kernel
theorem dX10_look_49 : decode cX10_look 49 = .ok (.invokevirtual 105, 3) := by decide +kernel
theorem dX10_look_52 : decode cX10_look 52 = .ok (.ireturn, 1) := by decide +kernel
set_option maxRecDepth 100000 in
theorem ggX10_parses_X10_within : GoodIn wsX10_parses wsX10_within := goodIn_r _ [11, 12] rfl (by decide +kernel)
set_option maxRecDepth 100000 in
theorem gX10_parses_X10_within : GoodIn wsX10_parses (va_wsS RX10 56 yX10_within wsX10_within) := goodIn_app (goodIn_of _ (by decide +kernel)) ggX10_parses_X10_within
set_option maxRecDepth 100000 in
theorem ggX10_parses_X10_isThere : GoodIn wsX10_parses wsX10_isThere := goodIn_r _ [16, 2, 17, 18, 19, 20, 21, 8, 9, 10, 11, 12, 22, 23, 24, 25, 1, 56, 57, 58, 59, 60, 61, 62, 63, 64, 65, 66, 67, 68, 69, 70, 71, 72, 73, 74, 75, 76, 77, 78, 79, 80, 81, 82, 83, 84, 85, 86, 87, 88] rfl (by decide +kernel)
set_option maxRecDepth 100000 in
theorem gX10_parses_X10_isThere : GoodIn wsX10_parses (wsV RX10 101 RX10 yX10_isThere wsX10_isThere) := goodIn_app (goodIn_of _ (by decide +kernel)) ggX10_parses_X10_isThere
set_option maxRecDepth 100000 in
theorem ggX10_parses_X10_isSeparator : GoodIn wsX10_parses wsX10_isSeparator := goodIn_r _ [29, 2, 56, 57, 58, 59, 60, 61, 62, 63, 64, 65, 66, 67, 68, 69, 70, 71, 72, 73, 74, 75, 76, 77, 78, 79, 80, 81, 82, 83, 84, 85, 86, 87, 88] rfl (by decide +kernel)
set_option maxRecDepth 100000 in
theorem gX10_parses_X10_isSeparator : GoodIn wsX10_parses (wsV RX10 111 RX10 yX10_isSeparator wsX10_isSeparator) := goodIn_app (goodIn_of _ (by decide +kernel)) ggX10_parses_X10_isSeparator
set_option maxRecDepth 100000 in
theorem ggX10_parses_X10_entryOf : GoodIn wsX10_parses wsX10_entryOf := goodIn_r _ [33, 20, 21, 17, 2, 34, 35, 36, 37, 10, 38, 39, 18, 40, 41, 42, 43, 44, 1, 45, 46, 47, 48, 49, 50, 51, 52, 53, 54, 55, 22, 23, 24, 25, 56, 57, 58, 59, 60, 61, 62, 63, 64, 65, 66, 67, 68, 69, 70, 71, 72, 73, 74, 75, 76, 77, 78, 79, 80, 81, 82, 83, 84, 85, 86, 87, 88] rfl (by decide +kernel)
set_option maxRecDepth 100000 in
theorem gX10_parses_X10_entryOf : GoodIn wsX10_parses (wsV RX10 105 RX10 yX10_entryOf wsX10_entryOf) := goodIn_app (goodIn_of _ (by decide +kernel)) ggX10_parses_X10_entryOf
theorem dX10_parses_0 : decode cX10_parses 0 = .ok (.iload_n 1, 1) := by decide +kernel
theorem dX10_parses_1 : decode cX10_parses 1 = .ok (.aload_n 0, 1) := by decide +kernel
theorem dX10_parses_2 : decode cX10_parses 2 = .ok (.getfield 51, 3) := by decide +kernel
theorem dX10_parses_5 : decode cX10_parses 5 = .ok (.iconst 4, 1) := by decide +kernel
theorem dX10_parses_6 : decode cX10_parses 6 = .ok (.if_icmp .gt 7, 3) := by decide +kernel
theorem dX10_parses_9 : decode cX10_parses 9 = .ok (.iconst 1, 1) := by decide +kernel
theorem dX10_parses_10 : decode cX10_parses 10 = .ok (.goto 4, 3) := by decide +kernel
theorem dX10_parses_13 : decode cX10_parses 13 = .ok (.iconst 2, 1) := by decide +kernel
theorem dX10_parses_14 : decode cX10_parses 14 = .ok (.iadd, 1) := by decide +kernel
theorem dX10_parses_15 : decode cX10_parses 15 = .ok (.istore 5, 2) := by decide +kernel
theorem dX10_parses_17 : decode cX10_parses 17 = .ok (.iload 5, 2) := by decide +kernel
theorem dX10_parses_19 : decode cX10_parses 19 = .ok (.istore 6, 2) := by decide +kernel
theorem dX10_parses_21 : decode cX10_parses 21 = .ok (.aload_n 0, 1) := by decide +kernel
theorem dX10_parses_22 : decode cX10_parses 22 = .ok (.getfield 51, 3) := by decide +kernel
theorem dX10_parses_25 : decode cX10_parses 25 = .ok (.iconst 4, 1) := by decide +kernel
theorem dX10_parses_26 : decode cX10_parses 26 = .ok (.if_icmp .gt 38, 3) := by decide +kernel
theorem dX10_parses_29 : decode cX10_parses 29 = .ok (.iload 6, 2) := by decide +kernel
theorem dX10_parses_31 : decode cX10_parses 31 = .ok (.sipush 4096, 3) := by decide +kernel
theorem dX10_parses_34 : decode cX10_parses 34 = .ok (.if_icmp .ge 19, 3) := by decide +kernel
theorem dX10_parses_37 : decode cX10_parses 37 = .ok (.aload_n 0, 1) := by decide +kernel
theorem dX10_parses_38 : decode cX10_parses 38 = .ok (.getfield 7, 3) := by decide +kernel
theorem dX10_parses_41 : decode cX10_parses 41 = .ok (.iload 6, 2) := by decide +kernel
theorem dX10_parses_43 : decode cX10_parses 43 = .ok (.iaload, 1) := by decide +kernel
theorem dX10_parses_44 : decode cX10_parses 44 = .ok (.ifCond .eq 9, 3) := by decide +kernel
theorem dX10_parses_47 : decode cX10_parses 47 = .ok (.iinc 6 1, 3) := by decide +kernel
theorem dX10_parses_50 : decode cX10_parses 50 = .ok (.goto (-21), 3) := by decide +kernel
theorem dX10_parses_53 : decode cX10_parses 53 = .ok (.iload 6, 2) := by decide +kernel
theorem dX10_parses_55 : decode cX10_parses 55 = .ok (.sipush 4096, 3) := by decide +kernel
theorem dX10_parses_58 : decode cX10_parses 58 = .ok (.if_icmp .lt 51, 3) := by decide +kernel
theorem dX10_parses_61 : decode cX10_parses 61 = .ok (.bipush (-3), 2) := by decide +kernel
theorem dX10_parses_63 : decode cX10_parses 63 = .ok (.ireturn, 1) := by decide +kernel
theorem dX10_parses_64 : decode cX10_parses 64 = .ok (.iload_n 1, 1) := by decide +kernel
theorem dX10_parses_65 : decode cX10_parses 65 = .ok (.iconst 1, 1) := by decide +kernel
theorem dX10_parses_66 : decode cX10_parses 66 = .ok (.iadd, 1) := by decide +kernel
theorem dX10_parses_67 : decode cX10_parses 67 = .ok (.i2l, 1) := by decide +kernel
theorem dX10_parses_68 : decode cX10_parses 68 = .ok (.lconst 1, 1) := by decide +kernel
theorem dX10_parses_69 : decode cX10_parses 69 = .ok (.invokestatic 56, 3) := by decide +kernel
theorem dX10_parses_72 : decode cX10_parses 72 = .ok (.ifCond .eq 21, 3) := by decide +kernel
theorem dX10_parses_75 : decode cX10_parses 75 = .ok (.iload 5, 2) := by decide +kernel
theorem dX10_parses_77 : decode cX10_parses 77 = .ok (.i2l, 1) := by decide +kernel
theorem dX10_parses_78 : decode cX10_parses 78 = .ok (.aload_n 0, 1) := by decide +kernel
theorem dX10_parses_79 : decode cX10_parses 79 = .ok (.getfield 7, 3) := by decide +kernel
theorem dX10_parses_82 : decode cX10_parses 82 = .ok (.iload_n 1, 1) := by decide +kernel
theorem dX10_parses_83 : decode cX10_parses 83 = .ok (.iconst 1, 1) := by decide +kernel
theorem dX10_parses_84 : decode cX10_parses 84 = .ok (.iadd, 1) := by decide +kernel
theorem dX10_parses_85 : decode cX10_parses 85 = .ok (.iaload, 1) := by decide +kernel
theorem dX10_parses_86 : decode cX10_parses 86 = .ok (.i2l, 1) := by decide +kernel
theorem dX10_parses_87 : decode cX10_parses 87 = .ok (.invokestatic 56, 3) := by decide +kernel
theorem dX10_parses_90 : decode cX10_parses 90 = .ok (.ifCond .ne 6, 3) := by decide +kernel
theorem dX10_parses_93 : decode cX10_parses 93 = .ok (.bipush (-3), 2) := by decide +kernel
theorem dX10_parses_95 : decode cX10_parses 95 = .ok (.ireturn, 1) := by decide +kernel
theorem dX10_parses_96 : decode cX10_parses 96 = .ok (.iload 5, 2) := by decide +kernel
theorem dX10_parses_98 : decode cX10_parses 98 = .ok (.aload_n 0, 1) := by decide +kernel
theorem dX10_parses_99 : decode cX10_parses 99 = .ok (.getfield 7, 3) := by decide +kernel
theorem dX10_parses_102 : decode cX10_parses 102 = .ok (.iload_n 1, 1) := by decide +kernel
theorem dX10_parses_103 : decode cX10_parses 103 = .ok (.iconst 1, 1) := by decide +kernel
theorem dX10_parses_104 : decode cX10_parses 104 = .ok (.iadd, 1) := by decide +kernel
theorem dX10_parses_105 : decode cX10_parses 105 = .ok (.iaload, 1) := by decide +kernel
theorem dX10_parses_106 : decode cX10_parses 106 = .ok (.iadd, 1) := by decide +kernel
theorem dX10_parses_107 : decode cX10_parses 107 = .ok (.istore 6, 2) := by decide +kernel
theorem dX10_parses_109 : decode cX10_parses 109 = .ok (.aload_n 0, 1) := by decide +kernel
theorem dX10_parses_110 : decode cX10_parses 110 = .ok (.iload_n 3, 1) := by decide +kernel
theorem dX10_parses_111 : decode cX10_parses 111 = .ok (.invokevirtual 101, 3) := by decide +kernel
theorem dX10_parses_114 : decode cX10_parses 114 = .ok (.ifCond .eq 14, 3) := by decide +kernel
theorem dX10_parses_117 : decode cX10_parses 117 = .ok (.iload_n 2, 1) := by decide +kernel
theorem dX10_parses_118 : decode cX10_parses 118 = .ok (.i2l, 1) := by decide +kernel
theorem dX10_parses_119 : decode cX10_parses 119 = .ok (.ldc2_w 109, 3) := by decide +kernel
theorem dX10_parses_122 : decode cX10_parses 122 = .ok (.invokestatic 56, 3) := by decide +kernel
theorem dX10_parses_125 : decode cX10_parses 125 = .ok (.ifCond .ne 6, 3) := by decide +kernel
theorem dX10_parses_128 : decode cX10_parses 128 = .ok (.bipush (-3), 2) := by decide +kernel
theorem dX10_parses_130 : decode cX10_parses 130 = .ok (.ireturn, 1) := by decide +kernel
theorem dX10_parses_131 : decode cX10_parses 131 = .ok (.iconst 0, 1) := by decide +kernel
theorem dX10_parses_132 : decode cX10_parses 132 = .ok (.istore 7, 2) := by decide +kernel
theorem dX10_parses_134 : decode cX10_parses 134 = .ok (.iload 5, 2) := by decide +kernel
theorem dX10_parses_136 : decode cX10_parses 136 = .ok (.istore 8, 2) := by decide +kernel
theorem dX10_parses_138 : decode cX10_parses 138 = .ok (.iload 8, 2) := by decide +kernel
theorem dX10_parses_140 : decode cX10_parses 140 = .ok (.iload 6, 2) := by decide +kernel
theorem dX10_parses_142 : decode cX10_parses 142 = .ok (.if_icmp .ge 123, 3) := by decide +kernel
theorem dX10_parses_145 : decode cX10_parses 145 = .ok (.iconst 0, 1) := by decide +kernel
theorem dX10_parses_146 : decode cX10_parses 146 = .ok (.istore 9, 2) := by decide +kernel
theorem dX10_parses_148 : decode cX10_parses 148 = .ok (.iload 8, 2) := by decide +kernel
theorem dX10_parses_150 : decode cX10_parses 150 = .ok (.iload 9, 2) := by decide +kernel
theorem dX10_parses_152 : decode cX10_parses 152 = .ok (.iadd, 1) := by decide +kernel
theorem dX10_parses_153 : decode cX10_parses 153 = .ok (.iload 6, 2) := by decide +kernel
theorem dX10_parses_155 : decode cX10_parses 155 = .ok (.if_icmp .ge 42, 3) := by decide +kernel
theorem dX10_parses_158 : decode cX10_parses 158 = .ok (.aload_n 0, 1) := by decide +kernel
theorem dX10_parses_159 : decode cX10_parses 159 = .ok (.getfield 7, 3) := by decide +kernel
theorem dX10_parses_162 : decode cX10_parses 162 = .ok (.iload 8, 2) := by decide +kernel
theorem dX10_parses_164 : decode cX10_parses 164 = .ok (.iload 9, 2) := by decide +kernel
theorem dX10_parses_166 : decode cX10_parses 166 = .ok (.iadd, 1) := by decide +kernel
theorem dX10_parses_167 : decode cX10_parses 167 = .ok (.iaload, 1) := by decide +kernel
theorem dX10_parses_168 : decode cX10_parses 168 = .ok (.bipush 32, 2) := by decide +kernel
theorem dX10_parses_170 : decode cX10_parses 170 = .ok (.if_icmp .eq 27, 3) := by decide +kernel
theorem dX10_parses_173 : decode cX10_parses 173 = .ok (.aload_n 0, 1) := by decide +kernel
theorem dX10_parses_174 : decode cX10_parses 174 = .ok (.iload_n 3, 1) := by decide +kernel
theorem dX10_parses_175 : decode cX10_parses 175 = .ok (.aload_n 0, 1) := by decide +kernel
theorem dX10_parses_176 : decode cX10_parses 176 = .ok (.getfield 7, 3) := by decide +kernel
theorem dX10_parses_179 : decode cX10_parses 179 = .ok (.iload 8, 2) := by decide +kernel
theorem dX10_parses_181 : decode cX10_parses 181 = .ok (.iload 9, 2) := by decide +kernel
theorem dX10_parses_183 : decode cX10_parses 183 = .ok (.iadd, 1) := by decide +kernel
theorem dX10_parses_184 : decode cX10_parses 184 = .ok (.iaload, 1) := by decide +kernel
theorem dX10_parses_185 : decode cX10_parses 185 = .ok (.invokevirtual 111, 3) := by decide +kernel
theorem dX10_parses_188 : decode cX10_parses 188 = .ok (.ifCond .ne 9, 3) := by decide +kernel
theorem dX10_parses_191 : decode cX10_parses 191 = .ok (.iinc 9 1, 3) := by decide +kernel
theorem dX10_parses_194 : decode cX10_parses 194 = .ok (.goto (-46), 3) := by decide +kernel
theorem dX10_parses_197 : decode cX10_parses 197 = .ok (.iload 9, 2) := by decide +kernel
theorem dX10_parses_199 : decode cX10_parses 199 = .ok (.ifCond .ne 21, 3) := by decide +kernel
theorem dX10_parses_202 : decode cX10_parses 202 = .ok (.aload_n 0, 1) := by decide +kernel
theorem dX10_parses_203 : decode cX10_parses 203 = .ok (.iload_n 3, 1) := by decide +kernel
theorem dX10_parses_204 : decode cX10_parses 204 = .ok (.aload_n 0, 1) := by decide +kernel
theorem dX10_parses_205 : decode cX10_parses 205 = .ok (.getfield 7, 3) := by decide +kernel
theorem dX10_parses_208 : decode cX10_parses 208 = .ok (.iload 8, 2) := by decide +kernel
theorem dX10_parses_210 : decode cX10_parses 210 = .ok (.iaload, 1) := by decide +kernel
theorem dX10_parses_211 : decode cX10_parses 211 = .ok (.invokevirtual 111, 3) := by decide +kernel
theorem dX10_parses_214 : decode cX10_parses 214 = .ok (.ifCond .eq 6, 3) := by decide +kernel
theorem dX10_parses_217 : decode cX10_parses 217 = .ok (.iconst 1, 1) := by decide +kernel
theorem dX10_parses_218 : decode cX10_parses 218 = .ok (.istore 9, 2) := by decide +kernel
theorem dX10_parses_220 : decode cX10_parses 220 = .ok (.iload 9, 2) := by decide +kernel
theorem dX10_parses_222 : decode cX10_parses 222 = .ok (.ifCond .le 24, 3) := by decide +kernel
theorem dX10_parses_225 : decode cX10_parses 225 = .ok (.aload_n 0, 1) := by decide +kernel
theorem dX10_parses_226 : decode cX10_parses 226 = .ok (.getfield 19, 3) := by decide +kernel
theorem dX10_parses_229 : decode cX10_parses 229 = .ok (.iload 7, 2) := by decide +kernel
theorem dX10_parses_231 : decode cX10_parses 231 = .ok (.iload 8, 2) := by decide +kernel
theorem dX10_parses_233 : decode cX10_parses 233 = .ok (.iastore, 1) := by decide +kernel
theorem dX10_parses_234 : decode cX10_parses 234 = .ok (.aload_n 0, 1) := by decide +kernel
theorem dX10_parses_235 : decode cX10_parses 235 = .ok (.getfield 22, 3) := by decide +kernel
theorem dX10_parses_238 : decode cX10_parses 238 = .ok (.iload 7, 2) := by decide +kernel
theorem dX10_parses_240 : decode cX10_parses 240 = .ok (.iload 9, 2) := by decide +kernel
theorem dX10_parses_242 : decode cX10_parses 242 = .ok (.iastore, 1) := by decide +kernel
theorem dX10_parses_243 : decode cX10_parses 243 = .ok (.iinc 7 1, 3) := by decide +kernel
theorem dX10_parses_246 : decode cX10_parses 246 = .ok (.iload 8, 2) := by decide +kernel
theorem dX10_parses_248 : decode cX10_parses 248 = .ok (.iload 9, 2) := by decide +kernel
theorem dX10_parses_250 : decode cX10_parses 250 = .ok (.ifCond .le 8, 3) := by decide +kernel
theorem dX10_parses_253 : decode cX10_parses 253 = .ok (.iload 9, 2) := by decide +kernel
theorem dX10_parses_255 : decode cX10_parses 255 = .ok (.goto 4, 3) := by decide +kernel
theorem dX10_parses_258 : decode cX10_parses 258 = .ok (.iconst 1, 1) := by decide +kernel
theorem dX10_parses_259 : decode cX10_parses 259 = .ok (.iadd, 1) := by decide +kernel
theorem dX10_parses_260 : decode cX10_parses 260 = .ok (.istore 8, 2) := by decide +kernel
theorem dX10_parses_262 : decode cX10_parses 262 = .ok (.goto (-124), 3) := by decide +kernel
theorem dX10_parses_265 : decode cX10_parses 265 = .ok (.iload 7, 2) := by decide +kernel
theorem dX10_parses_267 : decode cX10_parses 267 = .ok (.aload_n 0, 1) := by decide +kernel
theorem dX10_parses_268 : decode cX10_parses 268 = .ok (.getfield 7, 3) := by decide +kernel
theorem dX10_parses_271 : decode cX10_parses 271 = .ok (.iload_n 2, 1) := by decide +kernel
theorem dX10_parses_272 : decode cX10_parses 272 = .ok (.iaload, 1) := by decide +kernel
theorem dX10_parses_273 : decode cX10_parses 273 = .ok (.if_icmp .ge 8, 3) := by decide +kernel
theorem dX10_parses_276 : decode cX10_parses 276 = .ok (.iload 7, 2) := by decide +kernel
theorem dX10_parses_278 : decode cX10_parses 278 = .ok (.goto 9, 3) := by decide +kernel
theorem dX10_parses_281 : decode cX10_parses 281 = .ok (.aload_n 0, 1) := by decide +kernel
theorem dX10_parses_282 : decode cX10_parses 282 = .ok (.getfield 7, 3) := by decide +kernel
theorem dX10_parses_285 : decode cX10_parses 285 = .ok (.iload_n 2, 1) := by decide +kernel
theorem dX10_parses_286 : decode cX10_parses 286 = .ok (.iaload, 1) := by decide +kernel
theorem dX10_parses_287 : decode cX10_parses 287 = .ok (.istore 9, 2) := by decide +kernel
theorem dX10_parses_289 : decode cX10_parses 289 = .ok (.iload_n 2, 1) := by decide +kernel
theorem dX10_parses_290 : decode cX10_parses 290 = .ok (.iconst 2, 1) := by decide +kernel
theorem dX10_parses_291 : decode cX10_parses 291 = .ok (.iadd, 1) := by decide +kernel
theorem dX10_parses_292 : decode cX10_parses 292 = .ok (.i2l, 1) := by decide +kernel
theorem dX10_parses_293 : decode cX10_parses 293 = .ok (.ldc2_w 115, 3) := by decide +kernel
theorem dX10_parses_296 : decode cX10_parses 296 = .ok (.iload 9, 2) := by decide +kernel
theorem dX10_parses_298 : decode cX10_parses 298 = .ok (.i2l, 1) := by decide +kernel
theorem dX10_parses_299 : decode cX10_parses 299 = .ok (.lmul, 1) := by decide +kernel
theorem dX10_parses_300 : decode cX10_parses 300 = .ok (.invokestatic 56, 3) := by decide +kernel
theorem dX10_parses_303 : decode cX10_parses 303 = .ok (.ifCond .ne 6, 3) := by decide +kernel
theorem dX10_parses_306 : decode cX10_parses 306 = .ok (.bipush (-3), 2) := by decide +kernel
theorem dX10_parses_308 : decode cX10_parses 308 = .ok (.ireturn, 1) := by decide +kernel
theorem dX10_parses_309 : decode cX10_parses 309 = .ok (.iconst 0, 1) := by decide +kernel
theorem dX10_parses_310 : decode cX10_parses 310 = .ok (.istore 10, 2) := by decide +kernel
theorem dX10_parses_312 : decode cX10_parses 312 = .ok (.iload 10, 2) := by decide +kernel
theorem dX10_parses_314 : decode cX10_parses 314 = .ok (.iload 9, 2) := by decide +kernel
theorem dX10_parses_316 : decode cX10_parses 316 = .ok (.if_icmp .ge 34, 3) := by decide +kernel
theorem dX10_parses_319 : decode cX10_parses 319 = .ok (.aload_n 0, 1) := by decide +kernel
theorem dX10_parses_320 : decode cX10_parses 320 = .ok (.getfield 25, 3) := by decide +kernel
theorem dX10_parses_323 : decode cX10_parses 323 = .ok (.iload 10, 2) := by decide +kernel
theorem dX10_parses_325 : decode cX10_parses 325 = .ok (.aload_n 0, 1) := by decide +kernel
theorem dX10_parses_326 : decode cX10_parses 326 = .ok (.aload_n 0, 1) := by decide +kernel
theorem dX10_parses_327 : decode cX10_parses 327 = .ok (.getfield 19, 3) := by decide +kernel
theorem dX10_parses_330 : decode cX10_parses 330 = .ok (.iload 10, 2) := by decide +kernel
theorem dX10_parses_332 : decode cX10_parses 332 = .ok (.iaload, 1) := by decide +kernel
theorem dX10_parses_333 : decode cX10_parses 333 = .ok (.aload_n 0, 1) := by decide +kernel
theorem dX10_parses_334 : decode cX10_parses 334 = .ok (.getfield 22, 3) := by decide +kernel
theorem dX10_parses_337 : decode cX10_parses 337 = .ok (.iload 10, 2) := by decide +kernel
theorem dX10_parses_339 : decode cX10_parses 339 = .ok (.iaload, 1) := by decide +kernel
theorem dX10_parses_340 : decode cX10_parses 340 = .ok (.invokevirtual 105, 3) := by decide +kernel
theorem dX10_parses_343 : decode cX10_parses 343 = .ok (.iastore, 1) := by decide +kernel
theorem dX10_parses_344 : decode cX10_parses 344 = .ok (.iinc 10 1, 3) := by decide +kernel
theorem dX10_parses_347 : decode cX10_parses 347 = .ok (.goto (-35), 3) := by decide +kernel
theorem dX10_parses_350 : decode cX10_parses 350 = .ok (.aload_n 0, 1) := by decide +kernel
theorem dX10_parses_351 : decode cX10_parses 351 = .ok (.getfield 7, 3) := by decide +kernel
theorem dX10_parses_354 : decode cX10_parses 354 = .ok (.iload_n 2, 1) := by decide +kernel
theorem dX10_parses_355 : decode cX10_parses 355 = .ok (.iconst 1, 1) := by decide +kernel
theorem dX10_parses_356 : decode cX10_parses 356 = .ok (.iadd, 1) := by decide +kernel
theorem dX10_parses_357 : decode cX10_parses 357 = .ok (.iload 9, 2) := by decide +kernel
theorem dX10_parses_359 : decode cX10_parses 359 = .ok (.iastore, 1) := by decide +kernel
theorem dX10_parses_360 : decode cX10_parses 360 = .ok (.iconst 0, 1) := by decide +kernel
theorem dX10_parses_361 : decode cX10_parses 361 = .ok (.istore 10, 2) := by decide +kernel
theorem dX10_parses_363 : decode cX10_parses 363 = .ok (.iload 10, 2) := by decide +kernel
theorem dX10_parses_365 : decode cX10_parses 365 = .ok (.iload 9, 2) := by decide +kernel
theorem dX10_parses_367 : decode cX10_parses 367 = .ok (.if_icmp .ge 113, 3) := by decide +kernel
theorem dX10_parses_370 : decode cX10_parses 370 = .ok (.iload 4, 2) := by decide +kernel
theorem dX10_parses_372 : decode cX10_parses 372 = .ok (.ifCond .eq 13, 3) := by decide +kernel
theorem dX10_parses_375 : decode cX10_parses 375 = .ok (.aload_n 0, 1) := by decide +kernel
theorem dX10_parses_376 : decode cX10_parses 376 = .ok (.getfield 25, 3) := by decide +kernel
theorem dX10_parses_379 : decode cX10_parses 379 = .ok (.iload 10, 2) := by decide +kernel
theorem dX10_parses_381 : decode cX10_parses 381 = .ok (.iaload, 1) := by decide +kernel
theorem dX10_parses_382 : decode cX10_parses 382 = .ok (.ifCond .le 92, 3) := by decide +kernel
theorem dX10_parses_385 : decode cX10_parses 385 = .ok (.iload_n 2, 1) := by decide +kernel
theorem dX10_parses_386 : decode cX10_parses 386 = .ok (.iconst 2, 1) := by decide +kernel
theorem dX10_parses_387 : decode cX10_parses 387 = .ok (.iadd, 1) := by decide +kernel
theorem dX10_parses_388 : decode cX10_parses 388 = .ok (.iconst 4, 1) := by decide +kernel
theorem dX10_parses_389 : decode cX10_parses 389 = .ok (.iload 10, 2) := by decide +kernel
theorem dX10_parses_391 : decode cX10_parses 391 = .ok (.imul, 1) := by decide +kernel
theorem dX10_parses_392 : decode cX10_parses 392 = .ok (.iadd, 1) := by decide +kernel
theorem dX10_parses_393 : decode cX10_parses 393 = .ok (.istore 11, 2) := by decide +kernel
theorem dX10_parses_395 : decode cX10_parses 395 = .ok (.aload_n 0, 1) := by decide +kernel
theorem dX10_parses_396 : decode cX10_parses 396 = .ok (.getfield 7, 3) := by decide +kernel
theorem dX10_parses_399 : decode cX10_parses 399 = .ok (.iload 11, 2) := by decide +kernel
theorem dX10_parses_401 : decode cX10_parses 401 = .ok (.aload_n 0, 1) := by decide +kernel
theorem dX10_parses_402 : decode cX10_parses 402 = .ok (.getfield 25, 3) := by decide +kernel
theorem dX10_parses_405 : decode cX10_parses 405 = .ok (.iload 10, 2) := by decide +kernel
theorem dX10_parses_407 : decode cX10_parses 407 = .ok (.iaload, 1) := by decide +kernel
theorem dX10_parses_408 : decode cX10_parses 408 = .ok (.bipush 8, 2) := by decide +kernel
theorem dX10_parses_410 : decode cX10_parses 410 = .ok (.ishr, 1) := by decide +kernel
theorem dX10_parses_411 : decode cX10_parses 411 = .ok (.iastore, 1) := by decide +kernel
theorem dX10_parses_412 : decode cX10_parses 412 = .ok (.aload_n 0, 1) := by decide +kernel
theorem dX10_parses_413 : decode cX10_parses 413 = .ok (.getfield 7, 3) := by decide +kernel
theorem dX10_parses_416 : decode cX10_parses 416 = .ok (.iload 11, 2) := by decide +kernel
theorem dX10_parses_418 : decode cX10_parses 418 = .ok (.iconst 1, 1) := by decide +kernel
theorem dX10_parses_419 : decode cX10_parses 419 = .ok (.iadd, 1) := by decide +kernel
theorem dX10_parses_420 : decode cX10_parses 420 = .ok (.aload_n 0, 1) := by decide +kernel
theorem dX10_parses_421 : decode cX10_parses 421 = .ok (.getfield 25, 3) := by decide +kernel
theorem dX10_parses_424 : decode cX10_parses 424 = .ok (.iload 10, 2) := by decide +kernel
theorem dX10_parses_426 : decode cX10_parses 426 = .ok (.iaload, 1) := by decide +kernel
theorem dX10_parses_427 : decode cX10_parses 427 = .ok (.sipush 255, 3) := by decide +kernel
theorem dX10_parses_430 : decode cX10_parses 430 = .ok (.iand, 1) := by decide +kernel
theorem dX10_parses_431 : decode cX10_parses 431 = .ok (.iastore, 1) := by decide +kernel
theorem dX10_parses_432 : decode cX10_parses 432 = .ok (.aload_n 0, 1) := by decide +kernel
theorem dX10_parses_433 : decode cX10_parses 433 = .ok (.getfield 7, 3) := by decide +kernel
theorem dX10_parses_436 : decode cX10_parses 436 = .ok (.iload 11, 2) := by decide +kernel
theorem dX10_parses_438 : decode cX10_parses 438 = .ok (.iconst 2, 1) := by decide +kernel
theorem dX10_parses_439 : decode cX10_parses 439 = .ok (.iadd, 1) := by decide +kernel
theorem dX10_parses_440 : decode cX10_parses 440 = .ok (.aload_n 0, 1) := by decide +kernel
theorem dX10_parses_441 : decode cX10_parses 441 = .ok (.getfield 22, 3) := by decide +kernel
theorem dX10_parses_444 : decode cX10_parses 444 = .ok (.iload 10, 2) := by decide +kernel
theorem dX10_parses_446 : decode cX10_parses 446 = .ok (.iaload, 1) := by decide +kernel
theorem dX10_parses_447 : decode cX10_parses 447 = .ok (.sipush 255, 3) := by decide +kernel
theorem dX10_parses_450 : decode cX10_parses 450 = .ok (.iand, 1) := by decide +kernel
theorem dX10_parses_451 : decode cX10_parses 451 = .ok (.iastore, 1) := by decide +kernel
theorem dX10_parses_452 : decode cX10_parses 452 = .ok (.aload_n 0, 1) := by decide +kernel
theorem dX10_parses_453 : decode cX10_parses 453 = .ok (.getfield 7, 3) := by decide +kernel
theorem dX10_parses_456 : decode cX10_parses 456 = .ok (.iload 11, 2) := by decide +kernel
theorem dX10_parses_458 : decode cX10_parses 458 = .ok (.iconst 3, 1) := by decide +kernel
theorem dX10_parses_459 : decode cX10_parses 459 = .ok (.iadd, 1) := by decide +kernel
theorem dX10_parses_460 : decode cX10_parses 460 = .ok (.aload_n 0, 1) := by decide +kernel
theorem dX10_parses_461 : decode cX10_parses 461 = .ok (.getfield 19, 3) := by decide +kernel
theorem dX10_parses_464 : decode cX10_parses 464 = .ok (.iload 10, 2) := by decide +kernel
theorem dX10_parses_466 : decode cX10_parses 466 = .ok (.iaload, 1) := by decide +kernel
theorem dX10_parses_467 : decode cX10_parses 467 = .ok (.iload_n 1, 1) := by decide +kernel
theorem dX10_parses_468 : decode cX10_parses 468 = .ok (.isub, 1) := by decide +kernel
theorem dX10_parses_469 : decode cX10_parses 469 = .ok (.sipush 255, 3) := by decide +kernel
theorem dX10_parses_472 : decode cX10_parses 472 = .ok (.iand, 1) := by decide +kernel
theorem dX10_parses_473 : decode cX10_parses 473 = .ok (.iastore, 1) := by decide +kernel
theorem dX10_parses_474 : decode cX10_parses 474 = .ok (.iinc 10 1, 3) := by decide +kernel
theorem dX10_parses_477 : decode cX10_parses 477 = .ok (.goto (-114), 3) := by decide +kernel
theorem dX10_parses_480 : decode cX10_parses 480 = .ok (.iload 7, 2) := by decide +kernel
theorem dX10_parses_482 : decode cX10_parses 482 = .ok (.ireturn, 1) := by decide +kernel
set_option maxRecDepth 100000 in
theorem ggX10_parse_X10_in : GoodIn wsX10_parse wsX10_in := goodIn_r _ [4] rfl (by decide +kernel)
set_option maxRecDepth 100000 in
theorem gX10_parse_X10_in : GoodIn wsX10_parse (va_wsS RX10 47 yX10_in wsX10_in) := goodIn_app (goodIn_of _ (by decide +kernel)) ggX10_parse_X10_in
set_option maxRecDepth 100000 in
theorem ggX10_parse_X10_parses : GoodIn wsX10_parse wsX10_parses := goodIn_r _ [8, 9, 10, 11, 12, 13, 14, 15, 16, 17, 3, 18, 19, 20, 21, 22, 23, 24, 25, 26, 27, 28, 29, 30, 31, 32, 33, 34, 35, 36, 37, 38, 39, 40, 41, 42, 43, 44, 45, 46, 47, 48, 49, 50, 51, 52, 53, 54, 55, 1, 2, 4, 56, 57, 58, 59, 60, 61, 62, 63, 64, 65, 66, 67, 68, 69, 70, 71, 72, 73, 74, 75, 76, 77, 78, 79, 80, 81, 82, 83, 84, 85, 86, 87, 88, 89, 90, 91, 92] rfl (by decide +kernel)
set_option maxRecDepth 100000 in
theorem gX10_parse_X10_parses : GoodIn wsX10_parse (wsV RX10 117 RX10 yX10_parses wsX10_parses) := goodIn_app (goodIn_of _ (by decide +kernel)) ggX10_parse_X10_parses
theorem dX10_parse_0 : decode cX10_parse 0 = .ok (.iload_n 1, 1) := by decide +kernel
theorem dX10_parse_1 : decode cX10_parse 1 = .ok (.iconst 0, 1) := by decide +kernel
theorem dX10_parse_2 : decode cX10_parse 2 = .ok (.sipush 4000, 3) := by decide +kernel
theorem dX10_parse_5 : decode cX10_parse 5 = .ok (.invokestatic 47, 3) := by decide +kernel
theorem dX10_parse_8 : decode cX10_parse 8 = .ok (.ifCond .eq 25, 3) := by decide +kernel
theorem dX10_parse_11 : decode cX10_parse 11 = .ok (.iload_n 2, 1) := by decide +kernel
theorem dX10_parse_12 : decode cX10_parse 12 = .ok (.iconst 0, 1) := by decide +kernel
theorem dX10_parse_13 : decode cX10_parse 13 = .ok (.sipush 4000, 3) := by decide +kernel
theorem dX10_parse_16 : decode cX10_parse 16 = .ok (.invokestatic 47, 3) := by decide +kernel
theorem dX10_parse_19 : decode cX10_parse 19 = .ok (.ifCond .eq 14, 3) := by decide +kernel
theorem dX10_parse_22 : decode cX10_parse 22 = .ok (.iload_n 3, 1) := by decide +kernel
theorem dX10_parse_23 : decode cX10_parse 23 = .ok (.iconst 0, 1) := by decide +kernel
theorem dX10_parse_24 : decode cX10_parse 24 = .ok (.sipush 4000, 3) := by decide +kernel
theorem dX10_parse_27 : decode cX10_parse 27 = .ok (.invokestatic 47, 3) := by decide +kernel
theorem dX10_parse_30 : decode cX10_parse 30 = .ok (.ifCond .ne 6, 3) := by decide +kernel
theorem dX10_parse_33 : decode cX10_parse 33 = .ok (.bipush (-2), 2) := by decide +kernel
theorem dX10_parse_35 : decode cX10_parse 35 = .ok (.ireturn, 1) := by decide +kernel
theorem dX10_parse_36 : decode cX10_parse 36 = .ok (.aload_n 0, 1) := by decide +kernel
theorem dX10_parse_37 : decode cX10_parse 37 = .ok (.iload_n 1, 1) := by decide +kernel
theorem dX10_parse_38 : decode cX10_parse 38 = .ok (.iload_n 2, 1) := by decide +kernel
theorem dX10_parse_39 : decode cX10_parse 39 = .ok (.iload_n 3, 1) := by decide +kernel
theorem dX10_parse_40 : decode cX10_parse 40 = .ok (.iload 4, 2) := by decide +kernel
theorem dX10_parse_42 : decode cX10_parse 42 = .ok (.invokevirtual 117, 3) := by decide +kernel
theorem dX10_parse_45 : decode cX10_parse 45 = .ok (.ireturn, 1) := by decide +kernel
set_option maxRecDepth 100000 in
theorem ggX10_begin_X10_in : GoodIn wsX10_begin wsX10_in := goodIn_r _ [16] rfl (by decide +kernel)
set_option maxRecDepth 100000 in
theorem gX10_begin_X10_in : GoodIn wsX10_begin (va_wsS RX10 47 yX10_in wsX10_in) := goodIn_app (goodIn_of _ (by decide +kernel)) ggX10_begin_X10_in
set_option maxRecDepth 100000 in
theorem ggX10_begin_X10_within : GoodIn wsX10_begin wsX10_within := goodIn_r _ [19, 20] rfl (by decide +kernel)
set_option maxRecDepth 100000 in
theorem gX10_begin_X10_within : GoodIn wsX10_begin (va_wsS RX10 56 yX10_within wsX10_within) := goodIn_app (goodIn_of _ (by decide +kernel)) ggX10_begin_X10_within
theorem dX10_begin_0 : decode cX10_begin 0 = .ok (.aload_n 0, 1) := by decide +kernel
theorem dX10_begin_1 : decode cX10_begin 1 = .ok (.getfield 121, 3) := by decide +kernel
theorem dX10_begin_4 : decode cX10_begin 4 = .ok (.ifCond .eq 5, 3) := by decide +kernel
theorem dX10_begin_7 : decode cX10_begin 7 = .ok (.iconst (-1), 1) := by decide +kernel
theorem dX10_begin_8 : decode cX10_begin 8 = .ok (.ireturn, 1) := by decide +kernel
theorem dX10_begin_9 : decode cX10_begin 9 = .ok (.iload_n 1, 1) := by decide +kernel
theorem dX10_begin_10 : decode cX10_begin 10 = .ok (.iconst 1, 1) := by decide +kernel
theorem dX10_begin_11 : decode cX10_begin 11 = .ok (.sipush 4000, 3) := by decide +kernel
theorem dX10_begin_14 : decode cX10_begin 14 = .ok (.invokestatic 47, 3) := by decide +kernel
theorem dX10_begin_17 : decode cX10_begin 17 = .ok (.ifCond .eq 14, 3) := by decide +kernel
theorem dX10_begin_20 : decode cX10_begin 20 = .ok (.iload_n 2, 1) := by decide +kernel
theorem dX10_begin_21 : decode cX10_begin 21 = .ok (.iconst 0, 1) := by decide +kernel
theorem dX10_begin_22 : decode cX10_begin 22 = .ok (.sipush 4000, 3) := by decide +kernel
theorem dX10_begin_25 : decode cX10_begin 25 = .ok (.invokestatic 47, 3) := by decide +kernel
theorem dX10_begin_28 : decode cX10_begin 28 = .ok (.ifCond .ne 6, 3) := by decide +kernel
theorem dX10_begin_31 : decode cX10_begin 31 = .ok (.bipush (-2), 2) := by decide +kernel
theorem dX10_begin_33 : decode cX10_begin 33 = .ok (.ireturn, 1) := by decide +kernel
theorem dX10_begin_34 : decode cX10_begin 34 = .ok (.aload_n 0, 1) := by decide +kernel
theorem dX10_begin_35 : decode cX10_begin 35 = .ok (.getfield 7, 3) := by decide +kernel
theorem dX10_begin_38 : decode cX10_begin 38 = .ok (.iload_n 1, 1) := by decide +kernel
theorem dX10_begin_39 : decode cX10_begin 39 = .ok (.iaload, 1) := by decide +kernel
theorem dX10_begin_40 : decode cX10_begin 40 = .ok (.istore_n 3, 1) := by decide +kernel
theorem dX10_begin_41 : decode cX10_begin 41 = .ok (.aload_n 0, 1) := by decide +kernel
theorem dX10_begin_42 : decode cX10_begin 42 = .ok (.getfield 51, 3) := by decide +kernel
theorem dX10_begin_45 : decode cX10_begin 45 = .ok (.iconst 4, 1) := by decide +kernel
theorem dX10_begin_46 : decode cX10_begin 46 = .ok (.if_icmp .le 18, 3) := by decide +kernel
theorem dX10_begin_49 : decode cX10_begin 49 = .ok (.aload_n 0, 1) := by decide +kernel
theorem dX10_begin_50 : decode cX10_begin 50 = .ok (.getfield 7, 3) := by decide +kernel
theorem dX10_begin_53 : decode cX10_begin 53 = .ok (.iload_n 1, 1) := by decide +kernel
theorem dX10_begin_54 : decode cX10_begin 54 = .ok (.iconst 1, 1) := by decide +kernel
theorem dX10_begin_55 : decode cX10_begin 55 = .ok (.iadd, 1) := by decide +kernel
theorem dX10_begin_56 : decode cX10_begin 56 = .ok (.iaload, 1) := by decide +kernel
theorem dX10_begin_57 : decode cX10_begin 57 = .ok (.iload_n 3, 1) := by decide +kernel
theorem dX10_begin_58 : decode cX10_begin 58 = .ok (.if_icmp .le 6, 3) := by decide +kernel
theorem dX10_begin_61 : decode cX10_begin 61 = .ok (.bipush (-2), 2) := by decide +kernel
theorem dX10_begin_63 : decode cX10_begin 63 = .ok (.ireturn, 1) := by decide +kernel
theorem dX10_begin_64 : decode cX10_begin 64 = .ok (.aload_n 0, 1) := by decide +kernel
theorem dX10_begin_65 : decode cX10_begin 65 = .ok (.getfield 51, 3) := by decide +kernel
theorem dX10_begin_68 : decode cX10_begin 68 = .ok (.iconst 4, 1) := by decide +kernel
theorem dX10_begin_69 : decode cX10_begin 69 = .ok (.if_icmp .le 7, 3) := by decide +kernel
theorem dX10_begin_72 : decode cX10_begin 72 = .ok (.iload_n 3, 1) := by decide +kernel
theorem dX10_begin_73 : decode cX10_begin 73 = .ok (.goto 14, 3) := by decide +kernel
theorem dX10_begin_76 : decode cX10_begin 76 = .ok (.iload_n 3, 1) := by decide +kernel
theorem dX10_begin_77 : decode cX10_begin 77 = .ok (.ifCond .le 9, 3) := by decide +kernel
theorem dX10_begin_80 : decode cX10_begin 80 = .ok (.iload_n 3, 1) := by decide +kernel
theorem dX10_begin_81 : decode cX10_begin 81 = .ok (.iconst 1, 1) := by decide +kernel
theorem dX10_begin_82 : decode cX10_begin 82 = .ok (.isub, 1) := by decide +kernel
theorem dX10_begin_83 : decode cX10_begin 83 = .ok (.goto 4, 3) := by decide +kernel
theorem dX10_begin_86 : decode cX10_begin 86 = .ok (.iconst 0, 1) := by decide +kernel
theorem dX10_begin_87 : decode cX10_begin 87 = .ok (.istore 4, 2) := by decide +kernel
theorem dX10_begin_89 : decode cX10_begin 89 = .ok (.iload_n 1, 1) := by decide +kernel
theorem dX10_begin_90 : decode cX10_begin 90 = .ok (.iconst 1, 1) := by decide +kernel
theorem dX10_begin_91 : decode cX10_begin 91 = .ok (.iadd, 1) := by decide +kernel
theorem dX10_begin_92 : decode cX10_begin 92 = .ok (.i2l, 1) := by decide +kernel
theorem dX10_begin_93 : decode cX10_begin 93 = .ok (.iload 4, 2) := by decide +kernel
theorem dX10_begin_95 : decode cX10_begin 95 = .ok (.i2l, 1) := by decide +kernel
theorem dX10_begin_96 : decode cX10_begin 96 = .ok (.lconst 1, 1) := by decide +kernel
theorem dX10_begin_97 : decode cX10_begin 97 = .ok (.ladd, 1) := by decide +kernel
theorem dX10_begin_98 : decode cX10_begin 98 = .ok (.invokestatic 56, 3) := by decide +kernel
theorem dX10_begin_101 : decode cX10_begin 101 = .ok (.ifCond .ne 6, 3) := by decide +kernel
theorem dX10_begin_104 : decode cX10_begin 104 = .ok (.bipush (-3), 2) := by decide +kernel
theorem dX10_begin_106 : decode cX10_begin 106 = .ok (.ireturn, 1) := by decide +kernel
theorem dX10_begin_107 : decode cX10_begin 107 = .ok (.aload_n 0, 1) := by decide +kernel
theorem dX10_begin_108 : decode cX10_begin 108 = .ok (.iconst 1, 1) := by decide +kernel
theorem dX10_begin_109 : decode cX10_begin 109 = .ok (.putfield 121, 3) := by decide +kernel
theorem dX10_begin_112 : decode cX10_begin 112 = .ok (.aload_n 0, 1) := by decide +kernel
theorem dX10_begin_113 : decode cX10_begin 113 = .ok (.iload_n 1, 1) := by decide +kernel
theorem dX10_begin_114 : decode cX10_begin 114 = .ok (.putfield 125, 3) := by decide +kernel
theorem dX10_begin_117 : decode cX10_begin 117 = .ok (.aload_n 0, 1) := by decide +kernel
theorem dX10_begin_118 : decode cX10_begin 118 = .ok (.iload_n 2, 1) := by decide +kernel
theorem dX10_begin_119 : decode cX10_begin 119 = .ok (.putfield 128, 3) := by decide +kernel
theorem dX10_begin_122 : decode cX10_begin 122 = .ok (.aload_n 0, 1) := by decide +kernel
theorem dX10_begin_123 : decode cX10_begin 123 = .ok (.iload 4, 2) := by decide +kernel
theorem dX10_begin_125 : decode cX10_begin 125 = .ok (.putfield 131, 3) := by decide +kernel
theorem dX10_begin_128 : decode cX10_begin 128 = .ok (.aload_n 0, 1) := by decide +kernel
theorem dX10_begin_129 : decode cX10_begin 129 = .ok (.aload_n 0, 1) := by decide +kernel
theorem dX10_begin_130 : decode cX10_begin 130 = .ok (.getfield 51, 3) := by decide +kernel
theorem dX10_begin_133 : decode cX10_begin 133 = .ok (.iconst 4, 1) := by decide +kernel
theorem dX10_begin_134 : decode cX10_begin 134 = .ok (.if_icmp .le 14, 3) := by decide +kernel
theorem dX10_begin_137 : decode cX10_begin 137 = .ok (.aload_n 0, 1) := by decide +kernel
theorem dX10_begin_138 : decode cX10_begin 138 = .ok (.getfield 7, 3) := by decide +kernel
theorem dX10_begin_141 : decode cX10_begin 141 = .ok (.iload_n 1, 1) := by decide +kernel
theorem dX10_begin_142 : decode cX10_begin 142 = .ok (.iconst 1, 1) := by decide +kernel
theorem dX10_begin_143 : decode cX10_begin 143 = .ok (.iadd, 1) := by decide +kernel
theorem dX10_begin_144 : decode cX10_begin 144 = .ok (.iaload, 1) := by decide +kernel
theorem dX10_begin_145 : decode cX10_begin 145 = .ok (.goto 4, 3) := by decide +kernel
theorem dX10_begin_148 : decode cX10_begin 148 = .ok (.iconst 0, 1) := by decide +kernel
theorem dX10_begin_149 : decode cX10_begin 149 = .ok (.putfield 134, 3) := by decide +kernel
theorem dX10_begin_152 : decode cX10_begin 152 = .ok (.iconst 0, 1) := by decide +kernel
theorem dX10_begin_153 : decode cX10_begin 153 = .ok (.istore 5, 2) := by decide +kernel
theorem dX10_begin_155 : decode cX10_begin 155 = .ok (.iload 5, 2) := by decide +kernel
theorem dX10_begin_157 : decode cX10_begin 157 = .ok (.aload_n 0, 1) := by decide +kernel
theorem dX10_begin_158 : decode cX10_begin 158 = .ok (.getfield 134, 3) := by decide +kernel
theorem dX10_begin_161 : decode cX10_begin 161 = .ok (.if_icmp .ge 27, 3) := by decide +kernel
theorem dX10_begin_164 : decode cX10_begin 164 = .ok (.aload_n 0, 1) := by decide +kernel
theorem dX10_begin_165 : decode cX10_begin 165 = .ok (.getfield 28, 3) := by decide +kernel
theorem dX10_begin_168 : decode cX10_begin 168 = .ok (.iload 5, 2) := by decide +kernel
theorem dX10_begin_170 : decode cX10_begin 170 = .ok (.aload_n 0, 1) := by decide +kernel
theorem dX10_begin_171 : decode cX10_begin 171 = .ok (.getfield 7, 3) := by decide +kernel
theorem dX10_begin_174 : decode cX10_begin 174 = .ok (.iload_n 1, 1) := by decide +kernel
theorem dX10_begin_175 : decode cX10_begin 175 = .ok (.iconst 2, 1) := by decide +kernel
theorem dX10_begin_176 : decode cX10_begin 176 = .ok (.iadd, 1) := by decide +kernel
theorem dX10_begin_177 : decode cX10_begin 177 = .ok (.iload 5, 2) := by decide +kernel
theorem dX10_begin_179 : decode cX10_begin 179 = .ok (.iadd, 1) := by decide +kernel
theorem dX10_begin_180 : decode cX10_begin 180 = .ok (.iaload, 1) := by decide +kernel
theorem dX10_begin_181 : decode cX10_begin 181 = .ok (.iastore, 1) := by decide +kernel
theorem dX10_begin_182 : decode cX10_begin 182 = .ok (.iinc 5 1, 3) := by decide +kernel
theorem dX10_begin_185 : decode cX10_begin 185 = .ok (.goto (-30), 3) := by decide +kernel
theorem dX10_begin_188 : decode cX10_begin 188 = .ok (.aload_n 0, 1) := by decide +kernel
theorem dX10_begin_189 : decode cX10_begin 189 = .ok (.iconst (-1), 1) := by decide +kernel
theorem dX10_begin_190 : decode cX10_begin 190 = .ok (.putfield 137, 3) := by decide +kernel
theorem dX10_begin_193 : decode cX10_begin 193 = .ok (.aload_n 0, 1) := by decide +kernel
theorem dX10_begin_194 : decode cX10_begin 194 = .ok (.iconst 0, 1) := by decide +kernel
theorem dX10_begin_195 : decode cX10_begin 195 = .ok (.putfield 140, 3) := by decide +kernel
theorem dX10_begin_198 : decode cX10_begin 198 = .ok (.aload_n 0, 1) := by decide +kernel
theorem dX10_begin_199 : decode cX10_begin 199 = .ok (.iconst 0, 1) := by decide +kernel
theorem dX10_begin_200 : decode cX10_begin 200 = .ok (.putfield 143, 3) := by decide +kernel
theorem dX10_begin_203 : decode cX10_begin 203 = .ok (.aload_n 0, 1) := by decide +kernel
theorem dX10_begin_204 : decode cX10_begin 204 = .ok (.iconst 0, 1) := by decide +kernel
theorem dX10_begin_205 : decode cX10_begin 205 = .ok (.putfield 146, 3) := by decide +kernel
theorem dX10_begin_208 : decode cX10_begin 208 = .ok (.aload_n 0, 1) := by decide +kernel
theorem dX10_begin_209 : decode cX10_begin 209 = .ok (.getfield 131, 3) := by decide +kernel
theorem dX10_begin_212 : decode cX10_begin 212 = .ok (.ireturn, 1) := by decide +kernel
set_option maxRecDepth 100000 in
theorem ggX10_isEnding_X10_in : GoodIn wsX10_isEnding wsX10_in := goodIn_r _ [7] rfl (by decide +kernel)
set_option maxRecDepth 100000 in
theorem gX10_isEnding_X10_in : GoodIn wsX10_isEnding (va_wsS RX10 47 yX10_in wsX10_in) := goodIn_app (goodIn_of _ (by decide +kernel)) ggX10_isEnding_X10_in
theorem dX10_isEnding_0 : decode cX10_isEnding 0 = .ok (.iload_n 1, 1) := by decide +kernel
theorem dX10_isEnding_1 : decode cX10_isEnding 1 = .ok (.bipush 13, 2) := by decide +kernel
theorem dX10_isEnding_3 : decode cX10_isEnding 3 = .ok (.if_icmp .ne 5, 3) := by decide +kernel
theorem dX10_isEnding_6 : decode cX10_isEnding 6 = .ok (.iconst 1, 1) := by decide +kernel
theorem dX10_isEnding_7 : decode cX10_isEnding 7 = .ok (.ireturn, 1) := by decide +kernel
theorem dX10_isEnding_8 : decode cX10_isEnding 8 = .ok (.aload_n 0, 1) := by decide +kernel
theorem dX10_isEnding_9 : decode cX10_isEnding 9 = .ok (.getfield 51, 3) := by decide +kernel
theorem dX10_isEnding_12 : decode cX10_isEnding 12 = .ok (.iconst 5, 1) := by decide +kernel
theorem dX10_isEnding_13 : decode cX10_isEnding 13 = .ok (.if_icmp .lt 36, 3) := by decide +kernel
theorem dX10_isEnding_16 : decode cX10_isEnding 16 = .ok (.aload_n 0, 1) := by decide +kernel
theorem dX10_isEnding_17 : decode cX10_isEnding 17 = .ok (.getfield 88, 3) := by decide +kernel
theorem dX10_isEnding_20 : decode cX10_isEnding 20 = .ok (.ifCond .eq 29, 3) := by decide +kernel
theorem dX10_isEnding_23 : decode cX10_isEnding 23 = .ok (.iload_n 1, 1) := by decide +kernel
theorem dX10_isEnding_24 : decode cX10_isEnding 24 = .ok (.sipush 129, 3) := by decide +kernel
theorem dX10_isEnding_27 : decode cX10_isEnding 27 = .ok (.sipush 154, 3) := by decide +kernel
theorem dX10_isEnding_30 : decode cX10_isEnding 30 = .ok (.invokestatic 47, 3) := by decide +kernel
theorem dX10_isEnding_33 : decode cX10_isEnding 33 = .ok (.ifCond .ne 18, 3) := by decide +kernel
theorem dX10_isEnding_36 : decode cX10_isEnding 36 = .ok (.iload_n 1, 1) := by decide +kernel
theorem dX10_isEnding_37 : decode cX10_isEnding 37 = .ok (.sipush 252, 3) := by decide +kernel
theorem dX10_isEnding_40 : decode cX10_isEnding 40 = .ok (.sipush 254, 3) := by decide +kernel
theorem dX10_isEnding_43 : decode cX10_isEnding 43 = .ok (.invokestatic 47, 3) := by decide +kernel
theorem dX10_isEnding_46 : decode cX10_isEnding 46 = .ok (.ifCond .ne 5, 3) := by decide +kernel
theorem dX10_isEnding_49 : decode cX10_isEnding 49 = .ok (.iconst 0, 1) := by decide +kernel
theorem dX10_isEnding_50 : decode cX10_isEnding 50 = .ok (.ireturn, 1) := by decide +kernel
theorem dX10_isEnding_51 : decode cX10_isEnding 51 = .ok (.iconst 0, 1) := by decide +kernel
theorem dX10_isEnding_52 : decode cX10_isEnding 52 = .ok (.istore_n 2, 1) := by decide +kernel
theorem dX10_isEnding_53 : decode cX10_isEnding 53 = .ok (.aload_n 0, 1) := by decide +kernel
theorem dX10_isEnding_54 : decode cX10_isEnding 54 = .ok (.getfield 88, 3) := by decide +kernel
theorem dX10_isEnding_57 : decode cX10_isEnding 57 = .ok (.istore_n 3, 1) := by decide +kernel
theorem dX10_isEnding_58 : decode cX10_isEnding 58 = .ok (.iload_n 3, 1) := by decide +kernel
theorem dX10_isEnding_59 : decode cX10_isEnding 59 = .ok (.sipush 4096, 3) := by decide +kernel
theorem dX10_isEnding_62 : decode cX10_isEnding 62 = .ok (.if_icmp .ge 50, 3) := by decide +kernel
theorem dX10_isEnding_65 : decode cX10_isEnding 65 = .ok (.aload_n 0, 1) := by decide +kernel
theorem dX10_isEnding_66 : decode cX10_isEnding 66 = .ok (.getfield 7, 3) := by decide +kernel
theorem dX10_isEnding_69 : decode cX10_isEnding 69 = .ok (.iload_n 3, 1) := by decide +kernel
theorem dX10_isEnding_70 : decode cX10_isEnding 70 = .ok (.iaload, 1) := by decide +kernel
theorem dX10_isEnding_71 : decode cX10_isEnding 71 = .ok (.ifCond .eq 41, 3) := by decide +kernel
theorem dX10_isEnding_74 : decode cX10_isEnding 74 = .ok (.iload_n 2, 1) := by decide +kernel
theorem dX10_isEnding_75 : decode cX10_isEnding 75 = .ok (.ifCond .ne 25, 3) := by decide +kernel
theorem dX10_isEnding_78 : decode cX10_isEnding 78 = .ok (.aload_n 0, 1) := by decide +kernel
theorem dX10_isEnding_79 : decode cX10_isEnding 79 = .ok (.getfield 7, 3) := by decide +kernel
theorem dX10_isEnding_82 : decode cX10_isEnding 82 = .ok (.iload_n 3, 1) := by decide +kernel
theorem dX10_isEnding_83 : decode cX10_isEnding 83 = .ok (.iaload, 1) := by decide +kernel
theorem dX10_isEnding_84 : decode cX10_isEnding 84 = .ok (.iload_n 1, 1) := by decide +kernel
theorem dX10_isEnding_85 : decode cX10_isEnding 85 = .ok (.if_icmp .eq 15, 3) := by decide +kernel
theorem dX10_isEnding_88 : decode cX10_isEnding 88 = .ok (.aload_n 0, 1) := by decide +kernel
theorem dX10_isEnding_89 : decode cX10_isEnding 89 = .ok (.getfield 7, 3) := by decide +kernel
theorem dX10_isEnding_92 : decode cX10_isEnding 92 = .ok (.iload_n 3, 1) := by decide +kernel
theorem dX10_isEnding_93 : decode cX10_isEnding 93 = .ok (.iaload, 1) := by decide +kernel
theorem dX10_isEnding_94 : decode cX10_isEnding 94 = .ok (.sipush 255, 3) := by decide +kernel
theorem dX10_isEnding_97 : decode cX10_isEnding 97 = .ok (.if_icmp .ne 7, 3) := by decide +kernel
theorem dX10_isEnding_100 : decode cX10_isEnding 100 = .ok (.iconst 1, 1) := by decide +kernel
theorem dX10_isEnding_101 : decode cX10_isEnding 101 = .ok (.goto 4, 3) := by decide +kernel
theorem dX10_isEnding_104 : decode cX10_isEnding 104 = .ok (.iconst 0, 1) := by decide +kernel
theorem dX10_isEnding_105 : decode cX10_isEnding 105 = .ok (.istore_n 2, 1) := by decide +kernel
theorem dX10_isEnding_106 : decode cX10_isEnding 106 = .ok (.iinc 3 1, 3) := by decide +kernel
theorem dX10_isEnding_109 : decode cX10_isEnding 109 = .ok (.goto (-51), 3) := by decide +kernel
theorem dX10_isEnding_112 : decode cX10_isEnding 112 = .ok (.iload_n 2, 1) := by decide +kernel
theorem dX10_isEnding_113 : decode cX10_isEnding 113 = .ok (.ireturn, 1) := by decide +kernel
theorem dX10_layDown_0 : decode cX10_layDown 0 = .ok (.aload_n 0, 1) := by decide +kernel
theorem dX10_layDown_1 : decode cX10_layDown 1 = .ok (.getfield 51, 3) := by decide +kernel
theorem dX10_layDown_4 : decode cX10_layDown 4 = .ok (.iconst 4, 1) := by decide +kernel
theorem dX10_layDown_5 : decode cX10_layDown 5 = .ok (.if_icmp .le 12, 3) := by decide +kernel
theorem dX10_layDown_8 : decode cX10_layDown 8 = .ok (.aload_n 0, 1) := by decide +kernel
theorem dX10_layDown_9 : decode cX10_layDown 9 = .ok (.getfield 125, 3) := by decide +kernel
theorem dX10_layDown_12 : decode cX10_layDown 12 = .ok (.iconst 2, 1) := by decide +kernel
theorem dX10_layDown_13 : decode cX10_layDown 13 = .ok (.iadd, 1) := by decide +kernel
theorem dX10_layDown_14 : decode cX10_layDown 14 = .ok (.goto 9, 3) := by decide +kernel
theorem dX10_layDown_17 : decode cX10_layDown 17 = .ok (.aload_n 0, 1) := by decide +kernel
theorem dX10_layDown_18 : decode cX10_layDown 18 = .ok (.getfield 125, 3) := by decide +kernel
theorem dX10_layDown_21 : decode cX10_layDown 21 = .ok (.iconst 1, 1) := by decide +kernel
theorem dX10_layDown_22 : decode cX10_layDown 22 = .ok (.iadd, 1) := by decide +kernel
theorem dX10_layDown_23 : decode cX10_layDown 23 = .ok (.istore_n 1, 1) := by decide +kernel
theorem dX10_layDown_24 : decode cX10_layDown 24 = .ok (.iconst 0, 1) := by decide +kernel
theorem dX10_layDown_25 : decode cX10_layDown 25 = .ok (.istore_n 2, 1) := by decide +kernel
theorem dX10_layDown_26 : decode cX10_layDown 26 = .ok (.iload_n 2, 1) := by decide +kernel
theorem dX10_layDown_27 : decode cX10_layDown 27 = .ok (.aload_n 0, 1) := by decide +kernel
theorem dX10_layDown_28 : decode cX10_layDown 28 = .ok (.getfield 134, 3) := by decide +kernel
theorem dX10_layDown_31 : decode cX10_layDown 31 = .ok (.if_icmp .ge 23, 3) := by decide +kernel
theorem dX10_layDown_34 : decode cX10_layDown 34 = .ok (.aload_n 0, 1) := by decide +kernel
theorem dX10_layDown_35 : decode cX10_layDown 35 = .ok (.getfield 7, 3) := by decide +kernel
theorem dX10_layDown_38 : decode cX10_layDown 38 = .ok (.iload_n 1, 1) := by decide +kernel
theorem dX10_layDown_39 : decode cX10_layDown 39 = .ok (.iload_n 2, 1) := by decide +kernel
theorem dX10_layDown_40 : decode cX10_layDown 40 = .ok (.iadd, 1) := by decide +kernel
theorem dX10_layDown_41 : decode cX10_layDown 41 = .ok (.aload_n 0, 1) := by decide +kernel
theorem dX10_layDown_42 : decode cX10_layDown 42 = .ok (.getfield 28, 3) := by decide +kernel
theorem dX10_layDown_45 : decode cX10_layDown 45 = .ok (.iload_n 2, 1) := by decide +kernel
theorem dX10_layDown_46 : decode cX10_layDown 46 = .ok (.iaload, 1) := by decide +kernel
theorem dX10_layDown_47 : decode cX10_layDown 47 = .ok (.iastore, 1) := by decide +kernel
theorem dX10_layDown_48 : decode cX10_layDown 48 = .ok (.iinc 2 1, 3) := by decide +kernel
theorem dX10_layDown_51 : decode cX10_layDown 51 = .ok (.goto (-25), 3) := by decide +kernel
theorem dX10_layDown_54 : decode cX10_layDown 54 = .ok (.aload_n 0, 1) := by decide +kernel
theorem dX10_layDown_55 : decode cX10_layDown 55 = .ok (.getfield 51, 3) := by decide +kernel
theorem dX10_layDown_58 : decode cX10_layDown 58 = .ok (.iconst 4, 1) := by decide +kernel
theorem dX10_layDown_59 : decode cX10_layDown 59 = .ok (.if_icmp .le 21, 3) := by decide +kernel
theorem dX10_layDown_62 : decode cX10_layDown 62 = .ok (.aload_n 0, 1) := by decide +kernel
theorem dX10_layDown_63 : decode cX10_layDown 63 = .ok (.getfield 7, 3) := by decide +kernel
theorem dX10_layDown_66 : decode cX10_layDown 66 = .ok (.aload_n 0, 1) := by decide +kernel
theorem dX10_layDown_67 : decode cX10_layDown 67 = .ok (.getfield 125, 3) := by decide +kernel
theorem dX10_layDown_70 : decode cX10_layDown 70 = .ok (.iconst 1, 1) := by decide +kernel
theorem dX10_layDown_71 : decode cX10_layDown 71 = .ok (.iadd, 1) := by decide +kernel
theorem dX10_layDown_72 : decode cX10_layDown 72 = .ok (.aload_n 0, 1) := by decide +kernel
theorem dX10_layDown_73 : decode cX10_layDown 73 = .ok (.getfield 134, 3) := by decide +kernel
theorem dX10_layDown_76 : decode cX10_layDown 76 = .ok (.iastore, 1) := by decide +kernel
theorem dX10_layDown_77 : decode cX10_layDown 77 = .ok (.goto 15, 3) := by decide +kernel
theorem dX10_layDown_80 : decode cX10_layDown 80 = .ok (.aload_n 0, 1) := by decide +kernel
theorem dX10_layDown_81 : decode cX10_layDown 81 = .ok (.getfield 7, 3) := by decide +kernel
theorem dX10_layDown_84 : decode cX10_layDown 84 = .ok (.iload_n 1, 1) := by decide +kernel
theorem dX10_layDown_85 : decode cX10_layDown 85 = .ok (.aload_n 0, 1) := by decide +kernel
theorem dX10_layDown_86 : decode cX10_layDown 86 = .ok (.getfield 134, 3) := by decide +kernel
theorem dX10_layDown_89 : decode cX10_layDown 89 = .ok (.iadd, 1) := by decide +kernel
theorem dX10_layDown_90 : decode cX10_layDown 90 = .ok (.iconst 0, 1) := by decide +kernel
theorem dX10_layDown_91 : decode cX10_layDown 91 = .ok (.iastore, 1) := by decide +kernel
theorem dX10_layDown_92 : decode cX10_layDown 92 = .ok (.return_, 1) := by decide +kernel
theorem dX10_echoes_0 : decode cX10_echoes 0 = .ok (.aload_n 0, 1) := by decide +kernel
theorem dX10_echoes_1 : decode cX10_echoes 1 = .ok (.getfield 41, 3) := by decide +kernel
theorem dX10_echoes_4 : decode cX10_echoes 4 = .ok (.aload_n 0, 1) := by decide +kernel
theorem dX10_echoes_5 : decode cX10_echoes 5 = .ok (.getfield 149, 3) := by decide +kernel
theorem dX10_echoes_8 : decode cX10_echoes 8 = .ok (.sipush 2000, 3) := by decide +kernel
theorem dX10_echoes_11 : decode cX10_echoes 11 = .ok (.irem, 1) := by decide +kernel
theorem dX10_echoes_12 : decode cX10_echoes 12 = .ok (.iload_n 1, 1) := by decide +kernel
theorem dX10_echoes_13 : decode cX10_echoes 13 = .ok (.iastore, 1) := by decide +kernel
theorem dX10_echoes_14 : decode cX10_echoes 14 = .ok (.aload_n 0, 1) := by decide +kernel
theorem dX10_echoes_15 : decode cX10_echoes 15 = .ok (.dup, 1) := by decide +kernel
theorem dX10_echoes_16 : decode cX10_echoes 16 = .ok (.getfield 149, 3) := by decide +kernel
theorem dX10_echoes_19 : decode cX10_echoes 19 = .ok (.iconst 1, 1) := by decide +kernel
theorem dX10_echoes_20 : decode cX10_echoes 20 = .ok (.iadd, 1) := by decide +kernel
theorem dX10_echoes_21 : decode cX10_echoes 21 = .ok (.putfield 149, 3) := by decide +kernel
theorem dX10_echoes_24 : decode cX10_echoes 24 = .ok (.return_, 1) := by decide +kernel
set_option maxRecDepth 100000 in
theorem ggX10_ends_X10_layDown : GoodIn wsX10_ends wsX10_layDown := goodIn_r _ [15, 16, 9, 1, 17, 5, 80, 81, 82, 83, 84, 85, 86, 87, 88, 89, 90, 91, 92, 93, 94, 95, 96, 97, 98, 99, 100, 101, 102, 103, 104, 105, 106, 107, 108, 109, 110, 111, 112] rfl (by decide +kernel)
set_option maxRecDepth 100000 in
theorem gX10_ends_X10_layDown : GoodIn wsX10_ends (wsV RX10 152 RX10 yX10_layDown wsX10_layDown) := goodIn_app (goodIn_of _ (by decide +kernel)) ggX10_ends_X10_layDown
set_option maxRecDepth 100000 in
theorem ggX10_ends_X10_echoes : GoodIn wsX10_ends wsX10_echoes := goodIn_r _ [21, 22, 23, 80, 81, 82, 83, 84, 85, 86, 87, 88, 89, 90, 91, 92, 93, 94, 95, 96, 97, 98, 99, 100, 101, 102, 103, 104, 105, 106, 107, 108, 109, 110, 111, 112] rfl (by decide +kernel)
set_option maxRecDepth 100000 in
theorem gX10_ends_X10_echoes : GoodIn wsX10_ends (wsV RX10 158 RX10 yX10_echoes wsX10_echoes) := goodIn_app (goodIn_of _ (by decide +kernel)) ggX10_ends_X10_echoes
set_option maxRecDepth 100000 in
theorem ggX10_ends_X10_parses : GoodIn wsX10_ends wsX10_parses := goodIn_r _ [27, 16, 17, 28, 29, 30, 31, 32, 33, 34, 14, 35, 36, 37, 38, 39, 40, 41, 42, 43, 44, 45, 46, 47, 48, 49, 50, 51, 52, 53, 54, 55, 56, 57, 58, 59, 60, 61, 62, 63, 64, 65, 66, 67, 68, 69, 70, 71, 72, 73, 74, 75, 76, 77, 78, 79, 80, 81, 82, 83, 84, 85, 86, 87, 88, 89, 90, 91, 92, 93, 94, 95, 96, 97, 98, 99, 100, 101, 102, 103, 104, 105, 106, 107, 108, 109, 110, 111, 112] rfl (by decide +kernel)
set_option maxRecDepth 100000 in
theorem gX10_ends_X10_parses : GoodIn wsX10_ends (wsV RX10 117 RX10 yX10_parses wsX10_parses) := goodIn_app (goodIn_of _ (by decide +kernel)) ggX10_ends_X10_parses
theorem dX10_ends_0 : decode cX10_ends 0 = .ok (.aload_n 0, 1) := by decide +kernel
theorem dX10_ends_1 : decode cX10_ends 1 = .ok (.invokevirtual 152, 3) := by decide +kernel
theorem dX10_ends_4 : decode cX10_ends 4 = .ok (.aload_n 0, 1) := by decide +kernel
theorem dX10_ends_5 : decode cX10_ends 5 = .ok (.getfield 134, 3) := by decide +kernel
theorem dX10_ends_8 : decode cX10_ends 8 = .ok (.ifCond .le 149, 3) := by decide +kernel
theorem dX10_ends_11 : decode cX10_ends 11 = .ok (.aload_n 0, 1) := by decide +kernel
theorem dX10_ends_12 : decode cX10_ends 12 = .ok (.getfield 155, 3) := by decide +kernel
theorem dX10_ends_15 : decode cX10_ends 15 = .ok (.bipush 8, 2) := by decide +kernel
theorem dX10_ends_17 : decode cX10_ends 17 = .ok (.if_icmp .ne 80, 3) := by decide +kernel
theorem dX10_ends_20 : decode cX10_ends 20 = .ok (.iconst 0, 1) := by decide +kernel
theorem dX10_ends_21 : decode cX10_ends 21 = .ok (.istore_n 2, 1) := by decide +kernel
theorem dX10_ends_22 : decode cX10_ends 22 = .ok (.iload_n 2, 1) := by decide +kernel
theorem dX10_ends_23 : decode cX10_ends 23 = .ok (.bipush 7, 2) := by decide +kernel
theorem dX10_ends_25 : decode cX10_ends 25 = .ok (.if_icmp .ge 66, 3) := by decide +kernel
theorem dX10_ends_28 : decode cX10_ends 28 = .ok (.aload_n 0, 1) := by decide +kernel
theorem dX10_ends_29 : decode cX10_ends 29 = .ok (.getfield 35, 3) := by decide +kernel
theorem dX10_ends_32 : decode cX10_ends 32 = .ok (.iload_n 2, 1) := by decide +kernel
theorem dX10_ends_33 : decode cX10_ends 33 = .ok (.aload_n 0, 1) := by decide +kernel
theorem dX10_ends_34 : decode cX10_ends 34 = .ok (.getfield 35, 3) := by decide +kernel
theorem dX10_ends_37 : decode cX10_ends 37 = .ok (.iload_n 2, 1) := by decide +kernel
theorem dX10_ends_38 : decode cX10_ends 38 = .ok (.iconst 1, 1) := by decide +kernel
theorem dX10_ends_39 : decode cX10_ends 39 = .ok (.iadd, 1) := by decide +kernel
theorem dX10_ends_40 : decode cX10_ends 40 = .ok (.iaload, 1) := by decide +kernel
theorem dX10_ends_41 : decode cX10_ends 41 = .ok (.iastore, 1) := by decide +kernel
theorem dX10_ends_42 : decode cX10_ends 42 = .ok (.iconst 0, 1) := by decide +kernel
theorem dX10_ends_43 : decode cX10_ends 43 = .ok (.istore_n 3, 1) := by decide +kernel
theorem dX10_ends_44 : decode cX10_ends 44 = .ok (.iload_n 3, 1) := by decide +kernel
theorem dX10_ends_45 : decode cX10_ends 45 = .ok (.sipush 256, 3) := by decide +kernel
theorem dX10_ends_48 : decode cX10_ends 48 = .ok (.if_icmp .ge 37, 3) := by decide +kernel
theorem dX10_ends_51 : decode cX10_ends 51 = .ok (.aload_n 0, 1) := by decide +kernel
theorem dX10_ends_52 : decode cX10_ends 52 = .ok (.getfield 38, 3) := by decide +kernel
theorem dX10_ends_55 : decode cX10_ends 55 = .ok (.sipush 256, 3) := by decide +kernel
theorem dX10_ends_58 : decode cX10_ends 58 = .ok (.iload_n 2, 1) := by decide +kernel
theorem dX10_ends_59 : decode cX10_ends 59 = .ok (.imul, 1) := by decide +kernel
theorem dX10_ends_60 : decode cX10_ends 60 = .ok (.iload_n 3, 1) := by decide +kernel
theorem dX10_ends_61 : decode cX10_ends 61 = .ok (.iadd, 1) := by decide +kernel
theorem dX10_ends_62 : decode cX10_ends 62 = .ok (.aload_n 0, 1) := by decide +kernel
theorem dX10_ends_63 : decode cX10_ends 63 = .ok (.getfield 38, 3) := by decide +kernel
theorem dX10_ends_66 : decode cX10_ends 66 = .ok (.sipush 256, 3) := by decide +kernel
theorem dX10_ends_69 : decode cX10_ends 69 = .ok (.iload_n 2, 1) := by decide +kernel
theorem dX10_ends_70 : decode cX10_ends 70 = .ok (.imul, 1) := by decide +kernel
theorem dX10_ends_71 : decode cX10_ends 71 = .ok (.sipush 256, 3) := by decide +kernel
theorem dX10_ends_74 : decode cX10_ends 74 = .ok (.iadd, 1) := by decide +kernel
theorem dX10_ends_75 : decode cX10_ends 75 = .ok (.iload_n 3, 1) := by decide +kernel
theorem dX10_ends_76 : decode cX10_ends 76 = .ok (.iadd, 1) := by decide +kernel
theorem dX10_ends_77 : decode cX10_ends 77 = .ok (.iaload, 1) := by decide +kernel
theorem dX10_ends_78 : decode cX10_ends 78 = .ok (.iastore, 1) := by decide +kernel
theorem dX10_ends_79 : decode cX10_ends 79 = .ok (.iinc 3 1, 3) := by decide +kernel
theorem dX10_ends_82 : decode cX10_ends 82 = .ok (.goto (-38), 3) := by decide +kernel
theorem dX10_ends_85 : decode cX10_ends 85 = .ok (.iinc 2 1, 3) := by decide +kernel
theorem dX10_ends_88 : decode cX10_ends 88 = .ok (.goto (-66), 3) := by decide +kernel
theorem dX10_ends_91 : decode cX10_ends 91 = .ok (.aload_n 0, 1) := by decide +kernel
theorem dX10_ends_92 : decode cX10_ends 92 = .ok (.bipush 7, 2) := by decide +kernel
theorem dX10_ends_94 : decode cX10_ends 94 = .ok (.putfield 155, 3) := by decide +kernel
theorem dX10_ends_97 : decode cX10_ends 97 = .ok (.aload_n 0, 1) := by decide +kernel
theorem dX10_ends_98 : decode cX10_ends 98 = .ok (.getfield 35, 3) := by decide +kernel
theorem dX10_ends_101 : decode cX10_ends 101 = .ok (.aload_n 0, 1) := by decide +kernel
theorem dX10_ends_102 : decode cX10_ends 102 = .ok (.getfield 155, 3) := by decide +kernel
theorem dX10_ends_105 : decode cX10_ends 105 = .ok (.aload_n 0, 1) := by decide +kernel
theorem dX10_ends_106 : decode cX10_ends 106 = .ok (.getfield 134, 3) := by decide +kernel
theorem dX10_ends_109 : decode cX10_ends 109 = .ok (.iastore, 1) := by decide +kernel
theorem dX10_ends_110 : decode cX10_ends 110 = .ok (.iconst 0, 1) := by decide +kernel
theorem dX10_ends_111 : decode cX10_ends 111 = .ok (.istore_n 2, 1) := by decide +kernel
theorem dX10_ends_112 : decode cX10_ends 112 = .ok (.iload_n 2, 1) := by decide +kernel
theorem dX10_ends_113 : decode cX10_ends 113 = .ok (.aload_n 0, 1) := by decide +kernel
theorem dX10_ends_114 : decode cX10_ends 114 = .ok (.getfield 134, 3) := by decide +kernel
theorem dX10_ends_117 : decode cX10_ends 117 = .ok (.if_icmp .ge 30, 3) := by decide +kernel
theorem dX10_ends_120 : decode cX10_ends 120 = .ok (.aload_n 0, 1) := by decide +kernel
theorem dX10_ends_121 : decode cX10_ends 121 = .ok (.getfield 38, 3) := by decide +kernel
theorem dX10_ends_124 : decode cX10_ends 124 = .ok (.sipush 256, 3) := by decide +kernel
theorem dX10_ends_127 : decode cX10_ends 127 = .ok (.aload_n 0, 1) := by decide +kernel
theorem dX10_ends_128 : decode cX10_ends 128 = .ok (.getfield 155, 3) := by decide +kernel
theorem dX10_ends_131 : decode cX10_ends 131 = .ok (.imul, 1) := by decide +kernel
theorem dX10_ends_132 : decode cX10_ends 132 = .ok (.iload_n 2, 1) := by decide +kernel
theorem dX10_ends_133 : decode cX10_ends 133 = .ok (.iadd, 1) := by decide +kernel
theorem dX10_ends_134 : decode cX10_ends 134 = .ok (.aload_n 0, 1) := by decide +kernel
