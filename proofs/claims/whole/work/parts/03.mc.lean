theorem dX10_ends_135 : decode cX10_ends 135 = .ok (.getfield 28, 3) := by decide +kernel
theorem dX10_ends_138 : decode cX10_ends 138 = .ok (.iload_n 2, 1) := by decide +kernel
theorem dX10_ends_139 : decode cX10_ends 139 = .ok (.iaload, 1) := by decide +kernel
theorem dX10_ends_140 : decode cX10_ends 140 = .ok (.iastore, 1) := by decide +kernel
theorem dX10_ends_141 : decode cX10_ends 141 = .ok (.iinc 2 1, 3) := by decide +kernel
theorem dX10_ends_144 : decode cX10_ends 144 = .ok (.goto (-32), 3) := by decide +kernel
theorem dX10_ends_147 : decode cX10_ends 147 = .ok (.aload_n 0, 1) := by decide +kernel
theorem dX10_ends_148 : decode cX10_ends 148 = .ok (.dup, 1) := by decide +kernel
theorem dX10_ends_149 : decode cX10_ends 149 = .ok (.getfield 155, 3) := by decide +kernel
theorem dX10_ends_152 : decode cX10_ends 152 = .ok (.iconst 1, 1) := by decide +kernel
theorem dX10_ends_153 : decode cX10_ends 153 = .ok (.iadd, 1) := by decide +kernel
theorem dX10_ends_154 : decode cX10_ends 154 = .ok (.putfield 155, 3) := by decide +kernel
theorem dX10_ends_157 : decode cX10_ends 157 = .ok (.iconst 0, 1) := by decide +kernel
theorem dX10_ends_158 : decode cX10_ends 158 = .ok (.istore_n 2, 1) := by decide +kernel
theorem dX10_ends_159 : decode cX10_ends 159 = .ok (.iload_n 2, 1) := by decide +kernel
theorem dX10_ends_160 : decode cX10_ends 160 = .ok (.aload_n 0, 1) := by decide +kernel
theorem dX10_ends_161 : decode cX10_ends 161 = .ok (.getfield 134, 3) := by decide +kernel
theorem dX10_ends_164 : decode cX10_ends 164 = .ok (.if_icmp .ge 19, 3) := by decide +kernel
theorem dX10_ends_167 : decode cX10_ends 167 = .ok (.aload_n 0, 1) := by decide +kernel
theorem dX10_ends_168 : decode cX10_ends 168 = .ok (.aload_n 0, 1) := by decide +kernel
theorem dX10_ends_169 : decode cX10_ends 169 = .ok (.getfield 28, 3) := by decide +kernel
theorem dX10_ends_172 : decode cX10_ends 172 = .ok (.iload_n 2, 1) := by decide +kernel
theorem dX10_ends_173 : decode cX10_ends 173 = .ok (.iaload, 1) := by decide +kernel
theorem dX10_ends_174 : decode cX10_ends 174 = .ok (.invokevirtual 158, 3) := by decide +kernel
theorem dX10_ends_177 : decode cX10_ends 177 = .ok (.iinc 2 1, 3) := by decide +kernel
theorem dX10_ends_180 : decode cX10_ends 180 = .ok (.goto (-21), 3) := by decide +kernel
theorem dX10_ends_183 : decode cX10_ends 183 = .ok (.aload_n 0, 1) := by decide +kernel
theorem dX10_ends_184 : decode cX10_ends 184 = .ok (.bipush 13, 2) := by decide +kernel
theorem dX10_ends_186 : decode cX10_ends 186 = .ok (.invokevirtual 158, 3) := by decide +kernel
theorem dX10_ends_189 : decode cX10_ends 189 = .ok (.aload_n 0, 1) := by decide +kernel
theorem dX10_ends_190 : decode cX10_ends 190 = .ok (.iconst 0, 1) := by decide +kernel
theorem dX10_ends_191 : decode cX10_ends 191 = .ok (.putfield 121, 3) := by decide +kernel
theorem dX10_ends_194 : decode cX10_ends 194 = .ok (.aload_n 0, 1) := by decide +kernel
theorem dX10_ends_195 : decode cX10_ends 195 = .ok (.iload_n 1, 1) := by decide +kernel
theorem dX10_ends_196 : decode cX10_ends 196 = .ok (.putfield 31, 3) := by decide +kernel
theorem dX10_ends_199 : decode cX10_ends 199 = .ok (.aload_n 0, 1) := by decide +kernel
theorem dX10_ends_200 : decode cX10_ends 200 = .ok (.getfield 128, 3) := by decide +kernel
theorem dX10_ends_203 : decode cX10_ends 203 = .ok (.ifCond .ne 7, 3) := by decide +kernel
theorem dX10_ends_206 : decode cX10_ends 206 = .ok (.iconst 0, 1) := by decide +kernel
theorem dX10_ends_207 : decode cX10_ends 207 = .ok (.goto 20, 3) := by decide +kernel
theorem dX10_ends_210 : decode cX10_ends 210 = .ok (.aload_n 0, 1) := by decide +kernel
theorem dX10_ends_211 : decode cX10_ends 211 = .ok (.aload_n 0, 1) := by decide +kernel
theorem dX10_ends_212 : decode cX10_ends 212 = .ok (.getfield 125, 3) := by decide +kernel
theorem dX10_ends_215 : decode cX10_ends 215 = .ok (.aload_n 0, 1) := by decide +kernel
theorem dX10_ends_216 : decode cX10_ends 216 = .ok (.getfield 128, 3) := by decide +kernel
theorem dX10_ends_219 : decode cX10_ends 219 = .ok (.aload_n 0, 1) := by decide +kernel
theorem dX10_ends_220 : decode cX10_ends 220 = .ok (.getfield 85, 3) := by decide +kernel
theorem dX10_ends_223 : decode cX10_ends 223 = .ok (.iconst 0, 1) := by decide +kernel
theorem dX10_ends_224 : decode cX10_ends 224 = .ok (.invokevirtual 117, 3) := by decide +kernel
theorem dX10_ends_227 : decode cX10_ends 227 = .ok (.istore_n 2, 1) := by decide +kernel
theorem dX10_ends_228 : decode cX10_ends 228 = .ok (.iload_n 2, 1) := by decide +kernel
theorem dX10_ends_229 : decode cX10_ends 229 = .ok (.bipush (-3), 2) := by decide +kernel
theorem dX10_ends_231 : decode cX10_ends 231 = .ok (.if_icmp .ne 8, 3) := by decide +kernel
theorem dX10_ends_234 : decode cX10_ends 234 = .ok (.bipush (-3), 2) := by decide +kernel
theorem dX10_ends_236 : decode cX10_ends 236 = .ok (.goto 4, 3) := by decide +kernel
theorem dX10_ends_239 : decode cX10_ends 239 = .ok (.iconst 1, 1) := by decide +kernel
theorem dX10_ends_240 : decode cX10_ends 240 = .ok (.ireturn, 1) := by decide +kernel
theorem dX10_show_0 : decode cX10_show 0 = .ok (.aload_n 0, 1) := by decide +kernel
theorem dX10_show_1 : decode cX10_show 1 = .ok (.iload_n 1, 1) := by decide +kernel
theorem dX10_show_2 : decode cX10_show 2 = .ok (.putfield 137, 3) := by decide +kernel
theorem dX10_show_5 : decode cX10_show 5 = .ok (.aload_n 0, 1) := by decide +kernel
theorem dX10_show_6 : decode cX10_show 6 = .ok (.aload_n 0, 1) := by decide +kernel
theorem dX10_show_7 : decode cX10_show 7 = .ok (.getfield 35, 3) := by decide +kernel
theorem dX10_show_10 : decode cX10_show 10 = .ok (.iload_n 1, 1) := by decide +kernel
theorem dX10_show_11 : decode cX10_show 11 = .ok (.iaload, 1) := by decide +kernel
theorem dX10_show_12 : decode cX10_show 12 = .ok (.aload_n 0, 1) := by decide +kernel
theorem dX10_show_13 : decode cX10_show 13 = .ok (.getfield 131, 3) := by decide +kernel
theorem dX10_show_16 : decode cX10_show 16 = .ok (.if_icmp .ge 12, 3) := by decide +kernel
theorem dX10_show_19 : decode cX10_show 19 = .ok (.aload_n 0, 1) := by decide +kernel
theorem dX10_show_20 : decode cX10_show 20 = .ok (.getfield 35, 3) := by decide +kernel
theorem dX10_show_23 : decode cX10_show 23 = .ok (.iload_n 1, 1) := by decide +kernel
theorem dX10_show_24 : decode cX10_show 24 = .ok (.iaload, 1) := by decide +kernel
theorem dX10_show_25 : decode cX10_show 25 = .ok (.goto 7, 3) := by decide +kernel
theorem dX10_show_28 : decode cX10_show 28 = .ok (.aload_n 0, 1) := by decide +kernel
theorem dX10_show_29 : decode cX10_show 29 = .ok (.getfield 131, 3) := by decide +kernel
theorem dX10_show_32 : decode cX10_show 32 = .ok (.putfield 134, 3) := by decide +kernel
theorem dX10_show_35 : decode cX10_show 35 = .ok (.iconst 0, 1) := by decide +kernel
theorem dX10_show_36 : decode cX10_show 36 = .ok (.istore_n 2, 1) := by decide +kernel
theorem dX10_show_37 : decode cX10_show 37 = .ok (.iload_n 2, 1) := by decide +kernel
theorem dX10_show_38 : decode cX10_show 38 = .ok (.aload_n 0, 1) := by decide +kernel
theorem dX10_show_39 : decode cX10_show 39 = .ok (.getfield 134, 3) := by decide +kernel
theorem dX10_show_42 : decode cX10_show 42 = .ok (.if_icmp .ge 27, 3) := by decide +kernel
theorem dX10_show_45 : decode cX10_show 45 = .ok (.aload_n 0, 1) := by decide +kernel
theorem dX10_show_46 : decode cX10_show 46 = .ok (.getfield 28, 3) := by decide +kernel
theorem dX10_show_49 : decode cX10_show 49 = .ok (.iload_n 2, 1) := by decide +kernel
theorem dX10_show_50 : decode cX10_show 50 = .ok (.aload_n 0, 1) := by decide +kernel
theorem dX10_show_51 : decode cX10_show 51 = .ok (.getfield 38, 3) := by decide +kernel
theorem dX10_show_54 : decode cX10_show 54 = .ok (.sipush 256, 3) := by decide +kernel
theorem dX10_show_57 : decode cX10_show 57 = .ok (.iload_n 1, 1) := by decide +kernel
theorem dX10_show_58 : decode cX10_show 58 = .ok (.imul, 1) := by decide +kernel
theorem dX10_show_59 : decode cX10_show 59 = .ok (.iload_n 2, 1) := by decide +kernel
theorem dX10_show_60 : decode cX10_show 60 = .ok (.iadd, 1) := by decide +kernel
theorem dX10_show_61 : decode cX10_show 61 = .ok (.iaload, 1) := by decide +kernel
theorem dX10_show_62 : decode cX10_show 62 = .ok (.iastore, 1) := by decide +kernel
theorem dX10_show_63 : decode cX10_show 63 = .ok (.iinc 2 1, 3) := by decide +kernel
theorem dX10_show_66 : decode cX10_show 66 = .ok (.goto (-29), 3) := by decide +kernel
theorem dX10_show_69 : decode cX10_show 69 = .ok (.return_, 1) := by decide +kernel
set_option maxRecDepth 100000 in
theorem ggX10_key_X10_in : GoodIn wsX10_key wsX10_in := goodIn_r _ [10] rfl (by decide +kernel)
set_option maxRecDepth 100000 in
theorem gX10_key_X10_in : GoodIn wsX10_key (va_wsS RX10 47 yX10_in wsX10_in) := goodIn_app (goodIn_of _ (by decide +kernel)) ggX10_key_X10_in
set_option maxRecDepth 100000 in
theorem ggX10_key_X10_isEnding : GoodIn wsX10_key wsX10_isEnding := goodIn_r _ [14, 15, 16, 17, 7, 8, 9, 10, 95, 96, 97, 98, 99, 100, 101, 102, 103, 104, 105, 106, 107, 108, 109, 110, 111, 112, 113, 114, 115, 116, 117, 118, 119, 120, 121, 122, 123, 124, 125, 126, 127] rfl (by decide +kernel)
set_option maxRecDepth 100000 in
theorem gX10_key_X10_isEnding : GoodIn wsX10_key (wsV RX10 160 RX10 yX10_isEnding wsX10_isEnding) := goodIn_app (goodIn_of _ (by decide +kernel)) ggX10_key_X10_isEnding
set_option maxRecDepth 100000 in
theorem ggX10_key_X10_ends : GoodIn wsX10_key wsX10_ends := goodIn_r _ [21, 2, 4, 22, 23, 6, 1, 24, 25, 26, 27, 28, 29, 30, 9, 31, 15, 17, 32, 33, 34, 35, 36, 37, 38, 39, 40, 41, 42, 43, 44, 45, 46, 47, 48, 49, 50, 51, 52, 53, 54, 55, 56, 57, 58, 59, 60, 61, 62, 63, 64, 65, 66, 67, 68, 69, 70, 71, 72, 73, 74, 75, 76, 77, 78, 79, 80, 81, 82, 83, 84, 85, 86, 7, 8, 10, 87, 88, 89, 90, 95, 96, 97, 98, 99, 100, 101, 102, 103, 104, 105, 106, 107, 108, 109, 110, 111, 112, 113, 114, 115, 116, 117, 118, 119, 120, 121, 122, 123, 124, 125, 126, 127] rfl (by decide +kernel)
set_option maxRecDepth 100000 in
theorem gX10_key_X10_ends : GoodIn wsX10_key (wsV RX10 163 RX10 yX10_ends wsX10_ends) := goodIn_app (goodIn_of _ (by decide +kernel)) ggX10_key_X10_ends
set_option maxRecDepth 100000 in
theorem ggX10_key_X10_show : GoodIn wsX10_key wsX10_show := goodIn_r _ [94, 3, 22, 5, 2, 6, 23, 95, 96, 97, 98, 99, 100, 101, 102, 103, 104, 105, 106, 107, 108, 109, 110, 111, 112, 113, 114, 115, 116, 117, 118, 119, 120, 121, 122, 123, 124, 125, 126, 127] rfl (by decide +kernel)
set_option maxRecDepth 100000 in
theorem gX10_key_X10_show : GoodIn wsX10_key (wsV RX10 166 RX10 yX10_show wsX10_show) := goodIn_app (goodIn_of _ (by decide +kernel)) ggX10_key_X10_show
theorem dX10_key_0 : decode cX10_key 0 = .ok (.aload_n 0, 1) := by decide +kernel
theorem dX10_key_1 : decode cX10_key 1 = .ok (.getfield 121, 3) := by decide +kernel
theorem dX10_key_4 : decode cX10_key 4 = .ok (.ifCond .ne 5, 3) := by decide +kernel
theorem dX10_key_7 : decode cX10_key 7 = .ok (.iconst (-1), 1) := by decide +kernel
theorem dX10_key_8 : decode cX10_key 8 = .ok (.ireturn, 1) := by decide +kernel
theorem dX10_key_9 : decode cX10_key 9 = .ok (.iload_n 1, 1) := by decide +kernel
theorem dX10_key_10 : decode cX10_key 10 = .ok (.iconst 0, 1) := by decide +kernel
theorem dX10_key_11 : decode cX10_key 11 = .ok (.sipush 255, 3) := by decide +kernel
theorem dX10_key_14 : decode cX10_key 14 = .ok (.invokestatic 47, 3) := by decide +kernel
theorem dX10_key_17 : decode cX10_key 17 = .ok (.ifCond .ne 6, 3) := by decide +kernel
theorem dX10_key_20 : decode cX10_key 20 = .ok (.bipush (-2), 2) := by decide +kernel
theorem dX10_key_22 : decode cX10_key 22 = .ok (.ireturn, 1) := by decide +kernel
theorem dX10_key_23 : decode cX10_key 23 = .ok (.aload_n 0, 1) := by decide +kernel
theorem dX10_key_24 : decode cX10_key 24 = .ok (.iload_n 1, 1) := by decide +kernel
theorem dX10_key_25 : decode cX10_key 25 = .ok (.invokevirtual 160, 3) := by decide +kernel
theorem dX10_key_28 : decode cX10_key 28 = .ok (.ifCond .eq 9, 3) := by decide +kernel
theorem dX10_key_31 : decode cX10_key 31 = .ok (.aload_n 0, 1) := by decide +kernel
theorem dX10_key_32 : decode cX10_key 32 = .ok (.iload_n 1, 1) := by decide +kernel
theorem dX10_key_33 : decode cX10_key 33 = .ok (.invokevirtual 163, 3) := by decide +kernel
theorem dX10_key_36 : decode cX10_key 36 = .ok (.ireturn, 1) := by decide +kernel
theorem dX10_key_37 : decode cX10_key 37 = .ok (.iload_n 1, 1) := by decide +kernel
theorem dX10_key_38 : decode cX10_key 38 = .ok (.bipush 8, 2) := by decide +kernel
theorem dX10_key_40 : decode cX10_key 40 = .ok (.if_icmp .ne 27, 3) := by decide +kernel
theorem dX10_key_43 : decode cX10_key 43 = .ok (.aload_n 0, 1) := by decide +kernel
theorem dX10_key_44 : decode cX10_key 44 = .ok (.dup, 1) := by decide +kernel
theorem dX10_key_45 : decode cX10_key 45 = .ok (.getfield 134, 3) := by decide +kernel
theorem dX10_key_48 : decode cX10_key 48 = .ok (.aload_n 0, 1) := by decide +kernel
theorem dX10_key_49 : decode cX10_key 49 = .ok (.getfield 134, 3) := by decide +kernel
theorem dX10_key_52 : decode cX10_key 52 = .ok (.ifCond .le 7, 3) := by decide +kernel
theorem dX10_key_55 : decode cX10_key 55 = .ok (.iconst 1, 1) := by decide +kernel
theorem dX10_key_56 : decode cX10_key 56 = .ok (.goto 4, 3) := by decide +kernel
theorem dX10_key_59 : decode cX10_key 59 = .ok (.iconst 0, 1) := by decide +kernel
theorem dX10_key_60 : decode cX10_key 60 = .ok (.isub, 1) := by decide +kernel
theorem dX10_key_61 : decode cX10_key 61 = .ok (.putfield 134, 3) := by decide +kernel
theorem dX10_key_64 : decode cX10_key 64 = .ok (.goto 173, 3) := by decide +kernel
theorem dX10_key_67 : decode cX10_key 67 = .ok (.iload_n 1, 1) := by decide +kernel
theorem dX10_key_68 : decode cX10_key 68 = .ok (.sipush 129, 3) := by decide +kernel
theorem dX10_key_71 : decode cX10_key 71 = .ok (.if_icmp .ne 39, 3) := by decide +kernel
theorem dX10_key_74 : decode cX10_key 74 = .ok (.aload_n 0, 1) := by decide +kernel
theorem dX10_key_75 : decode cX10_key 75 = .ok (.getfield 137, 3) := by decide +kernel
theorem dX10_key_78 : decode cX10_key 78 = .ok (.iconst (-1), 1) := by decide +kernel
theorem dX10_key_79 : decode cX10_key 79 = .ok (.if_icmp .ne 12, 3) := by decide +kernel
theorem dX10_key_82 : decode cX10_key 82 = .ok (.aload_n 0, 1) := by decide +kernel
theorem dX10_key_83 : decode cX10_key 83 = .ok (.getfield 155, 3) := by decide +kernel
theorem dX10_key_86 : decode cX10_key 86 = .ok (.iconst 1, 1) := by decide +kernel
theorem dX10_key_87 : decode cX10_key 87 = .ok (.isub, 1) := by decide +kernel
theorem dX10_key_88 : decode cX10_key 88 = .ok (.goto 9, 3) := by decide +kernel
theorem dX10_key_91 : decode cX10_key 91 = .ok (.aload_n 0, 1) := by decide +kernel
theorem dX10_key_92 : decode cX10_key 92 = .ok (.getfield 137, 3) := by decide +kernel
theorem dX10_key_95 : decode cX10_key 95 = .ok (.iconst 1, 1) := by decide +kernel
theorem dX10_key_96 : decode cX10_key 96 = .ok (.isub, 1) := by decide +kernel
theorem dX10_key_97 : decode cX10_key 97 = .ok (.istore_n 2, 1) := by decide +kernel
theorem dX10_key_98 : decode cX10_key 98 = .ok (.iload_n 2, 1) := by decide +kernel
theorem dX10_key_99 : decode cX10_key 99 = .ok (.ifCond .lt 8, 3) := by decide +kernel
theorem dX10_key_102 : decode cX10_key 102 = .ok (.aload_n 0, 1) := by decide +kernel
theorem dX10_key_103 : decode cX10_key 103 = .ok (.iload_n 2, 1) := by decide +kernel
theorem dX10_key_104 : decode cX10_key 104 = .ok (.invokevirtual 166, 3) := by decide +kernel
theorem dX10_key_107 : decode cX10_key 107 = .ok (.goto 130, 3) := by decide +kernel
theorem dX10_key_110 : decode cX10_key 110 = .ok (.iload_n 1, 1) := by decide +kernel
theorem dX10_key_111 : decode cX10_key 111 = .ok (.sipush 130, 3) := by decide +kernel
theorem dX10_key_114 : decode cX10_key 114 = .ok (.if_icmp .ne 50, 3) := by decide +kernel
theorem dX10_key_117 : decode cX10_key 117 = .ok (.aload_n 0, 1) := by decide +kernel
theorem dX10_key_118 : decode cX10_key 118 = .ok (.getfield 137, 3) := by decide +kernel
theorem dX10_key_121 : decode cX10_key 121 = .ok (.iconst (-1), 1) := by decide +kernel
theorem dX10_key_122 : decode cX10_key 122 = .ok (.if_icmp .eq 42, 3) := by decide +kernel
theorem dX10_key_125 : decode cX10_key 125 = .ok (.aload_n 0, 1) := by decide +kernel
theorem dX10_key_126 : decode cX10_key 126 = .ok (.getfield 137, 3) := by decide +kernel
theorem dX10_key_129 : decode cX10_key 129 = .ok (.iconst 1, 1) := by decide +kernel
theorem dX10_key_130 : decode cX10_key 130 = .ok (.iadd, 1) := by decide +kernel
theorem dX10_key_131 : decode cX10_key 131 = .ok (.aload_n 0, 1) := by decide +kernel
theorem dX10_key_132 : decode cX10_key 132 = .ok (.getfield 155, 3) := by decide +kernel
theorem dX10_key_135 : decode cX10_key 135 = .ok (.if_icmp .ge 16, 3) := by decide +kernel
theorem dX10_key_138 : decode cX10_key 138 = .ok (.aload_n 0, 1) := by decide +kernel
theorem dX10_key_139 : decode cX10_key 139 = .ok (.aload_n 0, 1) := by decide +kernel
theorem dX10_key_140 : decode cX10_key 140 = .ok (.getfield 137, 3) := by decide +kernel
theorem dX10_key_143 : decode cX10_key 143 = .ok (.iconst 1, 1) := by decide +kernel
theorem dX10_key_144 : decode cX10_key 144 = .ok (.iadd, 1) := by decide +kernel
theorem dX10_key_145 : decode cX10_key 145 = .ok (.invokevirtual 166, 3) := by decide +kernel
theorem dX10_key_148 : decode cX10_key 148 = .ok (.goto 89, 3) := by decide +kernel
theorem dX10_key_151 : decode cX10_key 151 = .ok (.aload_n 0, 1) := by decide +kernel
theorem dX10_key_152 : decode cX10_key 152 = .ok (.iconst (-1), 1) := by decide +kernel
theorem dX10_key_153 : decode cX10_key 153 = .ok (.putfield 137, 3) := by decide +kernel
theorem dX10_key_156 : decode cX10_key 156 = .ok (.aload_n 0, 1) := by decide +kernel
theorem dX10_key_157 : decode cX10_key 157 = .ok (.iconst 0, 1) := by decide +kernel
theorem dX10_key_158 : decode cX10_key 158 = .ok (.putfield 134, 3) := by decide +kernel
theorem dX10_key_161 : decode cX10_key 161 = .ok (.goto 76, 3) := by decide +kernel
theorem dX10_key_164 : decode cX10_key 164 = .ok (.iload_n 1, 1) := by decide +kernel
theorem dX10_key_165 : decode cX10_key 165 = .ok (.bipush 32, 2) := by decide +kernel
theorem dX10_key_167 : decode cX10_key 167 = .ok (.bipush 126, 2) := by decide +kernel
theorem dX10_key_169 : decode cX10_key 169 = .ok (.invokestatic 47, 3) := by decide +kernel
theorem dX10_key_172 : decode cX10_key 172 = .ok (.ifCond .ne 16, 3) := by decide +kernel
theorem dX10_key_175 : decode cX10_key 175 = .ok (.iload_n 1, 1) := by decide +kernel
theorem dX10_key_176 : decode cX10_key 176 = .ok (.sipush 155, 3) := by decide +kernel
theorem dX10_key_179 : decode cX10_key 179 = .ok (.sipush 251, 3) := by decide +kernel
theorem dX10_key_182 : decode cX10_key 182 = .ok (.invokestatic 47, 3) := by decide +kernel
theorem dX10_key_185 : decode cX10_key 185 = .ok (.ifCond .eq 52, 3) := by decide +kernel
theorem dX10_key_188 : decode cX10_key 188 = .ok (.aload_n 0, 1) := by decide +kernel
theorem dX10_key_189 : decode cX10_key 189 = .ok (.getfield 134, 3) := by decide +kernel
theorem dX10_key_192 : decode cX10_key 192 = .ok (.aload_n 0, 1) := by decide +kernel
theorem dX10_key_193 : decode cX10_key 193 = .ok (.getfield 131, 3) := by decide +kernel
theorem dX10_key_196 : decode cX10_key 196 = .ok (.if_icmp .ge 41, 3) := by decide +kernel
theorem dX10_key_199 : decode cX10_key 199 = .ok (.aload_n 0, 1) := by decide +kernel
theorem dX10_key_200 : decode cX10_key 200 = .ok (.getfield 28, 3) := by decide +kernel
theorem dX10_key_203 : decode cX10_key 203 = .ok (.aload_n 0, 1) := by decide +kernel
theorem dX10_key_204 : decode cX10_key 204 = .ok (.getfield 134, 3) := by decide +kernel
theorem dX10_key_207 : decode cX10_key 207 = .ok (.iload_n 1, 1) := by decide +kernel
theorem dX10_key_208 : decode cX10_key 208 = .ok (.bipush 65, 2) := by decide +kernel
theorem dX10_key_210 : decode cX10_key 210 = .ok (.bipush 90, 2) := by decide +kernel
theorem dX10_key_212 : decode cX10_key 212 = .ok (.invokestatic 47, 3) := by decide +kernel
theorem dX10_key_215 : decode cX10_key 215 = .ok (.ifCond .eq 10, 3) := by decide +kernel
theorem dX10_key_218 : decode cX10_key 218 = .ok (.iload_n 1, 1) := by decide +kernel
theorem dX10_key_219 : decode cX10_key 219 = .ok (.bipush 32, 2) := by decide +kernel
theorem dX10_key_221 : decode cX10_key 221 = .ok (.iadd, 1) := by decide +kernel
theorem dX10_key_222 : decode cX10_key 222 = .ok (.goto 4, 3) := by decide +kernel
theorem dX10_key_225 : decode cX10_key 225 = .ok (.iload_n 1, 1) := by decide +kernel
theorem dX10_key_226 : decode cX10_key 226 = .ok (.iastore, 1) := by decide +kernel
theorem dX10_key_227 : decode cX10_key 227 = .ok (.aload_n 0, 1) := by decide +kernel
theorem dX10_key_228 : decode cX10_key 228 = .ok (.dup, 1) := by decide +kernel
theorem dX10_key_229 : decode cX10_key 229 = .ok (.getfield 134, 3) := by decide +kernel
theorem dX10_key_232 : decode cX10_key 232 = .ok (.iconst 1, 1) := by decide +kernel
theorem dX10_key_233 : decode cX10_key 233 = .ok (.iadd, 1) := by decide +kernel
theorem dX10_key_234 : decode cX10_key 234 = .ok (.putfield 134, 3) := by decide +kernel
theorem dX10_key_237 : decode cX10_key 237 = .ok (.iconst 0, 1) := by decide +kernel
theorem dX10_key_238 : decode cX10_key 238 = .ok (.ireturn, 1) := by decide +kernel
set_option maxRecDepth 100000 in
theorem ggX10_timed_X10_in : GoodIn wsX10_timed wsX10_in := goodIn_r _ [11] rfl (by decide +kernel)
set_option maxRecDepth 100000 in
theorem gX10_timed_X10_in : GoodIn wsX10_timed (va_wsS RX10 47 yX10_in wsX10_in) := goodIn_app (goodIn_of _ (by decide +kernel)) ggX10_timed_X10_in
theorem dX10_timed_0 : decode cX10_timed 0 = .ok (.aload_n 0, 1) := by decide +kernel
theorem dX10_timed_1 : decode cX10_timed 1 = .ok (.getfield 121, 3) := by decide +kernel
theorem dX10_timed_4 : decode cX10_timed 4 = .ok (.ifCond .ne 5, 3) := by decide +kernel
theorem dX10_timed_7 : decode cX10_timed 7 = .ok (.iconst (-1), 1) := by decide +kernel
theorem dX10_timed_8 : decode cX10_timed 8 = .ok (.ireturn, 1) := by decide +kernel
theorem dX10_timed_9 : decode cX10_timed 9 = .ok (.aload_n 0, 1) := by decide +kernel
theorem dX10_timed_10 : decode cX10_timed 10 = .ok (.getfield 51, 3) := by decide +kernel
theorem dX10_timed_13 : decode cX10_timed 13 = .ok (.iconst 4, 1) := by decide +kernel
theorem dX10_timed_14 : decode cX10_timed 14 = .ok (.if_icmp .lt 14, 3) := by decide +kernel
theorem dX10_timed_17 : decode cX10_timed 17 = .ok (.iload_n 1, 1) := by decide +kernel
theorem dX10_timed_18 : decode cX10_timed 18 = .ok (.iconst 0, 1) := by decide +kernel
theorem dX10_timed_19 : decode cX10_timed 19 = .ok (.sipush 1000, 3) := by decide +kernel
theorem dX10_timed_22 : decode cX10_timed 22 = .ok (.invokestatic 47, 3) := by decide +kernel
theorem dX10_timed_25 : decode cX10_timed 25 = .ok (.ifCond .ne 6, 3) := by decide +kernel
theorem dX10_timed_28 : decode cX10_timed 28 = .ok (.bipush (-2), 2) := by decide +kernel
theorem dX10_timed_30 : decode cX10_timed 30 = .ok (.ireturn, 1) := by decide +kernel
theorem dX10_timed_31 : decode cX10_timed 31 = .ok (.aload_n 0, 1) := by decide +kernel
theorem dX10_timed_32 : decode cX10_timed 32 = .ok (.iload_n 1, 1) := by decide +kernel
theorem dX10_timed_33 : decode cX10_timed 33 = .ok (.putfield 140, 3) := by decide +kernel
theorem dX10_timed_36 : decode cX10_timed 36 = .ok (.aload_n 0, 1) := by decide +kernel
theorem dX10_timed_37 : decode cX10_timed 37 = .ok (.iload_n 2, 1) := by decide +kernel
theorem dX10_timed_38 : decode cX10_timed 38 = .ok (.putfield 169, 3) := by decide +kernel
theorem dX10_timed_41 : decode cX10_timed 41 = .ok (.aload_n 0, 1) := by decide +kernel
theorem dX10_timed_42 : decode cX10_timed 42 = .ok (.iconst 0, 1) := by decide +kernel
theorem dX10_timed_43 : decode cX10_timed 43 = .ok (.putfield 172, 3) := by decide +kernel
theorem dX10_timed_46 : decode cX10_timed 46 = .ok (.aload_n 0, 1) := by decide +kernel
theorem dX10_timed_47 : decode cX10_timed 47 = .ok (.iconst 0, 1) := by decide +kernel
theorem dX10_timed_48 : decode cX10_timed 48 = .ok (.putfield 143, 3) := by decide +kernel
theorem dX10_timed_51 : decode cX10_timed 51 = .ok (.aload_n 0, 1) := by decide +kernel
theorem dX10_timed_52 : decode cX10_timed 52 = .ok (.getfield 146, 3) := by decide +kernel
theorem dX10_timed_55 : decode cX10_timed 55 = .ok (.ireturn, 1) := by decide +kernel
set_option maxRecDepth 100000 in
theorem ggX10_tick_X10_in : GoodIn wsX10_tick wsX10_in := goodIn_r _ [13] rfl (by decide +kernel)
set_option maxRecDepth 100000 in
theorem gX10_tick_X10_in : GoodIn wsX10_tick (va_wsS RX10 47 yX10_in wsX10_in) := goodIn_app (goodIn_of _ (by decide +kernel)) ggX10_tick_X10_in
set_option maxRecDepth 100000 in
theorem ggX10_tick_X10_layDown : GoodIn wsX10_tick wsX10_layDown := goodIn_r _ [17, 18, 19, 8, 20, 21, 22, 23, 24, 25, 26, 27, 28, 29, 30, 31, 32, 33, 34, 35, 36, 37, 38, 39, 40, 41, 42, 43, 44, 45, 46, 47, 48, 49, 50, 51, 52, 53, 54] rfl (by decide +kernel)
set_option maxRecDepth 100000 in
theorem gX10_tick_X10_layDown : GoodIn wsX10_tick (wsV RX10 152 RX10 yX10_layDown wsX10_layDown) := goodIn_app (goodIn_of _ (by decide +kernel)) ggX10_tick_X10_layDown
theorem dX10_tick_0 : decode cX10_tick 0 = .ok (.aload_n 0, 1) := by decide +kernel
theorem dX10_tick_1 : decode cX10_tick 1 = .ok (.getfield 121, 3) := by decide +kernel
theorem dX10_tick_4 : decode cX10_tick 4 = .ok (.ifCond .ne 5, 3) := by decide +kernel
theorem dX10_tick_7 : decode cX10_tick 7 = .ok (.iconst (-1), 1) := by decide +kernel
theorem dX10_tick_8 : decode cX10_tick 8 = .ok (.ireturn, 1) := by decide +kernel
theorem dX10_tick_9 : decode cX10_tick 9 = .ok (.iload_n 1, 1) := by decide +kernel
theorem dX10_tick_10 : decode cX10_tick 10 = .ok (.iconst 0, 1) := by decide +kernel
theorem dX10_tick_11 : decode cX10_tick 11 = .ok (.ldc 175, 2) := by decide +kernel
theorem dX10_tick_13 : decode cX10_tick 13 = .ok (.invokestatic 47, 3) := by decide +kernel
theorem dX10_tick_16 : decode cX10_tick 16 = .ok (.ifCond .ne 6, 3) := by decide +kernel
theorem dX10_tick_19 : decode cX10_tick 19 = .ok (.bipush (-2), 2) := by decide +kernel
theorem dX10_tick_21 : decode cX10_tick 21 = .ok (.ireturn, 1) := by decide +kernel
theorem dX10_tick_22 : decode cX10_tick 22 = .ok (.iconst 0, 1) := by decide +kernel
theorem dX10_tick_23 : decode cX10_tick 23 = .ok (.istore_n 2, 1) := by decide +kernel
theorem dX10_tick_24 : decode cX10_tick 24 = .ok (.iconst 0, 1) := by decide +kernel
theorem dX10_tick_25 : decode cX10_tick 25 = .ok (.istore_n 3, 1) := by decide +kernel
theorem dX10_tick_26 : decode cX10_tick 26 = .ok (.iload_n 3, 1) := by decide +kernel
theorem dX10_tick_27 : decode cX10_tick 27 = .ok (.iload_n 1, 1) := by decide +kernel
theorem dX10_tick_28 : decode cX10_tick 28 = .ok (.if_icmp .ge 123, 3) := by decide +kernel
theorem dX10_tick_31 : decode cX10_tick 31 = .ok (.aload_n 0, 1) := by decide +kernel
theorem dX10_tick_32 : decode cX10_tick 32 = .ok (.getfield 121, 3) := by decide +kernel
theorem dX10_tick_35 : decode cX10_tick 35 = .ok (.ifCond .eq 116, 3) := by decide +kernel
theorem dX10_tick_38 : decode cX10_tick 38 = .ok (.aload_n 0, 1) := by decide +kernel
theorem dX10_tick_39 : decode cX10_tick 39 = .ok (.getfield 140, 3) := by decide +kernel
theorem dX10_tick_42 : decode cX10_tick 42 = .ok (.ifCond .le 109, 3) := by decide +kernel
theorem dX10_tick_45 : decode cX10_tick 45 = .ok (.aload_n 0, 1) := by decide +kernel
theorem dX10_tick_46 : decode cX10_tick 46 = .ok (.dup, 1) := by decide +kernel
theorem dX10_tick_47 : decode cX10_tick 47 = .ok (.getfield 143, 3) := by decide +kernel
theorem dX10_tick_50 : decode cX10_tick 50 = .ok (.iconst 1, 1) := by decide +kernel
theorem dX10_tick_51 : decode cX10_tick 51 = .ok (.iadd, 1) := by decide +kernel
theorem dX10_tick_52 : decode cX10_tick 52 = .ok (.putfield 143, 3) := by decide +kernel
theorem dX10_tick_55 : decode cX10_tick 55 = .ok (.aload_n 0, 1) := by decide +kernel
theorem dX10_tick_56 : decode cX10_tick 56 = .ok (.getfield 143, 3) := by decide +kernel
theorem dX10_tick_59 : decode cX10_tick 59 = .ok (.aload_n 0, 1) := by decide +kernel
theorem dX10_tick_60 : decode cX10_tick 60 = .ok (.getfield 140, 3) := by decide +kernel
theorem dX10_tick_63 : decode cX10_tick 63 = .ok (.irem, 1) := by decide +kernel
theorem dX10_tick_64 : decode cX10_tick 64 = .ok (.ifCond .ne 81, 3) := by decide +kernel
theorem dX10_tick_67 : decode cX10_tick 67 = .ok (.iinc 2 1, 3) := by decide +kernel
theorem dX10_tick_70 : decode cX10_tick 70 = .ok (.aload_n 0, 1) := by decide +kernel
theorem dX10_tick_71 : decode cX10_tick 71 = .ok (.dup, 1) := by decide +kernel
theorem dX10_tick_72 : decode cX10_tick 72 = .ok (.getfield 146, 3) := by decide +kernel
theorem dX10_tick_75 : decode cX10_tick 75 = .ok (.iconst 1, 1) := by decide +kernel
theorem dX10_tick_76 : decode cX10_tick 76 = .ok (.iadd, 1) := by decide +kernel
theorem dX10_tick_77 : decode cX10_tick 77 = .ok (.putfield 146, 3) := by decide +kernel
theorem dX10_tick_80 : decode cX10_tick 80 = .ok (.aload_n 0, 1) := by decide +kernel
theorem dX10_tick_81 : decode cX10_tick 81 = .ok (.getfield 172, 3) := by decide +kernel
theorem dX10_tick_84 : decode cX10_tick 84 = .ok (.bipush 32, 2) := by decide +kernel
theorem dX10_tick_86 : decode cX10_tick 86 = .ok (.if_icmp .ge 22, 3) := by decide +kernel
theorem dX10_tick_89 : decode cX10_tick 89 = .ok (.aload_n 0, 1) := by decide +kernel
theorem dX10_tick_90 : decode cX10_tick 90 = .ok (.getfield 169, 3) := by decide +kernel
theorem dX10_tick_93 : decode cX10_tick 93 = .ok (.aload_n 0, 1) := by decide +kernel
theorem dX10_tick_94 : decode cX10_tick 94 = .ok (.getfield 172, 3) := by decide +kernel
theorem dX10_tick_97 : decode cX10_tick 97 = .ok (.ishr, 1) := by decide +kernel
theorem dX10_tick_98 : decode cX10_tick 98 = .ok (.iconst 1, 1) := by decide +kernel
theorem dX10_tick_99 : decode cX10_tick 99 = .ok (.iand, 1) := by decide +kernel
theorem dX10_tick_100 : decode cX10_tick 100 = .ok (.iconst 1, 1) := by decide +kernel
theorem dX10_tick_101 : decode cX10_tick 101 = .ok (.if_icmp .ne 7, 3) := by decide +kernel
theorem dX10_tick_104 : decode cX10_tick 104 = .ok (.iconst 1, 1) := by decide +kernel
theorem dX10_tick_105 : decode cX10_tick 105 = .ok (.goto 4, 3) := by decide +kernel
theorem dX10_tick_108 : decode cX10_tick 108 = .ok (.iconst 0, 1) := by decide +kernel
theorem dX10_tick_109 : decode cX10_tick 109 = .ok (.istore 4, 2) := by decide +kernel
theorem dX10_tick_111 : decode cX10_tick 111 = .ok (.aload_n 0, 1) := by decide +kernel
theorem dX10_tick_112 : decode cX10_tick 112 = .ok (.dup, 1) := by decide +kernel
theorem dX10_tick_113 : decode cX10_tick 113 = .ok (.getfield 172, 3) := by decide +kernel
theorem dX10_tick_116 : decode cX10_tick 116 = .ok (.iconst 1, 1) := by decide +kernel
theorem dX10_tick_117 : decode cX10_tick 117 = .ok (.iadd, 1) := by decide +kernel
theorem dX10_tick_118 : decode cX10_tick 118 = .ok (.putfield 172, 3) := by decide +kernel
theorem dX10_tick_121 : decode cX10_tick 121 = .ok (.iload 4, 2) := by decide +kernel
theorem dX10_tick_123 : decode cX10_tick 123 = .ok (.ifCond .eq 22, 3) := by decide +kernel
theorem dX10_tick_126 : decode cX10_tick 126 = .ok (.aload_n 0, 1) := by decide +kernel
theorem dX10_tick_127 : decode cX10_tick 127 = .ok (.iconst 0, 1) := by decide +kernel
theorem dX10_tick_128 : decode cX10_tick 128 = .ok (.putfield 134, 3) := by decide +kernel
theorem dX10_tick_131 : decode cX10_tick 131 = .ok (.aload_n 0, 1) := by decide +kernel
theorem dX10_tick_132 : decode cX10_tick 132 = .ok (.invokevirtual 152, 3) := by decide +kernel
theorem dX10_tick_135 : decode cX10_tick 135 = .ok (.aload_n 0, 1) := by decide +kernel
theorem dX10_tick_136 : decode cX10_tick 136 = .ok (.iconst 0, 1) := by decide +kernel
theorem dX10_tick_137 : decode cX10_tick 137 = .ok (.putfield 121, 3) := by decide +kernel
theorem dX10_tick_140 : decode cX10_tick 140 = .ok (.aload_n 0, 1) := by decide +kernel
theorem dX10_tick_141 : decode cX10_tick 141 = .ok (.iconst 0, 1) := by decide +kernel
theorem dX10_tick_142 : decode cX10_tick 142 = .ok (.putfield 31, 3) := by decide +kernel
theorem dX10_tick_145 : decode cX10_tick 145 = .ok (.iinc 3 1, 3) := by decide +kernel
theorem dX10_tick_148 : decode cX10_tick 148 = .ok (.goto (-122), 3) := by decide +kernel
theorem dX10_tick_151 : decode cX10_tick 151 = .ok (.iload_n 2, 1) := by decide +kernel
theorem dX10_tick_152 : decode cX10_tick 152 = .ok (.ireturn, 1) := by decide +kernel
set_option maxRecDepth 100000 in
theorem ggX10_script_X10_in : GoodIn wsX10_script wsX10_in := goodIn_r _ [6] rfl (by decide +kernel)
set_option maxRecDepth 100000 in
theorem gX10_script_X10_in : GoodIn wsX10_script (va_wsS RX10 47 yX10_in wsX10_in) := goodIn_app (goodIn_of _ (by decide +kernel)) ggX10_script_X10_in
theorem dX10_script_0 : decode cX10_script 0 = .ok (.iload_n 1, 1) := by decide +kernel
theorem dX10_script_1 : decode cX10_script 1 = .ok (.iconst 0, 1) := by decide +kernel
theorem dX10_script_2 : decode cX10_script 2 = .ok (.sipush 255, 3) := by decide +kernel
theorem dX10_script_5 : decode cX10_script 5 = .ok (.invokestatic 47, 3) := by decide +kernel
theorem dX10_script_8 : decode cX10_script 8 = .ok (.ifCond .ne 6, 3) := by decide +kernel
theorem dX10_script_11 : decode cX10_script 11 = .ok (.bipush (-2), 2) := by decide +kernel
theorem dX10_script_13 : decode cX10_script 13 = .ok (.ireturn, 1) := by decide +kernel
theorem dX10_script_14 : decode cX10_script 14 = .ok (.aload_n 0, 1) := by decide +kernel
theorem dX10_script_15 : decode cX10_script 15 = .ok (.getfield 176, 3) := by decide +kernel
theorem dX10_script_18 : decode cX10_script 18 = .ok (.sipush 300, 3) := by decide +kernel
theorem dX10_script_21 : decode cX10_script 21 = .ok (.if_icmp .ne 6, 3) := by decide +kernel
theorem dX10_script_24 : decode cX10_script 24 = .ok (.bipush (-4), 2) := by decide +kernel
theorem dX10_script_26 : decode cX10_script 26 = .ok (.ireturn, 1) := by decide +kernel
theorem dX10_script_27 : decode cX10_script 27 = .ok (.aload_n 0, 1) := by decide +kernel
theorem dX10_script_28 : decode cX10_script 28 = .ok (.getfield 44, 3) := by decide +kernel
theorem dX10_script_31 : decode cX10_script 31 = .ok (.aload_n 0, 1) := by decide +kernel
theorem dX10_script_32 : decode cX10_script 32 = .ok (.getfield 176, 3) := by decide +kernel
theorem dX10_script_35 : decode cX10_script 35 = .ok (.iload_n 1, 1) := by decide +kernel
theorem dX10_script_36 : decode cX10_script 36 = .ok (.iastore, 1) := by decide +kernel
theorem dX10_script_37 : decode cX10_script 37 = .ok (.aload_n 0, 1) := by decide +kernel
theorem dX10_script_38 : decode cX10_script 38 = .ok (.dup, 1) := by decide +kernel
theorem dX10_script_39 : decode cX10_script 39 = .ok (.getfield 176, 3) := by decide +kernel
theorem dX10_script_42 : decode cX10_script 42 = .ok (.iconst 1, 1) := by decide +kernel
theorem dX10_script_43 : decode cX10_script 43 = .ok (.iadd, 1) := by decide +kernel
theorem dX10_script_44 : decode cX10_script 44 = .ok (.putfield 176, 3) := by decide +kernel
theorem dX10_script_47 : decode cX10_script 47 = .ok (.aload_n 0, 1) := by decide +kernel
theorem dX10_script_48 : decode cX10_script 48 = .ok (.getfield 176, 3) := by decide +kernel
theorem dX10_script_51 : decode cX10_script 51 = .ok (.ireturn, 1) := by decide +kernel
set_option maxRecDepth 100000 in
theorem ggX10_play_X10_key : GoodIn wsX10_play wsX10_key := goodIn_r _ [8, 1, 9, 10, 11, 12, 13, 14, 15, 7, 16, 17, 18, 19, 20, 21, 22, 23, 24, 25, 26, 27, 28, 29, 30, 31, 32, 33, 34, 35, 36, 37, 38, 39, 40, 41, 42, 43, 44, 45, 46, 47, 48, 49, 50, 51, 52, 53, 54, 55, 56, 57, 58, 59, 60, 61, 62, 63, 64, 65, 66, 67, 68, 69, 70, 71, 72, 73, 74, 75, 76, 77, 78, 79, 80, 81, 82, 83, 84, 85, 86, 87, 88, 89, 90, 91, 92, 93, 94, 95, 96, 97, 98, 99, 100, 101, 102, 103, 104, 105, 106, 107, 108, 109, 110, 111, 112, 113, 114, 115, 116, 117, 118, 119, 120, 121, 122, 123, 124, 125, 126, 127, 128, 129, 130, 131, 132, 133] rfl (by decide +kernel)
set_option maxRecDepth 100000 in
theorem gX10_play_X10_key : GoodIn wsX10_play (wsV RX10 179 RX10 yX10_key wsX10_key) := goodIn_app (goodIn_of _ (by decide +kernel)) ggX10_play_X10_key
theorem dX10_play_0 : decode cX10_play 0 = .ok (.aload_n 0, 1) := by decide +kernel
theorem dX10_play_1 : decode cX10_play 1 = .ok (.getfield 121, 3) := by decide +kernel
theorem dX10_play_4 : decode cX10_play 4 = .ok (.ifCond .ne 5, 3) := by decide +kernel
theorem dX10_play_7 : decode cX10_play 7 = .ok (.iconst (-1), 1) := by decide +kernel
theorem dX10_play_8 : decode cX10_play 8 = .ok (.ireturn, 1) := by decide +kernel
theorem dX10_play_9 : decode cX10_play 9 = .ok (.iconst 0, 1) := by decide +kernel
theorem dX10_play_10 : decode cX10_play 10 = .ok (.istore_n 1, 1) := by decide +kernel
theorem dX10_play_11 : decode cX10_play 11 = .ok (.aload_n 0, 1) := by decide +kernel
theorem dX10_play_12 : decode cX10_play 12 = .ok (.getfield 121, 3) := by decide +kernel
theorem dX10_play_15 : decode cX10_play 15 = .ok (.ifCond .eq 28, 3) := by decide +kernel
theorem dX10_play_18 : decode cX10_play 18 = .ok (.iload_n 1, 1) := by decide +kernel
theorem dX10_play_19 : decode cX10_play 19 = .ok (.aload_n 0, 1) := by decide +kernel
theorem dX10_play_20 : decode cX10_play 20 = .ok (.getfield 176, 3) := by decide +kernel
theorem dX10_play_23 : decode cX10_play 23 = .ok (.if_icmp .ge 20, 3) := by decide +kernel
theorem dX10_play_26 : decode cX10_play 26 = .ok (.aload_n 0, 1) := by decide +kernel
theorem dX10_play_27 : decode cX10_play 27 = .ok (.aload_n 0, 1) := by decide +kernel
theorem dX10_play_28 : decode cX10_play 28 = .ok (.getfield 44, 3) := by decide +kernel
theorem dX10_play_31 : decode cX10_play 31 = .ok (.iload_n 1, 1) := by decide +kernel
theorem dX10_play_32 : decode cX10_play 32 = .ok (.iaload, 1) := by decide +kernel
theorem dX10_play_33 : decode cX10_play 33 = .ok (.invokevirtual 179, 3) := by decide +kernel
theorem dX10_play_36 : decode cX10_play 36 = .ok (.istore_n 2, 1) := by decide +kernel
theorem dX10_play_37 : decode cX10_play 37 = .ok (.iinc 1 1, 3) := by decide +kernel
theorem dX10_play_40 : decode cX10_play 40 = .ok (.goto (-29), 3) := by decide +kernel
theorem dX10_play_43 : decode cX10_play 43 = .ok (.iload_n 1, 1) := by decide +kernel
theorem dX10_play_44 : decode cX10_play 44 = .ok (.istore_n 2, 1) := by decide +kernel
theorem dX10_play_45 : decode cX10_play 45 = .ok (.iload_n 2, 1) := by decide +kernel
theorem dX10_play_46 : decode cX10_play 46 = .ok (.aload_n 0, 1) := by decide +kernel
theorem dX10_play_47 : decode cX10_play 47 = .ok (.getfield 176, 3) := by decide +kernel
theorem dX10_play_50 : decode cX10_play 50 = .ok (.if_icmp .ge 23, 3) := by decide +kernel
theorem dX10_play_53 : decode cX10_play 53 = .ok (.aload_n 0, 1) := by decide +kernel
theorem dX10_play_54 : decode cX10_play 54 = .ok (.getfield 44, 3) := by decide +kernel
theorem dX10_play_57 : decode cX10_play 57 = .ok (.iload_n 2, 1) := by decide +kernel
theorem dX10_play_58 : decode cX10_play 58 = .ok (.iload_n 1, 1) := by decide +kernel
theorem dX10_play_59 : decode cX10_play 59 = .ok (.isub, 1) := by decide +kernel
theorem dX10_play_60 : decode cX10_play 60 = .ok (.aload_n 0, 1) := by decide +kernel
theorem dX10_play_61 : decode cX10_play 61 = .ok (.getfield 44, 3) := by decide +kernel
theorem dX10_play_64 : decode cX10_play 64 = .ok (.iload_n 2, 1) := by decide +kernel
theorem dX10_play_65 : decode cX10_play 65 = .ok (.iaload, 1) := by decide +kernel
theorem dX10_play_66 : decode cX10_play 66 = .ok (.iastore, 1) := by decide +kernel
theorem dX10_play_67 : decode cX10_play 67 = .ok (.iinc 2 1, 3) := by decide +kernel
theorem dX10_play_70 : decode cX10_play 70 = .ok (.goto (-25), 3) := by decide +kernel
theorem dX10_play_73 : decode cX10_play 73 = .ok (.aload_n 0, 1) := by decide +kernel
theorem dX10_play_74 : decode cX10_play 74 = .ok (.dup, 1) := by decide +kernel
theorem dX10_play_75 : decode cX10_play 75 = .ok (.getfield 176, 3) := by decide +kernel
theorem dX10_play_78 : decode cX10_play 78 = .ok (.iload_n 1, 1) := by decide +kernel
theorem dX10_play_79 : decode cX10_play 79 = .ok (.isub, 1) := by decide +kernel
theorem dX10_play_80 : decode cX10_play 80 = .ok (.putfield 176, 3) := by decide +kernel
theorem dX10_play_83 : decode cX10_play 83 = .ok (.iload_n 1, 1) := by decide +kernel
theorem dX10_play_84 : decode cX10_play 84 = .ok (.ireturn, 1) := by decide +kernel
theorem dX10_told_0 : decode cX10_told 0 = .ok (.iload_n 1, 1) := by decide +kernel
theorem dX10_told_1 : decode cX10_told 1 = .ok (.tableswitch 128 0 7 #[47, 60, 76, 92, 97, 102, 107, 112], 47) := by decide +kernel
theorem dX10_told_48 : decode cX10_told 48 = .ok (.aload_n 0, 1) := by decide +kernel
theorem dX10_told_49 : decode cX10_told 49 = .ok (.getfield 121, 3) := by decide +kernel
theorem dX10_told_52 : decode cX10_told 52 = .ok (.ifCond .eq 7, 3) := by decide +kernel
theorem dX10_told_55 : decode cX10_told 55 = .ok (.iconst 1, 1) := by decide +kernel
theorem dX10_told_56 : decode cX10_told 56 = .ok (.goto 4, 3) := by decide +kernel
theorem dX10_told_59 : decode cX10_told 59 = .ok (.iconst 0, 1) := by decide +kernel
theorem dX10_told_60 : decode cX10_told 60 = .ok (.ireturn, 1) := by decide +kernel
theorem dX10_told_61 : decode cX10_told 61 = .ok (.aload_n 0, 1) := by decide +kernel
theorem dX10_told_62 : decode cX10_told 62 = .ok (.getfield 121, 3) := by decide +kernel
theorem dX10_told_65 : decode cX10_told 65 = .ok (.ifCond .eq 10, 3) := by decide +kernel
theorem dX10_told_68 : decode cX10_told 68 = .ok (.aload_n 0, 1) := by decide +kernel
theorem dX10_told_69 : decode cX10_told 69 = .ok (.getfield 134, 3) := by decide +kernel
theorem dX10_told_72 : decode cX10_told 72 = .ok (.goto 4, 3) := by decide +kernel
theorem dX10_told_75 : decode cX10_told 75 = .ok (.iconst 0, 1) := by decide +kernel
theorem dX10_told_76 : decode cX10_told 76 = .ok (.ireturn, 1) := by decide +kernel
theorem dX10_told_77 : decode cX10_told 77 = .ok (.aload_n 0, 1) := by decide +kernel
theorem dX10_told_78 : decode cX10_told 78 = .ok (.getfield 121, 3) := by decide +kernel
theorem dX10_told_81 : decode cX10_told 81 = .ok (.ifCond .eq 10, 3) := by decide +kernel
theorem dX10_told_84 : decode cX10_told 84 = .ok (.aload_n 0, 1) := by decide +kernel
theorem dX10_told_85 : decode cX10_told 85 = .ok (.getfield 131, 3) := by decide +kernel
theorem dX10_told_88 : decode cX10_told 88 = .ok (.goto 4, 3) := by decide +kernel
theorem dX10_told_91 : decode cX10_told 91 = .ok (.iconst 0, 1) := by decide +kernel
theorem dX10_told_92 : decode cX10_told 92 = .ok (.ireturn, 1) := by decide +kernel
theorem dX10_told_93 : decode cX10_told 93 = .ok (.aload_n 0, 1) := by decide +kernel
theorem dX10_told_94 : decode cX10_told 94 = .ok (.getfield 176, 3) := by decide +kernel
theorem dX10_told_97 : decode cX10_told 97 = .ok (.ireturn, 1) := by decide +kernel
theorem dX10_told_98 : decode cX10_told 98 = .ok (.aload_n 0, 1) := by decide +kernel
theorem dX10_told_99 : decode cX10_told 99 = .ok (.getfield 155, 3) := by decide +kernel
theorem dX10_told_102 : decode cX10_told 102 = .ok (.ireturn, 1) := by decide +kernel
theorem dX10_told_103 : decode cX10_told 103 = .ok (.aload_n 0, 1) := by decide +kernel
theorem dX10_told_104 : decode cX10_told 104 = .ok (.getfield 149, 3) := by decide +kernel
theorem dX10_told_107 : decode cX10_told 107 = .ok (.ireturn, 1) := by decide +kernel
theorem dX10_told_108 : decode cX10_told 108 = .ok (.aload_n 0, 1) := by decide +kernel
theorem dX10_told_109 : decode cX10_told 109 = .ok (.getfield 31, 3) := by decide +kernel
theorem dX10_told_112 : decode cX10_told 112 = .ok (.ireturn, 1) := by decide +kernel
theorem dX10_told_113 : decode cX10_told 113 = .ok (.aload_n 0, 1) := by decide +kernel
theorem dX10_told_114 : decode cX10_told 114 = .ok (.getfield 121, 3) := by decide +kernel
theorem dX10_told_117 : decode cX10_told 117 = .ok (.ifCond .eq 10, 3) := by decide +kernel
theorem dX10_told_120 : decode cX10_told 120 = .ok (.aload_n 0, 1) := by decide +kernel
theorem dX10_told_121 : decode cX10_told 121 = .ok (.getfield 146, 3) := by decide +kernel
theorem dX10_told_124 : decode cX10_told 124 = .ok (.goto 4, 3) := by decide +kernel
theorem dX10_told_127 : decode cX10_told 127 = .ok (.iconst 0, 1) := by decide +kernel
theorem dX10_told_128 : decode cX10_told 128 = .ok (.ireturn, 1) := by decide +kernel
theorem dX10_told_129 : decode cX10_told 129 = .ok (.bipush (-2), 2) := by decide +kernel
theorem dX10_told_131 : decode cX10_told 131 = .ok (.ireturn, 1) := by decide +kernel
set_option maxRecDepth 100000 in
theorem ggX10_typed_X10_in : GoodIn wsX10_typed wsX10_in := goodIn_r _ [7] rfl (by decide +kernel)
set_option maxRecDepth 100000 in
theorem gX10_typed_X10_in : GoodIn wsX10_typed (va_wsS RX10 47 yX10_in wsX10_in) := goodIn_app (goodIn_of _ (by decide +kernel)) ggX10_typed_X10_in
theorem dX10_typed_0 : decode cX10_typed 0 = .ok (.aload_n 0, 1) := by decide +kernel
theorem dX10_typed_1 : decode cX10_typed 1 = .ok (.getfield 121, 3) := by decide +kernel
theorem dX10_typed_4 : decode cX10_typed 4 = .ok (.ifCond .ne 7, 3) := by decide +kernel
theorem dX10_typed_7 : decode cX10_typed 7 = .ok (.iconst (-1), 1) := by decide +kernel
theorem dX10_typed_8 : decode cX10_typed 8 = .ok (.goto 28, 3) := by decide +kernel
theorem dX10_typed_11 : decode cX10_typed 11 = .ok (.iload_n 1, 1) := by decide +kernel
theorem dX10_typed_12 : decode cX10_typed 12 = .ok (.iconst 0, 1) := by decide +kernel
theorem dX10_typed_13 : decode cX10_typed 13 = .ok (.aload_n 0, 1) := by decide +kernel
theorem dX10_typed_14 : decode cX10_typed 14 = .ok (.getfield 134, 3) := by decide +kernel
theorem dX10_typed_17 : decode cX10_typed 17 = .ok (.iconst 1, 1) := by decide +kernel
theorem dX10_typed_18 : decode cX10_typed 18 = .ok (.isub, 1) := by decide +kernel
theorem dX10_typed_19 : decode cX10_typed 19 = .ok (.invokestatic 47, 3) := by decide +kernel
theorem dX10_typed_22 : decode cX10_typed 22 = .ok (.ifCond .eq 12, 3) := by decide +kernel
theorem dX10_typed_25 : decode cX10_typed 25 = .ok (.aload_n 0, 1) := by decide +kernel
theorem dX10_typed_26 : decode cX10_typed 26 = .ok (.getfield 28, 3) := by decide +kernel
theorem dX10_typed_29 : decode cX10_typed 29 = .ok (.iload_n 1, 1) := by decide +kernel
theorem dX10_typed_30 : decode cX10_typed 30 = .ok (.iaload, 1) := by decide +kernel
theorem dX10_typed_31 : decode cX10_typed 31 = .ok (.goto 5, 3) := by decide +kernel
theorem dX10_typed_34 : decode cX10_typed 34 = .ok (.bipush (-2), 2) := by decide +kernel
theorem dX10_typed_36 : decode cX10_typed 36 = .ok (.ireturn, 1) := by decide +kernel
set_option maxRecDepth 100000 in
theorem ggX10_kept_X10_in : GoodIn wsX10_kept wsX10_in := goodIn_r _ [7] rfl (by decide +kernel)
set_option maxRecDepth 100000 in
theorem gX10_kept_X10_in : GoodIn wsX10_kept (va_wsS RX10 47 yX10_in wsX10_in) := goodIn_app (goodIn_of _ (by decide +kernel)) ggX10_kept_X10_in
theorem dX10_kept_0 : decode cX10_kept 0 = .ok (.iload_n 1, 1) := by decide +kernel
theorem dX10_kept_1 : decode cX10_kept 1 = .ok (.iconst 0, 1) := by decide +kernel
theorem dX10_kept_2 : decode cX10_kept 2 = .ok (.aload_n 0, 1) := by decide +kernel
theorem dX10_kept_3 : decode cX10_kept 3 = .ok (.getfield 155, 3) := by decide +kernel
theorem dX10_kept_6 : decode cX10_kept 6 = .ok (.iconst 1, 1) := by decide +kernel
theorem dX10_kept_7 : decode cX10_kept 7 = .ok (.isub, 1) := by decide +kernel
theorem dX10_kept_8 : decode cX10_kept 8 = .ok (.invokestatic 47, 3) := by decide +kernel
theorem dX10_kept_11 : decode cX10_kept 11 = .ok (.ifCond .eq 48, 3) := by decide +kernel
theorem dX10_kept_14 : decode cX10_kept 14 = .ok (.iload_n 2, 1) := by decide +kernel
theorem dX10_kept_15 : decode cX10_kept 15 = .ok (.iconst 0, 1) := by decide +kernel
theorem dX10_kept_16 : decode cX10_kept 16 = .ok (.aload_n 0, 1) := by decide +kernel
theorem dX10_kept_17 : decode cX10_kept 17 = .ok (.getfield 35, 3) := by decide +kernel
theorem dX10_kept_20 : decode cX10_kept 20 = .ok (.aload_n 0, 1) := by decide +kernel
theorem dX10_kept_21 : decode cX10_kept 21 = .ok (.getfield 155, 3) := by decide +kernel
theorem dX10_kept_24 : decode cX10_kept 24 = .ok (.iconst 1, 1) := by decide +kernel
theorem dX10_kept_25 : decode cX10_kept 25 = .ok (.isub, 1) := by decide +kernel
theorem dX10_kept_26 : decode cX10_kept 26 = .ok (.iload_n 1, 1) := by decide +kernel
theorem dX10_kept_27 : decode cX10_kept 27 = .ok (.isub, 1) := by decide +kernel
theorem dX10_kept_28 : decode cX10_kept 28 = .ok (.iaload, 1) := by decide +kernel
theorem dX10_kept_29 : decode cX10_kept 29 = .ok (.iconst 1, 1) := by decide +kernel
theorem dX10_kept_30 : decode cX10_kept 30 = .ok (.isub, 1) := by decide +kernel
theorem dX10_kept_31 : decode cX10_kept 31 = .ok (.invokestatic 47, 3) := by decide +kernel
theorem dX10_kept_34 : decode cX10_kept 34 = .ok (.ifCond .eq 25, 3) := by decide +kernel
theorem dX10_kept_37 : decode cX10_kept 37 = .ok (.aload_n 0, 1) := by decide +kernel
theorem dX10_kept_38 : decode cX10_kept 38 = .ok (.getfield 38, 3) := by decide +kernel
theorem dX10_kept_41 : decode cX10_kept 41 = .ok (.sipush 256, 3) := by decide +kernel
theorem dX10_kept_44 : decode cX10_kept 44 = .ok (.aload_n 0, 1) := by decide +kernel
theorem dX10_kept_45 : decode cX10_kept 45 = .ok (.getfield 155, 3) := by decide +kernel
theorem dX10_kept_48 : decode cX10_kept 48 = .ok (.iconst 1, 1) := by decide +kernel
theorem dX10_kept_49 : decode cX10_kept 49 = .ok (.isub, 1) := by decide +kernel
theorem dX10_kept_50 : decode cX10_kept 50 = .ok (.iload_n 1, 1) := by decide +kernel
theorem dX10_kept_51 : decode cX10_kept 51 = .ok (.isub, 1) := by decide +kernel
theorem dX10_kept_52 : decode cX10_kept 52 = .ok (.imul, 1) := by decide +kernel
theorem dX10_kept_53 : decode cX10_kept 53 = .ok (.iload_n 2, 1) := by decide +kernel
theorem dX10_kept_54 : decode cX10_kept 54 = .ok (.iadd, 1) := by decide +kernel
theorem dX10_kept_55 : decode cX10_kept 55 = .ok (.iaload, 1) := by decide +kernel
theorem dX10_kept_56 : decode cX10_kept 56 = .ok (.goto 5, 3) := by decide +kernel
theorem dX10_kept_59 : decode cX10_kept 59 = .ok (.bipush (-2), 2) := by decide +kernel
theorem dX10_kept_61 : decode cX10_kept 61 = .ok (.ireturn, 1) := by decide +kernel
set_option maxRecDepth 100000 in
theorem ggX10_echo_X10_in : GoodIn wsX10_echo wsX10_in := goodIn_r _ [6] rfl (by decide +kernel)
set_option maxRecDepth 100000 in
theorem gX10_echo_X10_in : GoodIn wsX10_echo (va_wsS RX10 47 yX10_in wsX10_in) := goodIn_app (goodIn_of _ (by decide +kernel)) ggX10_echo_X10_in
theorem dX10_echo_0 : decode cX10_echo 0 = .ok (.iload_n 1, 1) := by decide +kernel
theorem dX10_echo_1 : decode cX10_echo 1 = .ok (.iconst 0, 1) := by decide +kernel
theorem dX10_echo_2 : decode cX10_echo 2 = .ok (.aload_n 0, 1) := by decide +kernel
theorem dX10_echo_3 : decode cX10_echo 3 = .ok (.getfield 149, 3) := by decide +kernel
theorem dX10_echo_6 : decode cX10_echo 6 = .ok (.iconst 1, 1) := by decide +kernel
theorem dX10_echo_7 : decode cX10_echo 7 = .ok (.isub, 1) := by decide +kernel
theorem dX10_echo_8 : decode cX10_echo 8 = .ok (.invokestatic 47, 3) := by decide +kernel
theorem dX10_echo_11 : decode cX10_echo 11 = .ok (.ifCond .eq 28, 3) := by decide +kernel
theorem dX10_echo_14 : decode cX10_echo 14 = .ok (.iload_n 1, 1) := by decide +kernel
theorem dX10_echo_15 : decode cX10_echo 15 = .ok (.aload_n 0, 1) := by decide +kernel
theorem dX10_echo_16 : decode cX10_echo 16 = .ok (.getfield 149, 3) := by decide +kernel
theorem dX10_echo_19 : decode cX10_echo 19 = .ok (.sipush 2000, 3) := by decide +kernel
theorem dX10_echo_22 : decode cX10_echo 22 = .ok (.isub, 1) := by decide +kernel
theorem dX10_echo_23 : decode cX10_echo 23 = .ok (.if_icmp .lt 16, 3) := by decide +kernel
theorem dX10_echo_26 : decode cX10_echo 26 = .ok (.aload_n 0, 1) := by decide +kernel
theorem dX10_echo_27 : decode cX10_echo 27 = .ok (.getfield 41, 3) := by decide +kernel
theorem dX10_echo_30 : decode cX10_echo 30 = .ok (.iload_n 1, 1) := by decide +kernel
theorem dX10_echo_31 : decode cX10_echo 31 = .ok (.sipush 2000, 3) := by decide +kernel
theorem dX10_echo_34 : decode cX10_echo 34 = .ok (.irem, 1) := by decide +kernel
theorem dX10_echo_35 : decode cX10_echo 35 = .ok (.iaload, 1) := by decide +kernel
theorem dX10_echo_36 : decode cX10_echo 36 = .ok (.goto 5, 3) := by decide +kernel
theorem dX10_echo_39 : decode cX10_echo 39 = .ok (.bipush (-2), 2) := by decide +kernel
theorem dX10_echo_41 : decode cX10_echo 41 = .ok (.ireturn, 1) := by decide +kernel
