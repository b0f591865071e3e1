set_option maxRecDepth 100000 in
theorem ggX10_init_X10_in : GoodIn wsX10_init wsX10_in := goodIn_r _ [21] rfl (by decide +kernel)
set_option maxRecDepth 100000 in
theorem gX10_init_X10_in : GoodIn wsX10_init (va_wsS RX10 47 yX10_in wsX10_in) := goodIn_app (goodIn_of _ (by decide +kernel)) ggX10_init_X10_in
theorem dX10_init_0 : decode cX10_init 0 = .ok (.aload_n 0, 1) := by decide +kernel
theorem dX10_init_1 : decode cX10_init 1 = .ok (.invokespecial 1, 3) := by decide +kernel
theorem dX10_init_4 : decode cX10_init 4 = .ok (.aload_n 0, 1) := by decide +kernel
theorem dX10_init_5 : decode cX10_init 5 = .ok (.sipush 4096, 3) := by decide +kernel
theorem dX10_init_8 : decode cX10_init 8 = .ok (.newarray .int, 2) := by decide +kernel
theorem dX10_init_10 : decode cX10_init 10 = .ok (.putfield 7, 3) := by decide +kernel
theorem dX10_init_13 : decode cX10_init 13 = .ok (.aload_n 0, 1) := by decide +kernel
theorem dX10_init_14 : decode cX10_init 14 = .ok (.sipush 1040, 3) := by decide +kernel
theorem dX10_init_17 : decode cX10_init 17 = .ok (.newarray .int, 2) := by decide +kernel
theorem dX10_init_19 : decode cX10_init 19 = .ok (.putfield 13, 3) := by decide +kernel
theorem dX10_init_22 : decode cX10_init 22 = .ok (.aload_n 0, 1) := by decide +kernel
theorem dX10_init_23 : decode cX10_init 23 = .ok (.bipush 6, 2) := by decide +kernel
theorem dX10_init_25 : decode cX10_init 25 = .ok (.newarray .int, 2) := by decide +kernel
theorem dX10_init_27 : decode cX10_init 27 = .ok (.putfield 16, 3) := by decide +kernel
theorem dX10_init_30 : decode cX10_init 30 = .ok (.aload_n 0, 1) := by decide +kernel
theorem dX10_init_31 : decode cX10_init 31 = .ok (.sipush 4096, 3) := by decide +kernel
theorem dX10_init_34 : decode cX10_init 34 = .ok (.newarray .int, 2) := by decide +kernel
theorem dX10_init_36 : decode cX10_init 36 = .ok (.putfield 19, 3) := by decide +kernel
theorem dX10_init_39 : decode cX10_init 39 = .ok (.aload_n 0, 1) := by decide +kernel
theorem dX10_init_40 : decode cX10_init 40 = .ok (.sipush 4096, 3) := by decide +kernel
theorem dX10_init_43 : decode cX10_init 43 = .ok (.newarray .int, 2) := by decide +kernel
theorem dX10_init_45 : decode cX10_init 45 = .ok (.putfield 22, 3) := by decide +kernel
theorem dX10_init_48 : decode cX10_init 48 = .ok (.aload_n 0, 1) := by decide +kernel
theorem dX10_init_49 : decode cX10_init 49 = .ok (.sipush 4096, 3) := by decide +kernel
theorem dX10_init_52 : decode cX10_init 52 = .ok (.newarray .int, 2) := by decide +kernel
theorem dX10_init_54 : decode cX10_init 54 = .ok (.putfield 25, 3) := by decide +kernel
theorem dX10_init_57 : decode cX10_init 57 = .ok (.aload_n 0, 1) := by decide +kernel
theorem dX10_init_58 : decode cX10_init 58 = .ok (.sipush 256, 3) := by decide +kernel
theorem dX10_init_61 : decode cX10_init 61 = .ok (.newarray .int, 2) := by decide +kernel
theorem dX10_init_63 : decode cX10_init 63 = .ok (.putfield 28, 3) := by decide +kernel
theorem dX10_init_66 : decode cX10_init 66 = .ok (.aload_n 0, 1) := by decide +kernel
theorem dX10_init_67 : decode cX10_init 67 = .ok (.iconst (-1), 1) := by decide +kernel
theorem dX10_init_68 : decode cX10_init 68 = .ok (.putfield 31, 3) := by decide +kernel
theorem dX10_init_71 : decode cX10_init 71 = .ok (.aload_n 0, 1) := by decide +kernel
theorem dX10_init_72 : decode cX10_init 72 = .ok (.bipush 8, 2) := by decide +kernel
theorem dX10_init_74 : decode cX10_init 74 = .ok (.newarray .int, 2) := by decide +kernel
theorem dX10_init_76 : decode cX10_init 76 = .ok (.putfield 35, 3) := by decide +kernel
theorem dX10_init_79 : decode cX10_init 79 = .ok (.aload_n 0, 1) := by decide +kernel
theorem dX10_init_80 : decode cX10_init 80 = .ok (.sipush 2048, 3) := by decide +kernel
theorem dX10_init_83 : decode cX10_init 83 = .ok (.newarray .int, 2) := by decide +kernel
theorem dX10_init_85 : decode cX10_init 85 = .ok (.putfield 38, 3) := by decide +kernel
theorem dX10_init_88 : decode cX10_init 88 = .ok (.aload_n 0, 1) := by decide +kernel
theorem dX10_init_89 : decode cX10_init 89 = .ok (.sipush 2000, 3) := by decide +kernel
theorem dX10_init_92 : decode cX10_init 92 = .ok (.newarray .int, 2) := by decide +kernel
theorem dX10_init_94 : decode cX10_init 94 = .ok (.putfield 41, 3) := by decide +kernel
theorem dX10_init_97 : decode cX10_init 97 = .ok (.aload_n 0, 1) := by decide +kernel
theorem dX10_init_98 : decode cX10_init 98 = .ok (.sipush 300, 3) := by decide +kernel
theorem dX10_init_101 : decode cX10_init 101 = .ok (.newarray .int, 2) := by decide +kernel
theorem dX10_init_103 : decode cX10_init 103 = .ok (.putfield 44, 3) := by decide +kernel
theorem dX10_init_106 : decode cX10_init 106 = .ok (.aload_n 0, 1) := by decide +kernel
theorem dX10_init_107 : decode cX10_init 107 = .ok (.iload_n 1, 1) := by decide +kernel
theorem dX10_init_108 : decode cX10_init 108 = .ok (.iconst 1, 1) := by decide +kernel
theorem dX10_init_109 : decode cX10_init 109 = .ok (.bipush 8, 2) := by decide +kernel
theorem dX10_init_111 : decode cX10_init 111 = .ok (.invokestatic 47, 3) := by decide +kernel
theorem dX10_init_114 : decode cX10_init 114 = .ok (.ifCond .eq 7, 3) := by decide +kernel
theorem dX10_init_117 : decode cX10_init 117 = .ok (.iload_n 1, 1) := by decide +kernel
theorem dX10_init_118 : decode cX10_init 118 = .ok (.goto 4, 3) := by decide +kernel
theorem dX10_init_121 : decode cX10_init 121 = .ok (.iconst 5, 1) := by decide +kernel
theorem dX10_init_122 : decode cX10_init 122 = .ok (.putfield 51, 3) := by decide +kernel
theorem dX10_init_125 : decode cX10_init 125 = .ok (.return_, 1) := by decide +kernel
theorem dX10_in_0 : decode cX10_in 0 = .ok (.iload_n 0, 1) := by decide +kernel
theorem dX10_in_1 : decode cX10_in 1 = .ok (.iload_n 1, 1) := by decide +kernel
theorem dX10_in_2 : decode cX10_in 2 = .ok (.if_icmp .lt 12, 3) := by decide +kernel
theorem dX10_in_5 : decode cX10_in 5 = .ok (.iload_n 0, 1) := by decide +kernel
theorem dX10_in_6 : decode cX10_in 6 = .ok (.iload_n 2, 1) := by decide +kernel
theorem dX10_in_7 : decode cX10_in 7 = .ok (.if_icmp .gt 7, 3) := by decide +kernel
theorem dX10_in_10 : decode cX10_in 10 = .ok (.iconst 1, 1) := by decide +kernel
theorem dX10_in_11 : decode cX10_in 11 = .ok (.goto 4, 3) := by decide +kernel
theorem dX10_in_14 : decode cX10_in 14 = .ok (.iconst 0, 1) := by decide +kernel
theorem dX10_in_15 : decode cX10_in 15 = .ok (.ireturn, 1) := by decide +kernel
theorem dX10_within_0 : decode cX10_within 0 = .ok (.lload_n 2, 1) := by decide +kernel
theorem dX10_within_1 : decode cX10_within 1 = .ok (.lconst 0, 1) := by decide +kernel
theorem dX10_within_2 : decode cX10_within 2 = .ok (.lcmp, 1) := by decide +kernel
theorem dX10_within_3 : decode cX10_within 3 = .ok (.ifCond .eq 19, 3) := by decide +kernel
theorem dX10_within_6 : decode cX10_within 6 = .ok (.lload_n 0, 1) := by decide +kernel
theorem dX10_within_7 : decode cX10_within 7 = .ok (.lconst 0, 1) := by decide +kernel
theorem dX10_within_8 : decode cX10_within 8 = .ok (.lcmp, 1) := by decide +kernel
theorem dX10_within_9 : decode cX10_within 9 = .ok (.ifCond .lt 17, 3) := by decide +kernel
theorem dX10_within_12 : decode cX10_within 12 = .ok (.lload_n 0, 1) := by decide +kernel
theorem dX10_within_13 : decode cX10_within 13 = .ok (.lload_n 2, 1) := by decide +kernel
theorem dX10_within_14 : decode cX10_within 14 = .ok (.ladd, 1) := by decide +kernel
theorem dX10_within_15 : decode cX10_within 15 = .ok (.ldc2_w 54, 3) := by decide +kernel
theorem dX10_within_18 : decode cX10_within 18 = .ok (.lcmp, 1) := by decide +kernel
theorem dX10_within_19 : decode cX10_within 19 = .ok (.ifCond .gt 7, 3) := by decide +kernel
theorem dX10_within_22 : decode cX10_within 22 = .ok (.iconst 1, 1) := by decide +kernel
theorem dX10_within_23 : decode cX10_within 23 = .ok (.goto 4, 3) := by decide +kernel
theorem dX10_within_26 : decode cX10_within 26 = .ok (.iconst 0, 1) := by decide +kernel
theorem dX10_within_27 : decode cX10_within 27 = .ok (.ireturn, 1) := by decide +kernel
set_option maxRecDepth 100000 in
theorem ggX10_put_X10_in : GoodIn wsX10_put wsX10_in := goodIn_r _ [6] rfl (by decide +kernel)
set_option maxRecDepth 100000 in
theorem gX10_put_X10_in : GoodIn wsX10_put (va_wsS RX10 47 yX10_in wsX10_in) := goodIn_app (goodIn_of _ (by decide +kernel)) ggX10_put_X10_in
set_option maxRecDepth 100000 in
theorem ggX10_put_X10_within : GoodIn wsX10_put wsX10_within := goodIn_r _ [9, 10] rfl (by decide +kernel)
set_option maxRecDepth 100000 in
theorem gX10_put_X10_within : GoodIn wsX10_put (va_wsS RX10 56 yX10_within wsX10_within) := goodIn_app (goodIn_of _ (by decide +kernel)) ggX10_put_X10_within
theorem dX10_put_0 : decode cX10_put 0 = .ok (.iload_n 2, 1) := by decide +kernel
theorem dX10_put_1 : decode cX10_put 1 = .ok (.iconst 1, 1) := by decide +kernel
theorem dX10_put_2 : decode cX10_put 2 = .ok (.bipush 8, 2) := by decide +kernel
theorem dX10_put_4 : decode cX10_put 4 = .ok (.invokestatic 47, 3) := by decide +kernel
theorem dX10_put_7 : decode cX10_put 7 = .ok (.ifCond .ne 6, 3) := by decide +kernel
theorem dX10_put_10 : decode cX10_put 10 = .ok (.bipush (-2), 2) := by decide +kernel
theorem dX10_put_12 : decode cX10_put 12 = .ok (.ireturn, 1) := by decide +kernel
theorem dX10_put_13 : decode cX10_put 13 = .ok (.iload_n 1, 1) := by decide +kernel
theorem dX10_put_14 : decode cX10_put 14 = .ok (.i2l, 1) := by decide +kernel
theorem dX10_put_15 : decode cX10_put 15 = .ok (.iload_n 2, 1) := by decide +kernel
theorem dX10_put_16 : decode cX10_put 16 = .ok (.i2l, 1) := by decide +kernel
theorem dX10_put_17 : decode cX10_put 17 = .ok (.invokestatic 56, 3) := by decide +kernel
theorem dX10_put_20 : decode cX10_put 20 = .ok (.ifCond .ne 6, 3) := by decide +kernel
theorem dX10_put_23 : decode cX10_put 23 = .ok (.bipush (-3), 2) := by decide +kernel
theorem dX10_put_25 : decode cX10_put 25 = .ok (.ireturn, 1) := by decide +kernel
theorem dX10_put_26 : decode cX10_put 26 = .ok (.iconst 0, 1) := by decide +kernel
theorem dX10_put_27 : decode cX10_put 27 = .ok (.istore 5, 2) := by decide +kernel
theorem dX10_put_29 : decode cX10_put 29 = .ok (.iload 5, 2) := by decide +kernel
theorem dX10_put_31 : decode cX10_put 31 = .ok (.iload_n 2, 1) := by decide +kernel
theorem dX10_put_32 : decode cX10_put 32 = .ok (.if_icmp .ge 34, 3) := by decide +kernel
theorem dX10_put_35 : decode cX10_put 35 = .ok (.aload_n 0, 1) := by decide +kernel
theorem dX10_put_36 : decode cX10_put 36 = .ok (.getfield 7, 3) := by decide +kernel
theorem dX10_put_39 : decode cX10_put 39 = .ok (.iload_n 1, 1) := by decide +kernel
theorem dX10_put_40 : decode cX10_put 40 = .ok (.iload 5, 2) := by decide +kernel
theorem dX10_put_42 : decode cX10_put 42 = .ok (.iadd, 1) := by decide +kernel
theorem dX10_put_43 : decode cX10_put 43 = .ok (.lload_n 3, 1) := by decide +kernel
theorem dX10_put_44 : decode cX10_put 44 = .ok (.bipush 8, 2) := by decide +kernel
theorem dX10_put_46 : decode cX10_put 46 = .ok (.iload_n 2, 1) := by decide +kernel
theorem dX10_put_47 : decode cX10_put 47 = .ok (.iconst 1, 1) := by decide +kernel
theorem dX10_put_48 : decode cX10_put 48 = .ok (.isub, 1) := by decide +kernel
theorem dX10_put_49 : decode cX10_put 49 = .ok (.iload 5, 2) := by decide +kernel
theorem dX10_put_51 : decode cX10_put 51 = .ok (.isub, 1) := by decide +kernel
theorem dX10_put_52 : decode cX10_put 52 = .ok (.imul, 1) := by decide +kernel
theorem dX10_put_53 : decode cX10_put 53 = .ok (.lshr, 1) := by decide +kernel
theorem dX10_put_54 : decode cX10_put 54 = .ok (.ldc2_w 60, 3) := by decide +kernel
theorem dX10_put_57 : decode cX10_put 57 = .ok (.land, 1) := by decide +kernel
theorem dX10_put_58 : decode cX10_put 58 = .ok (.l2i, 1) := by decide +kernel
theorem dX10_put_59 : decode cX10_put 59 = .ok (.iastore, 1) := by decide +kernel
theorem dX10_put_60 : decode cX10_put 60 = .ok (.iinc 5 1, 3) := by decide +kernel
theorem dX10_put_63 : decode cX10_put 63 = .ok (.goto (-34), 3) := by decide +kernel
theorem dX10_put_66 : decode cX10_put 66 = .ok (.iload_n 1, 1) := by decide +kernel
theorem dX10_put_67 : decode cX10_put 67 = .ok (.iload_n 2, 1) := by decide +kernel
theorem dX10_put_68 : decode cX10_put 68 = .ok (.iadd, 1) := by decide +kernel
theorem dX10_put_69 : decode cX10_put 69 = .ok (.ireturn, 1) := by decide +kernel
set_option maxRecDepth 100000 in
theorem ggX10_at_X10_within : GoodIn wsX10_at wsX10_within := goodIn_r _ [5, 6] rfl (by decide +kernel)
set_option maxRecDepth 100000 in
theorem gX10_at_X10_within : GoodIn wsX10_at (va_wsS RX10 56 yX10_within wsX10_within) := goodIn_app (goodIn_of _ (by decide +kernel)) ggX10_at_X10_within
theorem dX10_at_0 : decode cX10_at 0 = .ok (.iload_n 1, 1) := by decide +kernel
theorem dX10_at_1 : decode cX10_at 1 = .ok (.i2l, 1) := by decide +kernel
theorem dX10_at_2 : decode cX10_at 2 = .ok (.lconst 1, 1) := by decide +kernel
theorem dX10_at_3 : decode cX10_at 3 = .ok (.invokestatic 56, 3) := by decide +kernel
theorem dX10_at_6 : decode cX10_at 6 = .ok (.ifCond .eq 12, 3) := by decide +kernel
theorem dX10_at_9 : decode cX10_at 9 = .ok (.aload_n 0, 1) := by decide +kernel
theorem dX10_at_10 : decode cX10_at 10 = .ok (.getfield 7, 3) := by decide +kernel
theorem dX10_at_13 : decode cX10_at 13 = .ok (.iload_n 1, 1) := by decide +kernel
theorem dX10_at_14 : decode cX10_at 14 = .ok (.iaload, 1) := by decide +kernel
theorem dX10_at_15 : decode cX10_at 15 = .ok (.goto 5, 3) := by decide +kernel
theorem dX10_at_18 : decode cX10_at 18 = .ok (.bipush (-3), 2) := by decide +kernel
theorem dX10_at_20 : decode cX10_at 20 = .ok (.ireturn, 1) := by decide +kernel
theorem dX10_packedSize_0 : decode cX10_packedSize 0 = .ok (.aload_n 0, 1) := by decide +kernel
theorem dX10_packedSize_1 : decode cX10_packedSize 1 = .ok (.getfield 51, 3) := by decide +kernel
theorem dX10_packedSize_4 : decode cX10_packedSize 4 = .ok (.iconst 3, 1) := by decide +kernel
theorem dX10_packedSize_5 : decode cX10_packedSize 5 = .ok (.if_icmp .gt 7, 3) := by decide +kernel
theorem dX10_packedSize_8 : decode cX10_packedSize 8 = .ok (.iconst 4, 1) := by decide +kernel
theorem dX10_packedSize_9 : decode cX10_packedSize 9 = .ok (.goto 5, 3) := by decide +kernel
theorem dX10_packedSize_12 : decode cX10_packedSize 12 = .ok (.bipush 6, 2) := by decide +kernel
theorem dX10_packedSize_14 : decode cX10_packedSize 14 = .ok (.ireturn, 1) := by decide +kernel
theorem dX10_letter_0 : decode cX10_letter 0 = .ok (.aload_n 0, 1) := by decide +kernel
theorem dX10_letter_1 : decode cX10_letter 1 = .ok (.getfield 62, 3) := by decide +kernel
theorem dX10_letter_4 : decode cX10_letter 4 = .ok (.sipush 1040, 3) := by decide +kernel
theorem dX10_letter_7 : decode cX10_letter 7 = .ok (.if_icmp .ge 23, 3) := by decide +kernel
theorem dX10_letter_10 : decode cX10_letter 10 = .ok (.aload_n 0, 1) := by decide +kernel
theorem dX10_letter_11 : decode cX10_letter 11 = .ok (.getfield 13, 3) := by decide +kernel
theorem dX10_letter_14 : decode cX10_letter 14 = .ok (.aload_n 0, 1) := by decide +kernel
theorem dX10_letter_15 : decode cX10_letter 15 = .ok (.getfield 62, 3) := by decide +kernel
theorem dX10_letter_18 : decode cX10_letter 18 = .ok (.iload_n 1, 1) := by decide +kernel
theorem dX10_letter_19 : decode cX10_letter 19 = .ok (.iastore, 1) := by decide +kernel
theorem dX10_letter_20 : decode cX10_letter 20 = .ok (.aload_n 0, 1) := by decide +kernel
theorem dX10_letter_21 : decode cX10_letter 21 = .ok (.dup, 1) := by decide +kernel
theorem dX10_letter_22 : decode cX10_letter 22 = .ok (.getfield 62, 3) := by decide +kernel
theorem dX10_letter_25 : decode cX10_letter 25 = .ok (.iconst 1, 1) := by decide +kernel
theorem dX10_letter_26 : decode cX10_letter 26 = .ok (.iadd, 1) := by decide +kernel
theorem dX10_letter_27 : decode cX10_letter 27 = .ok (.putfield 62, 3) := by decide +kernel
theorem dX10_letter_30 : decode cX10_letter 30 = .ok (.return_, 1) := by decide +kernel
theorem dX10_rowAt_0 : decode cX10_rowAt 0 = .ok (.aload_n 0, 1) := by decide +kernel
theorem dX10_rowAt_1 : decode cX10_rowAt 1 = .ok (.getfield 51, 3) := by decide +kernel
theorem dX10_rowAt_4 : decode cX10_rowAt 4 = .ok (.iconst 1, 1) := by decide +kernel
theorem dX10_rowAt_5 : decode cX10_rowAt 5 = .ok (.if_icmp .le 10, 3) := by decide +kernel
theorem dX10_rowAt_8 : decode cX10_rowAt 8 = .ok (.iload_n 1, 1) := by decide +kernel
theorem dX10_rowAt_9 : decode cX10_rowAt 9 = .ok (.ifCond .ne 6, 3) := by decide +kernel
theorem dX10_rowAt_12 : decode cX10_rowAt 12 = .ok (.bipush 13, 2) := by decide +kernel
theorem dX10_rowAt_14 : decode cX10_rowAt 14 = .ok (.ireturn, 1) := by decide +kernel
theorem dX10_rowAt_15 : decode cX10_rowAt 15 = .ok (.aload_n 0, 1) := by decide +kernel
theorem dX10_rowAt_16 : decode cX10_rowAt 16 = .ok (.getfield 51, 3) := by decide +kernel
theorem dX10_rowAt_19 : decode cX10_rowAt 19 = .ok (.iconst 1, 1) := by decide +kernel
theorem dX10_rowAt_20 : decode cX10_rowAt 20 = .ok (.if_icmp .le 9, 3) := by decide +kernel
theorem dX10_rowAt_23 : decode cX10_rowAt 23 = .ok (.iload_n 1, 1) := by decide +kernel
theorem dX10_rowAt_24 : decode cX10_rowAt 24 = .ok (.iconst 1, 1) := by decide +kernel
theorem dX10_rowAt_25 : decode cX10_rowAt 25 = .ok (.isub, 1) := by decide +kernel
theorem dX10_rowAt_26 : decode cX10_rowAt 26 = .ok (.goto 4, 3) := by decide +kernel
theorem dX10_rowAt_29 : decode cX10_rowAt 29 = .ok (.iload_n 1, 1) := by decide +kernel
theorem dX10_rowAt_30 : decode cX10_rowAt 30 = .ok (.istore_n 2, 1) := by decide +kernel
theorem dX10_rowAt_31 : decode cX10_rowAt 31 = .ok (.iload_n 2, 1) := by decide +kernel
theorem dX10_rowAt_32 : decode cX10_rowAt 32 = .ok (.bipush 10, 2) := by decide +kernel
theorem dX10_rowAt_34 : decode cX10_rowAt 34 = .ok (.if_icmp .ge 8, 3) := by decide +kernel
theorem dX10_rowAt_37 : decode cX10_rowAt 37 = .ok (.bipush 48, 2) := by decide +kernel
theorem dX10_rowAt_39 : decode cX10_rowAt 39 = .ok (.iload_n 2, 1) := by decide +kernel
theorem dX10_rowAt_40 : decode cX10_rowAt 40 = .ok (.iadd, 1) := by decide +kernel
theorem dX10_rowAt_41 : decode cX10_rowAt 41 = .ok (.ireturn, 1) := by decide +kernel
theorem dX10_rowAt_42 : decode cX10_rowAt 42 = .ok (.iload_n 2, 1) := by decide +kernel
theorem dX10_rowAt_43 : decode cX10_rowAt 43 = .ok (.tableswitch 83 10 19 #[53, 56, 59, 62, 65, 68, 71, 74, 77, 80], 53) := by decide +kernel
theorem dX10_rowAt_96 : decode cX10_rowAt 96 = .ok (.bipush 46, 2) := by decide +kernel
theorem dX10_rowAt_98 : decode cX10_rowAt 98 = .ok (.ireturn, 1) := by decide +kernel
theorem dX10_rowAt_99 : decode cX10_rowAt 99 = .ok (.bipush 44, 2) := by decide +kernel
theorem dX10_rowAt_101 : decode cX10_rowAt 101 = .ok (.ireturn, 1) := by decide +kernel
theorem dX10_rowAt_102 : decode cX10_rowAt 102 = .ok (.bipush 33, 2) := by decide +kernel
theorem dX10_rowAt_104 : decode cX10_rowAt 104 = .ok (.ireturn, 1) := by decide +kernel
theorem dX10_rowAt_105 : decode cX10_rowAt 105 = .ok (.bipush 63, 2) := by decide +kernel
theorem dX10_rowAt_107 : decode cX10_rowAt 107 = .ok (.ireturn, 1) := by decide +kernel
theorem dX10_rowAt_108 : decode cX10_rowAt 108 = .ok (.bipush 95, 2) := by decide +kernel
theorem dX10_rowAt_110 : decode cX10_rowAt 110 = .ok (.ireturn, 1) := by decide +kernel
theorem dX10_rowAt_111 : decode cX10_rowAt 111 = .ok (.bipush 35, 2) := by decide +kernel
theorem dX10_rowAt_113 : decode cX10_rowAt 113 = .ok (.ireturn, 1) := by decide +kernel
theorem dX10_rowAt_114 : decode cX10_rowAt 114 = .ok (.bipush 39, 2) := by decide +kernel
theorem dX10_rowAt_116 : decode cX10_rowAt 116 = .ok (.ireturn, 1) := by decide +kernel
theorem dX10_rowAt_117 : decode cX10_rowAt 117 = .ok (.bipush 34, 2) := by decide +kernel
theorem dX10_rowAt_119 : decode cX10_rowAt 119 = .ok (.ireturn, 1) := by decide +kernel
theorem dX10_rowAt_120 : decode cX10_rowAt 120 = .ok (.bipush 47, 2) := by decide +kernel
theorem dX10_rowAt_122 : decode cX10_rowAt 122 = .ok (.ireturn, 1) := by decide +kernel
theorem dX10_rowAt_123 : decode cX10_rowAt 123 = .ok (.bipush 92, 2) := by decide +kernel
theorem dX10_rowAt_125 : decode cX10_rowAt 125 = .ok (.ireturn, 1) := by decide +kernel
theorem dX10_rowAt_126 : decode cX10_rowAt 126 = .ok (.aload_n 0, 1) := by decide +kernel
theorem dX10_rowAt_127 : decode cX10_rowAt 127 = .ok (.getfield 51, 3) := by decide +kernel
theorem dX10_rowAt_130 : decode cX10_rowAt 130 = .ok (.iconst 1, 1) := by decide +kernel
theorem dX10_rowAt_131 : decode cX10_rowAt 131 = .ok (.if_icmp .le 9, 3) := by decide +kernel
theorem dX10_rowAt_134 : decode cX10_rowAt 134 = .ok (.iload_n 2, 1) := by decide +kernel
theorem dX10_rowAt_135 : decode cX10_rowAt 135 = .ok (.iconst 1, 1) := by decide +kernel
theorem dX10_rowAt_136 : decode cX10_rowAt 136 = .ok (.iadd, 1) := by decide +kernel
theorem dX10_rowAt_137 : decode cX10_rowAt 137 = .ok (.goto 4, 3) := by decide +kernel
theorem dX10_rowAt_140 : decode cX10_rowAt 140 = .ok (.iload_n 2, 1) := by decide +kernel
theorem dX10_rowAt_141 : decode cX10_rowAt 141 = .ok (.istore_n 3, 1) := by decide +kernel
theorem dX10_rowAt_142 : decode cX10_rowAt 142 = .ok (.iload_n 3, 1) := by decide +kernel
theorem dX10_rowAt_143 : decode cX10_rowAt 143 = .ok (.bipush 20, 2) := by decide +kernel
theorem dX10_rowAt_145 : decode cX10_rowAt 145 = .ok (.if_icmp .ne 8, 3) := by decide +kernel
theorem dX10_rowAt_148 : decode cX10_rowAt 148 = .ok (.bipush 60, 2) := by decide +kernel
theorem dX10_rowAt_150 : decode cX10_rowAt 150 = .ok (.goto 38, 3) := by decide +kernel
theorem dX10_rowAt_153 : decode cX10_rowAt 153 = .ok (.iload_n 3, 1) := by decide +kernel
theorem dX10_rowAt_154 : decode cX10_rowAt 154 = .ok (.bipush 21, 2) := by decide +kernel
theorem dX10_rowAt_156 : decode cX10_rowAt 156 = .ok (.if_icmp .ne 8, 3) := by decide +kernel
theorem dX10_rowAt_159 : decode cX10_rowAt 159 = .ok (.bipush 45, 2) := by decide +kernel
theorem dX10_rowAt_161 : decode cX10_rowAt 161 = .ok (.goto 27, 3) := by decide +kernel
theorem dX10_rowAt_164 : decode cX10_rowAt 164 = .ok (.iload_n 3, 1) := by decide +kernel
theorem dX10_rowAt_165 : decode cX10_rowAt 165 = .ok (.bipush 22, 2) := by decide +kernel
theorem dX10_rowAt_167 : decode cX10_rowAt 167 = .ok (.if_icmp .ne 8, 3) := by decide +kernel
theorem dX10_rowAt_170 : decode cX10_rowAt 170 = .ok (.bipush 58, 2) := by decide +kernel
theorem dX10_rowAt_172 : decode cX10_rowAt 172 = .ok (.goto 16, 3) := by decide +kernel
theorem dX10_rowAt_175 : decode cX10_rowAt 175 = .ok (.iload_n 3, 1) := by decide +kernel
theorem dX10_rowAt_176 : decode cX10_rowAt 176 = .ok (.bipush 23, 2) := by decide +kernel
theorem dX10_rowAt_178 : decode cX10_rowAt 178 = .ok (.if_icmp .ne 8, 3) := by decide +kernel
theorem dX10_rowAt_181 : decode cX10_rowAt 181 = .ok (.bipush 40, 2) := by decide +kernel
theorem dX10_rowAt_183 : decode cX10_rowAt 183 = .ok (.goto 5, 3) := by decide +kernel
theorem dX10_rowAt_186 : decode cX10_rowAt 186 = .ok (.bipush 41, 2) := by decide +kernel
theorem dX10_rowAt_188 : decode cX10_rowAt 188 = .ok (.ireturn, 1) := by decide +kernel
set_option maxRecDepth 100000 in
theorem ggX10_code_X10_letter : GoodIn wsX10_code wsX10_letter := goodIn_r _ [6, 7, 8, 16, 17, 18, 19, 20, 21, 22, 23, 24, 25, 26, 27, 28, 29, 30, 31, 32, 33, 34, 35, 36, 37, 38, 39, 40, 41, 42, 43, 44, 45, 46, 47, 48] rfl (by decide +kernel)
set_option maxRecDepth 100000 in
theorem gX10_code_X10_letter : GoodIn wsX10_code (wsV RX10 65 RX10 yX10_letter wsX10_letter) := goodIn_app (goodIn_of _ (by decide +kernel)) ggX10_code_X10_letter
set_option maxRecDepth 100000 in
theorem ggX10_code_X10_in : GoodIn wsX10_code wsX10_in := goodIn_r _ [11] rfl (by decide +kernel)
set_option maxRecDepth 100000 in
theorem gX10_code_X10_in : GoodIn wsX10_code (va_wsS RX10 47 yX10_in wsX10_in) := goodIn_app (goodIn_of _ (by decide +kernel)) ggX10_code_X10_in
set_option maxRecDepth 100000 in
theorem ggX10_code_X10_rowAt : GoodIn wsX10_code wsX10_rowAt := goodIn_r _ [15, 1, 16, 17, 18, 19, 20, 21, 22, 23, 24, 25, 26, 27, 28, 29, 30, 31, 32, 33, 34, 35, 36, 37, 38, 39, 40, 41, 42, 43, 44, 45, 46, 47, 48] rfl (by decide +kernel)
set_option maxRecDepth 100000 in
theorem gX10_code_X10_rowAt : GoodIn wsX10_code (wsV RX10 69 RX10 yX10_rowAt wsX10_rowAt) := goodIn_app (goodIn_of _ (by decide +kernel)) ggX10_code_X10_rowAt
theorem dX10_code_0 : decode cX10_code 0 = .ok (.aload_n 0, 1) := by decide +kernel
theorem dX10_code_1 : decode cX10_code 1 = .ok (.getfield 51, 3) := by decide +kernel
theorem dX10_code_4 : decode cX10_code 4 = .ok (.iconst 2, 1) := by decide +kernel
theorem dX10_code_5 : decode cX10_code 5 = .ok (.if_icmp .gt 7, 3) := by decide +kernel
theorem dX10_code_8 : decode cX10_code 8 = .ok (.iconst 2, 1) := by decide +kernel
theorem dX10_code_9 : decode cX10_code 9 = .ok (.goto 4, 3) := by decide +kernel
theorem dX10_code_12 : decode cX10_code 12 = .ok (.iconst 4, 1) := by decide +kernel
theorem dX10_code_13 : decode cX10_code 13 = .ok (.istore_n 2, 1) := by decide +kernel
theorem dX10_code_14 : decode cX10_code 14 = .ok (.iload_n 1, 1) := by decide +kernel
theorem dX10_code_15 : decode cX10_code 15 = .ok (.bipush 32, 2) := by decide +kernel
theorem dX10_code_17 : decode cX10_code 17 = .ok (.if_icmp .ne 11, 3) := by decide +kernel
theorem dX10_code_20 : decode cX10_code 20 = .ok (.aload_n 0, 1) := by decide +kernel
theorem dX10_code_21 : decode cX10_code 21 = .ok (.iconst 0, 1) := by decide +kernel
theorem dX10_code_22 : decode cX10_code 22 = .ok (.invokevirtual 65, 3) := by decide +kernel
theorem dX10_code_25 : decode cX10_code 25 = .ok (.goto 136, 3) := by decide +kernel
theorem dX10_code_28 : decode cX10_code 28 = .ok (.iload_n 1, 1) := by decide +kernel
theorem dX10_code_29 : decode cX10_code 29 = .ok (.bipush 97, 2) := by decide +kernel
theorem dX10_code_31 : decode cX10_code 31 = .ok (.bipush 122, 2) := by decide +kernel
theorem dX10_code_33 : decode cX10_code 33 = .ok (.invokestatic 47, 3) := by decide +kernel
theorem dX10_code_36 : decode cX10_code 36 = .ok (.ifCond .eq 17, 3) := by decide +kernel
theorem dX10_code_39 : decode cX10_code 39 = .ok (.aload_n 0, 1) := by decide +kernel
theorem dX10_code_40 : decode cX10_code 40 = .ok (.iload_n 1, 1) := by decide +kernel
theorem dX10_code_41 : decode cX10_code 41 = .ok (.bipush 97, 2) := by decide +kernel
theorem dX10_code_43 : decode cX10_code 43 = .ok (.isub, 1) := by decide +kernel
theorem dX10_code_44 : decode cX10_code 44 = .ok (.bipush 6, 2) := by decide +kernel
theorem dX10_code_46 : decode cX10_code 46 = .ok (.iadd, 1) := by decide +kernel
theorem dX10_code_47 : decode cX10_code 47 = .ok (.invokevirtual 65, 3) := by decide +kernel
theorem dX10_code_50 : decode cX10_code 50 = .ok (.goto 111, 3) := by decide +kernel
theorem dX10_code_53 : decode cX10_code 53 = .ok (.iload_n 1, 1) := by decide +kernel
theorem dX10_code_54 : decode cX10_code 54 = .ok (.bipush 65, 2) := by decide +kernel
theorem dX10_code_56 : decode cX10_code 56 = .ok (.bipush 90, 2) := by decide +kernel
theorem dX10_code_58 : decode cX10_code 58 = .ok (.invokestatic 47, 3) := by decide +kernel
theorem dX10_code_61 : decode cX10_code 61 = .ok (.ifCond .eq 22, 3) := by decide +kernel
theorem dX10_code_64 : decode cX10_code 64 = .ok (.aload_n 0, 1) := by decide +kernel
theorem dX10_code_65 : decode cX10_code 65 = .ok (.iload_n 2, 1) := by decide +kernel
theorem dX10_code_66 : decode cX10_code 66 = .ok (.invokevirtual 65, 3) := by decide +kernel
theorem dX10_code_69 : decode cX10_code 69 = .ok (.aload_n 0, 1) := by decide +kernel
theorem dX10_code_70 : decode cX10_code 70 = .ok (.iload_n 1, 1) := by decide +kernel
theorem dX10_code_71 : decode cX10_code 71 = .ok (.bipush 65, 2) := by decide +kernel
theorem dX10_code_73 : decode cX10_code 73 = .ok (.isub, 1) := by decide +kernel
theorem dX10_code_74 : decode cX10_code 74 = .ok (.bipush 6, 2) := by decide +kernel
theorem dX10_code_76 : decode cX10_code 76 = .ok (.iadd, 1) := by decide +kernel
theorem dX10_code_77 : decode cX10_code 77 = .ok (.invokevirtual 65, 3) := by decide +kernel
theorem dX10_code_80 : decode cX10_code 80 = .ok (.goto 81, 3) := by decide +kernel
theorem dX10_code_83 : decode cX10_code 83 = .ok (.aload_n 0, 1) := by decide +kernel
theorem dX10_code_84 : decode cX10_code 84 = .ok (.iload_n 2, 1) := by decide +kernel
theorem dX10_code_85 : decode cX10_code 85 = .ok (.iconst 1, 1) := by decide +kernel
theorem dX10_code_86 : decode cX10_code 86 = .ok (.iadd, 1) := by decide +kernel
theorem dX10_code_87 : decode cX10_code 87 = .ok (.invokevirtual 65, 3) := by decide +kernel
theorem dX10_code_90 : decode cX10_code 90 = .ok (.iconst (-1), 1) := by decide +kernel
theorem dX10_code_91 : decode cX10_code 91 = .ok (.istore_n 3, 1) := by decide +kernel
theorem dX10_code_92 : decode cX10_code 92 = .ok (.bipush 24, 2) := by decide +kernel
theorem dX10_code_94 : decode cX10_code 94 = .ok (.istore 4, 2) := by decide +kernel
theorem dX10_code_96 : decode cX10_code 96 = .ok (.iload 4, 2) := by decide +kernel
theorem dX10_code_98 : decode cX10_code 98 = .ok (.ifCond .lt 26, 3) := by decide +kernel
theorem dX10_code_101 : decode cX10_code 101 = .ok (.aload_n 0, 1) := by decide +kernel
theorem dX10_code_102 : decode cX10_code 102 = .ok (.iload 4, 2) := by decide +kernel
theorem dX10_code_104 : decode cX10_code 104 = .ok (.invokevirtual 69, 3) := by decide +kernel
theorem dX10_code_107 : decode cX10_code 107 = .ok (.iload_n 1, 1) := by decide +kernel
theorem dX10_code_108 : decode cX10_code 108 = .ok (.if_icmp .ne 8, 3) := by decide +kernel
theorem dX10_code_111 : decode cX10_code 111 = .ok (.iload 4, 2) := by decide +kernel
theorem dX10_code_113 : decode cX10_code 113 = .ok (.goto 4, 3) := by decide +kernel
theorem dX10_code_116 : decode cX10_code 116 = .ok (.iload_n 3, 1) := by decide +kernel
theorem dX10_code_117 : decode cX10_code 117 = .ok (.istore_n 3, 1) := by decide +kernel
theorem dX10_code_118 : decode cX10_code 118 = .ok (.iinc 4 (-1), 3) := by decide +kernel
theorem dX10_code_121 : decode cX10_code 121 = .ok (.goto (-25), 3) := by decide +kernel
theorem dX10_code_124 : decode cX10_code 124 = .ok (.iload_n 3, 1) := by decide +kernel
theorem dX10_code_125 : decode cX10_code 125 = .ok (.ifCond .lt 14, 3) := by decide +kernel
theorem dX10_code_128 : decode cX10_code 128 = .ok (.aload_n 0, 1) := by decide +kernel
theorem dX10_code_129 : decode cX10_code 129 = .ok (.iload_n 3, 1) := by decide +kernel
theorem dX10_code_130 : decode cX10_code 130 = .ok (.bipush 7, 2) := by decide +kernel
theorem dX10_code_132 : decode cX10_code 132 = .ok (.iadd, 1) := by decide +kernel
theorem dX10_code_133 : decode cX10_code 133 = .ok (.invokevirtual 65, 3) := by decide +kernel
theorem dX10_code_136 : decode cX10_code 136 = .ok (.goto 25, 3) := by decide +kernel
theorem dX10_code_139 : decode cX10_code 139 = .ok (.aload_n 0, 1) := by decide +kernel
theorem dX10_code_140 : decode cX10_code 140 = .ok (.bipush 6, 2) := by decide +kernel
theorem dX10_code_142 : decode cX10_code 142 = .ok (.invokevirtual 65, 3) := by decide +kernel
theorem dX10_code_145 : decode cX10_code 145 = .ok (.aload_n 0, 1) := by decide +kernel
theorem dX10_code_146 : decode cX10_code 146 = .ok (.iload_n 1, 1) := by decide +kernel
theorem dX10_code_147 : decode cX10_code 147 = .ok (.bipush 32, 2) := by decide +kernel
theorem dX10_code_149 : decode cX10_code 149 = .ok (.idiv, 1) := by decide +kernel
theorem dX10_code_150 : decode cX10_code 150 = .ok (.invokevirtual 65, 3) := by decide +kernel
theorem dX10_code_153 : decode cX10_code 153 = .ok (.aload_n 0, 1) := by decide +kernel
theorem dX10_code_154 : decode cX10_code 154 = .ok (.iload_n 1, 1) := by decide +kernel
theorem dX10_code_155 : decode cX10_code 155 = .ok (.bipush 32, 2) := by decide +kernel
theorem dX10_code_157 : decode cX10_code 157 = .ok (.irem, 1) := by decide +kernel
theorem dX10_code_158 : decode cX10_code 158 = .ok (.invokevirtual 65, 3) := by decide +kernel
theorem dX10_code_161 : decode cX10_code 161 = .ok (.return_, 1) := by decide +kernel
set_option maxRecDepth 100000 in
theorem ggX10_packs_X10_code : GoodIn wsX10_packs wsX10_code := goodIn_r _ [10, 11, 12, 13, 14, 9, 15, 1, 4, 16, 17, 18, 19, 20, 21, 22, 27, 28, 29, 30, 31, 32, 33, 34, 35, 36, 37, 38, 39, 40, 41, 42, 43, 44, 45, 46, 47, 48, 49, 50, 51, 52, 53, 54, 55, 56, 57, 58, 59] rfl (by decide +kernel)
set_option maxRecDepth 100000 in
theorem gX10_packs_X10_code : GoodIn wsX10_packs (wsV RX10 73 RX10 yX10_code wsX10_code) := goodIn_app (goodIn_of _ (by decide +kernel)) ggX10_packs_X10_code
set_option maxRecDepth 100000 in
theorem ggX10_packs_X10_packedSize : GoodIn wsX10_packs wsX10_packedSize := goodIn_r _ [26, 11, 27, 28, 29, 30, 31, 32, 33, 34, 35, 36, 37, 38, 39, 40, 41, 42, 43, 44, 45, 46, 47, 48, 49, 50, 51, 52, 53, 54, 55, 56, 57, 58, 59] rfl (by decide +kernel)
set_option maxRecDepth 100000 in
theorem gX10_packs_X10_packedSize : GoodIn wsX10_packs (wsV RX10 76 RX10 yX10_packedSize wsX10_packedSize) := goodIn_app (goodIn_of _ (by decide +kernel)) ggX10_packs_X10_packedSize
theorem dX10_packs_0 : decode cX10_packs 0 = .ok (.aload_n 0, 1) := by decide +kernel
theorem dX10_packs_1 : decode cX10_packs 1 = .ok (.iconst 0, 1) := by decide +kernel
theorem dX10_packs_2 : decode cX10_packs 2 = .ok (.putfield 62, 3) := by decide +kernel
theorem dX10_packs_5 : decode cX10_packs 5 = .ok (.iconst 0, 1) := by decide +kernel
theorem dX10_packs_6 : decode cX10_packs 6 = .ok (.istore_n 3, 1) := by decide +kernel
theorem dX10_packs_7 : decode cX10_packs 7 = .ok (.iload_n 3, 1) := by decide +kernel
theorem dX10_packs_8 : decode cX10_packs 8 = .ok (.iload_n 2, 1) := by decide +kernel
theorem dX10_packs_9 : decode cX10_packs 9 = .ok (.if_icmp .ge 21, 3) := by decide +kernel
theorem dX10_packs_12 : decode cX10_packs 12 = .ok (.aload_n 0, 1) := by decide +kernel
theorem dX10_packs_13 : decode cX10_packs 13 = .ok (.aload_n 0, 1) := by decide +kernel
theorem dX10_packs_14 : decode cX10_packs 14 = .ok (.getfield 7, 3) := by decide +kernel
theorem dX10_packs_17 : decode cX10_packs 17 = .ok (.iload_n 1, 1) := by decide +kernel
theorem dX10_packs_18 : decode cX10_packs 18 = .ok (.iload_n 3, 1) := by decide +kernel
theorem dX10_packs_19 : decode cX10_packs 19 = .ok (.iadd, 1) := by decide +kernel
theorem dX10_packs_20 : decode cX10_packs 20 = .ok (.iaload, 1) := by decide +kernel
theorem dX10_packs_21 : decode cX10_packs 21 = .ok (.invokevirtual 73, 3) := by decide +kernel
theorem dX10_packs_24 : decode cX10_packs 24 = .ok (.iinc 3 1, 3) := by decide +kernel
theorem dX10_packs_27 : decode cX10_packs 27 = .ok (.goto (-20), 3) := by decide +kernel
theorem dX10_packs_30 : decode cX10_packs 30 = .ok (.aload_n 0, 1) := by decide +kernel
theorem dX10_packs_31 : decode cX10_packs 31 = .ok (.invokevirtual 76, 3) := by decide +kernel
theorem dX10_packs_34 : decode cX10_packs 34 = .ok (.iconst 2, 1) := by decide +kernel
theorem dX10_packs_35 : decode cX10_packs 35 = .ok (.idiv, 1) := by decide +kernel
theorem dX10_packs_36 : decode cX10_packs 36 = .ok (.istore_n 3, 1) := by decide +kernel
theorem dX10_packs_37 : decode cX10_packs 37 = .ok (.iconst 0, 1) := by decide +kernel
theorem dX10_packs_38 : decode cX10_packs 38 = .ok (.istore 4, 2) := by decide +kernel
theorem dX10_packs_40 : decode cX10_packs 40 = .ok (.iload 4, 2) := by decide +kernel
theorem dX10_packs_42 : decode cX10_packs 42 = .ok (.iload_n 3, 1) := by decide +kernel
theorem dX10_packs_43 : decode cX10_packs 43 = .ok (.if_icmp .ge 118, 3) := by decide +kernel
theorem dX10_packs_46 : decode cX10_packs 46 = .ok (.iload 4, 2) := by decide +kernel
theorem dX10_packs_48 : decode cX10_packs 48 = .ok (.iload_n 3, 1) := by decide +kernel
theorem dX10_packs_49 : decode cX10_packs 49 = .ok (.iconst 1, 1) := by decide +kernel
theorem dX10_packs_50 : decode cX10_packs 50 = .ok (.isub, 1) := by decide +kernel
theorem dX10_packs_51 : decode cX10_packs 51 = .ok (.if_icmp .ne 8, 3) := by decide +kernel
theorem dX10_packs_54 : decode cX10_packs 54 = .ok (.ldc 80, 2) := by decide +kernel
theorem dX10_packs_56 : decode cX10_packs 56 = .ok (.goto 4, 3) := by decide +kernel
theorem dX10_packs_59 : decode cX10_packs 59 = .ok (.iconst 0, 1) := by decide +kernel
theorem dX10_packs_60 : decode cX10_packs 60 = .ok (.istore 5, 2) := by decide +kernel
theorem dX10_packs_62 : decode cX10_packs 62 = .ok (.iconst 0, 1) := by decide +kernel
theorem dX10_packs_63 : decode cX10_packs 63 = .ok (.istore 6, 2) := by decide +kernel
theorem dX10_packs_65 : decode cX10_packs 65 = .ok (.iload 6, 2) := by decide +kernel
theorem dX10_packs_67 : decode cX10_packs 67 = .ok (.iconst 3, 1) := by decide +kernel
theorem dX10_packs_68 : decode cX10_packs 68 = .ok (.if_icmp .ge 56, 3) := by decide +kernel
theorem dX10_packs_71 : decode cX10_packs 71 = .ok (.iconst 3, 1) := by decide +kernel
theorem dX10_packs_72 : decode cX10_packs 72 = .ok (.iload 4, 2) := by decide +kernel
theorem dX10_packs_74 : decode cX10_packs 74 = .ok (.imul, 1) := by decide +kernel
theorem dX10_packs_75 : decode cX10_packs 75 = .ok (.iload 6, 2) := by decide +kernel
theorem dX10_packs_77 : decode cX10_packs 77 = .ok (.iadd, 1) := by decide +kernel
theorem dX10_packs_78 : decode cX10_packs 78 = .ok (.aload_n 0, 1) := by decide +kernel
theorem dX10_packs_79 : decode cX10_packs 79 = .ok (.getfield 62, 3) := by decide +kernel
theorem dX10_packs_82 : decode cX10_packs 82 = .ok (.if_icmp .ge 18, 3) := by decide +kernel
theorem dX10_packs_85 : decode cX10_packs 85 = .ok (.aload_n 0, 1) := by decide +kernel
theorem dX10_packs_86 : decode cX10_packs 86 = .ok (.getfield 13, 3) := by decide +kernel
theorem dX10_packs_89 : decode cX10_packs 89 = .ok (.iconst 3, 1) := by decide +kernel
theorem dX10_packs_90 : decode cX10_packs 90 = .ok (.iload 4, 2) := by decide +kernel
theorem dX10_packs_92 : decode cX10_packs 92 = .ok (.imul, 1) := by decide +kernel
theorem dX10_packs_93 : decode cX10_packs 93 = .ok (.iload 6, 2) := by decide +kernel
theorem dX10_packs_95 : decode cX10_packs 95 = .ok (.iadd, 1) := by decide +kernel
theorem dX10_packs_96 : decode cX10_packs 96 = .ok (.iaload, 1) := by decide +kernel
theorem dX10_packs_97 : decode cX10_packs 97 = .ok (.goto 4, 3) := by decide +kernel
theorem dX10_packs_100 : decode cX10_packs 100 = .ok (.iconst 5, 1) := by decide +kernel
theorem dX10_packs_101 : decode cX10_packs 101 = .ok (.istore 7, 2) := by decide +kernel
theorem dX10_packs_103 : decode cX10_packs 103 = .ok (.iload 5, 2) := by decide +kernel
theorem dX10_packs_105 : decode cX10_packs 105 = .ok (.iload 7, 2) := by decide +kernel
theorem dX10_packs_107 : decode cX10_packs 107 = .ok (.bipush 10, 2) := by decide +kernel
theorem dX10_packs_109 : decode cX10_packs 109 = .ok (.iconst 5, 1) := by decide +kernel
theorem dX10_packs_110 : decode cX10_packs 110 = .ok (.iload 6, 2) := by decide +kernel
theorem dX10_packs_112 : decode cX10_packs 112 = .ok (.imul, 1) := by decide +kernel
theorem dX10_packs_113 : decode cX10_packs 113 = .ok (.isub, 1) := by decide +kernel
theorem dX10_packs_114 : decode cX10_packs 114 = .ok (.ishl, 1) := by decide +kernel
theorem dX10_packs_115 : decode cX10_packs 115 = .ok (.iadd, 1) := by decide +kernel
theorem dX10_packs_116 : decode cX10_packs 116 = .ok (.istore 5, 2) := by decide +kernel
theorem dX10_packs_118 : decode cX10_packs 118 = .ok (.iinc 6 1, 3) := by decide +kernel
theorem dX10_packs_121 : decode cX10_packs 121 = .ok (.goto (-56), 3) := by decide +kernel
theorem dX10_packs_124 : decode cX10_packs 124 = .ok (.aload_n 0, 1) := by decide +kernel
theorem dX10_packs_125 : decode cX10_packs 125 = .ok (.getfield 16, 3) := by decide +kernel
theorem dX10_packs_128 : decode cX10_packs 128 = .ok (.iconst 2, 1) := by decide +kernel
theorem dX10_packs_129 : decode cX10_packs 129 = .ok (.iload 4, 2) := by decide +kernel
theorem dX10_packs_131 : decode cX10_packs 131 = .ok (.imul, 1) := by decide +kernel
theorem dX10_packs_132 : decode cX10_packs 132 = .ok (.iload 5, 2) := by decide +kernel
theorem dX10_packs_134 : decode cX10_packs 134 = .ok (.bipush 8, 2) := by decide +kernel
theorem dX10_packs_136 : decode cX10_packs 136 = .ok (.ishr, 1) := by decide +kernel
theorem dX10_packs_137 : decode cX10_packs 137 = .ok (.iastore, 1) := by decide +kernel
theorem dX10_packs_138 : decode cX10_packs 138 = .ok (.aload_n 0, 1) := by decide +kernel
theorem dX10_packs_139 : decode cX10_packs 139 = .ok (.getfield 16, 3) := by decide +kernel
theorem dX10_packs_142 : decode cX10_packs 142 = .ok (.iconst 2, 1) := by decide +kernel
theorem dX10_packs_143 : decode cX10_packs 143 = .ok (.iload 4, 2) := by decide +kernel
theorem dX10_packs_145 : decode cX10_packs 145 = .ok (.imul, 1) := by decide +kernel
theorem dX10_packs_146 : decode cX10_packs 146 = .ok (.iconst 1, 1) := by decide +kernel
theorem dX10_packs_147 : decode cX10_packs 147 = .ok (.iadd, 1) := by decide +kernel
theorem dX10_packs_148 : decode cX10_packs 148 = .ok (.iload 5, 2) := by decide +kernel
theorem dX10_packs_150 : decode cX10_packs 150 = .ok (.sipush 255, 3) := by decide +kernel
theorem dX10_packs_153 : decode cX10_packs 153 = .ok (.iand, 1) := by decide +kernel
theorem dX10_packs_154 : decode cX10_packs 154 = .ok (.iastore, 1) := by decide +kernel
theorem dX10_packs_155 : decode cX10_packs 155 = .ok (.iinc 4 1, 3) := by decide +kernel
theorem dX10_packs_158 : decode cX10_packs 158 = .ok (.goto (-118), 3) := by decide +kernel
theorem dX10_packs_161 : decode cX10_packs 161 = .ok (.return_, 1) := by decide +kernel
set_option maxRecDepth 100000 in
theorem ggX10_pack_X10_in : GoodIn wsX10_pack wsX10_in := goodIn_r _ [6] rfl (by decide +kernel)
set_option maxRecDepth 100000 in
theorem gX10_pack_X10_in : GoodIn wsX10_pack (va_wsS RX10 47 yX10_in wsX10_in) := goodIn_app (goodIn_of _ (by decide +kernel)) ggX10_pack_X10_in
set_option maxRecDepth 100000 in
theorem ggX10_pack_X10_within : GoodIn wsX10_pack wsX10_within := goodIn_r _ [9, 10] rfl (by decide +kernel)
set_option maxRecDepth 100000 in
theorem gX10_pack_X10_within : GoodIn wsX10_pack (va_wsS RX10 56 yX10_within wsX10_within) := goodIn_app (goodIn_of _ (by decide +kernel)) ggX10_pack_X10_within
set_option maxRecDepth 100000 in
theorem ggX10_pack_X10_packedSize : GoodIn wsX10_pack wsX10_packedSize := goodIn_r _ [14, 15, 35, 36, 37, 38, 39, 40, 41, 42, 43, 44, 45, 46, 47, 48, 49, 50, 51, 52, 53, 54, 55, 56, 57, 58, 59, 60, 61, 62, 63, 64, 65, 66, 67] rfl (by decide +kernel)
set_option maxRecDepth 100000 in
theorem gX10_pack_X10_packedSize : GoodIn wsX10_pack (wsV RX10 76 RX10 yX10_packedSize wsX10_packedSize) := goodIn_app (goodIn_of _ (by decide +kernel)) ggX10_pack_X10_packedSize
set_option maxRecDepth 100000 in
theorem ggX10_pack_X10_packs : GoodIn wsX10_pack wsX10_packs := goodIn_r _ [19, 20, 1, 21, 22, 2, 23, 24, 25, 5, 26, 15, 27, 28, 29, 30, 3, 4, 6, 31, 32, 33, 34, 11, 12, 13, 14, 35, 36, 37, 38, 39, 40, 41, 42, 43, 44, 45, 46, 47, 48, 49, 50, 51, 52, 53, 54, 55, 56, 57, 58, 59, 60, 61, 62, 63, 64, 65, 66, 67] rfl (by decide +kernel)
set_option maxRecDepth 100000 in
theorem gX10_pack_X10_packs : GoodIn wsX10_pack (wsV RX10 81 RX10 yX10_packs wsX10_packs) := goodIn_app (goodIn_of _ (by decide +kernel)) ggX10_pack_X10_packs
theorem dX10_pack_0 : decode cX10_pack 0 = .ok (.iload_n 2, 1) := by decide +kernel
theorem dX10_pack_1 : decode cX10_pack 1 = .ok (.iconst 0, 1) := by decide +kernel
theorem dX10_pack_2 : decode cX10_pack 2 = .ok (.sipush 255, 3) := by decide +kernel
theorem dX10_pack_5 : decode cX10_pack 5 = .ok (.invokestatic 47, 3) := by decide +kernel
theorem dX10_pack_8 : decode cX10_pack 8 = .ok (.ifCond .ne 6, 3) := by decide +kernel
theorem dX10_pack_11 : decode cX10_pack 11 = .ok (.bipush (-2), 2) := by decide +kernel
theorem dX10_pack_13 : decode cX10_pack 13 = .ok (.ireturn, 1) := by decide +kernel
theorem dX10_pack_14 : decode cX10_pack 14 = .ok (.iload_n 1, 1) := by decide +kernel
theorem dX10_pack_15 : decode cX10_pack 15 = .ok (.i2l, 1) := by decide +kernel
theorem dX10_pack_16 : decode cX10_pack 16 = .ok (.iload_n 2, 1) := by decide +kernel
theorem dX10_pack_17 : decode cX10_pack 17 = .ok (.i2l, 1) := by decide +kernel
theorem dX10_pack_18 : decode cX10_pack 18 = .ok (.invokestatic 56, 3) := by decide +kernel
theorem dX10_pack_21 : decode cX10_pack 21 = .ok (.ifCond .eq 16, 3) := by decide +kernel
theorem dX10_pack_24 : decode cX10_pack 24 = .ok (.iload_n 3, 1) := by decide +kernel
theorem dX10_pack_25 : decode cX10_pack 25 = .ok (.i2l, 1) := by decide +kernel
theorem dX10_pack_26 : decode cX10_pack 26 = .ok (.aload_n 0, 1) := by decide +kernel
theorem dX10_pack_27 : decode cX10_pack 27 = .ok (.invokevirtual 76, 3) := by decide +kernel
theorem dX10_pack_30 : decode cX10_pack 30 = .ok (.i2l, 1) := by decide +kernel
theorem dX10_pack_31 : decode cX10_pack 31 = .ok (.invokestatic 56, 3) := by decide +kernel
theorem dX10_pack_34 : decode cX10_pack 34 = .ok (.ifCond .ne 6, 3) := by decide +kernel
theorem dX10_pack_37 : decode cX10_pack 37 = .ok (.bipush (-3), 2) := by decide +kernel
theorem dX10_pack_39 : decode cX10_pack 39 = .ok (.ireturn, 1) := by decide +kernel
theorem dX10_pack_40 : decode cX10_pack 40 = .ok (.aload_n 0, 1) := by decide +kernel
theorem dX10_pack_41 : decode cX10_pack 41 = .ok (.iload_n 1, 1) := by decide +kernel
theorem dX10_pack_42 : decode cX10_pack 42 = .ok (.iload_n 2, 1) := by decide +kernel
theorem dX10_pack_43 : decode cX10_pack 43 = .ok (.invokevirtual 81, 3) := by decide +kernel
theorem dX10_pack_46 : decode cX10_pack 46 = .ok (.iconst 0, 1) := by decide +kernel
theorem dX10_pack_47 : decode cX10_pack 47 = .ok (.istore 4, 2) := by decide +kernel
theorem dX10_pack_49 : decode cX10_pack 49 = .ok (.iload 4, 2) := by decide +kernel
theorem dX10_pack_51 : decode cX10_pack 51 = .ok (.aload_n 0, 1) := by decide +kernel
theorem dX10_pack_52 : decode cX10_pack 52 = .ok (.invokevirtual 76, 3) := by decide +kernel
theorem dX10_pack_55 : decode cX10_pack 55 = .ok (.if_icmp .ge 25, 3) := by decide +kernel
theorem dX10_pack_58 : decode cX10_pack 58 = .ok (.aload_n 0, 1) := by decide +kernel
theorem dX10_pack_59 : decode cX10_pack 59 = .ok (.getfield 7, 3) := by decide +kernel
theorem dX10_pack_62 : decode cX10_pack 62 = .ok (.iload_n 3, 1) := by decide +kernel
theorem dX10_pack_63 : decode cX10_pack 63 = .ok (.iload 4, 2) := by decide +kernel
theorem dX10_pack_65 : decode cX10_pack 65 = .ok (.iadd, 1) := by decide +kernel
theorem dX10_pack_66 : decode cX10_pack 66 = .ok (.aload_n 0, 1) := by decide +kernel
theorem dX10_pack_67 : decode cX10_pack 67 = .ok (.getfield 16, 3) := by decide +kernel
theorem dX10_pack_70 : decode cX10_pack 70 = .ok (.iload 4, 2) := by decide +kernel
theorem dX10_pack_72 : decode cX10_pack 72 = .ok (.iaload, 1) := by decide +kernel
theorem dX10_pack_73 : decode cX10_pack 73 = .ok (.iastore, 1) := by decide +kernel
theorem dX10_pack_74 : decode cX10_pack 74 = .ok (.iinc 4 1, 3) := by decide +kernel
theorem dX10_pack_77 : decode cX10_pack 77 = .ok (.goto (-28), 3) := by decide +kernel
theorem dX10_pack_80 : decode cX10_pack 80 = .ok (.aload_n 0, 1) := by decide +kernel
theorem dX10_pack_81 : decode cX10_pack 81 = .ok (.invokevirtual 76, 3) := by decide +kernel
theorem dX10_pack_84 : decode cX10_pack 84 = .ok (.ireturn, 1) := by decide +kernel
set_option maxRecDepth 100000 in
theorem ggX10_tables_X10_in : GoodIn wsX10_tables wsX10_in := goodIn_r _ [6] rfl (by decide +kernel)
set_option maxRecDepth 100000 in
theorem gX10_tables_X10_in : GoodIn wsX10_tables (va_wsS RX10 47 yX10_in wsX10_in) := goodIn_app (goodIn_of _ (by decide +kernel)) ggX10_tables_X10_in
theorem dX10_tables_0 : decode cX10_tables 0 = .ok (.iload_n 1, 1) := by decide +kernel
theorem dX10_tables_1 : decode cX10_tables 1 = .ok (.iconst 0, 1) := by decide +kernel
theorem dX10_tables_2 : decode cX10_tables 2 = .ok (.sipush 4000, 3) := by decide +kernel
theorem dX10_tables_5 : decode cX10_tables 5 = .ok (.invokestatic 47, 3) := by decide +kernel
theorem dX10_tables_8 : decode cX10_tables 8 = .ok (.ifCond .eq 14, 3) := by decide +kernel
theorem dX10_tables_11 : decode cX10_tables 11 = .ok (.iload_n 2, 1) := by decide +kernel
theorem dX10_tables_12 : decode cX10_tables 12 = .ok (.iconst 0, 1) := by decide +kernel
theorem dX10_tables_13 : decode cX10_tables 13 = .ok (.sipush 4000, 3) := by decide +kernel
theorem dX10_tables_16 : decode cX10_tables 16 = .ok (.invokestatic 47, 3) := by decide +kernel
theorem dX10_tables_19 : decode cX10_tables 19 = .ok (.ifCond .ne 6, 3) := by decide +kernel
theorem dX10_tables_22 : decode cX10_tables 22 = .ok (.bipush (-2), 2) := by decide +kernel
theorem dX10_tables_24 : decode cX10_tables 24 = .ok (.ireturn, 1) := by decide +kernel
theorem dX10_tables_25 : decode cX10_tables 25 = .ok (.aload_n 0, 1) := by decide +kernel
theorem dX10_tables_26 : decode cX10_tables 26 = .ok (.iload_n 1, 1) := by decide +kernel
theorem dX10_tables_27 : decode cX10_tables 27 = .ok (.putfield 85, 3) := by decide +kernel
theorem dX10_tables_30 : decode cX10_tables 30 = .ok (.aload_n 0, 1) := by decide +kernel
theorem dX10_tables_31 : decode cX10_tables 31 = .ok (.iload_n 2, 1) := by decide +kernel
theorem dX10_tables_32 : decode cX10_tables 32 = .ok (.putfield 88, 3) := by decide +kernel
theorem dX10_tables_35 : decode cX10_tables 35 = .ok (.iconst 1, 1) := by decide +kernel
theorem dX10_tables_36 : decode cX10_tables 36 = .ok (.ireturn, 1) := by decide +kernel
set_option maxRecDepth 100000 in
theorem ggX10_isThere_X10_within : GoodIn wsX10_isThere wsX10_within := goodIn_r _ [10, 11] rfl (by decide +kernel)
set_option maxRecDepth 100000 in
theorem gX10_isThere_X10_within : GoodIn wsX10_isThere (va_wsS RX10 56 yX10_within wsX10_within) := goodIn_app (goodIn_of _ (by decide +kernel)) ggX10_isThere_X10_within
set_option maxRecDepth 100000 in
theorem ggX10_isThere_X10_packedSize : GoodIn wsX10_isThere wsX10_packedSize := goodIn_r _ [15, 16, 17, 18, 19, 20, 21, 22, 23, 24, 25, 26, 27, 28, 29, 30, 31, 32, 33, 34, 35, 36, 37, 38, 39, 40, 41, 42, 43, 44, 45, 46, 47, 48, 49] rfl (by decide +kernel)
set_option maxRecDepth 100000 in
theorem gX10_isThere_X10_packedSize : GoodIn wsX10_isThere (wsV RX10 76 RX10 yX10_packedSize wsX10_packedSize) := goodIn_app (goodIn_of _ (by decide +kernel)) ggX10_isThere_X10_packedSize
theorem dX10_isThere_0 : decode cX10_isThere 0 = .ok (.iload_n 1, 1) := by decide +kernel
theorem dX10_isThere_1 : decode cX10_isThere 1 = .ok (.i2l, 1) := by decide +kernel
theorem dX10_isThere_2 : decode cX10_isThere 2 = .ok (.lconst 1, 1) := by decide +kernel
theorem dX10_isThere_3 : decode cX10_isThere 3 = .ok (.invokestatic 56, 3) := by decide +kernel
theorem dX10_isThere_6 : decode cX10_isThere 6 = .ok (.ifCond .eq 20, 3) := by decide +kernel
theorem dX10_isThere_9 : decode cX10_isThere 9 = .ok (.iload_n 1, 1) := by decide +kernel
theorem dX10_isThere_10 : decode cX10_isThere 10 = .ok (.i2l, 1) := by decide +kernel
theorem dX10_isThere_11 : decode cX10_isThere 11 = .ok (.aload_n 0, 1) := by decide +kernel
theorem dX10_isThere_12 : decode cX10_isThere 12 = .ok (.getfield 7, 3) := by decide +kernel
theorem dX10_isThere_15 : decode cX10_isThere 15 = .ok (.iload_n 1, 1) := by decide +kernel
theorem dX10_isThere_16 : decode cX10_isThere 16 = .ok (.iaload, 1) := by decide +kernel
theorem dX10_isThere_17 : decode cX10_isThere 17 = .ok (.iconst 4, 1) := by decide +kernel
theorem dX10_isThere_18 : decode cX10_isThere 18 = .ok (.iadd, 1) := by decide +kernel
theorem dX10_isThere_19 : decode cX10_isThere 19 = .ok (.i2l, 1) := by decide +kernel
theorem dX10_isThere_20 : decode cX10_isThere 20 = .ok (.invokestatic 56, 3) := by decide +kernel
theorem dX10_isThere_23 : decode cX10_isThere 23 = .ok (.ifCond .ne 5, 3) := by decide +kernel
theorem dX10_isThere_26 : decode cX10_isThere 26 = .ok (.iconst 0, 1) := by decide +kernel
theorem dX10_isThere_27 : decode cX10_isThere 27 = .ok (.ireturn, 1) := by decide +kernel
theorem dX10_isThere_28 : decode cX10_isThere 28 = .ok (.aload_n 0, 1) := by decide +kernel
theorem dX10_isThere_29 : decode cX10_isThere 29 = .ok (.getfield 7, 3) := by decide +kernel
theorem dX10_isThere_32 : decode cX10_isThere 32 = .ok (.iload_n 1, 1) := by decide +kernel
theorem dX10_isThere_33 : decode cX10_isThere 33 = .ok (.iaload, 1) := by decide +kernel
theorem dX10_isThere_34 : decode cX10_isThere 34 = .ok (.istore_n 2, 1) := by decide +kernel
theorem dX10_isThere_35 : decode cX10_isThere 35 = .ok (.aload_n 0, 1) := by decide +kernel
theorem dX10_isThere_36 : decode cX10_isThere 36 = .ok (.aload_n 0, 1) := by decide +kernel
theorem dX10_isThere_37 : decode cX10_isThere 37 = .ok (.getfield 7, 3) := by decide +kernel
theorem dX10_isThere_40 : decode cX10_isThere 40 = .ok (.iload_n 1, 1) := by decide +kernel
theorem dX10_isThere_41 : decode cX10_isThere 41 = .ok (.iload_n 2, 1) := by decide +kernel
theorem dX10_isThere_42 : decode cX10_isThere 42 = .ok (.iadd, 1) := by decide +kernel
theorem dX10_isThere_43 : decode cX10_isThere 43 = .ok (.iconst 1, 1) := by decide +kernel
theorem dX10_isThere_44 : decode cX10_isThere 44 = .ok (.iadd, 1) := by decide +kernel
theorem dX10_isThere_45 : decode cX10_isThere 45 = .ok (.iaload, 1) := by decide +kernel
theorem dX10_isThere_46 : decode cX10_isThere 46 = .ok (.putfield 91, 3) := by decide +kernel
theorem dX10_isThere_49 : decode cX10_isThere 49 = .ok (.aload_n 0, 1) := by decide +kernel
theorem dX10_isThere_50 : decode cX10_isThere 50 = .ok (.getfield 7, 3) := by decide +kernel
theorem dX10_isThere_53 : decode cX10_isThere 53 = .ok (.iload_n 1, 1) := by decide +kernel
theorem dX10_isThere_54 : decode cX10_isThere 54 = .ok (.iload_n 2, 1) := by decide +kernel
theorem dX10_isThere_55 : decode cX10_isThere 55 = .ok (.iadd, 1) := by decide +kernel
theorem dX10_isThere_56 : decode cX10_isThere 56 = .ok (.iconst 2, 1) := by decide +kernel
theorem dX10_isThere_57 : decode cX10_isThere 57 = .ok (.iadd, 1) := by decide +kernel
theorem dX10_isThere_58 : decode cX10_isThere 58 = .ok (.iaload, 1) := by decide +kernel
theorem dX10_isThere_59 : decode cX10_isThere 59 = .ok (.bipush 8, 2) := by decide +kernel
theorem dX10_isThere_61 : decode cX10_isThere 61 = .ok (.ishl, 1) := by decide +kernel
theorem dX10_isThere_62 : decode cX10_isThere 62 = .ok (.aload_n 0, 1) := by decide +kernel
theorem dX10_isThere_63 : decode cX10_isThere 63 = .ok (.getfield 7, 3) := by decide +kernel
theorem dX10_isThere_66 : decode cX10_isThere 66 = .ok (.iload_n 1, 1) := by decide +kernel
theorem dX10_isThere_67 : decode cX10_isThere 67 = .ok (.iload_n 2, 1) := by decide +kernel
theorem dX10_isThere_68 : decode cX10_isThere 68 = .ok (.iadd, 1) := by decide +kernel
theorem dX10_isThere_69 : decode cX10_isThere 69 = .ok (.iconst 3, 1) := by decide +kernel
theorem dX10_isThere_70 : decode cX10_isThere 70 = .ok (.iadd, 1) := by decide +kernel
theorem dX10_isThere_71 : decode cX10_isThere 71 = .ok (.iaload, 1) := by decide +kernel
theorem dX10_isThere_72 : decode cX10_isThere 72 = .ok (.ior, 1) := by decide +kernel
theorem dX10_isThere_73 : decode cX10_isThere 73 = .ok (.istore_n 3, 1) := by decide +kernel
theorem dX10_isThere_74 : decode cX10_isThere 74 = .ok (.aload_n 0, 1) := by decide +kernel
theorem dX10_isThere_75 : decode cX10_isThere 75 = .ok (.iload_n 3, 1) := by decide +kernel
theorem dX10_isThere_76 : decode cX10_isThere 76 = .ok (.ldc 80, 2) := by decide +kernel
theorem dX10_isThere_78 : decode cX10_isThere 78 = .ok (.if_icmp .ge 7, 3) := by decide +kernel
theorem dX10_isThere_81 : decode cX10_isThere 81 = .ok (.iload_n 3, 1) := by decide +kernel
theorem dX10_isThere_82 : decode cX10_isThere 82 = .ok (.goto 7, 3) := by decide +kernel
theorem dX10_isThere_85 : decode cX10_isThere 85 = .ok (.ldc 94, 2) := by decide +kernel
theorem dX10_isThere_87 : decode cX10_isThere 87 = .ok (.iload_n 3, 1) := by decide +kernel
theorem dX10_isThere_88 : decode cX10_isThere 88 = .ok (.isub, 1) := by decide +kernel
theorem dX10_isThere_89 : decode cX10_isThere 89 = .ok (.putfield 95, 3) := by decide +kernel
theorem dX10_isThere_92 : decode cX10_isThere 92 = .ok (.aload_n 0, 1) := by decide +kernel
theorem dX10_isThere_93 : decode cX10_isThere 93 = .ok (.iload_n 1, 1) := by decide +kernel
theorem dX10_isThere_94 : decode cX10_isThere 94 = .ok (.iload_n 2, 1) := by decide +kernel
theorem dX10_isThere_95 : decode cX10_isThere 95 = .ok (.iadd, 1) := by decide +kernel
theorem dX10_isThere_96 : decode cX10_isThere 96 = .ok (.iconst 4, 1) := by decide +kernel
theorem dX10_isThere_97 : decode cX10_isThere 97 = .ok (.iadd, 1) := by decide +kernel
theorem dX10_isThere_98 : decode cX10_isThere 98 = .ok (.putfield 98, 3) := by decide +kernel
theorem dX10_isThere_101 : decode cX10_isThere 101 = .ok (.aload_n 0, 1) := by decide +kernel
theorem dX10_isThere_102 : decode cX10_isThere 102 = .ok (.getfield 91, 3) := by decide +kernel
theorem dX10_isThere_105 : decode cX10_isThere 105 = .ok (.aload_n 0, 1) := by decide +kernel
theorem dX10_isThere_106 : decode cX10_isThere 106 = .ok (.invokevirtual 76, 3) := by decide +kernel
theorem dX10_isThere_109 : decode cX10_isThere 109 = .ok (.if_icmp .le 10, 3) := by decide +kernel
theorem dX10_isThere_112 : decode cX10_isThere 112 = .ok (.aload_n 0, 1) := by decide +kernel
theorem dX10_isThere_113 : decode cX10_isThere 113 = .ok (.getfield 91, 3) := by decide +kernel
theorem dX10_isThere_116 : decode cX10_isThere 116 = .ok (.goto 7, 3) := by decide +kernel
theorem dX10_isThere_119 : decode cX10_isThere 119 = .ok (.aload_n 0, 1) := by decide +kernel
theorem dX10_isThere_120 : decode cX10_isThere 120 = .ok (.invokevirtual 76, 3) := by decide +kernel
theorem dX10_isThere_123 : decode cX10_isThere 123 = .ok (.istore 4, 2) := by decide +kernel
theorem dX10_isThere_125 : decode cX10_isThere 125 = .ok (.aload_n 0, 1) := by decide +kernel
theorem dX10_isThere_126 : decode cX10_isThere 126 = .ok (.getfield 95, 3) := by decide +kernel
theorem dX10_isThere_129 : decode cX10_isThere 129 = .ok (.ifCond .eq 31, 3) := by decide +kernel
theorem dX10_isThere_132 : decode cX10_isThere 132 = .ok (.aload_n 0, 1) := by decide +kernel
theorem dX10_isThere_133 : decode cX10_isThere 133 = .ok (.getfield 98, 3) := by decide +kernel
theorem dX10_isThere_136 : decode cX10_isThere 136 = .ok (.i2l, 1) := by decide +kernel
theorem dX10_isThere_137 : decode cX10_isThere 137 = .ok (.aload_n 0, 1) := by decide +kernel
theorem dX10_isThere_138 : decode cX10_isThere 138 = .ok (.getfield 95, 3) := by decide +kernel
theorem dX10_isThere_141 : decode cX10_isThere 141 = .ok (.iconst 1, 1) := by decide +kernel
theorem dX10_isThere_142 : decode cX10_isThere 142 = .ok (.isub, 1) := by decide +kernel
theorem dX10_isThere_143 : decode cX10_isThere 143 = .ok (.i2l, 1) := by decide +kernel
theorem dX10_isThere_144 : decode cX10_isThere 144 = .ok (.aload_n 0, 1) := by decide +kernel
theorem dX10_isThere_145 : decode cX10_isThere 145 = .ok (.getfield 91, 3) := by decide +kernel
theorem dX10_isThere_148 : decode cX10_isThere 148 = .ok (.i2l, 1) := by decide +kernel
theorem dX10_isThere_149 : decode cX10_isThere 149 = .ok (.lmul, 1) := by decide +kernel
theorem dX10_isThere_150 : decode cX10_isThere 150 = .ok (.iload 4, 2) := by decide +kernel
theorem dX10_isThere_152 : decode cX10_isThere 152 = .ok (.i2l, 1) := by decide +kernel
theorem dX10_isThere_153 : decode cX10_isThere 153 = .ok (.ladd, 1) := by decide +kernel
theorem dX10_isThere_154 : decode cX10_isThere 154 = .ok (.invokestatic 56, 3) := by decide +kernel
theorem dX10_isThere_157 : decode cX10_isThere 157 = .ok (.ifCond .eq 7, 3) := by decide +kernel
theorem dX10_isThere_160 : decode cX10_isThere 160 = .ok (.iconst 1, 1) := by decide +kernel
theorem dX10_isThere_161 : decode cX10_isThere 161 = .ok (.goto 4, 3) := by decide +kernel
theorem dX10_isThere_164 : decode cX10_isThere 164 = .ok (.iconst 0, 1) := by decide +kernel
theorem dX10_isThere_165 : decode cX10_isThere 165 = .ok (.ireturn, 1) := by decide +kernel
theorem dX10_isSeparator_0 : decode cX10_isSeparator 0 = .ok (.iconst 0, 1) := by decide +kernel
theorem dX10_isSeparator_1 : decode cX10_isSeparator 1 = .ok (.istore_n 3, 1) := by decide +kernel
theorem dX10_isSeparator_2 : decode cX10_isSeparator 2 = .ok (.iconst 0, 1) := by decide +kernel
theorem dX10_isSeparator_3 : decode cX10_isSeparator 3 = .ok (.istore 4, 2) := by decide +kernel
theorem dX10_isSeparator_5 : decode cX10_isSeparator 5 = .ok (.iload 4, 2) := by decide +kernel
theorem dX10_isSeparator_7 : decode cX10_isSeparator 7 = .ok (.aload_n 0, 1) := by decide +kernel
theorem dX10_isSeparator_8 : decode cX10_isSeparator 8 = .ok (.getfield 7, 3) := by decide +kernel
theorem dX10_isSeparator_11 : decode cX10_isSeparator 11 = .ok (.iload_n 1, 1) := by decide +kernel
theorem dX10_isSeparator_12 : decode cX10_isSeparator 12 = .ok (.iaload, 1) := by decide +kernel
theorem dX10_isSeparator_13 : decode cX10_isSeparator 13 = .ok (.if_icmp .ge 34, 3) := by decide +kernel
theorem dX10_isSeparator_16 : decode cX10_isSeparator 16 = .ok (.iload_n 3, 1) := by decide +kernel
theorem dX10_isSeparator_17 : decode cX10_isSeparator 17 = .ok (.ifCond .ne 18, 3) := by decide +kernel
theorem dX10_isSeparator_20 : decode cX10_isSeparator 20 = .ok (.aload_n 0, 1) := by decide +kernel
theorem dX10_isSeparator_21 : decode cX10_isSeparator 21 = .ok (.getfield 7, 3) := by decide +kernel
theorem dX10_isSeparator_24 : decode cX10_isSeparator 24 = .ok (.iload_n 1, 1) := by decide +kernel
theorem dX10_isSeparator_25 : decode cX10_isSeparator 25 = .ok (.iconst 1, 1) := by decide +kernel
theorem dX10_isSeparator_26 : decode cX10_isSeparator 26 = .ok (.iadd, 1) := by decide +kernel
theorem dX10_isSeparator_27 : decode cX10_isSeparator 27 = .ok (.iload 4, 2) := by decide +kernel
theorem dX10_isSeparator_29 : decode cX10_isSeparator 29 = .ok (.iadd, 1) := by decide +kernel
theorem dX10_isSeparator_30 : decode cX10_isSeparator 30 = .ok (.iaload, 1) := by decide +kernel
theorem dX10_isSeparator_31 : decode cX10_isSeparator 31 = .ok (.iload_n 2, 1) := by decide +kernel
theorem dX10_isSeparator_32 : decode cX10_isSeparator 32 = .ok (.if_icmp .ne 7, 3) := by decide +kernel
theorem dX10_isSeparator_35 : decode cX10_isSeparator 35 = .ok (.iconst 1, 1) := by decide +kernel
theorem dX10_isSeparator_36 : decode cX10_isSeparator 36 = .ok (.goto 4, 3) := by decide +kernel
theorem dX10_isSeparator_39 : decode cX10_isSeparator 39 = .ok (.iconst 0, 1) := by decide +kernel
theorem dX10_isSeparator_40 : decode cX10_isSeparator 40 = .ok (.istore_n 3, 1) := by decide +kernel
theorem dX10_isSeparator_41 : decode cX10_isSeparator 41 = .ok (.iinc 4 1, 3) := by decide +kernel
theorem dX10_isSeparator_44 : decode cX10_isSeparator 44 = .ok (.goto (-39), 3) := by decide +kernel
theorem dX10_isSeparator_47 : decode cX10_isSeparator 47 = .ok (.iload_n 3, 1) := by decide +kernel
theorem dX10_isSeparator_48 : decode cX10_isSeparator 48 = .ok (.ireturn, 1) := by decide +kernel
set_option maxRecDepth 100000 in
theorem ggX10_entryOf_X10_packs : GoodIn wsX10_entryOf wsX10_packs := goodIn_r _ [10, 11, 4, 12, 13, 5, 14, 15, 16, 9, 17, 18, 19, 20, 21, 22, 23, 24, 25, 26, 27, 28, 29, 30, 31, 32, 33, 34, 35, 36, 37, 38, 39, 40, 41, 42, 43, 44, 45, 46, 47, 48, 49, 50, 51, 52, 53, 54, 55, 56, 57, 58, 59, 60, 61, 62, 63, 64, 65, 66] rfl (by decide +kernel)
set_option maxRecDepth 100000 in
theorem gX10_entryOf_X10_packs : GoodIn wsX10_entryOf (wsV RX10 81 RX10 yX10_packs wsX10_packs) := goodIn_app (goodIn_of _ (by decide +kernel)) ggX10_entryOf_X10_packs
set_option maxRecDepth 100000 in
theorem ggX10_entryOf_X10_packedSize : GoodIn wsX10_entryOf wsX10_packedSize := goodIn_r _ [33, 18, 34, 35, 36, 37, 38, 39, 40, 41, 42, 43, 44, 45, 46, 47, 48, 49, 50, 51, 52, 53, 54, 55, 56, 57, 58, 59, 60, 61, 62, 63, 64, 65, 66] rfl (by decide +kernel)
set_option maxRecDepth 100000 in
theorem gX10_entryOf_X10_packedSize : GoodIn wsX10_entryOf (wsV RX10 76 RX10 yX10_packedSize wsX10_packedSize) := goodIn_app (goodIn_of _ (by decide +kernel)) ggX10_entryOf_X10_packedSize
theorem dX10_entryOf_0 : decode cX10_entryOf 0 = .ok (.aload_n 0, 1) := by decide +kernel
theorem dX10_entryOf_1 : decode cX10_entryOf 1 = .ok (.iload_n 1, 1) := by decide +kernel
theorem dX10_entryOf_2 : decode cX10_entryOf 2 = .ok (.iload_n 2, 1) := by decide +kernel
theorem dX10_entryOf_3 : decode cX10_entryOf 3 = .ok (.invokevirtual 81, 3) := by decide +kernel
theorem dX10_entryOf_6 : decode cX10_entryOf 6 = .ok (.iconst 0, 1) := by decide +kernel
theorem dX10_entryOf_7 : decode cX10_entryOf 7 = .ok (.istore_n 3, 1) := by decide +kernel
theorem dX10_entryOf_8 : decode cX10_entryOf 8 = .ok (.iload_n 3, 1) := by decide +kernel
theorem dX10_entryOf_9 : decode cX10_entryOf 9 = .ok (.aload_n 0, 1) := by decide +kernel
theorem dX10_entryOf_10 : decode cX10_entryOf 10 = .ok (.getfield 95, 3) := by decide +kernel
theorem dX10_entryOf_13 : decode cX10_entryOf 13 = .ok (.if_icmp .ge 83, 3) := by decide +kernel
theorem dX10_entryOf_16 : decode cX10_entryOf 16 = .ok (.aload_n 0, 1) := by decide +kernel
theorem dX10_entryOf_17 : decode cX10_entryOf 17 = .ok (.getfield 98, 3) := by decide +kernel
theorem dX10_entryOf_20 : decode cX10_entryOf 20 = .ok (.iload_n 3, 1) := by decide +kernel
theorem dX10_entryOf_21 : decode cX10_entryOf 21 = .ok (.aload_n 0, 1) := by decide +kernel
theorem dX10_entryOf_22 : decode cX10_entryOf 22 = .ok (.getfield 91, 3) := by decide +kernel
theorem dX10_entryOf_25 : decode cX10_entryOf 25 = .ok (.imul, 1) := by decide +kernel
theorem dX10_entryOf_26 : decode cX10_entryOf 26 = .ok (.iadd, 1) := by decide +kernel
theorem dX10_entryOf_27 : decode cX10_entryOf 27 = .ok (.istore 4, 2) := by decide +kernel
theorem dX10_entryOf_29 : decode cX10_entryOf 29 = .ok (.iconst 1, 1) := by decide +kernel
theorem dX10_entryOf_30 : decode cX10_entryOf 30 = .ok (.istore 5, 2) := by decide +kernel
theorem dX10_entryOf_32 : decode cX10_entryOf 32 = .ok (.iconst 0, 1) := by decide +kernel
theorem dX10_entryOf_33 : decode cX10_entryOf 33 = .ok (.istore 6, 2) := by decide +kernel
theorem dX10_entryOf_35 : decode cX10_entryOf 35 = .ok (.iload 6, 2) := by decide +kernel
theorem dX10_entryOf_37 : decode cX10_entryOf 37 = .ok (.aload_n 0, 1) := by decide +kernel
theorem dX10_entryOf_38 : decode cX10_entryOf 38 = .ok (.invokevirtual 76, 3) := by decide +kernel
theorem dX10_entryOf_41 : decode cX10_entryOf 41 = .ok (.if_icmp .ge 41, 3) := by decide +kernel
theorem dX10_entryOf_44 : decode cX10_entryOf 44 = .ok (.iload 5, 2) := by decide +kernel
theorem dX10_entryOf_46 : decode cX10_entryOf 46 = .ok (.ifCond .eq 27, 3) := by decide +kernel
theorem dX10_entryOf_49 : decode cX10_entryOf 49 = .ok (.aload_n 0, 1) := by decide +kernel
theorem dX10_entryOf_50 : decode cX10_entryOf 50 = .ok (.getfield 7, 3) := by decide +kernel
