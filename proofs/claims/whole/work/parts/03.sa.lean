theorem dX0_init_0 : decode cX0_init 0 = .ok (.aload_n 0, 1) := by decide +kernel
theorem dX0_init_1 : decode cX0_init 1 = .ok (.invokespecial 1, 3) := by decide +kernel
theorem dX0_init_4 : decode cX0_init 4 = .ok (.return_, 1) := by decide +kernel
set_option maxRecDepth 100000 in
theorem ggX0_restart_X0_set : GoodIn wsX0_restart wsX0_set := goodIn_r _ [7, 8, 9, 10, 11, 12, 13, 14, 15, 16, 17] rfl (by decide +kernel)
set_option maxRecDepth 100000 in
theorem gX0_restart_X0_set : GoodIn wsX0_restart (wsV RX0 17 RX0 yX0_set wsX0_set) := goodIn_app (goodIn_of _ (by decide +kernel)) ggX0_restart_X0_set
theorem dX0_restart_0 : decode cX0_restart 0 = .ok (.aload_n 0, 1) := by decide +kernel
theorem dX0_restart_1 : decode cX0_restart 1 = .ok (.iconst 0, 1) := by decide +kernel
theorem dX0_restart_2 : decode cX0_restart 2 = .ok (.putfield 7, 3) := by decide +kernel
theorem dX0_restart_5 : decode cX0_restart 5 = .ok (.aload_n 0, 1) := by decide +kernel
theorem dX0_restart_6 : decode cX0_restart 6 = .ok (.iconst 0, 1) := by decide +kernel
theorem dX0_restart_7 : decode cX0_restart 7 = .ok (.putfield 13, 3) := by decide +kernel
theorem dX0_restart_10 : decode cX0_restart 10 = .ok (.aload_n 0, 1) := by decide +kernel
theorem dX0_restart_11 : decode cX0_restart 11 = .ok (.iconst 0, 1) := by decide +kernel
theorem dX0_restart_12 : decode cX0_restart 12 = .ok (.iconst 0, 1) := by decide +kernel
theorem dX0_restart_13 : decode cX0_restart 13 = .ok (.invokevirtual 17, 3) := by decide +kernel
theorem dX0_restart_16 : decode cX0_restart 16 = .ok (.return_, 1) := by decide +kernel
theorem dX0_set_0 : decode cX0_set 0 = .ok (.aload_n 0, 1) := by decide +kernel
theorem dX0_set_1 : decode cX0_set 1 = .ok (.iload_n 1, 1) := by decide +kernel
theorem dX0_set_2 : decode cX0_set 2 = .ok (.putfield 21, 3) := by decide +kernel
theorem dX0_set_5 : decode cX0_set 5 = .ok (.aload_n 0, 1) := by decide +kernel
theorem dX0_set_6 : decode cX0_set 6 = .ok (.iload_n 2, 1) := by decide +kernel
theorem dX0_set_7 : decode cX0_set 7 = .ok (.putfield 24, 3) := by decide +kernel
theorem dX0_set_10 : decode cX0_set 10 = .ok (.aload_n 0, 1) := by decide +kernel
theorem dX0_set_11 : decode cX0_set 11 = .ok (.iconst 0, 1) := by decide +kernel
theorem dX0_set_12 : decode cX0_set 12 = .ok (.putfield 27, 3) := by decide +kernel
theorem dX0_set_15 : decode cX0_set 15 = .ok (.aload_n 0, 1) := by decide +kernel
theorem dX0_set_16 : decode cX0_set 16 = .ok (.iconst 0, 1) := by decide +kernel
theorem dX0_set_17 : decode cX0_set 17 = .ok (.putfield 30, 3) := by decide +kernel
theorem dX0_set_20 : decode cX0_set 20 = .ok (.return_, 1) := by decide +kernel
set_option maxRecDepth 100000 in
theorem ggX0_pass_X0_callsUntilStop : GoodIn wsX0_pass wsX0_callsUntilStop := goodIn_r _ [14, 4, 15, 16, 17, 18, 19, 20, 21] rfl (by decide +kernel)
set_option maxRecDepth 100000 in
theorem gX0_pass_X0_callsUntilStop : GoodIn wsX0_pass (wsV RX0 33 RX0 yX0_callsUntilStop wsX0_callsUntilStop) := goodIn_app (goodIn_of _ (by decide +kernel)) ggX0_pass_X0_callsUntilStop
theorem dX0_pass_0 : decode cX0_pass 0 = .ok (.aload_n 0, 1) := by decide +kernel
theorem dX0_pass_1 : decode cX0_pass 1 = .ok (.iconst 0, 1) := by decide +kernel
theorem dX0_pass_2 : decode cX0_pass 2 = .ok (.putfield 13, 3) := by decide +kernel
theorem dX0_pass_5 : decode cX0_pass 5 = .ok (.aload_n 0, 1) := by decide +kernel
theorem dX0_pass_6 : decode cX0_pass 6 = .ok (.getfield 21, 3) := by decide +kernel
theorem dX0_pass_9 : decode cX0_pass 9 = .ok (.ifCond .gt 5, 3) := by decide +kernel
theorem dX0_pass_12 : decode cX0_pass 12 = .ok (.iconst 0, 1) := by decide +kernel
theorem dX0_pass_13 : decode cX0_pass 13 = .ok (.ireturn, 1) := by decide +kernel
theorem dX0_pass_14 : decode cX0_pass 14 = .ok (.aload_n 0, 1) := by decide +kernel
theorem dX0_pass_15 : decode cX0_pass 15 = .ok (.getfield 30, 3) := by decide +kernel
theorem dX0_pass_18 : decode cX0_pass 18 = .ok (.iload_n 1, 1) := by decide +kernel
theorem dX0_pass_19 : decode cX0_pass 19 = .ok (.iadd, 1) := by decide +kernel
theorem dX0_pass_20 : decode cX0_pass 20 = .ok (.istore_n 2, 1) := by decide +kernel
theorem dX0_pass_21 : decode cX0_pass 21 = .ok (.iload_n 2, 1) := by decide +kernel
theorem dX0_pass_22 : decode cX0_pass 22 = .ok (.aload_n 0, 1) := by decide +kernel
theorem dX0_pass_23 : decode cX0_pass 23 = .ok (.getfield 21, 3) := by decide +kernel
theorem dX0_pass_26 : decode cX0_pass 26 = .ok (.idiv, 1) := by decide +kernel
theorem dX0_pass_27 : decode cX0_pass 27 = .ok (.istore_n 3, 1) := by decide +kernel
theorem dX0_pass_28 : decode cX0_pass 28 = .ok (.aload_n 0, 1) := by decide +kernel
theorem dX0_pass_29 : decode cX0_pass 29 = .ok (.invokevirtual 33, 3) := by decide +kernel
theorem dX0_pass_32 : decode cX0_pass 32 = .ok (.istore 4, 2) := by decide +kernel
theorem dX0_pass_34 : decode cX0_pass 34 = .ok (.aload_n 0, 1) := by decide +kernel
theorem dX0_pass_35 : decode cX0_pass 35 = .ok (.iload 4, 2) := by decide +kernel
theorem dX0_pass_37 : decode cX0_pass 37 = .ok (.ifCond .le 13, 3) := by decide +kernel
theorem dX0_pass_40 : decode cX0_pass 40 = .ok (.iload 4, 2) := by decide +kernel
theorem dX0_pass_42 : decode cX0_pass 42 = .ok (.iload_n 3, 1) := by decide +kernel
theorem dX0_pass_43 : decode cX0_pass 43 = .ok (.if_icmp .gt 7, 3) := by decide +kernel
theorem dX0_pass_46 : decode cX0_pass 46 = .ok (.iconst 1, 1) := by decide +kernel
theorem dX0_pass_47 : decode cX0_pass 47 = .ok (.goto 4, 3) := by decide +kernel
theorem dX0_pass_50 : decode cX0_pass 50 = .ok (.iconst 0, 1) := by decide +kernel
theorem dX0_pass_51 : decode cX0_pass 51 = .ok (.putfield 13, 3) := by decide +kernel
theorem dX0_pass_54 : decode cX0_pass 54 = .ok (.aload_n 0, 1) := by decide +kernel
theorem dX0_pass_55 : decode cX0_pass 55 = .ok (.getfield 13, 3) := by decide +kernel
theorem dX0_pass_58 : decode cX0_pass 58 = .ok (.ifCond .eq 8, 3) := by decide +kernel
theorem dX0_pass_61 : decode cX0_pass 61 = .ok (.iload 4, 2) := by decide +kernel
theorem dX0_pass_63 : decode cX0_pass 63 = .ok (.goto 4, 3) := by decide +kernel
theorem dX0_pass_66 : decode cX0_pass 66 = .ok (.iload_n 3, 1) := by decide +kernel
theorem dX0_pass_67 : decode cX0_pass 67 = .ok (.istore 5, 2) := by decide +kernel
theorem dX0_pass_69 : decode cX0_pass 69 = .ok (.aload_n 0, 1) := by decide +kernel
theorem dX0_pass_70 : decode cX0_pass 70 = .ok (.iload_n 2, 1) := by decide +kernel
theorem dX0_pass_71 : decode cX0_pass 71 = .ok (.aload_n 0, 1) := by decide +kernel
theorem dX0_pass_72 : decode cX0_pass 72 = .ok (.getfield 21, 3) := by decide +kernel
theorem dX0_pass_75 : decode cX0_pass 75 = .ok (.irem, 1) := by decide +kernel
theorem dX0_pass_76 : decode cX0_pass 76 = .ok (.putfield 30, 3) := by decide +kernel
theorem dX0_pass_79 : decode cX0_pass 79 = .ok (.aload_n 0, 1) := by decide +kernel
theorem dX0_pass_80 : decode cX0_pass 80 = .ok (.aload_n 0, 1) := by decide +kernel
theorem dX0_pass_81 : decode cX0_pass 81 = .ok (.getfield 27, 3) := by decide +kernel
theorem dX0_pass_84 : decode cX0_pass 84 = .ok (.iload 5, 2) := by decide +kernel
theorem dX0_pass_86 : decode cX0_pass 86 = .ok (.iadd, 1) := by decide +kernel
theorem dX0_pass_87 : decode cX0_pass 87 = .ok (.bipush 32, 2) := by decide +kernel
theorem dX0_pass_89 : decode cX0_pass 89 = .ok (.invokestatic 37, 3) := by decide +kernel
theorem dX0_pass_92 : decode cX0_pass 92 = .ok (.putfield 27, 3) := by decide +kernel
theorem dX0_pass_95 : decode cX0_pass 95 = .ok (.aload_n 0, 1) := by decide +kernel
theorem dX0_pass_96 : decode cX0_pass 96 = .ok (.dup, 1) := by decide +kernel
theorem dX0_pass_97 : decode cX0_pass 97 = .ok (.getfield 7, 3) := by decide +kernel
theorem dX0_pass_100 : decode cX0_pass 100 = .ok (.iload 5, 2) := by decide +kernel
theorem dX0_pass_102 : decode cX0_pass 102 = .ok (.iadd, 1) := by decide +kernel
theorem dX0_pass_103 : decode cX0_pass 103 = .ok (.putfield 7, 3) := by decide +kernel
theorem dX0_pass_106 : decode cX0_pass 106 = .ok (.iload 5, 2) := by decide +kernel
theorem dX0_pass_108 : decode cX0_pass 108 = .ok (.ireturn, 1) := by decide +kernel
theorem dX0_callsUntilStop_0 : decode cX0_callsUntilStop 0 = .ok (.aload_n 0, 1) := by decide +kernel
theorem dX0_callsUntilStop_1 : decode cX0_callsUntilStop 1 = .ok (.getfield 27, 3) := by decide +kernel
theorem dX0_callsUntilStop_4 : decode cX0_callsUntilStop 4 = .ok (.istore_n 1, 1) := by decide +kernel
theorem dX0_callsUntilStop_5 : decode cX0_callsUntilStop 5 = .ok (.iload_n 1, 1) := by decide +kernel
theorem dX0_callsUntilStop_6 : decode cX0_callsUntilStop 6 = .ok (.bipush 32, 2) := by decide +kernel
theorem dX0_callsUntilStop_8 : decode cX0_callsUntilStop 8 = .ok (.if_icmp .ge 30, 3) := by decide +kernel
theorem dX0_callsUntilStop_11 : decode cX0_callsUntilStop 11 = .ok (.aload_n 0, 1) := by decide +kernel
theorem dX0_callsUntilStop_12 : decode cX0_callsUntilStop 12 = .ok (.getfield 24, 3) := by decide +kernel
theorem dX0_callsUntilStop_15 : decode cX0_callsUntilStop 15 = .ok (.iload_n 1, 1) := by decide +kernel
theorem dX0_callsUntilStop_16 : decode cX0_callsUntilStop 16 = .ok (.iushr, 1) := by decide +kernel
theorem dX0_callsUntilStop_17 : decode cX0_callsUntilStop 17 = .ok (.iconst 1, 1) := by decide +kernel
theorem dX0_callsUntilStop_18 : decode cX0_callsUntilStop 18 = .ok (.iand, 1) := by decide +kernel
theorem dX0_callsUntilStop_19 : decode cX0_callsUntilStop 19 = .ok (.iconst 1, 1) := by decide +kernel
theorem dX0_callsUntilStop_20 : decode cX0_callsUntilStop 20 = .ok (.if_icmp .ne 12, 3) := by decide +kernel
theorem dX0_callsUntilStop_23 : decode cX0_callsUntilStop 23 = .ok (.iload_n 1, 1) := by decide +kernel
theorem dX0_callsUntilStop_24 : decode cX0_callsUntilStop 24 = .ok (.aload_n 0, 1) := by decide +kernel
theorem dX0_callsUntilStop_25 : decode cX0_callsUntilStop 25 = .ok (.getfield 27, 3) := by decide +kernel
theorem dX0_callsUntilStop_28 : decode cX0_callsUntilStop 28 = .ok (.isub, 1) := by decide +kernel
theorem dX0_callsUntilStop_29 : decode cX0_callsUntilStop 29 = .ok (.iconst 1, 1) := by decide +kernel
theorem dX0_callsUntilStop_30 : decode cX0_callsUntilStop 30 = .ok (.iadd, 1) := by decide +kernel
theorem dX0_callsUntilStop_31 : decode cX0_callsUntilStop 31 = .ok (.ireturn, 1) := by decide +kernel
theorem dX0_callsUntilStop_32 : decode cX0_callsUntilStop 32 = .ok (.iinc 1 1, 3) := by decide +kernel
theorem dX0_callsUntilStop_35 : decode cX0_callsUntilStop 35 = .ok (.goto (-30), 3) := by decide +kernel
theorem dX0_callsUntilStop_38 : decode cX0_callsUntilStop 38 = .ok (.iconst 0, 1) := by decide +kernel
theorem dX0_callsUntilStop_39 : decode cX0_callsUntilStop 39 = .ok (.ireturn, 1) := by decide +kernel
theorem dX1_init_0 : decode cX1_init 0 = .ok (.aload_n 0, 1) := by decide +kernel
theorem dX1_init_1 : decode cX1_init 1 = .ok (.invokespecial 3, 3) := by decide +kernel
theorem dX1_init_4 : decode cX1_init 4 = .ok (.aload_n 0, 1) := by decide +kernel
theorem dX1_init_5 : decode cX1_init 5 = .ok (.sipush 256, 3) := by decide +kernel
theorem dX1_init_8 : decode cX1_init 8 = .ok (.newarray .boolean, 2) := by decide +kernel
theorem dX1_init_10 : decode cX1_init 10 = .ok (.putfield 9, 3) := by decide +kernel
theorem dX1_init_13 : decode cX1_init 13 = .ok (.aload_n 0, 1) := by decide +kernel
theorem dX1_init_14 : decode cX1_init 14 = .ok (.aload_n 1, 1) := by decide +kernel
theorem dX1_init_15 : decode cX1_init 15 = .ok (.putfield 15, 3) := by decide +kernel
theorem dX1_init_18 : decode cX1_init 18 = .ok (.aload_n 0, 1) := by decide +kernel
theorem dX1_init_19 : decode cX1_init 19 = .ok (.iload_n 2, 1) := by decide +kernel
theorem dX1_init_20 : decode cX1_init 20 = .ok (.putfield 19, 3) := by decide +kernel
theorem dX1_init_23 : decode cX1_init 23 = .ok (.return_, 1) := by decide +kernel
set_option maxRecDepth 100000 in
theorem ggX1_open_X4_octet : GoodIn wsX1_open wsX4_octet := goodIn_r _ [16, 17, 39] rfl (by decide +kernel)
set_option maxRecDepth 100000 in
theorem gX1_open_X4_octet : GoodIn wsX1_open (wsV RX1 23 RX4 yX4_octet wsX4_octet) := goodIn_app (goodIn_of _ (by decide +kernel)) ggX1_open_X4_octet
set_option maxRecDepth 100000 in
theorem ggX1_open_X4_holds : GoodIn wsX1_open wsX4_holds := goodIn_r _ [21] rfl (by decide +kernel)
set_option maxRecDepth 100000 in
theorem gX1_open_X4_holds : GoodIn wsX1_open (wsV RX1 29 RX4 yX4_holds wsX4_holds) := goodIn_app (goodIn_of _ (by decide +kernel)) ggX1_open_X4_holds
set_option maxRecDepth 100000 in
theorem ggX1_open_X4_pair : GoodIn wsX1_open wsX4_pair := goodIn_r _ [25, 26, 13, 14, 15, 16, 17, 39] rfl (by decide +kernel)
set_option maxRecDepth 100000 in
theorem gX1_open_X4_pair : GoodIn wsX1_open (wsV RX1 36 RX4 yX4_pair wsX4_pair) := goodIn_app (goodIn_of _ (by decide +kernel)) ggX1_open_X4_pair
set_option maxRecDepth 100000 in
theorem ggX1_open_X1_markSeparators : GoodIn wsX1_open wsX1_markSeparators := goodIn_r _ [31, 32, 1, 12, 13, 14, 15, 16, 17, 33, 34, 35, 36, 37, 38, 39] rfl (by decide +kernel)
set_option maxRecDepth 100000 in
theorem gX1_open_X1_markSeparators : GoodIn wsX1_open (wsV RX1 47 RX1 yX1_markSeparators wsX1_markSeparators) := goodIn_app (goodIn_of _ (by decide +kernel)) ggX1_open_X1_markSeparators
theorem dX1_open_0 : decode cX1_open 0 = .ok (.aload_n 0, 1) := by decide +kernel
theorem dX1_open_1 : decode cX1_open 1 = .ok (.getfield 15, 3) := by decide +kernel
theorem dX1_open_4 : decode cX1_open 4 = .ok (.iload_n 1, 1) := by decide +kernel
theorem dX1_open_5 : decode cX1_open 5 = .ok (.invokevirtual 23, 3) := by decide +kernel
theorem dX1_open_8 : decode cX1_open 8 = .ok (.istore_n 2, 1) := by decide +kernel
theorem dX1_open_9 : decode cX1_open 9 = .ok (.aload_n 0, 1) := by decide +kernel
theorem dX1_open_10 : decode cX1_open 10 = .ok (.getfield 15, 3) := by decide +kernel
theorem dX1_open_13 : decode cX1_open 13 = .ok (.iload_n 1, 1) := by decide +kernel
theorem dX1_open_14 : decode cX1_open 14 = .ok (.iload_n 2, 1) := by decide +kernel
theorem dX1_open_15 : decode cX1_open 15 = .ok (.iconst 4, 1) := by decide +kernel
theorem dX1_open_16 : decode cX1_open 16 = .ok (.iadd, 1) := by decide +kernel
theorem dX1_open_17 : decode cX1_open 17 = .ok (.invokevirtual 29, 3) := by decide +kernel
theorem dX1_open_20 : decode cX1_open 20 = .ok (.ifCond .ne 5, 3) := by decide +kernel
theorem dX1_open_23 : decode cX1_open 23 = .ok (.iconst 0, 1) := by decide +kernel
theorem dX1_open_24 : decode cX1_open 24 = .ok (.ireturn, 1) := by decide +kernel
theorem dX1_open_25 : decode cX1_open 25 = .ok (.aload_n 0, 1) := by decide +kernel
theorem dX1_open_26 : decode cX1_open 26 = .ok (.aload_n 0, 1) := by decide +kernel
theorem dX1_open_27 : decode cX1_open 27 = .ok (.getfield 15, 3) := by decide +kernel
theorem dX1_open_30 : decode cX1_open 30 = .ok (.iload_n 1, 1) := by decide +kernel
theorem dX1_open_31 : decode cX1_open 31 = .ok (.iload_n 2, 1) := by decide +kernel
theorem dX1_open_32 : decode cX1_open 32 = .ok (.iadd, 1) := by decide +kernel
theorem dX1_open_33 : decode cX1_open 33 = .ok (.iconst 1, 1) := by decide +kernel
theorem dX1_open_34 : decode cX1_open 34 = .ok (.iadd, 1) := by decide +kernel
theorem dX1_open_35 : decode cX1_open 35 = .ok (.invokevirtual 23, 3) := by decide +kernel
theorem dX1_open_38 : decode cX1_open 38 = .ok (.putfield 33, 3) := by decide +kernel
theorem dX1_open_41 : decode cX1_open 41 = .ok (.aload_n 0, 1) := by decide +kernel
theorem dX1_open_42 : decode cX1_open 42 = .ok (.getfield 15, 3) := by decide +kernel
theorem dX1_open_45 : decode cX1_open 45 = .ok (.iload_n 1, 1) := by decide +kernel
theorem dX1_open_46 : decode cX1_open 46 = .ok (.iload_n 2, 1) := by decide +kernel
theorem dX1_open_47 : decode cX1_open 47 = .ok (.iadd, 1) := by decide +kernel
theorem dX1_open_48 : decode cX1_open 48 = .ok (.iconst 2, 1) := by decide +kernel
theorem dX1_open_49 : decode cX1_open 49 = .ok (.iadd, 1) := by decide +kernel
theorem dX1_open_50 : decode cX1_open 50 = .ok (.invokevirtual 36, 3) := by decide +kernel
theorem dX1_open_53 : decode cX1_open 53 = .ok (.istore_n 3, 1) := by decide +kernel
theorem dX1_open_54 : decode cX1_open 54 = .ok (.aload_n 0, 1) := by decide +kernel
theorem dX1_open_55 : decode cX1_open 55 = .ok (.iload_n 3, 1) := by decide +kernel
theorem dX1_open_56 : decode cX1_open 56 = .ok (.ldc 39, 2) := by decide +kernel
theorem dX1_open_58 : decode cX1_open 58 = .ok (.if_icmp .ge 7, 3) := by decide +kernel
theorem dX1_open_61 : decode cX1_open 61 = .ok (.iload_n 3, 1) := by decide +kernel
theorem dX1_open_62 : decode cX1_open 62 = .ok (.goto 7, 3) := by decide +kernel
theorem dX1_open_65 : decode cX1_open 65 = .ok (.ldc 40, 2) := by decide +kernel
theorem dX1_open_67 : decode cX1_open 67 = .ok (.iload_n 3, 1) := by decide +kernel
theorem dX1_open_68 : decode cX1_open 68 = .ok (.isub, 1) := by decide +kernel
theorem dX1_open_69 : decode cX1_open 69 = .ok (.putfield 41, 3) := by decide +kernel
theorem dX1_open_72 : decode cX1_open 72 = .ok (.aload_n 0, 1) := by decide +kernel
theorem dX1_open_73 : decode cX1_open 73 = .ok (.iload_n 1, 1) := by decide +kernel
theorem dX1_open_74 : decode cX1_open 74 = .ok (.iload_n 2, 1) := by decide +kernel
theorem dX1_open_75 : decode cX1_open 75 = .ok (.iadd, 1) := by decide +kernel
theorem dX1_open_76 : decode cX1_open 76 = .ok (.iconst 4, 1) := by decide +kernel
theorem dX1_open_77 : decode cX1_open 77 = .ok (.iadd, 1) := by decide +kernel
theorem dX1_open_78 : decode cX1_open 78 = .ok (.putfield 44, 3) := by decide +kernel
theorem dX1_open_81 : decode cX1_open 81 = .ok (.aload_n 0, 1) := by decide +kernel
theorem dX1_open_82 : decode cX1_open 82 = .ok (.iload_n 1, 1) := by decide +kernel
theorem dX1_open_83 : decode cX1_open 83 = .ok (.iconst 1, 1) := by decide +kernel
theorem dX1_open_84 : decode cX1_open 84 = .ok (.iadd, 1) := by decide +kernel
theorem dX1_open_85 : decode cX1_open 85 = .ok (.iload_n 2, 1) := by decide +kernel
theorem dX1_open_86 : decode cX1_open 86 = .ok (.invokevirtual 47, 3) := by decide +kernel
theorem dX1_open_89 : decode cX1_open 89 = .ok (.aload_n 0, 1) := by decide +kernel
theorem dX1_open_90 : decode cX1_open 90 = .ok (.getfield 41, 3) := by decide +kernel
theorem dX1_open_93 : decode cX1_open 93 = .ok (.ifCond .eq 40, 3) := by decide +kernel
theorem dX1_open_96 : decode cX1_open 96 = .ok (.aload_n 0, 1) := by decide +kernel
theorem dX1_open_97 : decode cX1_open 97 = .ok (.getfield 15, 3) := by decide +kernel
theorem dX1_open_100 : decode cX1_open 100 = .ok (.aload_n 0, 1) := by decide +kernel
theorem dX1_open_101 : decode cX1_open 101 = .ok (.getfield 44, 3) := by decide +kernel
theorem dX1_open_104 : decode cX1_open 104 = .ok (.aload_n 0, 1) := by decide +kernel
theorem dX1_open_105 : decode cX1_open 105 = .ok (.getfield 41, 3) := by decide +kernel
theorem dX1_open_108 : decode cX1_open 108 = .ok (.iconst 1, 1) := by decide +kernel
theorem dX1_open_109 : decode cX1_open 109 = .ok (.isub, 1) := by decide +kernel
theorem dX1_open_110 : decode cX1_open 110 = .ok (.aload_n 0, 1) := by decide +kernel
theorem dX1_open_111 : decode cX1_open 111 = .ok (.getfield 33, 3) := by decide +kernel
theorem dX1_open_114 : decode cX1_open 114 = .ok (.imul, 1) := by decide +kernel
theorem dX1_open_115 : decode cX1_open 115 = .ok (.aload_n 0, 1) := by decide +kernel
theorem dX1_open_116 : decode cX1_open 116 = .ok (.getfield 33, 3) := by decide +kernel
theorem dX1_open_119 : decode cX1_open 119 = .ok (.aload_n 0, 1) := by decide +kernel
theorem dX1_open_120 : decode cX1_open 120 = .ok (.getfield 19, 3) := by decide +kernel
theorem dX1_open_123 : decode cX1_open 123 = .ok (.invokestatic 51, 3) := by decide +kernel
theorem dX1_open_126 : decode cX1_open 126 = .ok (.iadd, 1) := by decide +kernel
theorem dX1_open_127 : decode cX1_open 127 = .ok (.invokevirtual 29, 3) := by decide +kernel
theorem dX1_open_130 : decode cX1_open 130 = .ok (.ifCond .eq 7, 3) := by decide +kernel
theorem dX1_open_133 : decode cX1_open 133 = .ok (.iconst 1, 1) := by decide +kernel
theorem dX1_open_134 : decode cX1_open 134 = .ok (.goto 4, 3) := by decide +kernel
theorem dX1_open_137 : decode cX1_open 137 = .ok (.iconst 0, 1) := by decide +kernel
theorem dX1_open_138 : decode cX1_open 138 = .ok (.ireturn, 1) := by decide +kernel
set_option maxRecDepth 100000 in
theorem ggX1_markSeparators_X4_octet : GoodIn wsX1_markSeparators wsX4_octet := goodIn_r _ [7, 8, 15] rfl (by decide +kernel)
set_option maxRecDepth 100000 in
theorem gX1_markSeparators_X4_octet : GoodIn wsX1_markSeparators (wsV RX1 23 RX4 yX4_octet wsX4_octet) := goodIn_app (goodIn_of _ (by decide +kernel)) ggX1_markSeparators_X4_octet
theorem dX1_markSeparators_0 : decode cX1_markSeparators 0 = .ok (.iconst 0, 1) := by decide +kernel
theorem dX1_markSeparators_1 : decode cX1_markSeparators 1 = .ok (.istore_n 3, 1) := by decide +kernel
theorem dX1_markSeparators_2 : decode cX1_markSeparators 2 = .ok (.iload_n 3, 1) := by decide +kernel
theorem dX1_markSeparators_3 : decode cX1_markSeparators 3 = .ok (.aload_n 0, 1) := by decide +kernel
theorem dX1_markSeparators_4 : decode cX1_markSeparators 4 = .ok (.getfield 9, 3) := by decide +kernel
theorem dX1_markSeparators_7 : decode cX1_markSeparators 7 = .ok (.arraylength, 1) := by decide +kernel
theorem dX1_markSeparators_8 : decode cX1_markSeparators 8 = .ok (.if_icmp .ge 16, 3) := by decide +kernel
theorem dX1_markSeparators_11 : decode cX1_markSeparators 11 = .ok (.aload_n 0, 1) := by decide +kernel
theorem dX1_markSeparators_12 : decode cX1_markSeparators 12 = .ok (.getfield 9, 3) := by decide +kernel
theorem dX1_markSeparators_15 : decode cX1_markSeparators 15 = .ok (.iload_n 3, 1) := by decide +kernel
theorem dX1_markSeparators_16 : decode cX1_markSeparators 16 = .ok (.iconst 0, 1) := by decide +kernel
theorem dX1_markSeparators_17 : decode cX1_markSeparators 17 = .ok (.bastore, 1) := by decide +kernel
theorem dX1_markSeparators_18 : decode cX1_markSeparators 18 = .ok (.iinc 3 1, 3) := by decide +kernel
theorem dX1_markSeparators_21 : decode cX1_markSeparators 21 = .ok (.goto (-19), 3) := by decide +kernel
theorem dX1_markSeparators_24 : decode cX1_markSeparators 24 = .ok (.iconst 0, 1) := by decide +kernel
theorem dX1_markSeparators_25 : decode cX1_markSeparators 25 = .ok (.istore_n 3, 1) := by decide +kernel
theorem dX1_markSeparators_26 : decode cX1_markSeparators 26 = .ok (.iload_n 3, 1) := by decide +kernel
theorem dX1_markSeparators_27 : decode cX1_markSeparators 27 = .ok (.iload_n 2, 1) := by decide +kernel
theorem dX1_markSeparators_28 : decode cX1_markSeparators 28 = .ok (.if_icmp .ge 44, 3) := by decide +kernel
theorem dX1_markSeparators_31 : decode cX1_markSeparators 31 = .ok (.aload_n 0, 1) := by decide +kernel
theorem dX1_markSeparators_32 : decode cX1_markSeparators 32 = .ok (.getfield 15, 3) := by decide +kernel
theorem dX1_markSeparators_35 : decode cX1_markSeparators 35 = .ok (.iload_n 1, 1) := by decide +kernel
theorem dX1_markSeparators_36 : decode cX1_markSeparators 36 = .ok (.iload_n 3, 1) := by decide +kernel
theorem dX1_markSeparators_37 : decode cX1_markSeparators 37 = .ok (.iadd, 1) := by decide +kernel
theorem dX1_markSeparators_38 : decode cX1_markSeparators 38 = .ok (.invokevirtual 23, 3) := by decide +kernel
theorem dX1_markSeparators_41 : decode cX1_markSeparators 41 = .ok (.istore 4, 2) := by decide +kernel
theorem dX1_markSeparators_43 : decode cX1_markSeparators 43 = .ok (.iload 4, 2) := by decide +kernel
theorem dX1_markSeparators_45 : decode cX1_markSeparators 45 = .ok (.ifCond .lt 21, 3) := by decide +kernel
theorem dX1_markSeparators_48 : decode cX1_markSeparators 48 = .ok (.iload 4, 2) := by decide +kernel
theorem dX1_markSeparators_50 : decode cX1_markSeparators 50 = .ok (.aload_n 0, 1) := by decide +kernel
theorem dX1_markSeparators_51 : decode cX1_markSeparators 51 = .ok (.getfield 9, 3) := by decide +kernel
theorem dX1_markSeparators_54 : decode cX1_markSeparators 54 = .ok (.arraylength, 1) := by decide +kernel
theorem dX1_markSeparators_55 : decode cX1_markSeparators 55 = .ok (.if_icmp .ge 11, 3) := by decide +kernel
theorem dX1_markSeparators_58 : decode cX1_markSeparators 58 = .ok (.aload_n 0, 1) := by decide +kernel
theorem dX1_markSeparators_59 : decode cX1_markSeparators 59 = .ok (.getfield 9, 3) := by decide +kernel
theorem dX1_markSeparators_62 : decode cX1_markSeparators 62 = .ok (.iload 4, 2) := by decide +kernel
theorem dX1_markSeparators_64 : decode cX1_markSeparators 64 = .ok (.iconst 1, 1) := by decide +kernel
theorem dX1_markSeparators_65 : decode cX1_markSeparators 65 = .ok (.bastore, 1) := by decide +kernel
theorem dX1_markSeparators_66 : decode cX1_markSeparators 66 = .ok (.iinc 3 1, 3) := by decide +kernel
theorem dX1_markSeparators_69 : decode cX1_markSeparators 69 = .ok (.goto (-43), 3) := by decide +kernel
theorem dX1_markSeparators_72 : decode cX1_markSeparators 72 = .ok (.return_, 1) := by decide +kernel
theorem dX1_separates_0 : decode cX1_separates 0 = .ok (.iload_n 1, 1) := by decide +kernel
theorem dX1_separates_1 : decode cX1_separates 1 = .ok (.ifCond .lt 25, 3) := by decide +kernel
theorem dX1_separates_4 : decode cX1_separates 4 = .ok (.iload_n 1, 1) := by decide +kernel
theorem dX1_separates_5 : decode cX1_separates 5 = .ok (.aload_n 0, 1) := by decide +kernel
theorem dX1_separates_6 : decode cX1_separates 6 = .ok (.getfield 9, 3) := by decide +kernel
theorem dX1_separates_9 : decode cX1_separates 9 = .ok (.arraylength, 1) := by decide +kernel
theorem dX1_separates_10 : decode cX1_separates 10 = .ok (.if_icmp .ge 16, 3) := by decide +kernel
theorem dX1_separates_13 : decode cX1_separates 13 = .ok (.aload_n 0, 1) := by decide +kernel
theorem dX1_separates_14 : decode cX1_separates 14 = .ok (.getfield 9, 3) := by decide +kernel
theorem dX1_separates_17 : decode cX1_separates 17 = .ok (.iload_n 1, 1) := by decide +kernel
theorem dX1_separates_18 : decode cX1_separates 18 = .ok (.baload, 1) := by decide +kernel
theorem dX1_separates_19 : decode cX1_separates 19 = .ok (.ifCond .eq 7, 3) := by decide +kernel
theorem dX1_separates_22 : decode cX1_separates 22 = .ok (.iconst 1, 1) := by decide +kernel
theorem dX1_separates_23 : decode cX1_separates 23 = .ok (.goto 4, 3) := by decide +kernel
theorem dX1_separates_26 : decode cX1_separates 26 = .ok (.iconst 0, 1) := by decide +kernel
theorem dX1_separates_27 : decode cX1_separates 27 = .ok (.ireturn, 1) := by decide +kernel
set_option maxRecDepth 100000 in
theorem ggX1_entryOf_X4_stores : GoodIn wsX1_entryOf wsX4_stores := goodIn_r _ [14, 15, 16, 17, 13, 18, 19, 26] rfl (by decide +kernel)
set_option maxRecDepth 100000 in
theorem gX1_entryOf_X4_stores : GoodIn wsX1_entryOf (wsV RX1 60 RX4 yX4_stores wsX4_stores) := goodIn_app (goodIn_of _ (by decide +kernel)) ggX1_entryOf_X4_stores
theorem dX1_entryOf_0 : decode cX1_entryOf 0 = .ok (.aload_n 0, 1) := by decide +kernel
theorem dX1_entryOf_1 : decode cX1_entryOf 1 = .ok (.getfield 33, 3) := by decide +kernel
theorem dX1_entryOf_4 : decode cX1_entryOf 4 = .ok (.ifCond .ne 14, 3) := by decide +kernel
theorem dX1_entryOf_7 : decode cX1_entryOf 7 = .ok (.aload_n 0, 1) := by decide +kernel
theorem dX1_entryOf_8 : decode cX1_entryOf 8 = .ok (.getfield 41, 3) := by decide +kernel
theorem dX1_entryOf_11 : decode cX1_entryOf 11 = .ok (.iconst 1, 1) := by decide +kernel
theorem dX1_entryOf_12 : decode cX1_entryOf 12 = .ok (.invokestatic 57, 3) := by decide +kernel
theorem dX1_entryOf_15 : decode cX1_entryOf 15 = .ok (.goto 7, 3) := by decide +kernel
theorem dX1_entryOf_18 : decode cX1_entryOf 18 = .ok (.aload_n 0, 1) := by decide +kernel
theorem dX1_entryOf_19 : decode cX1_entryOf 19 = .ok (.getfield 41, 3) := by decide +kernel
theorem dX1_entryOf_22 : decode cX1_entryOf 22 = .ok (.istore_n 3, 1) := by decide +kernel
theorem dX1_entryOf_23 : decode cX1_entryOf 23 = .ok (.iconst 0, 1) := by decide +kernel
theorem dX1_entryOf_24 : decode cX1_entryOf 24 = .ok (.istore 4, 2) := by decide +kernel
theorem dX1_entryOf_26 : decode cX1_entryOf 26 = .ok (.iload 4, 2) := by decide +kernel
theorem dX1_entryOf_28 : decode cX1_entryOf 28 = .ok (.iload_n 3, 1) := by decide +kernel
theorem dX1_entryOf_29 : decode cX1_entryOf 29 = .ok (.if_icmp .ge 43, 3) := by decide +kernel
theorem dX1_entryOf_32 : decode cX1_entryOf 32 = .ok (.aload_n 0, 1) := by decide +kernel
theorem dX1_entryOf_33 : decode cX1_entryOf 33 = .ok (.getfield 44, 3) := by decide +kernel
theorem dX1_entryOf_36 : decode cX1_entryOf 36 = .ok (.iload 4, 2) := by decide +kernel
theorem dX1_entryOf_38 : decode cX1_entryOf 38 = .ok (.aload_n 0, 1) := by decide +kernel
theorem dX1_entryOf_39 : decode cX1_entryOf 39 = .ok (.getfield 33, 3) := by decide +kernel
theorem dX1_entryOf_42 : decode cX1_entryOf 42 = .ok (.imul, 1) := by decide +kernel
theorem dX1_entryOf_43 : decode cX1_entryOf 43 = .ok (.iadd, 1) := by decide +kernel
theorem dX1_entryOf_44 : decode cX1_entryOf 44 = .ok (.istore 5, 2) := by decide +kernel
theorem dX1_entryOf_46 : decode cX1_entryOf 46 = .ok (.aload_n 0, 1) := by decide +kernel
theorem dX1_entryOf_47 : decode cX1_entryOf 47 = .ok (.getfield 15, 3) := by decide +kernel
theorem dX1_entryOf_50 : decode cX1_entryOf 50 = .ok (.iload 5, 2) := by decide +kernel
theorem dX1_entryOf_52 : decode cX1_entryOf 52 = .ok (.aload_n 0, 1) := by decide +kernel
theorem dX1_entryOf_53 : decode cX1_entryOf 53 = .ok (.getfield 19, 3) := by decide +kernel
theorem dX1_entryOf_56 : decode cX1_entryOf 56 = .ok (.lload_n 1, 1) := by decide +kernel
theorem dX1_entryOf_57 : decode cX1_entryOf 57 = .ok (.invokevirtual 60, 3) := by decide +kernel
theorem dX1_entryOf_60 : decode cX1_entryOf 60 = .ok (.ifCond .eq 6, 3) := by decide +kernel
theorem dX1_entryOf_63 : decode cX1_entryOf 63 = .ok (.iload 5, 2) := by decide +kernel
theorem dX1_entryOf_65 : decode cX1_entryOf 65 = .ok (.ireturn, 1) := by decide +kernel
theorem dX1_entryOf_66 : decode cX1_entryOf 66 = .ok (.iinc 4 1, 3) := by decide +kernel
theorem dX1_entryOf_69 : decode cX1_entryOf 69 = .ok (.goto (-43), 3) := by decide +kernel
theorem dX1_entryOf_72 : decode cX1_entryOf 72 = .ok (.iconst 0, 1) := by decide +kernel
theorem dX1_entryOf_73 : decode cX1_entryOf 73 = .ok (.ireturn, 1) := by decide +kernel
theorem dX2_init_0 : decode cX2_init 0 = .ok (.aload_n 0, 1) := by decide +kernel
theorem dX2_init_1 : decode cX2_init 1 = .ok (.invokespecial 1, 3) := by decide +kernel
theorem dX2_init_4 : decode cX2_init 4 = .ok (.aload_n 0, 1) := by decide +kernel
theorem dX2_init_5 : decode cX2_init 5 = .ok (.sipush 2000, 3) := by decide +kernel
theorem dX2_init_8 : decode cX2_init 8 = .ok (.newarray .int, 2) := by decide +kernel
theorem dX2_init_10 : decode cX2_init 10 = .ok (.putfield 9, 3) := by decide +kernel
theorem dX2_init_13 : decode cX2_init 13 = .ok (.return_, 1) := by decide +kernel
theorem dX2_add_0 : decode cX2_add 0 = .ok (.aload_n 0, 1) := by decide +kernel
theorem dX2_add_1 : decode cX2_add 1 = .ok (.getfield 13, 3) := by decide +kernel
theorem dX2_add_4 : decode cX2_add 4 = .ok (.sipush 2000, 3) := by decide +kernel
theorem dX2_add_7 : decode cX2_add 7 = .ok (.irem, 1) := by decide +kernel
theorem dX2_add_8 : decode cX2_add 8 = .ok (.istore_n 2, 1) := by decide +kernel
theorem dX2_add_9 : decode cX2_add 9 = .ok (.iload_n 2, 1) := by decide +kernel
theorem dX2_add_10 : decode cX2_add 10 = .ok (.ifCond .lt 29, 3) := by decide +kernel
theorem dX2_add_13 : decode cX2_add 13 = .ok (.iload_n 2, 1) := by decide +kernel
theorem dX2_add_14 : decode cX2_add 14 = .ok (.aload_n 0, 1) := by decide +kernel
theorem dX2_add_15 : decode cX2_add 15 = .ok (.getfield 9, 3) := by decide +kernel
theorem dX2_add_18 : decode cX2_add 18 = .ok (.arraylength, 1) := by decide +kernel
theorem dX2_add_19 : decode cX2_add 19 = .ok (.if_icmp .ge 20, 3) := by decide +kernel
theorem dX2_add_22 : decode cX2_add 22 = .ok (.aload_n 0, 1) := by decide +kernel
theorem dX2_add_23 : decode cX2_add 23 = .ok (.getfield 9, 3) := by decide +kernel
theorem dX2_add_26 : decode cX2_add 26 = .ok (.iload_n 2, 1) := by decide +kernel
theorem dX2_add_27 : decode cX2_add 27 = .ok (.iload_n 1, 1) := by decide +kernel
theorem dX2_add_28 : decode cX2_add 28 = .ok (.iastore, 1) := by decide +kernel
theorem dX2_add_29 : decode cX2_add 29 = .ok (.aload_n 0, 1) := by decide +kernel
theorem dX2_add_30 : decode cX2_add 30 = .ok (.dup, 1) := by decide +kernel
theorem dX2_add_31 : decode cX2_add 31 = .ok (.getfield 13, 3) := by decide +kernel
theorem dX2_add_34 : decode cX2_add 34 = .ok (.iconst 1, 1) := by decide +kernel
theorem dX2_add_35 : decode cX2_add 35 = .ok (.iadd, 1) := by decide +kernel
theorem dX2_add_36 : decode cX2_add 36 = .ok (.putfield 13, 3) := by decide +kernel
theorem dX2_add_39 : decode cX2_add 39 = .ok (.return_, 1) := by decide +kernel
theorem dX2_has_0 : decode cX2_has 0 = .ok (.iload_n 1, 1) := by decide +kernel
theorem dX2_has_1 : decode cX2_has 1 = .ok (.ifCond .lt 27, 3) := by decide +kernel
theorem dX2_has_4 : decode cX2_has 4 = .ok (.iload_n 1, 1) := by decide +kernel
theorem dX2_has_5 : decode cX2_has 5 = .ok (.aload_n 0, 1) := by decide +kernel
theorem dX2_has_6 : decode cX2_has 6 = .ok (.getfield 13, 3) := by decide +kernel
theorem dX2_has_9 : decode cX2_has 9 = .ok (.if_icmp .ge 19, 3) := by decide +kernel
theorem dX2_has_12 : decode cX2_has 12 = .ok (.iload_n 1, 1) := by decide +kernel
theorem dX2_has_13 : decode cX2_has 13 = .ok (.aload_n 0, 1) := by decide +kernel
theorem dX2_has_14 : decode cX2_has 14 = .ok (.getfield 13, 3) := by decide +kernel
theorem dX2_has_17 : decode cX2_has 17 = .ok (.sipush 2000, 3) := by decide +kernel
theorem dX2_has_20 : decode cX2_has 20 = .ok (.isub, 1) := by decide +kernel
theorem dX2_has_21 : decode cX2_has 21 = .ok (.if_icmp .lt 7, 3) := by decide +kernel
theorem dX2_has_24 : decode cX2_has 24 = .ok (.iconst 1, 1) := by decide +kernel
theorem dX2_has_25 : decode cX2_has 25 = .ok (.goto 4, 3) := by decide +kernel
theorem dX2_has_28 : decode cX2_has 28 = .ok (.iconst 0, 1) := by decide +kernel
theorem dX2_has_29 : decode cX2_has 29 = .ok (.ireturn, 1) := by decide +kernel
theorem dX2_code_0 : decode cX2_code 0 = .ok (.iload_n 1, 1) := by decide +kernel
theorem dX2_code_1 : decode cX2_code 1 = .ok (.sipush 2000, 3) := by decide +kernel
theorem dX2_code_4 : decode cX2_code 4 = .ok (.irem, 1) := by decide +kernel
theorem dX2_code_5 : decode cX2_code 5 = .ok (.istore_n 2, 1) := by decide +kernel
theorem dX2_code_6 : decode cX2_code 6 = .ok (.iload_n 2, 1) := by decide +kernel
theorem dX2_code_7 : decode cX2_code 7 = .ok (.ifCond .lt 21, 3) := by decide +kernel
theorem dX2_code_10 : decode cX2_code 10 = .ok (.iload_n 2, 1) := by decide +kernel
theorem dX2_code_11 : decode cX2_code 11 = .ok (.aload_n 0, 1) := by decide +kernel
theorem dX2_code_12 : decode cX2_code 12 = .ok (.getfield 9, 3) := by decide +kernel
theorem dX2_code_15 : decode cX2_code 15 = .ok (.arraylength, 1) := by decide +kernel
theorem dX2_code_16 : decode cX2_code 16 = .ok (.if_icmp .ge 12, 3) := by decide +kernel
theorem dX2_code_19 : decode cX2_code 19 = .ok (.aload_n 0, 1) := by decide +kernel
theorem dX2_code_20 : decode cX2_code 20 = .ok (.getfield 9, 3) := by decide +kernel
theorem dX2_code_23 : decode cX2_code 23 = .ok (.iload_n 2, 1) := by decide +kernel
theorem dX2_code_24 : decode cX2_code 24 = .ok (.iaload, 1) := by decide +kernel
theorem dX2_code_25 : decode cX2_code 25 = .ok (.goto 4, 3) := by decide +kernel
theorem dX2_code_28 : decode cX2_code 28 = .ok (.iconst 0, 1) := by decide +kernel
theorem dX2_code_29 : decode cX2_code 29 = .ok (.ireturn, 1) := by decide +kernel
theorem dX3_init_0 : decode cX3_init 0 = .ok (.aload_n 0, 1) := by decide +kernel
theorem dX3_init_1 : decode cX3_init 1 = .ok (.invokespecial 3, 3) := by decide +kernel
theorem dX3_init_4 : decode cX3_init 4 = .ok (.aload_n 0, 1) := by decide +kernel
theorem dX3_init_5 : decode cX3_init 5 = .ok (.bipush 8, 2) := by decide +kernel
theorem dX3_init_7 : decode cX3_init 7 = .ok (.newarray .int, 2) := by decide +kernel
theorem dX3_init_9 : decode cX3_init 9 = .ok (.putfield 11, 3) := by decide +kernel
theorem dX3_init_12 : decode cX3_init 12 = .ok (.aload_n 0, 1) := by decide +kernel
theorem dX3_init_13 : decode cX3_init 13 = .ok (.sipush 2040, 3) := by decide +kernel
theorem dX3_init_16 : decode cX3_init 16 = .ok (.newarray .int, 2) := by decide +kernel
theorem dX3_init_18 : decode cX3_init 18 = .ok (.putfield 15, 3) := by decide +kernel
theorem dX3_init_21 : decode cX3_init 21 = .ok (.return_, 1) := by decide +kernel
set_option maxRecDepth 100000 in
theorem ggX3_keep_X7_code : GoodIn wsX3_keep wsX7_code := goodIn_r _ [14, 15, 16, 17, 18, 19, 20, 21, 22, 23] rfl (by decide +kernel)
set_option maxRecDepth 100000 in
theorem gX3_keep_X7_code : GoodIn wsX3_keep (wsV RX3 34 RX7 yX7_code wsX7_code) := goodIn_app (goodIn_of _ (by decide +kernel)) ggX3_keep_X7_code
theorem dX3_keep_0 : decode cX3_keep 0 = .ok (.aload_n 1, 1) := by decide +kernel
theorem dX3_keep_1 : decode cX3_keep 1 = .ok (.getfield 18, 3) := by decide +kernel
theorem dX3_keep_4 : decode cX3_keep 4 = .ok (.ifCond .ne 4, 3) := by decide +kernel
theorem dX3_keep_7 : decode cX3_keep 7 = .ok (.return_, 1) := by decide +kernel
theorem dX3_keep_8 : decode cX3_keep 8 = .ok (.aload_n 0, 1) := by decide +kernel
theorem dX3_keep_9 : decode cX3_keep 9 = .ok (.aload_n 0, 1) := by decide +kernel
theorem dX3_keep_10 : decode cX3_keep 10 = .ok (.getfield 24, 3) := by decide +kernel
theorem dX3_keep_13 : decode cX3_keep 13 = .ok (.iconst 1, 1) := by decide +kernel
theorem dX3_keep_14 : decode cX3_keep 14 = .ok (.iadd, 1) := by decide +kernel
theorem dX3_keep_15 : decode cX3_keep 15 = .ok (.bipush 8, 2) := by decide +kernel
theorem dX3_keep_17 : decode cX3_keep 17 = .ok (.irem, 1) := by decide +kernel
theorem dX3_keep_18 : decode cX3_keep 18 = .ok (.putfield 24, 3) := by decide +kernel
theorem dX3_keep_21 : decode cX3_keep 21 = .ok (.aload_n 0, 1) := by decide +kernel
theorem dX3_keep_22 : decode cX3_keep 22 = .ok (.aload_n 0, 1) := by decide +kernel
theorem dX3_keep_23 : decode cX3_keep 23 = .ok (.getfield 27, 3) := by decide +kernel
theorem dX3_keep_26 : decode cX3_keep 26 = .ok (.iconst 1, 1) := by decide +kernel
theorem dX3_keep_27 : decode cX3_keep 27 = .ok (.iadd, 1) := by decide +kernel
theorem dX3_keep_28 : decode cX3_keep 28 = .ok (.bipush 8, 2) := by decide +kernel
theorem dX3_keep_30 : decode cX3_keep 30 = .ok (.invokestatic 28, 3) := by decide +kernel
theorem dX3_keep_33 : decode cX3_keep 33 = .ok (.putfield 27, 3) := by decide +kernel
theorem dX3_keep_36 : decode cX3_keep 36 = .ok (.aload_n 0, 1) := by decide +kernel
theorem dX3_keep_37 : decode cX3_keep 37 = .ok (.getfield 24, 3) := by decide +kernel
theorem dX3_keep_40 : decode cX3_keep 40 = .ok (.ifCond .lt 25, 3) := by decide +kernel
theorem dX3_keep_43 : decode cX3_keep 43 = .ok (.aload_n 0, 1) := by decide +kernel
theorem dX3_keep_44 : decode cX3_keep 44 = .ok (.getfield 24, 3) := by decide +kernel
theorem dX3_keep_47 : decode cX3_keep 47 = .ok (.bipush 8, 2) := by decide +kernel
theorem dX3_keep_49 : decode cX3_keep 49 = .ok (.if_icmp .ge 16, 3) := by decide +kernel
theorem dX3_keep_52 : decode cX3_keep 52 = .ok (.aload_n 0, 1) := by decide +kernel
theorem dX3_keep_53 : decode cX3_keep 53 = .ok (.getfield 11, 3) := by decide +kernel
theorem dX3_keep_56 : decode cX3_keep 56 = .ok (.aload_n 0, 1) := by decide +kernel
theorem dX3_keep_57 : decode cX3_keep 57 = .ok (.getfield 24, 3) := by decide +kernel
theorem dX3_keep_60 : decode cX3_keep 60 = .ok (.aload_n 1, 1) := by decide +kernel
theorem dX3_keep_61 : decode cX3_keep 61 = .ok (.getfield 18, 3) := by decide +kernel
theorem dX3_keep_64 : decode cX3_keep 64 = .ok (.iastore, 1) := by decide +kernel
theorem dX3_keep_65 : decode cX3_keep 65 = .ok (.iconst 0, 1) := by decide +kernel
theorem dX3_keep_66 : decode cX3_keep 66 = .ok (.istore_n 2, 1) := by decide +kernel
theorem dX3_keep_67 : decode cX3_keep 67 = .ok (.iload_n 2, 1) := by decide +kernel
theorem dX3_keep_68 : decode cX3_keep 68 = .ok (.aload_n 1, 1) := by decide +kernel
theorem dX3_keep_69 : decode cX3_keep 69 = .ok (.getfield 18, 3) := by decide +kernel
theorem dX3_keep_72 : decode cX3_keep 72 = .ok (.if_icmp .ge 44, 3) := by decide +kernel
theorem dX3_keep_75 : decode cX3_keep 75 = .ok (.aload_n 0, 1) := by decide +kernel
theorem dX3_keep_76 : decode cX3_keep 76 = .ok (.getfield 24, 3) := by decide +kernel
theorem dX3_keep_79 : decode cX3_keep 79 = .ok (.sipush 255, 3) := by decide +kernel
theorem dX3_keep_82 : decode cX3_keep 82 = .ok (.imul, 1) := by decide +kernel
theorem dX3_keep_83 : decode cX3_keep 83 = .ok (.iload_n 2, 1) := by decide +kernel
theorem dX3_keep_84 : decode cX3_keep 84 = .ok (.iadd, 1) := by decide +kernel
theorem dX3_keep_85 : decode cX3_keep 85 = .ok (.istore_n 3, 1) := by decide +kernel
theorem dX3_keep_86 : decode cX3_keep 86 = .ok (.iload_n 3, 1) := by decide +kernel
theorem dX3_keep_87 : decode cX3_keep 87 = .ok (.ifCond .lt 23, 3) := by decide +kernel
theorem dX3_keep_90 : decode cX3_keep 90 = .ok (.iload_n 3, 1) := by decide +kernel
theorem dX3_keep_91 : decode cX3_keep 91 = .ok (.aload_n 0, 1) := by decide +kernel
theorem dX3_keep_92 : decode cX3_keep 92 = .ok (.getfield 15, 3) := by decide +kernel
theorem dX3_keep_95 : decode cX3_keep 95 = .ok (.arraylength, 1) := by decide +kernel
theorem dX3_keep_96 : decode cX3_keep 96 = .ok (.if_icmp .ge 14, 3) := by decide +kernel
theorem dX3_keep_99 : decode cX3_keep 99 = .ok (.aload_n 0, 1) := by decide +kernel
theorem dX3_keep_100 : decode cX3_keep 100 = .ok (.getfield 15, 3) := by decide +kernel
theorem dX3_keep_103 : decode cX3_keep 103 = .ok (.iload_n 3, 1) := by decide +kernel
theorem dX3_keep_104 : decode cX3_keep 104 = .ok (.aload_n 1, 1) := by decide +kernel
theorem dX3_keep_105 : decode cX3_keep 105 = .ok (.iload_n 2, 1) := by decide +kernel
theorem dX3_keep_106 : decode cX3_keep 106 = .ok (.invokevirtual 34, 3) := by decide +kernel
theorem dX3_keep_109 : decode cX3_keep 109 = .ok (.iastore, 1) := by decide +kernel
theorem dX3_keep_110 : decode cX3_keep 110 = .ok (.iinc 2 1, 3) := by decide +kernel
theorem dX3_keep_113 : decode cX3_keep 113 = .ok (.goto (-46), 3) := by decide +kernel
theorem dX3_keep_116 : decode cX3_keep 116 = .ok (.return_, 1) := by decide +kernel
set_option maxRecDepth 100000 in
theorem ggX3_length_X3_slotOf : GoodIn wsX3_length wsX3_slotOf := goodIn_r _ [6, 7, 8, 9, 10, 11, 12] rfl (by decide +kernel)
set_option maxRecDepth 100000 in
theorem gX3_length_X3_slotOf : GoodIn wsX3_length (wsV RX3 38 RX3 yX3_slotOf wsX3_slotOf) := goodIn_app (goodIn_of _ (by decide +kernel)) ggX3_length_X3_slotOf
theorem dX3_length_0 : decode cX3_length 0 = .ok (.aload_n 0, 1) := by decide +kernel
theorem dX3_length_1 : decode cX3_length 1 = .ok (.iload_n 1, 1) := by decide +kernel
theorem dX3_length_2 : decode cX3_length 2 = .ok (.invokevirtual 38, 3) := by decide +kernel
theorem dX3_length_5 : decode cX3_length 5 = .ok (.istore_n 2, 1) := by decide +kernel
theorem dX3_length_6 : decode cX3_length 6 = .ok (.iload_n 2, 1) := by decide +kernel
theorem dX3_length_7 : decode cX3_length 7 = .ok (.ifCond .lt 18, 3) := by decide +kernel
theorem dX3_length_10 : decode cX3_length 10 = .ok (.iload_n 2, 1) := by decide +kernel
theorem dX3_length_11 : decode cX3_length 11 = .ok (.bipush 8, 2) := by decide +kernel
theorem dX3_length_13 : decode cX3_length 13 = .ok (.if_icmp .ge 12, 3) := by decide +kernel
theorem dX3_length_16 : decode cX3_length 16 = .ok (.aload_n 0, 1) := by decide +kernel
theorem dX3_length_17 : decode cX3_length 17 = .ok (.getfield 11, 3) := by decide +kernel
theorem dX3_length_20 : decode cX3_length 20 = .ok (.iload_n 2, 1) := by decide +kernel
theorem dX3_length_21 : decode cX3_length 21 = .ok (.iaload, 1) := by decide +kernel
theorem dX3_length_22 : decode cX3_length 22 = .ok (.goto 4, 3) := by decide +kernel
theorem dX3_length_25 : decode cX3_length 25 = .ok (.iconst 0, 1) := by decide +kernel
theorem dX3_length_26 : decode cX3_length 26 = .ok (.ireturn, 1) := by decide +kernel
set_option maxRecDepth 100000 in
theorem ggX3_code_X3_slotOf : GoodIn wsX3_code wsX3_slotOf := goodIn_r _ [6, 7, 8, 14, 15, 16, 17] rfl (by decide +kernel)
set_option maxRecDepth 100000 in
theorem gX3_code_X3_slotOf : GoodIn wsX3_code (wsV RX3 38 RX3 yX3_slotOf wsX3_slotOf) := goodIn_app (goodIn_of _ (by decide +kernel)) ggX3_code_X3_slotOf
set_option maxRecDepth 100000 in
theorem ggX3_code_X3_length : GoodIn wsX3_code wsX3_length := goodIn_r _ [12, 13, 2, 3, 4, 5, 6, 7, 8, 14, 15, 16, 17] rfl (by decide +kernel)
set_option maxRecDepth 100000 in
theorem gX3_code_X3_length : GoodIn wsX3_code (wsV RX3 41 RX3 yX3_length wsX3_length) := goodIn_app (goodIn_of _ (by decide +kernel)) ggX3_code_X3_length
theorem dX3_code_0 : decode cX3_code 0 = .ok (.aload_n 0, 1) := by decide +kernel
theorem dX3_code_1 : decode cX3_code 1 = .ok (.iload_n 1, 1) := by decide +kernel
theorem dX3_code_2 : decode cX3_code 2 = .ok (.invokevirtual 38, 3) := by decide +kernel
theorem dX3_code_5 : decode cX3_code 5 = .ok (.sipush 255, 3) := by decide +kernel
theorem dX3_code_8 : decode cX3_code 8 = .ok (.imul, 1) := by decide +kernel
theorem dX3_code_9 : decode cX3_code 9 = .ok (.iload_n 2, 1) := by decide +kernel
theorem dX3_code_10 : decode cX3_code 10 = .ok (.iadd, 1) := by decide +kernel
theorem dX3_code_11 : decode cX3_code 11 = .ok (.istore_n 3, 1) := by decide +kernel
theorem dX3_code_12 : decode cX3_code 12 = .ok (.iload_n 2, 1) := by decide +kernel
theorem dX3_code_13 : decode cX3_code 13 = .ok (.ifCond .lt 34, 3) := by decide +kernel
theorem dX3_code_16 : decode cX3_code 16 = .ok (.iload_n 2, 1) := by decide +kernel
theorem dX3_code_17 : decode cX3_code 17 = .ok (.aload_n 0, 1) := by decide +kernel
theorem dX3_code_18 : decode cX3_code 18 = .ok (.iload_n 1, 1) := by decide +kernel
theorem dX3_code_19 : decode cX3_code 19 = .ok (.invokevirtual 41, 3) := by decide +kernel
theorem dX3_code_22 : decode cX3_code 22 = .ok (.if_icmp .ge 25, 3) := by decide +kernel
theorem dX3_code_25 : decode cX3_code 25 = .ok (.iload_n 3, 1) := by decide +kernel
theorem dX3_code_26 : decode cX3_code 26 = .ok (.ifCond .lt 21, 3) := by decide +kernel
theorem dX3_code_29 : decode cX3_code 29 = .ok (.iload_n 3, 1) := by decide +kernel
theorem dX3_code_30 : decode cX3_code 30 = .ok (.aload_n 0, 1) := by decide +kernel
theorem dX3_code_31 : decode cX3_code 31 = .ok (.getfield 15, 3) := by decide +kernel
theorem dX3_code_34 : decode cX3_code 34 = .ok (.arraylength, 1) := by decide +kernel
theorem dX3_code_35 : decode cX3_code 35 = .ok (.if_icmp .ge 12, 3) := by decide +kernel
theorem dX3_code_38 : decode cX3_code 38 = .ok (.aload_n 0, 1) := by decide +kernel
theorem dX3_code_39 : decode cX3_code 39 = .ok (.getfield 15, 3) := by decide +kernel
theorem dX3_code_42 : decode cX3_code 42 = .ok (.iload_n 3, 1) := by decide +kernel
theorem dX3_code_43 : decode cX3_code 43 = .ok (.iaload, 1) := by decide +kernel
theorem dX3_code_44 : decode cX3_code 44 = .ok (.goto 4, 3) := by decide +kernel
theorem dX3_code_47 : decode cX3_code 47 = .ok (.iconst 0, 1) := by decide +kernel
theorem dX3_code_48 : decode cX3_code 48 = .ok (.ireturn, 1) := by decide +kernel
theorem dX3_slotOf_0 : decode cX3_slotOf 0 = .ok (.iload_n 1, 1) := by decide +kernel
theorem dX3_slotOf_1 : decode cX3_slotOf 1 = .ok (.ifCond .lt 26, 3) := by decide +kernel
theorem dX3_slotOf_4 : decode cX3_slotOf 4 = .ok (.iload_n 1, 1) := by decide +kernel
theorem dX3_slotOf_5 : decode cX3_slotOf 5 = .ok (.aload_n 0, 1) := by decide +kernel
theorem dX3_slotOf_6 : decode cX3_slotOf 6 = .ok (.getfield 27, 3) := by decide +kernel
theorem dX3_slotOf_9 : decode cX3_slotOf 9 = .ok (.if_icmp .ge 18, 3) := by decide +kernel
theorem dX3_slotOf_12 : decode cX3_slotOf 12 = .ok (.aload_n 0, 1) := by decide +kernel
theorem dX3_slotOf_13 : decode cX3_slotOf 13 = .ok (.getfield 24, 3) := by decide +kernel
theorem dX3_slotOf_16 : decode cX3_slotOf 16 = .ok (.bipush 8, 2) := by decide +kernel
theorem dX3_slotOf_18 : decode cX3_slotOf 18 = .ok (.iadd, 1) := by decide +kernel
theorem dX3_slotOf_19 : decode cX3_slotOf 19 = .ok (.iload_n 1, 1) := by decide +kernel
theorem dX3_slotOf_20 : decode cX3_slotOf 20 = .ok (.isub, 1) := by decide +kernel
theorem dX3_slotOf_21 : decode cX3_slotOf 21 = .ok (.bipush 8, 2) := by decide +kernel
theorem dX3_slotOf_23 : decode cX3_slotOf 23 = .ok (.irem, 1) := by decide +kernel
theorem dX3_slotOf_24 : decode cX3_slotOf 24 = .ok (.goto 4, 3) := by decide +kernel
theorem dX3_slotOf_27 : decode cX3_slotOf 27 = .ok (.iconst (-1), 1) := by decide +kernel
theorem dX3_slotOf_28 : decode cX3_slotOf 28 = .ok (.ireturn, 1) := by decide +kernel
theorem dX4_init_0 : decode cX4_init 0 = .ok (.aload_n 0, 1) := by decide +kernel
theorem dX4_init_1 : decode cX4_init 1 = .ok (.invokespecial 1, 3) := by decide +kernel
theorem dX4_init_4 : decode cX4_init 4 = .ok (.aload_n 0, 1) := by decide +kernel
theorem dX4_init_5 : decode cX4_init 5 = .ok (.sipush 4096, 3) := by decide +kernel
theorem dX4_init_8 : decode cX4_init 8 = .ok (.newarray .int, 2) := by decide +kernel
theorem dX4_init_10 : decode cX4_init 10 = .ok (.putfield 9, 3) := by decide +kernel
theorem dX4_init_13 : decode cX4_init 13 = .ok (.return_, 1) := by decide +kernel
theorem dX4_holds_0 : decode cX4_holds 0 = .ok (.iload_n 2, 1) := by decide +kernel
theorem dX4_holds_1 : decode cX4_holds 1 = .ok (.ifCond .le 16, 3) := by decide +kernel
theorem dX4_holds_4 : decode cX4_holds 4 = .ok (.iload_n 1, 1) := by decide +kernel
theorem dX4_holds_5 : decode cX4_holds 5 = .ok (.ifCond .lt 16, 3) := by decide +kernel
theorem dX4_holds_8 : decode cX4_holds 8 = .ok (.iload_n 1, 1) := by decide +kernel
theorem dX4_holds_9 : decode cX4_holds 9 = .ok (.sipush 4096, 3) := by decide +kernel
theorem dX4_holds_12 : decode cX4_holds 12 = .ok (.iload_n 2, 1) := by decide +kernel
theorem dX4_holds_13 : decode cX4_holds 13 = .ok (.isub, 1) := by decide +kernel
theorem dX4_holds_14 : decode cX4_holds 14 = .ok (.if_icmp .gt 7, 3) := by decide +kernel
theorem dX4_holds_17 : decode cX4_holds 17 = .ok (.iconst 1, 1) := by decide +kernel
theorem dX4_holds_18 : decode cX4_holds 18 = .ok (.goto 4, 3) := by decide +kernel
theorem dX4_holds_21 : decode cX4_holds 21 = .ok (.iconst 0, 1) := by decide +kernel
theorem dX4_holds_22 : decode cX4_holds 22 = .ok (.ireturn, 1) := by decide +kernel
theorem dX4_octet_0 : decode cX4_octet 0 = .ok (.iload_n 1, 1) := by decide +kernel
theorem dX4_octet_1 : decode cX4_octet 1 = .ok (.ifCond .lt 19, 3) := by decide +kernel
theorem dX4_octet_4 : decode cX4_octet 4 = .ok (.iload_n 1, 1) := by decide +kernel
theorem dX4_octet_5 : decode cX4_octet 5 = .ok (.sipush 4096, 3) := by decide +kernel
theorem dX4_octet_8 : decode cX4_octet 8 = .ok (.if_icmp .ge 12, 3) := by decide +kernel
theorem dX4_octet_11 : decode cX4_octet 11 = .ok (.aload_n 0, 1) := by decide +kernel
theorem dX4_octet_12 : decode cX4_octet 12 = .ok (.getfield 9, 3) := by decide +kernel
theorem dX4_octet_15 : decode cX4_octet 15 = .ok (.iload_n 1, 1) := by decide +kernel
theorem dX4_octet_16 : decode cX4_octet 16 = .ok (.iaload, 1) := by decide +kernel
theorem dX4_octet_17 : decode cX4_octet 17 = .ok (.goto 4, 3) := by decide +kernel
theorem dX4_octet_20 : decode cX4_octet 20 = .ok (.iconst 0, 1) := by decide +kernel
theorem dX4_octet_21 : decode cX4_octet 21 = .ok (.ireturn, 1) := by decide +kernel
theorem dX4_setOctet_0 : decode cX4_setOctet 0 = .ok (.iload_n 1, 1) := by decide +kernel
theorem dX4_setOctet_1 : decode cX4_setOctet 1 = .ok (.ifCond .lt 21, 3) := by decide +kernel
theorem dX4_setOctet_4 : decode cX4_setOctet 4 = .ok (.iload_n 1, 1) := by decide +kernel
theorem dX4_setOctet_5 : decode cX4_setOctet 5 = .ok (.sipush 4096, 3) := by decide +kernel
theorem dX4_setOctet_8 : decode cX4_setOctet 8 = .ok (.if_icmp .ge 14, 3) := by decide +kernel
theorem dX4_setOctet_11 : decode cX4_setOctet 11 = .ok (.aload_n 0, 1) := by decide +kernel
theorem dX4_setOctet_12 : decode cX4_setOctet 12 = .ok (.getfield 9, 3) := by decide +kernel
theorem dX4_setOctet_15 : decode cX4_setOctet 15 = .ok (.iload_n 1, 1) := by decide +kernel
theorem dX4_setOctet_16 : decode cX4_setOctet 16 = .ok (.iload_n 2, 1) := by decide +kernel
theorem dX4_setOctet_17 : decode cX4_setOctet 17 = .ok (.sipush 255, 3) := by decide +kernel
theorem dX4_setOctet_20 : decode cX4_setOctet 20 = .ok (.iand, 1) := by decide +kernel
theorem dX4_setOctet_21 : decode cX4_setOctet 21 = .ok (.iastore, 1) := by decide +kernel
theorem dX4_setOctet_22 : decode cX4_setOctet 22 = .ok (.return_, 1) := by decide +kernel
set_option maxRecDepth 100000 in
theorem ggX4_pair_X4_octet : GoodIn wsX4_pair wsX4_octet := goodIn_r _ [5, 6, 7] rfl (by decide +kernel)
set_option maxRecDepth 100000 in
theorem gX4_pair_X4_octet : GoodIn wsX4_pair (wsV RX4 13 RX4 yX4_octet wsX4_octet) := goodIn_app (goodIn_of _ (by decide +kernel)) ggX4_pair_X4_octet
theorem dX4_pair_0 : decode cX4_pair 0 = .ok (.aload_n 0, 1) := by decide +kernel
theorem dX4_pair_1 : decode cX4_pair 1 = .ok (.iload_n 1, 1) := by decide +kernel
theorem dX4_pair_2 : decode cX4_pair 2 = .ok (.invokevirtual 13, 3) := by decide +kernel
theorem dX4_pair_5 : decode cX4_pair 5 = .ok (.sipush 256, 3) := by decide +kernel
theorem dX4_pair_8 : decode cX4_pair 8 = .ok (.imul, 1) := by decide +kernel
theorem dX4_pair_9 : decode cX4_pair 9 = .ok (.aload_n 0, 1) := by decide +kernel
theorem dX4_pair_10 : decode cX4_pair 10 = .ok (.iload_n 1, 1) := by decide +kernel
theorem dX4_pair_11 : decode cX4_pair 11 = .ok (.iconst 1, 1) := by decide +kernel
theorem dX4_pair_12 : decode cX4_pair 12 = .ok (.iadd, 1) := by decide +kernel
theorem dX4_pair_13 : decode cX4_pair 13 = .ok (.invokevirtual 13, 3) := by decide +kernel
theorem dX4_pair_16 : decode cX4_pair 16 = .ok (.iadd, 1) := by decide +kernel
theorem dX4_pair_17 : decode cX4_pair 17 = .ok (.ireturn, 1) := by decide +kernel
set_option maxRecDepth 100000 in
theorem ggX4_store_X4_setOctet : GoodIn wsX4_store wsX4_setOctet := goodIn_r _ [5, 6, 7] rfl (by decide +kernel)
set_option maxRecDepth 100000 in
theorem gX4_store_X4_setOctet : GoodIn wsX4_store (wsV RX4 17 RX4 yX4_setOctet wsX4_setOctet) := goodIn_app (goodIn_of _ (by decide +kernel)) ggX4_store_X4_setOctet
theorem dX4_store_0 : decode cX4_store 0 = .ok (.iconst 0, 1) := by decide +kernel
theorem dX4_store_1 : decode cX4_store 1 = .ok (.istore 5, 2) := by decide +kernel
theorem dX4_store_3 : decode cX4_store 3 = .ok (.iload 5, 2) := by decide +kernel
theorem dX4_store_5 : decode cX4_store 5 = .ok (.iload_n 2, 1) := by decide +kernel
theorem dX4_store_6 : decode cX4_store 6 = .ok (.if_icmp .ge 33, 3) := by decide +kernel
theorem dX4_store_9 : decode cX4_store 9 = .ok (.aload_n 0, 1) := by decide +kernel
theorem dX4_store_10 : decode cX4_store 10 = .ok (.iload_n 1, 1) := by decide +kernel
theorem dX4_store_11 : decode cX4_store 11 = .ok (.iload 5, 2) := by decide +kernel
theorem dX4_store_13 : decode cX4_store 13 = .ok (.iadd, 1) := by decide +kernel
theorem dX4_store_14 : decode cX4_store 14 = .ok (.lload_n 3, 1) := by decide +kernel
theorem dX4_store_15 : decode cX4_store 15 = .ok (.bipush 8, 2) := by decide +kernel
theorem dX4_store_17 : decode cX4_store 17 = .ok (.iload_n 2, 1) := by decide +kernel
theorem dX4_store_18 : decode cX4_store 18 = .ok (.iconst 1, 1) := by decide +kernel
theorem dX4_store_19 : decode cX4_store 19 = .ok (.isub, 1) := by decide +kernel
theorem dX4_store_20 : decode cX4_store 20 = .ok (.iload 5, 2) := by decide +kernel
theorem dX4_store_22 : decode cX4_store 22 = .ok (.isub, 1) := by decide +kernel
theorem dX4_store_23 : decode cX4_store 23 = .ok (.imul, 1) := by decide +kernel
theorem dX4_store_24 : decode cX4_store 24 = .ok (.lushr, 1) := by decide +kernel
theorem dX4_store_25 : decode cX4_store 25 = .ok (.l2i, 1) := by decide +kernel
theorem dX4_store_26 : decode cX4_store 26 = .ok (.sipush 255, 3) := by decide +kernel
theorem dX4_store_29 : decode cX4_store 29 = .ok (.iand, 1) := by decide +kernel
theorem dX4_store_30 : decode cX4_store 30 = .ok (.invokevirtual 17, 3) := by decide +kernel
theorem dX4_store_33 : decode cX4_store 33 = .ok (.iinc 5 1, 3) := by decide +kernel
theorem dX4_store_36 : decode cX4_store 36 = .ok (.goto (-33), 3) := by decide +kernel
theorem dX4_store_39 : decode cX4_store 39 = .ok (.return_, 1) := by decide +kernel
set_option maxRecDepth 100000 in
theorem ggX4_stores_X4_octet : GoodIn wsX4_stores wsX4_octet := goodIn_r _ [5, 6, 7] rfl (by decide +kernel)
set_option maxRecDepth 100000 in
theorem gX4_stores_X4_octet : GoodIn wsX4_stores (wsV RX4 13 RX4 yX4_octet wsX4_octet) := goodIn_app (goodIn_of _ (by decide +kernel)) ggX4_stores_X4_octet
theorem dX4_stores_0 : decode cX4_stores 0 = .ok (.iconst 0, 1) := by decide +kernel
theorem dX4_stores_1 : decode cX4_stores 1 = .ok (.istore 5, 2) := by decide +kernel
theorem dX4_stores_3 : decode cX4_stores 3 = .ok (.iload 5, 2) := by decide +kernel
theorem dX4_stores_5 : decode cX4_stores 5 = .ok (.iload_n 2, 1) := by decide +kernel
theorem dX4_stores_6 : decode cX4_stores 6 = .ok (.if_icmp .ge 38, 3) := by decide +kernel
theorem dX4_stores_9 : decode cX4_stores 9 = .ok (.aload_n 0, 1) := by decide +kernel
theorem dX4_stores_10 : decode cX4_stores 10 = .ok (.iload_n 1, 1) := by decide +kernel
theorem dX4_stores_11 : decode cX4_stores 11 = .ok (.iload 5, 2) := by decide +kernel
theorem dX4_stores_13 : decode cX4_stores 13 = .ok (.iadd, 1) := by decide +kernel
theorem dX4_stores_14 : decode cX4_stores 14 = .ok (.invokevirtual 13, 3) := by decide +kernel
theorem dX4_stores_17 : decode cX4_stores 17 = .ok (.lload_n 3, 1) := by decide +kernel
theorem dX4_stores_18 : decode cX4_stores 18 = .ok (.bipush 8, 2) := by decide +kernel
theorem dX4_stores_20 : decode cX4_stores 20 = .ok (.iload_n 2, 1) := by decide +kernel
theorem dX4_stores_21 : decode cX4_stores 21 = .ok (.iconst 1, 1) := by decide +kernel
theorem dX4_stores_22 : decode cX4_stores 22 = .ok (.isub, 1) := by decide +kernel
theorem dX4_stores_23 : decode cX4_stores 23 = .ok (.iload 5, 2) := by decide +kernel
theorem dX4_stores_25 : decode cX4_stores 25 = .ok (.isub, 1) := by decide +kernel
theorem dX4_stores_26 : decode cX4_stores 26 = .ok (.imul, 1) := by decide +kernel
theorem dX4_stores_27 : decode cX4_stores 27 = .ok (.lushr, 1) := by decide +kernel
theorem dX4_stores_28 : decode cX4_stores 28 = .ok (.l2i, 1) := by decide +kernel
theorem dX4_stores_29 : decode cX4_stores 29 = .ok (.sipush 255, 3) := by decide +kernel
theorem dX4_stores_32 : decode cX4_stores 32 = .ok (.iand, 1) := by decide +kernel
theorem dX4_stores_33 : decode cX4_stores 33 = .ok (.if_icmp .eq 5, 3) := by decide +kernel
theorem dX4_stores_36 : decode cX4_stores 36 = .ok (.iconst 0, 1) := by decide +kernel
theorem dX4_stores_37 : decode cX4_stores 37 = .ok (.ireturn, 1) := by decide +kernel
theorem dX4_stores_38 : decode cX4_stores 38 = .ok (.iinc 5 1, 3) := by decide +kernel
theorem dX4_stores_41 : decode cX4_stores 41 = .ok (.goto (-38), 3) := by decide +kernel
theorem dX4_stores_44 : decode cX4_stores 44 = .ok (.iconst 1, 1) := by decide +kernel
theorem dX4_stores_45 : decode cX4_stores 45 = .ok (.ireturn, 1) := by decide +kernel
theorem dX5_init_0 : decode cX5_init 0 = .ok (.aload_n 0, 1) := by decide +kernel
theorem dX5_init_1 : decode cX5_init 1 = .ok (.invokespecial 3, 3) := by decide +kernel
theorem dX5_init_4 : decode cX5_init 4 = .ok (.aload_n 0, 1) := by decide +kernel
theorem dX5_init_5 : decode cX5_init 5 = .ok (.aload_n 1, 1) := by decide +kernel
theorem dX5_init_6 : decode cX5_init 6 = .ok (.putfield 9, 3) := by decide +kernel
theorem dX5_init_9 : decode cX5_init 9 = .ok (.aload_n 0, 1) := by decide +kernel
theorem dX5_init_10 : decode cX5_init 10 = .ok (.iload_n 2, 1) := by decide +kernel
theorem dX5_init_11 : decode cX5_init 11 = .ok (.iconst 1, 1) := by decide +kernel
theorem dX5_init_12 : decode cX5_init 12 = .ok (.if_icmp .ne 8, 3) := by decide +kernel
theorem dX5_init_15 : decode cX5_init 15 = .ok (.ldc 15, 2) := by decide +kernel
theorem dX5_init_17 : decode cX5_init 17 = .ok (.goto 5, 3) := by decide +kernel
theorem dX5_init_20 : decode cX5_init 20 = .ok (.ldc 17, 2) := by decide +kernel
theorem dX5_init_22 : decode cX5_init 22 = .ok (.putfield 19, 3) := by decide +kernel
theorem dX5_init_25 : decode cX5_init 25 = .ok (.aload_n 0, 1) := by decide +kernel
theorem dX5_init_26 : decode cX5_init 26 = .ok (.iload_n 2, 1) := by decide +kernel
theorem dX5_init_27 : decode cX5_init 27 = .ok (.iconst 2, 1) := by decide +kernel
theorem dX5_init_28 : decode cX5_init 28 = .ok (.if_icmp .gt 7, 3) := by decide +kernel
theorem dX5_init_31 : decode cX5_init 31 = .ok (.iconst 2, 1) := by decide +kernel
theorem dX5_init_32 : decode cX5_init 32 = .ok (.goto 4, 3) := by decide +kernel
theorem dX5_init_35 : decode cX5_init 35 = .ok (.iconst 4, 1) := by decide +kernel
theorem dX5_init_36 : decode cX5_init 36 = .ok (.putfield 23, 3) := by decide +kernel
theorem dX5_init_39 : decode cX5_init 39 = .ok (.aload_n 0, 1) := by decide +kernel
theorem dX5_init_40 : decode cX5_init 40 = .ok (.iload_n 2, 1) := by decide +kernel
theorem dX5_init_41 : decode cX5_init 41 = .ok (.iconst 2, 1) := by decide +kernel
theorem dX5_init_42 : decode cX5_init 42 = .ok (.if_icmp .gt 7, 3) := by decide +kernel
theorem dX5_init_45 : decode cX5_init 45 = .ok (.iconst 3, 1) := by decide +kernel
theorem dX5_init_46 : decode cX5_init 46 = .ok (.goto 4, 3) := by decide +kernel
theorem dX5_init_49 : decode cX5_init 49 = .ok (.iconst 5, 1) := by decide +kernel
theorem dX5_init_50 : decode cX5_init 50 = .ok (.putfield 27, 3) := by decide +kernel
theorem dX5_init_53 : decode cX5_init 53 = .ok (.aload_n 0, 1) := by decide +kernel
theorem dX5_init_54 : decode cX5_init 54 = .ok (.iload_n 2, 1) := by decide +kernel
theorem dX5_init_55 : decode cX5_init 55 = .ok (.iconst 3, 1) := by decide +kernel
theorem dX5_init_56 : decode cX5_init 56 = .ok (.if_icmp .gt 8, 3) := by decide +kernel
theorem dX5_init_59 : decode cX5_init 59 = .ok (.bipush 6, 2) := by decide +kernel
theorem dX5_init_61 : decode cX5_init 61 = .ok (.goto 5, 3) := by decide +kernel
theorem dX5_init_64 : decode cX5_init 64 = .ok (.bipush 9, 2) := by decide +kernel
theorem dX5_init_66 : decode cX5_init 66 = .ok (.newarray .int, 2) := by decide +kernel
theorem dX5_init_68 : decode cX5_init 68 = .ok (.putfield 30, 3) := by decide +kernel
theorem dX5_init_71 : decode cX5_init 71 = .ok (.aload_n 0, 1) := by decide +kernel
theorem dX5_init_72 : decode cX5_init 72 = .ok (.iload_n 2, 1) := by decide +kernel
theorem dX5_init_73 : decode cX5_init 73 = .ok (.iconst 3, 1) := by decide +kernel
theorem dX5_init_74 : decode cX5_init 74 = .ok (.if_icmp .gt 7, 3) := by decide +kernel
theorem dX5_init_77 : decode cX5_init 77 = .ok (.iconst 4, 1) := by decide +kernel
theorem dX5_init_78 : decode cX5_init 78 = .ok (.goto 5, 3) := by decide +kernel
theorem dX5_init_81 : decode cX5_init 81 = .ok (.bipush 6, 2) := by decide +kernel
theorem dX5_init_83 : decode cX5_init 83 = .ok (.putfield 34, 3) := by decide +kernel
theorem dX5_init_86 : decode cX5_init 86 = .ok (.aload_n 0, 1) := by decide +kernel
theorem dX5_init_87 : decode cX5_init 87 = .ok (.iconst 0, 1) := by decide +kernel
theorem dX5_init_88 : decode cX5_init 88 = .ok (.putfield 37, 3) := by decide +kernel
theorem dX5_init_91 : decode cX5_init 91 = .ok (.return_, 1) := by decide +kernel
set_option maxRecDepth 100000 in
theorem ggX5_packed_X4_octet : GoodIn wsX5_packed wsX4_octet := goodIn_r _ [10, 11, 120] rfl (by decide +kernel)
set_option maxRecDepth 100000 in
theorem gX5_packed_X4_octet : GoodIn wsX5_packed (wsV RX5 40 RX4 yX4_octet wsX4_octet) := goodIn_app (goodIn_of _ (by decide +kernel)) ggX5_packed_X4_octet
set_option maxRecDepth 100000 in
theorem ggX5_packed_X5_addCode : GoodIn wsX5_packed wsX5_addCode := goodIn_r _ [16, 17, 18, 19, 20, 21, 22, 15, 23, 1, 2, 24, 25, 26, 27, 28, 29, 30, 31, 32, 33, 34, 35, 36, 37, 38, 39, 40, 41, 42, 43, 44, 45, 46, 47, 48, 49, 50, 51, 52, 53, 54, 55, 56, 57, 58, 59, 60, 61, 62, 63, 64, 65, 66, 67, 68, 69, 70, 71, 72, 73, 74, 75, 76, 77, 78, 79, 80, 81, 82, 83, 84, 85, 86, 87, 88, 89, 90, 91, 92, 93, 94, 95, 96, 97, 98, 99, 100, 101, 102, 103, 104, 105, 106, 107, 108, 109, 110, 111, 112, 113, 114, 115, 116, 117, 118, 119] rfl (by decide +kernel)
set_option maxRecDepth 100000 in
theorem gX5_packed_X5_addCode : GoodIn wsX5_packed (wsV RX5 46 RX5 yX5_addCode wsX5_addCode) := goodIn_app (goodIn_of _ (by decide +kernel)) ggX5_packed_X5_addCode
theorem dX5_packed_0 : decode cX5_packed 0 = .ok (.aload_n 0, 1) := by decide +kernel
theorem dX5_packed_1 : decode cX5_packed 1 = .ok (.iconst 0, 1) := by decide +kernel
theorem dX5_packed_2 : decode cX5_packed 2 = .ok (.putfield 37, 3) := by decide +kernel
theorem dX5_packed_5 : decode cX5_packed 5 = .ok (.iconst 0, 1) := by decide +kernel
theorem dX5_packed_6 : decode cX5_packed 6 = .ok (.istore_n 3, 1) := by decide +kernel
theorem dX5_packed_7 : decode cX5_packed 7 = .ok (.iload_n 3, 1) := by decide +kernel
theorem dX5_packed_8 : decode cX5_packed 8 = .ok (.iload_n 2, 1) := by decide +kernel
theorem dX5_packed_9 : decode cX5_packed 9 = .ok (.if_icmp .ge 35, 3) := by decide +kernel
theorem dX5_packed_12 : decode cX5_packed 12 = .ok (.aload_n 0, 1) := by decide +kernel
theorem dX5_packed_13 : decode cX5_packed 13 = .ok (.getfield 37, 3) := by decide +kernel
theorem dX5_packed_16 : decode cX5_packed 16 = .ok (.aload_n 0, 1) := by decide +kernel
theorem dX5_packed_17 : decode cX5_packed 17 = .ok (.getfield 30, 3) := by decide +kernel
theorem dX5_packed_20 : decode cX5_packed 20 = .ok (.arraylength, 1) := by decide +kernel
theorem dX5_packed_21 : decode cX5_packed 21 = .ok (.if_icmp .ge 23, 3) := by decide +kernel
theorem dX5_packed_24 : decode cX5_packed 24 = .ok (.aload_n 0, 1) := by decide +kernel
theorem dX5_packed_25 : decode cX5_packed 25 = .ok (.aload_n 0, 1) := by decide +kernel
theorem dX5_packed_26 : decode cX5_packed 26 = .ok (.getfield 9, 3) := by decide +kernel
theorem dX5_packed_29 : decode cX5_packed 29 = .ok (.iload_n 1, 1) := by decide +kernel
theorem dX5_packed_30 : decode cX5_packed 30 = .ok (.iload_n 3, 1) := by decide +kernel
theorem dX5_packed_31 : decode cX5_packed 31 = .ok (.iadd, 1) := by decide +kernel
theorem dX5_packed_32 : decode cX5_packed 32 = .ok (.invokevirtual 40, 3) := by decide +kernel
theorem dX5_packed_35 : decode cX5_packed 35 = .ok (.invokevirtual 46, 3) := by decide +kernel
theorem dX5_packed_38 : decode cX5_packed 38 = .ok (.iinc 3 1, 3) := by decide +kernel
theorem dX5_packed_41 : decode cX5_packed 41 = .ok (.goto (-34), 3) := by decide +kernel
theorem dX5_packed_44 : decode cX5_packed 44 = .ok (.aload_n 0, 1) := by decide +kernel
theorem dX5_packed_45 : decode cX5_packed 45 = .ok (.getfield 37, 3) := by decide +kernel
theorem dX5_packed_48 : decode cX5_packed 48 = .ok (.istore_n 3, 1) := by decide +kernel
theorem dX5_packed_49 : decode cX5_packed 49 = .ok (.iload_n 3, 1) := by decide +kernel
theorem dX5_packed_50 : decode cX5_packed 50 = .ok (.aload_n 0, 1) := by decide +kernel
theorem dX5_packed_51 : decode cX5_packed 51 = .ok (.getfield 30, 3) := by decide +kernel
theorem dX5_packed_54 : decode cX5_packed 54 = .ok (.arraylength, 1) := by decide +kernel
theorem dX5_packed_55 : decode cX5_packed 55 = .ok (.if_icmp .ge 16, 3) := by decide +kernel
theorem dX5_packed_58 : decode cX5_packed 58 = .ok (.aload_n 0, 1) := by decide +kernel
theorem dX5_packed_59 : decode cX5_packed 59 = .ok (.getfield 30, 3) := by decide +kernel
theorem dX5_packed_62 : decode cX5_packed 62 = .ok (.iload_n 3, 1) := by decide +kernel
theorem dX5_packed_63 : decode cX5_packed 63 = .ok (.iconst 5, 1) := by decide +kernel
theorem dX5_packed_64 : decode cX5_packed 64 = .ok (.iastore, 1) := by decide +kernel
theorem dX5_packed_65 : decode cX5_packed 65 = .ok (.iinc 3 1, 3) := by decide +kernel
theorem dX5_packed_68 : decode cX5_packed 68 = .ok (.goto (-19), 3) := by decide +kernel
theorem dX5_packed_71 : decode cX5_packed 71 = .ok (.lconst 0, 1) := by decide +kernel
theorem dX5_packed_72 : decode cX5_packed 72 = .ok (.lstore_n 3, 1) := by decide +kernel
theorem dX5_packed_73 : decode cX5_packed 73 = .ok (.iconst 0, 1) := by decide +kernel
theorem dX5_packed_74 : decode cX5_packed 74 = .ok (.istore 5, 2) := by decide +kernel
theorem dX5_packed_76 : decode cX5_packed 76 = .ok (.iload 5, 2) := by decide +kernel
theorem dX5_packed_78 : decode cX5_packed 78 = .ok (.aload_n 0, 1) := by decide +kernel
theorem dX5_packed_79 : decode cX5_packed 79 = .ok (.getfield 30, 3) := by decide +kernel
theorem dX5_packed_82 : decode cX5_packed 82 = .ok (.arraylength, 1) := by decide +kernel
theorem dX5_packed_83 : decode cX5_packed 83 = .ok (.if_icmp .ge 56, 3) := by decide +kernel
theorem dX5_packed_86 : decode cX5_packed 86 = .ok (.iload 5, 2) := by decide +kernel
theorem dX5_packed_88 : decode cX5_packed 88 = .ok (.iconst 3, 1) := by decide +kernel
