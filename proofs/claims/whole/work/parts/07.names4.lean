theorem dX8_command_26 : decode cX8_command 26 = .ok (.istore_n 3, 1) := by decide +kernel
theorem dX8_command_27 : decode cX8_command 27 = .ok (.aload_n 0, 1) := by decide +kernel
theorem dX8_command_28 : decode cX8_command 28 = .ok (.getfield 16, 3) := by decide +kernel
theorem dX8_command_31 : decode cX8_command 31 = .ok (.iload_n 1, 1) := by decide +kernel
theorem dX8_command_32 : decode cX8_command 32 = .ok (.iload_n 2, 1) := by decide +kernel
theorem dX8_command_33 : decode cX8_command 33 = .ok (.iastore, 1) := by decide +kernel
theorem dX8_command_34 : decode cX8_command 34 = .ok (.iload_n 3, 1) := by decide +kernel
theorem dX8_command_35 : decode cX8_command 35 = .ok (.ireturn, 1) := by decide +kernel
theorem dX8_doesAct_0 : decode cX8_doesAct 0 = .ok (.iload_n 1, 1) := by decide +kernel
theorem dX8_doesAct_1 : decode cX8_doesAct 1 = .ok (.tableswitch 102 0 7 #[47, 55, 63, 102, 102, 102, 86, 94], 47) := by decide +kernel
theorem dX8_doesAct_48 : decode cX8_doesAct 48 = .ok (.aload_n 0, 1) := by decide +kernel
theorem dX8_doesAct_49 : decode cX8_doesAct 49 = .ok (.iconst 1, 1) := by decide +kernel
theorem dX8_doesAct_50 : decode cX8_doesAct 50 = .ok (.putfield 120, 3) := by decide +kernel
theorem dX8_doesAct_53 : decode cX8_doesAct 53 = .ok (.goto 88, 3) := by decide +kernel
theorem dX8_doesAct_56 : decode cX8_doesAct 56 = .ok (.aload_n 0, 1) := by decide +kernel
theorem dX8_doesAct_57 : decode cX8_doesAct 57 = .ok (.iconst 1, 1) := by decide +kernel
theorem dX8_doesAct_58 : decode cX8_doesAct 58 = .ok (.putfield 123, 3) := by decide +kernel
theorem dX8_doesAct_61 : decode cX8_doesAct 61 = .ok (.goto 80, 3) := by decide +kernel
theorem dX8_doesAct_64 : decode cX8_doesAct 64 = .ok (.aload_n 0, 1) := by decide +kernel
theorem dX8_doesAct_65 : decode cX8_doesAct 65 = .ok (.aload_n 0, 1) := by decide +kernel
theorem dX8_doesAct_66 : decode cX8_doesAct 66 = .ok (.getfield 87, 3) := by decide +kernel
theorem dX8_doesAct_69 : decode cX8_doesAct 69 = .ok (.aload_n 0, 1) := by decide +kernel
theorem dX8_doesAct_70 : decode cX8_doesAct 70 = .ok (.getfield 84, 3) := by decide +kernel
theorem dX8_doesAct_73 : decode cX8_doesAct 73 = .ok (.aload_n 0, 1) := by decide +kernel
theorem dX8_doesAct_74 : decode cX8_doesAct 74 = .ok (.getfield 90, 3) := by decide +kernel
theorem dX8_doesAct_77 : decode cX8_doesAct 77 = .ok (.iconst (-1), 1) := by decide +kernel
theorem dX8_doesAct_78 : decode cX8_doesAct 78 = .ok (.ixor, 1) := by decide +kernel
theorem dX8_doesAct_79 : decode cX8_doesAct 79 = .ok (.iand, 1) := by decide +kernel
theorem dX8_doesAct_80 : decode cX8_doesAct 80 = .ok (.ior, 1) := by decide +kernel
theorem dX8_doesAct_81 : decode cX8_doesAct 81 = .ok (.putfield 87, 3) := by decide +kernel
theorem dX8_doesAct_84 : decode cX8_doesAct 84 = .ok (.goto 57, 3) := by decide +kernel
theorem dX8_doesAct_87 : decode cX8_doesAct 87 = .ok (.aload_n 0, 1) := by decide +kernel
theorem dX8_doesAct_88 : decode cX8_doesAct 88 = .ok (.iconst 1, 1) := by decide +kernel
theorem dX8_doesAct_89 : decode cX8_doesAct 89 = .ok (.putfield 93, 3) := by decide +kernel
theorem dX8_doesAct_92 : decode cX8_doesAct 92 = .ok (.goto 49, 3) := by decide +kernel
theorem dX8_doesAct_95 : decode cX8_doesAct 95 = .ok (.aload_n 0, 1) := by decide +kernel
theorem dX8_doesAct_96 : decode cX8_doesAct 96 = .ok (.iconst 1, 1) := by decide +kernel
theorem dX8_doesAct_97 : decode cX8_doesAct 97 = .ok (.putfield 126, 3) := by decide +kernel
theorem dX8_doesAct_100 : decode cX8_doesAct 100 = .ok (.goto 41, 3) := by decide +kernel
theorem dX8_doesAct_103 : decode cX8_doesAct 103 = .ok (.iconst 0, 1) := by decide +kernel
theorem dX8_doesAct_104 : decode cX8_doesAct 104 = .ok (.istore_n 2, 1) := by decide +kernel
theorem dX8_doesAct_105 : decode cX8_doesAct 105 = .ok (.iload_n 2, 1) := by decide +kernel
theorem dX8_doesAct_106 : decode cX8_doesAct 106 = .ok (.iconst 3, 1) := by decide +kernel
theorem dX8_doesAct_107 : decode cX8_doesAct 107 = .ok (.if_icmp .ge 34, 3) := by decide +kernel
theorem dX8_doesAct_110 : decode cX8_doesAct 110 = .ok (.aload_n 0, 1) := by decide +kernel
theorem dX8_doesAct_111 : decode cX8_doesAct 111 = .ok (.getfield 16, 3) := by decide +kernel
theorem dX8_doesAct_114 : decode cX8_doesAct 114 = .ok (.iload_n 2, 1) := by decide +kernel
theorem dX8_doesAct_115 : decode cX8_doesAct 115 = .ok (.iload_n 1, 1) := by decide +kernel
theorem dX8_doesAct_116 : decode cX8_doesAct 116 = .ok (.iconst 3, 1) := by decide +kernel
theorem dX8_doesAct_117 : decode cX8_doesAct 117 = .ok (.if_icmp .ne 7, 3) := by decide +kernel
theorem dX8_doesAct_120 : decode cX8_doesAct 120 = .ok (.iconst (-1), 1) := by decide +kernel
theorem dX8_doesAct_121 : decode cX8_doesAct 121 = .ok (.goto 13, 3) := by decide +kernel
theorem dX8_doesAct_124 : decode cX8_doesAct 124 = .ok (.iload_n 1, 1) := by decide +kernel
theorem dX8_doesAct_125 : decode cX8_doesAct 125 = .ok (.iconst 4, 1) := by decide +kernel
theorem dX8_doesAct_126 : decode cX8_doesAct 126 = .ok (.if_icmp .ne 7, 3) := by decide +kernel
theorem dX8_doesAct_129 : decode cX8_doesAct 129 = .ok (.iconst 1, 1) := by decide +kernel
theorem dX8_doesAct_130 : decode cX8_doesAct 130 = .ok (.goto 4, 3) := by decide +kernel
theorem dX8_doesAct_133 : decode cX8_doesAct 133 = .ok (.iconst 0, 1) := by decide +kernel
theorem dX8_doesAct_134 : decode cX8_doesAct 134 = .ok (.iastore, 1) := by decide +kernel
theorem dX8_doesAct_135 : decode cX8_doesAct 135 = .ok (.iinc 2 1, 3) := by decide +kernel
theorem dX8_doesAct_138 : decode cX8_doesAct 138 = .ok (.goto (-33), 3) := by decide +kernel
theorem dX8_doesAct_141 : decode cX8_doesAct 141 = .ok (.return_, 1) := by decide +kernel
set_option maxRecDepth 20000 in
theorem ggX8_fans_X8_hasPower : GoodIn wsX8_fans wsX8_hasPower := goodIn_r _ [8, 9, 10, 11, 12, 13, 14, 15, 16, 17, 18, 19, 20, 21, 22, 23, 24, 25, 26, 27, 28, 29, 30, 31, 32, 33, 34, 35, 36, 37, 38, 39, 40, 41, 42, 43, 44, 45, 46] (by decide +kernel) (by decide +kernel)
set_option maxRecDepth 20000 in
theorem gX8_fans_X8_hasPower : GoodIn wsX8_fans (wsV RX8 106 RX8 yX8_hasPower wsX8_hasPower) := goodIn_app (goodIn_of _ (by decide +kernel)) ggX8_fans_X8_hasPower
theorem dX8_fans_0 : decode cX8_fans 0 = .ok (.iconst 0, 1) := by decide +kernel
theorem dX8_fans_1 : decode cX8_fans 1 = .ok (.istore_n 1, 1) := by decide +kernel
theorem dX8_fans_2 : decode cX8_fans 2 = .ok (.iload_n 1, 1) := by decide +kernel
theorem dX8_fans_3 : decode cX8_fans 3 = .ok (.iconst 3, 1) := by decide +kernel
theorem dX8_fans_4 : decode cX8_fans 4 = .ok (.if_icmp .ge 74, 3) := by decide +kernel
theorem dX8_fans_7 : decode cX8_fans 7 = .ok (.aload_n 0, 1) := by decide +kernel
theorem dX8_fans_8 : decode cX8_fans 8 = .ok (.invokevirtual 106, 3) := by decide +kernel
theorem dX8_fans_11 : decode cX8_fans 11 = .ok (.ifCond .eq 12, 3) := by decide +kernel
theorem dX8_fans_14 : decode cX8_fans 14 = .ok (.aload_n 0, 1) := by decide +kernel
theorem dX8_fans_15 : decode cX8_fans 15 = .ok (.getfield 16, 3) := by decide +kernel
theorem dX8_fans_18 : decode cX8_fans 18 = .ok (.iload_n 1, 1) := by decide +kernel
theorem dX8_fans_19 : decode cX8_fans 19 = .ok (.iaload, 1) := by decide +kernel
theorem dX8_fans_20 : decode cX8_fans 20 = .ok (.goto 4, 3) := by decide +kernel
theorem dX8_fans_23 : decode cX8_fans 23 = .ok (.iconst 0, 1) := by decide +kernel
theorem dX8_fans_24 : decode cX8_fans 24 = .ok (.istore_n 2, 1) := by decide +kernel
theorem dX8_fans_25 : decode cX8_fans 25 = .ok (.aload_n 0, 1) := by decide +kernel
theorem dX8_fans_26 : decode cX8_fans 26 = .ok (.getfield 22, 3) := by decide +kernel
theorem dX8_fans_29 : decode cX8_fans 29 = .ok (.iload_n 1, 1) := by decide +kernel
theorem dX8_fans_30 : decode cX8_fans 30 = .ok (.baload, 1) := by decide +kernel
theorem dX8_fans_31 : decode cX8_fans 31 = .ok (.ifCond .ne 41, 3) := by decide +kernel
theorem dX8_fans_34 : decode cX8_fans 34 = .ok (.aload_n 0, 1) := by decide +kernel
theorem dX8_fans_35 : decode cX8_fans 35 = .ok (.getfield 19, 3) := by decide +kernel
theorem dX8_fans_38 : decode cX8_fans 38 = .ok (.iload_n 1, 1) := by decide +kernel
theorem dX8_fans_39 : decode cX8_fans 39 = .ok (.dup2, 1) := by decide +kernel
theorem dX8_fans_40 : decode cX8_fans 40 = .ok (.iaload, 1) := by decide +kernel
theorem dX8_fans_41 : decode cX8_fans 41 = .ok (.iload_n 2, 1) := by decide +kernel
theorem dX8_fans_42 : decode cX8_fans 42 = .ok (.aload_n 0, 1) := by decide +kernel
theorem dX8_fans_43 : decode cX8_fans 43 = .ok (.getfield 19, 3) := by decide +kernel
theorem dX8_fans_46 : decode cX8_fans 46 = .ok (.iload_n 1, 1) := by decide +kernel
theorem dX8_fans_47 : decode cX8_fans 47 = .ok (.iaload, 1) := by decide +kernel
theorem dX8_fans_48 : decode cX8_fans 48 = .ok (.if_icmp .le 7, 3) := by decide +kernel
theorem dX8_fans_51 : decode cX8_fans 51 = .ok (.iconst 1, 1) := by decide +kernel
theorem dX8_fans_52 : decode cX8_fans 52 = .ok (.goto 18, 3) := by decide +kernel
theorem dX8_fans_55 : decode cX8_fans 55 = .ok (.iload_n 2, 1) := by decide +kernel
theorem dX8_fans_56 : decode cX8_fans 56 = .ok (.aload_n 0, 1) := by decide +kernel
theorem dX8_fans_57 : decode cX8_fans 57 = .ok (.getfield 19, 3) := by decide +kernel
theorem dX8_fans_60 : decode cX8_fans 60 = .ok (.iload_n 1, 1) := by decide +kernel
theorem dX8_fans_61 : decode cX8_fans 61 = .ok (.iaload, 1) := by decide +kernel
theorem dX8_fans_62 : decode cX8_fans 62 = .ok (.if_icmp .ge 7, 3) := by decide +kernel
theorem dX8_fans_65 : decode cX8_fans 65 = .ok (.iconst (-1), 1) := by decide +kernel
theorem dX8_fans_66 : decode cX8_fans 66 = .ok (.goto 4, 3) := by decide +kernel
theorem dX8_fans_69 : decode cX8_fans 69 = .ok (.iconst 0, 1) := by decide +kernel
theorem dX8_fans_70 : decode cX8_fans 70 = .ok (.iadd, 1) := by decide +kernel
theorem dX8_fans_71 : decode cX8_fans 71 = .ok (.iastore, 1) := by decide +kernel
theorem dX8_fans_72 : decode cX8_fans 72 = .ok (.iinc 1 1, 3) := by decide +kernel
theorem dX8_fans_75 : decode cX8_fans 75 = .ok (.goto (-73), 3) := by decide +kernel
theorem dX8_fans_78 : decode cX8_fans 78 = .ok (.return_, 1) := by decide +kernel
theorem dX8_flows_0 : decode cX8_flows 0 = .ok (.bipush 15, 2) := by decide +kernel
theorem dX8_flows_2 : decode cX8_flows 2 = .ok (.aload_n 0, 1) := by decide +kernel
theorem dX8_flows_3 : decode cX8_flows 3 = .ok (.getfield 19, 3) := by decide +kernel
theorem dX8_flows_6 : decode cX8_flows 6 = .ok (.iconst 0, 1) := by decide +kernel
theorem dX8_flows_7 : decode cX8_flows 7 = .ok (.iaload, 1) := by decide +kernel
theorem dX8_flows_8 : decode cX8_flows 8 = .ok (.aload_n 0, 1) := by decide +kernel
theorem dX8_flows_9 : decode cX8_flows 9 = .ok (.getfield 19, 3) := by decide +kernel
theorem dX8_flows_12 : decode cX8_flows 12 = .ok (.iconst 1, 1) := by decide +kernel
theorem dX8_flows_13 : decode cX8_flows 13 = .ok (.iaload, 1) := by decide +kernel
theorem dX8_flows_14 : decode cX8_flows 14 = .ok (.iadd, 1) := by decide +kernel
theorem dX8_flows_15 : decode cX8_flows 15 = .ok (.aload_n 0, 1) := by decide +kernel
theorem dX8_flows_16 : decode cX8_flows 16 = .ok (.getfield 19, 3) := by decide +kernel
theorem dX8_flows_19 : decode cX8_flows 19 = .ok (.iconst 2, 1) := by decide +kernel
theorem dX8_flows_20 : decode cX8_flows 20 = .ok (.iaload, 1) := by decide +kernel
theorem dX8_flows_21 : decode cX8_flows 21 = .ok (.iadd, 1) := by decide +kernel
theorem dX8_flows_22 : decode cX8_flows 22 = .ok (.imul, 1) := by decide +kernel
theorem dX8_flows_23 : decode cX8_flows 23 = .ok (.aload_n 0, 1) := by decide +kernel
theorem dX8_flows_24 : decode cX8_flows 24 = .ok (.getfield 100, 3) := by decide +kernel
theorem dX8_flows_27 : decode cX8_flows 27 = .ok (.iadd, 1) := by decide +kernel
theorem dX8_flows_28 : decode cX8_flows 28 = .ok (.aload_n 0, 1) := by decide +kernel
theorem dX8_flows_29 : decode cX8_flows 29 = .ok (.getfield 120, 3) := by decide +kernel
theorem dX8_flows_32 : decode cX8_flows 32 = .ok (.ifCond .eq 7, 3) := by decide +kernel
theorem dX8_flows_35 : decode cX8_flows 35 = .ok (.iconst 0, 1) := by decide +kernel
theorem dX8_flows_36 : decode cX8_flows 36 = .ok (.goto 4, 3) := by decide +kernel
theorem dX8_flows_39 : decode cX8_flows 39 = .ok (.iconst 5, 1) := by decide +kernel
theorem dX8_flows_40 : decode cX8_flows 40 = .ok (.iadd, 1) := by decide +kernel
theorem dX8_flows_41 : decode cX8_flows 41 = .ok (.istore_n 1, 1) := by decide +kernel
theorem dX8_flows_42 : decode cX8_flows 42 = .ok (.iload_n 1, 1) := by decide +kernel
theorem dX8_flows_43 : decode cX8_flows 43 = .ok (.bipush (-90), 2) := by decide +kernel
theorem dX8_flows_45 : decode cX8_flows 45 = .ok (.if_icmp .ge 8, 3) := by decide +kernel
theorem dX8_flows_48 : decode cX8_flows 48 = .ok (.bipush (-90), 2) := by decide +kernel
theorem dX8_flows_50 : decode cX8_flows 50 = .ok (.goto 15, 3) := by decide +kernel
theorem dX8_flows_53 : decode cX8_flows 53 = .ok (.iload_n 1, 1) := by decide +kernel
theorem dX8_flows_54 : decode cX8_flows 54 = .ok (.bipush 90, 2) := by decide +kernel
theorem dX8_flows_56 : decode cX8_flows 56 = .ok (.if_icmp .le 8, 3) := by decide +kernel
theorem dX8_flows_59 : decode cX8_flows 59 = .ok (.bipush 90, 2) := by decide +kernel
theorem dX8_flows_61 : decode cX8_flows 61 = .ok (.goto 4, 3) := by decide +kernel
theorem dX8_flows_64 : decode cX8_flows 64 = .ok (.iload_n 1, 1) := by decide +kernel
theorem dX8_flows_65 : decode cX8_flows 65 = .ok (.istore_n 1, 1) := by decide +kernel
theorem dX8_flows_66 : decode cX8_flows 66 = .ok (.aload_n 0, 1) := by decide +kernel
theorem dX8_flows_67 : decode cX8_flows 67 = .ok (.aload_n 0, 1) := by decide +kernel
theorem dX8_flows_68 : decode cX8_flows 68 = .ok (.getfield 129, 3) := by decide +kernel
theorem dX8_flows_71 : decode cX8_flows 71 = .ok (.iload_n 1, 1) := by decide +kernel
theorem dX8_flows_72 : decode cX8_flows 72 = .ok (.i2d, 1) := by decide +kernel
theorem dX8_flows_73 : decode cX8_flows 73 = .ok (.aload_n 0, 1) := by decide +kernel
theorem dX8_flows_74 : decode cX8_flows 74 = .ok (.getfield 129, 3) := by decide +kernel
theorem dX8_flows_77 : decode cX8_flows 77 = .ok (.dsub, 1) := by decide +kernel
theorem dX8_flows_78 : decode cX8_flows 78 = .ok (.ldc2_w 133, 3) := by decide +kernel
theorem dX8_flows_81 : decode cX8_flows 81 = .ok (.ddiv, 1) := by decide +kernel
theorem dX8_flows_82 : decode cX8_flows 82 = .ok (.dadd, 1) := by decide +kernel
theorem dX8_flows_83 : decode cX8_flows 83 = .ok (.putfield 129, 3) := by decide +kernel
theorem dX8_flows_86 : decode cX8_flows 86 = .ok (.return_, 1) := by decide +kernel
set_option maxRecDepth 20000 in
theorem ggX8_burns_X8_hasPower : GoodIn wsX8_burns wsX8_hasPower := goodIn_r _ [13, 14, 15, 16, 17, 18, 19, 20, 21, 22, 23, 24, 25, 26, 27, 28, 29, 30, 31, 32, 33, 34, 35, 36, 37, 38, 39, 40, 41, 42, 43, 44, 45, 46, 47, 48, 49, 50, 51] (by decide +kernel) (by decide +kernel)
set_option maxRecDepth 20000 in
theorem gX8_burns_X8_hasPower : GoodIn wsX8_burns (wsV RX8 106 RX8 yX8_hasPower wsX8_hasPower) := goodIn_app (goodIn_of _ (by decide +kernel)) ggX8_burns_X8_hasPower
theorem dX8_burns_0 : decode cX8_burns 0 = .ok (.aload_n 0, 1) := by decide +kernel
theorem dX8_burns_1 : decode cX8_burns 1 = .ok (.getfield 36, 3) := by decide +kernel
theorem dX8_burns_4 : decode cX8_burns 4 = .ok (.iconst (-1), 1) := by decide +kernel
theorem dX8_burns_5 : decode cX8_burns 5 = .ok (.if_icmp .ne 4, 3) := by decide +kernel
theorem dX8_burns_8 : decode cX8_burns 8 = .ok (.return_, 1) := by decide +kernel
theorem dX8_burns_9 : decode cX8_burns 9 = .ok (.aload_n 0, 1) := by decide +kernel
theorem dX8_burns_10 : decode cX8_burns 10 = .ok (.getfield 135, 3) := by decide +kernel
theorem dX8_burns_13 : decode cX8_burns 13 = .ok (.bipush 100, 2) := by decide +kernel
theorem dX8_burns_15 : decode cX8_burns 15 = .ok (.if_icmp .le 10, 3) := by decide +kernel
theorem dX8_burns_18 : decode cX8_burns 18 = .ok (.aload_n 0, 1) := by decide +kernel
theorem dX8_burns_19 : decode cX8_burns 19 = .ok (.getfield 103, 3) := by decide +kernel
theorem dX8_burns_22 : decode cX8_burns 22 = .ok (.goto 16, 3) := by decide +kernel
theorem dX8_burns_25 : decode cX8_burns 25 = .ok (.iconst 1, 1) := by decide +kernel
theorem dX8_burns_26 : decode cX8_burns 26 = .ok (.aload_n 0, 1) := by decide +kernel
theorem dX8_burns_27 : decode cX8_burns 27 = .ok (.getfield 135, 3) := by decide +kernel
theorem dX8_burns_30 : decode cX8_burns 30 = .ok (.aload_n 0, 1) := by decide +kernel
theorem dX8_burns_31 : decode cX8_burns 31 = .ok (.getfield 135, 3) := by decide +kernel
theorem dX8_burns_34 : decode cX8_burns 34 = .ok (.imul, 1) := by decide +kernel
theorem dX8_burns_35 : decode cX8_burns 35 = .ok (.iconst 4, 1) := by decide +kernel
theorem dX8_burns_36 : decode cX8_burns 36 = .ok (.idiv, 1) := by decide +kernel
theorem dX8_burns_37 : decode cX8_burns 37 = .ok (.iadd, 1) := by decide +kernel
theorem dX8_burns_38 : decode cX8_burns 38 = .ok (.istore_n 1, 1) := by decide +kernel
theorem dX8_burns_39 : decode cX8_burns 39 = .ok (.iload_n 1, 1) := by decide +kernel
theorem dX8_burns_40 : decode cX8_burns 40 = .ok (.aload_n 0, 1) := by decide +kernel
theorem dX8_burns_41 : decode cX8_burns 41 = .ok (.getfield 103, 3) := by decide +kernel
theorem dX8_burns_44 : decode cX8_burns 44 = .ok (.if_icmp .ge 7, 3) := by decide +kernel
theorem dX8_burns_47 : decode cX8_burns 47 = .ok (.iload_n 1, 1) := by decide +kernel
theorem dX8_burns_48 : decode cX8_burns 48 = .ok (.goto 7, 3) := by decide +kernel
theorem dX8_burns_51 : decode cX8_burns 51 = .ok (.aload_n 0, 1) := by decide +kernel
theorem dX8_burns_52 : decode cX8_burns 52 = .ok (.getfield 103, 3) := by decide +kernel
theorem dX8_burns_55 : decode cX8_burns 55 = .ok (.istore_n 1, 1) := by decide +kernel
theorem dX8_burns_56 : decode cX8_burns 56 = .ok (.aload_n 0, 1) := by decide +kernel
theorem dX8_burns_57 : decode cX8_burns 57 = .ok (.getfield 126, 3) := by decide +kernel
theorem dX8_burns_60 : decode cX8_burns 60 = .ok (.ifCond .eq 31, 3) := by decide +kernel
theorem dX8_burns_63 : decode cX8_burns 63 = .ok (.aload_n 0, 1) := by decide +kernel
theorem dX8_burns_64 : decode cX8_burns 64 = .ok (.getfield 30, 3) := by decide +kernel
theorem dX8_burns_67 : decode cX8_burns 67 = .ok (.ifCond .le 24, 3) := by decide +kernel
theorem dX8_burns_70 : decode cX8_burns 70 = .ok (.aload_n 0, 1) := by decide +kernel
theorem dX8_burns_71 : decode cX8_burns 71 = .ok (.invokevirtual 106, 3) := by decide +kernel
theorem dX8_burns_74 : decode cX8_burns 74 = .ok (.ifCond .eq 17, 3) := by decide +kernel
theorem dX8_burns_77 : decode cX8_burns 77 = .ok (.iload_n 1, 1) := by decide +kernel
theorem dX8_burns_78 : decode cX8_burns 78 = .ok (.iconst 2, 1) := by decide +kernel
theorem dX8_burns_79 : decode cX8_burns 79 = .ok (.idiv, 1) := by decide +kernel
theorem dX8_burns_80 : decode cX8_burns 80 = .ok (.istore_n 1, 1) := by decide +kernel
theorem dX8_burns_81 : decode cX8_burns 81 = .ok (.aload_n 0, 1) := by decide +kernel
theorem dX8_burns_82 : decode cX8_burns 82 = .ok (.dup, 1) := by decide +kernel
theorem dX8_burns_83 : decode cX8_burns 83 = .ok (.getfield 30, 3) := by decide +kernel
theorem dX8_burns_86 : decode cX8_burns 86 = .ok (.iconst 1, 1) := by decide +kernel
theorem dX8_burns_87 : decode cX8_burns 87 = .ok (.isub, 1) := by decide +kernel
theorem dX8_burns_88 : decode cX8_burns 88 = .ok (.putfield 30, 3) := by decide +kernel
theorem dX8_burns_91 : decode cX8_burns 91 = .ok (.aload_n 0, 1) := by decide +kernel
theorem dX8_burns_92 : decode cX8_burns 92 = .ok (.dup, 1) := by decide +kernel
theorem dX8_burns_93 : decode cX8_burns 93 = .ok (.getfield 135, 3) := by decide +kernel
theorem dX8_burns_96 : decode cX8_burns 96 = .ok (.iconst 1, 1) := by decide +kernel
theorem dX8_burns_97 : decode cX8_burns 97 = .ok (.iadd, 1) := by decide +kernel
theorem dX8_burns_98 : decode cX8_burns 98 = .ok (.putfield 135, 3) := by decide +kernel
theorem dX8_burns_101 : decode cX8_burns 101 = .ok (.aload_n 0, 1) := by decide +kernel
theorem dX8_burns_102 : decode cX8_burns 102 = .ok (.getfield 7, 3) := by decide +kernel
theorem dX8_burns_105 : decode cX8_burns 105 = .ok (.aload_n 0, 1) := by decide +kernel
theorem dX8_burns_106 : decode cX8_burns 106 = .ok (.getfield 36, 3) := by decide +kernel
theorem dX8_burns_109 : decode cX8_burns 109 = .ok (.dup2, 1) := by decide +kernel
theorem dX8_burns_110 : decode cX8_burns 110 = .ok (.iaload, 1) := by decide +kernel
theorem dX8_burns_111 : decode cX8_burns 111 = .ok (.iload_n 1, 1) := by decide +kernel
theorem dX8_burns_112 : decode cX8_burns 112 = .ok (.iadd, 1) := by decide +kernel
theorem dX8_burns_113 : decode cX8_burns 113 = .ok (.iastore, 1) := by decide +kernel
theorem dX8_burns_114 : decode cX8_burns 114 = .ok (.aload_n 0, 1) := by decide +kernel
theorem dX8_burns_115 : decode cX8_burns 115 = .ok (.getfield 13, 3) := by decide +kernel
theorem dX8_burns_118 : decode cX8_burns 118 = .ok (.aload_n 0, 1) := by decide +kernel
theorem dX8_burns_119 : decode cX8_burns 119 = .ok (.getfield 36, 3) := by decide +kernel
theorem dX8_burns_122 : decode cX8_burns 122 = .ok (.dup2, 1) := by decide +kernel
theorem dX8_burns_123 : decode cX8_burns 123 = .ok (.iaload, 1) := by decide +kernel
theorem dX8_burns_124 : decode cX8_burns 124 = .ok (.iload_n 1, 1) := by decide +kernel
theorem dX8_burns_125 : decode cX8_burns 125 = .ok (.iadd, 1) := by decide +kernel
theorem dX8_burns_126 : decode cX8_burns 126 = .ok (.iastore, 1) := by decide +kernel
theorem dX8_burns_127 : decode cX8_burns 127 = .ok (.aload_n 0, 1) := by decide +kernel
theorem dX8_burns_128 : decode cX8_burns 128 = .ok (.dup, 1) := by decide +kernel
theorem dX8_burns_129 : decode cX8_burns 129 = .ok (.getfield 138, 3) := by decide +kernel
theorem dX8_burns_132 : decode cX8_burns 132 = .ok (.iload_n 1, 1) := by decide +kernel
theorem dX8_burns_133 : decode cX8_burns 133 = .ok (.iadd, 1) := by decide +kernel
theorem dX8_burns_134 : decode cX8_burns 134 = .ok (.putfield 138, 3) := by decide +kernel
theorem dX8_burns_137 : decode cX8_burns 137 = .ok (.return_, 1) := by decide +kernel
theorem dX8_strength_0 : decode cX8_strength 0 = .ok (.aload_n 0, 1) := by decide +kernel
theorem dX8_strength_1 : decode cX8_strength 1 = .ok (.getfield 129, 3) := by decide +kernel
theorem dX8_strength_4 : decode cX8_strength 4 = .ok (.dconst 0, 1) := by decide +kernel
theorem dX8_strength_5 : decode cX8_strength 5 = .ok (.dcmp .g, 1) := by decide +kernel
theorem dX8_strength_6 : decode cX8_strength 6 = .ok (.ifCond .ge 11, 3) := by decide +kernel
theorem dX8_strength_9 : decode cX8_strength 9 = .ok (.aload_n 0, 1) := by decide +kernel
theorem dX8_strength_10 : decode cX8_strength 10 = .ok (.getfield 129, 3) := by decide +kernel
theorem dX8_strength_13 : decode cX8_strength 13 = .ok (.dneg, 1) := by decide +kernel
theorem dX8_strength_14 : decode cX8_strength 14 = .ok (.goto 7, 3) := by decide +kernel
theorem dX8_strength_17 : decode cX8_strength 17 = .ok (.aload_n 0, 1) := by decide +kernel
theorem dX8_strength_18 : decode cX8_strength 18 = .ok (.getfield 129, 3) := by decide +kernel
theorem dX8_strength_21 : decode cX8_strength 21 = .ok (.dreturn, 1) := by decide +kernel
set_option maxRecDepth 20000 in
theorem ggX8_comes_X8_isSegment : GoodIn wsX8_comes wsX8_isSegment := goodIn_r _ [6, 7, 8, 5, 9] (by decide +kernel) (by decide +kernel)
set_option maxRecDepth 20000 in
theorem gX8_comes_X8_isSegment : GoodIn wsX8_comes (va_wsS RX8 73 yX8_isSegment wsX8_isSegment) := goodIn_app (goodIn_of _ (by decide +kernel)) ggX8_comes_X8_isSegment
theorem dX8_comes_0 : decode cX8_comes 0 = .ok (.iload_n 1, 1) := by decide +kernel
theorem dX8_comes_1 : decode cX8_comes 1 = .ok (.invokestatic 73, 3) := by decide +kernel
theorem dX8_comes_4 : decode cX8_comes 4 = .ok (.ifCond .eq 16, 3) := by decide +kernel
theorem dX8_comes_7 : decode cX8_comes 7 = .ok (.aload_n 0, 1) := by decide +kernel
theorem dX8_comes_8 : decode cX8_comes 8 = .ok (.getfield 7, 3) := by decide +kernel
theorem dX8_comes_11 : decode cX8_comes 11 = .ok (.iload_n 1, 1) := by decide +kernel
theorem dX8_comes_12 : decode cX8_comes 12 = .ok (.dup2, 1) := by decide +kernel
theorem dX8_comes_13 : decode cX8_comes 13 = .ok (.iaload, 1) := by decide +kernel
theorem dX8_comes_14 : decode cX8_comes 14 = .ok (.iload_n 2, 1) := by decide +kernel
theorem dX8_comes_15 : decode cX8_comes 15 = .ok (.iadd, 1) := by decide +kernel
theorem dX8_comes_16 : decode cX8_comes 16 = .ok (.iastore, 1) := by decide +kernel
theorem dX8_comes_17 : decode cX8_comes 17 = .ok (.goto 13, 3) := by decide +kernel
theorem dX8_comes_20 : decode cX8_comes 20 = .ok (.aload_n 0, 1) := by decide +kernel
theorem dX8_comes_21 : decode cX8_comes 21 = .ok (.dup, 1) := by decide +kernel
theorem dX8_comes_22 : decode cX8_comes 22 = .ok (.getfield 141, 3) := by decide +kernel
theorem dX8_comes_25 : decode cX8_comes 25 = .ok (.iload_n 2, 1) := by decide +kernel
theorem dX8_comes_26 : decode cX8_comes 26 = .ok (.iadd, 1) := by decide +kernel
theorem dX8_comes_27 : decode cX8_comes 27 = .ok (.putfield 141, 3) := by decide +kernel
theorem dX8_comes_30 : decode cX8_comes 30 = .ok (.return_, 1) := by decide +kernel
set_option maxRecDepth 20000 in
theorem ggX8_moves_X8_strength : GoodIn wsX8_moves wsX8_strength := goodIn_r _ [13, 1, 24, 25, 26, 27, 28, 29, 30, 31, 32, 33, 34, 35, 36, 37, 38, 39, 40, 41, 42, 43, 44, 45, 46, 47, 48, 49, 50, 51, 52, 53, 54, 55, 56, 57, 58, 59, 60] (by decide +kernel) (by decide +kernel)
set_option maxRecDepth 20000 in
theorem gX8_moves_X8_strength : GoodIn wsX8_moves (wsV RX8 144 RX8 yX8_strength wsX8_strength) := goodIn_app (goodIn_of _ (by decide +kernel)) ggX8_moves_X8_strength
set_option maxRecDepth 20000 in
theorem ggX8_moves_X8_comes : GoodIn wsX8_moves wsX8_comes := goodIn_r _ [17, 2, 7, 18, 19, 12, 20, 21, 22, 23, 24, 25, 26, 27, 28, 29, 30, 31, 32, 33, 34, 35, 36, 37, 38, 39, 40, 41, 42, 43, 44, 45, 46, 47, 48, 49, 50, 51, 52, 53, 54, 55, 56, 57, 58, 59, 60] (by decide +kernel) (by decide +kernel)
set_option maxRecDepth 20000 in
theorem gX8_moves_X8_comes : GoodIn wsX8_moves (wsV RX8 148 RX8 yX8_comes wsX8_comes) := goodIn_app (goodIn_of _ (by decide +kernel)) ggX8_moves_X8_comes
theorem dX8_moves_0 : decode cX8_moves 0 = .ok (.aload_n 0, 1) := by decide +kernel
theorem dX8_moves_1 : decode cX8_moves 1 = .ok (.invokevirtual 144, 3) := by decide +kernel
theorem dX8_moves_4 : decode cX8_moves 4 = .ok (.d2i, 1) := by decide +kernel
theorem dX8_moves_5 : decode cX8_moves 5 = .ok (.istore_n 1, 1) := by decide +kernel
theorem dX8_moves_6 : decode cX8_moves 6 = .ok (.aload_n 0, 1) := by decide +kernel
theorem dX8_moves_7 : decode cX8_moves 7 = .ok (.getfield 129, 3) := by decide +kernel
theorem dX8_moves_10 : decode cX8_moves 10 = .ok (.dconst 0, 1) := by decide +kernel
theorem dX8_moves_11 : decode cX8_moves 11 = .ok (.dcmp .g, 1) := by decide +kernel
theorem dX8_moves_12 : decode cX8_moves 12 = .ok (.ifCond .ge 7, 3) := by decide +kernel
theorem dX8_moves_15 : decode cX8_moves 15 = .ok (.iconst (-1), 1) := by decide +kernel
theorem dX8_moves_16 : decode cX8_moves 16 = .ok (.goto 4, 3) := by decide +kernel
theorem dX8_moves_19 : decode cX8_moves 19 = .ok (.iconst 1, 1) := by decide +kernel
theorem dX8_moves_20 : decode cX8_moves 20 = .ok (.istore_n 2, 1) := by decide +kernel
theorem dX8_moves_21 : decode cX8_moves 21 = .ok (.iload_n 2, 1) := by decide +kernel
theorem dX8_moves_22 : decode cX8_moves 22 = .ok (.iconst 1, 1) := by decide +kernel
theorem dX8_moves_23 : decode cX8_moves 23 = .ok (.if_icmp .ne 8, 3) := by decide +kernel
theorem dX8_moves_26 : decode cX8_moves 26 = .ok (.bipush 11, 2) := by decide +kernel
theorem dX8_moves_28 : decode cX8_moves 28 = .ok (.goto 4, 3) := by decide +kernel
theorem dX8_moves_31 : decode cX8_moves 31 = .ok (.iconst 0, 1) := by decide +kernel
theorem dX8_moves_32 : decode cX8_moves 32 = .ok (.istore_n 3, 1) := by decide +kernel
theorem dX8_moves_33 : decode cX8_moves 33 = .ok (.iconst 0, 1) := by decide +kernel
theorem dX8_moves_34 : decode cX8_moves 34 = .ok (.istore 4, 2) := by decide +kernel
theorem dX8_moves_36 : decode cX8_moves 36 = .ok (.iload 4, 2) := by decide +kernel
theorem dX8_moves_38 : decode cX8_moves 38 = .ok (.bipush 12, 2) := by decide +kernel
theorem dX8_moves_40 : decode cX8_moves 40 = .ok (.if_icmp .ge 53, 3) := by decide +kernel
theorem dX8_moves_43 : decode cX8_moves 43 = .ok (.iload_n 3, 1) := by decide +kernel
theorem dX8_moves_44 : decode cX8_moves 44 = .ok (.iload_n 2, 1) := by decide +kernel
theorem dX8_moves_45 : decode cX8_moves 45 = .ok (.iload 4, 2) := by decide +kernel
theorem dX8_moves_47 : decode cX8_moves 47 = .ok (.imul, 1) := by decide +kernel
theorem dX8_moves_48 : decode cX8_moves 48 = .ok (.isub, 1) := by decide +kernel
theorem dX8_moves_49 : decode cX8_moves 49 = .ok (.istore 5, 2) := by decide +kernel
theorem dX8_moves_51 : decode cX8_moves 51 = .ok (.aload_n 0, 1) := by decide +kernel
theorem dX8_moves_52 : decode cX8_moves 52 = .ok (.getfield 7, 3) := by decide +kernel
theorem dX8_moves_55 : decode cX8_moves 55 = .ok (.iload 5, 2) := by decide +kernel
theorem dX8_moves_57 : decode cX8_moves 57 = .ok (.iaload, 1) := by decide +kernel
theorem dX8_moves_58 : decode cX8_moves 58 = .ok (.iload_n 1, 1) := by decide +kernel
theorem dX8_moves_59 : decode cX8_moves 59 = .ok (.imul, 1) := by decide +kernel
theorem dX8_moves_60 : decode cX8_moves 60 = .ok (.bipush 100, 2) := by decide +kernel
theorem dX8_moves_62 : decode cX8_moves 62 = .ok (.idiv, 1) := by decide +kernel
theorem dX8_moves_63 : decode cX8_moves 63 = .ok (.istore 6, 2) := by decide +kernel
theorem dX8_moves_65 : decode cX8_moves 65 = .ok (.aload_n 0, 1) := by decide +kernel
theorem dX8_moves_66 : decode cX8_moves 66 = .ok (.getfield 7, 3) := by decide +kernel
theorem dX8_moves_69 : decode cX8_moves 69 = .ok (.iload 5, 2) := by decide +kernel
theorem dX8_moves_71 : decode cX8_moves 71 = .ok (.dup2, 1) := by decide +kernel
theorem dX8_moves_72 : decode cX8_moves 72 = .ok (.iaload, 1) := by decide +kernel
theorem dX8_moves_73 : decode cX8_moves 73 = .ok (.iload 6, 2) := by decide +kernel
theorem dX8_moves_75 : decode cX8_moves 75 = .ok (.isub, 1) := by decide +kernel
theorem dX8_moves_76 : decode cX8_moves 76 = .ok (.iastore, 1) := by decide +kernel
theorem dX8_moves_77 : decode cX8_moves 77 = .ok (.aload_n 0, 1) := by decide +kernel
theorem dX8_moves_78 : decode cX8_moves 78 = .ok (.iload 5, 2) := by decide +kernel
theorem dX8_moves_80 : decode cX8_moves 80 = .ok (.iload_n 2, 1) := by decide +kernel
theorem dX8_moves_81 : decode cX8_moves 81 = .ok (.iadd, 1) := by decide +kernel
theorem dX8_moves_82 : decode cX8_moves 82 = .ok (.iload 6, 2) := by decide +kernel
theorem dX8_moves_84 : decode cX8_moves 84 = .ok (.invokevirtual 148, 3) := by decide +kernel
theorem dX8_moves_87 : decode cX8_moves 87 = .ok (.iinc 4 1, 3) := by decide +kernel
theorem dX8_moves_90 : decode cX8_moves 90 = .ok (.goto (-54), 3) := by decide +kernel
theorem dX8_moves_93 : decode cX8_moves 93 = .ok (.aload_n 0, 1) := by decide +kernel
theorem dX8_moves_94 : decode cX8_moves 94 = .ok (.getfield 36, 3) := by decide +kernel
theorem dX8_moves_97 : decode cX8_moves 97 = .ok (.iconst (-1), 1) := by decide +kernel
theorem dX8_moves_98 : decode cX8_moves 98 = .ok (.if_icmp .eq 54, 3) := by decide +kernel
theorem dX8_moves_101 : decode cX8_moves 101 = .ok (.aload_n 0, 1) := by decide +kernel
theorem dX8_moves_102 : decode cX8_moves 102 = .ok (.invokevirtual 144, 3) := by decide +kernel
theorem dX8_moves_105 : decode cX8_moves 105 = .ok (.ldc2_w 152, 3) := by decide +kernel
theorem dX8_moves_108 : decode cX8_moves 108 = .ok (.dcmp .g, 1) := by decide +kernel
theorem dX8_moves_109 : decode cX8_moves 109 = .ok (.ifCond .ge 43, 3) := by decide +kernel
theorem dX8_moves_112 : decode cX8_moves 112 = .ok (.aload_n 0, 1) := by decide +kernel
theorem dX8_moves_113 : decode cX8_moves 113 = .ok (.getfield 7, 3) := by decide +kernel
theorem dX8_moves_116 : decode cX8_moves 116 = .ok (.aload_n 0, 1) := by decide +kernel
theorem dX8_moves_117 : decode cX8_moves 117 = .ok (.getfield 36, 3) := by decide +kernel
theorem dX8_moves_120 : decode cX8_moves 120 = .ok (.iaload, 1) := by decide +kernel
theorem dX8_moves_121 : decode cX8_moves 121 = .ok (.bipush 10, 2) := by decide +kernel
theorem dX8_moves_123 : decode cX8_moves 123 = .ok (.idiv, 1) := by decide +kernel
theorem dX8_moves_124 : decode cX8_moves 124 = .ok (.istore 4, 2) := by decide +kernel
theorem dX8_moves_126 : decode cX8_moves 126 = .ok (.aload_n 0, 1) := by decide +kernel
theorem dX8_moves_127 : decode cX8_moves 127 = .ok (.getfield 7, 3) := by decide +kernel
theorem dX8_moves_130 : decode cX8_moves 130 = .ok (.aload_n 0, 1) := by decide +kernel
theorem dX8_moves_131 : decode cX8_moves 131 = .ok (.getfield 36, 3) := by decide +kernel
theorem dX8_moves_134 : decode cX8_moves 134 = .ok (.dup2, 1) := by decide +kernel
theorem dX8_moves_135 : decode cX8_moves 135 = .ok (.iaload, 1) := by decide +kernel
theorem dX8_moves_136 : decode cX8_moves 136 = .ok (.iload 4, 2) := by decide +kernel
theorem dX8_moves_138 : decode cX8_moves 138 = .ok (.isub, 1) := by decide +kernel
theorem dX8_moves_139 : decode cX8_moves 139 = .ok (.iastore, 1) := by decide +kernel
theorem dX8_moves_140 : decode cX8_moves 140 = .ok (.aload_n 0, 1) := by decide +kernel
theorem dX8_moves_141 : decode cX8_moves 141 = .ok (.aload_n 0, 1) := by decide +kernel
theorem dX8_moves_142 : decode cX8_moves 142 = .ok (.getfield 36, 3) := by decide +kernel
theorem dX8_moves_145 : decode cX8_moves 145 = .ok (.iload_n 2, 1) := by decide +kernel
theorem dX8_moves_146 : decode cX8_moves 146 = .ok (.isub, 1) := by decide +kernel
theorem dX8_moves_147 : decode cX8_moves 147 = .ok (.iload 4, 2) := by decide +kernel
theorem dX8_moves_149 : decode cX8_moves 149 = .ok (.invokevirtual 148, 3) := by decide +kernel
theorem dX8_moves_152 : decode cX8_moves 152 = .ok (.aload_n 0, 1) := by decide +kernel
theorem dX8_moves_153 : decode cX8_moves 153 = .ok (.getfield 93, 3) := by decide +kernel
theorem dX8_moves_156 : decode cX8_moves 156 = .ok (.ifCond .eq 41, 3) := by decide +kernel
theorem dX8_moves_159 : decode cX8_moves 159 = .ok (.aload_n 0, 1) := by decide +kernel
theorem dX8_moves_160 : decode cX8_moves 160 = .ok (.getfield 7, 3) := by decide +kernel
theorem dX8_moves_163 : decode cX8_moves 163 = .ok (.aload_n 0, 1) := by decide +kernel
theorem dX8_moves_164 : decode cX8_moves 164 = .ok (.getfield 26, 3) := by decide +kernel
theorem dX8_moves_167 : decode cX8_moves 167 = .ok (.iaload, 1) := by decide +kernel
theorem dX8_moves_168 : decode cX8_moves 168 = .ok (.iconst 3, 1) := by decide +kernel
theorem dX8_moves_169 : decode cX8_moves 169 = .ok (.idiv, 1) := by decide +kernel
theorem dX8_moves_170 : decode cX8_moves 170 = .ok (.istore 4, 2) := by decide +kernel
theorem dX8_moves_172 : decode cX8_moves 172 = .ok (.aload_n 0, 1) := by decide +kernel
theorem dX8_moves_173 : decode cX8_moves 173 = .ok (.getfield 7, 3) := by decide +kernel
theorem dX8_moves_176 : decode cX8_moves 176 = .ok (.aload_n 0, 1) := by decide +kernel
theorem dX8_moves_177 : decode cX8_moves 177 = .ok (.getfield 26, 3) := by decide +kernel
theorem dX8_moves_180 : decode cX8_moves 180 = .ok (.dup2, 1) := by decide +kernel
theorem dX8_moves_181 : decode cX8_moves 181 = .ok (.iaload, 1) := by decide +kernel
theorem dX8_moves_182 : decode cX8_moves 182 = .ok (.iload 4, 2) := by decide +kernel
theorem dX8_moves_184 : decode cX8_moves 184 = .ok (.isub, 1) := by decide +kernel
theorem dX8_moves_185 : decode cX8_moves 185 = .ok (.iastore, 1) := by decide +kernel
theorem dX8_moves_186 : decode cX8_moves 186 = .ok (.aload_n 0, 1) := by decide +kernel
theorem dX8_moves_187 : decode cX8_moves 187 = .ok (.dup, 1) := by decide +kernel
theorem dX8_moves_188 : decode cX8_moves 188 = .ok (.getfield 141, 3) := by decide +kernel
theorem dX8_moves_191 : decode cX8_moves 191 = .ok (.iload 4, 2) := by decide +kernel
theorem dX8_moves_193 : decode cX8_moves 193 = .ok (.iadd, 1) := by decide +kernel
theorem dX8_moves_194 : decode cX8_moves 194 = .ok (.putfield 141, 3) := by decide +kernel
theorem dX8_moves_197 : decode cX8_moves 197 = .ok (.iconst 0, 1) := by decide +kernel
theorem dX8_moves_198 : decode cX8_moves 198 = .ok (.istore 4, 2) := by decide +kernel
theorem dX8_moves_200 : decode cX8_moves 200 = .ok (.iload 4, 2) := by decide +kernel
theorem dX8_moves_202 : decode cX8_moves 202 = .ok (.bipush 12, 2) := by decide +kernel
theorem dX8_moves_204 : decode cX8_moves 204 = .ok (.if_icmp .ge 30, 3) := by decide +kernel
theorem dX8_moves_207 : decode cX8_moves 207 = .ok (.aload_n 0, 1) := by decide +kernel
theorem dX8_moves_208 : decode cX8_moves 208 = .ok (.getfield 13, 3) := by decide +kernel
theorem dX8_moves_211 : decode cX8_moves 211 = .ok (.iload 4, 2) := by decide +kernel
theorem dX8_moves_213 : decode cX8_moves 213 = .ok (.dup2, 1) := by decide +kernel
theorem dX8_moves_214 : decode cX8_moves 214 = .ok (.iaload, 1) := by decide +kernel
theorem dX8_moves_215 : decode cX8_moves 215 = .ok (.aload_n 0, 1) := by decide +kernel
theorem dX8_moves_216 : decode cX8_moves 216 = .ok (.getfield 13, 3) := by decide +kernel
theorem dX8_moves_219 : decode cX8_moves 219 = .ok (.iload 4, 2) := by decide +kernel
theorem dX8_moves_221 : decode cX8_moves 221 = .ok (.iaload, 1) := by decide +kernel
theorem dX8_moves_222 : decode cX8_moves 222 = .ok (.iconst 3, 1) := by decide +kernel
theorem dX8_moves_223 : decode cX8_moves 223 = .ok (.iadd, 1) := by decide +kernel
theorem dX8_moves_224 : decode cX8_moves 224 = .ok (.iconst 4, 1) := by decide +kernel
theorem dX8_moves_225 : decode cX8_moves 225 = .ok (.idiv, 1) := by decide +kernel
theorem dX8_moves_226 : decode cX8_moves 226 = .ok (.isub, 1) := by decide +kernel
theorem dX8_moves_227 : decode cX8_moves 227 = .ok (.iastore, 1) := by decide +kernel
theorem dX8_moves_228 : decode cX8_moves 228 = .ok (.iinc 4 1, 3) := by decide +kernel
theorem dX8_moves_231 : decode cX8_moves 231 = .ok (.goto (-31), 3) := by decide +kernel
theorem dX8_moves_234 : decode cX8_moves 234 = .ok (.return_, 1) := by decide +kernel
theorem dX8_personsIn_0 : decode cX8_personsIn 0 = .ok (.iconst 0, 1) := by decide +kernel
theorem dX8_personsIn_1 : decode cX8_personsIn 1 = .ok (.istore_n 2, 1) := by decide +kernel
theorem dX8_personsIn_2 : decode cX8_personsIn 2 = .ok (.iconst 0, 1) := by decide +kernel
theorem dX8_personsIn_3 : decode cX8_personsIn 3 = .ok (.istore_n 3, 1) := by decide +kernel
theorem dX8_personsIn_4 : decode cX8_personsIn 4 = .ok (.iload_n 3, 1) := by decide +kernel
theorem dX8_personsIn_5 : decode cX8_personsIn 5 = .ok (.aload_n 0, 1) := by decide +kernel
theorem dX8_personsIn_6 : decode cX8_personsIn 6 = .ok (.getfield 97, 3) := by decide +kernel
theorem dX8_personsIn_9 : decode cX8_personsIn 9 = .ok (.if_icmp .ge 37, 3) := by decide +kernel
theorem dX8_personsIn_12 : decode cX8_personsIn 12 = .ok (.iload_n 2, 1) := by decide +kernel
theorem dX8_personsIn_13 : decode cX8_personsIn 13 = .ok (.aload_n 0, 1) := by decide +kernel
theorem dX8_personsIn_14 : decode cX8_personsIn 14 = .ok (.getfield 54, 3) := by decide +kernel
theorem dX8_personsIn_17 : decode cX8_personsIn 17 = .ok (.iload_n 3, 1) := by decide +kernel
theorem dX8_personsIn_18 : decode cX8_personsIn 18 = .ok (.iaload, 1) := by decide +kernel
theorem dX8_personsIn_19 : decode cX8_personsIn 19 = .ok (.iconst 3, 1) := by decide +kernel
theorem dX8_personsIn_20 : decode cX8_personsIn 20 = .ok (.if_icmp .eq 17, 3) := by decide +kernel
theorem dX8_personsIn_23 : decode cX8_personsIn 23 = .ok (.aload_n 0, 1) := by decide +kernel
theorem dX8_personsIn_24 : decode cX8_personsIn 24 = .ok (.getfield 57, 3) := by decide +kernel
theorem dX8_personsIn_27 : decode cX8_personsIn 27 = .ok (.iload_n 3, 1) := by decide +kernel
theorem dX8_personsIn_28 : decode cX8_personsIn 28 = .ok (.iaload, 1) := by decide +kernel
theorem dX8_personsIn_29 : decode cX8_personsIn 29 = .ok (.iload_n 1, 1) := by decide +kernel
theorem dX8_personsIn_30 : decode cX8_personsIn 30 = .ok (.if_icmp .ne 7, 3) := by decide +kernel
theorem dX8_personsIn_33 : decode cX8_personsIn 33 = .ok (.iconst 1, 1) := by decide +kernel
theorem dX8_personsIn_34 : decode cX8_personsIn 34 = .ok (.goto 4, 3) := by decide +kernel
theorem dX8_personsIn_37 : decode cX8_personsIn 37 = .ok (.iconst 0, 1) := by decide +kernel
theorem dX8_personsIn_38 : decode cX8_personsIn 38 = .ok (.iadd, 1) := by decide +kernel
theorem dX8_personsIn_39 : decode cX8_personsIn 39 = .ok (.istore_n 2, 1) := by decide +kernel
theorem dX8_personsIn_40 : decode cX8_personsIn 40 = .ok (.iinc 3 1, 3) := by decide +kernel
theorem dX8_personsIn_43 : decode cX8_personsIn 43 = .ok (.goto (-39), 3) := by decide +kernel
theorem dX8_personsIn_46 : decode cX8_personsIn 46 = .ok (.iload_n 2, 1) := by decide +kernel
theorem dX8_personsIn_47 : decode cX8_personsIn 47 = .ok (.ireturn, 1) := by decide +kernel
set_option maxRecDepth 20000 in
theorem ggX8_tells_X8_personsIn : GoodIn wsX8_tells wsX8_personsIn := goodIn_r _ [8, 9, 10, 11, 12, 13, 14, 15, 16, 17, 18, 19, 20, 21, 22, 23, 24, 25, 26, 27, 28, 29, 30, 31, 32, 33, 34, 35, 36, 37, 38, 39, 40, 41, 42, 43, 44, 45, 46, 47, 48] (by decide +kernel) (by decide +kernel)
set_option maxRecDepth 20000 in
theorem gX8_tells_X8_personsIn : GoodIn wsX8_tells (wsV RX8 154 RX8 yX8_personsIn wsX8_personsIn) := goodIn_app (goodIn_of _ (by decide +kernel)) ggX8_tells_X8_personsIn
theorem dX8_tells_0 : decode cX8_tells 0 = .ok (.aload_n 0, 1) := by decide +kernel
theorem dX8_tells_1 : decode cX8_tells 1 = .ok (.getfield 13, 3) := by decide +kernel
theorem dX8_tells_4 : decode cX8_tells 4 = .ok (.iload_n 1, 1) := by decide +kernel
theorem dX8_tells_5 : decode cX8_tells 5 = .ok (.iaload, 1) := by decide +kernel
theorem dX8_tells_6 : decode cX8_tells 6 = .ok (.bipush 20, 2) := by decide +kernel
theorem dX8_tells_8 : decode cX8_tells 8 = .ok (.if_icmp .lt 18, 3) := by decide +kernel
theorem dX8_tells_11 : decode cX8_tells 11 = .ok (.aload_n 0, 1) := by decide +kernel
theorem dX8_tells_12 : decode cX8_tells 12 = .ok (.getfield 39, 3) := by decide +kernel
theorem dX8_tells_15 : decode cX8_tells 15 = .ok (.iconst 3, 1) := by decide +kernel
theorem dX8_tells_16 : decode cX8_tells 16 = .ok (.iload_n 1, 1) := by decide +kernel
theorem dX8_tells_17 : decode cX8_tells 17 = .ok (.imul, 1) := by decide +kernel
theorem dX8_tells_18 : decode cX8_tells 18 = .ok (.baload, 1) := by decide +kernel
theorem dX8_tells_19 : decode cX8_tells 19 = .ok (.ifCond .ne 7, 3) := by decide +kernel
theorem dX8_tells_22 : decode cX8_tells 22 = .ok (.iconst 1, 1) := by decide +kernel
theorem dX8_tells_23 : decode cX8_tells 23 = .ok (.goto 4, 3) := by decide +kernel
theorem dX8_tells_26 : decode cX8_tells 26 = .ok (.iconst 0, 1) := by decide +kernel
theorem dX8_tells_27 : decode cX8_tells 27 = .ok (.istore_n 2, 1) := by decide +kernel
theorem dX8_tells_28 : decode cX8_tells 28 = .ok (.iload_n 2, 1) := by decide +kernel
theorem dX8_tells_29 : decode cX8_tells 29 = .ok (.aload_n 0, 1) := by decide +kernel
theorem dX8_tells_30 : decode cX8_tells 30 = .ok (.getfield 7, 3) := by decide +kernel
theorem dX8_tells_33 : decode cX8_tells 33 = .ok (.iload_n 1, 1) := by decide +kernel
theorem dX8_tells_34 : decode cX8_tells 34 = .ok (.iaload, 1) := by decide +kernel
theorem dX8_tells_35 : decode cX8_tells 35 = .ok (.bipush 15, 2) := by decide +kernel
theorem dX8_tells_37 : decode cX8_tells 37 = .ok (.if_icmp .lt 20, 3) := by decide +kernel
theorem dX8_tells_40 : decode cX8_tells 40 = .ok (.aload_n 0, 1) := by decide +kernel
theorem dX8_tells_41 : decode cX8_tells 41 = .ok (.getfield 39, 3) := by decide +kernel
theorem dX8_tells_44 : decode cX8_tells 44 = .ok (.iconst 3, 1) := by decide +kernel
theorem dX8_tells_45 : decode cX8_tells 45 = .ok (.iload_n 1, 1) := by decide +kernel
theorem dX8_tells_46 : decode cX8_tells 46 = .ok (.imul, 1) := by decide +kernel
theorem dX8_tells_47 : decode cX8_tells 47 = .ok (.iconst 1, 1) := by decide +kernel
theorem dX8_tells_48 : decode cX8_tells 48 = .ok (.iadd, 1) := by decide +kernel
theorem dX8_tells_49 : decode cX8_tells 49 = .ok (.baload, 1) := by decide +kernel
theorem dX8_tells_50 : decode cX8_tells 50 = .ok (.ifCond .ne 7, 3) := by decide +kernel
theorem dX8_tells_53 : decode cX8_tells 53 = .ok (.iconst 1, 1) := by decide +kernel
theorem dX8_tells_54 : decode cX8_tells 54 = .ok (.goto 4, 3) := by decide +kernel
theorem dX8_tells_57 : decode cX8_tells 57 = .ok (.iconst 0, 1) := by decide +kernel
theorem dX8_tells_58 : decode cX8_tells 58 = .ok (.iadd, 1) := by decide +kernel
theorem dX8_tells_59 : decode cX8_tells 59 = .ok (.istore_n 2, 1) := by decide +kernel
theorem dX8_tells_60 : decode cX8_tells 60 = .ok (.iload_n 2, 1) := by decide +kernel
theorem dX8_tells_61 : decode cX8_tells 61 = .ok (.aload_n 0, 1) := by decide +kernel
theorem dX8_tells_62 : decode cX8_tells 62 = .ok (.getfield 7, 3) := by decide +kernel
theorem dX8_tells_65 : decode cX8_tells 65 = .ok (.iload_n 1, 1) := by decide +kernel
theorem dX8_tells_66 : decode cX8_tells 66 = .ok (.iaload, 1) := by decide +kernel
theorem dX8_tells_67 : decode cX8_tells 67 = .ok (.bipush 10, 2) := by decide +kernel
theorem dX8_tells_69 : decode cX8_tells 69 = .ok (.if_icmp .lt 28, 3) := by decide +kernel
theorem dX8_tells_72 : decode cX8_tells 72 = .ok (.aload_n 0, 1) := by decide +kernel
theorem dX8_tells_73 : decode cX8_tells 73 = .ok (.iload_n 1, 1) := by decide +kernel
theorem dX8_tells_74 : decode cX8_tells 74 = .ok (.invokevirtual 154, 3) := by decide +kernel
theorem dX8_tells_77 : decode cX8_tells 77 = .ok (.ifCond .le 20, 3) := by decide +kernel
theorem dX8_tells_80 : decode cX8_tells 80 = .ok (.aload_n 0, 1) := by decide +kernel
theorem dX8_tells_81 : decode cX8_tells 81 = .ok (.getfield 39, 3) := by decide +kernel
theorem dX8_tells_84 : decode cX8_tells 84 = .ok (.iconst 3, 1) := by decide +kernel
theorem dX8_tells_85 : decode cX8_tells 85 = .ok (.iload_n 1, 1) := by decide +kernel
theorem dX8_tells_86 : decode cX8_tells 86 = .ok (.imul, 1) := by decide +kernel
theorem dX8_tells_87 : decode cX8_tells 87 = .ok (.iconst 2, 1) := by decide +kernel
theorem dX8_tells_88 : decode cX8_tells 88 = .ok (.iadd, 1) := by decide +kernel
theorem dX8_tells_89 : decode cX8_tells 89 = .ok (.baload, 1) := by decide +kernel
theorem dX8_tells_90 : decode cX8_tells 90 = .ok (.ifCond .ne 7, 3) := by decide +kernel
theorem dX8_tells_93 : decode cX8_tells 93 = .ok (.iconst 1, 1) := by decide +kernel
theorem dX8_tells_94 : decode cX8_tells 94 = .ok (.goto 4, 3) := by decide +kernel
theorem dX8_tells_97 : decode cX8_tells 97 = .ok (.iconst 0, 1) := by decide +kernel
theorem dX8_tells_98 : decode cX8_tells 98 = .ok (.iadd, 1) := by decide +kernel
theorem dX8_tells_99 : decode cX8_tells 99 = .ok (.istore_n 2, 1) := by decide +kernel
theorem dX8_tells_100 : decode cX8_tells 100 = .ok (.iload_n 2, 1) := by decide +kernel
theorem dX8_tells_101 : decode cX8_tells 101 = .ok (.ireturn, 1) := by decide +kernel
set_option maxRecDepth 20000 in
theorem ggX8_detects_X8_tells : GoodIn wsX8_detects wsX8_tells := goodIn_r _ [9, 10, 11, 12, 13, 14, 15, 8, 16, 17, 18, 19, 20, 21, 22, 23, 24, 25, 26, 27, 28, 29, 30, 31, 32, 33, 34, 35, 36, 37, 38, 39, 40, 41, 42, 43, 44, 45, 46, 47, 48, 49, 50, 51, 52, 53, 54, 55, 56] (by decide +kernel) (by decide +kernel)
set_option maxRecDepth 20000 in
theorem gX8_detects_X8_tells : GoodIn wsX8_detects (wsV RX8 158 RX8 yX8_tells wsX8_tells) := goodIn_app (goodIn_of _ (by decide +kernel)) ggX8_detects_X8_tells
theorem dX8_detects_0 : decode cX8_detects 0 = .ok (.iconst 0, 1) := by decide +kernel
theorem dX8_detects_1 : decode cX8_detects 1 = .ok (.istore_n 1, 1) := by decide +kernel
theorem dX8_detects_2 : decode cX8_detects 2 = .ok (.iload_n 1, 1) := by decide +kernel
theorem dX8_detects_3 : decode cX8_detects 3 = .ok (.bipush 12, 2) := by decide +kernel
theorem dX8_detects_5 : decode cX8_detects 5 = .ok (.if_icmp .ge 46, 3) := by decide +kernel
theorem dX8_detects_8 : decode cX8_detects 8 = .ok (.aload_n 0, 1) := by decide +kernel
theorem dX8_detects_9 : decode cX8_detects 9 = .ok (.getfield 42, 3) := by decide +kernel
theorem dX8_detects_12 : decode cX8_detects 12 = .ok (.iconst (-1), 1) := by decide +kernel
theorem dX8_detects_13 : decode cX8_detects 13 = .ok (.if_icmp .ne 38, 3) := by decide +kernel
theorem dX8_detects_16 : decode cX8_detects 16 = .ok (.aload_n 0, 1) := by decide +kernel
theorem dX8_detects_17 : decode cX8_detects 17 = .ok (.iload_n 1, 1) := by decide +kernel
theorem dX8_detects_18 : decode cX8_detects 18 = .ok (.invokevirtual 158, 3) := by decide +kernel
theorem dX8_detects_21 : decode cX8_detects 21 = .ok (.iconst 2, 1) := by decide +kernel
theorem dX8_detects_22 : decode cX8_detects 22 = .ok (.if_icmp .lt 23, 3) := by decide +kernel
theorem dX8_detects_25 : decode cX8_detects 25 = .ok (.aload_n 0, 1) := by decide +kernel
theorem dX8_detects_26 : decode cX8_detects 26 = .ok (.iload_n 1, 1) := by decide +kernel
theorem dX8_detects_27 : decode cX8_detects 27 = .ok (.putfield 42, 3) := by decide +kernel
theorem dX8_detects_30 : decode cX8_detects 30 = .ok (.aload_n 0, 1) := by decide +kernel
theorem dX8_detects_31 : decode cX8_detects 31 = .ok (.aload_n 0, 1) := by decide +kernel
theorem dX8_detects_32 : decode cX8_detects 32 = .ok (.getfield 77, 3) := by decide +kernel
theorem dX8_detects_35 : decode cX8_detects 35 = .ok (.aload_n 0, 1) := by decide +kernel
theorem dX8_detects_36 : decode cX8_detects 36 = .ok (.getfield 48, 3) := by decide +kernel
theorem dX8_detects_39 : decode cX8_detects 39 = .ok (.iconst 0, 1) := by decide +kernel
theorem dX8_detects_40 : decode cX8_detects 40 = .ok (.iaload, 1) := by decide +kernel
theorem dX8_detects_41 : decode cX8_detects 41 = .ok (.iadd, 1) := by decide +kernel
theorem dX8_detects_42 : decode cX8_detects 42 = .ok (.putfield 161, 3) := by decide +kernel
theorem dX8_detects_45 : decode cX8_detects 45 = .ok (.iinc 1 1, 3) := by decide +kernel
theorem dX8_detects_48 : decode cX8_detects 48 = .ok (.goto (-46), 3) := by decide +kernel
theorem dX8_detects_51 : decode cX8_detects 51 = .ok (.return_, 1) := by decide +kernel
set_option maxRecDepth 20000 in
theorem ggX8_charts_X8_doesAct : GoodIn wsX8_charts wsX8_doesAct := goodIn_r _ [13, 14, 15, 16, 17, 18, 19, 20, 21, 22, 23, 24, 25, 26, 27, 28, 29, 30, 31, 32, 33, 34, 35, 36, 37, 38, 39, 40, 41, 42, 43, 44, 45, 46, 47, 48, 49, 50, 51, 52, 53, 54, 55, 56, 57, 58] (by decide +kernel) (by decide +kernel)
set_option maxRecDepth 20000 in
theorem gX8_charts_X8_doesAct : GoodIn wsX8_charts (wsV RX8 167 RX8 yX8_doesAct wsX8_doesAct) := goodIn_app (goodIn_of _ (by decide +kernel)) ggX8_charts_X8_doesAct
theorem dX8_charts_0 : decode cX8_charts 0 = .ok (.aload_n 0, 1) := by decide +kernel
theorem dX8_charts_1 : decode cX8_charts 1 = .ok (.getfield 42, 3) := by decide +kernel
theorem dX8_charts_4 : decode cX8_charts 4 = .ok (.iconst (-1), 1) := by decide +kernel
theorem dX8_charts_5 : decode cX8_charts 5 = .ok (.if_icmp .eq 97, 3) := by decide +kernel
theorem dX8_charts_8 : decode cX8_charts 8 = .ok (.aload_n 0, 1) := by decide +kernel
theorem dX8_charts_9 : decode cX8_charts 9 = .ok (.getfield 164, 3) := by decide +kernel
theorem dX8_charts_12 : decode cX8_charts 12 = .ok (.aload_n 0, 1) := by decide +kernel
theorem dX8_charts_13 : decode cX8_charts 13 = .ok (.getfield 117, 3) := by decide +kernel
theorem dX8_charts_16 : decode cX8_charts 16 = .ok (.if_icmp .ge 86, 3) := by decide +kernel
theorem dX8_charts_19 : decode cX8_charts 19 = .ok (.aload_n 0, 1) := by decide +kernel
theorem dX8_charts_20 : decode cX8_charts 20 = .ok (.getfield 161, 3) := by decide +kernel
theorem dX8_charts_23 : decode cX8_charts 23 = .ok (.aload_n 0, 1) := by decide +kernel
theorem dX8_charts_24 : decode cX8_charts 24 = .ok (.getfield 77, 3) := by decide +kernel
theorem dX8_charts_27 : decode cX8_charts 27 = .ok (.if_icmp .gt 75, 3) := by decide +kernel
theorem dX8_charts_30 : decode cX8_charts 30 = .ok (.aload_n 0, 1) := by decide +kernel
theorem dX8_charts_31 : decode cX8_charts 31 = .ok (.aload_n 0, 1) := by decide +kernel
theorem dX8_charts_32 : decode cX8_charts 32 = .ok (.getfield 45, 3) := by decide +kernel
theorem dX8_charts_35 : decode cX8_charts 35 = .ok (.aload_n 0, 1) := by decide +kernel
theorem dX8_charts_36 : decode cX8_charts 36 = .ok (.getfield 164, 3) := by decide +kernel
theorem dX8_charts_39 : decode cX8_charts 39 = .ok (.iaload, 1) := by decide +kernel
theorem dX8_charts_40 : decode cX8_charts 40 = .ok (.invokevirtual 167, 3) := by decide +kernel
theorem dX8_charts_43 : decode cX8_charts 43 = .ok (.aload_n 0, 1) := by decide +kernel
theorem dX8_charts_44 : decode cX8_charts 44 = .ok (.getfield 51, 3) := by decide +kernel
theorem dX8_charts_47 : decode cX8_charts 47 = .ok (.aload_n 0, 1) := by decide +kernel
theorem dX8_charts_48 : decode cX8_charts 48 = .ok (.getfield 164, 3) := by decide +kernel
theorem dX8_charts_51 : decode cX8_charts 51 = .ok (.aload_n 0, 1) := by decide +kernel
theorem dX8_charts_52 : decode cX8_charts 52 = .ok (.getfield 77, 3) := by decide +kernel
theorem dX8_charts_55 : decode cX8_charts 55 = .ok (.iastore, 1) := by decide +kernel
theorem dX8_charts_56 : decode cX8_charts 56 = .ok (.aload_n 0, 1) := by decide +kernel
theorem dX8_charts_57 : decode cX8_charts 57 = .ok (.dup, 1) := by decide +kernel
theorem dX8_charts_58 : decode cX8_charts 58 = .ok (.getfield 164, 3) := by decide +kernel
theorem dX8_charts_61 : decode cX8_charts 61 = .ok (.iconst 1, 1) := by decide +kernel
theorem dX8_charts_62 : decode cX8_charts 62 = .ok (.iadd, 1) := by decide +kernel
theorem dX8_charts_63 : decode cX8_charts 63 = .ok (.putfield 164, 3) := by decide +kernel
theorem dX8_charts_66 : decode cX8_charts 66 = .ok (.aload_n 0, 1) := by decide +kernel
theorem dX8_charts_67 : decode cX8_charts 67 = .ok (.dup, 1) := by decide +kernel
theorem dX8_charts_68 : decode cX8_charts 68 = .ok (.getfield 161, 3) := by decide +kernel
theorem dX8_charts_71 : decode cX8_charts 71 = .ok (.aload_n 0, 1) := by decide +kernel
theorem dX8_charts_72 : decode cX8_charts 72 = .ok (.getfield 164, 3) := by decide +kernel
theorem dX8_charts_75 : decode cX8_charts 75 = .ok (.aload_n 0, 1) := by decide +kernel
theorem dX8_charts_76 : decode cX8_charts 76 = .ok (.getfield 117, 3) := by decide +kernel
theorem dX8_charts_79 : decode cX8_charts 79 = .ok (.if_icmp .ge 15, 3) := by decide +kernel
theorem dX8_charts_82 : decode cX8_charts 82 = .ok (.aload_n 0, 1) := by decide +kernel
theorem dX8_charts_83 : decode cX8_charts 83 = .ok (.getfield 48, 3) := by decide +kernel
theorem dX8_charts_86 : decode cX8_charts 86 = .ok (.aload_n 0, 1) := by decide +kernel
theorem dX8_charts_87 : decode cX8_charts 87 = .ok (.getfield 164, 3) := by decide +kernel
theorem dX8_charts_90 : decode cX8_charts 90 = .ok (.iaload, 1) := by decide +kernel
theorem dX8_charts_91 : decode cX8_charts 91 = .ok (.goto 4, 3) := by decide +kernel
theorem dX8_charts_94 : decode cX8_charts 94 = .ok (.iconst 0, 1) := by decide +kernel
theorem dX8_charts_95 : decode cX8_charts 95 = .ok (.iadd, 1) := by decide +kernel
theorem dX8_charts_96 : decode cX8_charts 96 = .ok (.putfield 161, 3) := by decide +kernel
theorem dX8_charts_99 : decode cX8_charts 99 = .ok (.goto (-99), 3) := by decide +kernel
theorem dX8_charts_102 : decode cX8_charts 102 = .ok (.return_, 1) := by decide +kernel
set_option maxRecDepth 20000 in
theorem ggX8_aim_X8_isIn : GoodIn wsX8_aim wsX8_isIn := goodIn_r _ [5] (by decide +kernel) (by decide +kernel)
set_option maxRecDepth 20000 in
theorem gX8_aim_X8_isIn : GoodIn wsX8_aim (va_wsS RX8 113 yX8_isIn wsX8_isIn) := goodIn_app (goodIn_of _ (by decide +kernel)) ggX8_aim_X8_isIn
theorem dX8_aim_0 : decode cX8_aim 0 = .ok (.iload_n 1, 1) := by decide +kernel
theorem dX8_aim_1 : decode cX8_aim 1 = .ok (.bipush 6, 2) := by decide +kernel
theorem dX8_aim_3 : decode cX8_aim 3 = .ok (.if_icmp .ge 7, 3) := by decide +kernel
theorem dX8_aim_6 : decode cX8_aim 6 = .ok (.iconst (-1), 1) := by decide +kernel
theorem dX8_aim_7 : decode cX8_aim 7 = .ok (.goto 5, 3) := by decide +kernel
theorem dX8_aim_10 : decode cX8_aim 10 = .ok (.bipush 12, 2) := by decide +kernel
theorem dX8_aim_12 : decode cX8_aim 12 = .ok (.istore_n 2, 1) := by decide +kernel
theorem dX8_aim_13 : decode cX8_aim 13 = .ok (.iload_n 1, 1) := by decide +kernel
theorem dX8_aim_14 : decode cX8_aim 14 = .ok (.bipush 6, 2) := by decide +kernel
theorem dX8_aim_16 : decode cX8_aim 16 = .ok (.if_icmp .ge 9, 3) := by decide +kernel
theorem dX8_aim_19 : decode cX8_aim 19 = .ok (.iload_n 1, 1) := by decide +kernel
theorem dX8_aim_20 : decode cX8_aim 20 = .ok (.iconst 1, 1) := by decide +kernel
theorem dX8_aim_21 : decode cX8_aim 21 = .ok (.iadd, 1) := by decide +kernel
theorem dX8_aim_22 : decode cX8_aim 22 = .ok (.goto 7, 3) := by decide +kernel
theorem dX8_aim_25 : decode cX8_aim 25 = .ok (.bipush 12, 2) := by decide +kernel
theorem dX8_aim_27 : decode cX8_aim 27 = .ok (.iload_n 1, 1) := by decide +kernel
theorem dX8_aim_28 : decode cX8_aim 28 = .ok (.isub, 1) := by decide +kernel
theorem dX8_aim_29 : decode cX8_aim 29 = .ok (.istore_n 3, 1) := by decide +kernel
theorem dX8_aim_30 : decode cX8_aim 30 = .ok (.iconst 0, 1) := by decide +kernel
theorem dX8_aim_31 : decode cX8_aim 31 = .ok (.istore 4, 2) := by decide +kernel
theorem dX8_aim_33 : decode cX8_aim 33 = .ok (.iconst 0, 1) := by decide +kernel
theorem dX8_aim_34 : decode cX8_aim 34 = .ok (.istore 5, 2) := by decide +kernel
theorem dX8_aim_36 : decode cX8_aim 36 = .ok (.iload 5, 2) := by decide +kernel
theorem dX8_aim_38 : decode cX8_aim 38 = .ok (.bipush 12, 2) := by decide +kernel
theorem dX8_aim_40 : decode cX8_aim 40 = .ok (.if_icmp .ge 66, 3) := by decide +kernel
theorem dX8_aim_43 : decode cX8_aim 43 = .ok (.iload 5, 2) := by decide +kernel
theorem dX8_aim_45 : decode cX8_aim 45 = .ok (.iload_n 1, 1) := by decide +kernel
theorem dX8_aim_46 : decode cX8_aim 46 = .ok (.if_icmp .ge 10, 3) := by decide +kernel
theorem dX8_aim_49 : decode cX8_aim 49 = .ok (.iload_n 1, 1) := by decide +kernel
theorem dX8_aim_50 : decode cX8_aim 50 = .ok (.iload 5, 2) := by decide +kernel
theorem dX8_aim_52 : decode cX8_aim 52 = .ok (.isub, 1) := by decide +kernel
theorem dX8_aim_53 : decode cX8_aim 53 = .ok (.goto 7, 3) := by decide +kernel
theorem dX8_aim_56 : decode cX8_aim 56 = .ok (.iload 5, 2) := by decide +kernel
theorem dX8_aim_58 : decode cX8_aim 58 = .ok (.iload_n 1, 1) := by decide +kernel
theorem dX8_aim_59 : decode cX8_aim 59 = .ok (.isub, 1) := by decide +kernel
theorem dX8_aim_60 : decode cX8_aim 60 = .ok (.istore 6, 2) := by decide +kernel
theorem dX8_aim_62 : decode cX8_aim 62 = .ok (.iload 5, 2) := by decide +kernel
theorem dX8_aim_64 : decode cX8_aim 64 = .ok (.aload_n 0, 1) := by decide +kernel
theorem dX8_aim_65 : decode cX8_aim 65 = .ok (.getfield 87, 3) := by decide +kernel
theorem dX8_aim_68 : decode cX8_aim 68 = .ok (.invokestatic 113, 3) := by decide +kernel
theorem dX8_aim_71 : decode cX8_aim 71 = .ok (.ifCond .eq 29, 3) := by decide +kernel
theorem dX8_aim_74 : decode cX8_aim 74 = .ok (.iload 6, 2) := by decide +kernel
theorem dX8_aim_76 : decode cX8_aim 76 = .ok (.iload_n 3, 1) := by decide +kernel
theorem dX8_aim_77 : decode cX8_aim 77 = .ok (.if_icmp .lt 14, 3) := by decide +kernel
theorem dX8_aim_80 : decode cX8_aim 80 = .ok (.iload 6, 2) := by decide +kernel
theorem dX8_aim_82 : decode cX8_aim 82 = .ok (.iload_n 3, 1) := by decide +kernel
theorem dX8_aim_83 : decode cX8_aim 83 = .ok (.if_icmp .ne 17, 3) := by decide +kernel
theorem dX8_aim_86 : decode cX8_aim 86 = .ok (.iload 4, 2) := by decide +kernel
theorem dX8_aim_88 : decode cX8_aim 88 = .ok (.ifCond .ne 12, 3) := by decide +kernel
theorem dX8_aim_91 : decode cX8_aim 91 = .ok (.iload 5, 2) := by decide +kernel
theorem dX8_aim_93 : decode cX8_aim 93 = .ok (.istore_n 2, 1) := by decide +kernel
theorem dX8_aim_94 : decode cX8_aim 94 = .ok (.iload 6, 2) := by decide +kernel
theorem dX8_aim_96 : decode cX8_aim 96 = .ok (.istore_n 3, 1) := by decide +kernel
theorem dX8_aim_97 : decode cX8_aim 97 = .ok (.iconst 1, 1) := by decide +kernel
theorem dX8_aim_98 : decode cX8_aim 98 = .ok (.istore 4, 2) := by decide +kernel
theorem dX8_aim_100 : decode cX8_aim 100 = .ok (.iinc 5 1, 3) := by decide +kernel
theorem dX8_aim_103 : decode cX8_aim 103 = .ok (.goto (-67), 3) := by decide +kernel
theorem dX8_aim_106 : decode cX8_aim 106 = .ok (.iload_n 2, 1) := by decide +kernel
theorem dX8_aim_107 : decode cX8_aim 107 = .ok (.ireturn, 1) := by decide +kernel
theorem dX8_ends_0 : decode cX8_ends 0 = .ok (.aload_n 0, 1) := by decide +kernel
theorem dX8_ends_1 : decode cX8_ends 1 = .ok (.getfield 54, 3) := by decide +kernel
theorem dX8_ends_4 : decode cX8_ends 4 = .ok (.iload_n 1, 1) := by decide +kernel
theorem dX8_ends_5 : decode cX8_ends 5 = .ok (.iload_n 2, 1) := by decide +kernel
theorem dX8_ends_6 : decode cX8_ends 6 = .ok (.iastore, 1) := by decide +kernel
theorem dX8_ends_7 : decode cX8_ends 7 = .ok (.aload_n 0, 1) := by decide +kernel
theorem dX8_ends_8 : decode cX8_ends 8 = .ok (.getfield 63, 3) := by decide +kernel
theorem dX8_ends_11 : decode cX8_ends 11 = .ok (.iload_n 1, 1) := by decide +kernel
theorem dX8_ends_12 : decode cX8_ends 12 = .ok (.aload_n 0, 1) := by decide +kernel
theorem dX8_ends_13 : decode cX8_ends 13 = .ok (.getfield 77, 3) := by decide +kernel
theorem dX8_ends_16 : decode cX8_ends 16 = .ok (.iastore, 1) := by decide +kernel
theorem dX8_ends_17 : decode cX8_ends 17 = .ok (.return_, 1) := by decide +kernel
set_option maxRecDepth 20000 in
theorem ggX8_walks_X8_aim : GoodIn wsX8_walks wsX8_aim := goodIn_r _ [8, 9, 10, 11, 7, 12, 25, 26, 27, 28, 29, 30, 31, 32, 33, 34, 35, 36, 37, 38, 39, 40, 41, 42, 43, 44, 45, 46, 47, 48, 49, 50, 51, 52, 53, 54, 55, 56, 57, 58, 59, 60, 61] (by decide +kernel) (by decide +kernel)
set_option maxRecDepth 20000 in
theorem gX8_walks_X8_aim : GoodIn wsX8_walks (wsV RX8 171 RX8 yX8_aim wsX8_aim) := goodIn_app (goodIn_of _ (by decide +kernel)) ggX8_walks_X8_aim
set_option maxRecDepth 20000 in
theorem ggX8_walks_X8_isSegment : GoodIn wsX8_walks wsX8_isSegment := goodIn_r _ [15, 16, 17, 7, 18] (by decide +kernel) (by decide +kernel)
set_option maxRecDepth 20000 in
theorem gX8_walks_X8_isSegment : GoodIn wsX8_walks (va_wsS RX8 73 yX8_isSegment wsX8_isSegment) := goodIn_app (goodIn_of _ (by decide +kernel)) ggX8_walks_X8_isSegment
set_option maxRecDepth 20000 in
theorem ggX8_walks_X8_ends : GoodIn wsX8_walks wsX8_ends := goodIn_r _ [22, 23, 24, 3, 25, 26, 27, 28, 29, 30, 31, 32, 33, 34, 35, 36, 37, 38, 39, 40, 41, 42, 43, 44, 45, 46, 47, 48, 49, 50, 51, 52, 53, 54, 55, 56, 57, 58, 59, 60, 61] (by decide +kernel) (by decide +kernel)
set_option maxRecDepth 20000 in
theorem gX8_walks_X8_ends : GoodIn wsX8_walks (wsV RX8 174 RX8 yX8_ends wsX8_ends) := goodIn_app (goodIn_of _ (by decide +kernel)) ggX8_walks_X8_ends
theorem dX8_walks_0 : decode cX8_walks 0 = .ok (.aload_n 0, 1) := by decide +kernel
theorem dX8_walks_1 : decode cX8_walks 1 = .ok (.getfield 57, 3) := by decide +kernel
theorem dX8_walks_4 : decode cX8_walks 4 = .ok (.iload_n 1, 1) := by decide +kernel
theorem dX8_walks_5 : decode cX8_walks 5 = .ok (.iaload, 1) := by decide +kernel
theorem dX8_walks_6 : decode cX8_walks 6 = .ok (.istore_n 2, 1) := by decide +kernel
theorem dX8_walks_7 : decode cX8_walks 7 = .ok (.aload_n 0, 1) := by decide +kernel
theorem dX8_walks_8 : decode cX8_walks 8 = .ok (.getfield 7, 3) := by decide +kernel
theorem dX8_walks_11 : decode cX8_walks 11 = .ok (.iload_n 2, 1) := by decide +kernel
theorem dX8_walks_12 : decode cX8_walks 12 = .ok (.iaload, 1) := by decide +kernel
theorem dX8_walks_13 : decode cX8_walks 13 = .ok (.bipush 40, 2) := by decide +kernel
theorem dX8_walks_15 : decode cX8_walks 15 = .ok (.if_icmp .lt 14, 3) := by decide +kernel
theorem dX8_walks_18 : decode cX8_walks 18 = .ok (.aload_n 0, 1) := by decide +kernel
theorem dX8_walks_19 : decode cX8_walks 19 = .ok (.getfield 77, 3) := by decide +kernel
theorem dX8_walks_22 : decode cX8_walks 22 = .ok (.iconst 2, 1) := by decide +kernel
theorem dX8_walks_23 : decode cX8_walks 23 = .ok (.irem, 1) := by decide +kernel
theorem dX8_walks_24 : decode cX8_walks 24 = .ok (.iconst 1, 1) := by decide +kernel
theorem dX8_walks_25 : decode cX8_walks 25 = .ok (.if_icmp .ne 4, 3) := by decide +kernel
theorem dX8_walks_28 : decode cX8_walks 28 = .ok (.return_, 1) := by decide +kernel
theorem dX8_walks_29 : decode cX8_walks 29 = .ok (.aload_n 0, 1) := by decide +kernel
theorem dX8_walks_30 : decode cX8_walks 30 = .ok (.iload_n 2, 1) := by decide +kernel
theorem dX8_walks_31 : decode cX8_walks 31 = .ok (.invokevirtual 171, 3) := by decide +kernel
theorem dX8_walks_34 : decode cX8_walks 34 = .ok (.istore_n 3, 1) := by decide +kernel
theorem dX8_walks_35 : decode cX8_walks 35 = .ok (.iload_n 3, 1) := by decide +kernel
theorem dX8_walks_36 : decode cX8_walks 36 = .ok (.iload_n 2, 1) := by decide +kernel
theorem dX8_walks_37 : decode cX8_walks 37 = .ok (.if_icmp .ge 9, 3) := by decide +kernel
theorem dX8_walks_40 : decode cX8_walks 40 = .ok (.iload_n 2, 1) := by decide +kernel
theorem dX8_walks_41 : decode cX8_walks 41 = .ok (.iconst 1, 1) := by decide +kernel
theorem dX8_walks_42 : decode cX8_walks 42 = .ok (.isub, 1) := by decide +kernel
theorem dX8_walks_43 : decode cX8_walks 43 = .ok (.goto 6, 3) := by decide +kernel
theorem dX8_walks_46 : decode cX8_walks 46 = .ok (.iload_n 2, 1) := by decide +kernel
theorem dX8_walks_47 : decode cX8_walks 47 = .ok (.iconst 1, 1) := by decide +kernel
theorem dX8_walks_48 : decode cX8_walks 48 = .ok (.iadd, 1) := by decide +kernel
theorem dX8_walks_49 : decode cX8_walks 49 = .ok (.istore 4, 2) := by decide +kernel
theorem dX8_walks_51 : decode cX8_walks 51 = .ok (.iload_n 3, 1) := by decide +kernel
theorem dX8_walks_52 : decode cX8_walks 52 = .ok (.iload_n 2, 1) := by decide +kernel
theorem dX8_walks_53 : decode cX8_walks 53 = .ok (.if_icmp .eq 11, 3) := by decide +kernel
theorem dX8_walks_56 : decode cX8_walks 56 = .ok (.iload 4, 2) := by decide +kernel
theorem dX8_walks_58 : decode cX8_walks 58 = .ok (.invokestatic 73, 3) := by decide +kernel
theorem dX8_walks_61 : decode cX8_walks 61 = .ok (.ifCond .ne 12, 3) := by decide +kernel
theorem dX8_walks_64 : decode cX8_walks 64 = .ok (.aload_n 0, 1) := by decide +kernel
theorem dX8_walks_65 : decode cX8_walks 65 = .ok (.iload_n 1, 1) := by decide +kernel
theorem dX8_walks_66 : decode cX8_walks 66 = .ok (.iconst 3, 1) := by decide +kernel
theorem dX8_walks_67 : decode cX8_walks 67 = .ok (.invokevirtual 174, 3) := by decide +kernel
theorem dX8_walks_70 : decode cX8_walks 70 = .ok (.goto 11, 3) := by decide +kernel
theorem dX8_walks_73 : decode cX8_walks 73 = .ok (.aload_n 0, 1) := by decide +kernel
theorem dX8_walks_74 : decode cX8_walks 74 = .ok (.getfield 57, 3) := by decide +kernel
theorem dX8_walks_77 : decode cX8_walks 77 = .ok (.iload_n 1, 1) := by decide +kernel
theorem dX8_walks_78 : decode cX8_walks 78 = .ok (.iload 4, 2) := by decide +kernel
theorem dX8_walks_80 : decode cX8_walks 80 = .ok (.iastore, 1) := by decide +kernel
theorem dX8_walks_81 : decode cX8_walks 81 = .ok (.return_, 1) := by decide +kernel
set_option maxRecDepth 20000 in
theorem ggX8_lives_X8_ends : GoodIn wsX8_lives wsX8_ends := goodIn_r _ [11, 3, 12, 6, 31, 32, 33, 34, 35, 36, 37, 38, 39, 40, 41, 42, 43, 44, 45, 46, 47, 48, 49, 50, 51, 52, 53, 54, 55, 56, 57, 58, 59, 60, 61, 62, 63, 64, 65, 66, 67] (by decide +kernel) (by decide +kernel)
set_option maxRecDepth 20000 in
theorem gX8_lives_X8_ends : GoodIn wsX8_lives (wsV RX8 174 RX8 yX8_ends wsX8_ends) := goodIn_app (goodIn_of _ (by decide +kernel)) ggX8_lives_X8_ends
set_option maxRecDepth 20000 in
theorem ggX8_lives_X8_walks : GoodIn wsX8_lives wsX8_walks := goodIn_r _ [16, 2, 1, 6, 17, 18, 19, 10, 20, 21, 22, 23, 24, 25, 26, 27, 28, 29, 30, 7, 8, 9, 11, 3, 12, 31, 32, 33, 34, 35, 36, 37, 38, 39, 40, 41, 42, 43, 44, 45, 46, 47, 48, 49, 50, 51, 52, 53, 54, 55, 56, 57, 58, 59, 60, 61, 62, 63, 64, 65, 66, 67] (by decide +kernel) (by decide +kernel)
set_option maxRecDepth 20000 in
theorem gX8_lives_X8_walks : GoodIn wsX8_lives (wsV RX8 177 RX8 yX8_walks wsX8_walks) := goodIn_app (goodIn_of _ (by decide +kernel)) ggX8_lives_X8_walks
theorem dX8_lives_0 : decode cX8_lives 0 = .ok (.aload_n 0, 1) := by decide +kernel
theorem dX8_lives_1 : decode cX8_lives 1 = .ok (.getfield 7, 3) := by decide +kernel
theorem dX8_lives_4 : decode cX8_lives 4 = .ok (.aload_n 0, 1) := by decide +kernel
theorem dX8_lives_5 : decode cX8_lives 5 = .ok (.getfield 57, 3) := by decide +kernel
theorem dX8_lives_8 : decode cX8_lives 8 = .ok (.iload_n 1, 1) := by decide +kernel
theorem dX8_lives_9 : decode cX8_lives 9 = .ok (.iaload, 1) := by decide +kernel
theorem dX8_lives_10 : decode cX8_lives 10 = .ok (.iaload, 1) := by decide +kernel
theorem dX8_lives_11 : decode cX8_lives 11 = .ok (.istore_n 2, 1) := by decide +kernel
theorem dX8_lives_12 : decode cX8_lives 12 = .ok (.iload_n 2, 1) := by decide +kernel
theorem dX8_lives_13 : decode cX8_lives 13 = .ok (.bipush 100, 2) := by decide +kernel
theorem dX8_lives_15 : decode cX8_lives 15 = .ok (.if_icmp .lt 10, 3) := by decide +kernel
theorem dX8_lives_18 : decode cX8_lives 18 = .ok (.aload_n 0, 1) := by decide +kernel
theorem dX8_lives_19 : decode cX8_lives 19 = .ok (.iload_n 1, 1) := by decide +kernel
theorem dX8_lives_20 : decode cX8_lives 20 = .ok (.iconst 4, 1) := by decide +kernel
theorem dX8_lives_21 : decode cX8_lives 21 = .ok (.invokevirtual 174, 3) := by decide +kernel
theorem dX8_lives_24 : decode cX8_lives 24 = .ok (.return_, 1) := by decide +kernel
theorem dX8_lives_25 : decode cX8_lives 25 = .ok (.aload_n 0, 1) := by decide +kernel
theorem dX8_lives_26 : decode cX8_lives 26 = .ok (.getfield 54, 3) := by decide +kernel
theorem dX8_lives_29 : decode cX8_lives 29 = .ok (.iload_n 1, 1) := by decide +kernel
theorem dX8_lives_30 : decode cX8_lives 30 = .ok (.iaload, 1) := by decide +kernel
theorem dX8_lives_31 : decode cX8_lives 31 = .ok (.ifCond .ne 50, 3) := by decide +kernel
theorem dX8_lives_34 : decode cX8_lives 34 = .ok (.aload_n 0, 1) := by decide +kernel
theorem dX8_lives_35 : decode cX8_lives 35 = .ok (.getfield 123, 3) := by decide +kernel
theorem dX8_lives_38 : decode cX8_lives 38 = .ok (.ifCond .ne 9, 3) := by decide +kernel
theorem dX8_lives_41 : decode cX8_lives 41 = .ok (.iload_n 2, 1) := by decide +kernel
theorem dX8_lives_42 : decode cX8_lives 42 = .ok (.bipush 10, 2) := by decide +kernel
theorem dX8_lives_44 : decode cX8_lives 44 = .ok (.if_icmp .lt 7, 3) := by decide +kernel
theorem dX8_lives_47 : decode cX8_lives 47 = .ok (.iconst 1, 1) := by decide +kernel
theorem dX8_lives_48 : decode cX8_lives 48 = .ok (.goto 4, 3) := by decide +kernel
theorem dX8_lives_51 : decode cX8_lives 51 = .ok (.iconst 0, 1) := by decide +kernel
theorem dX8_lives_52 : decode cX8_lives 52 = .ok (.istore_n 3, 1) := by decide +kernel
theorem dX8_lives_53 : decode cX8_lives 53 = .ok (.aload_n 0, 1) := by decide +kernel
theorem dX8_lives_54 : decode cX8_lives 54 = .ok (.getfield 54, 3) := by decide +kernel
theorem dX8_lives_57 : decode cX8_lives 57 = .ok (.iload_n 1, 1) := by decide +kernel
theorem dX8_lives_58 : decode cX8_lives 58 = .ok (.iload_n 3, 1) := by decide +kernel
theorem dX8_lives_59 : decode cX8_lives 59 = .ok (.ifCond .eq 7, 3) := by decide +kernel
theorem dX8_lives_62 : decode cX8_lives 62 = .ok (.iconst 1, 1) := by decide +kernel
theorem dX8_lives_63 : decode cX8_lives 63 = .ok (.goto 4, 3) := by decide +kernel
theorem dX8_lives_66 : decode cX8_lives 66 = .ok (.iconst 0, 1) := by decide +kernel
theorem dX8_lives_67 : decode cX8_lives 67 = .ok (.iastore, 1) := by decide +kernel
theorem dX8_lives_68 : decode cX8_lives 68 = .ok (.aload_n 0, 1) := by decide +kernel
theorem dX8_lives_69 : decode cX8_lives 69 = .ok (.getfield 60, 3) := by decide +kernel
theorem dX8_lives_72 : decode cX8_lives 72 = .ok (.iload_n 1, 1) := by decide +kernel
theorem dX8_lives_73 : decode cX8_lives 73 = .ok (.aload_n 0, 1) := by decide +kernel
theorem dX8_lives_74 : decode cX8_lives 74 = .ok (.getfield 77, 3) := by decide +kernel
theorem dX8_lives_77 : decode cX8_lives 77 = .ok (.iastore, 1) := by decide +kernel
theorem dX8_lives_78 : decode cX8_lives 78 = .ok (.goto 39, 3) := by decide +kernel
theorem dX8_lives_81 : decode cX8_lives 81 = .ok (.aload_n 0, 1) := by decide +kernel
theorem dX8_lives_82 : decode cX8_lives 82 = .ok (.getfield 54, 3) := by decide +kernel
theorem dX8_lives_85 : decode cX8_lives 85 = .ok (.iload_n 1, 1) := by decide +kernel
theorem dX8_lives_86 : decode cX8_lives 86 = .ok (.iaload, 1) := by decide +kernel
theorem dX8_lives_87 : decode cX8_lives 87 = .ok (.iconst 1, 1) := by decide +kernel
theorem dX8_lives_88 : decode cX8_lives 88 = .ok (.if_icmp .ne 29, 3) := by decide +kernel
theorem dX8_lives_91 : decode cX8_lives 91 = .ok (.aload_n 0, 1) := by decide +kernel
theorem dX8_lives_92 : decode cX8_lives 92 = .ok (.getfield 54, 3) := by decide +kernel
theorem dX8_lives_95 : decode cX8_lives 95 = .ok (.iload_n 1, 1) := by decide +kernel
theorem dX8_lives_96 : decode cX8_lives 96 = .ok (.aload_n 0, 1) := by decide +kernel
theorem dX8_lives_97 : decode cX8_lives 97 = .ok (.getfield 77, 3) := by decide +kernel
theorem dX8_lives_100 : decode cX8_lives 100 = .ok (.aload_n 0, 1) := by decide +kernel
theorem dX8_lives_101 : decode cX8_lives 101 = .ok (.getfield 60, 3) := by decide +kernel
theorem dX8_lives_104 : decode cX8_lives 104 = .ok (.iload_n 1, 1) := by decide +kernel
theorem dX8_lives_105 : decode cX8_lives 105 = .ok (.iaload, 1) := by decide +kernel
theorem dX8_lives_106 : decode cX8_lives 106 = .ok (.iconst 3, 1) := by decide +kernel
theorem dX8_lives_107 : decode cX8_lives 107 = .ok (.iadd, 1) := by decide +kernel
theorem dX8_lives_108 : decode cX8_lives 108 = .ok (.if_icmp .lt 7, 3) := by decide +kernel
theorem dX8_lives_111 : decode cX8_lives 111 = .ok (.iconst 2, 1) := by decide +kernel
theorem dX8_lives_112 : decode cX8_lives 112 = .ok (.goto 4, 3) := by decide +kernel
theorem dX8_lives_115 : decode cX8_lives 115 = .ok (.iconst 1, 1) := by decide +kernel
theorem dX8_lives_116 : decode cX8_lives 116 = .ok (.iastore, 1) := by decide +kernel
theorem dX8_lives_117 : decode cX8_lives 117 = .ok (.aload_n 0, 1) := by decide +kernel
theorem dX8_lives_118 : decode cX8_lives 118 = .ok (.getfield 54, 3) := by decide +kernel
theorem dX8_lives_121 : decode cX8_lives 121 = .ok (.iload_n 1, 1) := by decide +kernel
theorem dX8_lives_122 : decode cX8_lives 122 = .ok (.iaload, 1) := by decide +kernel
theorem dX8_lives_123 : decode cX8_lives 123 = .ok (.iconst 2, 1) := by decide +kernel
theorem dX8_lives_124 : decode cX8_lives 124 = .ok (.if_icmp .ne 8, 3) := by decide +kernel
theorem dX8_lives_127 : decode cX8_lives 127 = .ok (.aload_n 0, 1) := by decide +kernel
theorem dX8_lives_128 : decode cX8_lives 128 = .ok (.iload_n 1, 1) := by decide +kernel
theorem dX8_lives_129 : decode cX8_lives 129 = .ok (.invokevirtual 177, 3) := by decide +kernel
theorem dX8_lives_132 : decode cX8_lives 132 = .ok (.return_, 1) := by decide +kernel
set_option maxRecDepth 20000 in
theorem ggX8_doesStep_X8_fans : GoodIn wsX8_doesStep wsX8_fans := goodIn_r _ [8, 9, 10, 11, 12, 13, 14, 7, 15, 16, 113, 114, 115, 116, 117, 118, 119, 120, 121, 122, 123, 124, 125, 126, 127, 128, 129, 130, 131, 132, 133, 134, 135, 136, 137, 138, 139, 140, 141, 142, 143, 144, 145, 146, 147, 148, 149] (by decide +kernel) (by decide +kernel)
set_option maxRecDepth 20000 in
theorem gX8_doesStep_X8_fans : GoodIn wsX8_doesStep (wsV RX8 180 RX8 yX8_fans wsX8_fans) := goodIn_app (goodIn_of _ (by decide +kernel)) ggX8_doesStep_X8_fans
set_option maxRecDepth 20000 in
theorem ggX8_doesStep_X8_flows : GoodIn wsX8_doesStep wsX8_flows := goodIn_r _ [20, 11, 21, 22, 23, 24, 113, 114, 115, 116, 117, 118, 119, 120, 121, 122, 123, 124, 125, 126, 127, 128, 129, 130, 131, 132, 133, 134, 135, 136, 137, 138, 139, 140, 141, 142, 143, 144, 145, 146, 147, 148, 149] (by decide +kernel) (by decide +kernel)
set_option maxRecDepth 20000 in
theorem gX8_doesStep_X8_flows : GoodIn wsX8_doesStep (wsV RX8 183 RX8 yX8_flows wsX8_flows) := goodIn_app (goodIn_of _ (by decide +kernel)) ggX8_doesStep_X8_flows
set_option maxRecDepth 20000 in
theorem ggX8_doesStep_X8_burns : GoodIn wsX8_doesStep wsX8_burns := goodIn_r _ [28, 29, 30, 31, 32, 33, 34, 35, 36, 12, 13, 14, 7, 15, 16, 113, 114, 115, 116, 117, 118, 119, 120, 121, 122, 123, 124, 125, 126, 127, 128, 129, 130, 131, 132, 133, 134, 135, 136, 137, 138, 139, 140, 141, 142, 143, 144, 145, 146, 147, 148, 149] (by decide +kernel) (by decide +kernel)
set_option maxRecDepth 20000 in
theorem gX8_doesStep_X8_burns : GoodIn wsX8_doesStep (wsV RX8 186 RX8 yX8_burns wsX8_burns) := goodIn_app (goodIn_of _ (by decide +kernel)) ggX8_doesStep_X8_burns
set_option maxRecDepth 20000 in
theorem ggX8_doesStep_X8_moves : GoodIn wsX8_doesStep wsX8_moves := goodIn_r _ [40, 23, 34, 29, 41, 42, 43, 44, 35, 45, 46, 47, 7, 48, 49, 50, 51, 52, 53, 54, 55, 56, 57, 58, 113, 114, 115, 116, 117, 118, 119, 120, 121, 122, 123, 124, 125, 126, 127, 128, 129, 130, 131, 132, 133, 134, 135, 136, 137, 138, 139, 140, 141, 142, 143, 144, 145, 146, 147, 148, 149] (by decide +kernel) (by decide +kernel)
set_option maxRecDepth 20000 in
theorem gX8_doesStep_X8_moves : GoodIn wsX8_doesStep (wsV RX8 189 RX8 yX8_moves wsX8_moves) := goodIn_app (goodIn_of _ (by decide +kernel)) ggX8_doesStep_X8_moves
set_option maxRecDepth 20000 in
theorem ggX8_doesStep_X8_detects : GoodIn wsX8_doesStep wsX8_detects := goodIn_r _ [62, 63, 3, 64, 65, 66, 67, 68, 7, 69, 35, 70, 34, 71, 72, 73, 74, 1, 2, 75, 113, 114, 115, 116, 117, 118, 119, 120, 121, 122, 123, 124, 125, 126, 127, 128, 129, 130, 131, 132, 133, 134, 135, 136, 137, 138, 139, 140, 141, 142, 143, 144, 145, 146, 147, 148, 149] (by decide +kernel) (by decide +kernel)
set_option maxRecDepth 20000 in
theorem gX8_doesStep_X8_detects : GoodIn wsX8_doesStep (wsV RX8 192 RX8 yX8_detects wsX8_detects) := goodIn_app (goodIn_of _ (by decide +kernel)) ggX8_doesStep_X8_detects
set_option maxRecDepth 20000 in
theorem ggX8_doesStep_X8_charts : GoodIn wsX8_doesStep wsX8_charts := goodIn_r _ [79, 63, 80, 81, 65, 3, 82, 83, 64, 84, 85, 86, 7, 87, 22, 88, 89, 90, 91, 42, 32, 9, 113, 114, 115, 116, 117, 118, 119, 120, 121, 122, 123, 124, 125, 126, 127, 128, 129, 130, 131, 132, 133, 134, 135, 136, 137, 138, 139, 140, 141, 142, 143, 144, 145, 146, 147, 148, 149] (by decide +kernel) (by decide +kernel)
set_option maxRecDepth 20000 in
theorem gX8_doesStep_X8_charts : GoodIn wsX8_doesStep (wsV RX8 195 RX8 yX8_charts wsX8_charts) := goodIn_app (goodIn_of _ (by decide +kernel)) ggX8_doesStep_X8_charts
set_option maxRecDepth 20000 in
theorem ggX8_doesStep_X8_lives : GoodIn wsX8_doesStep wsX8_lives := goodIn_r _ [95, 34, 75, 2, 88, 96, 3, 97, 98, 99, 7, 100, 101, 102, 103, 104, 105, 106, 107, 108, 109, 89, 110, 111, 112, 53, 54, 55, 56, 57, 58, 113, 114, 115, 116, 117, 118, 119, 120, 121, 122, 123, 124, 125, 126, 127, 128, 129, 130, 131, 132, 133, 134, 135, 136, 137, 138, 139, 140, 141, 142, 143, 144, 145, 146, 147, 148, 149] (by decide +kernel) (by decide +kernel)
set_option maxRecDepth 20000 in
theorem gX8_doesStep_X8_lives : GoodIn wsX8_doesStep (wsV RX8 198 RX8 yX8_lives wsX8_lives) := goodIn_app (goodIn_of _ (by decide +kernel)) ggX8_doesStep_X8_lives
theorem dX8_doesStep_0 : decode cX8_doesStep 0 = .ok (.aload_n 0, 1) := by decide +kernel
theorem dX8_doesStep_1 : decode cX8_doesStep 1 = .ok (.invokevirtual 180, 3) := by decide +kernel
theorem dX8_doesStep_4 : decode cX8_doesStep 4 = .ok (.aload_n 0, 1) := by decide +kernel
theorem dX8_doesStep_5 : decode cX8_doesStep 5 = .ok (.invokevirtual 183, 3) := by decide +kernel
theorem dX8_doesStep_8 : decode cX8_doesStep 8 = .ok (.aload_n 0, 1) := by decide +kernel
theorem dX8_doesStep_9 : decode cX8_doesStep 9 = .ok (.invokevirtual 186, 3) := by decide +kernel
theorem dX8_doesStep_12 : decode cX8_doesStep 12 = .ok (.aload_n 0, 1) := by decide +kernel
theorem dX8_doesStep_13 : decode cX8_doesStep 13 = .ok (.invokevirtual 189, 3) := by decide +kernel
theorem dX8_doesStep_16 : decode cX8_doesStep 16 = .ok (.aload_n 0, 1) := by decide +kernel
theorem dX8_doesStep_17 : decode cX8_doesStep 17 = .ok (.invokevirtual 192, 3) := by decide +kernel
theorem dX8_doesStep_20 : decode cX8_doesStep 20 = .ok (.aload_n 0, 1) := by decide +kernel
theorem dX8_doesStep_21 : decode cX8_doesStep 21 = .ok (.invokevirtual 195, 3) := by decide +kernel
theorem dX8_doesStep_24 : decode cX8_doesStep 24 = .ok (.iconst 0, 1) := by decide +kernel
theorem dX8_doesStep_25 : decode cX8_doesStep 25 = .ok (.istore_n 1, 1) := by decide +kernel
theorem dX8_doesStep_26 : decode cX8_doesStep 26 = .ok (.iload_n 1, 1) := by decide +kernel
theorem dX8_doesStep_27 : decode cX8_doesStep 27 = .ok (.aload_n 0, 1) := by decide +kernel
theorem dX8_doesStep_28 : decode cX8_doesStep 28 = .ok (.getfield 97, 3) := by decide +kernel
theorem dX8_doesStep_31 : decode cX8_doesStep 31 = .ok (.if_icmp .ge 24, 3) := by decide +kernel
theorem dX8_doesStep_34 : decode cX8_doesStep 34 = .ok (.aload_n 0, 1) := by decide +kernel
theorem dX8_doesStep_35 : decode cX8_doesStep 35 = .ok (.getfield 54, 3) := by decide +kernel
theorem dX8_doesStep_38 : decode cX8_doesStep 38 = .ok (.iload_n 1, 1) := by decide +kernel
theorem dX8_doesStep_39 : decode cX8_doesStep 39 = .ok (.iaload, 1) := by decide +kernel
theorem dX8_doesStep_40 : decode cX8_doesStep 40 = .ok (.iconst 2, 1) := by decide +kernel
theorem dX8_doesStep_41 : decode cX8_doesStep 41 = .ok (.if_icmp .gt 8, 3) := by decide +kernel
theorem dX8_doesStep_44 : decode cX8_doesStep 44 = .ok (.aload_n 0, 1) := by decide +kernel
theorem dX8_doesStep_45 : decode cX8_doesStep 45 = .ok (.iload_n 1, 1) := by decide +kernel
theorem dX8_doesStep_46 : decode cX8_doesStep 46 = .ok (.invokevirtual 198, 3) := by decide +kernel
theorem dX8_doesStep_49 : decode cX8_doesStep 49 = .ok (.iinc 1 1, 3) := by decide +kernel
theorem dX8_doesStep_52 : decode cX8_doesStep 52 = .ok (.goto (-26), 3) := by decide +kernel
theorem dX8_doesStep_55 : decode cX8_doesStep 55 = .ok (.aload_n 0, 1) := by decide +kernel
theorem dX8_doesStep_56 : decode cX8_doesStep 56 = .ok (.dup, 1) := by decide +kernel
theorem dX8_doesStep_57 : decode cX8_doesStep 57 = .ok (.getfield 77, 3) := by decide +kernel
theorem dX8_doesStep_60 : decode cX8_doesStep 60 = .ok (.iconst 1, 1) := by decide +kernel
theorem dX8_doesStep_61 : decode cX8_doesStep 61 = .ok (.iadd, 1) := by decide +kernel
theorem dX8_doesStep_62 : decode cX8_doesStep 62 = .ok (.putfield 77, 3) := by decide +kernel
theorem dX8_doesStep_65 : decode cX8_doesStep 65 = .ok (.return_, 1) := by decide +kernel
set_option maxRecDepth 20000 in
theorem ggX8_step_X8_isBetween : GoodIn wsX8_step wsX8_isBetween := goodIn_r _ [5] (by decide +kernel) (by decide +kernel)
set_option maxRecDepth 20000 in
theorem gX8_step_X8_isBetween : GoodIn wsX8_step (va_wsS RX8 69 yX8_isBetween wsX8_isBetween) := goodIn_app (goodIn_of _ (by decide +kernel)) ggX8_step_X8_isBetween
set_option maxRecDepth 20000 in
theorem ggX8_step_X8_goes : GoodIn wsX8_step wsX8_goes := goodIn_r _ [9, 10, 122, 123, 124, 125, 126, 127, 128, 129, 130, 131, 132, 133, 134, 135, 136, 137, 138, 139, 140, 141, 142, 143, 144, 145, 146, 147, 148, 149, 150, 151, 152, 153, 154, 155, 156, 157, 158] (by decide +kernel) (by decide +kernel)
set_option maxRecDepth 20000 in
theorem gX8_step_X8_goes : GoodIn wsX8_step (wsV RX8 80 RX8 yX8_goes wsX8_goes) := goodIn_app (goodIn_of _ (by decide +kernel)) ggX8_step_X8_goes
set_option maxRecDepth 20000 in
theorem ggX8_step_X8_doesStep : GoodIn wsX8_step wsX8_doesStep := goodIn_r _ [14, 15, 16, 1, 17, 18, 19, 4, 20, 21, 22, 23, 24, 25, 26, 27, 28, 29, 30, 31, 32, 33, 34, 35, 36, 37, 38, 39, 40, 41, 42, 43, 44, 45, 46, 47, 48, 49, 50, 51, 52, 53, 54, 55, 56, 57, 58, 59, 60, 61, 62, 63, 64, 65, 66, 67, 2, 3, 5, 68, 69, 70, 71, 72, 73, 74, 75, 76, 77, 78, 79, 80, 81, 82, 83, 84, 85, 86, 87, 88, 89, 90, 91, 92, 93, 94, 95, 96, 97, 98, 99, 100, 101, 102, 103, 104, 105, 106, 107, 108, 109, 110, 111, 112, 113, 114, 115, 116, 117, 118, 119, 120, 121, 122, 123, 124, 125, 126, 127, 128, 129, 130, 131, 132, 133, 134, 135, 136, 137, 138, 139, 140, 141, 142, 143, 144, 145, 146, 147, 148, 149, 150, 151, 152, 153, 154, 155, 156, 157, 158] (by decide +kernel) (by decide +kernel)
set_option maxRecDepth 20000 in
theorem gX8_step_X8_doesStep : GoodIn wsX8_step (wsV RX8 201 RX8 yX8_doesStep wsX8_doesStep) := goodIn_app (goodIn_of _ (by decide +kernel)) ggX8_step_X8_doesStep
theorem dX8_step_0 : decode cX8_step 0 = .ok (.aload_n 0, 1) := by decide +kernel
theorem dX8_step_1 : decode cX8_step 1 = .ok (.iload_n 1, 1) := by decide +kernel
theorem dX8_step_2 : decode cX8_step 2 = .ok (.iconst 1, 1) := by decide +kernel
theorem dX8_step_3 : decode cX8_step 3 = .ok (.bipush 100, 2) := by decide +kernel
theorem dX8_step_5 : decode cX8_step 5 = .ok (.invokestatic 69, 3) := by decide +kernel
theorem dX8_step_8 : decode cX8_step 8 = .ok (.iconst 1, 1) := by decide +kernel
theorem dX8_step_9 : decode cX8_step 9 = .ok (.iconst 1, 1) := by decide +kernel
theorem dX8_step_10 : decode cX8_step 10 = .ok (.invokevirtual 80, 3) := by decide +kernel
theorem dX8_step_13 : decode cX8_step 13 = .ok (.ifCond .ne 5, 3) := by decide +kernel
theorem dX8_step_16 : decode cX8_step 16 = .ok (.iconst 0, 1) := by decide +kernel
theorem dX8_step_17 : decode cX8_step 17 = .ok (.ireturn, 1) := by decide +kernel
theorem dX8_step_18 : decode cX8_step 18 = .ok (.iconst 0, 1) := by decide +kernel
theorem dX8_step_19 : decode cX8_step 19 = .ok (.istore_n 2, 1) := by decide +kernel
theorem dX8_step_20 : decode cX8_step 20 = .ok (.iload_n 2, 1) := by decide +kernel
theorem dX8_step_21 : decode cX8_step 21 = .ok (.iload_n 1, 1) := by decide +kernel
theorem dX8_step_22 : decode cX8_step 22 = .ok (.if_icmp .ge 13, 3) := by decide +kernel
theorem dX8_step_25 : decode cX8_step 25 = .ok (.aload_n 0, 1) := by decide +kernel
theorem dX8_step_26 : decode cX8_step 26 = .ok (.invokevirtual 201, 3) := by decide +kernel
theorem dX8_step_29 : decode cX8_step 29 = .ok (.iinc 2 1, 3) := by decide +kernel
theorem dX8_step_32 : decode cX8_step 32 = .ok (.goto (-12), 3) := by decide +kernel
theorem dX8_step_35 : decode cX8_step 35 = .ok (.aload_n 0, 1) := by decide +kernel
theorem dX8_step_36 : decode cX8_step 36 = .ok (.getfield 77, 3) := by decide +kernel
theorem dX8_step_39 : decode cX8_step 39 = .ok (.ireturn, 1) := by decide +kernel
set_option maxRecDepth 20000 in
theorem ggX8_segment_X8_isSegment : GoodIn wsX8_segment wsX8_isSegment := goodIn_r _ [8, 9, 10, 7, 11] (by decide +kernel) (by decide +kernel)
set_option maxRecDepth 20000 in
theorem gX8_segment_X8_isSegment : GoodIn wsX8_segment (va_wsS RX8 73 yX8_isSegment wsX8_isSegment) := goodIn_app (goodIn_of _ (by decide +kernel)) ggX8_segment_X8_isSegment
set_option maxRecDepth 20000 in
theorem ggX8_segment_X8_isBetween : GoodIn wsX8_segment wsX8_isBetween := goodIn_r _ [11] (by decide +kernel) (by decide +kernel)
set_option maxRecDepth 20000 in
theorem gX8_segment_X8_isBetween : GoodIn wsX8_segment (va_wsS RX8 69 yX8_isBetween wsX8_isBetween) := goodIn_app (goodIn_of _ (by decide +kernel)) ggX8_segment_X8_isBetween
set_option maxRecDepth 20000 in
theorem ggX8_segment_X8_goes : GoodIn wsX8_segment wsX8_goes := goodIn_r _ [15, 16, 32, 33, 34, 35, 36, 37, 38, 39, 40, 41, 42, 43, 44, 45, 46, 47, 48, 49, 50, 51, 52, 53, 54, 55, 56, 57, 58, 59, 60, 61, 62, 63, 64, 65, 66, 67, 68] (by decide +kernel) (by decide +kernel)
set_option maxRecDepth 20000 in
theorem gX8_segment_X8_goes : GoodIn wsX8_segment (wsV RX8 80 RX8 yX8_goes wsX8_goes) := goodIn_app (goodIn_of _ (by decide +kernel)) ggX8_segment_X8_goes
set_option maxRecDepth 20000 in
theorem ggX8_segment_X8_tells : GoodIn wsX8_segment wsX8_tells := goodIn_r _ [20, 2, 21, 1, 22, 23, 24, 7, 25, 26, 27, 28, 32, 33, 34, 35, 36, 37, 38, 39, 40, 41, 42, 43, 44, 45, 46, 47, 48, 49, 50, 51, 52, 53, 54, 55, 56, 57, 58, 59, 60, 61, 62, 63, 64, 65, 66, 67, 68] (by decide +kernel) (by decide +kernel)
set_option maxRecDepth 20000 in
theorem gX8_segment_X8_tells : GoodIn wsX8_segment (wsV RX8 158 RX8 yX8_tells wsX8_tells) := goodIn_app (goodIn_of _ (by decide +kernel)) ggX8_segment_X8_tells
set_option maxRecDepth 20000 in
theorem ggX8_segment_X8_personsIn : GoodIn wsX8_segment wsX8_personsIn := goodIn_r _ [25, 26, 27, 28, 32, 33, 34, 35, 36, 37, 38, 39, 40, 41, 42, 43, 44, 45, 46, 47, 48, 49, 50, 51, 52, 53, 54, 55, 56, 57, 58, 59, 60, 61, 62, 63, 64, 65, 66, 67, 68] (by decide +kernel) (by decide +kernel)
set_option maxRecDepth 20000 in
theorem gX8_segment_X8_personsIn : GoodIn wsX8_segment (wsV RX8 154 RX8 yX8_personsIn wsX8_personsIn) := goodIn_app (goodIn_of _ (by decide +kernel)) ggX8_segment_X8_personsIn
set_option maxRecDepth 20000 in
theorem ggX8_segment_X8_isIn : GoodIn wsX8_segment wsX8_isIn := goodIn_r _ [31] (by decide +kernel) (by decide +kernel)
set_option maxRecDepth 20000 in
theorem gX8_segment_X8_isIn : GoodIn wsX8_segment (va_wsS RX8 113 yX8_isIn wsX8_isIn) := goodIn_app (goodIn_of _ (by decide +kernel)) ggX8_segment_X8_isIn
theorem dX8_segment_0 : decode cX8_segment 0 = .ok (.aload_n 0, 1) := by decide +kernel
theorem dX8_segment_1 : decode cX8_segment 1 = .ok (.iload_n 1, 1) := by decide +kernel
theorem dX8_segment_2 : decode cX8_segment 2 = .ok (.invokestatic 73, 3) := by decide +kernel
theorem dX8_segment_5 : decode cX8_segment 5 = .ok (.iload_n 2, 1) := by decide +kernel
theorem dX8_segment_6 : decode cX8_segment 6 = .ok (.iconst 0, 1) := by decide +kernel
theorem dX8_segment_7 : decode cX8_segment 7 = .ok (.iconst 4, 1) := by decide +kernel
theorem dX8_segment_8 : decode cX8_segment 8 = .ok (.invokestatic 69, 3) := by decide +kernel
theorem dX8_segment_11 : decode cX8_segment 11 = .ok (.iconst 1, 1) := by decide +kernel
theorem dX8_segment_12 : decode cX8_segment 12 = .ok (.invokevirtual 80, 3) := by decide +kernel
theorem dX8_segment_15 : decode cX8_segment 15 = .ok (.ifCond .ne 5, 3) := by decide +kernel
theorem dX8_segment_18 : decode cX8_segment 18 = .ok (.iconst 0, 1) := by decide +kernel
theorem dX8_segment_19 : decode cX8_segment 19 = .ok (.ireturn, 1) := by decide +kernel
theorem dX8_segment_20 : decode cX8_segment 20 = .ok (.iload_n 2, 1) := by decide +kernel
theorem dX8_segment_21 : decode cX8_segment 21 = .ok (.tableswitch 57 0 3 #[31, 38, 45, 51], 31) := by decide +kernel
theorem dX8_segment_52 : decode cX8_segment 52 = .ok (.aload_n 0, 1) := by decide +kernel
theorem dX8_segment_53 : decode cX8_segment 53 = .ok (.getfield 7, 3) := by decide +kernel
theorem dX8_segment_56 : decode cX8_segment 56 = .ok (.iload_n 1, 1) := by decide +kernel
theorem dX8_segment_57 : decode cX8_segment 57 = .ok (.iaload, 1) := by decide +kernel
theorem dX8_segment_58 : decode cX8_segment 58 = .ok (.ireturn, 1) := by decide +kernel
theorem dX8_segment_59 : decode cX8_segment 59 = .ok (.aload_n 0, 1) := by decide +kernel
theorem dX8_segment_60 : decode cX8_segment 60 = .ok (.getfield 13, 3) := by decide +kernel
theorem dX8_segment_63 : decode cX8_segment 63 = .ok (.iload_n 1, 1) := by decide +kernel
theorem dX8_segment_64 : decode cX8_segment 64 = .ok (.iaload, 1) := by decide +kernel
theorem dX8_segment_65 : decode cX8_segment 65 = .ok (.ireturn, 1) := by decide +kernel
theorem dX8_segment_66 : decode cX8_segment 66 = .ok (.aload_n 0, 1) := by decide +kernel
theorem dX8_segment_67 : decode cX8_segment 67 = .ok (.iload_n 1, 1) := by decide +kernel
theorem dX8_segment_68 : decode cX8_segment 68 = .ok (.invokevirtual 158, 3) := by decide +kernel
theorem dX8_segment_71 : decode cX8_segment 71 = .ok (.ireturn, 1) := by decide +kernel
theorem dX8_segment_72 : decode cX8_segment 72 = .ok (.aload_n 0, 1) := by decide +kernel
theorem dX8_segment_73 : decode cX8_segment 73 = .ok (.iload_n 1, 1) := by decide +kernel
theorem dX8_segment_74 : decode cX8_segment 74 = .ok (.invokevirtual 154, 3) := by decide +kernel
theorem dX8_segment_77 : decode cX8_segment 77 = .ok (.ireturn, 1) := by decide +kernel
theorem dX8_segment_78 : decode cX8_segment 78 = .ok (.iload_n 1, 1) := by decide +kernel
theorem dX8_segment_79 : decode cX8_segment 79 = .ok (.aload_n 0, 1) := by decide +kernel
theorem dX8_segment_80 : decode cX8_segment 80 = .ok (.getfield 84, 3) := by decide +kernel
theorem dX8_segment_83 : decode cX8_segment 83 = .ok (.invokestatic 113, 3) := by decide +kernel
theorem dX8_segment_86 : decode cX8_segment 86 = .ok (.ifCond .ne 7, 3) := by decide +kernel
theorem dX8_segment_89 : decode cX8_segment 89 = .ok (.iconst (-1), 1) := by decide +kernel
theorem dX8_segment_90 : decode cX8_segment 90 = .ok (.goto 19, 3) := by decide +kernel
theorem dX8_segment_93 : decode cX8_segment 93 = .ok (.iload_n 1, 1) := by decide +kernel
theorem dX8_segment_94 : decode cX8_segment 94 = .ok (.aload_n 0, 1) := by decide +kernel
theorem dX8_segment_95 : decode cX8_segment 95 = .ok (.getfield 87, 3) := by decide +kernel
theorem dX8_segment_98 : decode cX8_segment 98 = .ok (.invokestatic 113, 3) := by decide +kernel
theorem dX8_segment_101 : decode cX8_segment 101 = .ok (.ifCond .eq 7, 3) := by decide +kernel
theorem dX8_segment_104 : decode cX8_segment 104 = .ok (.iconst 1, 1) := by decide +kernel
theorem dX8_segment_105 : decode cX8_segment 105 = .ok (.goto 4, 3) := by decide +kernel
theorem dX8_segment_108 : decode cX8_segment 108 = .ok (.iconst 0, 1) := by decide +kernel
theorem dX8_segment_109 : decode cX8_segment 109 = .ok (.ireturn, 1) := by decide +kernel
theorem dX8_flow_0 : decode cX8_flow 0 = .ok (.aload_n 0, 1) := by decide +kernel
theorem dX8_flow_1 : decode cX8_flow 1 = .ok (.iconst 0, 1) := by decide +kernel
theorem dX8_flow_2 : decode cX8_flow 2 = .ok (.putfield 66, 3) := by decide +kernel
theorem dX8_flow_5 : decode cX8_flow 5 = .ok (.ldc2_w 204, 3) := by decide +kernel
theorem dX8_flow_8 : decode cX8_flow 8 = .ok (.aload_n 0, 1) := by decide +kernel
theorem dX8_flow_9 : decode cX8_flow 9 = .ok (.getfield 129, 3) := by decide +kernel
theorem dX8_flow_12 : decode cX8_flow 12 = .ok (.dmul, 1) := by decide +kernel
theorem dX8_flow_13 : decode cX8_flow 13 = .ok (.d2i, 1) := by decide +kernel
theorem dX8_flow_14 : decode cX8_flow 14 = .ok (.ireturn, 1) := by decide +kernel
set_option maxRecDepth 20000 in
theorem ggX8_fan_X8_isFan : GoodIn wsX8_fan wsX8_isFan := goodIn_r _ [5, 6, 7, 4, 8] (by decide +kernel) (by decide +kernel)
set_option maxRecDepth 20000 in
theorem gX8_fan_X8_isFan : GoodIn wsX8_fan (va_wsS RX8 110 yX8_isFan wsX8_isFan) := goodIn_app (goodIn_of _ (by decide +kernel)) ggX8_fan_X8_isFan
set_option maxRecDepth 20000 in
theorem ggX8_fan_X8_goes : GoodIn wsX8_fan wsX8_goes := goodIn_r _ [12, 13, 14, 15, 16, 17, 18, 19, 20, 21, 22, 23, 24, 25, 26, 27, 28, 29, 30, 31, 32, 33, 34, 35, 36, 37, 38, 39, 40, 41, 42, 43, 44, 45, 46, 47, 48, 49, 50] (by decide +kernel) (by decide +kernel)
set_option maxRecDepth 20000 in
theorem gX8_fan_X8_goes : GoodIn wsX8_fan (wsV RX8 80 RX8 yX8_goes wsX8_goes) := goodIn_app (goodIn_of _ (by decide +kernel)) ggX8_fan_X8_goes
theorem dX8_fan_0 : decode cX8_fan 0 = .ok (.aload_n 0, 1) := by decide +kernel
theorem dX8_fan_1 : decode cX8_fan 1 = .ok (.iload_n 1, 1) := by decide +kernel
theorem dX8_fan_2 : decode cX8_fan 2 = .ok (.invokestatic 110, 3) := by decide +kernel
theorem dX8_fan_5 : decode cX8_fan 5 = .ok (.iconst 1, 1) := by decide +kernel
theorem dX8_fan_6 : decode cX8_fan 6 = .ok (.iconst 1, 1) := by decide +kernel
theorem dX8_fan_7 : decode cX8_fan 7 = .ok (.invokevirtual 80, 3) := by decide +kernel
theorem dX8_fan_10 : decode cX8_fan 10 = .ok (.ifCond .ne 5, 3) := by decide +kernel
theorem dX8_fan_13 : decode cX8_fan 13 = .ok (.iconst 0, 1) := by decide +kernel
theorem dX8_fan_14 : decode cX8_fan 14 = .ok (.ireturn, 1) := by decide +kernel
theorem dX8_fan_15 : decode cX8_fan 15 = .ok (.aload_n 0, 1) := by decide +kernel
theorem dX8_fan_16 : decode cX8_fan 16 = .ok (.getfield 19, 3) := by decide +kernel
theorem dX8_fan_19 : decode cX8_fan 19 = .ok (.iload_n 1, 1) := by decide +kernel
theorem dX8_fan_20 : decode cX8_fan 20 = .ok (.iaload, 1) := by decide +kernel
theorem dX8_fan_21 : decode cX8_fan 21 = .ok (.ireturn, 1) := by decide +kernel
theorem dX8_alarm_0 : decode cX8_alarm 0 = .ok (.aload_n 0, 1) := by decide +kernel
theorem dX8_alarm_1 : decode cX8_alarm 1 = .ok (.iconst 0, 1) := by decide +kernel
theorem dX8_alarm_2 : decode cX8_alarm 2 = .ok (.putfield 66, 3) := by decide +kernel
theorem dX8_alarm_5 : decode cX8_alarm 5 = .ok (.aload_n 0, 1) := by decide +kernel
theorem dX8_alarm_6 : decode cX8_alarm 6 = .ok (.getfield 42, 3) := by decide +kernel
theorem dX8_alarm_9 : decode cX8_alarm 9 = .ok (.ireturn, 1) := by decide +kernel
set_option maxRecDepth 20000 in
theorem ggX8_done_X8_isBetween : GoodIn wsX8_done wsX8_isBetween := goodIn_r _ [6] (by decide +kernel) (by decide +kernel)
set_option maxRecDepth 20000 in
theorem gX8_done_X8_isBetween : GoodIn wsX8_done (va_wsS RX8 69 yX8_isBetween wsX8_isBetween) := goodIn_app (goodIn_of _ (by decide +kernel)) ggX8_done_X8_isBetween
set_option maxRecDepth 20000 in
theorem ggX8_done_X8_goes : GoodIn wsX8_done wsX8_goes := goodIn_r _ [10, 11, 12, 13, 14, 15, 16, 17, 18, 19, 20, 21, 22, 23, 24, 25, 26, 27, 28, 29, 30, 31, 32, 33, 34, 35, 36, 37, 38, 39, 40, 41, 42, 43, 44, 45, 46, 47, 48] (by decide +kernel) (by decide +kernel)
set_option maxRecDepth 20000 in
theorem gX8_done_X8_goes : GoodIn wsX8_done (wsV RX8 80 RX8 yX8_goes wsX8_goes) := goodIn_app (goodIn_of _ (by decide +kernel)) ggX8_done_X8_goes
theorem dX8_done_0 : decode cX8_done 0 = .ok (.aload_n 0, 1) := by decide +kernel
theorem dX8_done_1 : decode cX8_done 1 = .ok (.iload_n 1, 1) := by decide +kernel
theorem dX8_done_2 : decode cX8_done 2 = .ok (.iconst 0, 1) := by decide +kernel
theorem dX8_done_3 : decode cX8_done 3 = .ok (.aload_n 0, 1) := by decide +kernel
theorem dX8_done_4 : decode cX8_done 4 = .ok (.getfield 117, 3) := by decide +kernel
theorem dX8_done_7 : decode cX8_done 7 = .ok (.iconst 1, 1) := by decide +kernel
theorem dX8_done_8 : decode cX8_done 8 = .ok (.isub, 1) := by decide +kernel
theorem dX8_done_9 : decode cX8_done 9 = .ok (.invokestatic 69, 3) := by decide +kernel
theorem dX8_done_12 : decode cX8_done 12 = .ok (.iconst 1, 1) := by decide +kernel
theorem dX8_done_13 : decode cX8_done 13 = .ok (.iconst 1, 1) := by decide +kernel
theorem dX8_done_14 : decode cX8_done 14 = .ok (.invokevirtual 80, 3) := by decide +kernel
theorem dX8_done_17 : decode cX8_done 17 = .ok (.ifCond .ne 5, 3) := by decide +kernel
theorem dX8_done_20 : decode cX8_done 20 = .ok (.iconst 0, 1) := by decide +kernel
theorem dX8_done_21 : decode cX8_done 21 = .ok (.ireturn, 1) := by decide +kernel
theorem dX8_done_22 : decode cX8_done 22 = .ok (.aload_n 0, 1) := by decide +kernel
theorem dX8_done_23 : decode cX8_done 23 = .ok (.getfield 51, 3) := by decide +kernel
theorem dX8_done_26 : decode cX8_done 26 = .ok (.iload_n 1, 1) := by decide +kernel
theorem dX8_done_27 : decode cX8_done 27 = .ok (.iaload, 1) := by decide +kernel
theorem dX8_done_28 : decode cX8_done 28 = .ok (.ireturn, 1) := by decide +kernel
set_option maxRecDepth 20000 in
theorem ggX8_person_X8_isBetween : GoodIn wsX8_person wsX8_isBetween := goodIn_r _ [8] (by decide +kernel) (by decide +kernel)
set_option maxRecDepth 20000 in
theorem gX8_person_X8_isBetween : GoodIn wsX8_person (va_wsS RX8 69 yX8_isBetween wsX8_isBetween) := goodIn_app (goodIn_of _ (by decide +kernel)) ggX8_person_X8_isBetween
set_option maxRecDepth 20000 in
theorem ggX8_person_X8_goes : GoodIn wsX8_person wsX8_goes := goodIn_r _ [12, 13, 14, 15, 16, 17, 18, 19, 20, 21, 22, 23, 24, 25, 26, 27, 28, 29, 30, 31, 32, 33, 34, 35, 36, 37, 38, 39, 40, 41, 42, 43, 44, 45, 46, 47, 48, 49, 50] (by decide +kernel) (by decide +kernel)
set_option maxRecDepth 20000 in
theorem gX8_person_X8_goes : GoodIn wsX8_person (wsV RX8 80 RX8 yX8_goes wsX8_goes) := goodIn_app (goodIn_of _ (by decide +kernel)) ggX8_person_X8_goes
theorem dX8_person_0 : decode cX8_person 0 = .ok (.aload_n 0, 1) := by decide +kernel
theorem dX8_person_1 : decode cX8_person 1 = .ok (.iload_n 1, 1) := by decide +kernel
theorem dX8_person_2 : decode cX8_person 2 = .ok (.iconst 0, 1) := by decide +kernel
theorem dX8_person_3 : decode cX8_person 3 = .ok (.aload_n 0, 1) := by decide +kernel
theorem dX8_person_4 : decode cX8_person 4 = .ok (.getfield 97, 3) := by decide +kernel
theorem dX8_person_7 : decode cX8_person 7 = .ok (.iconst 1, 1) := by decide +kernel
theorem dX8_person_8 : decode cX8_person 8 = .ok (.isub, 1) := by decide +kernel
theorem dX8_person_9 : decode cX8_person 9 = .ok (.invokestatic 69, 3) := by decide +kernel
theorem dX8_person_12 : decode cX8_person 12 = .ok (.iload_n 2, 1) := by decide +kernel
theorem dX8_person_13 : decode cX8_person 13 = .ok (.iconst 0, 1) := by decide +kernel
theorem dX8_person_14 : decode cX8_person 14 = .ok (.iconst 2, 1) := by decide +kernel
theorem dX8_person_15 : decode cX8_person 15 = .ok (.invokestatic 69, 3) := by decide +kernel
theorem dX8_person_18 : decode cX8_person 18 = .ok (.iconst 1, 1) := by decide +kernel
theorem dX8_person_19 : decode cX8_person 19 = .ok (.invokevirtual 80, 3) := by decide +kernel
theorem dX8_person_22 : decode cX8_person 22 = .ok (.ifCond .ne 5, 3) := by decide +kernel
theorem dX8_person_25 : decode cX8_person 25 = .ok (.iconst 0, 1) := by decide +kernel
theorem dX8_person_26 : decode cX8_person 26 = .ok (.ireturn, 1) := by decide +kernel
theorem dX8_person_27 : decode cX8_person 27 = .ok (.iload_n 2, 1) := by decide +kernel
theorem dX8_person_28 : decode cX8_person 28 = .ok (.ifCond .ne 12, 3) := by decide +kernel
theorem dX8_person_31 : decode cX8_person 31 = .ok (.aload_n 0, 1) := by decide +kernel
theorem dX8_person_32 : decode cX8_person 32 = .ok (.getfield 54, 3) := by decide +kernel
theorem dX8_person_35 : decode cX8_person 35 = .ok (.iload_n 1, 1) := by decide +kernel
theorem dX8_person_36 : decode cX8_person 36 = .ok (.iaload, 1) := by decide +kernel
theorem dX8_person_37 : decode cX8_person 37 = .ok (.goto 37, 3) := by decide +kernel
theorem dX8_person_40 : decode cX8_person 40 = .ok (.iload_n 2, 1) := by decide +kernel
theorem dX8_person_41 : decode cX8_person 41 = .ok (.iconst 2, 1) := by decide +kernel
theorem dX8_person_42 : decode cX8_person 42 = .ok (.if_icmp .ne 12, 3) := by decide +kernel
theorem dX8_person_45 : decode cX8_person 45 = .ok (.aload_n 0, 1) := by decide +kernel
theorem dX8_person_46 : decode cX8_person 46 = .ok (.getfield 63, 3) := by decide +kernel
theorem dX8_person_49 : decode cX8_person 49 = .ok (.iload_n 1, 1) := by decide +kernel
theorem dX8_person_50 : decode cX8_person 50 = .ok (.iaload, 1) := by decide +kernel
theorem dX8_person_51 : decode cX8_person 51 = .ok (.goto 23, 3) := by decide +kernel
theorem dX8_person_54 : decode cX8_person 54 = .ok (.aload_n 0, 1) := by decide +kernel
theorem dX8_person_55 : decode cX8_person 55 = .ok (.getfield 54, 3) := by decide +kernel
theorem dX8_person_58 : decode cX8_person 58 = .ok (.iload_n 1, 1) := by decide +kernel
theorem dX8_person_59 : decode cX8_person 59 = .ok (.iaload, 1) := by decide +kernel
theorem dX8_person_60 : decode cX8_person 60 = .ok (.iconst 3, 1) := by decide +kernel
theorem dX8_person_61 : decode cX8_person 61 = .ok (.if_icmp .ne 7, 3) := by decide +kernel
theorem dX8_person_64 : decode cX8_person 64 = .ok (.iconst (-1), 1) := by decide +kernel
theorem dX8_person_65 : decode cX8_person 65 = .ok (.goto 9, 3) := by decide +kernel
theorem dX8_person_68 : decode cX8_person 68 = .ok (.aload_n 0, 1) := by decide +kernel
theorem dX8_person_69 : decode cX8_person 69 = .ok (.getfield 57, 3) := by decide +kernel
theorem dX8_person_72 : decode cX8_person 72 = .ok (.iload_n 1, 1) := by decide +kernel
theorem dX8_person_73 : decode cX8_person 73 = .ok (.iaload, 1) := by decide +kernel
theorem dX8_person_74 : decode cX8_person 74 = .ok (.ireturn, 1) := by decide +kernel
theorem dX8_counted_0 : decode cX8_counted 0 = .ok (.iconst 0, 1) := by decide +kernel
theorem dX8_counted_1 : decode cX8_counted 1 = .ok (.istore_n 2, 1) := by decide +kernel
theorem dX8_counted_2 : decode cX8_counted 2 = .ok (.iconst 0, 1) := by decide +kernel
theorem dX8_counted_3 : decode cX8_counted 3 = .ok (.istore_n 3, 1) := by decide +kernel
theorem dX8_counted_4 : decode cX8_counted 4 = .ok (.iload_n 3, 1) := by decide +kernel
theorem dX8_counted_5 : decode cX8_counted 5 = .ok (.aload_n 0, 1) := by decide +kernel
theorem dX8_counted_6 : decode cX8_counted 6 = .ok (.getfield 97, 3) := by decide +kernel
theorem dX8_counted_9 : decode cX8_counted 9 = .ok (.if_icmp .ge 27, 3) := by decide +kernel
theorem dX8_counted_12 : decode cX8_counted 12 = .ok (.iload_n 2, 1) := by decide +kernel
theorem dX8_counted_13 : decode cX8_counted 13 = .ok (.aload_n 0, 1) := by decide +kernel
theorem dX8_counted_14 : decode cX8_counted 14 = .ok (.getfield 54, 3) := by decide +kernel
theorem dX8_counted_17 : decode cX8_counted 17 = .ok (.iload_n 3, 1) := by decide +kernel
theorem dX8_counted_18 : decode cX8_counted 18 = .ok (.iaload, 1) := by decide +kernel
theorem dX8_counted_19 : decode cX8_counted 19 = .ok (.iload_n 1, 1) := by decide +kernel
theorem dX8_counted_20 : decode cX8_counted 20 = .ok (.if_icmp .ne 7, 3) := by decide +kernel
theorem dX8_counted_23 : decode cX8_counted 23 = .ok (.iconst 1, 1) := by decide +kernel
theorem dX8_counted_24 : decode cX8_counted 24 = .ok (.goto 4, 3) := by decide +kernel
theorem dX8_counted_27 : decode cX8_counted 27 = .ok (.iconst 0, 1) := by decide +kernel
theorem dX8_counted_28 : decode cX8_counted 28 = .ok (.iadd, 1) := by decide +kernel
theorem dX8_counted_29 : decode cX8_counted 29 = .ok (.istore_n 2, 1) := by decide +kernel
theorem dX8_counted_30 : decode cX8_counted 30 = .ok (.iinc 3 1, 3) := by decide +kernel
theorem dX8_counted_33 : decode cX8_counted 33 = .ok (.goto (-29), 3) := by decide +kernel
theorem dX8_counted_36 : decode cX8_counted 36 = .ok (.iload_n 2, 1) := by decide +kernel
theorem dX8_counted_37 : decode cX8_counted 37 = .ok (.ireturn, 1) := by decide +kernel
set_option maxRecDepth 20000 in
theorem ggX8_count_X8_isBetween : GoodIn wsX8_count wsX8_isBetween := goodIn_r _ [4] (by decide +kernel) (by decide +kernel)
set_option maxRecDepth 20000 in
theorem gX8_count_X8_isBetween : GoodIn wsX8_count (va_wsS RX8 69 yX8_isBetween wsX8_isBetween) := goodIn_app (goodIn_of _ (by decide +kernel)) ggX8_count_X8_isBetween
set_option maxRecDepth 20000 in
theorem ggX8_count_X8_goes : GoodIn wsX8_count wsX8_goes := goodIn_r _ [8, 9, 16, 17, 18, 19, 20, 21, 22, 23, 24, 25, 26, 27, 28, 29, 30, 31, 32, 33, 34, 35, 36, 37, 38, 39, 40, 41, 42, 43, 44, 45, 46, 47, 48, 49, 50, 51, 52] (by decide +kernel) (by decide +kernel)
set_option maxRecDepth 20000 in
theorem gX8_count_X8_goes : GoodIn wsX8_count (wsV RX8 80 RX8 yX8_goes wsX8_goes) := goodIn_app (goodIn_of _ (by decide +kernel)) ggX8_count_X8_goes
set_option maxRecDepth 20000 in
theorem ggX8_count_X8_counted : GoodIn wsX8_count wsX8_counted := goodIn_r _ [13, 14, 15, 16, 17, 18, 19, 20, 21, 22, 23, 24, 25, 26, 27, 28, 29, 30, 31, 32, 33, 34, 35, 36, 37, 38, 39, 40, 41, 42, 43, 44, 45, 46, 47, 48, 49, 50, 51, 52] (by decide +kernel) (by decide +kernel)
set_option maxRecDepth 20000 in
theorem gX8_count_X8_counted : GoodIn wsX8_count (wsV RX8 206 RX8 yX8_counted wsX8_counted) := goodIn_app (goodIn_of _ (by decide +kernel)) ggX8_count_X8_counted
theorem dX8_count_0 : decode cX8_count 0 = .ok (.aload_n 0, 1) := by decide +kernel
theorem dX8_count_1 : decode cX8_count 1 = .ok (.iload_n 1, 1) := by decide +kernel
theorem dX8_count_2 : decode cX8_count 2 = .ok (.iconst 0, 1) := by decide +kernel
theorem dX8_count_3 : decode cX8_count 3 = .ok (.iconst 4, 1) := by decide +kernel
theorem dX8_count_4 : decode cX8_count 4 = .ok (.invokestatic 69, 3) := by decide +kernel
theorem dX8_count_7 : decode cX8_count 7 = .ok (.iconst 1, 1) := by decide +kernel
theorem dX8_count_8 : decode cX8_count 8 = .ok (.iconst 1, 1) := by decide +kernel
theorem dX8_count_9 : decode cX8_count 9 = .ok (.invokevirtual 80, 3) := by decide +kernel
theorem dX8_count_12 : decode cX8_count 12 = .ok (.ifCond .ne 5, 3) := by decide +kernel
theorem dX8_count_15 : decode cX8_count 15 = .ok (.iconst 0, 1) := by decide +kernel
theorem dX8_count_16 : decode cX8_count 16 = .ok (.ireturn, 1) := by decide +kernel
theorem dX8_count_17 : decode cX8_count 17 = .ok (.aload_n 0, 1) := by decide +kernel
theorem dX8_count_18 : decode cX8_count 18 = .ok (.iload_n 1, 1) := by decide +kernel
theorem dX8_count_19 : decode cX8_count 19 = .ok (.invokevirtual 206, 3) := by decide +kernel
theorem dX8_count_22 : decode cX8_count 22 = .ok (.ireturn, 1) := by decide +kernel
theorem dX8_gone_0 : decode cX8_gone 0 = .ok (.aload_n 0, 1) := by decide +kernel
theorem dX8_gone_1 : decode cX8_gone 1 = .ok (.iconst 0, 1) := by decide +kernel
theorem dX8_gone_2 : decode cX8_gone 2 = .ok (.putfield 66, 3) := by decide +kernel
theorem dX8_gone_5 : decode cX8_gone 5 = .ok (.aload_n 0, 1) := by decide +kernel
theorem dX8_gone_6 : decode cX8_gone 6 = .ok (.getfield 141, 3) := by decide +kernel
theorem dX8_gone_9 : decode cX8_gone 9 = .ok (.ireturn, 1) := by decide +kernel
set_option maxRecDepth 20000 in
theorem ggX8_balances_X8_counted : GoodIn wsX8_balances wsX8_counted := goodIn_r _ [10, 5, 11, 12, 13, 14, 15, 16, 17, 18, 19, 20, 21, 22, 23, 24, 25, 26, 27, 28, 29, 30, 31, 32, 33, 34, 35, 36, 37, 38, 39, 40, 41, 42, 43, 44, 45, 46, 47, 48] (by decide +kernel) (by decide +kernel)
set_option maxRecDepth 20000 in
theorem gX8_balances_X8_counted : GoodIn wsX8_balances (wsV RX8 206 RX8 yX8_counted wsX8_counted) := goodIn_app (goodIn_of _ (by decide +kernel)) ggX8_balances_X8_counted
theorem dX8_balances_0 : decode cX8_balances 0 = .ok (.aload_n 0, 1) := by decide +kernel
theorem dX8_balances_1 : decode cX8_balances 1 = .ok (.iconst 0, 1) := by decide +kernel
theorem dX8_balances_2 : decode cX8_balances 2 = .ok (.putfield 66, 3) := by decide +kernel
theorem dX8_balances_5 : decode cX8_balances 5 = .ok (.aload_n 0, 1) := by decide +kernel
theorem dX8_balances_6 : decode cX8_balances 6 = .ok (.getfield 141, 3) := by decide +kernel
theorem dX8_balances_9 : decode cX8_balances 9 = .ok (.istore_n 1, 1) := by decide +kernel
theorem dX8_balances_10 : decode cX8_balances 10 = .ok (.iconst 0, 1) := by decide +kernel
