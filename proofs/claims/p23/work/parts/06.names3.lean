theorem dX5_order_13 : decode cX5_order 13 = .ok (.iload_n 1, 1) := by decide +kernel
theorem dX5_order_14 : decode cX5_order 14 = .ok (.iaload, 1) := by decide +kernel
theorem dX5_order_15 : decode cX5_order 15 = .ok (.istore_n 3, 1) := by decide +kernel
theorem dX5_order_16 : decode cX5_order 16 = .ok (.aload_n 0, 1) := by decide +kernel
theorem dX5_order_17 : decode cX5_order 17 = .ok (.getfield 9, 3) := by decide +kernel
theorem dX5_order_20 : decode cX5_order 20 = .ok (.iload_n 1, 1) := by decide +kernel
theorem dX5_order_21 : decode cX5_order 21 = .ok (.iload_n 2, 1) := by decide +kernel
theorem dX5_order_22 : decode cX5_order 22 = .ok (.iastore, 1) := by decide +kernel
theorem dX5_order_23 : decode cX5_order 23 = .ok (.iload_n 3, 1) := by decide +kernel
theorem dX5_order_24 : decode cX5_order 24 = .ok (.ireturn, 1) := by decide +kernel
theorem dX5_orderAll_0 : decode cX5_orderAll 0 = .ok (.iconst 0, 1) := by decide +kernel
theorem dX5_orderAll_1 : decode cX5_orderAll 1 = .ok (.istore_n 2, 1) := by decide +kernel
theorem dX5_orderAll_2 : decode cX5_orderAll 2 = .ok (.iload_n 2, 1) := by decide +kernel
theorem dX5_orderAll_3 : decode cX5_orderAll 3 = .ok (.iconst 3, 1) := by decide +kernel
theorem dX5_orderAll_4 : decode cX5_orderAll 4 = .ok (.if_icmp .ge 16, 3) := by decide +kernel
theorem dX5_orderAll_7 : decode cX5_orderAll 7 = .ok (.aload_n 0, 1) := by decide +kernel
theorem dX5_orderAll_8 : decode cX5_orderAll 8 = .ok (.getfield 9, 3) := by decide +kernel
theorem dX5_orderAll_11 : decode cX5_orderAll 11 = .ok (.iload_n 2, 1) := by decide +kernel
theorem dX5_orderAll_12 : decode cX5_orderAll 12 = .ok (.iload_n 1, 1) := by decide +kernel
theorem dX5_orderAll_13 : decode cX5_orderAll 13 = .ok (.iastore, 1) := by decide +kernel
theorem dX5_orderAll_14 : decode cX5_orderAll 14 = .ok (.iinc 2 1, 3) := by decide +kernel
theorem dX5_orderAll_17 : decode cX5_orderAll 17 = .ok (.goto (-15), 3) := by decide +kernel
theorem dX5_orderAll_20 : decode cX5_orderAll 20 = .ok (.return_, 1) := by decide +kernel
set_option maxRecDepth 20000 in
theorem ggX5_stateOf_X5_isFan : GoodIn wsX5_stateOf wsX5_isFan := goodIn_r _ [5] (by decide +kernel) (by decide +kernel)
set_option maxRecDepth 20000 in
theorem gX5_stateOf_X5_isFan : GoodIn wsX5_stateOf (va_wsS RX5 31 yX5_isFan wsX5_isFan) := goodIn_app (goodIn_of _ (by decide +kernel)) ggX5_stateOf_X5_isFan
theorem dX5_stateOf_0 : decode cX5_stateOf 0 = .ok (.iload_n 1, 1) := by decide +kernel
theorem dX5_stateOf_1 : decode cX5_stateOf 1 = .ok (.invokestatic 31, 3) := by decide +kernel
theorem dX5_stateOf_4 : decode cX5_stateOf 4 = .ok (.ifCond .eq 12, 3) := by decide +kernel
theorem dX5_stateOf_7 : decode cX5_stateOf 7 = .ok (.aload_n 0, 1) := by decide +kernel
theorem dX5_stateOf_8 : decode cX5_stateOf 8 = .ok (.getfield 15, 3) := by decide +kernel
theorem dX5_stateOf_11 : decode cX5_stateOf 11 = .ok (.iload_n 1, 1) := by decide +kernel
theorem dX5_stateOf_12 : decode cX5_stateOf 12 = .ok (.iaload, 1) := by decide +kernel
theorem dX5_stateOf_13 : decode cX5_stateOf 13 = .ok (.goto 4, 3) := by decide +kernel
theorem dX5_stateOf_16 : decode cX5_stateOf 16 = .ok (.iconst 0, 1) := by decide +kernel
theorem dX5_stateOf_17 : decode cX5_stateOf 17 = .ok (.ireturn, 1) := by decide +kernel
set_option maxRecDepth 20000 in
theorem ggX5_setFailing_X5_isFan : GoodIn wsX5_setFailing wsX5_isFan := goodIn_r _ [5] (by decide +kernel) (by decide +kernel)
set_option maxRecDepth 20000 in
theorem gX5_setFailing_X5_isFan : GoodIn wsX5_setFailing (va_wsS RX5 31 yX5_isFan wsX5_isFan) := goodIn_app (goodIn_of _ (by decide +kernel)) ggX5_setFailing_X5_isFan
theorem dX5_setFailing_0 : decode cX5_setFailing 0 = .ok (.iload_n 1, 1) := by decide +kernel
theorem dX5_setFailing_1 : decode cX5_setFailing 1 = .ok (.invokestatic 31, 3) := by decide +kernel
theorem dX5_setFailing_4 : decode cX5_setFailing 4 = .ok (.ifCond .eq 10, 3) := by decide +kernel
theorem dX5_setFailing_7 : decode cX5_setFailing 7 = .ok (.aload_n 0, 1) := by decide +kernel
theorem dX5_setFailing_8 : decode cX5_setFailing 8 = .ok (.getfield 18, 3) := by decide +kernel
theorem dX5_setFailing_11 : decode cX5_setFailing 11 = .ok (.iload_n 1, 1) := by decide +kernel
theorem dX5_setFailing_12 : decode cX5_setFailing 12 = .ok (.iload_n 2, 1) := by decide +kernel
theorem dX5_setFailing_13 : decode cX5_setFailing 13 = .ok (.bastore, 1) := by decide +kernel
theorem dX5_setFailing_14 : decode cX5_setFailing 14 = .ok (.return_, 1) := by decide +kernel
theorem dX5_isFan_0 : decode cX5_isFan 0 = .ok (.iload_n 0, 1) := by decide +kernel
theorem dX5_isFan_1 : decode cX5_isFan 1 = .ok (.ifCond .lt 12, 3) := by decide +kernel
theorem dX5_isFan_4 : decode cX5_isFan 4 = .ok (.iload_n 0, 1) := by decide +kernel
theorem dX5_isFan_5 : decode cX5_isFan 5 = .ok (.iconst 3, 1) := by decide +kernel
theorem dX5_isFan_6 : decode cX5_isFan 6 = .ok (.if_icmp .ge 7, 3) := by decide +kernel
theorem dX5_isFan_9 : decode cX5_isFan 9 = .ok (.iconst 1, 1) := by decide +kernel
theorem dX5_isFan_10 : decode cX5_isFan 10 = .ok (.goto 4, 3) := by decide +kernel
theorem dX5_isFan_13 : decode cX5_isFan 13 = .ok (.iconst 0, 1) := by decide +kernel
theorem dX5_isFan_14 : decode cX5_isFan 14 = .ok (.ireturn, 1) := by decide +kernel
theorem dX6_init_0 : decode cX6_init 0 = .ok (.aload_n 0, 1) := by decide +kernel
theorem dX6_init_1 : decode cX6_init 1 = .ok (.invokespecial 1, 3) := by decide +kernel
theorem dX6_init_4 : decode cX6_init 4 = .ok (.aload_n 0, 1) := by decide +kernel
theorem dX6_init_5 : decode cX6_init 5 = .ok (.dconst 0, 1) := by decide +kernel
theorem dX6_init_6 : decode cX6_init 6 = .ok (.putfield 7, 3) := by decide +kernel
theorem dX6_init_9 : decode cX6_init 9 = .ok (.aload_n 0, 1) := by decide +kernel
theorem dX6_init_10 : decode cX6_init 10 = .ok (.iconst 0, 1) := by decide +kernel
theorem dX6_init_11 : decode cX6_init 11 = .ok (.putfield 13, 3) := by decide +kernel
theorem dX6_init_14 : decode cX6_init 14 = .ok (.aload_n 0, 1) := by decide +kernel
theorem dX6_init_15 : decode cX6_init 15 = .ok (.iconst 0, 1) := by decide +kernel
theorem dX6_init_16 : decode cX6_init 16 = .ok (.putfield 17, 3) := by decide +kernel
theorem dX6_init_19 : decode cX6_init 19 = .ok (.return_, 1) := by decide +kernel
set_option maxRecDepth 20000 in
theorem ggX6_become_X6_held : GoodIn wsX6_become wsX6_held := goodIn_r _ [10, 11, 12] (by decide +kernel) (by decide +kernel)
set_option maxRecDepth 20000 in
theorem gX6_become_X6_held : GoodIn wsX6_become (va_wsS RX6 25 yX6_held wsX6_held) := goodIn_app (goodIn_of _ (by decide +kernel)) ggX6_become_X6_held
theorem dX6_become_0 : decode cX6_become 0 = .ok (.ldc2_w 21, 3) := by decide +kernel
theorem dX6_become_3 : decode cX6_become 3 = .ok (.iload_n 1, 1) := by decide +kernel
theorem dX6_become_4 : decode cX6_become 4 = .ok (.i2d, 1) := by decide +kernel
theorem dX6_become_5 : decode cX6_become 5 = .ok (.dmul, 1) := by decide +kernel
theorem dX6_become_6 : decode cX6_become 6 = .ok (.aload_n 0, 1) := by decide +kernel
theorem dX6_become_7 : decode cX6_become 7 = .ok (.getfield 13, 3) := by decide +kernel
theorem dX6_become_10 : decode cX6_become 10 = .ok (.i2d, 1) := by decide +kernel
theorem dX6_become_11 : decode cX6_become 11 = .ok (.dadd, 1) := by decide +kernel
theorem dX6_become_12 : decode cX6_become 12 = .ok (.aload_n 0, 1) := by decide +kernel
theorem dX6_become_13 : decode cX6_become 13 = .ok (.getfield 17, 3) := by decide +kernel
theorem dX6_become_16 : decode cX6_become 16 = .ok (.ifCond .eq 7, 3) := by decide +kernel
theorem dX6_become_19 : decode cX6_become 19 = .ok (.dconst 0, 1) := by decide +kernel
theorem dX6_become_20 : decode cX6_become 20 = .ok (.goto 6, 3) := by decide +kernel
theorem dX6_become_23 : decode cX6_become 23 = .ok (.ldc2_w 23, 3) := by decide +kernel
theorem dX6_become_26 : decode cX6_become 26 = .ok (.dadd, 1) := by decide +kernel
theorem dX6_become_27 : decode cX6_become 27 = .ok (.dstore_n 2, 1) := by decide +kernel
theorem dX6_become_28 : decode cX6_become 28 = .ok (.aload_n 0, 1) := by decide +kernel
theorem dX6_become_29 : decode cX6_become 29 = .ok (.aload_n 0, 1) := by decide +kernel
theorem dX6_become_30 : decode cX6_become 30 = .ok (.getfield 7, 3) := by decide +kernel
theorem dX6_become_33 : decode cX6_become 33 = .ok (.dload_n 2, 1) := by decide +kernel
theorem dX6_become_34 : decode cX6_become 34 = .ok (.invokestatic 25, 3) := by decide +kernel
theorem dX6_become_37 : decode cX6_become 37 = .ok (.aload_n 0, 1) := by decide +kernel
theorem dX6_become_38 : decode cX6_become 38 = .ok (.getfield 7, 3) := by decide +kernel
theorem dX6_become_41 : decode cX6_become 41 = .ok (.dsub, 1) := by decide +kernel
theorem dX6_become_42 : decode cX6_become 42 = .ok (.ldc2_w 29, 3) := by decide +kernel
theorem dX6_become_45 : decode cX6_become 45 = .ok (.ddiv, 1) := by decide +kernel
theorem dX6_become_46 : decode cX6_become 46 = .ok (.dadd, 1) := by decide +kernel
theorem dX6_become_47 : decode cX6_become 47 = .ok (.putfield 7, 3) := by decide +kernel
theorem dX6_become_50 : decode cX6_become 50 = .ok (.return_, 1) := by decide +kernel
theorem dX6_held_0 : decode cX6_held 0 = .ok (.dload_n 0, 1) := by decide +kernel
theorem dX6_held_1 : decode cX6_held 1 = .ok (.ldc2_w 31, 3) := by decide +kernel
theorem dX6_held_4 : decode cX6_held 4 = .ok (.dcmp .l, 1) := by decide +kernel
theorem dX6_held_5 : decode cX6_held 5 = .ok (.ifCond .le 7, 3) := by decide +kernel
theorem dX6_held_8 : decode cX6_held 8 = .ok (.ldc2_w 31, 3) := by decide +kernel
theorem dX6_held_11 : decode cX6_held 11 = .ok (.dreturn, 1) := by decide +kernel
theorem dX6_held_12 : decode cX6_held 12 = .ok (.dload_n 0, 1) := by decide +kernel
theorem dX6_held_13 : decode cX6_held 13 = .ok (.ldc2_w 33, 3) := by decide +kernel
theorem dX6_held_16 : decode cX6_held 16 = .ok (.dcmp .g, 1) := by decide +kernel
theorem dX6_held_17 : decode cX6_held 17 = .ok (.ifCond .ge 9, 3) := by decide +kernel
theorem dX6_held_20 : decode cX6_held 20 = .ok (.ldc2_w 33, 3) := by decide +kernel
theorem dX6_held_23 : decode cX6_held 23 = .ok (.goto 4, 3) := by decide +kernel
theorem dX6_held_26 : decode cX6_held 26 = .ok (.dload_n 0, 1) := by decide +kernel
theorem dX6_held_27 : decode cX6_held 27 = .ok (.dreturn, 1) := by decide +kernel
theorem dX6_blow_0 : decode cX6_blow 0 = .ok (.aload_n 0, 1) := by decide +kernel
theorem dX6_blow_1 : decode cX6_blow 1 = .ok (.getfield 13, 3) := by decide +kernel
theorem dX6_blow_4 : decode cX6_blow 4 = .ok (.istore_n 2, 1) := by decide +kernel
theorem dX6_blow_5 : decode cX6_blow 5 = .ok (.aload_n 0, 1) := by decide +kernel
theorem dX6_blow_6 : decode cX6_blow 6 = .ok (.iload_n 1, 1) := by decide +kernel
theorem dX6_blow_7 : decode cX6_blow 7 = .ok (.putfield 13, 3) := by decide +kernel
theorem dX6_blow_10 : decode cX6_blow 10 = .ok (.iload_n 2, 1) := by decide +kernel
theorem dX6_blow_11 : decode cX6_blow 11 = .ok (.ireturn, 1) := by decide +kernel
theorem dX6_stopTraffic_0 : decode cX6_stopTraffic 0 = .ok (.aload_n 0, 1) := by decide +kernel
theorem dX6_stopTraffic_1 : decode cX6_stopTraffic 1 = .ok (.iconst 1, 1) := by decide +kernel
theorem dX6_stopTraffic_2 : decode cX6_stopTraffic 2 = .ok (.putfield 17, 3) := by decide +kernel
theorem dX6_stopTraffic_5 : decode cX6_stopTraffic 5 = .ok (.return_, 1) := by decide +kernel
theorem dX6_speed_0 : decode cX6_speed 0 = .ok (.aload_n 0, 1) := by decide +kernel
theorem dX6_speed_1 : decode cX6_speed 1 = .ok (.getfield 7, 3) := by decide +kernel
theorem dX6_speed_4 : decode cX6_speed 4 = .ok (.dreturn, 1) := by decide +kernel
set_option maxRecDepth 20000 in
theorem ggX7_init_X5_init : GoodIn wsX7_init wsX5_init := goodIn_r _ [41, 42, 2, 3, 43, 44, 45, 32, 46, 92, 93, 94] (by decide +kernel) (by decide +kernel)
set_option maxRecDepth 20000 in
theorem gX7_init_X5_init_n9 : GoodIn wsX7_init (wsX5_init) := ggX7_init_X5_init
set_option maxRecDepth 20000 in
theorem ggX7_init_X6_init : GoodIn wsX7_init wsX6_init := goodIn_r _ [48, 49, 2, 3, 50, 51, 52, 109, 110, 111] (by decide +kernel) (by decide +kernel)
set_option maxRecDepth 20000 in
theorem gX7_init_X6_init_n18 : GoodIn wsX7_init (wsX6_init) := ggX7_init_X6_init
set_option maxRecDepth 20000 in
theorem ggX7_init_X0_init : GoodIn wsX7_init wsX0_init := goodIn_r _ [54, 55, 2, 3, 43, 56, 57, 58, 59, 112, 113, 114, 115] (by decide +kernel) (by decide +kernel)
set_option maxRecDepth 20000 in
theorem gX7_init_X0_init_n25 : GoodIn wsX7_init (wsX0_init) := ggX7_init_X0_init
set_option maxRecDepth 20000 in
theorem ggX7_init_X1_init : GoodIn wsX7_init wsX1_init := goodIn_r _ [61, 62, 2, 3, 63, 64, 65, 66, 67, 68, 116, 117, 118, 119, 120, 121] (by decide +kernel) (by decide +kernel)
set_option maxRecDepth 20000 in
theorem gX7_init_X1_init_n32 : GoodIn wsX7_init (wsX1_init) := ggX7_init_X1_init
set_option maxRecDepth 20000 in
theorem ggX7_init_X4_init : GoodIn wsX7_init wsX4_init := goodIn_r _ [70, 71, 2, 3, 32, 72, 73, 74, 122, 123, 124] (by decide +kernel) (by decide +kernel)
set_option maxRecDepth 20000 in
theorem gX7_init_X4_init_n39 : GoodIn wsX7_init (wsX4_init) := ggX7_init_X4_init
set_option maxRecDepth 20000 in
theorem ggX7_init_X2_init : GoodIn wsX7_init wsX2_init := goodIn_r _ [76, 77, 2, 3, 43, 78, 79, 80, 81, 82, 83, 125, 126, 127, 128, 129, 130] (by decide +kernel) (by decide +kernel)
set_option maxRecDepth 20000 in
theorem gX7_init_X2_init_n46 : GoodIn wsX7_init (wsX2_init) := ggX7_init_X2_init
set_option maxRecDepth 20000 in
theorem ggX7_init_X3_init : GoodIn wsX7_init wsX3_init := goodIn_r _ [85, 86, 2, 3, 43, 87, 88, 89, 90, 91, 131, 132, 133, 134, 135] (by decide +kernel) (by decide +kernel)
set_option maxRecDepth 20000 in
theorem gX7_init_X3_init_n53 : GoodIn wsX7_init (wsX3_init) := ggX7_init_X3_init
theorem dX7_init_0 : decode cX7_init 0 = .ok (.aload_n 0, 1) := by decide +kernel
theorem dX7_init_1 : decode cX7_init 1 = .ok (.invokespecial 1, 3) := by decide +kernel
theorem dX7_init_4 : decode cX7_init 4 = .ok (.aload_n 0, 1) := by decide +kernel
theorem dX7_init_5 : decode cX7_init 5 = .ok (.new 7, 3) := by decide +kernel
theorem dX7_init_8 : decode cX7_init 8 = .ok (.dup, 1) := by decide +kernel
theorem dX7_init_9 : decode cX7_init 9 = .ok (.invokespecial 9, 3) := by decide +kernel
theorem dX7_init_12 : decode cX7_init 12 = .ok (.putfield 10, 3) := by decide +kernel
theorem dX7_init_15 : decode cX7_init 15 = .ok (.aload_n 0, 1) := by decide +kernel
theorem dX7_init_16 : decode cX7_init 16 = .ok (.new 16, 3) := by decide +kernel
theorem dX7_init_19 : decode cX7_init 19 = .ok (.dup, 1) := by decide +kernel
theorem dX7_init_20 : decode cX7_init 20 = .ok (.invokespecial 18, 3) := by decide +kernel
theorem dX7_init_23 : decode cX7_init 23 = .ok (.putfield 19, 3) := by decide +kernel
theorem dX7_init_26 : decode cX7_init 26 = .ok (.aload_n 0, 1) := by decide +kernel
theorem dX7_init_27 : decode cX7_init 27 = .ok (.new 23, 3) := by decide +kernel
theorem dX7_init_30 : decode cX7_init 30 = .ok (.dup, 1) := by decide +kernel
theorem dX7_init_31 : decode cX7_init 31 = .ok (.invokespecial 25, 3) := by decide +kernel
theorem dX7_init_34 : decode cX7_init 34 = .ok (.putfield 26, 3) := by decide +kernel
theorem dX7_init_37 : decode cX7_init 37 = .ok (.aload_n 0, 1) := by decide +kernel
theorem dX7_init_38 : decode cX7_init 38 = .ok (.new 30, 3) := by decide +kernel
theorem dX7_init_41 : decode cX7_init 41 = .ok (.dup, 1) := by decide +kernel
theorem dX7_init_42 : decode cX7_init 42 = .ok (.invokespecial 32, 3) := by decide +kernel
theorem dX7_init_45 : decode cX7_init 45 = .ok (.putfield 33, 3) := by decide +kernel
theorem dX7_init_48 : decode cX7_init 48 = .ok (.aload_n 0, 1) := by decide +kernel
theorem dX7_init_49 : decode cX7_init 49 = .ok (.new 37, 3) := by decide +kernel
theorem dX7_init_52 : decode cX7_init 52 = .ok (.dup, 1) := by decide +kernel
theorem dX7_init_53 : decode cX7_init 53 = .ok (.invokespecial 39, 3) := by decide +kernel
theorem dX7_init_56 : decode cX7_init 56 = .ok (.putfield 40, 3) := by decide +kernel
theorem dX7_init_59 : decode cX7_init 59 = .ok (.aload_n 0, 1) := by decide +kernel
theorem dX7_init_60 : decode cX7_init 60 = .ok (.new 44, 3) := by decide +kernel
theorem dX7_init_63 : decode cX7_init 63 = .ok (.dup, 1) := by decide +kernel
theorem dX7_init_64 : decode cX7_init 64 = .ok (.invokespecial 46, 3) := by decide +kernel
theorem dX7_init_67 : decode cX7_init 67 = .ok (.putfield 47, 3) := by decide +kernel
theorem dX7_init_70 : decode cX7_init 70 = .ok (.aload_n 0, 1) := by decide +kernel
theorem dX7_init_71 : decode cX7_init 71 = .ok (.new 51, 3) := by decide +kernel
theorem dX7_init_74 : decode cX7_init 74 = .ok (.dup, 1) := by decide +kernel
theorem dX7_init_75 : decode cX7_init 75 = .ok (.invokespecial 53, 3) := by decide +kernel
theorem dX7_init_78 : decode cX7_init 78 = .ok (.putfield 54, 3) := by decide +kernel
theorem dX7_init_81 : decode cX7_init 81 = .ok (.aload_n 0, 1) := by decide +kernel
theorem dX7_init_82 : decode cX7_init 82 = .ok (.iconst 2, 1) := by decide +kernel
theorem dX7_init_83 : decode cX7_init 83 = .ok (.newarray .boolean, 2) := by decide +kernel
theorem dX7_init_85 : decode cX7_init 85 = .ok (.putfield 58, 3) := by decide +kernel
theorem dX7_init_88 : decode cX7_init 88 = .ok (.aload_n 0, 1) := by decide +kernel
theorem dX7_init_89 : decode cX7_init 89 = .ok (.bipush 36, 2) := by decide +kernel
theorem dX7_init_91 : decode cX7_init 91 = .ok (.newarray .boolean, 2) := by decide +kernel
theorem dX7_init_93 : decode cX7_init 93 = .ok (.putfield 62, 3) := by decide +kernel
theorem dX7_init_96 : decode cX7_init 96 = .ok (.aload_n 0, 1) := by decide +kernel
theorem dX7_init_97 : decode cX7_init 97 = .ok (.bipush 6, 2) := by decide +kernel
theorem dX7_init_99 : decode cX7_init 99 = .ok (.putfield 65, 3) := by decide +kernel
theorem dX7_init_102 : decode cX7_init 102 = .ok (.aload_n 0, 1) := by decide +kernel
theorem dX7_init_103 : decode cX7_init 103 = .ok (.iconst 0, 1) := by decide +kernel
theorem dX7_init_104 : decode cX7_init 104 = .ok (.putfield 69, 3) := by decide +kernel
theorem dX7_init_107 : decode cX7_init 107 = .ok (.aload_n 0, 1) := by decide +kernel
theorem dX7_init_108 : decode cX7_init 108 = .ok (.iconst 0, 1) := by decide +kernel
theorem dX7_init_109 : decode cX7_init 109 = .ok (.putfield 73, 3) := by decide +kernel
theorem dX7_init_112 : decode cX7_init 112 = .ok (.aload_n 0, 1) := by decide +kernel
theorem dX7_init_113 : decode cX7_init 113 = .ok (.iconst (-1), 1) := by decide +kernel
theorem dX7_init_114 : decode cX7_init 114 = .ok (.putfield 76, 3) := by decide +kernel
theorem dX7_init_117 : decode cX7_init 117 = .ok (.aload_n 0, 1) := by decide +kernel
theorem dX7_init_118 : decode cX7_init 118 = .ok (.iconst 0, 1) := by decide +kernel
theorem dX7_init_119 : decode cX7_init 119 = .ok (.putfield 79, 3) := by decide +kernel
theorem dX7_init_122 : decode cX7_init 122 = .ok (.return_, 1) := by decide +kernel
set_option maxRecDepth 20000 in
theorem ggX7_build_X7_requireSegment : GoodIn wsX7_build wsX7_requireSegment := goodIn_ca (goodIn_r _ [8, 9, 10, 7, 11, 12, 13] (by decide +kernel) (by decide +kernel)) (goodIn_sub (fun _ h => List.mem_cons_of_mem _ (List.mem_append_left _ (List.mem_append_left _ (List.mem_append_right _ h)))) (by decide +kernel))
set_option maxRecDepth 20000 in
theorem gX7_build_X7_requireSegment : GoodIn wsX7_build (va_wsS RX7 82 yX7_requireSegment wsX7_requireSegment) := goodIn_app (goodIn_of _ (by decide +kernel)) ggX7_build_X7_requireSegment
set_option maxRecDepth 20000 in
theorem ggX7_build_X7_requireRange : GoodIn wsX7_build wsX7_requireRange := goodIn_ca (goodIn_r _ [16, 17, 18] (by decide +kernel) (by decide +kernel)) (goodIn_sub (fun _ h => List.mem_cons_of_mem _ (List.mem_append_left _ (List.mem_append_right _ h))) (by decide +kernel))
set_option maxRecDepth 20000 in
theorem gX7_build_X7_requireRange : GoodIn wsX7_build (va_wsS RX7 86 yX7_requireRange wsX7_requireRange) := goodIn_app (goodIn_of _ (by decide +kernel)) ggX7_build_X7_requireRange
set_option maxRecDepth 20000 in
theorem ggX7_build_X7_requireState : GoodIn wsX7_build wsX7_requireState := goodIn_ca (goodIn_r _ [21, 22, 23] (by decide +kernel) (by decide +kernel)) (goodIn_sub (fun _ h => List.mem_cons_of_mem _ (List.mem_append_right _ h)) (by decide +kernel))
set_option maxRecDepth 20000 in
theorem gX7_build_X7_requireState : GoodIn wsX7_build (va_wsS RX7 90 yX7_requireState wsX7_requireState) := goodIn_app (goodIn_of _ (by decide +kernel)) ggX7_build_X7_requireState
set_option maxRecDepth 20000 in
theorem ggX7_build_X4_place : GoodIn wsX7_build wsX4_place := goodIn_r _ [28, 29, 30, 31, 46, 47, 48] (by decide +kernel) (by decide +kernel)
set_option maxRecDepth 20000 in
theorem gX7_build_X4_place : GoodIn wsX7_build (wsV RX7 94 RX4 yX4_place wsX4_place) := goodIn_app (goodIn_of _ (by decide +kernel)) ggX7_build_X4_place
theorem dX7_build_0 : decode cX7_build 0 = .ok (.iload_n 2, 1) := by decide +kernel
theorem dX7_build_1 : decode cX7_build 1 = .ok (.invokestatic 82, 3) := by decide +kernel
theorem dX7_build_4 : decode cX7_build 4 = .ok (.iload_n 1, 1) := by decide +kernel
theorem dX7_build_5 : decode cX7_build 5 = .ok (.iconst 0, 1) := by decide +kernel
theorem dX7_build_6 : decode cX7_build 6 = .ok (.sipush 4095, 3) := by decide +kernel
theorem dX7_build_9 : decode cX7_build 9 = .ok (.invokestatic 86, 3) := by decide +kernel
theorem dX7_build_12 : decode cX7_build 12 = .ok (.aload_n 0, 1) := by decide +kernel
theorem dX7_build_13 : decode cX7_build 13 = .ok (.getfield 79, 3) := by decide +kernel
theorem dX7_build_16 : decode cX7_build 16 = .ok (.ifCond .ne 7, 3) := by decide +kernel
theorem dX7_build_19 : decode cX7_build 19 = .ok (.iconst 1, 1) := by decide +kernel
theorem dX7_build_20 : decode cX7_build 20 = .ok (.goto 4, 3) := by decide +kernel
theorem dX7_build_23 : decode cX7_build 23 = .ok (.iconst 0, 1) := by decide +kernel
theorem dX7_build_24 : decode cX7_build 24 = .ok (.invokestatic 90, 3) := by decide +kernel
theorem dX7_build_27 : decode cX7_build 27 = .ok (.aload_n 0, 1) := by decide +kernel
theorem dX7_build_28 : decode cX7_build 28 = .ok (.getfield 40, 3) := by decide +kernel
theorem dX7_build_31 : decode cX7_build 31 = .ok (.iload_n 1, 1) := by decide +kernel
theorem dX7_build_32 : decode cX7_build 32 = .ok (.invokevirtual 94, 3) := by decide +kernel
theorem dX7_build_35 : decode cX7_build 35 = .ok (.aload_n 0, 1) := by decide +kernel
theorem dX7_build_36 : decode cX7_build 36 = .ok (.iload_n 2, 1) := by decide +kernel
theorem dX7_build_37 : decode cX7_build 37 = .ok (.putfield 65, 3) := by decide +kernel
theorem dX7_build_40 : decode cX7_build 40 = .ok (.aload_n 0, 1) := by decide +kernel
theorem dX7_build_41 : decode cX7_build 41 = .ok (.iconst 0, 1) := by decide +kernel
theorem dX7_build_42 : decode cX7_build 42 = .ok (.putfield 69, 3) := by decide +kernel
theorem dX7_build_45 : decode cX7_build 45 = .ok (.return_, 1) := by decide +kernel
set_option maxRecDepth 20000 in
theorem ggX7_people_X7_requireSegment : GoodIn wsX7_people wsX7_requireSegment := goodIn_ca (goodIn_r _ [5, 6, 7, 4, 8, 9, 10] (by decide +kernel) (by decide +kernel)) (goodIn_sub (fun _ h => List.mem_cons_of_mem _ (List.mem_append_left _ (List.mem_append_left _ (List.mem_append_right _ h)))) (by decide +kernel))
set_option maxRecDepth 20000 in
theorem gX7_people_X7_requireSegment : GoodIn wsX7_people (va_wsS RX7 82 yX7_requireSegment wsX7_requireSegment) := goodIn_app (goodIn_of _ (by decide +kernel)) ggX7_people_X7_requireSegment
set_option maxRecDepth 20000 in
theorem ggX7_people_X7_requireRange : GoodIn wsX7_people wsX7_requireRange := goodIn_ca (goodIn_r _ [13, 14, 15] (by decide +kernel) (by decide +kernel)) (goodIn_sub (fun _ h => List.mem_cons_of_mem _ (List.mem_append_left _ (List.mem_append_right _ h))) (by decide +kernel))
set_option maxRecDepth 20000 in
theorem gX7_people_X7_requireRange : GoodIn wsX7_people (va_wsS RX7 86 yX7_requireRange wsX7_requireRange) := goodIn_app (goodIn_of _ (by decide +kernel)) ggX7_people_X7_requireRange
set_option maxRecDepth 20000 in
theorem ggX7_people_X3_hasRoomFor : GoodIn wsX7_people wsX3_hasRoomFor := goodIn_r _ [20, 21, 52, 53, 54, 55, 56] (by decide +kernel) (by decide +kernel)
set_option maxRecDepth 20000 in
theorem gX7_people_X3_hasRoomFor : GoodIn wsX7_people (wsV RX7 97 RX3 yX3_hasRoomFor wsX3_hasRoomFor) := goodIn_app (goodIn_of _ (by decide +kernel)) ggX7_people_X3_hasRoomFor
set_option maxRecDepth 20000 in
theorem ggX7_people_X7_requireState : GoodIn wsX7_people wsX7_requireState := goodIn_ca (goodIn_r _ [24, 25, 26] (by decide +kernel) (by decide +kernel)) (goodIn_sub (fun _ h => List.mem_cons_of_mem _ (List.mem_append_right _ h)) (by decide +kernel))
set_option maxRecDepth 20000 in
theorem gX7_people_X7_requireState : GoodIn wsX7_people (va_wsS RX7 90 yX7_requireState wsX7_requireState) := goodIn_app (goodIn_of _ (by decide +kernel)) ggX7_people_X7_requireState
set_option maxRecDepth 20000 in
theorem ggX7_people_X3_seat : GoodIn wsX7_people wsX3_seat := goodIn_r _ [30, 21, 31, 32, 33, 52, 53, 54, 55, 56] (by decide +kernel) (by decide +kernel)
set_option maxRecDepth 20000 in
theorem gX7_people_X3_seat : GoodIn wsX7_people (wsV RX7 101 RX3 yX3_seat wsX3_seat) := goodIn_app (goodIn_of _ (by decide +kernel)) ggX7_people_X3_seat
set_option maxRecDepth 20000 in
theorem ggX7_people_X3_size : GoodIn wsX7_people wsX3_size := goodIn_r _ [37, 21, 52, 53, 54, 55, 56] (by decide +kernel) (by decide +kernel)
set_option maxRecDepth 20000 in
theorem gX7_people_X3_size : GoodIn wsX7_people (wsV RX7 105 RX3 yX3_size wsX3_size) := goodIn_app (goodIn_of _ (by decide +kernel)) ggX7_people_X3_size
theorem dX7_people_0 : decode cX7_people 0 = .ok (.iload_n 1, 1) := by decide +kernel
theorem dX7_people_1 : decode cX7_people 1 = .ok (.invokestatic 82, 3) := by decide +kernel
theorem dX7_people_4 : decode cX7_people 4 = .ok (.iload_n 2, 1) := by decide +kernel
theorem dX7_people_5 : decode cX7_people 5 = .ok (.iconst 1, 1) := by decide +kernel
theorem dX7_people_6 : decode cX7_people 6 = .ok (.bipush 30, 2) := by decide +kernel
theorem dX7_people_8 : decode cX7_people 8 = .ok (.invokestatic 86, 3) := by decide +kernel
theorem dX7_people_11 : decode cX7_people 11 = .ok (.aload_n 0, 1) := by decide +kernel
theorem dX7_people_12 : decode cX7_people 12 = .ok (.getfield 54, 3) := by decide +kernel
theorem dX7_people_15 : decode cX7_people 15 = .ok (.iload_n 2, 1) := by decide +kernel
theorem dX7_people_16 : decode cX7_people 16 = .ok (.invokevirtual 97, 3) := by decide +kernel
theorem dX7_people_19 : decode cX7_people 19 = .ok (.invokestatic 90, 3) := by decide +kernel
theorem dX7_people_22 : decode cX7_people 22 = .ok (.aload_n 0, 1) := by decide +kernel
theorem dX7_people_23 : decode cX7_people 23 = .ok (.getfield 54, 3) := by decide +kernel
theorem dX7_people_26 : decode cX7_people 26 = .ok (.iload_n 1, 1) := by decide +kernel
theorem dX7_people_27 : decode cX7_people 27 = .ok (.iload_n 2, 1) := by decide +kernel
theorem dX7_people_28 : decode cX7_people 28 = .ok (.invokevirtual 101, 3) := by decide +kernel
theorem dX7_people_31 : decode cX7_people 31 = .ok (.aload_n 0, 1) := by decide +kernel
theorem dX7_people_32 : decode cX7_people 32 = .ok (.getfield 54, 3) := by decide +kernel
theorem dX7_people_35 : decode cX7_people 35 = .ok (.invokevirtual 105, 3) := by decide +kernel
theorem dX7_people_38 : decode cX7_people 38 = .ok (.ireturn, 1) := by decide +kernel
set_option maxRecDepth 20000 in
theorem ggX7_wind_X7_requireRange : GoodIn wsX7_wind wsX7_requireRange := goodIn_ca (goodIn_r _ [5, 6, 7] (by decide +kernel) (by decide +kernel)) (goodIn_sub (fun _ h => List.mem_cons_of_mem _ (List.mem_append_right _ h)) (by decide +kernel))
set_option maxRecDepth 20000 in
theorem gX7_wind_X7_requireRange : GoodIn wsX7_wind (va_wsS RX7 86 yX7_requireRange wsX7_requireRange) := goodIn_app (goodIn_of _ (by decide +kernel)) ggX7_wind_X7_requireRange
set_option maxRecDepth 20000 in
theorem ggX7_wind_X6_blow : GoodIn wsX7_wind wsX6_blow := goodIn_r _ [12, 13, 28, 29, 30] (by decide +kernel) (by decide +kernel)
set_option maxRecDepth 20000 in
theorem gX7_wind_X6_blow : GoodIn wsX7_wind (wsV RX7 109 RX6 yX6_blow wsX6_blow) := goodIn_app (goodIn_of _ (by decide +kernel)) ggX7_wind_X6_blow
theorem dX7_wind_0 : decode cX7_wind 0 = .ok (.iload_n 1, 1) := by decide +kernel
theorem dX7_wind_1 : decode cX7_wind 1 = .ok (.bipush (-40), 2) := by decide +kernel
theorem dX7_wind_3 : decode cX7_wind 3 = .ok (.bipush 40, 2) := by decide +kernel
theorem dX7_wind_5 : decode cX7_wind 5 = .ok (.invokestatic 86, 3) := by decide +kernel
theorem dX7_wind_8 : decode cX7_wind 8 = .ok (.aload_n 0, 1) := by decide +kernel
theorem dX7_wind_9 : decode cX7_wind 9 = .ok (.getfield 19, 3) := by decide +kernel
theorem dX7_wind_12 : decode cX7_wind 12 = .ok (.iload_n 1, 1) := by decide +kernel
theorem dX7_wind_13 : decode cX7_wind 13 = .ok (.invokevirtual 109, 3) := by decide +kernel
theorem dX7_wind_16 : decode cX7_wind 16 = .ok (.ireturn, 1) := by decide +kernel
set_option maxRecDepth 20000 in
theorem ggX7_fire_X7_requireSegment : GoodIn wsX7_fire wsX7_requireSegment := goodIn_ca (goodIn_r _ [5, 6, 7, 4, 8, 9, 10] (by decide +kernel) (by decide +kernel)) (goodIn_sub (fun _ h => List.mem_cons_of_mem _ (List.mem_append_left _ (List.mem_append_left _ (List.mem_append_right _ h)))) (by decide +kernel))
set_option maxRecDepth 20000 in
theorem gX7_fire_X7_requireSegment : GoodIn wsX7_fire (va_wsS RX7 82 yX7_requireSegment wsX7_requireSegment) := goodIn_app (goodIn_of _ (by decide +kernel)) ggX7_fire_X7_requireSegment
set_option maxRecDepth 20000 in
theorem ggX7_fire_X7_requireRange : GoodIn wsX7_fire wsX7_requireRange := goodIn_ca (goodIn_r _ [13, 14, 15] (by decide +kernel) (by decide +kernel)) (goodIn_sub (fun _ h => List.mem_cons_of_mem _ (List.mem_append_left _ (List.mem_append_right _ h))) (by decide +kernel))
set_option maxRecDepth 20000 in
theorem gX7_fire_X7_requireRange : GoodIn wsX7_fire (va_wsS RX7 86 yX7_requireRange wsX7_requireRange) := goodIn_app (goodIn_of _ (by decide +kernel)) ggX7_fire_X7_requireRange
set_option maxRecDepth 20000 in
theorem ggX7_fire_X1_isBurning : GoodIn wsX7_fire wsX1_isBurning := goodIn_r _ [20, 21, 46, 47, 48, 49, 50, 51] (by decide +kernel) (by decide +kernel)
set_option maxRecDepth 20000 in
theorem gX7_fire_X1_isBurning : GoodIn wsX7_fire (wsV RX7 113 RX1 yX1_isBurning wsX1_isBurning) := goodIn_app (goodIn_of _ (by decide +kernel)) ggX7_fire_X1_isBurning
set_option maxRecDepth 20000 in
theorem ggX7_fire_X7_requireState : GoodIn wsX7_fire wsX7_requireState := goodIn_ca (goodIn_r _ [24, 25, 26] (by decide +kernel) (by decide +kernel)) (goodIn_sub (fun _ h => List.mem_cons_of_mem _ (List.mem_append_right _ h)) (by decide +kernel))
set_option maxRecDepth 20000 in
theorem gX7_fire_X7_requireState : GoodIn wsX7_fire (va_wsS RX7 90 yX7_requireState wsX7_requireState) := goodIn_app (goodIn_of _ (by decide +kernel)) ggX7_fire_X7_requireState
set_option maxRecDepth 20000 in
theorem ggX7_fire_X1_begin : GoodIn wsX7_fire wsX1_begin := goodIn_r _ [30, 21, 31, 46, 47, 48, 49, 50, 51] (by decide +kernel) (by decide +kernel)
set_option maxRecDepth 20000 in
theorem gX7_fire_X1_begin : GoodIn wsX7_fire (wsV RX7 117 RX1 yX1_begin wsX1_begin) := goodIn_app (goodIn_of _ (by decide +kernel)) ggX7_fire_X1_begin
theorem dX7_fire_0 : decode cX7_fire 0 = .ok (.iload_n 1, 1) := by decide +kernel
theorem dX7_fire_1 : decode cX7_fire 1 = .ok (.invokestatic 82, 3) := by decide +kernel
theorem dX7_fire_4 : decode cX7_fire 4 = .ok (.iload_n 2, 1) := by decide +kernel
theorem dX7_fire_5 : decode cX7_fire 5 = .ok (.iconst 1, 1) := by decide +kernel
theorem dX7_fire_6 : decode cX7_fire 6 = .ok (.sipush 200, 3) := by decide +kernel
theorem dX7_fire_9 : decode cX7_fire 9 = .ok (.invokestatic 86, 3) := by decide +kernel
theorem dX7_fire_12 : decode cX7_fire 12 = .ok (.aload_n 0, 1) := by decide +kernel
theorem dX7_fire_13 : decode cX7_fire 13 = .ok (.getfield 33, 3) := by decide +kernel
theorem dX7_fire_16 : decode cX7_fire 16 = .ok (.invokevirtual 113, 3) := by decide +kernel
theorem dX7_fire_19 : decode cX7_fire 19 = .ok (.ifCond .ne 7, 3) := by decide +kernel
theorem dX7_fire_22 : decode cX7_fire 22 = .ok (.iconst 1, 1) := by decide +kernel
theorem dX7_fire_23 : decode cX7_fire 23 = .ok (.goto 4, 3) := by decide +kernel
theorem dX7_fire_26 : decode cX7_fire 26 = .ok (.iconst 0, 1) := by decide +kernel
theorem dX7_fire_27 : decode cX7_fire 27 = .ok (.invokestatic 90, 3) := by decide +kernel
theorem dX7_fire_30 : decode cX7_fire 30 = .ok (.aload_n 0, 1) := by decide +kernel
theorem dX7_fire_31 : decode cX7_fire 31 = .ok (.getfield 33, 3) := by decide +kernel
theorem dX7_fire_34 : decode cX7_fire 34 = .ok (.iload_n 1, 1) := by decide +kernel
theorem dX7_fire_35 : decode cX7_fire 35 = .ok (.iload_n 2, 1) := by decide +kernel
theorem dX7_fire_36 : decode cX7_fire 36 = .ok (.invokevirtual 117, 3) := by decide +kernel
theorem dX7_fire_39 : decode cX7_fire 39 = .ok (.return_, 1) := by decide +kernel
set_option maxRecDepth 20000 in
theorem ggX7_feed_X7_requireIndex : GoodIn wsX7_feed wsX7_requireIndex := goodIn_ca (goodIn_r _ [5, 6, 7] (by decide +kernel) (by decide +kernel)) (goodIn_sub (fun _ h => List.mem_cons_of_mem _ (List.mem_append_right _ h)) (by decide +kernel))
set_option maxRecDepth 20000 in
theorem gX7_feed_X7_requireIndex : GoodIn wsX7_feed (va_wsS RX7 120 yX7_requireIndex wsX7_requireIndex) := goodIn_app (goodIn_of _ (by decide +kernel)) ggX7_feed_X7_requireIndex
set_option maxRecDepth 20000 in
theorem ggX7_feed_X7_hasPower : GoodIn wsX7_feed wsX7_hasPower := goodIn_r _ [11, 1, 12, 13, 14, 15, 16, 17, 18, 19, 20, 21, 22, 23, 24, 25] (by decide +kernel) (by decide +kernel)
set_option maxRecDepth 20000 in
theorem gX7_feed_X7_hasPower : GoodIn wsX7_feed (wsV RX7 123 RX7 yX7_hasPower wsX7_hasPower) := goodIn_app (goodIn_of _ (by decide +kernel)) ggX7_feed_X7_hasPower
theorem dX7_feed_0 : decode cX7_feed 0 = .ok (.iload_n 1, 1) := by decide +kernel
theorem dX7_feed_1 : decode cX7_feed 1 = .ok (.iconst 2, 1) := by decide +kernel
theorem dX7_feed_2 : decode cX7_feed 2 = .ok (.invokestatic 120, 3) := by decide +kernel
theorem dX7_feed_5 : decode cX7_feed 5 = .ok (.aload_n 0, 1) := by decide +kernel
theorem dX7_feed_6 : decode cX7_feed 6 = .ok (.getfield 58, 3) := by decide +kernel
theorem dX7_feed_9 : decode cX7_feed 9 = .ok (.iload_n 1, 1) := by decide +kernel
theorem dX7_feed_10 : decode cX7_feed 10 = .ok (.iload_n 2, 1) := by decide +kernel
theorem dX7_feed_11 : decode cX7_feed 11 = .ok (.ifCond .ne 7, 3) := by decide +kernel
theorem dX7_feed_14 : decode cX7_feed 14 = .ok (.iconst 1, 1) := by decide +kernel
theorem dX7_feed_15 : decode cX7_feed 15 = .ok (.goto 4, 3) := by decide +kernel
theorem dX7_feed_18 : decode cX7_feed 18 = .ok (.iconst 0, 1) := by decide +kernel
theorem dX7_feed_19 : decode cX7_feed 19 = .ok (.bastore, 1) := by decide +kernel
theorem dX7_feed_20 : decode cX7_feed 20 = .ok (.aload_n 0, 1) := by decide +kernel
theorem dX7_feed_21 : decode cX7_feed 21 = .ok (.invokevirtual 123, 3) := by decide +kernel
theorem dX7_feed_24 : decode cX7_feed 24 = .ok (.ireturn, 1) := by decide +kernel
set_option maxRecDepth 20000 in
theorem ggX7_failFan_X7_requireIndex : GoodIn wsX7_failFan wsX7_requireIndex := goodIn_ca (goodIn_r _ [5, 6, 7] (by decide +kernel) (by decide +kernel)) (goodIn_sub (fun _ h => List.mem_cons_of_mem _ (List.mem_append_right _ h)) (by decide +kernel))
set_option maxRecDepth 20000 in
theorem gX7_failFan_X7_requireIndex : GoodIn wsX7_failFan (va_wsS RX7 120 yX7_requireIndex wsX7_requireIndex) := goodIn_app (goodIn_of _ (by decide +kernel)) ggX7_failFan_X7_requireIndex
set_option maxRecDepth 20000 in
theorem ggX7_failFan_X5_setFailing : GoodIn wsX7_failFan wsX5_setFailing := goodIn_r _ [12, 13, 14, 15, 11, 16, 36, 37, 38] (by decide +kernel) (by decide +kernel)
set_option maxRecDepth 20000 in
theorem gX7_failFan_X5_setFailing : GoodIn wsX7_failFan (wsV RX7 126 RX5 yX5_setFailing wsX5_setFailing) := goodIn_app (goodIn_of _ (by decide +kernel)) ggX7_failFan_X5_setFailing
set_option maxRecDepth 20000 in
theorem ggX7_failFan_X5_stateOf : GoodIn wsX7_failFan wsX5_stateOf := goodIn_r _ [20, 21, 14, 15, 11, 16, 36, 37, 38] (by decide +kernel) (by decide +kernel)
set_option maxRecDepth 20000 in
theorem gX7_failFan_X5_stateOf : GoodIn wsX7_failFan (wsV RX7 130 RX5 yX5_stateOf wsX5_stateOf) := goodIn_app (goodIn_of _ (by decide +kernel)) ggX7_failFan_X5_stateOf
theorem dX7_failFan_0 : decode cX7_failFan 0 = .ok (.iload_n 1, 1) := by decide +kernel
theorem dX7_failFan_1 : decode cX7_failFan 1 = .ok (.iconst 3, 1) := by decide +kernel
theorem dX7_failFan_2 : decode cX7_failFan 2 = .ok (.invokestatic 120, 3) := by decide +kernel
theorem dX7_failFan_5 : decode cX7_failFan 5 = .ok (.aload_n 0, 1) := by decide +kernel
theorem dX7_failFan_6 : decode cX7_failFan 6 = .ok (.getfield 10, 3) := by decide +kernel
theorem dX7_failFan_9 : decode cX7_failFan 9 = .ok (.iload_n 1, 1) := by decide +kernel
theorem dX7_failFan_10 : decode cX7_failFan 10 = .ok (.iload_n 2, 1) := by decide +kernel
theorem dX7_failFan_11 : decode cX7_failFan 11 = .ok (.invokevirtual 126, 3) := by decide +kernel
theorem dX7_failFan_14 : decode cX7_failFan 14 = .ok (.aload_n 0, 1) := by decide +kernel
theorem dX7_failFan_15 : decode cX7_failFan 15 = .ok (.getfield 10, 3) := by decide +kernel
theorem dX7_failFan_18 : decode cX7_failFan 18 = .ok (.iload_n 1, 1) := by decide +kernel
theorem dX7_failFan_19 : decode cX7_failFan 19 = .ok (.invokevirtual 130, 3) := by decide +kernel
theorem dX7_failFan_22 : decode cX7_failFan 22 = .ok (.ireturn, 1) := by decide +kernel
set_option maxRecDepth 20000 in
theorem ggX7_failDoor_X7_requireDoor : GoodIn wsX7_failDoor wsX7_requireDoor := goodIn_ca (goodIn_r _ [6, 7, 8, 1, 9, 10, 11, 12, 13, 14, 15, 5, 16, 27, 28, 29, 30, 31, 32, 33, 34, 35, 36, 37, 38, 39, 40, 41, 42, 43] (by decide +kernel) (by decide +kernel)) (goodIn_sub (fun _ h => List.mem_cons_of_mem _ (List.mem_append_right _ h)) (by decide +kernel))
set_option maxRecDepth 20000 in
theorem gX7_failDoor_X7_requireDoor : GoodIn wsX7_failDoor (wsV RX7 133 RX7 yX7_requireDoor wsX7_requireDoor) := goodIn_app (goodIn_of _ (by decide +kernel)) ggX7_failDoor_X7_requireDoor
set_option maxRecDepth 20000 in
theorem ggX7_failDoor_X4_setFailing : GoodIn wsX7_failDoor wsX4_setFailing := goodIn_r _ [20, 21, 15, 5, 16, 41, 42, 43] (by decide +kernel) (by decide +kernel)
set_option maxRecDepth 20000 in
theorem gX7_failDoor_X4_setFailing : GoodIn wsX7_failDoor (wsV RX7 136 RX4 yX4_setFailing wsX4_setFailing) := goodIn_app (goodIn_of _ (by decide +kernel)) ggX7_failDoor_X4_setFailing
set_option maxRecDepth 20000 in
theorem ggX7_failDoor_X4_isOpen : GoodIn wsX7_failDoor wsX4_isOpen := goodIn_r _ [25, 26, 15, 5, 16, 41, 42, 43] (by decide +kernel) (by decide +kernel)
set_option maxRecDepth 20000 in
theorem gX7_failDoor_X4_isOpen : GoodIn wsX7_failDoor (wsV RX7 137 RX4 yX4_isOpen wsX4_isOpen) := goodIn_app (goodIn_of _ (by decide +kernel)) ggX7_failDoor_X4_isOpen
theorem dX7_failDoor_0 : decode cX7_failDoor 0 = .ok (.aload_n 0, 1) := by decide +kernel
theorem dX7_failDoor_1 : decode cX7_failDoor 1 = .ok (.iload_n 1, 1) := by decide +kernel
theorem dX7_failDoor_2 : decode cX7_failDoor 2 = .ok (.invokevirtual 133, 3) := by decide +kernel
theorem dX7_failDoor_5 : decode cX7_failDoor 5 = .ok (.aload_n 0, 1) := by decide +kernel
theorem dX7_failDoor_6 : decode cX7_failDoor 6 = .ok (.getfield 40, 3) := by decide +kernel
theorem dX7_failDoor_9 : decode cX7_failDoor 9 = .ok (.iload_n 1, 1) := by decide +kernel
theorem dX7_failDoor_10 : decode cX7_failDoor 10 = .ok (.iload_n 2, 1) := by decide +kernel
theorem dX7_failDoor_11 : decode cX7_failDoor 11 = .ok (.invokevirtual 136, 3) := by decide +kernel
theorem dX7_failDoor_14 : decode cX7_failDoor 14 = .ok (.aload_n 0, 1) := by decide +kernel
theorem dX7_failDoor_15 : decode cX7_failDoor 15 = .ok (.getfield 40, 3) := by decide +kernel
theorem dX7_failDoor_18 : decode cX7_failDoor 18 = .ok (.iload_n 1, 1) := by decide +kernel
theorem dX7_failDoor_19 : decode cX7_failDoor 19 = .ok (.invokevirtual 137, 3) := by decide +kernel
theorem dX7_failDoor_22 : decode cX7_failDoor 22 = .ok (.ireturn, 1) := by decide +kernel
set_option maxRecDepth 20000 in
theorem ggX7_failDetector_X7_requireSegment : GoodIn wsX7_failDetector wsX7_requireSegment := goodIn_ca (goodIn_r _ [5, 6, 7, 4, 8, 9, 10] (by decide +kernel) (by decide +kernel)) (goodIn_sub (fun _ h => List.mem_cons_of_mem _ (List.mem_append_right _ h)) (by decide +kernel))
set_option maxRecDepth 20000 in
theorem gX7_failDetector_X7_requireSegment : GoodIn wsX7_failDetector (va_wsS RX7 82 yX7_requireSegment wsX7_requireSegment) := goodIn_app (goodIn_of _ (by decide +kernel)) ggX7_failDetector_X7_requireSegment
set_option maxRecDepth 20000 in
theorem ggX7_failDetector_X7_requireIndex : GoodIn wsX7_failDetector wsX7_requireIndex := goodIn_ca (goodIn_r _ [8, 9, 10] (by decide +kernel) (by decide +kernel)) (goodIn_sub (fun _ h => List.mem_cons_of_mem _ (List.mem_append_right _ h)) (by decide +kernel))
set_option maxRecDepth 20000 in
theorem gX7_failDetector_X7_requireIndex : GoodIn wsX7_failDetector (va_wsS RX7 120 yX7_requireIndex wsX7_requireIndex) := goodIn_app (goodIn_of _ (by decide +kernel)) ggX7_failDetector_X7_requireIndex
theorem dX7_failDetector_0 : decode cX7_failDetector 0 = .ok (.iload_n 1, 1) := by decide +kernel
theorem dX7_failDetector_1 : decode cX7_failDetector 1 = .ok (.invokestatic 82, 3) := by decide +kernel
theorem dX7_failDetector_4 : decode cX7_failDetector 4 = .ok (.iload_n 2, 1) := by decide +kernel
theorem dX7_failDetector_5 : decode cX7_failDetector 5 = .ok (.iconst 3, 1) := by decide +kernel
theorem dX7_failDetector_6 : decode cX7_failDetector 6 = .ok (.invokestatic 120, 3) := by decide +kernel
theorem dX7_failDetector_9 : decode cX7_failDetector 9 = .ok (.aload_n 0, 1) := by decide +kernel
theorem dX7_failDetector_10 : decode cX7_failDetector 10 = .ok (.getfield 62, 3) := by decide +kernel
theorem dX7_failDetector_13 : decode cX7_failDetector 13 = .ok (.iload_n 1, 1) := by decide +kernel
theorem dX7_failDetector_14 : decode cX7_failDetector 14 = .ok (.iconst 3, 1) := by decide +kernel
theorem dX7_failDetector_15 : decode cX7_failDetector 15 = .ok (.imul, 1) := by decide +kernel
theorem dX7_failDetector_16 : decode cX7_failDetector 16 = .ok (.iload_n 2, 1) := by decide +kernel
theorem dX7_failDetector_17 : decode cX7_failDetector 17 = .ok (.iadd, 1) := by decide +kernel
theorem dX7_failDetector_18 : decode cX7_failDetector 18 = .ok (.iload_n 3, 1) := by decide +kernel
theorem dX7_failDetector_19 : decode cX7_failDetector 19 = .ok (.bastore, 1) := by decide +kernel
theorem dX7_failDetector_20 : decode cX7_failDetector 20 = .ok (.return_, 1) := by decide +kernel
set_option maxRecDepth 20000 in
theorem ggX7_act_X7_requireRange : GoodIn wsX7_act wsX7_requireRange := goodIn_ca (goodIn_r _ [6, 7, 8] (by decide +kernel) (by decide +kernel)) (goodIn_sub (fun _ h => List.mem_cons_of_mem _ (List.mem_append_left _ (List.mem_append_right _ h))) (by decide +kernel))
set_option maxRecDepth 20000 in
theorem gX7_act_X7_requireRange : GoodIn wsX7_act (va_wsS RX7 86 yX7_requireRange wsX7_requireRange) := goodIn_app (goodIn_of _ (by decide +kernel)) ggX7_act_X7_requireRange
set_option maxRecDepth 20000 in
theorem ggX7_act_X2_hasRoom : GoodIn wsX7_act wsX2_hasRoom := goodIn_r _ [13, 14, 42, 43, 44, 45, 46, 47] (by decide +kernel) (by decide +kernel)
set_option maxRecDepth 20000 in
theorem gX7_act_X2_hasRoom : GoodIn wsX7_act (wsV RX7 140 RX2 yX2_hasRoom wsX2_hasRoom) := goodIn_app (goodIn_of _ (by decide +kernel)) ggX7_act_X2_hasRoom
set_option maxRecDepth 20000 in
theorem ggX7_act_X7_requireState : GoodIn wsX7_act wsX7_requireState := goodIn_ca (goodIn_r _ [17, 18, 19] (by decide +kernel) (by decide +kernel)) (goodIn_sub (fun _ h => List.mem_cons_of_mem _ (List.mem_append_right _ h)) (by decide +kernel))
set_option maxRecDepth 20000 in
theorem gX7_act_X7_requireState : GoodIn wsX7_act (va_wsS RX7 90 yX7_requireState wsX7_requireState) := goodIn_app (goodIn_of _ (by decide +kernel)) ggX7_act_X7_requireState
set_option maxRecDepth 20000 in
theorem ggX7_act_X2_put : GoodIn wsX7_act wsX2_put := goodIn_r _ [23, 24, 14, 25, 26, 27, 10, 11, 12, 13, 42, 43, 44, 45, 46, 47] (by decide +kernel) (by decide +kernel)
set_option maxRecDepth 20000 in
theorem gX7_act_X2_put : GoodIn wsX7_act (wsV RX7 143 RX2 yX2_put wsX2_put) := goodIn_app (goodIn_of _ (by decide +kernel)) ggX7_act_X2_put
theorem dX7_act_0 : decode cX7_act 0 = .ok (.iload_n 1, 1) := by decide +kernel
theorem dX7_act_1 : decode cX7_act 1 = .ok (.iconst 0, 1) := by decide +kernel
theorem dX7_act_2 : decode cX7_act 2 = .ok (.bipush 7, 2) := by decide +kernel
theorem dX7_act_4 : decode cX7_act 4 = .ok (.invokestatic 86, 3) := by decide +kernel
theorem dX7_act_7 : decode cX7_act 7 = .ok (.iload_n 2, 1) := by decide +kernel
theorem dX7_act_8 : decode cX7_act 8 = .ok (.iconst 0, 1) := by decide +kernel
theorem dX7_act_9 : decode cX7_act 9 = .ok (.bipush 20, 2) := by decide +kernel
theorem dX7_act_11 : decode cX7_act 11 = .ok (.invokestatic 86, 3) := by decide +kernel
theorem dX7_act_14 : decode cX7_act 14 = .ok (.aload_n 0, 1) := by decide +kernel
theorem dX7_act_15 : decode cX7_act 15 = .ok (.getfield 76, 3) := by decide +kernel
theorem dX7_act_18 : decode cX7_act 18 = .ok (.iconst (-1), 1) := by decide +kernel
theorem dX7_act_19 : decode cX7_act 19 = .ok (.if_icmp .ne 17, 3) := by decide +kernel
theorem dX7_act_22 : decode cX7_act 22 = .ok (.aload_n 0, 1) := by decide +kernel
theorem dX7_act_23 : decode cX7_act 23 = .ok (.getfield 47, 3) := by decide +kernel
theorem dX7_act_26 : decode cX7_act 26 = .ok (.invokevirtual 140, 3) := by decide +kernel
theorem dX7_act_29 : decode cX7_act 29 = .ok (.ifCond .eq 7, 3) := by decide +kernel
theorem dX7_act_32 : decode cX7_act 32 = .ok (.iconst 1, 1) := by decide +kernel
theorem dX7_act_33 : decode cX7_act 33 = .ok (.goto 4, 3) := by decide +kernel
theorem dX7_act_36 : decode cX7_act 36 = .ok (.iconst 0, 1) := by decide +kernel
theorem dX7_act_37 : decode cX7_act 37 = .ok (.invokestatic 90, 3) := by decide +kernel
theorem dX7_act_40 : decode cX7_act 40 = .ok (.aload_n 0, 1) := by decide +kernel
theorem dX7_act_41 : decode cX7_act 41 = .ok (.getfield 47, 3) := by decide +kernel
theorem dX7_act_44 : decode cX7_act 44 = .ok (.iload_n 1, 1) := by decide +kernel
theorem dX7_act_45 : decode cX7_act 45 = .ok (.iload_n 2, 1) := by decide +kernel
theorem dX7_act_46 : decode cX7_act 46 = .ok (.iload_n 3, 1) := by decide +kernel
theorem dX7_act_47 : decode cX7_act 47 = .ok (.invokevirtual 143, 3) := by decide +kernel
theorem dX7_act_50 : decode cX7_act 50 = .ok (.ireturn, 1) := by decide +kernel
set_option maxRecDepth 20000 in
theorem ggX7_command_X7_requireIndex : GoodIn wsX7_command wsX7_requireIndex := goodIn_ca (goodIn_r _ [5, 6, 7] (by decide +kernel) (by decide +kernel)) (goodIn_sub (fun _ h => List.mem_cons_of_mem _ (List.mem_append_left _ (List.mem_append_right _ h))) (by decide +kernel))
set_option maxRecDepth 20000 in
theorem gX7_command_X7_requireIndex : GoodIn wsX7_command (va_wsS RX7 120 yX7_requireIndex wsX7_requireIndex) := goodIn_app (goodIn_of _ (by decide +kernel)) ggX7_command_X7_requireIndex
set_option maxRecDepth 20000 in
theorem ggX7_command_X7_requireRange : GoodIn wsX7_command wsX7_requireRange := goodIn_ca (goodIn_r _ [10, 11, 12] (by decide +kernel) (by decide +kernel)) (goodIn_sub (fun _ h => List.mem_cons_of_mem _ (List.mem_append_right _ h)) (by decide +kernel))
set_option maxRecDepth 20000 in
theorem gX7_command_X7_requireRange : GoodIn wsX7_command (va_wsS RX7 86 yX7_requireRange wsX7_requireRange) := goodIn_app (goodIn_of _ (by decide +kernel)) ggX7_command_X7_requireRange
set_option maxRecDepth 20000 in
theorem ggX7_command_X5_order : GoodIn wsX7_command wsX5_order := goodIn_r _ [17, 18, 19, 20, 16, 21, 36, 37, 38] (by decide +kernel) (by decide +kernel)
set_option maxRecDepth 20000 in
theorem gX7_command_X5_order : GoodIn wsX7_command (wsV RX7 147 RX5 yX5_order wsX5_order) := goodIn_app (goodIn_of _ (by decide +kernel)) ggX7_command_X5_order
theorem dX7_command_0 : decode cX7_command 0 = .ok (.iload_n 1, 1) := by decide +kernel
theorem dX7_command_1 : decode cX7_command 1 = .ok (.iconst 3, 1) := by decide +kernel
theorem dX7_command_2 : decode cX7_command 2 = .ok (.invokestatic 120, 3) := by decide +kernel
theorem dX7_command_5 : decode cX7_command 5 = .ok (.iload_n 2, 1) := by decide +kernel
theorem dX7_command_6 : decode cX7_command 6 = .ok (.iconst (-1), 1) := by decide +kernel
theorem dX7_command_7 : decode cX7_command 7 = .ok (.iconst 1, 1) := by decide +kernel
theorem dX7_command_8 : decode cX7_command 8 = .ok (.invokestatic 86, 3) := by decide +kernel
theorem dX7_command_11 : decode cX7_command 11 = .ok (.aload_n 0, 1) := by decide +kernel
theorem dX7_command_12 : decode cX7_command 12 = .ok (.getfield 10, 3) := by decide +kernel
theorem dX7_command_15 : decode cX7_command 15 = .ok (.iload_n 1, 1) := by decide +kernel
theorem dX7_command_16 : decode cX7_command 16 = .ok (.iload_n 2, 1) := by decide +kernel
theorem dX7_command_17 : decode cX7_command 17 = .ok (.invokevirtual 147, 3) := by decide +kernel
theorem dX7_command_20 : decode cX7_command 20 = .ok (.ireturn, 1) := by decide +kernel
set_option maxRecDepth 20000 in
theorem ggX7_step_X7_requireRange : GoodIn wsX7_step wsX7_requireRange := goodIn_ca (goodIn_r _ [5, 6, 7] (by decide +kernel) (by decide +kernel)) (goodIn_sub (fun _ h => List.mem_cons_of_mem _ (List.mem_append_right _ h)) (by decide +kernel))
set_option maxRecDepth 20000 in
theorem gX7_step_X7_requireRange : GoodIn wsX7_step (va_wsS RX7 86 yX7_requireRange wsX7_requireRange) := goodIn_app (goodIn_of _ (by decide +kernel)) ggX7_step_X7_requireRange
set_option maxRecDepth 20000 in
theorem ggX7_step_X7_doStep : GoodIn wsX7_step wsX7_doStep := goodIn_r _ [11, 12, 13, 14, 1, 15, 16, 17, 18, 19, 20, 4, 21, 22, 23, 24, 25, 26, 27, 28, 29, 30, 31, 32, 33, 34, 35, 36, 37, 38, 39, 40, 41, 42, 43, 44, 45, 46, 47, 48, 49, 50, 51, 52, 53, 54, 55, 56, 57, 58, 59, 60, 61, 62, 63, 64, 65, 66, 67, 68, 69, 70, 71, 72, 73, 74, 75, 76, 77, 78, 79, 80, 81, 82, 83, 84, 85, 86, 87, 88, 89, 90, 91, 92, 93, 94, 95, 96, 97, 98, 99, 100, 101, 102, 103, 104, 105, 106, 107, 108, 109, 110, 111, 112, 113, 114, 115, 116, 117, 118, 119, 120, 121, 122, 123, 124, 125, 126, 127, 128, 129, 130, 131, 132, 133, 134, 135, 136, 137, 138, 139, 140, 141, 142, 143, 144, 145, 146, 147, 148, 149, 150, 151, 152, 153, 154, 155, 156, 157, 158, 159, 160, 161, 162, 163, 164, 165, 166, 167, 168, 169, 170, 171, 172, 173, 174, 175, 176, 177, 178, 179, 180, 181, 182, 183, 184, 185, 186, 187, 188, 189, 190, 191, 192, 193, 194, 195, 196, 197, 198, 199, 200, 201, 202, 203, 204, 205, 206, 207, 208, 209, 210, 211, 212, 213, 214, 215, 216, 217, 218, 219, 220, 221, 222, 223, 224, 225, 226, 227, 228, 229, 230, 231, 232, 233, 234, 235, 236, 237, 238, 239, 240, 241, 242, 243, 244, 245, 246, 247, 248, 249, 250, 251, 252, 253, 254, 255, 256, 257, 258, 259, 260, 261, 262, 263, 264, 265, 266, 267, 268, 269, 270, 271, 272, 273, 274, 275, 276, 277, 278, 279, 280, 281, 282, 283, 284, 285, 286, 287, 288] (by decide +kernel) (by decide +kernel)
set_option maxRecDepth 20000 in
theorem gX7_step_X7_doStep : GoodIn wsX7_step (wsV RX7 151 RX7 yX7_doStep wsX7_doStep) := goodIn_app (goodIn_of _ (by decide +kernel)) ggX7_step_X7_doStep
theorem dX7_step_0 : decode cX7_step 0 = .ok (.iload_n 1, 1) := by decide +kernel
theorem dX7_step_1 : decode cX7_step 1 = .ok (.iconst 1, 1) := by decide +kernel
theorem dX7_step_2 : decode cX7_step 2 = .ok (.bipush 100, 2) := by decide +kernel
theorem dX7_step_4 : decode cX7_step 4 = .ok (.invokestatic 86, 3) := by decide +kernel
theorem dX7_step_7 : decode cX7_step 7 = .ok (.iconst 0, 1) := by decide +kernel
theorem dX7_step_8 : decode cX7_step 8 = .ok (.istore_n 2, 1) := by decide +kernel
theorem dX7_step_9 : decode cX7_step 9 = .ok (.iload_n 2, 1) := by decide +kernel
theorem dX7_step_10 : decode cX7_step 10 = .ok (.iload_n 1, 1) := by decide +kernel
theorem dX7_step_11 : decode cX7_step 11 = .ok (.if_icmp .ge 13, 3) := by decide +kernel
theorem dX7_step_14 : decode cX7_step 14 = .ok (.aload_n 0, 1) := by decide +kernel
theorem dX7_step_15 : decode cX7_step 15 = .ok (.invokevirtual 151, 3) := by decide +kernel
theorem dX7_step_18 : decode cX7_step 18 = .ok (.iinc 2 1, 3) := by decide +kernel
theorem dX7_step_21 : decode cX7_step 21 = .ok (.goto (-12), 3) := by decide +kernel
theorem dX7_step_24 : decode cX7_step 24 = .ok (.aload_n 0, 1) := by decide +kernel
theorem dX7_step_25 : decode cX7_step 25 = .ok (.getfield 79, 3) := by decide +kernel
theorem dX7_step_28 : decode cX7_step 28 = .ok (.ireturn, 1) := by decide +kernel
set_option maxRecDepth 20000 in
theorem ggX7_segment_X7_requireSegment : GoodIn wsX7_segment wsX7_requireSegment := goodIn_ca (goodIn_r _ [6, 7, 8, 5, 9, 10, 11] (by decide +kernel) (by decide +kernel)) (goodIn_sub (fun _ h => List.mem_cons_of_mem _ (List.mem_append_left _ (List.mem_append_right _ h))) (by decide +kernel))
set_option maxRecDepth 20000 in
theorem gX7_segment_X7_requireSegment : GoodIn wsX7_segment (va_wsS RX7 82 yX7_requireSegment wsX7_requireSegment) := goodIn_app (goodIn_of _ (by decide +kernel)) ggX7_segment_X7_requireSegment
set_option maxRecDepth 20000 in
theorem ggX7_segment_X7_requireRange : GoodIn wsX7_segment wsX7_requireRange := goodIn_ca (goodIn_r _ [14, 15, 16] (by decide +kernel) (by decide +kernel)) (goodIn_sub (fun _ h => List.mem_cons_of_mem _ (List.mem_append_right _ h)) (by decide +kernel))
set_option maxRecDepth 20000 in
theorem gX7_segment_X7_requireRange : GoodIn wsX7_segment (va_wsS RX7 86 yX7_requireRange wsX7_requireRange) := goodIn_app (goodIn_of _ (by decide +kernel)) ggX7_segment_X7_requireRange
set_option maxRecDepth 20000 in
theorem ggX7_segment_X0_smokeIn : GoodIn wsX7_segment wsX0_smokeIn := goodIn_r _ [21, 22, 23, 5, 24, 76, 77, 78, 79] (by decide +kernel) (by decide +kernel)
set_option maxRecDepth 20000 in
theorem gX7_segment_X0_smokeIn : GoodIn wsX7_segment (wsV RX7 154 RX0 yX0_smokeIn wsX0_smokeIn) := goodIn_app (goodIn_of _ (by decide +kernel)) ggX7_segment_X0_smokeIn
set_option maxRecDepth 20000 in
theorem ggX7_segment_X0_heatIn : GoodIn wsX7_segment wsX0_heatIn := goodIn_r _ [28, 29, 23, 5, 24, 76, 77, 78, 79] (by decide +kernel) (by decide +kernel)
set_option maxRecDepth 20000 in
theorem gX7_segment_X0_heatIn : GoodIn wsX7_segment (wsV RX7 157 RX0 yX0_heatIn wsX0_heatIn) := goodIn_app (goodIn_of _ (by decide +kernel)) ggX7_segment_X0_heatIn
set_option maxRecDepth 20000 in
theorem ggX7_segment_X7_tellingIn : GoodIn wsX7_segment wsX7_tellingIn := goodIn_r _ [33, 1, 2, 17, 18, 19, 20, 21, 22, 23, 5, 24, 25, 26, 27, 28, 29, 34, 35, 36, 37, 38, 39, 40, 41, 42, 43, 44, 45, 62, 63, 64, 65, 66, 67, 68, 69, 70, 71, 72, 73, 74, 75, 76, 77, 78, 79, 80, 81, 82, 83, 84] (by decide +kernel) (by decide +kernel)
set_option maxRecDepth 20000 in
theorem gX7_segment_X7_tellingIn : GoodIn wsX7_segment (wsV RX7 160 RX7 yX7_tellingIn wsX7_tellingIn) := goodIn_app (goodIn_of _ (by decide +kernel)) ggX7_segment_X7_tellingIn
set_option maxRecDepth 20000 in
theorem ggX7_segment_X3_insideOf : GoodIn wsX7_segment wsX3_insideOf := goodIn_r _ [43, 44, 45, 80, 81, 82, 83, 84] (by decide +kernel) (by decide +kernel)
set_option maxRecDepth 20000 in
theorem gX7_segment_X3_insideOf : GoodIn wsX7_segment (wsV RX7 163 RX3 yX3_insideOf wsX3_insideOf) := goodIn_app (goodIn_of _ (by decide +kernel)) ggX7_segment_X3_insideOf
set_option maxRecDepth 20000 in
theorem ggX7_segment_X7_doorAnswer : GoodIn wsX7_segment wsX7_doorAnswer := goodIn_r _ [49, 50, 51, 52, 53, 54, 55, 56, 23, 5, 24, 57, 58, 59, 60, 61, 62, 63, 64, 65, 66, 67, 68, 69, 70, 71, 72, 73, 74, 75, 85, 86, 87] (by decide +kernel) (by decide +kernel)
set_option maxRecDepth 20000 in
theorem gX7_segment_X7_doorAnswer : GoodIn wsX7_segment (wsV RX7 166 RX7 yX7_doorAnswer wsX7_doorAnswer) := goodIn_app (goodIn_of _ (by decide +kernel)) ggX7_segment_X7_doorAnswer
theorem dX7_segment_0 : decode cX7_segment 0 = .ok (.iload_n 1, 1) := by decide +kernel
theorem dX7_segment_1 : decode cX7_segment 1 = .ok (.invokestatic 82, 3) := by decide +kernel
theorem dX7_segment_4 : decode cX7_segment 4 = .ok (.iload_n 2, 1) := by decide +kernel
theorem dX7_segment_5 : decode cX7_segment 5 = .ok (.iconst 0, 1) := by decide +kernel
theorem dX7_segment_6 : decode cX7_segment 6 = .ok (.iconst 4, 1) := by decide +kernel
theorem dX7_segment_7 : decode cX7_segment 7 = .ok (.invokestatic 86, 3) := by decide +kernel
theorem dX7_segment_10 : decode cX7_segment 10 = .ok (.iload_n 2, 1) := by decide +kernel
theorem dX7_segment_11 : decode cX7_segment 11 = .ok (.tableswitch 62 0 3 #[29, 38, 47, 53], 29) := by decide +kernel
theorem dX7_segment_40 : decode cX7_segment 40 = .ok (.aload_n 0, 1) := by decide +kernel
theorem dX7_segment_41 : decode cX7_segment 41 = .ok (.getfield 26, 3) := by decide +kernel
theorem dX7_segment_44 : decode cX7_segment 44 = .ok (.iload_n 1, 1) := by decide +kernel
theorem dX7_segment_45 : decode cX7_segment 45 = .ok (.invokevirtual 154, 3) := by decide +kernel
theorem dX7_segment_48 : decode cX7_segment 48 = .ok (.ireturn, 1) := by decide +kernel
theorem dX7_segment_49 : decode cX7_segment 49 = .ok (.aload_n 0, 1) := by decide +kernel
theorem dX7_segment_50 : decode cX7_segment 50 = .ok (.getfield 26, 3) := by decide +kernel
theorem dX7_segment_53 : decode cX7_segment 53 = .ok (.iload_n 1, 1) := by decide +kernel
theorem dX7_segment_54 : decode cX7_segment 54 = .ok (.invokevirtual 157, 3) := by decide +kernel
theorem dX7_segment_57 : decode cX7_segment 57 = .ok (.ireturn, 1) := by decide +kernel
theorem dX7_segment_58 : decode cX7_segment 58 = .ok (.aload_n 0, 1) := by decide +kernel
theorem dX7_segment_59 : decode cX7_segment 59 = .ok (.iload_n 1, 1) := by decide +kernel
theorem dX7_segment_60 : decode cX7_segment 60 = .ok (.invokevirtual 160, 3) := by decide +kernel
theorem dX7_segment_63 : decode cX7_segment 63 = .ok (.ireturn, 1) := by decide +kernel
theorem dX7_segment_64 : decode cX7_segment 64 = .ok (.aload_n 0, 1) := by decide +kernel
theorem dX7_segment_65 : decode cX7_segment 65 = .ok (.getfield 54, 3) := by decide +kernel
theorem dX7_segment_68 : decode cX7_segment 68 = .ok (.iload_n 1, 1) := by decide +kernel
theorem dX7_segment_69 : decode cX7_segment 69 = .ok (.invokevirtual 163, 3) := by decide +kernel
theorem dX7_segment_72 : decode cX7_segment 72 = .ok (.ireturn, 1) := by decide +kernel
theorem dX7_segment_73 : decode cX7_segment 73 = .ok (.aload_n 0, 1) := by decide +kernel
theorem dX7_segment_74 : decode cX7_segment 74 = .ok (.iload_n 1, 1) := by decide +kernel
theorem dX7_segment_75 : decode cX7_segment 75 = .ok (.invokevirtual 166, 3) := by decide +kernel
theorem dX7_segment_78 : decode cX7_segment 78 = .ok (.ireturn, 1) := by decide +kernel
set_option maxRecDepth 20000 in
theorem ggX7_flow_X6_speed : GoodIn wsX7_flow wsX6_speed := goodIn_r _ [7, 8, 23, 24, 25] (by decide +kernel) (by decide +kernel)
set_option maxRecDepth 20000 in
theorem gX7_flow_X6_speed : GoodIn wsX7_flow (wsV RX7 171 RX6 yX6_speed wsX6_speed) := goodIn_app (goodIn_of _ (by decide +kernel)) ggX7_flow_X6_speed
theorem dX7_flow_0 : decode cX7_flow 0 = .ok (.ldc2_w 169, 3) := by decide +kernel
theorem dX7_flow_3 : decode cX7_flow 3 = .ok (.aload_n 0, 1) := by decide +kernel
theorem dX7_flow_4 : decode cX7_flow 4 = .ok (.getfield 19, 3) := by decide +kernel
theorem dX7_flow_7 : decode cX7_flow 7 = .ok (.invokevirtual 171, 3) := by decide +kernel
theorem dX7_flow_10 : decode cX7_flow 10 = .ok (.dmul, 1) := by decide +kernel
theorem dX7_flow_11 : decode cX7_flow 11 = .ok (.d2i, 1) := by decide +kernel
theorem dX7_flow_12 : decode cX7_flow 12 = .ok (.ireturn, 1) := by decide +kernel
set_option maxRecDepth 20000 in
theorem ggX7_fan_X7_requireIndex : GoodIn wsX7_fan wsX7_requireIndex := goodIn_ca (goodIn_r _ [5, 6, 7] (by decide +kernel) (by decide +kernel)) (goodIn_sub (fun _ h => List.mem_cons_of_mem _ (List.mem_append_right _ h)) (by decide +kernel))
set_option maxRecDepth 20000 in
theorem gX7_fan_X7_requireIndex : GoodIn wsX7_fan (va_wsS RX7 120 yX7_requireIndex wsX7_requireIndex) := goodIn_app (goodIn_of _ (by decide +kernel)) ggX7_fan_X7_requireIndex
set_option maxRecDepth 20000 in
theorem ggX7_fan_X5_stateOf : GoodIn wsX7_fan wsX5_stateOf := goodIn_r _ [12, 13, 14, 15, 11, 16, 31, 32, 33] (by decide +kernel) (by decide +kernel)
set_option maxRecDepth 20000 in
theorem gX7_fan_X5_stateOf : GoodIn wsX7_fan (wsV RX7 130 RX5 yX5_stateOf wsX5_stateOf) := goodIn_app (goodIn_of _ (by decide +kernel)) ggX7_fan_X5_stateOf
theorem dX7_fan_0 : decode cX7_fan 0 = .ok (.iload_n 1, 1) := by decide +kernel
theorem dX7_fan_1 : decode cX7_fan 1 = .ok (.iconst 3, 1) := by decide +kernel
theorem dX7_fan_2 : decode cX7_fan 2 = .ok (.invokestatic 120, 3) := by decide +kernel
theorem dX7_fan_5 : decode cX7_fan 5 = .ok (.aload_n 0, 1) := by decide +kernel
theorem dX7_fan_6 : decode cX7_fan 6 = .ok (.getfield 10, 3) := by decide +kernel
theorem dX7_fan_9 : decode cX7_fan 9 = .ok (.iload_n 1, 1) := by decide +kernel
theorem dX7_fan_10 : decode cX7_fan 10 = .ok (.invokevirtual 130, 3) := by decide +kernel
theorem dX7_fan_13 : decode cX7_fan 13 = .ok (.ireturn, 1) := by decide +kernel
theorem dX7_alarm_0 : decode cX7_alarm 0 = .ok (.aload_n 0, 1) := by decide +kernel
theorem dX7_alarm_1 : decode cX7_alarm 1 = .ok (.getfield 76, 3) := by decide +kernel
theorem dX7_alarm_4 : decode cX7_alarm 4 = .ok (.ireturn, 1) := by decide +kernel
set_option maxRecDepth 20000 in
theorem ggX7_done_X2_size : GoodIn wsX7_done wsX2_size := goodIn_r _ [6, 7, 37, 38, 39, 40, 41, 42] (by decide +kernel) (by decide +kernel)
set_option maxRecDepth 20000 in
theorem gX7_done_X2_size : GoodIn wsX7_done (wsV RX7 175 RX2 yX2_size wsX2_size) := goodIn_app (goodIn_of _ (by decide +kernel)) ggX7_done_X2_size
set_option maxRecDepth 20000 in
theorem ggX7_done_X7_requireIndex : GoodIn wsX7_done wsX7_requireIndex := goodIn_ca (goodIn_r _ [11, 12, 13] (by decide +kernel) (by decide +kernel)) (goodIn_sub (fun _ h => List.mem_cons_of_mem _ (List.mem_append_right _ h)) (by decide +kernel))
set_option maxRecDepth 20000 in
theorem gX7_done_X7_requireIndex : GoodIn wsX7_done (va_wsS RX7 120 yX7_requireIndex wsX7_requireIndex) := goodIn_app (goodIn_of _ (by decide +kernel)) ggX7_done_X7_requireIndex
set_option maxRecDepth 20000 in
theorem ggX7_done_X2_stepOf : GoodIn wsX7_done wsX2_stepOf := goodIn_r _ [17, 18, 19, 20, 21, 5, 22, 7, 37, 38, 39, 40, 41, 42] (by decide +kernel) (by decide +kernel)
set_option maxRecDepth 20000 in
theorem gX7_done_X2_stepOf : GoodIn wsX7_done (wsV RX7 176 RX2 yX2_stepOf wsX2_stepOf) := goodIn_app (goodIn_of _ (by decide +kernel)) ggX7_done_X2_stepOf
theorem dX7_done_0 : decode cX7_done 0 = .ok (.iload_n 1, 1) := by decide +kernel
theorem dX7_done_1 : decode cX7_done 1 = .ok (.aload_n 0, 1) := by decide +kernel
theorem dX7_done_2 : decode cX7_done 2 = .ok (.getfield 47, 3) := by decide +kernel
theorem dX7_done_5 : decode cX7_done 5 = .ok (.invokevirtual 175, 3) := by decide +kernel
theorem dX7_done_8 : decode cX7_done 8 = .ok (.invokestatic 120, 3) := by decide +kernel
theorem dX7_done_11 : decode cX7_done 11 = .ok (.aload_n 0, 1) := by decide +kernel
theorem dX7_done_12 : decode cX7_done 12 = .ok (.getfield 47, 3) := by decide +kernel
theorem dX7_done_15 : decode cX7_done 15 = .ok (.iload_n 1, 1) := by decide +kernel
theorem dX7_done_16 : decode cX7_done 16 = .ok (.invokevirtual 176, 3) := by decide +kernel
theorem dX7_done_19 : decode cX7_done 19 = .ok (.ireturn, 1) := by decide +kernel
set_option maxRecDepth 20000 in
theorem ggX7_person_X3_size : GoodIn wsX7_person wsX3_size := goodIn_r _ [6, 7, 52, 53, 54, 55, 56] (by decide +kernel) (by decide +kernel)
set_option maxRecDepth 20000 in
theorem gX7_person_X3_size : GoodIn wsX7_person (wsV RX7 105 RX3 yX3_size wsX3_size) := goodIn_app (goodIn_of _ (by decide +kernel)) ggX7_person_X3_size
set_option maxRecDepth 20000 in
theorem ggX7_person_X7_requireIndex : GoodIn wsX7_person wsX7_requireIndex := goodIn_ca (goodIn_r _ [11, 12, 13] (by decide +kernel) (by decide +kernel)) (goodIn_sub (fun _ h => List.mem_cons_of_mem _ (List.mem_append_left _ (List.mem_append_right _ h))) (by decide +kernel))
set_option maxRecDepth 20000 in
theorem gX7_person_X7_requireIndex : GoodIn wsX7_person (va_wsS RX7 120 yX7_requireIndex wsX7_requireIndex) := goodIn_app (goodIn_of _ (by decide +kernel)) ggX7_person_X7_requireIndex
set_option maxRecDepth 20000 in
theorem ggX7_person_X7_requireRange : GoodIn wsX7_person wsX7_requireRange := goodIn_ca (goodIn_r _ [16, 17, 18] (by decide +kernel) (by decide +kernel)) (goodIn_sub (fun _ h => List.mem_cons_of_mem _ (List.mem_append_right _ h)) (by decide +kernel))
set_option maxRecDepth 20000 in
theorem gX7_person_X7_requireRange : GoodIn wsX7_person (va_wsS RX7 86 yX7_requireRange wsX7_requireRange) := goodIn_app (goodIn_of _ (by decide +kernel)) ggX7_person_X7_requireRange
set_option maxRecDepth 20000 in
theorem ggX7_person_X3_stateOf : GoodIn wsX7_person wsX3_stateOf := goodIn_r _ [22, 23, 24, 25, 26, 5, 27, 7, 52, 53, 54, 55, 56] (by decide +kernel) (by decide +kernel)
set_option maxRecDepth 20000 in
theorem gX7_person_X3_stateOf : GoodIn wsX7_person (wsV RX7 179 RX3 yX3_stateOf wsX3_stateOf) := goodIn_app (goodIn_of _ (by decide +kernel)) ggX7_person_X3_stateOf
set_option maxRecDepth 20000 in
theorem ggX7_person_X3_segmentOf : GoodIn wsX7_person wsX3_segmentOf := goodIn_r _ [31, 32, 24, 25, 26, 5, 27, 7, 52, 53, 54, 55, 56] (by decide +kernel) (by decide +kernel)
set_option maxRecDepth 20000 in
theorem gX7_person_X3_segmentOf : GoodIn wsX7_person (wsV RX7 180 RX3 yX3_segmentOf wsX3_segmentOf) := goodIn_app (goodIn_of _ (by decide +kernel)) ggX7_person_X3_segmentOf
set_option maxRecDepth 20000 in
theorem ggX7_person_X3_endOf : GoodIn wsX7_person wsX3_endOf := goodIn_r _ [36, 37, 24, 25, 26, 5, 27, 7, 52, 53, 54, 55, 56] (by decide +kernel) (by decide +kernel)
set_option maxRecDepth 20000 in
theorem gX7_person_X3_endOf : GoodIn wsX7_person (wsV RX7 183 RX3 yX3_endOf wsX3_endOf) := goodIn_app (goodIn_of _ (by decide +kernel)) ggX7_person_X3_endOf
theorem dX7_person_0 : decode cX7_person 0 = .ok (.iload_n 1, 1) := by decide +kernel
theorem dX7_person_1 : decode cX7_person 1 = .ok (.aload_n 0, 1) := by decide +kernel
theorem dX7_person_2 : decode cX7_person 2 = .ok (.getfield 54, 3) := by decide +kernel
theorem dX7_person_5 : decode cX7_person 5 = .ok (.invokevirtual 105, 3) := by decide +kernel
theorem dX7_person_8 : decode cX7_person 8 = .ok (.invokestatic 120, 3) := by decide +kernel
theorem dX7_person_11 : decode cX7_person 11 = .ok (.iload_n 2, 1) := by decide +kernel
theorem dX7_person_12 : decode cX7_person 12 = .ok (.iconst 0, 1) := by decide +kernel
theorem dX7_person_13 : decode cX7_person 13 = .ok (.iconst 2, 1) := by decide +kernel
theorem dX7_person_14 : decode cX7_person 14 = .ok (.invokestatic 86, 3) := by decide +kernel
theorem dX7_person_17 : decode cX7_person 17 = .ok (.iload_n 2, 1) := by decide +kernel
theorem dX7_person_18 : decode cX7_person 18 = .ok (.lookupswitch 44 #[(0, 26), (1, 35)], 26) := by decide +kernel
theorem dX7_person_44 : decode cX7_person 44 = .ok (.aload_n 0, 1) := by decide +kernel
theorem dX7_person_45 : decode cX7_person 45 = .ok (.getfield 54, 3) := by decide +kernel
theorem dX7_person_48 : decode cX7_person 48 = .ok (.iload_n 1, 1) := by decide +kernel
theorem dX7_person_49 : decode cX7_person 49 = .ok (.invokevirtual 179, 3) := by decide +kernel
theorem dX7_person_52 : decode cX7_person 52 = .ok (.ireturn, 1) := by decide +kernel
theorem dX7_person_53 : decode cX7_person 53 = .ok (.aload_n 0, 1) := by decide +kernel
theorem dX7_person_54 : decode cX7_person 54 = .ok (.getfield 54, 3) := by decide +kernel
theorem dX7_person_57 : decode cX7_person 57 = .ok (.iload_n 1, 1) := by decide +kernel
theorem dX7_person_58 : decode cX7_person 58 = .ok (.invokevirtual 180, 3) := by decide +kernel
theorem dX7_person_61 : decode cX7_person 61 = .ok (.ireturn, 1) := by decide +kernel
theorem dX7_person_62 : decode cX7_person 62 = .ok (.aload_n 0, 1) := by decide +kernel
theorem dX7_person_63 : decode cX7_person 63 = .ok (.getfield 54, 3) := by decide +kernel
theorem dX7_person_66 : decode cX7_person 66 = .ok (.iload_n 1, 1) := by decide +kernel
theorem dX7_person_67 : decode cX7_person 67 = .ok (.invokevirtual 183, 3) := by decide +kernel
theorem dX7_person_70 : decode cX7_person 70 = .ok (.ireturn, 1) := by decide +kernel
set_option maxRecDepth 20000 in
theorem ggX7_count_X7_requireRange : GoodIn wsX7_count wsX7_requireRange := goodIn_ca (goodIn_r _ [5, 6, 7] (by decide +kernel) (by decide +kernel)) (goodIn_sub (fun _ h => List.mem_cons_of_mem _ (List.mem_append_right _ h)) (by decide +kernel))
set_option maxRecDepth 20000 in
theorem gX7_count_X7_requireRange : GoodIn wsX7_count (va_wsS RX7 86 yX7_requireRange wsX7_requireRange) := goodIn_app (goodIn_of _ (by decide +kernel)) ggX7_count_X7_requireRange
set_option maxRecDepth 20000 in
theorem ggX7_count_X3_howMany : GoodIn wsX7_count wsX3_howMany := goodIn_r _ [12, 13, 14, 29, 30, 31, 32, 33] (by decide +kernel) (by decide +kernel)
set_option maxRecDepth 20000 in
theorem gX7_count_X3_howMany : GoodIn wsX7_count (wsV RX7 186 RX3 yX3_howMany wsX3_howMany) := goodIn_app (goodIn_of _ (by decide +kernel)) ggX7_count_X3_howMany
theorem dX7_count_0 : decode cX7_count 0 = .ok (.iload_n 1, 1) := by decide +kernel
theorem dX7_count_1 : decode cX7_count 1 = .ok (.iconst 0, 1) := by decide +kernel
theorem dX7_count_2 : decode cX7_count 2 = .ok (.iconst 4, 1) := by decide +kernel
theorem dX7_count_3 : decode cX7_count 3 = .ok (.invokestatic 86, 3) := by decide +kernel
theorem dX7_count_6 : decode cX7_count 6 = .ok (.aload_n 0, 1) := by decide +kernel
theorem dX7_count_7 : decode cX7_count 7 = .ok (.getfield 54, 3) := by decide +kernel
theorem dX7_count_10 : decode cX7_count 10 = .ok (.iload_n 1, 1) := by decide +kernel
theorem dX7_count_11 : decode cX7_count 11 = .ok (.invokevirtual 186, 3) := by decide +kernel
theorem dX7_count_14 : decode cX7_count 14 = .ok (.ireturn, 1) := by decide +kernel
set_option maxRecDepth 20000 in
theorem ggX7_gone_X0_lost : GoodIn wsX7_gone wsX0_lost := goodIn_r _ [6, 7, 22, 23, 24, 25] (by decide +kernel) (by decide +kernel)
set_option maxRecDepth 20000 in
theorem gX7_gone_X0_lost : GoodIn wsX7_gone (wsV RX7 189 RX0 yX0_lost wsX0_lost) := goodIn_app (goodIn_of _ (by decide +kernel)) ggX7_gone_X0_lost
theorem dX7_gone_0 : decode cX7_gone 0 = .ok (.aload_n 0, 1) := by decide +kernel
theorem dX7_gone_1 : decode cX7_gone 1 = .ok (.getfield 26, 3) := by decide +kernel
theorem dX7_gone_4 : decode cX7_gone 4 = .ok (.invokevirtual 189, 3) := by decide +kernel
theorem dX7_gone_7 : decode cX7_gone 7 = .ok (.ireturn, 1) := by decide +kernel
set_option maxRecDepth 20000 in
theorem ggX7_balances_X3_howMany : GoodIn wsX7_balances wsX3_howMany := goodIn_r _ [8, 9, 10, 46, 47, 48, 49, 50] (by decide +kernel) (by decide +kernel)
set_option maxRecDepth 20000 in
theorem gX7_balances_X3_howMany : GoodIn wsX7_balances (wsV RX7 186 RX3 yX3_howMany wsX3_howMany) := goodIn_app (goodIn_of _ (by decide +kernel)) ggX7_balances_X3_howMany
set_option maxRecDepth 20000 in
theorem ggX7_balances_X3_size : GoodIn wsX7_balances wsX3_size := goodIn_r _ [14, 9, 46, 47, 48, 49, 50] (by decide +kernel) (by decide +kernel)
set_option maxRecDepth 20000 in
theorem gX7_balances_X3_size : GoodIn wsX7_balances (wsV RX7 105 RX3 yX3_size wsX3_size) := goodIn_app (goodIn_of _ (by decide +kernel)) ggX7_balances_X3_size
set_option maxRecDepth 20000 in
theorem ggX7_balances_X0_allSmoke : GoodIn wsX7_balances wsX0_allSmoke := goodIn_r _ [19, 20, 51, 52, 53, 54] (by decide +kernel) (by decide +kernel)
set_option maxRecDepth 20000 in
theorem gX7_balances_X0_allSmoke : GoodIn wsX7_balances (wsV RX7 192 RX0 yX0_allSmoke wsX0_allSmoke) := goodIn_app (goodIn_of _ (by decide +kernel)) ggX7_balances_X0_allSmoke
set_option maxRecDepth 20000 in
theorem ggX7_balances_X0_lost : GoodIn wsX7_balances wsX0_lost := goodIn_r _ [24, 25, 51, 52, 53, 54] (by decide +kernel) (by decide +kernel)
set_option maxRecDepth 20000 in
theorem gX7_balances_X0_lost : GoodIn wsX7_balances (wsV RX7 189 RX0 yX0_lost wsX0_lost) := goodIn_app (goodIn_of _ (by decide +kernel)) ggX7_balances_X0_lost
set_option maxRecDepth 20000 in
theorem ggX7_balances_X1_allMade : GoodIn wsX7_balances wsX1_allMade := goodIn_r _ [30, 31, 55, 56, 57, 58, 59, 60] (by decide +kernel) (by decide +kernel)
set_option maxRecDepth 20000 in
theorem gX7_balances_X1_allMade : GoodIn wsX7_balances (wsV RX7 195 RX1 yX1_allMade wsX1_allMade) := goodIn_app (goodIn_of _ (by decide +kernel)) ggX7_balances_X1_allMade
theorem dX7_balances_0 : decode cX7_balances 0 = .ok (.iconst 0, 1) := by decide +kernel
theorem dX7_balances_1 : decode cX7_balances 1 = .ok (.istore_n 1, 1) := by decide +kernel
theorem dX7_balances_2 : decode cX7_balances 2 = .ok (.iconst 0, 1) := by decide +kernel
theorem dX7_balances_3 : decode cX7_balances 3 = .ok (.istore_n 2, 1) := by decide +kernel
theorem dX7_balances_4 : decode cX7_balances 4 = .ok (.iload_n 2, 1) := by decide +kernel
theorem dX7_balances_5 : decode cX7_balances 5 = .ok (.iconst 4, 1) := by decide +kernel
theorem dX7_balances_6 : decode cX7_balances 6 = .ok (.if_icmp .gt 20, 3) := by decide +kernel
theorem dX7_balances_9 : decode cX7_balances 9 = .ok (.iload_n 1, 1) := by decide +kernel
theorem dX7_balances_10 : decode cX7_balances 10 = .ok (.aload_n 0, 1) := by decide +kernel
theorem dX7_balances_11 : decode cX7_balances 11 = .ok (.getfield 54, 3) := by decide +kernel
theorem dX7_balances_14 : decode cX7_balances 14 = .ok (.iload_n 2, 1) := by decide +kernel
theorem dX7_balances_15 : decode cX7_balances 15 = .ok (.invokevirtual 186, 3) := by decide +kernel
theorem dX7_balances_18 : decode cX7_balances 18 = .ok (.iadd, 1) := by decide +kernel
theorem dX7_balances_19 : decode cX7_balances 19 = .ok (.istore_n 1, 1) := by decide +kernel
theorem dX7_balances_20 : decode cX7_balances 20 = .ok (.iinc 2 1, 3) := by decide +kernel
theorem dX7_balances_23 : decode cX7_balances 23 = .ok (.goto (-19), 3) := by decide +kernel
theorem dX7_balances_26 : decode cX7_balances 26 = .ok (.iload_n 1, 1) := by decide +kernel
theorem dX7_balances_27 : decode cX7_balances 27 = .ok (.aload_n 0, 1) := by decide +kernel
theorem dX7_balances_28 : decode cX7_balances 28 = .ok (.getfield 54, 3) := by decide +kernel
theorem dX7_balances_31 : decode cX7_balances 31 = .ok (.invokevirtual 105, 3) := by decide +kernel
theorem dX7_balances_34 : decode cX7_balances 34 = .ok (.if_icmp .ne 32, 3) := by decide +kernel
theorem dX7_balances_37 : decode cX7_balances 37 = .ok (.aload_n 0, 1) := by decide +kernel
theorem dX7_balances_38 : decode cX7_balances 38 = .ok (.getfield 26, 3) := by decide +kernel
theorem dX7_balances_41 : decode cX7_balances 41 = .ok (.invokevirtual 192, 3) := by decide +kernel
theorem dX7_balances_44 : decode cX7_balances 44 = .ok (.aload_n 0, 1) := by decide +kernel
theorem dX7_balances_45 : decode cX7_balances 45 = .ok (.getfield 26, 3) := by decide +kernel
theorem dX7_balances_48 : decode cX7_balances 48 = .ok (.invokevirtual 189, 3) := by decide +kernel
theorem dX7_balances_51 : decode cX7_balances 51 = .ok (.iadd, 1) := by decide +kernel
theorem dX7_balances_52 : decode cX7_balances 52 = .ok (.aload_n 0, 1) := by decide +kernel
theorem dX7_balances_53 : decode cX7_balances 53 = .ok (.getfield 33, 3) := by decide +kernel
theorem dX7_balances_56 : decode cX7_balances 56 = .ok (.invokevirtual 195, 3) := by decide +kernel
theorem dX7_balances_59 : decode cX7_balances 59 = .ok (.if_icmp .ne 7, 3) := by decide +kernel
theorem dX7_balances_62 : decode cX7_balances 62 = .ok (.iconst 1, 1) := by decide +kernel
theorem dX7_balances_63 : decode cX7_balances 63 = .ok (.goto 4, 3) := by decide +kernel
theorem dX7_balances_66 : decode cX7_balances 66 = .ok (.iconst 0, 1) := by decide +kernel
theorem dX7_balances_67 : decode cX7_balances 67 = .ok (.ireturn, 1) := by decide +kernel
set_option maxRecDepth 20000 in
theorem ggX7_doStep_X7_hasPower : GoodIn wsX7_doStep wsX7_hasPower := goodIn_r _ [12, 13, 236, 237, 238, 239, 240, 241, 242, 243, 244, 245, 246, 247, 248, 249] (by decide +kernel) (by decide +kernel)
set_option maxRecDepth 20000 in
theorem gX7_doStep_X7_hasPower : GoodIn wsX7_doStep (wsV RX7 123 RX7 yX7_hasPower wsX7_hasPower) := goodIn_app (goodIn_of _ (by decide +kernel)) ggX7_doStep_X7_hasPower
set_option maxRecDepth 20000 in
theorem ggX7_doStep_X5_turn : GoodIn wsX7_doStep wsX5_turn := goodIn_r _ [18, 19, 20, 21, 22, 23, 17, 24, 25, 26, 27, 28, 250, 251, 252] (by decide +kernel) (by decide +kernel)
set_option maxRecDepth 20000 in
theorem gX7_doStep_X5_turn : GoodIn wsX7_doStep (wsV RX7 198 RX5 yX5_turn wsX5_turn) := goodIn_app (goodIn_of _ (by decide +kernel)) ggX7_doStep_X5_turn
set_option maxRecDepth 20000 in
theorem ggX7_doStep_X5_push : GoodIn wsX7_doStep wsX5_push := goodIn_r _ [32, 20, 250, 251, 252] (by decide +kernel) (by decide +kernel)
set_option maxRecDepth 20000 in
theorem gX7_doStep_X5_push : GoodIn wsX7_doStep (wsV RX7 201 RX5 yX5_push wsX5_push) := goodIn_app (goodIn_of _ (by decide +kernel)) ggX7_doStep_X5_push
set_option maxRecDepth 20000 in
theorem ggX7_doStep_X6_become : GoodIn wsX7_doStep wsX6_become := goodIn_r _ [37, 38, 39, 40, 41, 42, 43, 44, 45, 36, 46, 47, 48, 253, 254, 255] (by decide +kernel) (by decide +kernel)
set_option maxRecDepth 20000 in
theorem gX7_doStep_X6_become : GoodIn wsX7_doStep (wsV RX7 204 RX6 yX6_become wsX6_become) := goodIn_app (goodIn_of _ (by decide +kernel)) ggX7_doStep_X6_become
set_option maxRecDepth 20000 in
theorem ggX7_doStep_X7_burn : GoodIn wsX7_doStep wsX7_burn := goodIn_r _ [52, 53, 6, 54, 55, 56, 57, 58, 59, 60, 61, 62, 63, 8, 9, 10, 11, 12, 13, 64, 65, 66, 67, 68, 69, 70, 71, 72, 73, 74, 75, 76, 77, 78, 79, 80, 81, 82, 83, 84, 85, 86, 236, 237, 238, 239, 240, 241, 242, 243, 244, 245, 246, 247, 248, 249, 256, 257, 258, 259, 260, 261, 262, 263, 264, 265] (by decide +kernel) (by decide +kernel)
set_option maxRecDepth 20000 in
theorem gX7_doStep_X7_burn : GoodIn wsX7_doStep (wsV RX7 207 RX7 yX7_burn wsX7_burn) := goodIn_app (goodIn_of _ (by decide +kernel)) ggX7_doStep_X7_burn
set_option maxRecDepth 20000 in
theorem ggX7_doStep_X7_moveAir : GoodIn wsX7_doStep wsX7_moveAir := goodIn_r _ [90, 6, 2, 53, 91, 92, 93, 94, 95, 36, 96, 42, 97, 98, 99, 81, 100, 101, 83, 102, 103, 104, 105, 106, 107, 108, 109, 110, 111, 112, 85, 11, 86, 54, 55, 56, 57, 58, 59, 60, 61, 62, 63, 113, 114, 115, 116, 117, 118, 119, 120, 121, 122, 123, 124, 125, 126, 127, 128, 129, 84, 236, 237, 238, 239, 240, 241, 242, 243, 244, 245, 246, 247, 248, 249, 253, 254, 255, 262, 263, 264, 265, 256, 257, 258, 259, 260, 261] (by decide +kernel) (by decide +kernel)
set_option maxRecDepth 20000 in
theorem gX7_doStep_X7_moveAir : GoodIn wsX7_doStep (wsV RX7 210 RX7 yX7_moveAir wsX7_moveAir) := goodIn_app (goodIn_of _ (by decide +kernel)) ggX7_doStep_X7_moveAir
set_option maxRecDepth 20000 in
theorem ggX7_doStep_X7_watch : GoodIn wsX7_doStep wsX7_watch := goodIn_r _ [133, 134, 135, 4, 136, 137, 138, 11, 139, 6, 3, 140, 119, 120, 81, 121, 83, 85, 86, 141, 142, 143, 144, 84, 145, 146, 147, 148, 149, 150, 151, 152, 153, 154, 155, 156, 157, 158, 159, 160, 161, 162, 236, 237, 238, 239, 240, 241, 242, 243, 244, 245, 246, 247, 248, 249, 262, 263, 264, 265, 266, 267, 268, 269, 270, 271, 272, 273, 274, 275, 276] (by decide +kernel) (by decide +kernel)
set_option maxRecDepth 20000 in
theorem gX7_doStep_X7_watch : GoodIn wsX7_doStep (wsV RX7 213 RX7 yX7_watch wsX7_watch) := goodIn_app (goodIn_of _ (by decide +kernel)) ggX7_doStep_X7_watch
set_option maxRecDepth 20000 in
theorem ggX7_doStep_X7_followChart : GoodIn wsX7_doStep wsX7_followChart := goodIn_r _ [166, 134, 135, 4, 167, 168, 169, 160, 170, 171, 162, 172, 173, 174, 175, 176, 177, 178, 179, 180, 181, 182, 183, 184, 185, 186, 11, 187, 2, 5, 7, 1, 91, 53, 188, 189, 190, 36, 191, 40, 192, 193, 194, 195, 196, 197, 198, 199, 200, 201, 202, 17, 203, 21, 204, 205, 206, 57, 207, 75, 236, 237, 238, 239, 240, 241, 242, 243, 244, 245, 246, 247, 248, 249, 271, 272, 273, 274, 275, 276, 253, 254, 255, 277, 278, 279, 250, 251, 252, 256, 257, 258, 259, 260, 261] (by decide +kernel) (by decide +kernel)
set_option maxRecDepth 20000 in
theorem gX7_doStep_X7_followChart : GoodIn wsX7_doStep (wsV RX7 216 RX7 yX7_followChart wsX7_followChart) := goodIn_app (goodIn_of _ (by decide +kernel)) ggX7_doStep_X7_followChart
set_option maxRecDepth 20000 in
theorem ggX7_doStep_X3_live : GoodIn wsX7_doStep wsX3_live := goodIn_r _ [211, 155, 212, 156, 213, 119, 120, 81, 121, 83, 85, 11, 86, 214, 215, 216, 153, 217, 218, 219, 220, 221, 222, 223, 224, 225, 226, 227, 228, 229, 230, 195, 231, 232, 233, 73, 234, 199, 235, 26, 27, 28, 266, 267, 268, 269, 270, 262, 263, 264, 265, 277, 278, 279] (by decide +kernel) (by decide +kernel)
set_option maxRecDepth 20000 in
theorem gX7_doStep_X3_live : GoodIn wsX7_doStep (wsV RX7 219 RX3 yX3_live wsX3_live) := goodIn_app (goodIn_of _ (by decide +kernel)) ggX7_doStep_X3_live
theorem dX7_doStep_0 : decode cX7_doStep 0 = .ok (.aload_n 0, 1) := by decide +kernel
theorem dX7_doStep_1 : decode cX7_doStep 1 = .ok (.getfield 10, 3) := by decide +kernel
theorem dX7_doStep_4 : decode cX7_doStep 4 = .ok (.aload_n 0, 1) := by decide +kernel
theorem dX7_doStep_5 : decode cX7_doStep 5 = .ok (.invokevirtual 123, 3) := by decide +kernel
theorem dX7_doStep_8 : decode cX7_doStep 8 = .ok (.invokevirtual 198, 3) := by decide +kernel
theorem dX7_doStep_11 : decode cX7_doStep 11 = .ok (.aload_n 0, 1) := by decide +kernel
theorem dX7_doStep_12 : decode cX7_doStep 12 = .ok (.getfield 19, 3) := by decide +kernel
theorem dX7_doStep_15 : decode cX7_doStep 15 = .ok (.aload_n 0, 1) := by decide +kernel
theorem dX7_doStep_16 : decode cX7_doStep 16 = .ok (.getfield 10, 3) := by decide +kernel
theorem dX7_doStep_19 : decode cX7_doStep 19 = .ok (.invokevirtual 201, 3) := by decide +kernel
theorem dX7_doStep_22 : decode cX7_doStep 22 = .ok (.invokevirtual 204, 3) := by decide +kernel
theorem dX7_doStep_25 : decode cX7_doStep 25 = .ok (.aload_n 0, 1) := by decide +kernel
theorem dX7_doStep_26 : decode cX7_doStep 26 = .ok (.invokevirtual 207, 3) := by decide +kernel
theorem dX7_doStep_29 : decode cX7_doStep 29 = .ok (.aload_n 0, 1) := by decide +kernel
theorem dX7_doStep_30 : decode cX7_doStep 30 = .ok (.invokevirtual 210, 3) := by decide +kernel
theorem dX7_doStep_33 : decode cX7_doStep 33 = .ok (.aload_n 0, 1) := by decide +kernel
theorem dX7_doStep_34 : decode cX7_doStep 34 = .ok (.invokevirtual 213, 3) := by decide +kernel
theorem dX7_doStep_37 : decode cX7_doStep 37 = .ok (.aload_n 0, 1) := by decide +kernel
theorem dX7_doStep_38 : decode cX7_doStep 38 = .ok (.invokevirtual 216, 3) := by decide +kernel
theorem dX7_doStep_41 : decode cX7_doStep 41 = .ok (.aload_n 0, 1) := by decide +kernel
theorem dX7_doStep_42 : decode cX7_doStep 42 = .ok (.getfield 54, 3) := by decide +kernel
theorem dX7_doStep_45 : decode cX7_doStep 45 = .ok (.aload_n 0, 1) := by decide +kernel
theorem dX7_doStep_46 : decode cX7_doStep 46 = .ok (.getfield 79, 3) := by decide +kernel
theorem dX7_doStep_49 : decode cX7_doStep 49 = .ok (.aload_n 0, 1) := by decide +kernel
theorem dX7_doStep_50 : decode cX7_doStep 50 = .ok (.getfield 73, 3) := by decide +kernel
theorem dX7_doStep_53 : decode cX7_doStep 53 = .ok (.aload_n 0, 1) := by decide +kernel
theorem dX7_doStep_54 : decode cX7_doStep 54 = .ok (.getfield 26, 3) := by decide +kernel
theorem dX7_doStep_57 : decode cX7_doStep 57 = .ok (.aload_n 0, 1) := by decide +kernel
theorem dX7_doStep_58 : decode cX7_doStep 58 = .ok (.getfield 40, 3) := by decide +kernel
theorem dX7_doStep_61 : decode cX7_doStep 61 = .ok (.invokevirtual 219, 3) := by decide +kernel
theorem dX7_doStep_64 : decode cX7_doStep 64 = .ok (.aload_n 0, 1) := by decide +kernel
theorem dX7_doStep_65 : decode cX7_doStep 65 = .ok (.dup, 1) := by decide +kernel
theorem dX7_doStep_66 : decode cX7_doStep 66 = .ok (.getfield 79, 3) := by decide +kernel
theorem dX7_doStep_69 : decode cX7_doStep 69 = .ok (.iconst 1, 1) := by decide +kernel
theorem dX7_doStep_70 : decode cX7_doStep 70 = .ok (.iadd, 1) := by decide +kernel
theorem dX7_doStep_71 : decode cX7_doStep 71 = .ok (.putfield 79, 3) := by decide +kernel
theorem dX7_doStep_74 : decode cX7_doStep 74 = .ok (.return_, 1) := by decide +kernel
set_option maxRecDepth 20000 in
theorem ggX7_burn_X1_isBurning : GoodIn wsX7_burn wsX1_isBurning := goodIn_r _ [7, 8, 56, 57, 58, 59, 60, 61] (by decide +kernel) (by decide +kernel)
set_option maxRecDepth 20000 in
theorem gX7_burn_X1_isBurning : GoodIn wsX7_burn (wsV RX7 113 RX1 yX1_isBurning wsX1_isBurning) := goodIn_app (goodIn_of _ (by decide +kernel)) ggX7_burn_X1_isBurning
set_option maxRecDepth 20000 in
theorem ggX7_burn_X1_place : GoodIn wsX7_burn wsX1_place := goodIn_r _ [12, 8, 56, 57, 58, 59, 60, 61] (by decide +kernel) (by decide +kernel)
set_option maxRecDepth 20000 in
theorem gX7_burn_X1_place : GoodIn wsX7_burn (wsV RX7 223 RX1 yX1_place wsX1_place) := goodIn_app (goodIn_of _ (by decide +kernel)) ggX7_burn_X1_place
set_option maxRecDepth 20000 in
theorem ggX7_burn_X7_hasPower : GoodIn wsX7_burn wsX7_hasPower := goodIn_r _ [17, 18, 42, 43, 44, 45, 46, 47, 48, 49, 50, 51, 52, 53, 54, 55] (by decide +kernel) (by decide +kernel)
set_option maxRecDepth 20000 in
theorem gX7_burn_X7_hasPower : GoodIn wsX7_burn (wsV RX7 123 RX7 yX7_hasPower wsX7_hasPower) := goodIn_app (goodIn_of _ (by decide +kernel)) ggX7_burn_X7_hasPower
set_option maxRecDepth 20000 in
theorem ggX7_burn_X1_burn : GoodIn wsX7_burn wsX1_burn := goodIn_r _ [22, 23, 24, 25, 26, 27, 28, 29, 30, 31, 32, 56, 57, 58, 59, 60, 61] (by decide +kernel) (by decide +kernel)
set_option maxRecDepth 20000 in
theorem gX7_burn_X1_burn : GoodIn wsX7_burn (wsV RX7 225 RX1 yX1_burn wsX1_burn) := goodIn_app (goodIn_of _ (by decide +kernel)) ggX7_burn_X1_burn
set_option maxRecDepth 20000 in
theorem ggX7_burn_X0_feedFrom : GoodIn wsX7_burn wsX0_feedFrom := goodIn_r _ [37, 38, 39, 40, 16, 41, 62, 63, 64, 65] (by decide +kernel) (by decide +kernel)
set_option maxRecDepth 20000 in
theorem gX7_burn_X0_feedFrom : GoodIn wsX7_burn (wsV RX7 228 RX0 yX0_feedFrom wsX0_feedFrom) := goodIn_app (goodIn_of _ (by decide +kernel)) ggX7_burn_X0_feedFrom
theorem dX7_burn_0 : decode cX7_burn 0 = .ok (.aload_n 0, 1) := by decide +kernel
theorem dX7_burn_1 : decode cX7_burn 1 = .ok (.getfield 33, 3) := by decide +kernel
theorem dX7_burn_4 : decode cX7_burn 4 = .ok (.invokevirtual 113, 3) := by decide +kernel
theorem dX7_burn_7 : decode cX7_burn 7 = .ok (.ifCond .eq 28, 3) := by decide +kernel
theorem dX7_burn_10 : decode cX7_burn 10 = .ok (.aload_n 0, 1) := by decide +kernel
theorem dX7_burn_11 : decode cX7_burn 11 = .ok (.getfield 26, 3) := by decide +kernel
theorem dX7_burn_14 : decode cX7_burn 14 = .ok (.aload_n 0, 1) := by decide +kernel
theorem dX7_burn_15 : decode cX7_burn 15 = .ok (.getfield 33, 3) := by decide +kernel
theorem dX7_burn_18 : decode cX7_burn 18 = .ok (.invokevirtual 223, 3) := by decide +kernel
theorem dX7_burn_21 : decode cX7_burn 21 = .ok (.aload_n 0, 1) := by decide +kernel
theorem dX7_burn_22 : decode cX7_burn 22 = .ok (.getfield 33, 3) := by decide +kernel
theorem dX7_burn_25 : decode cX7_burn 25 = .ok (.aload_n 0, 1) := by decide +kernel
theorem dX7_burn_26 : decode cX7_burn 26 = .ok (.invokevirtual 123, 3) := by decide +kernel
theorem dX7_burn_29 : decode cX7_burn 29 = .ok (.invokevirtual 225, 3) := by decide +kernel
theorem dX7_burn_32 : decode cX7_burn 32 = .ok (.invokevirtual 228, 3) := by decide +kernel
theorem dX7_burn_35 : decode cX7_burn 35 = .ok (.return_, 1) := by decide +kernel
set_option maxRecDepth 20000 in
theorem ggX7_moveAir_X6_speed : GoodIn wsX7_moveAir wsX6_speed := goodIn_r _ [10, 11, 75, 76, 77] (by decide +kernel) (by decide +kernel)
set_option maxRecDepth 20000 in
theorem gX7_moveAir_X6_speed : GoodIn wsX7_moveAir (wsV RX7 171 RX6 yX6_speed wsX6_speed) := goodIn_app (goodIn_of _ (by decide +kernel)) ggX7_moveAir_X6_speed
set_option maxRecDepth 20000 in
theorem ggX7_moveAir_X0_drift : GoodIn wsX7_moveAir wsX0_drift := goodIn_r _ [16, 17, 18, 19, 20, 15, 21, 22, 23, 24, 25, 26, 27, 28, 29, 30, 31, 32, 78, 79, 80, 81] (by decide +kernel) (by decide +kernel)
set_option maxRecDepth 20000 in
theorem gX7_moveAir_X0_drift : GoodIn wsX7_moveAir (wsV RX7 231 RX0 yX0_drift wsX0_drift) := goodIn_app (goodIn_of _ (by decide +kernel)) ggX7_moveAir_X0_drift
set_option maxRecDepth 20000 in
theorem ggX7_moveAir_X1_isBurning : GoodIn wsX7_moveAir wsX1_isBurning := goodIn_r _ [37, 38, 82, 83, 84, 85, 86, 87] (by decide +kernel) (by decide +kernel)
set_option maxRecDepth 20000 in
theorem gX7_moveAir_X1_isBurning : GoodIn wsX7_moveAir (wsV RX7 113 RX1 yX1_isBurning wsX1_isBurning) := goodIn_app (goodIn_of _ (by decide +kernel)) ggX7_moveAir_X1_isBurning
set_option maxRecDepth 20000 in
theorem ggX7_moveAir_X1_place : GoodIn wsX7_moveAir wsX1_place := goodIn_r _ [42, 38, 82, 83, 84, 85, 86, 87] (by decide +kernel) (by decide +kernel)
set_option maxRecDepth 20000 in
theorem gX7_moveAir_X1_place : GoodIn wsX7_moveAir (wsV RX7 223 RX1 yX1_place wsX1_place) := goodIn_app (goodIn_of _ (by decide +kernel)) ggX7_moveAir_X1_place
set_option maxRecDepth 20000 in
theorem ggX7_moveAir_X0_backUp : GoodIn wsX7_moveAir wsX0_backUp := goodIn_r _ [46, 47, 19, 20, 15, 21, 22, 23, 24, 48, 49, 50, 51, 18, 30, 31, 32, 25, 26, 27, 28, 29, 78, 79, 80, 81] (by decide +kernel) (by decide +kernel)
set_option maxRecDepth 20000 in
theorem gX7_moveAir_X0_backUp : GoodIn wsX7_moveAir (wsV RX7 235 RX0 yX0_backUp wsX0_backUp) := goodIn_app (goodIn_of _ (by decide +kernel)) ggX7_moveAir_X0_backUp
set_option maxRecDepth 20000 in
theorem ggX7_moveAir_X0_drawOff : GoodIn wsX7_moveAir wsX0_drawOff := goodIn_r _ [55, 48, 49, 50, 15, 51, 18, 30, 31, 32, 25, 26, 27, 28, 29, 78, 79, 80, 81] (by decide +kernel) (by decide +kernel)
set_option maxRecDepth 20000 in
theorem gX7_moveAir_X0_drawOff : GoodIn wsX7_moveAir (wsV RX7 239 RX0 yX0_drawOff wsX0_drawOff) := goodIn_app (goodIn_of _ (by decide +kernel)) ggX7_moveAir_X0_drawOff
set_option maxRecDepth 20000 in
theorem ggX7_moveAir_X0_cool : GoodIn wsX7_moveAir wsX0_cool := goodIn_r _ [59, 60, 78, 79, 80, 81] (by decide +kernel) (by decide +kernel)
set_option maxRecDepth 20000 in
theorem gX7_moveAir_X0_cool : GoodIn wsX7_moveAir (wsV RX7 242 RX0 yX0_cool wsX0_cool) := goodIn_app (goodIn_of _ (by decide +kernel)) ggX7_moveAir_X0_cool
theorem dX7_moveAir_0 : decode cX7_moveAir 0 = .ok (.aload_n 0, 1) := by decide +kernel
theorem dX7_moveAir_1 : decode cX7_moveAir 1 = .ok (.getfield 26, 3) := by decide +kernel
theorem dX7_moveAir_4 : decode cX7_moveAir 4 = .ok (.aload_n 0, 1) := by decide +kernel
theorem dX7_moveAir_5 : decode cX7_moveAir 5 = .ok (.getfield 19, 3) := by decide +kernel
theorem dX7_moveAir_8 : decode cX7_moveAir 8 = .ok (.invokevirtual 171, 3) := by decide +kernel
theorem dX7_moveAir_11 : decode cX7_moveAir 11 = .ok (.invokevirtual 231, 3) := by decide +kernel
theorem dX7_moveAir_14 : decode cX7_moveAir 14 = .ok (.aload_n 0, 1) := by decide +kernel
theorem dX7_moveAir_15 : decode cX7_moveAir 15 = .ok (.getfield 33, 3) := by decide +kernel
theorem dX7_moveAir_18 : decode cX7_moveAir 18 = .ok (.invokevirtual 113, 3) := by decide +kernel
theorem dX7_moveAir_21 : decode cX7_moveAir 21 = .ok (.ifCond .eq 24, 3) := by decide +kernel
theorem dX7_moveAir_24 : decode cX7_moveAir 24 = .ok (.aload_n 0, 1) := by decide +kernel
theorem dX7_moveAir_25 : decode cX7_moveAir 25 = .ok (.getfield 26, 3) := by decide +kernel
theorem dX7_moveAir_28 : decode cX7_moveAir 28 = .ok (.aload_n 0, 1) := by decide +kernel
theorem dX7_moveAir_29 : decode cX7_moveAir 29 = .ok (.getfield 33, 3) := by decide +kernel
theorem dX7_moveAir_32 : decode cX7_moveAir 32 = .ok (.invokevirtual 223, 3) := by decide +kernel
theorem dX7_moveAir_35 : decode cX7_moveAir 35 = .ok (.aload_n 0, 1) := by decide +kernel
theorem dX7_moveAir_36 : decode cX7_moveAir 36 = .ok (.getfield 19, 3) := by decide +kernel
theorem dX7_moveAir_39 : decode cX7_moveAir 39 = .ok (.invokevirtual 171, 3) := by decide +kernel
theorem dX7_moveAir_42 : decode cX7_moveAir 42 = .ok (.invokevirtual 235, 3) := by decide +kernel
theorem dX7_moveAir_45 : decode cX7_moveAir 45 = .ok (.aload_n 0, 1) := by decide +kernel
theorem dX7_moveAir_46 : decode cX7_moveAir 46 = .ok (.getfield 69, 3) := by decide +kernel
theorem dX7_moveAir_49 : decode cX7_moveAir 49 = .ok (.ifCond .eq 14, 3) := by decide +kernel
theorem dX7_moveAir_52 : decode cX7_moveAir 52 = .ok (.aload_n 0, 1) := by decide +kernel
theorem dX7_moveAir_53 : decode cX7_moveAir 53 = .ok (.getfield 26, 3) := by decide +kernel
theorem dX7_moveAir_56 : decode cX7_moveAir 56 = .ok (.aload_n 0, 1) := by decide +kernel
theorem dX7_moveAir_57 : decode cX7_moveAir 57 = .ok (.getfield 65, 3) := by decide +kernel
theorem dX7_moveAir_60 : decode cX7_moveAir 60 = .ok (.invokevirtual 239, 3) := by decide +kernel
theorem dX7_moveAir_63 : decode cX7_moveAir 63 = .ok (.aload_n 0, 1) := by decide +kernel
theorem dX7_moveAir_64 : decode cX7_moveAir 64 = .ok (.getfield 26, 3) := by decide +kernel
theorem dX7_moveAir_67 : decode cX7_moveAir 67 = .ok (.invokevirtual 242, 3) := by decide +kernel
theorem dX7_moveAir_70 : decode cX7_moveAir 70 = .ok (.return_, 1) := by decide +kernel
set_option maxRecDepth 20000 in
theorem ggX7_watch_X7_tellingIn : GoodIn wsX7_watch wsX7_tellingIn := goodIn_r _ [8, 9, 10, 11, 12, 13, 14, 15, 16, 17, 7, 18, 19, 20, 21, 22, 23, 24, 25, 26, 27, 28, 29, 30, 31, 32, 33, 34, 35, 42, 43, 44, 45, 46, 47, 48, 49, 50, 51, 52, 53, 54, 55, 56, 57, 58, 59, 60, 61, 62, 63, 64] (by decide +kernel) (by decide +kernel)
set_option maxRecDepth 20000 in
theorem gX7_watch_X7_tellingIn : GoodIn wsX7_watch (wsV RX7 160 RX7 yX7_tellingIn wsX7_tellingIn) := goodIn_app (goodIn_of _ (by decide +kernel)) ggX7_watch_X7_tellingIn
set_option maxRecDepth 20000 in
theorem ggX7_watch_X2_start : GoodIn wsX7_watch wsX2_start := goodIn_r _ [40, 41, 65, 66, 67, 68, 69, 70] (by decide +kernel) (by decide +kernel)
set_option maxRecDepth 20000 in
theorem gX7_watch_X2_start : GoodIn wsX7_watch (wsV RX7 245 RX2 yX2_start wsX2_start) := goodIn_app (goodIn_of _ (by decide +kernel)) ggX7_watch_X2_start
theorem dX7_watch_0 : decode cX7_watch 0 = .ok (.iconst 0, 1) := by decide +kernel
theorem dX7_watch_1 : decode cX7_watch 1 = .ok (.istore_n 1, 1) := by decide +kernel
theorem dX7_watch_2 : decode cX7_watch 2 = .ok (.iload_n 1, 1) := by decide +kernel
theorem dX7_watch_3 : decode cX7_watch 3 = .ok (.bipush 12, 2) := by decide +kernel
theorem dX7_watch_5 : decode cX7_watch 5 = .ok (.if_icmp .ge 42, 3) := by decide +kernel
theorem dX7_watch_8 : decode cX7_watch 8 = .ok (.aload_n 0, 1) := by decide +kernel
theorem dX7_watch_9 : decode cX7_watch 9 = .ok (.getfield 76, 3) := by decide +kernel
theorem dX7_watch_12 : decode cX7_watch 12 = .ok (.iconst (-1), 1) := by decide +kernel
theorem dX7_watch_13 : decode cX7_watch 13 = .ok (.if_icmp .ne 34, 3) := by decide +kernel
theorem dX7_watch_16 : decode cX7_watch 16 = .ok (.aload_n 0, 1) := by decide +kernel
theorem dX7_watch_17 : decode cX7_watch 17 = .ok (.iload_n 1, 1) := by decide +kernel
theorem dX7_watch_18 : decode cX7_watch 18 = .ok (.invokevirtual 160, 3) := by decide +kernel
theorem dX7_watch_21 : decode cX7_watch 21 = .ok (.iconst 2, 1) := by decide +kernel
theorem dX7_watch_22 : decode cX7_watch 22 = .ok (.if_icmp .lt 19, 3) := by decide +kernel
theorem dX7_watch_25 : decode cX7_watch 25 = .ok (.aload_n 0, 1) := by decide +kernel
theorem dX7_watch_26 : decode cX7_watch 26 = .ok (.iload_n 1, 1) := by decide +kernel
theorem dX7_watch_27 : decode cX7_watch 27 = .ok (.putfield 76, 3) := by decide +kernel
theorem dX7_watch_30 : decode cX7_watch 30 = .ok (.aload_n 0, 1) := by decide +kernel
theorem dX7_watch_31 : decode cX7_watch 31 = .ok (.getfield 47, 3) := by decide +kernel
theorem dX7_watch_34 : decode cX7_watch 34 = .ok (.aload_n 0, 1) := by decide +kernel
theorem dX7_watch_35 : decode cX7_watch 35 = .ok (.getfield 79, 3) := by decide +kernel
theorem dX7_watch_38 : decode cX7_watch 38 = .ok (.invokevirtual 245, 3) := by decide +kernel
theorem dX7_watch_41 : decode cX7_watch 41 = .ok (.iinc 1 1, 3) := by decide +kernel
theorem dX7_watch_44 : decode cX7_watch 44 = .ok (.goto (-42), 3) := by decide +kernel
theorem dX7_watch_47 : decode cX7_watch 47 = .ok (.return_, 1) := by decide +kernel
set_option maxRecDepth 20000 in
theorem ggX7_followChart_X2_isDue : GoodIn wsX7_followChart wsX2_isDue := goodIn_r _ [8, 9, 10, 11, 12, 13, 14, 7, 15, 16, 74, 75, 76, 77, 78, 79] (by decide +kernel) (by decide +kernel)
set_option maxRecDepth 20000 in
theorem gX7_followChart_X2_isDue : GoodIn wsX7_followChart (wsV RX7 248 RX2 yX2_isDue wsX2_isDue) := goodIn_app (goodIn_of _ (by decide +kernel)) ggX7_followChart_X2_isDue
set_option maxRecDepth 20000 in
theorem ggX7_followChart_X2_finishNext : GoodIn wsX7_followChart wsX2_finishNext := goodIn_r _ [20, 9, 21, 22, 10, 12, 13, 14, 7, 15, 16, 74, 75, 76, 77, 78, 79] (by decide +kernel) (by decide +kernel)
set_option maxRecDepth 20000 in
theorem gX7_followChart_X2_finishNext : GoodIn wsX7_followChart (wsV RX7 251 RX2 yX2_finishNext wsX2_finishNext) := goodIn_app (goodIn_of _ (by decide +kernel)) ggX7_followChart_X2_finishNext
set_option maxRecDepth 20000 in
theorem ggX7_followChart_X7_perform : GoodIn wsX7_followChart wsX7_perform := goodIn_r _ [27, 28, 29, 30, 31, 32, 33, 34, 35, 36, 37, 38, 39, 40, 41, 42, 43, 44, 45, 46, 47, 48, 49, 50, 51, 52, 53, 54, 55, 56, 57, 58, 59, 60, 61, 62, 63, 64, 65, 66, 67, 68, 69, 70, 71, 72, 73, 80, 81, 82, 83, 84, 85, 86, 87, 88, 89, 90, 91, 92, 93, 94] (by decide +kernel) (by decide +kernel)
set_option maxRecDepth 20000 in
theorem gX7_followChart_X7_perform : GoodIn wsX7_followChart (wsV RX7 254 RX7 yX7_perform wsX7_perform) := goodIn_app (goodIn_of _ (by decide +kernel)) ggX7_followChart_X7_perform
theorem dX7_followChart_0 : decode cX7_followChart 0 = .ok (.iconst 0, 1) := by decide +kernel
theorem dX7_followChart_1 : decode cX7_followChart 1 = .ok (.istore_n 1, 1) := by decide +kernel
theorem dX7_followChart_2 : decode cX7_followChart 2 = .ok (.iload_n 1, 1) := by decide +kernel
theorem dX7_followChart_3 : decode cX7_followChart 3 = .ok (.bipush 10, 2) := by decide +kernel
theorem dX7_followChart_5 : decode cX7_followChart 5 = .ok (.if_icmp .ge 46, 3) := by decide +kernel
theorem dX7_followChart_8 : decode cX7_followChart 8 = .ok (.aload_n 0, 1) := by decide +kernel
theorem dX7_followChart_9 : decode cX7_followChart 9 = .ok (.getfield 76, 3) := by decide +kernel
theorem dX7_followChart_12 : decode cX7_followChart 12 = .ok (.iconst (-1), 1) := by decide +kernel
theorem dX7_followChart_13 : decode cX7_followChart 13 = .ok (.if_icmp .eq 38, 3) := by decide +kernel
theorem dX7_followChart_16 : decode cX7_followChart 16 = .ok (.aload_n 0, 1) := by decide +kernel
theorem dX7_followChart_17 : decode cX7_followChart 17 = .ok (.getfield 47, 3) := by decide +kernel
theorem dX7_followChart_20 : decode cX7_followChart 20 = .ok (.aload_n 0, 1) := by decide +kernel
theorem dX7_followChart_21 : decode cX7_followChart 21 = .ok (.getfield 79, 3) := by decide +kernel
theorem dX7_followChart_24 : decode cX7_followChart 24 = .ok (.invokevirtual 248, 3) := by decide +kernel
theorem dX7_followChart_27 : decode cX7_followChart 27 = .ok (.ifCond .eq 24, 3) := by decide +kernel
theorem dX7_followChart_30 : decode cX7_followChart 30 = .ok (.aload_n 0, 1) := by decide +kernel
theorem dX7_followChart_31 : decode cX7_followChart 31 = .ok (.aload_n 0, 1) := by decide +kernel
theorem dX7_followChart_32 : decode cX7_followChart 32 = .ok (.getfield 47, 3) := by decide +kernel
theorem dX7_followChart_35 : decode cX7_followChart 35 = .ok (.aload_n 0, 1) := by decide +kernel
theorem dX7_followChart_36 : decode cX7_followChart 36 = .ok (.getfield 79, 3) := by decide +kernel
theorem dX7_followChart_39 : decode cX7_followChart 39 = .ok (.invokevirtual 251, 3) := by decide +kernel
theorem dX7_followChart_42 : decode cX7_followChart 42 = .ok (.invokevirtual 254, 3) := by decide +kernel
theorem dX7_followChart_45 : decode cX7_followChart 45 = .ok (.iinc 1 1, 3) := by decide +kernel
theorem dX7_followChart_48 : decode cX7_followChart 48 = .ok (.goto (-46), 3) := by decide +kernel
theorem dX7_followChart_51 : decode cX7_followChart 51 = .ok (.return_, 1) := by decide +kernel
set_option maxRecDepth 20000 in
theorem ggX7_perform_X6_stopTraffic : GoodIn wsX7_perform wsX6_stopTraffic := goodIn_r _ [11, 12, 47, 48, 49] (by decide +kernel) (by decide +kernel)
set_option maxRecDepth 20000 in
theorem gX7_perform_X6_stopTraffic : GoodIn wsX7_perform (wsV RX7 257 RX6 yX6_stopTraffic wsX6_stopTraffic) := goodIn_app (goodIn_of _ (by decide +kernel)) ggX7_perform_X6_stopTraffic
set_option maxRecDepth 20000 in
theorem ggX7_perform_X4_openAll : GoodIn wsX7_perform wsX4_openAll := goodIn_r _ [17, 18, 19, 20, 50, 51, 52] (by decide +kernel) (by decide +kernel)
set_option maxRecDepth 20000 in
theorem gX7_perform_X4_openAll : GoodIn wsX7_perform (wsV RX7 260 RX4 yX4_openAll wsX4_openAll) := goodIn_app (goodIn_of _ (by decide +kernel)) ggX7_perform_X4_openAll
set_option maxRecDepth 20000 in
theorem ggX7_perform_X5_orderAll : GoodIn wsX7_perform wsX5_orderAll := goodIn_r _ [25, 26, 53, 54, 55] (by decide +kernel) (by decide +kernel)
set_option maxRecDepth 20000 in
theorem gX7_perform_X5_orderAll : GoodIn wsX7_perform (wsV RX7 263 RX5 yX5_orderAll wsX5_orderAll) := goodIn_app (goodIn_of _ (by decide +kernel)) ggX7_perform_X5_orderAll
set_option maxRecDepth 20000 in
theorem ggX7_perform_X1_turnFoamOn : GoodIn wsX7_perform wsX1_turnFoamOn := goodIn_r _ [31, 32, 56, 57, 58, 59, 60, 61] (by decide +kernel) (by decide +kernel)
set_option maxRecDepth 20000 in
theorem gX7_perform_X1_turnFoamOn : GoodIn wsX7_perform (wsV RX7 266 RX1 yX1_turnFoamOn wsX1_turnFoamOn) := goodIn_app (goodIn_of _ (by decide +kernel)) ggX7_perform_X1_turnFoamOn
theorem dX7_perform_0 : decode cX7_perform 0 = .ok (.iload_n 1, 1) := by decide +kernel
theorem dX7_perform_1 : decode cX7_perform 1 = .ok (.tableswitch 126 0 7 #[47, 57, 65, 75, 86, 97, 108, 116], 47) := by decide +kernel
theorem dX7_perform_48 : decode cX7_perform 48 = .ok (.aload_n 0, 1) := by decide +kernel
theorem dX7_perform_49 : decode cX7_perform 49 = .ok (.getfield 19, 3) := by decide +kernel
theorem dX7_perform_52 : decode cX7_perform 52 = .ok (.invokevirtual 257, 3) := by decide +kernel
theorem dX7_perform_55 : decode cX7_perform 55 = .ok (.goto 72, 3) := by decide +kernel
theorem dX7_perform_58 : decode cX7_perform 58 = .ok (.aload_n 0, 1) := by decide +kernel
theorem dX7_perform_59 : decode cX7_perform 59 = .ok (.iconst 1, 1) := by decide +kernel
theorem dX7_perform_60 : decode cX7_perform 60 = .ok (.putfield 73, 3) := by decide +kernel
theorem dX7_perform_63 : decode cX7_perform 63 = .ok (.goto 64, 3) := by decide +kernel
theorem dX7_perform_66 : decode cX7_perform 66 = .ok (.aload_n 0, 1) := by decide +kernel
theorem dX7_perform_67 : decode cX7_perform 67 = .ok (.getfield 40, 3) := by decide +kernel
theorem dX7_perform_70 : decode cX7_perform 70 = .ok (.invokevirtual 260, 3) := by decide +kernel
theorem dX7_perform_73 : decode cX7_perform 73 = .ok (.goto 54, 3) := by decide +kernel
theorem dX7_perform_76 : decode cX7_perform 76 = .ok (.aload_n 0, 1) := by decide +kernel
theorem dX7_perform_77 : decode cX7_perform 77 = .ok (.getfield 10, 3) := by decide +kernel
theorem dX7_perform_80 : decode cX7_perform 80 = .ok (.iconst (-1), 1) := by decide +kernel
theorem dX7_perform_81 : decode cX7_perform 81 = .ok (.invokevirtual 263, 3) := by decide +kernel
theorem dX7_perform_84 : decode cX7_perform 84 = .ok (.goto 43, 3) := by decide +kernel
theorem dX7_perform_87 : decode cX7_perform 87 = .ok (.aload_n 0, 1) := by decide +kernel
theorem dX7_perform_88 : decode cX7_perform 88 = .ok (.getfield 10, 3) := by decide +kernel
theorem dX7_perform_91 : decode cX7_perform 91 = .ok (.iconst 1, 1) := by decide +kernel
theorem dX7_perform_92 : decode cX7_perform 92 = .ok (.invokevirtual 263, 3) := by decide +kernel
theorem dX7_perform_95 : decode cX7_perform 95 = .ok (.goto 32, 3) := by decide +kernel
theorem dX7_perform_98 : decode cX7_perform 98 = .ok (.aload_n 0, 1) := by decide +kernel
theorem dX7_perform_99 : decode cX7_perform 99 = .ok (.getfield 10, 3) := by decide +kernel
theorem dX7_perform_102 : decode cX7_perform 102 = .ok (.iconst 0, 1) := by decide +kernel
theorem dX7_perform_103 : decode cX7_perform 103 = .ok (.invokevirtual 263, 3) := by decide +kernel
theorem dX7_perform_106 : decode cX7_perform 106 = .ok (.goto 21, 3) := by decide +kernel
theorem dX7_perform_109 : decode cX7_perform 109 = .ok (.aload_n 0, 1) := by decide +kernel
theorem dX7_perform_110 : decode cX7_perform 110 = .ok (.iconst 1, 1) := by decide +kernel
theorem dX7_perform_111 : decode cX7_perform 111 = .ok (.putfield 69, 3) := by decide +kernel
theorem dX7_perform_114 : decode cX7_perform 114 = .ok (.goto 13, 3) := by decide +kernel
theorem dX7_perform_117 : decode cX7_perform 117 = .ok (.aload_n 0, 1) := by decide +kernel
theorem dX7_perform_118 : decode cX7_perform 118 = .ok (.getfield 33, 3) := by decide +kernel
theorem dX7_perform_121 : decode cX7_perform 121 = .ok (.invokevirtual 266, 3) := by decide +kernel
theorem dX7_perform_124 : decode cX7_perform 124 = .ok (.goto 3, 3) := by decide +kernel
theorem dX7_perform_127 : decode cX7_perform 127 = .ok (.return_, 1) := by decide +kernel
theorem dX7_hasPower_0 : decode cX7_hasPower 0 = .ok (.iconst 0, 1) := by decide +kernel
theorem dX7_hasPower_1 : decode cX7_hasPower 1 = .ok (.istore_n 1, 1) := by decide +kernel
theorem dX7_hasPower_2 : decode cX7_hasPower 2 = .ok (.iload_n 1, 1) := by decide +kernel
theorem dX7_hasPower_3 : decode cX7_hasPower 3 = .ok (.aload_n 0, 1) := by decide +kernel
theorem dX7_hasPower_4 : decode cX7_hasPower 4 = .ok (.getfield 58, 3) := by decide +kernel
theorem dX7_hasPower_7 : decode cX7_hasPower 7 = .ok (.arraylength, 1) := by decide +kernel
theorem dX7_hasPower_8 : decode cX7_hasPower 8 = .ok (.if_icmp .ge 20, 3) := by decide +kernel
theorem dX7_hasPower_11 : decode cX7_hasPower 11 = .ok (.aload_n 0, 1) := by decide +kernel
theorem dX7_hasPower_12 : decode cX7_hasPower 12 = .ok (.getfield 58, 3) := by decide +kernel
theorem dX7_hasPower_15 : decode cX7_hasPower 15 = .ok (.iload_n 1, 1) := by decide +kernel
theorem dX7_hasPower_16 : decode cX7_hasPower 16 = .ok (.baload, 1) := by decide +kernel
theorem dX7_hasPower_17 : decode cX7_hasPower 17 = .ok (.ifCond .ne 5, 3) := by decide +kernel
theorem dX7_hasPower_20 : decode cX7_hasPower 20 = .ok (.iconst 1, 1) := by decide +kernel
theorem dX7_hasPower_21 : decode cX7_hasPower 21 = .ok (.ireturn, 1) := by decide +kernel
theorem dX7_hasPower_22 : decode cX7_hasPower 22 = .ok (.iinc 1 1, 3) := by decide +kernel
theorem dX7_hasPower_25 : decode cX7_hasPower 25 = .ok (.goto (-23), 3) := by decide +kernel
theorem dX7_hasPower_28 : decode cX7_hasPower 28 = .ok (.iconst 0, 1) := by decide +kernel
theorem dX7_hasPower_29 : decode cX7_hasPower 29 = .ok (.ireturn, 1) := by decide +kernel
set_option maxRecDepth 20000 in
theorem ggX7_tellingIn_X0_smokeIn : GoodIn wsX7_tellingIn wsX0_smokeIn := goodIn_r _ [7, 8, 9, 10, 11, 43, 44, 45, 46] (by decide +kernel) (by decide +kernel)
set_option maxRecDepth 20000 in
theorem gX7_tellingIn_X0_smokeIn : GoodIn wsX7_tellingIn (wsV RX7 154 RX0 yX0_smokeIn wsX0_smokeIn) := goodIn_app (goodIn_of _ (by decide +kernel)) ggX7_tellingIn_X0_smokeIn
set_option maxRecDepth 20000 in
theorem ggX7_tellingIn_X0_heatIn : GoodIn wsX7_tellingIn wsX0_heatIn := goodIn_r _ [15, 16, 9, 10, 11, 43, 44, 45, 46] (by decide +kernel) (by decide +kernel)
set_option maxRecDepth 20000 in
theorem gX7_tellingIn_X0_heatIn : GoodIn wsX7_tellingIn (wsV RX7 157 RX0 yX0_heatIn wsX0_heatIn) := goodIn_app (goodIn_of _ (by decide +kernel)) ggX7_tellingIn_X0_heatIn
set_option maxRecDepth 20000 in
theorem ggX7_tellingIn_X7_detectorWorks : GoodIn wsX7_tellingIn wsX7_detectorWorks := goodIn_r _ [20, 21, 29, 30, 31, 32, 33, 34, 35, 36, 37, 38, 39, 40, 41, 42] (by decide +kernel) (by decide +kernel)
set_option maxRecDepth 20000 in
theorem gX7_tellingIn_X7_detectorWorks : GoodIn wsX7_tellingIn (wsV RX7 269 RX7 yX7_detectorWorks wsX7_detectorWorks) := goodIn_app (goodIn_of _ (by decide +kernel)) ggX7_tellingIn_X7_detectorWorks
set_option maxRecDepth 20000 in
theorem ggX7_tellingIn_X3_insideOf : GoodIn wsX7_tellingIn wsX3_insideOf := goodIn_r _ [26, 27, 28, 47, 48, 49, 50, 51] (by decide +kernel) (by decide +kernel)
set_option maxRecDepth 20000 in
theorem gX7_tellingIn_X3_insideOf : GoodIn wsX7_tellingIn (wsV RX7 163 RX3 yX3_insideOf wsX3_insideOf) := goodIn_app (goodIn_of _ (by decide +kernel)) ggX7_tellingIn_X3_insideOf
theorem dX7_tellingIn_0 : decode cX7_tellingIn 0 = .ok (.aload_n 0, 1) := by decide +kernel
theorem dX7_tellingIn_1 : decode cX7_tellingIn 1 = .ok (.getfield 26, 3) := by decide +kernel
theorem dX7_tellingIn_4 : decode cX7_tellingIn 4 = .ok (.iload_n 1, 1) := by decide +kernel
theorem dX7_tellingIn_5 : decode cX7_tellingIn 5 = .ok (.invokevirtual 154, 3) := by decide +kernel
theorem dX7_tellingIn_8 : decode cX7_tellingIn 8 = .ok (.istore_n 2, 1) := by decide +kernel
theorem dX7_tellingIn_9 : decode cX7_tellingIn 9 = .ok (.iconst 0, 1) := by decide +kernel
theorem dX7_tellingIn_10 : decode cX7_tellingIn 10 = .ok (.istore_n 3, 1) := by decide +kernel
theorem dX7_tellingIn_11 : decode cX7_tellingIn 11 = .ok (.aload_n 0, 1) := by decide +kernel
theorem dX7_tellingIn_12 : decode cX7_tellingIn 12 = .ok (.getfield 26, 3) := by decide +kernel
theorem dX7_tellingIn_15 : decode cX7_tellingIn 15 = .ok (.iload_n 1, 1) := by decide +kernel
theorem dX7_tellingIn_16 : decode cX7_tellingIn 16 = .ok (.invokevirtual 157, 3) := by decide +kernel
theorem dX7_tellingIn_19 : decode cX7_tellingIn 19 = .ok (.bipush 20, 2) := by decide +kernel
theorem dX7_tellingIn_21 : decode cX7_tellingIn 21 = .ok (.if_icmp .lt 15, 3) := by decide +kernel
theorem dX7_tellingIn_24 : decode cX7_tellingIn 24 = .ok (.aload_n 0, 1) := by decide +kernel
theorem dX7_tellingIn_25 : decode cX7_tellingIn 25 = .ok (.iload_n 1, 1) := by decide +kernel
theorem dX7_tellingIn_26 : decode cX7_tellingIn 26 = .ok (.iconst 0, 1) := by decide +kernel
theorem dX7_tellingIn_27 : decode cX7_tellingIn 27 = .ok (.invokevirtual 269, 3) := by decide +kernel
theorem dX7_tellingIn_30 : decode cX7_tellingIn 30 = .ok (.ifCond .eq 6, 3) := by decide +kernel
theorem dX7_tellingIn_33 : decode cX7_tellingIn 33 = .ok (.iinc 3 1, 3) := by decide +kernel
theorem dX7_tellingIn_36 : decode cX7_tellingIn 36 = .ok (.iload_n 2, 1) := by decide +kernel
theorem dX7_tellingIn_37 : decode cX7_tellingIn 37 = .ok (.bipush 15, 2) := by decide +kernel
theorem dX7_tellingIn_39 : decode cX7_tellingIn 39 = .ok (.if_icmp .lt 15, 3) := by decide +kernel
theorem dX7_tellingIn_42 : decode cX7_tellingIn 42 = .ok (.aload_n 0, 1) := by decide +kernel
theorem dX7_tellingIn_43 : decode cX7_tellingIn 43 = .ok (.iload_n 1, 1) := by decide +kernel
theorem dX7_tellingIn_44 : decode cX7_tellingIn 44 = .ok (.iconst 1, 1) := by decide +kernel
theorem dX7_tellingIn_45 : decode cX7_tellingIn 45 = .ok (.invokevirtual 269, 3) := by decide +kernel
theorem dX7_tellingIn_48 : decode cX7_tellingIn 48 = .ok (.ifCond .eq 6, 3) := by decide +kernel
theorem dX7_tellingIn_51 : decode cX7_tellingIn 51 = .ok (.iinc 3 1, 3) := by decide +kernel
theorem dX7_tellingIn_54 : decode cX7_tellingIn 54 = .ok (.iload_n 2, 1) := by decide +kernel
theorem dX7_tellingIn_55 : decode cX7_tellingIn 55 = .ok (.bipush 10, 2) := by decide +kernel
theorem dX7_tellingIn_57 : decode cX7_tellingIn 57 = .ok (.if_icmp .lt 26, 3) := by decide +kernel
