theorem dX0_init_0 : decode cX0_init 0 = .ok (.aload_n 0, 1) := by decide +kernel
theorem dX0_init_1 : decode cX0_init 1 = .ok (.invokespecial 3, 3) := by decide +kernel
theorem dX0_init_4 : decode cX0_init 4 = .ok (.aload_n 0, 1) := by decide +kernel
theorem dX0_init_5 : decode cX0_init 5 = .ok (.bipush 12, 2) := by decide +kernel
theorem dX0_init_7 : decode cX0_init 7 = .ok (.newarray .int, 2) := by decide +kernel
theorem dX0_init_9 : decode cX0_init 9 = .ok (.putfield 9, 3) := by decide +kernel
theorem dX0_init_12 : decode cX0_init 12 = .ok (.aload_n 0, 1) := by decide +kernel
theorem dX0_init_13 : decode cX0_init 13 = .ok (.bipush 12, 2) := by decide +kernel
theorem dX0_init_15 : decode cX0_init 15 = .ok (.newarray .int, 2) := by decide +kernel
theorem dX0_init_17 : decode cX0_init 17 = .ok (.putfield 15, 3) := by decide +kernel
theorem dX0_init_20 : decode cX0_init 20 = .ok (.aload_n 0, 1) := by decide +kernel
theorem dX0_init_21 : decode cX0_init 21 = .ok (.bipush 12, 2) := by decide +kernel
theorem dX0_init_23 : decode cX0_init 23 = .ok (.newarray .int, 2) := by decide +kernel
theorem dX0_init_25 : decode cX0_init 25 = .ok (.putfield 18, 3) := by decide +kernel
theorem dX0_init_28 : decode cX0_init 28 = .ok (.aload_n 0, 1) := by decide +kernel
theorem dX0_init_29 : decode cX0_init 29 = .ok (.iconst 0, 1) := by decide +kernel
theorem dX0_init_30 : decode cX0_init 30 = .ok (.putfield 21, 3) := by decide +kernel
theorem dX0_init_33 : decode cX0_init 33 = .ok (.return_, 1) := by decide +kernel
set_option maxRecDepth 20000 in
theorem ggX0_feedFrom_X7_isSegment : GoodIn wsX0_feedFrom wsX7_isSegment := goodIn_r _ [5] (by decide +kernel) (by decide +kernel)
set_option maxRecDepth 20000 in
theorem gX0_feedFrom_X7_isSegment_n25 : GoodIn wsX0_feedFrom (wsX7_isSegment) := ggX0_feedFrom_X7_isSegment
theorem dX0_feedFrom_0 : decode cX0_feedFrom 0 = .ok (.iload_n 1, 1) := by decide +kernel
theorem dX0_feedFrom_1 : decode cX0_feedFrom 1 = .ok (.invokestatic 25, 3) := by decide +kernel
theorem dX0_feedFrom_4 : decode cX0_feedFrom 4 = .ok (.ifCond .eq 23, 3) := by decide +kernel
theorem dX0_feedFrom_7 : decode cX0_feedFrom 7 = .ok (.aload_n 0, 1) := by decide +kernel
theorem dX0_feedFrom_8 : decode cX0_feedFrom 8 = .ok (.getfield 9, 3) := by decide +kernel
theorem dX0_feedFrom_11 : decode cX0_feedFrom 11 = .ok (.iload_n 1, 1) := by decide +kernel
theorem dX0_feedFrom_12 : decode cX0_feedFrom 12 = .ok (.dup2, 1) := by decide +kernel
theorem dX0_feedFrom_13 : decode cX0_feedFrom 13 = .ok (.iaload, 1) := by decide +kernel
theorem dX0_feedFrom_14 : decode cX0_feedFrom 14 = .ok (.iload_n 2, 1) := by decide +kernel
theorem dX0_feedFrom_15 : decode cX0_feedFrom 15 = .ok (.iadd, 1) := by decide +kernel
theorem dX0_feedFrom_16 : decode cX0_feedFrom 16 = .ok (.iastore, 1) := by decide +kernel
theorem dX0_feedFrom_17 : decode cX0_feedFrom 17 = .ok (.aload_n 0, 1) := by decide +kernel
theorem dX0_feedFrom_18 : decode cX0_feedFrom 18 = .ok (.getfield 15, 3) := by decide +kernel
theorem dX0_feedFrom_21 : decode cX0_feedFrom 21 = .ok (.iload_n 1, 1) := by decide +kernel
theorem dX0_feedFrom_22 : decode cX0_feedFrom 22 = .ok (.dup2, 1) := by decide +kernel
theorem dX0_feedFrom_23 : decode cX0_feedFrom 23 = .ok (.iaload, 1) := by decide +kernel
theorem dX0_feedFrom_24 : decode cX0_feedFrom 24 = .ok (.iload_n 2, 1) := by decide +kernel
theorem dX0_feedFrom_25 : decode cX0_feedFrom 25 = .ok (.iadd, 1) := by decide +kernel
theorem dX0_feedFrom_26 : decode cX0_feedFrom 26 = .ok (.iastore, 1) := by decide +kernel
theorem dX0_feedFrom_27 : decode cX0_feedFrom 27 = .ok (.return_, 1) := by decide +kernel
set_option maxRecDepth 20000 in
theorem ggX0_drift_X0_withoutSign : GoodIn wsX0_drift wsX0_withoutSign := goodIn_r _ [6] (by decide +kernel) (by decide +kernel)
set_option maxRecDepth 20000 in
theorem gX0_drift_X0_withoutSign : GoodIn wsX0_drift (va_wsS RX0 29 yX0_withoutSign wsX0_withoutSign) := goodIn_app (goodIn_of _ (by decide +kernel)) ggX0_drift_X0_withoutSign
set_option maxRecDepth 20000 in
theorem ggX0_drift_X0_side : GoodIn wsX0_drift wsX0_side := goodIn_r _ [9] (by decide +kernel) (by decide +kernel)
set_option maxRecDepth 20000 in
theorem gX0_drift_X0_side : GoodIn wsX0_drift (va_wsS RX0 33 yX0_side wsX0_side) := goodIn_app (goodIn_of _ (by decide +kernel)) ggX0_drift_X0_side
set_option maxRecDepth 20000 in
theorem ggX0_drift_X0_shift : GoodIn wsX0_drift wsX0_shift := goodIn_r _ [13, 2, 14, 15, 16, 17, 18, 19, 20, 21] (by decide +kernel) (by decide +kernel)
set_option maxRecDepth 20000 in
theorem gX0_drift_X0_shift : GoodIn wsX0_drift (wsV RX0 37 RX0 yX0_shift wsX0_shift) := goodIn_app (goodIn_of _ (by decide +kernel)) ggX0_drift_X0_shift
theorem dX0_drift_0 : decode cX0_drift 0 = .ok (.dload_n 1, 1) := by decide +kernel
theorem dX0_drift_1 : decode cX0_drift 1 = .ok (.invokestatic 29, 3) := by decide +kernel
theorem dX0_drift_4 : decode cX0_drift 4 = .ok (.d2i, 1) := by decide +kernel
theorem dX0_drift_5 : decode cX0_drift 5 = .ok (.istore_n 3, 1) := by decide +kernel
theorem dX0_drift_6 : decode cX0_drift 6 = .ok (.iconst 0, 1) := by decide +kernel
theorem dX0_drift_7 : decode cX0_drift 7 = .ok (.istore 4, 2) := by decide +kernel
theorem dX0_drift_9 : decode cX0_drift 9 = .ok (.iload 4, 2) := by decide +kernel
theorem dX0_drift_11 : decode cX0_drift 11 = .ok (.bipush 12, 2) := by decide +kernel
theorem dX0_drift_13 : decode cX0_drift 13 = .ok (.if_icmp .ge 28, 3) := by decide +kernel
theorem dX0_drift_16 : decode cX0_drift 16 = .ok (.aload_n 0, 1) := by decide +kernel
theorem dX0_drift_17 : decode cX0_drift 17 = .ok (.getfield 18, 3) := by decide +kernel
theorem dX0_drift_20 : decode cX0_drift 20 = .ok (.iload 4, 2) := by decide +kernel
theorem dX0_drift_22 : decode cX0_drift 22 = .ok (.aload_n 0, 1) := by decide +kernel
theorem dX0_drift_23 : decode cX0_drift 23 = .ok (.getfield 9, 3) := by decide +kernel
theorem dX0_drift_26 : decode cX0_drift 26 = .ok (.iload 4, 2) := by decide +kernel
theorem dX0_drift_28 : decode cX0_drift 28 = .ok (.iaload, 1) := by decide +kernel
theorem dX0_drift_29 : decode cX0_drift 29 = .ok (.iload_n 3, 1) := by decide +kernel
theorem dX0_drift_30 : decode cX0_drift 30 = .ok (.imul, 1) := by decide +kernel
theorem dX0_drift_31 : decode cX0_drift 31 = .ok (.bipush 100, 2) := by decide +kernel
theorem dX0_drift_33 : decode cX0_drift 33 = .ok (.idiv, 1) := by decide +kernel
theorem dX0_drift_34 : decode cX0_drift 34 = .ok (.iastore, 1) := by decide +kernel
theorem dX0_drift_35 : decode cX0_drift 35 = .ok (.iinc 4 1, 3) := by decide +kernel
theorem dX0_drift_38 : decode cX0_drift 38 = .ok (.goto (-29), 3) := by decide +kernel
theorem dX0_drift_41 : decode cX0_drift 41 = .ok (.iconst 0, 1) := by decide +kernel
theorem dX0_drift_42 : decode cX0_drift 42 = .ok (.istore 4, 2) := by decide +kernel
theorem dX0_drift_44 : decode cX0_drift 44 = .ok (.iload 4, 2) := by decide +kernel
theorem dX0_drift_46 : decode cX0_drift 46 = .ok (.bipush 12, 2) := by decide +kernel
theorem dX0_drift_48 : decode cX0_drift 48 = .ok (.if_icmp .ge 29, 3) := by decide +kernel
theorem dX0_drift_51 : decode cX0_drift 51 = .ok (.aload_n 0, 1) := by decide +kernel
theorem dX0_drift_52 : decode cX0_drift 52 = .ok (.iload 4, 2) := by decide +kernel
theorem dX0_drift_54 : decode cX0_drift 54 = .ok (.iload 4, 2) := by decide +kernel
theorem dX0_drift_56 : decode cX0_drift 56 = .ok (.dload_n 1, 1) := by decide +kernel
theorem dX0_drift_57 : decode cX0_drift 57 = .ok (.invokestatic 33, 3) := by decide +kernel
theorem dX0_drift_60 : decode cX0_drift 60 = .ok (.iadd, 1) := by decide +kernel
theorem dX0_drift_61 : decode cX0_drift 61 = .ok (.aload_n 0, 1) := by decide +kernel
theorem dX0_drift_62 : decode cX0_drift 62 = .ok (.getfield 18, 3) := by decide +kernel
theorem dX0_drift_65 : decode cX0_drift 65 = .ok (.iload 4, 2) := by decide +kernel
theorem dX0_drift_67 : decode cX0_drift 67 = .ok (.iaload, 1) := by decide +kernel
theorem dX0_drift_68 : decode cX0_drift 68 = .ok (.invokevirtual 37, 3) := by decide +kernel
theorem dX0_drift_71 : decode cX0_drift 71 = .ok (.iinc 4 1, 3) := by decide +kernel
theorem dX0_drift_74 : decode cX0_drift 74 = .ok (.goto (-30), 3) := by decide +kernel
theorem dX0_drift_77 : decode cX0_drift 77 = .ok (.return_, 1) := by decide +kernel
set_option maxRecDepth 20000 in
theorem ggX0_backUp_X0_withoutSign : GoodIn wsX0_backUp wsX0_withoutSign := goodIn_r _ [5] (by decide +kernel) (by decide +kernel)
set_option maxRecDepth 20000 in
theorem gX0_backUp_X0_withoutSign : GoodIn wsX0_backUp (va_wsS RX0 29 yX0_withoutSign wsX0_withoutSign) := goodIn_app (goodIn_of _ (by decide +kernel)) ggX0_backUp_X0_withoutSign
set_option maxRecDepth 20000 in
theorem ggX0_backUp_X0_side : GoodIn wsX0_backUp wsX0_side := goodIn_r _ [8] (by decide +kernel) (by decide +kernel)
set_option maxRecDepth 20000 in
theorem gX0_backUp_X0_side : GoodIn wsX0_backUp (va_wsS RX0 33 yX0_side wsX0_side) := goodIn_app (goodIn_of _ (by decide +kernel)) ggX0_backUp_X0_side
set_option maxRecDepth 20000 in
theorem ggX0_backUp_X0_smokeIn : GoodIn wsX0_backUp wsX0_smokeIn := goodIn_r _ [12, 13, 14, 15, 16, 22, 23, 24, 25] (by decide +kernel) (by decide +kernel)
set_option maxRecDepth 20000 in
theorem gX0_backUp_X0_smokeIn : GoodIn wsX0_backUp (wsV RX0 43 RX0 yX0_smokeIn wsX0_smokeIn) := goodIn_app (goodIn_of _ (by decide +kernel)) ggX0_backUp_X0_smokeIn
set_option maxRecDepth 20000 in
theorem ggX0_backUp_X0_shift : GoodIn wsX0_backUp wsX0_shift := goodIn_r _ [20, 13, 21, 14, 15, 16, 22, 23, 24, 25] (by decide +kernel) (by decide +kernel)
set_option maxRecDepth 20000 in
theorem gX0_backUp_X0_shift : GoodIn wsX0_backUp (wsV RX0 37 RX0 yX0_shift wsX0_shift) := goodIn_app (goodIn_of _ (by decide +kernel)) ggX0_backUp_X0_shift
theorem dX0_backUp_0 : decode cX0_backUp 0 = .ok (.dload_n 2, 1) := by decide +kernel
theorem dX0_backUp_1 : decode cX0_backUp 1 = .ok (.invokestatic 29, 3) := by decide +kernel
theorem dX0_backUp_4 : decode cX0_backUp 4 = .ok (.ldc2_w 41, 3) := by decide +kernel
theorem dX0_backUp_7 : decode cX0_backUp 7 = .ok (.dcmp .g, 1) := by decide +kernel
theorem dX0_backUp_8 : decode cX0_backUp 8 = .ok (.ifCond .ge 22, 3) := by decide +kernel
theorem dX0_backUp_11 : decode cX0_backUp 11 = .ok (.aload_n 0, 1) := by decide +kernel
theorem dX0_backUp_12 : decode cX0_backUp 12 = .ok (.iload_n 1, 1) := by decide +kernel
theorem dX0_backUp_13 : decode cX0_backUp 13 = .ok (.iload_n 1, 1) := by decide +kernel
theorem dX0_backUp_14 : decode cX0_backUp 14 = .ok (.dload_n 2, 1) := by decide +kernel
theorem dX0_backUp_15 : decode cX0_backUp 15 = .ok (.invokestatic 33, 3) := by decide +kernel
theorem dX0_backUp_18 : decode cX0_backUp 18 = .ok (.isub, 1) := by decide +kernel
theorem dX0_backUp_19 : decode cX0_backUp 19 = .ok (.aload_n 0, 1) := by decide +kernel
theorem dX0_backUp_20 : decode cX0_backUp 20 = .ok (.iload_n 1, 1) := by decide +kernel
theorem dX0_backUp_21 : decode cX0_backUp 21 = .ok (.invokevirtual 43, 3) := by decide +kernel
theorem dX0_backUp_24 : decode cX0_backUp 24 = .ok (.bipush 10, 2) := by decide +kernel
theorem dX0_backUp_26 : decode cX0_backUp 26 = .ok (.idiv, 1) := by decide +kernel
theorem dX0_backUp_27 : decode cX0_backUp 27 = .ok (.invokevirtual 37, 3) := by decide +kernel
theorem dX0_backUp_30 : decode cX0_backUp 30 = .ok (.return_, 1) := by decide +kernel
set_option maxRecDepth 20000 in
theorem ggX0_drawOff_X0_smokeIn : GoodIn wsX0_drawOff wsX0_smokeIn := goodIn_r _ [5, 6, 7, 8, 9, 15, 16, 17, 18] (by decide +kernel) (by decide +kernel)
set_option maxRecDepth 20000 in
theorem gX0_drawOff_X0_smokeIn : GoodIn wsX0_drawOff (wsV RX0 43 RX0 yX0_smokeIn wsX0_smokeIn) := goodIn_app (goodIn_of _ (by decide +kernel)) ggX0_drawOff_X0_smokeIn
set_option maxRecDepth 20000 in
theorem ggX0_drawOff_X0_shift : GoodIn wsX0_drawOff wsX0_shift := goodIn_r _ [13, 6, 14, 7, 8, 9, 15, 16, 17, 18] (by decide +kernel) (by decide +kernel)
set_option maxRecDepth 20000 in
theorem gX0_drawOff_X0_shift : GoodIn wsX0_drawOff (wsV RX0 37 RX0 yX0_shift wsX0_shift) := goodIn_app (goodIn_of _ (by decide +kernel)) ggX0_drawOff_X0_shift
theorem dX0_drawOff_0 : decode cX0_drawOff 0 = .ok (.aload_n 0, 1) := by decide +kernel
theorem dX0_drawOff_1 : decode cX0_drawOff 1 = .ok (.iload_n 1, 1) := by decide +kernel
theorem dX0_drawOff_2 : decode cX0_drawOff 2 = .ok (.iconst (-1), 1) := by decide +kernel
theorem dX0_drawOff_3 : decode cX0_drawOff 3 = .ok (.aload_n 0, 1) := by decide +kernel
theorem dX0_drawOff_4 : decode cX0_drawOff 4 = .ok (.iload_n 1, 1) := by decide +kernel
theorem dX0_drawOff_5 : decode cX0_drawOff 5 = .ok (.invokevirtual 43, 3) := by decide +kernel
theorem dX0_drawOff_8 : decode cX0_drawOff 8 = .ok (.iconst 3, 1) := by decide +kernel
theorem dX0_drawOff_9 : decode cX0_drawOff 9 = .ok (.idiv, 1) := by decide +kernel
theorem dX0_drawOff_10 : decode cX0_drawOff 10 = .ok (.invokevirtual 37, 3) := by decide +kernel
theorem dX0_drawOff_13 : decode cX0_drawOff 13 = .ok (.return_, 1) := by decide +kernel
theorem dX0_cool_0 : decode cX0_cool 0 = .ok (.iconst 0, 1) := by decide +kernel
theorem dX0_cool_1 : decode cX0_cool 1 = .ok (.istore_n 1, 1) := by decide +kernel
theorem dX0_cool_2 : decode cX0_cool 2 = .ok (.iload_n 1, 1) := by decide +kernel
theorem dX0_cool_3 : decode cX0_cool 3 = .ok (.bipush 12, 2) := by decide +kernel
theorem dX0_cool_5 : decode cX0_cool 5 = .ok (.if_icmp .ge 28, 3) := by decide +kernel
theorem dX0_cool_8 : decode cX0_cool 8 = .ok (.aload_n 0, 1) := by decide +kernel
theorem dX0_cool_9 : decode cX0_cool 9 = .ok (.getfield 15, 3) := by decide +kernel
theorem dX0_cool_12 : decode cX0_cool 12 = .ok (.iload_n 1, 1) := by decide +kernel
theorem dX0_cool_13 : decode cX0_cool 13 = .ok (.dup2, 1) := by decide +kernel
theorem dX0_cool_14 : decode cX0_cool 14 = .ok (.iaload, 1) := by decide +kernel
theorem dX0_cool_15 : decode cX0_cool 15 = .ok (.aload_n 0, 1) := by decide +kernel
theorem dX0_cool_16 : decode cX0_cool 16 = .ok (.getfield 15, 3) := by decide +kernel
theorem dX0_cool_19 : decode cX0_cool 19 = .ok (.iload_n 1, 1) := by decide +kernel
theorem dX0_cool_20 : decode cX0_cool 20 = .ok (.iaload, 1) := by decide +kernel
theorem dX0_cool_21 : decode cX0_cool 21 = .ok (.iconst 3, 1) := by decide +kernel
theorem dX0_cool_22 : decode cX0_cool 22 = .ok (.iadd, 1) := by decide +kernel
theorem dX0_cool_23 : decode cX0_cool 23 = .ok (.iconst 4, 1) := by decide +kernel
theorem dX0_cool_24 : decode cX0_cool 24 = .ok (.idiv, 1) := by decide +kernel
theorem dX0_cool_25 : decode cX0_cool 25 = .ok (.isub, 1) := by decide +kernel
theorem dX0_cool_26 : decode cX0_cool 26 = .ok (.iastore, 1) := by decide +kernel
theorem dX0_cool_27 : decode cX0_cool 27 = .ok (.iinc 1 1, 3) := by decide +kernel
theorem dX0_cool_30 : decode cX0_cool 30 = .ok (.goto (-28), 3) := by decide +kernel
theorem dX0_cool_33 : decode cX0_cool 33 = .ok (.return_, 1) := by decide +kernel
set_option maxRecDepth 20000 in
theorem ggX0_shift_X7_isSegment : GoodIn wsX0_shift wsX7_isSegment := goodIn_r _ [5] (by decide +kernel) (by decide +kernel)
set_option maxRecDepth 20000 in
theorem gX0_shift_X7_isSegment_n25 : GoodIn wsX0_shift (wsX7_isSegment) := ggX0_shift_X7_isSegment
theorem dX0_shift_0 : decode cX0_shift 0 = .ok (.iload_n 1, 1) := by decide +kernel
theorem dX0_shift_1 : decode cX0_shift 1 = .ok (.invokestatic 25, 3) := by decide +kernel
theorem dX0_shift_4 : decode cX0_shift 4 = .ok (.ifCond .ne 4, 3) := by decide +kernel
theorem dX0_shift_7 : decode cX0_shift 7 = .ok (.return_, 1) := by decide +kernel
theorem dX0_shift_8 : decode cX0_shift 8 = .ok (.aload_n 0, 1) := by decide +kernel
theorem dX0_shift_9 : decode cX0_shift 9 = .ok (.getfield 9, 3) := by decide +kernel
theorem dX0_shift_12 : decode cX0_shift 12 = .ok (.iload_n 1, 1) := by decide +kernel
theorem dX0_shift_13 : decode cX0_shift 13 = .ok (.dup2, 1) := by decide +kernel
theorem dX0_shift_14 : decode cX0_shift 14 = .ok (.iaload, 1) := by decide +kernel
theorem dX0_shift_15 : decode cX0_shift 15 = .ok (.iload_n 3, 1) := by decide +kernel
theorem dX0_shift_16 : decode cX0_shift 16 = .ok (.isub, 1) := by decide +kernel
theorem dX0_shift_17 : decode cX0_shift 17 = .ok (.iastore, 1) := by decide +kernel
theorem dX0_shift_18 : decode cX0_shift 18 = .ok (.iload_n 2, 1) := by decide +kernel
theorem dX0_shift_19 : decode cX0_shift 19 = .ok (.invokestatic 25, 3) := by decide +kernel
theorem dX0_shift_22 : decode cX0_shift 22 = .ok (.ifCond .eq 16, 3) := by decide +kernel
theorem dX0_shift_25 : decode cX0_shift 25 = .ok (.aload_n 0, 1) := by decide +kernel
theorem dX0_shift_26 : decode cX0_shift 26 = .ok (.getfield 9, 3) := by decide +kernel
theorem dX0_shift_29 : decode cX0_shift 29 = .ok (.iload_n 2, 1) := by decide +kernel
theorem dX0_shift_30 : decode cX0_shift 30 = .ok (.dup2, 1) := by decide +kernel
theorem dX0_shift_31 : decode cX0_shift 31 = .ok (.iaload, 1) := by decide +kernel
theorem dX0_shift_32 : decode cX0_shift 32 = .ok (.iload_n 3, 1) := by decide +kernel
theorem dX0_shift_33 : decode cX0_shift 33 = .ok (.iadd, 1) := by decide +kernel
theorem dX0_shift_34 : decode cX0_shift 34 = .ok (.iastore, 1) := by decide +kernel
theorem dX0_shift_35 : decode cX0_shift 35 = .ok (.goto 13, 3) := by decide +kernel
theorem dX0_shift_38 : decode cX0_shift 38 = .ok (.aload_n 0, 1) := by decide +kernel
theorem dX0_shift_39 : decode cX0_shift 39 = .ok (.dup, 1) := by decide +kernel
theorem dX0_shift_40 : decode cX0_shift 40 = .ok (.getfield 21, 3) := by decide +kernel
theorem dX0_shift_43 : decode cX0_shift 43 = .ok (.iload_n 3, 1) := by decide +kernel
theorem dX0_shift_44 : decode cX0_shift 44 = .ok (.iadd, 1) := by decide +kernel
theorem dX0_shift_45 : decode cX0_shift 45 = .ok (.putfield 21, 3) := by decide +kernel
theorem dX0_shift_48 : decode cX0_shift 48 = .ok (.return_, 1) := by decide +kernel
theorem dX0_withoutSign_0 : decode cX0_withoutSign 0 = .ok (.dload_n 0, 1) := by decide +kernel
theorem dX0_withoutSign_1 : decode cX0_withoutSign 1 = .ok (.dconst 0, 1) := by decide +kernel
theorem dX0_withoutSign_2 : decode cX0_withoutSign 2 = .ok (.dcmp .g, 1) := by decide +kernel
theorem dX0_withoutSign_3 : decode cX0_withoutSign 3 = .ok (.ifCond .ge 8, 3) := by decide +kernel
theorem dX0_withoutSign_6 : decode cX0_withoutSign 6 = .ok (.dload_n 0, 1) := by decide +kernel
theorem dX0_withoutSign_7 : decode cX0_withoutSign 7 = .ok (.dneg, 1) := by decide +kernel
theorem dX0_withoutSign_8 : decode cX0_withoutSign 8 = .ok (.goto 4, 3) := by decide +kernel
theorem dX0_withoutSign_11 : decode cX0_withoutSign 11 = .ok (.dload_n 0, 1) := by decide +kernel
theorem dX0_withoutSign_12 : decode cX0_withoutSign 12 = .ok (.dreturn, 1) := by decide +kernel
theorem dX0_side_0 : decode cX0_side 0 = .ok (.dload_n 0, 1) := by decide +kernel
theorem dX0_side_1 : decode cX0_side 1 = .ok (.dconst 0, 1) := by decide +kernel
theorem dX0_side_2 : decode cX0_side 2 = .ok (.dcmp .g, 1) := by decide +kernel
theorem dX0_side_3 : decode cX0_side 3 = .ok (.ifCond .ge 7, 3) := by decide +kernel
theorem dX0_side_6 : decode cX0_side 6 = .ok (.iconst (-1), 1) := by decide +kernel
theorem dX0_side_7 : decode cX0_side 7 = .ok (.goto 4, 3) := by decide +kernel
theorem dX0_side_10 : decode cX0_side 10 = .ok (.iconst 1, 1) := by decide +kernel
theorem dX0_side_11 : decode cX0_side 11 = .ok (.ireturn, 1) := by decide +kernel
set_option maxRecDepth 20000 in
theorem ggX0_smokeIn_X7_isSegment : GoodIn wsX0_smokeIn wsX7_isSegment := goodIn_r _ [4] (by decide +kernel) (by decide +kernel)
set_option maxRecDepth 20000 in
theorem gX0_smokeIn_X7_isSegment_n25 : GoodIn wsX0_smokeIn (wsX7_isSegment) := ggX0_smokeIn_X7_isSegment
theorem dX0_smokeIn_0 : decode cX0_smokeIn 0 = .ok (.iload_n 1, 1) := by decide +kernel
theorem dX0_smokeIn_1 : decode cX0_smokeIn 1 = .ok (.invokestatic 25, 3) := by decide +kernel
theorem dX0_smokeIn_4 : decode cX0_smokeIn 4 = .ok (.ifCond .eq 12, 3) := by decide +kernel
theorem dX0_smokeIn_7 : decode cX0_smokeIn 7 = .ok (.aload_n 0, 1) := by decide +kernel
theorem dX0_smokeIn_8 : decode cX0_smokeIn 8 = .ok (.getfield 9, 3) := by decide +kernel
theorem dX0_smokeIn_11 : decode cX0_smokeIn 11 = .ok (.iload_n 1, 1) := by decide +kernel
theorem dX0_smokeIn_12 : decode cX0_smokeIn 12 = .ok (.iaload, 1) := by decide +kernel
theorem dX0_smokeIn_13 : decode cX0_smokeIn 13 = .ok (.goto 4, 3) := by decide +kernel
theorem dX0_smokeIn_16 : decode cX0_smokeIn 16 = .ok (.iconst 0, 1) := by decide +kernel
theorem dX0_smokeIn_17 : decode cX0_smokeIn 17 = .ok (.ireturn, 1) := by decide +kernel
set_option maxRecDepth 20000 in
theorem ggX0_heatIn_X7_isSegment : GoodIn wsX0_heatIn wsX7_isSegment := goodIn_r _ [4] (by decide +kernel) (by decide +kernel)
set_option maxRecDepth 20000 in
theorem gX0_heatIn_X7_isSegment_n25 : GoodIn wsX0_heatIn (wsX7_isSegment) := ggX0_heatIn_X7_isSegment
theorem dX0_heatIn_0 : decode cX0_heatIn 0 = .ok (.iload_n 1, 1) := by decide +kernel
theorem dX0_heatIn_1 : decode cX0_heatIn 1 = .ok (.invokestatic 25, 3) := by decide +kernel
theorem dX0_heatIn_4 : decode cX0_heatIn 4 = .ok (.ifCond .eq 12, 3) := by decide +kernel
theorem dX0_heatIn_7 : decode cX0_heatIn 7 = .ok (.aload_n 0, 1) := by decide +kernel
theorem dX0_heatIn_8 : decode cX0_heatIn 8 = .ok (.getfield 15, 3) := by decide +kernel
theorem dX0_heatIn_11 : decode cX0_heatIn 11 = .ok (.iload_n 1, 1) := by decide +kernel
theorem dX0_heatIn_12 : decode cX0_heatIn 12 = .ok (.iaload, 1) := by decide +kernel
theorem dX0_heatIn_13 : decode cX0_heatIn 13 = .ok (.goto 4, 3) := by decide +kernel
theorem dX0_heatIn_16 : decode cX0_heatIn 16 = .ok (.iconst 0, 1) := by decide +kernel
theorem dX0_heatIn_17 : decode cX0_heatIn 17 = .ok (.ireturn, 1) := by decide +kernel
theorem dX0_allSmoke_0 : decode cX0_allSmoke 0 = .ok (.iconst 0, 1) := by decide +kernel
theorem dX0_allSmoke_1 : decode cX0_allSmoke 1 = .ok (.istore_n 1, 1) := by decide +kernel
theorem dX0_allSmoke_2 : decode cX0_allSmoke 2 = .ok (.iconst 0, 1) := by decide +kernel
theorem dX0_allSmoke_3 : decode cX0_allSmoke 3 = .ok (.istore_n 2, 1) := by decide +kernel
theorem dX0_allSmoke_4 : decode cX0_allSmoke 4 = .ok (.iload_n 2, 1) := by decide +kernel
theorem dX0_allSmoke_5 : decode cX0_allSmoke 5 = .ok (.bipush 12, 2) := by decide +kernel
theorem dX0_allSmoke_7 : decode cX0_allSmoke 7 = .ok (.if_icmp .ge 18, 3) := by decide +kernel
theorem dX0_allSmoke_10 : decode cX0_allSmoke 10 = .ok (.iload_n 1, 1) := by decide +kernel
theorem dX0_allSmoke_11 : decode cX0_allSmoke 11 = .ok (.aload_n 0, 1) := by decide +kernel
theorem dX0_allSmoke_12 : decode cX0_allSmoke 12 = .ok (.getfield 9, 3) := by decide +kernel
theorem dX0_allSmoke_15 : decode cX0_allSmoke 15 = .ok (.iload_n 2, 1) := by decide +kernel
theorem dX0_allSmoke_16 : decode cX0_allSmoke 16 = .ok (.iaload, 1) := by decide +kernel
theorem dX0_allSmoke_17 : decode cX0_allSmoke 17 = .ok (.iadd, 1) := by decide +kernel
theorem dX0_allSmoke_18 : decode cX0_allSmoke 18 = .ok (.istore_n 1, 1) := by decide +kernel
theorem dX0_allSmoke_19 : decode cX0_allSmoke 19 = .ok (.iinc 2 1, 3) := by decide +kernel
theorem dX0_allSmoke_22 : decode cX0_allSmoke 22 = .ok (.goto (-18), 3) := by decide +kernel
theorem dX0_allSmoke_25 : decode cX0_allSmoke 25 = .ok (.iload_n 1, 1) := by decide +kernel
theorem dX0_allSmoke_26 : decode cX0_allSmoke 26 = .ok (.ireturn, 1) := by decide +kernel
theorem dX0_lost_0 : decode cX0_lost 0 = .ok (.aload_n 0, 1) := by decide +kernel
theorem dX0_lost_1 : decode cX0_lost 1 = .ok (.getfield 21, 3) := by decide +kernel
theorem dX0_lost_4 : decode cX0_lost 4 = .ok (.ireturn, 1) := by decide +kernel
theorem dX1_init_0 : decode cX1_init 0 = .ok (.aload_n 0, 1) := by decide +kernel
theorem dX1_init_1 : decode cX1_init 1 = .ok (.invokespecial 3, 3) := by decide +kernel
theorem dX1_init_4 : decode cX1_init 4 = .ok (.aload_n 0, 1) := by decide +kernel
theorem dX1_init_5 : decode cX1_init 5 = .ok (.iconst (-1), 1) := by decide +kernel
theorem dX1_init_6 : decode cX1_init 6 = .ok (.putfield 9, 3) := by decide +kernel
theorem dX1_init_9 : decode cX1_init 9 = .ok (.aload_n 0, 1) := by decide +kernel
theorem dX1_init_10 : decode cX1_init 10 = .ok (.iconst 0, 1) := by decide +kernel
theorem dX1_init_11 : decode cX1_init 11 = .ok (.putfield 15, 3) := by decide +kernel
theorem dX1_init_14 : decode cX1_init 14 = .ok (.aload_n 0, 1) := by decide +kernel
theorem dX1_init_15 : decode cX1_init 15 = .ok (.lconst 0, 1) := by decide +kernel
theorem dX1_init_16 : decode cX1_init 16 = .ok (.putfield 18, 3) := by decide +kernel
theorem dX1_init_19 : decode cX1_init 19 = .ok (.aload_n 0, 1) := by decide +kernel
theorem dX1_init_20 : decode cX1_init 20 = .ok (.bipush 30, 2) := by decide +kernel
theorem dX1_init_22 : decode cX1_init 22 = .ok (.putfield 22, 3) := by decide +kernel
theorem dX1_init_25 : decode cX1_init 25 = .ok (.aload_n 0, 1) := by decide +kernel
theorem dX1_init_26 : decode cX1_init 26 = .ok (.iconst 0, 1) := by decide +kernel
theorem dX1_init_27 : decode cX1_init 27 = .ok (.putfield 25, 3) := by decide +kernel
theorem dX1_init_30 : decode cX1_init 30 = .ok (.aload_n 0, 1) := by decide +kernel
theorem dX1_init_31 : decode cX1_init 31 = .ok (.iconst 0, 1) := by decide +kernel
theorem dX1_init_32 : decode cX1_init 32 = .ok (.putfield 29, 3) := by decide +kernel
theorem dX1_init_35 : decode cX1_init 35 = .ok (.return_, 1) := by decide +kernel
theorem dX1_isBurning_0 : decode cX1_isBurning 0 = .ok (.aload_n 0, 1) := by decide +kernel
theorem dX1_isBurning_1 : decode cX1_isBurning 1 = .ok (.getfield 9, 3) := by decide +kernel
theorem dX1_isBurning_4 : decode cX1_isBurning 4 = .ok (.iconst (-1), 1) := by decide +kernel
theorem dX1_isBurning_5 : decode cX1_isBurning 5 = .ok (.if_icmp .eq 7, 3) := by decide +kernel
theorem dX1_isBurning_8 : decode cX1_isBurning 8 = .ok (.iconst 1, 1) := by decide +kernel
theorem dX1_isBurning_9 : decode cX1_isBurning 9 = .ok (.goto 4, 3) := by decide +kernel
theorem dX1_isBurning_12 : decode cX1_isBurning 12 = .ok (.iconst 0, 1) := by decide +kernel
theorem dX1_isBurning_13 : decode cX1_isBurning 13 = .ok (.ireturn, 1) := by decide +kernel
theorem dX1_begin_0 : decode cX1_begin 0 = .ok (.aload_n 0, 1) := by decide +kernel
theorem dX1_begin_1 : decode cX1_begin 1 = .ok (.iload_n 1, 1) := by decide +kernel
theorem dX1_begin_2 : decode cX1_begin 2 = .ok (.putfield 9, 3) := by decide +kernel
theorem dX1_begin_5 : decode cX1_begin 5 = .ok (.aload_n 0, 1) := by decide +kernel
theorem dX1_begin_6 : decode cX1_begin 6 = .ok (.iload_n 2, 1) := by decide +kernel
theorem dX1_begin_7 : decode cX1_begin 7 = .ok (.putfield 15, 3) := by decide +kernel
theorem dX1_begin_10 : decode cX1_begin 10 = .ok (.return_, 1) := by decide +kernel
theorem dX1_turnFoamOn_0 : decode cX1_turnFoamOn 0 = .ok (.aload_n 0, 1) := by decide +kernel
theorem dX1_turnFoamOn_1 : decode cX1_turnFoamOn 1 = .ok (.iconst 1, 1) := by decide +kernel
theorem dX1_turnFoamOn_2 : decode cX1_turnFoamOn 2 = .ok (.putfield 25, 3) := by decide +kernel
theorem dX1_turnFoamOn_5 : decode cX1_turnFoamOn 5 = .ok (.return_, 1) := by decide +kernel
theorem dX1_burn_0 : decode cX1_burn 0 = .ok (.aload_n 0, 1) := by decide +kernel
theorem dX1_burn_1 : decode cX1_burn 1 = .ok (.getfield 15, 3) := by decide +kernel
theorem dX1_burn_4 : decode cX1_burn 4 = .ok (.i2l, 1) := by decide +kernel
theorem dX1_burn_5 : decode cX1_burn 5 = .ok (.lconst 1, 1) := by decide +kernel
theorem dX1_burn_6 : decode cX1_burn 6 = .ok (.aload_n 0, 1) := by decide +kernel
theorem dX1_burn_7 : decode cX1_burn 7 = .ok (.getfield 18, 3) := by decide +kernel
theorem dX1_burn_10 : decode cX1_burn 10 = .ok (.aload_n 0, 1) := by decide +kernel
theorem dX1_burn_11 : decode cX1_burn 11 = .ok (.getfield 18, 3) := by decide +kernel
theorem dX1_burn_14 : decode cX1_burn 14 = .ok (.lmul, 1) := by decide +kernel
theorem dX1_burn_15 : decode cX1_burn 15 = .ok (.ldc2_w 32, 3) := by decide +kernel
theorem dX1_burn_18 : decode cX1_burn 18 = .ok (.ldiv, 1) := by decide +kernel
theorem dX1_burn_19 : decode cX1_burn 19 = .ok (.ladd, 1) := by decide +kernel
theorem dX1_burn_20 : decode cX1_burn 20 = .ok (.invokestatic 34, 3) := by decide +kernel
theorem dX1_burn_23 : decode cX1_burn 23 = .ok (.l2i, 1) := by decide +kernel
theorem dX1_burn_24 : decode cX1_burn 24 = .ok (.istore_n 2, 1) := by decide +kernel
theorem dX1_burn_25 : decode cX1_burn 25 = .ok (.aload_n 0, 1) := by decide +kernel
theorem dX1_burn_26 : decode cX1_burn 26 = .ok (.getfield 25, 3) := by decide +kernel
theorem dX1_burn_29 : decode cX1_burn 29 = .ok (.ifCond .eq 28, 3) := by decide +kernel
theorem dX1_burn_32 : decode cX1_burn 32 = .ok (.iload_n 1, 1) := by decide +kernel
theorem dX1_burn_33 : decode cX1_burn 33 = .ok (.ifCond .eq 24, 3) := by decide +kernel
theorem dX1_burn_36 : decode cX1_burn 36 = .ok (.aload_n 0, 1) := by decide +kernel
theorem dX1_burn_37 : decode cX1_burn 37 = .ok (.getfield 22, 3) := by decide +kernel
theorem dX1_burn_40 : decode cX1_burn 40 = .ok (.ifCond .le 17, 3) := by decide +kernel
theorem dX1_burn_43 : decode cX1_burn 43 = .ok (.aload_n 0, 1) := by decide +kernel
theorem dX1_burn_44 : decode cX1_burn 44 = .ok (.dup, 1) := by decide +kernel
theorem dX1_burn_45 : decode cX1_burn 45 = .ok (.getfield 22, 3) := by decide +kernel
theorem dX1_burn_48 : decode cX1_burn 48 = .ok (.iconst 1, 1) := by decide +kernel
theorem dX1_burn_49 : decode cX1_burn 49 = .ok (.isub, 1) := by decide +kernel
theorem dX1_burn_50 : decode cX1_burn 50 = .ok (.putfield 22, 3) := by decide +kernel
theorem dX1_burn_53 : decode cX1_burn 53 = .ok (.iload_n 2, 1) := by decide +kernel
theorem dX1_burn_54 : decode cX1_burn 54 = .ok (.iconst 2, 1) := by decide +kernel
theorem dX1_burn_55 : decode cX1_burn 55 = .ok (.idiv, 1) := by decide +kernel
theorem dX1_burn_56 : decode cX1_burn 56 = .ok (.istore_n 2, 1) := by decide +kernel
theorem dX1_burn_57 : decode cX1_burn 57 = .ok (.aload_n 0, 1) := by decide +kernel
theorem dX1_burn_58 : decode cX1_burn 58 = .ok (.dup, 1) := by decide +kernel
theorem dX1_burn_59 : decode cX1_burn 59 = .ok (.getfield 18, 3) := by decide +kernel
theorem dX1_burn_62 : decode cX1_burn 62 = .ok (.lconst 1, 1) := by decide +kernel
theorem dX1_burn_63 : decode cX1_burn 63 = .ok (.ladd, 1) := by decide +kernel
theorem dX1_burn_64 : decode cX1_burn 64 = .ok (.putfield 18, 3) := by decide +kernel
theorem dX1_burn_67 : decode cX1_burn 67 = .ok (.aload_n 0, 1) := by decide +kernel
theorem dX1_burn_68 : decode cX1_burn 68 = .ok (.dup, 1) := by decide +kernel
theorem dX1_burn_69 : decode cX1_burn 69 = .ok (.getfield 29, 3) := by decide +kernel
theorem dX1_burn_72 : decode cX1_burn 72 = .ok (.iload_n 2, 1) := by decide +kernel
theorem dX1_burn_73 : decode cX1_burn 73 = .ok (.iadd, 1) := by decide +kernel
theorem dX1_burn_74 : decode cX1_burn 74 = .ok (.putfield 29, 3) := by decide +kernel
theorem dX1_burn_77 : decode cX1_burn 77 = .ok (.iload_n 2, 1) := by decide +kernel
theorem dX1_burn_78 : decode cX1_burn 78 = .ok (.ireturn, 1) := by decide +kernel
theorem dX1_place_0 : decode cX1_place 0 = .ok (.aload_n 0, 1) := by decide +kernel
theorem dX1_place_1 : decode cX1_place 1 = .ok (.getfield 9, 3) := by decide +kernel
theorem dX1_place_4 : decode cX1_place 4 = .ok (.ireturn, 1) := by decide +kernel
theorem dX1_allMade_0 : decode cX1_allMade 0 = .ok (.aload_n 0, 1) := by decide +kernel
theorem dX1_allMade_1 : decode cX1_allMade 1 = .ok (.getfield 29, 3) := by decide +kernel
theorem dX1_allMade_4 : decode cX1_allMade 4 = .ok (.ireturn, 1) := by decide +kernel
theorem dX2_init_0 : decode cX2_init 0 = .ok (.aload_n 0, 1) := by decide +kernel
theorem dX2_init_1 : decode cX2_init 1 = .ok (.invokespecial 3, 3) := by decide +kernel
theorem dX2_init_4 : decode cX2_init 4 = .ok (.aload_n 0, 1) := by decide +kernel
theorem dX2_init_5 : decode cX2_init 5 = .ok (.bipush 10, 2) := by decide +kernel
theorem dX2_init_7 : decode cX2_init 7 = .ok (.newarray .int, 2) := by decide +kernel
theorem dX2_init_9 : decode cX2_init 9 = .ok (.putfield 9, 3) := by decide +kernel
theorem dX2_init_12 : decode cX2_init 12 = .ok (.aload_n 0, 1) := by decide +kernel
theorem dX2_init_13 : decode cX2_init 13 = .ok (.bipush 10, 2) := by decide +kernel
theorem dX2_init_15 : decode cX2_init 15 = .ok (.newarray .int, 2) := by decide +kernel
theorem dX2_init_17 : decode cX2_init 17 = .ok (.putfield 15, 3) := by decide +kernel
theorem dX2_init_20 : decode cX2_init 20 = .ok (.aload_n 0, 1) := by decide +kernel
theorem dX2_init_21 : decode cX2_init 21 = .ok (.bipush 10, 2) := by decide +kernel
theorem dX2_init_23 : decode cX2_init 23 = .ok (.newarray .int, 2) := by decide +kernel
theorem dX2_init_25 : decode cX2_init 25 = .ok (.putfield 18, 3) := by decide +kernel
theorem dX2_init_28 : decode cX2_init 28 = .ok (.aload_n 0, 1) := by decide +kernel
theorem dX2_init_29 : decode cX2_init 29 = .ok (.iconst 0, 1) := by decide +kernel
theorem dX2_init_30 : decode cX2_init 30 = .ok (.putfield 21, 3) := by decide +kernel
theorem dX2_init_33 : decode cX2_init 33 = .ok (.aload_n 0, 1) := by decide +kernel
theorem dX2_init_34 : decode cX2_init 34 = .ok (.iconst 0, 1) := by decide +kernel
theorem dX2_init_35 : decode cX2_init 35 = .ok (.putfield 25, 3) := by decide +kernel
theorem dX2_init_38 : decode cX2_init 38 = .ok (.aload_n 0, 1) := by decide +kernel
theorem dX2_init_39 : decode cX2_init 39 = .ok (.iconst 0, 1) := by decide +kernel
theorem dX2_init_40 : decode cX2_init 40 = .ok (.putfield 28, 3) := by decide +kernel
theorem dX2_init_43 : decode cX2_init 43 = .ok (.return_, 1) := by decide +kernel
theorem dX2_hasRoom_0 : decode cX2_hasRoom 0 = .ok (.aload_n 0, 1) := by decide +kernel
theorem dX2_hasRoom_1 : decode cX2_hasRoom 1 = .ok (.getfield 21, 3) := by decide +kernel
theorem dX2_hasRoom_4 : decode cX2_hasRoom 4 = .ok (.bipush 10, 2) := by decide +kernel
theorem dX2_hasRoom_6 : decode cX2_hasRoom 6 = .ok (.if_icmp .ge 7, 3) := by decide +kernel
theorem dX2_hasRoom_9 : decode cX2_hasRoom 9 = .ok (.iconst 1, 1) := by decide +kernel
theorem dX2_hasRoom_10 : decode cX2_hasRoom 10 = .ok (.goto 4, 3) := by decide +kernel
theorem dX2_hasRoom_13 : decode cX2_hasRoom 13 = .ok (.iconst 0, 1) := by decide +kernel
theorem dX2_hasRoom_14 : decode cX2_hasRoom 14 = .ok (.ireturn, 1) := by decide +kernel
set_option maxRecDepth 20000 in
theorem ggX2_put_X2_hasRoom : GoodIn wsX2_put wsX2_hasRoom := goodIn_r _ [9, 2, 10, 11, 12, 13, 14, 15] (by decide +kernel) (by decide +kernel)
set_option maxRecDepth 20000 in
theorem gX2_put_X2_hasRoom : GoodIn wsX2_put (wsV RX2 31 RX2 yX2_hasRoom wsX2_hasRoom) := goodIn_app (goodIn_of _ (by decide +kernel)) ggX2_put_X2_hasRoom
theorem dX2_put_0 : decode cX2_put 0 = .ok (.aload_n 0, 1) := by decide +kernel
theorem dX2_put_1 : decode cX2_put 1 = .ok (.invokevirtual 31, 3) := by decide +kernel
theorem dX2_put_4 : decode cX2_put 4 = .ok (.ifCond .ne 5, 3) := by decide +kernel
theorem dX2_put_7 : decode cX2_put 7 = .ok (.iconst (-1), 1) := by decide +kernel
theorem dX2_put_8 : decode cX2_put 8 = .ok (.ireturn, 1) := by decide +kernel
theorem dX2_put_9 : decode cX2_put 9 = .ok (.aload_n 0, 1) := by decide +kernel
theorem dX2_put_10 : decode cX2_put 10 = .ok (.getfield 9, 3) := by decide +kernel
theorem dX2_put_13 : decode cX2_put 13 = .ok (.aload_n 0, 1) := by decide +kernel
theorem dX2_put_14 : decode cX2_put 14 = .ok (.getfield 21, 3) := by decide +kernel
theorem dX2_put_17 : decode cX2_put 17 = .ok (.iload_n 1, 1) := by decide +kernel
theorem dX2_put_18 : decode cX2_put 18 = .ok (.iastore, 1) := by decide +kernel
theorem dX2_put_19 : decode cX2_put 19 = .ok (.aload_n 0, 1) := by decide +kernel
theorem dX2_put_20 : decode cX2_put 20 = .ok (.getfield 15, 3) := by decide +kernel
theorem dX2_put_23 : decode cX2_put 23 = .ok (.aload_n 0, 1) := by decide +kernel
theorem dX2_put_24 : decode cX2_put 24 = .ok (.getfield 21, 3) := by decide +kernel
theorem dX2_put_27 : decode cX2_put 27 = .ok (.iload_n 3, 1) := by decide +kernel
theorem dX2_put_28 : decode cX2_put 28 = .ok (.ifCond .eq 11, 3) := by decide +kernel
theorem dX2_put_31 : decode cX2_put 31 = .ok (.iconst 2, 1) := by decide +kernel
theorem dX2_put_32 : decode cX2_put 32 = .ok (.iload_n 2, 1) := by decide +kernel
theorem dX2_put_33 : decode cX2_put 33 = .ok (.imul, 1) := by decide +kernel
theorem dX2_put_34 : decode cX2_put 34 = .ok (.iconst 3, 1) := by decide +kernel
theorem dX2_put_35 : decode cX2_put 35 = .ok (.iadd, 1) := by decide +kernel
theorem dX2_put_36 : decode cX2_put 36 = .ok (.goto 4, 3) := by decide +kernel
theorem dX2_put_39 : decode cX2_put 39 = .ok (.iload_n 2, 1) := by decide +kernel
theorem dX2_put_40 : decode cX2_put 40 = .ok (.iastore, 1) := by decide +kernel
theorem dX2_put_41 : decode cX2_put 41 = .ok (.aload_n 0, 1) := by decide +kernel
theorem dX2_put_42 : decode cX2_put 42 = .ok (.getfield 18, 3) := by decide +kernel
theorem dX2_put_45 : decode cX2_put 45 = .ok (.aload_n 0, 1) := by decide +kernel
theorem dX2_put_46 : decode cX2_put 46 = .ok (.getfield 21, 3) := by decide +kernel
theorem dX2_put_49 : decode cX2_put 49 = .ok (.iconst (-1), 1) := by decide +kernel
theorem dX2_put_50 : decode cX2_put 50 = .ok (.iastore, 1) := by decide +kernel
theorem dX2_put_51 : decode cX2_put 51 = .ok (.aload_n 0, 1) := by decide +kernel
theorem dX2_put_52 : decode cX2_put 52 = .ok (.dup, 1) := by decide +kernel
theorem dX2_put_53 : decode cX2_put 53 = .ok (.getfield 21, 3) := by decide +kernel
theorem dX2_put_56 : decode cX2_put 56 = .ok (.iconst 1, 1) := by decide +kernel
theorem dX2_put_57 : decode cX2_put 57 = .ok (.iadd, 1) := by decide +kernel
theorem dX2_put_58 : decode cX2_put 58 = .ok (.putfield 21, 3) := by decide +kernel
theorem dX2_put_61 : decode cX2_put 61 = .ok (.aload_n 0, 1) := by decide +kernel
theorem dX2_put_62 : decode cX2_put 62 = .ok (.getfield 21, 3) := by decide +kernel
theorem dX2_put_65 : decode cX2_put 65 = .ok (.iconst 1, 1) := by decide +kernel
theorem dX2_put_66 : decode cX2_put 66 = .ok (.isub, 1) := by decide +kernel
theorem dX2_put_67 : decode cX2_put 67 = .ok (.ireturn, 1) := by decide +kernel
theorem dX2_start_0 : decode cX2_start 0 = .ok (.aload_n 0, 1) := by decide +kernel
theorem dX2_start_1 : decode cX2_start 1 = .ok (.iload_n 1, 1) := by decide +kernel
theorem dX2_start_2 : decode cX2_start 2 = .ok (.putfield 28, 3) := by decide +kernel
theorem dX2_start_5 : decode cX2_start 5 = .ok (.return_, 1) := by decide +kernel
set_option maxRecDepth 20000 in
theorem ggX2_isDue_X2_isAct : GoodIn wsX2_isDue wsX2_isAct := goodIn_r _ [8, 9, 10, 11, 12, 13, 14, 15] (by decide +kernel) (by decide +kernel)
set_option maxRecDepth 20000 in
theorem gX2_isDue_X2_isAct : GoodIn wsX2_isDue (wsV RX2 35 RX2 yX2_isAct wsX2_isAct) := goodIn_app (goodIn_of _ (by decide +kernel)) ggX2_isDue_X2_isAct
theorem dX2_isDue_0 : decode cX2_isDue 0 = .ok (.aload_n 0, 1) := by decide +kernel
theorem dX2_isDue_1 : decode cX2_isDue 1 = .ok (.aload_n 0, 1) := by decide +kernel
theorem dX2_isDue_2 : decode cX2_isDue 2 = .ok (.getfield 25, 3) := by decide +kernel
theorem dX2_isDue_5 : decode cX2_isDue 5 = .ok (.invokevirtual 35, 3) := by decide +kernel
theorem dX2_isDue_8 : decode cX2_isDue 8 = .ok (.ifCond .eq 25, 3) := by decide +kernel
theorem dX2_isDue_11 : decode cX2_isDue 11 = .ok (.iload_n 1, 1) := by decide +kernel
theorem dX2_isDue_12 : decode cX2_isDue 12 = .ok (.aload_n 0, 1) := by decide +kernel
theorem dX2_isDue_13 : decode cX2_isDue 13 = .ok (.getfield 28, 3) := by decide +kernel
theorem dX2_isDue_16 : decode cX2_isDue 16 = .ok (.isub, 1) := by decide +kernel
theorem dX2_isDue_17 : decode cX2_isDue 17 = .ok (.aload_n 0, 1) := by decide +kernel
theorem dX2_isDue_18 : decode cX2_isDue 18 = .ok (.getfield 15, 3) := by decide +kernel
theorem dX2_isDue_21 : decode cX2_isDue 21 = .ok (.aload_n 0, 1) := by decide +kernel
theorem dX2_isDue_22 : decode cX2_isDue 22 = .ok (.getfield 25, 3) := by decide +kernel
theorem dX2_isDue_25 : decode cX2_isDue 25 = .ok (.iaload, 1) := by decide +kernel
theorem dX2_isDue_26 : decode cX2_isDue 26 = .ok (.if_icmp .lt 7, 3) := by decide +kernel
theorem dX2_isDue_29 : decode cX2_isDue 29 = .ok (.iconst 1, 1) := by decide +kernel
theorem dX2_isDue_30 : decode cX2_isDue 30 = .ok (.goto 4, 3) := by decide +kernel
theorem dX2_isDue_33 : decode cX2_isDue 33 = .ok (.iconst 0, 1) := by decide +kernel
theorem dX2_isDue_34 : decode cX2_isDue 34 = .ok (.ireturn, 1) := by decide +kernel
set_option maxRecDepth 20000 in
theorem ggX2_finishNext_X2_isAct : GoodIn wsX2_finishNext wsX2_isAct := goodIn_r _ [9, 10, 11, 12, 13, 14, 15, 16] (by decide +kernel) (by decide +kernel)
set_option maxRecDepth 20000 in
theorem gX2_finishNext_X2_isAct : GoodIn wsX2_finishNext (wsV RX2 35 RX2 yX2_isAct wsX2_isAct) := goodIn_app (goodIn_of _ (by decide +kernel)) ggX2_finishNext_X2_isAct
theorem dX2_finishNext_0 : decode cX2_finishNext 0 = .ok (.aload_n 0, 1) := by decide +kernel
theorem dX2_finishNext_1 : decode cX2_finishNext 1 = .ok (.aload_n 0, 1) := by decide +kernel
theorem dX2_finishNext_2 : decode cX2_finishNext 2 = .ok (.getfield 25, 3) := by decide +kernel
theorem dX2_finishNext_5 : decode cX2_finishNext 5 = .ok (.invokevirtual 35, 3) := by decide +kernel
theorem dX2_finishNext_8 : decode cX2_finishNext 8 = .ok (.ifCond .ne 5, 3) := by decide +kernel
theorem dX2_finishNext_11 : decode cX2_finishNext 11 = .ok (.iconst (-1), 1) := by decide +kernel
theorem dX2_finishNext_12 : decode cX2_finishNext 12 = .ok (.ireturn, 1) := by decide +kernel
theorem dX2_finishNext_13 : decode cX2_finishNext 13 = .ok (.aload_n 0, 1) := by decide +kernel
theorem dX2_finishNext_14 : decode cX2_finishNext 14 = .ok (.getfield 9, 3) := by decide +kernel
theorem dX2_finishNext_17 : decode cX2_finishNext 17 = .ok (.aload_n 0, 1) := by decide +kernel
theorem dX2_finishNext_18 : decode cX2_finishNext 18 = .ok (.getfield 25, 3) := by decide +kernel
theorem dX2_finishNext_21 : decode cX2_finishNext 21 = .ok (.iaload, 1) := by decide +kernel
theorem dX2_finishNext_22 : decode cX2_finishNext 22 = .ok (.istore_n 2, 1) := by decide +kernel
theorem dX2_finishNext_23 : decode cX2_finishNext 23 = .ok (.aload_n 0, 1) := by decide +kernel
theorem dX2_finishNext_24 : decode cX2_finishNext 24 = .ok (.getfield 18, 3) := by decide +kernel
theorem dX2_finishNext_27 : decode cX2_finishNext 27 = .ok (.aload_n 0, 1) := by decide +kernel
theorem dX2_finishNext_28 : decode cX2_finishNext 28 = .ok (.getfield 25, 3) := by decide +kernel
theorem dX2_finishNext_31 : decode cX2_finishNext 31 = .ok (.iload_n 1, 1) := by decide +kernel
theorem dX2_finishNext_32 : decode cX2_finishNext 32 = .ok (.iastore, 1) := by decide +kernel
theorem dX2_finishNext_33 : decode cX2_finishNext 33 = .ok (.aload_n 0, 1) := by decide +kernel
theorem dX2_finishNext_34 : decode cX2_finishNext 34 = .ok (.iload_n 1, 1) := by decide +kernel
theorem dX2_finishNext_35 : decode cX2_finishNext 35 = .ok (.putfield 28, 3) := by decide +kernel
theorem dX2_finishNext_38 : decode cX2_finishNext 38 = .ok (.aload_n 0, 1) := by decide +kernel
theorem dX2_finishNext_39 : decode cX2_finishNext 39 = .ok (.dup, 1) := by decide +kernel
theorem dX2_finishNext_40 : decode cX2_finishNext 40 = .ok (.getfield 25, 3) := by decide +kernel
theorem dX2_finishNext_43 : decode cX2_finishNext 43 = .ok (.iconst 1, 1) := by decide +kernel
theorem dX2_finishNext_44 : decode cX2_finishNext 44 = .ok (.iadd, 1) := by decide +kernel
theorem dX2_finishNext_45 : decode cX2_finishNext 45 = .ok (.putfield 25, 3) := by decide +kernel
theorem dX2_finishNext_48 : decode cX2_finishNext 48 = .ok (.iload_n 2, 1) := by decide +kernel
theorem dX2_finishNext_49 : decode cX2_finishNext 49 = .ok (.ireturn, 1) := by decide +kernel
set_option maxRecDepth 20000 in
theorem ggX2_stepOf_X2_isAct : GoodIn wsX2_stepOf wsX2_isAct := goodIn_r _ [6, 7, 8, 9, 10, 11, 12, 13] (by decide +kernel) (by decide +kernel)
set_option maxRecDepth 20000 in
theorem gX2_stepOf_X2_isAct : GoodIn wsX2_stepOf (wsV RX2 35 RX2 yX2_isAct wsX2_isAct) := goodIn_app (goodIn_of _ (by decide +kernel)) ggX2_stepOf_X2_isAct
theorem dX2_stepOf_0 : decode cX2_stepOf 0 = .ok (.aload_n 0, 1) := by decide +kernel
theorem dX2_stepOf_1 : decode cX2_stepOf 1 = .ok (.iload_n 1, 1) := by decide +kernel
theorem dX2_stepOf_2 : decode cX2_stepOf 2 = .ok (.invokevirtual 35, 3) := by decide +kernel
theorem dX2_stepOf_5 : decode cX2_stepOf 5 = .ok (.ifCond .eq 12, 3) := by decide +kernel
theorem dX2_stepOf_8 : decode cX2_stepOf 8 = .ok (.aload_n 0, 1) := by decide +kernel
theorem dX2_stepOf_9 : decode cX2_stepOf 9 = .ok (.getfield 18, 3) := by decide +kernel
theorem dX2_stepOf_12 : decode cX2_stepOf 12 = .ok (.iload_n 1, 1) := by decide +kernel
theorem dX2_stepOf_13 : decode cX2_stepOf 13 = .ok (.iaload, 1) := by decide +kernel
theorem dX2_stepOf_14 : decode cX2_stepOf 14 = .ok (.goto 4, 3) := by decide +kernel
theorem dX2_stepOf_17 : decode cX2_stepOf 17 = .ok (.iconst (-1), 1) := by decide +kernel
theorem dX2_stepOf_18 : decode cX2_stepOf 18 = .ok (.ireturn, 1) := by decide +kernel
theorem dX2_isAct_0 : decode cX2_isAct 0 = .ok (.iload_n 1, 1) := by decide +kernel
theorem dX2_isAct_1 : decode cX2_isAct 1 = .ok (.ifCond .lt 21, 3) := by decide +kernel
theorem dX2_isAct_4 : decode cX2_isAct 4 = .ok (.iload_n 1, 1) := by decide +kernel
theorem dX2_isAct_5 : decode cX2_isAct 5 = .ok (.aload_n 0, 1) := by decide +kernel
theorem dX2_isAct_6 : decode cX2_isAct 6 = .ok (.getfield 21, 3) := by decide +kernel
theorem dX2_isAct_9 : decode cX2_isAct 9 = .ok (.if_icmp .ge 13, 3) := by decide +kernel
theorem dX2_isAct_12 : decode cX2_isAct 12 = .ok (.iload_n 1, 1) := by decide +kernel
theorem dX2_isAct_13 : decode cX2_isAct 13 = .ok (.bipush 10, 2) := by decide +kernel
theorem dX2_isAct_15 : decode cX2_isAct 15 = .ok (.if_icmp .ge 7, 3) := by decide +kernel
theorem dX2_isAct_18 : decode cX2_isAct 18 = .ok (.iconst 1, 1) := by decide +kernel
theorem dX2_isAct_19 : decode cX2_isAct 19 = .ok (.goto 4, 3) := by decide +kernel
theorem dX2_isAct_22 : decode cX2_isAct 22 = .ok (.iconst 0, 1) := by decide +kernel
theorem dX2_isAct_23 : decode cX2_isAct 23 = .ok (.ireturn, 1) := by decide +kernel
theorem dX2_size_0 : decode cX2_size 0 = .ok (.aload_n 0, 1) := by decide +kernel
theorem dX2_size_1 : decode cX2_size 1 = .ok (.getfield 21, 3) := by decide +kernel
theorem dX2_size_4 : decode cX2_size 4 = .ok (.ireturn, 1) := by decide +kernel
theorem dX3_init_0 : decode cX3_init 0 = .ok (.aload_n 0, 1) := by decide +kernel
theorem dX3_init_1 : decode cX3_init 1 = .ok (.invokespecial 3, 3) := by decide +kernel
theorem dX3_init_4 : decode cX3_init 4 = .ok (.aload_n 0, 1) := by decide +kernel
theorem dX3_init_5 : decode cX3_init 5 = .ok (.bipush 30, 2) := by decide +kernel
theorem dX3_init_7 : decode cX3_init 7 = .ok (.newarray .int, 2) := by decide +kernel
theorem dX3_init_9 : decode cX3_init 9 = .ok (.putfield 9, 3) := by decide +kernel
theorem dX3_init_12 : decode cX3_init 12 = .ok (.aload_n 0, 1) := by decide +kernel
theorem dX3_init_13 : decode cX3_init 13 = .ok (.bipush 30, 2) := by decide +kernel
theorem dX3_init_15 : decode cX3_init 15 = .ok (.newarray .int, 2) := by decide +kernel
theorem dX3_init_17 : decode cX3_init 17 = .ok (.putfield 15, 3) := by decide +kernel
theorem dX3_init_20 : decode cX3_init 20 = .ok (.aload_n 0, 1) := by decide +kernel
theorem dX3_init_21 : decode cX3_init 21 = .ok (.bipush 30, 2) := by decide +kernel
theorem dX3_init_23 : decode cX3_init 23 = .ok (.newarray .int, 2) := by decide +kernel
theorem dX3_init_25 : decode cX3_init 25 = .ok (.putfield 18, 3) := by decide +kernel
theorem dX3_init_28 : decode cX3_init 28 = .ok (.aload_n 0, 1) := by decide +kernel
theorem dX3_init_29 : decode cX3_init 29 = .ok (.bipush 30, 2) := by decide +kernel
theorem dX3_init_31 : decode cX3_init 31 = .ok (.newarray .int, 2) := by decide +kernel
theorem dX3_init_33 : decode cX3_init 33 = .ok (.putfield 21, 3) := by decide +kernel
theorem dX3_init_36 : decode cX3_init 36 = .ok (.aload_n 0, 1) := by decide +kernel
theorem dX3_init_37 : decode cX3_init 37 = .ok (.iconst 0, 1) := by decide +kernel
theorem dX3_init_38 : decode cX3_init 38 = .ok (.putfield 24, 3) := by decide +kernel
theorem dX3_init_41 : decode cX3_init 41 = .ok (.return_, 1) := by decide +kernel
theorem dX3_hasRoomFor_0 : decode cX3_hasRoomFor 0 = .ok (.iload_n 1, 1) := by decide +kernel
theorem dX3_hasRoomFor_1 : decode cX3_hasRoomFor 1 = .ok (.bipush 30, 2) := by decide +kernel
theorem dX3_hasRoomFor_3 : decode cX3_hasRoomFor 3 = .ok (.aload_n 0, 1) := by decide +kernel
theorem dX3_hasRoomFor_4 : decode cX3_hasRoomFor 4 = .ok (.getfield 24, 3) := by decide +kernel
theorem dX3_hasRoomFor_7 : decode cX3_hasRoomFor 7 = .ok (.isub, 1) := by decide +kernel
theorem dX3_hasRoomFor_8 : decode cX3_hasRoomFor 8 = .ok (.if_icmp .gt 7, 3) := by decide +kernel
theorem dX3_hasRoomFor_11 : decode cX3_hasRoomFor 11 = .ok (.iconst 1, 1) := by decide +kernel
theorem dX3_hasRoomFor_12 : decode cX3_hasRoomFor 12 = .ok (.goto 4, 3) := by decide +kernel
theorem dX3_hasRoomFor_15 : decode cX3_hasRoomFor 15 = .ok (.iconst 0, 1) := by decide +kernel
theorem dX3_hasRoomFor_16 : decode cX3_hasRoomFor 16 = .ok (.ireturn, 1) := by decide +kernel
theorem dX3_seat_0 : decode cX3_seat 0 = .ok (.iconst 0, 1) := by decide +kernel
theorem dX3_seat_1 : decode cX3_seat 1 = .ok (.istore_n 3, 1) := by decide +kernel
theorem dX3_seat_2 : decode cX3_seat 2 = .ok (.iload_n 3, 1) := by decide +kernel
theorem dX3_seat_3 : decode cX3_seat 3 = .ok (.iload_n 2, 1) := by decide +kernel
theorem dX3_seat_4 : decode cX3_seat 4 = .ok (.if_icmp .ge 58, 3) := by decide +kernel
theorem dX3_seat_7 : decode cX3_seat 7 = .ok (.aload_n 0, 1) := by decide +kernel
theorem dX3_seat_8 : decode cX3_seat 8 = .ok (.getfield 24, 3) := by decide +kernel
theorem dX3_seat_11 : decode cX3_seat 11 = .ok (.bipush 30, 2) := by decide +kernel
theorem dX3_seat_13 : decode cX3_seat 13 = .ok (.if_icmp .ge 49, 3) := by decide +kernel
theorem dX3_seat_16 : decode cX3_seat 16 = .ok (.aload_n 0, 1) := by decide +kernel
theorem dX3_seat_17 : decode cX3_seat 17 = .ok (.getfield 9, 3) := by decide +kernel
theorem dX3_seat_20 : decode cX3_seat 20 = .ok (.aload_n 0, 1) := by decide +kernel
theorem dX3_seat_21 : decode cX3_seat 21 = .ok (.getfield 24, 3) := by decide +kernel
theorem dX3_seat_24 : decode cX3_seat 24 = .ok (.iconst 0, 1) := by decide +kernel
theorem dX3_seat_25 : decode cX3_seat 25 = .ok (.iastore, 1) := by decide +kernel
theorem dX3_seat_26 : decode cX3_seat 26 = .ok (.aload_n 0, 1) := by decide +kernel
theorem dX3_seat_27 : decode cX3_seat 27 = .ok (.getfield 15, 3) := by decide +kernel
theorem dX3_seat_30 : decode cX3_seat 30 = .ok (.aload_n 0, 1) := by decide +kernel
theorem dX3_seat_31 : decode cX3_seat 31 = .ok (.getfield 24, 3) := by decide +kernel
theorem dX3_seat_34 : decode cX3_seat 34 = .ok (.iload_n 1, 1) := by decide +kernel
theorem dX3_seat_35 : decode cX3_seat 35 = .ok (.iastore, 1) := by decide +kernel
theorem dX3_seat_36 : decode cX3_seat 36 = .ok (.aload_n 0, 1) := by decide +kernel
theorem dX3_seat_37 : decode cX3_seat 37 = .ok (.getfield 21, 3) := by decide +kernel
theorem dX3_seat_40 : decode cX3_seat 40 = .ok (.aload_n 0, 1) := by decide +kernel
theorem dX3_seat_41 : decode cX3_seat 41 = .ok (.getfield 24, 3) := by decide +kernel
theorem dX3_seat_44 : decode cX3_seat 44 = .ok (.iconst (-1), 1) := by decide +kernel
theorem dX3_seat_45 : decode cX3_seat 45 = .ok (.iastore, 1) := by decide +kernel
theorem dX3_seat_46 : decode cX3_seat 46 = .ok (.aload_n 0, 1) := by decide +kernel
theorem dX3_seat_47 : decode cX3_seat 47 = .ok (.dup, 1) := by decide +kernel
theorem dX3_seat_48 : decode cX3_seat 48 = .ok (.getfield 24, 3) := by decide +kernel
theorem dX3_seat_51 : decode cX3_seat 51 = .ok (.iconst 1, 1) := by decide +kernel
theorem dX3_seat_52 : decode cX3_seat 52 = .ok (.iadd, 1) := by decide +kernel
theorem dX3_seat_53 : decode cX3_seat 53 = .ok (.putfield 24, 3) := by decide +kernel
theorem dX3_seat_56 : decode cX3_seat 56 = .ok (.iinc 3 1, 3) := by decide +kernel
theorem dX3_seat_59 : decode cX3_seat 59 = .ok (.goto (-57), 3) := by decide +kernel
theorem dX3_seat_62 : decode cX3_seat 62 = .ok (.return_, 1) := by decide +kernel
set_option maxRecDepth 20000 in
theorem ggX3_live_X0_smokeIn : GoodIn wsX3_live wsX0_smokeIn := goodIn_r _ [8, 9, 10, 11, 12, 47, 48, 49, 50] (by decide +kernel) (by decide +kernel)
set_option maxRecDepth 20000 in
theorem gX3_live_X0_smokeIn : GoodIn wsX3_live (wsV RX3 28 RX0 yX0_smokeIn wsX0_smokeIn) := goodIn_app (goodIn_of _ (by decide +kernel)) ggX3_live_X0_smokeIn
set_option maxRecDepth 20000 in
theorem ggX3_live_X3_liveOne : GoodIn wsX3_live wsX3_liveOne := goodIn_r _ [17, 2, 18, 19, 20, 21, 22, 16, 23, 1, 24, 25, 26, 27, 3, 28, 29, 30, 31, 32, 33, 34, 35, 36, 37, 38, 39, 40, 41, 10, 11, 12, 42, 43, 44, 45, 46, 51, 52, 53] (by decide +kernel) (by decide +kernel)
set_option maxRecDepth 20000 in
theorem gX3_live_X3_liveOne : GoodIn wsX3_live (wsV RX3 34 RX3 yX3_liveOne wsX3_liveOne) := goodIn_app (goodIn_of _ (by decide +kernel)) ggX3_live_X3_liveOne
theorem dX3_live_0 : decode cX3_live 0 = .ok (.iconst 0, 1) := by decide +kernel
theorem dX3_live_1 : decode cX3_live 1 = .ok (.istore 5, 2) := by decide +kernel
theorem dX3_live_3 : decode cX3_live 3 = .ok (.iload 5, 2) := by decide +kernel
theorem dX3_live_5 : decode cX3_live 5 = .ok (.aload_n 0, 1) := by decide +kernel
theorem dX3_live_6 : decode cX3_live 6 = .ok (.getfield 24, 3) := by decide +kernel
theorem dX3_live_9 : decode cX3_live 9 = .ok (.if_icmp .ge 59, 3) := by decide +kernel
theorem dX3_live_12 : decode cX3_live 12 = .ok (.iload 5, 2) := by decide +kernel
theorem dX3_live_14 : decode cX3_live 14 = .ok (.bipush 30, 2) := by decide +kernel
theorem dX3_live_16 : decode cX3_live 16 = .ok (.if_icmp .ge 52, 3) := by decide +kernel
theorem dX3_live_19 : decode cX3_live 19 = .ok (.aload_n 0, 1) := by decide +kernel
theorem dX3_live_20 : decode cX3_live 20 = .ok (.getfield 9, 3) := by decide +kernel
theorem dX3_live_23 : decode cX3_live 23 = .ok (.iload 5, 2) := by decide +kernel
theorem dX3_live_25 : decode cX3_live 25 = .ok (.iaload, 1) := by decide +kernel
theorem dX3_live_26 : decode cX3_live 26 = .ok (.iconst 3, 1) := by decide +kernel
theorem dX3_live_27 : decode cX3_live 27 = .ok (.if_icmp .eq 35, 3) := by decide +kernel
theorem dX3_live_30 : decode cX3_live 30 = .ok (.aload_n 0, 1) := by decide +kernel
theorem dX3_live_31 : decode cX3_live 31 = .ok (.getfield 9, 3) := by decide +kernel
theorem dX3_live_34 : decode cX3_live 34 = .ok (.iload 5, 2) := by decide +kernel
theorem dX3_live_36 : decode cX3_live 36 = .ok (.iaload, 1) := by decide +kernel
theorem dX3_live_37 : decode cX3_live 37 = .ok (.iconst 4, 1) := by decide +kernel
theorem dX3_live_38 : decode cX3_live 38 = .ok (.if_icmp .eq 24, 3) := by decide +kernel
theorem dX3_live_41 : decode cX3_live 41 = .ok (.aload_n 0, 1) := by decide +kernel
theorem dX3_live_42 : decode cX3_live 42 = .ok (.iload 5, 2) := by decide +kernel
theorem dX3_live_44 : decode cX3_live 44 = .ok (.iload_n 1, 1) := by decide +kernel
theorem dX3_live_45 : decode cX3_live 45 = .ok (.iload_n 2, 1) := by decide +kernel
theorem dX3_live_46 : decode cX3_live 46 = .ok (.aload_n 3, 1) := by decide +kernel
theorem dX3_live_47 : decode cX3_live 47 = .ok (.aload_n 0, 1) := by decide +kernel
theorem dX3_live_48 : decode cX3_live 48 = .ok (.getfield 15, 3) := by decide +kernel
theorem dX3_live_51 : decode cX3_live 51 = .ok (.iload 5, 2) := by decide +kernel
theorem dX3_live_53 : decode cX3_live 53 = .ok (.iaload, 1) := by decide +kernel
theorem dX3_live_54 : decode cX3_live 54 = .ok (.invokevirtual 28, 3) := by decide +kernel
theorem dX3_live_57 : decode cX3_live 57 = .ok (.aload 4, 2) := by decide +kernel
theorem dX3_live_59 : decode cX3_live 59 = .ok (.invokevirtual 34, 3) := by decide +kernel
theorem dX3_live_62 : decode cX3_live 62 = .ok (.iinc 5 1, 3) := by decide +kernel
theorem dX3_live_65 : decode cX3_live 65 = .ok (.goto (-62), 3) := by decide +kernel
theorem dX3_live_68 : decode cX3_live 68 = .ok (.return_, 1) := by decide +kernel
set_option maxRecDepth 20000 in
theorem ggX3_liveOne_X3_isPerson : GoodIn wsX3_liveOne wsX3_isPerson := goodIn_r _ [8, 9, 32, 33, 34, 35, 36] (by decide +kernel) (by decide +kernel)
set_option maxRecDepth 20000 in
theorem gX3_liveOne_X3_isPerson : GoodIn wsX3_liveOne (wsV RX3 38 RX3 yX3_isPerson wsX3_isPerson) := goodIn_app (goodIn_of _ (by decide +kernel)) ggX3_liveOne_X3_isPerson
set_option maxRecDepth 20000 in
theorem ggX3_liveOne_X3_goOn : GoodIn wsX3_liveOne wsX3_goOn := goodIn_r _ [13, 14, 1, 2, 4, 5, 6, 7, 8, 9, 15, 16, 17, 18, 19, 20, 21, 22, 23, 24, 25, 26, 27, 28, 29, 30, 31, 32, 33, 34, 35, 36, 37, 38, 39] (by decide +kernel) (by decide +kernel)
set_option maxRecDepth 20000 in
theorem gX3_liveOne_X3_goOn : GoodIn wsX3_liveOne (wsV RX3 42 RX3 yX3_goOn wsX3_goOn) := goodIn_app (goodIn_of _ (by decide +kernel)) ggX3_liveOne_X3_goOn
theorem dX3_liveOne_0 : decode cX3_liveOne 0 = .ok (.aload_n 0, 1) := by decide +kernel
theorem dX3_liveOne_1 : decode cX3_liveOne 1 = .ok (.iload_n 1, 1) := by decide +kernel
theorem dX3_liveOne_2 : decode cX3_liveOne 2 = .ok (.invokevirtual 38, 3) := by decide +kernel
theorem dX3_liveOne_5 : decode cX3_liveOne 5 = .ok (.ifCond .ne 4, 3) := by decide +kernel
theorem dX3_liveOne_8 : decode cX3_liveOne 8 = .ok (.return_, 1) := by decide +kernel
theorem dX3_liveOne_9 : decode cX3_liveOne 9 = .ok (.iload 4, 2) := by decide +kernel
theorem dX3_liveOne_11 : decode cX3_liveOne 11 = .ok (.bipush 100, 2) := by decide +kernel
theorem dX3_liveOne_13 : decode cX3_liveOne 13 = .ok (.if_icmp .lt 18, 3) := by decide +kernel
theorem dX3_liveOne_16 : decode cX3_liveOne 16 = .ok (.aload_n 0, 1) := by decide +kernel
theorem dX3_liveOne_17 : decode cX3_liveOne 17 = .ok (.getfield 9, 3) := by decide +kernel
theorem dX3_liveOne_20 : decode cX3_liveOne 20 = .ok (.iload_n 1, 1) := by decide +kernel
theorem dX3_liveOne_21 : decode cX3_liveOne 21 = .ok (.iconst 4, 1) := by decide +kernel
theorem dX3_liveOne_22 : decode cX3_liveOne 22 = .ok (.iastore, 1) := by decide +kernel
theorem dX3_liveOne_23 : decode cX3_liveOne 23 = .ok (.aload_n 0, 1) := by decide +kernel
theorem dX3_liveOne_24 : decode cX3_liveOne 24 = .ok (.getfield 21, 3) := by decide +kernel
theorem dX3_liveOne_27 : decode cX3_liveOne 27 = .ok (.iload_n 1, 1) := by decide +kernel
theorem dX3_liveOne_28 : decode cX3_liveOne 28 = .ok (.iload_n 2, 1) := by decide +kernel
theorem dX3_liveOne_29 : decode cX3_liveOne 29 = .ok (.iastore, 1) := by decide +kernel
theorem dX3_liveOne_30 : decode cX3_liveOne 30 = .ok (.return_, 1) := by decide +kernel
theorem dX3_liveOne_31 : decode cX3_liveOne 31 = .ok (.aload_n 0, 1) := by decide +kernel
theorem dX3_liveOne_32 : decode cX3_liveOne 32 = .ok (.getfield 9, 3) := by decide +kernel
theorem dX3_liveOne_35 : decode cX3_liveOne 35 = .ok (.iload_n 1, 1) := by decide +kernel
theorem dX3_liveOne_36 : decode cX3_liveOne 36 = .ok (.iaload, 1) := by decide +kernel
theorem dX3_liveOne_37 : decode cX3_liveOne 37 = .ok (.ifCond .ne 28, 3) := by decide +kernel
theorem dX3_liveOne_40 : decode cX3_liveOne 40 = .ok (.iload_n 3, 1) := by decide +kernel
theorem dX3_liveOne_41 : decode cX3_liveOne 41 = .ok (.ifCond .ne 10, 3) := by decide +kernel
theorem dX3_liveOne_44 : decode cX3_liveOne 44 = .ok (.iload 4, 2) := by decide +kernel
theorem dX3_liveOne_46 : decode cX3_liveOne 46 = .ok (.bipush 10, 2) := by decide +kernel
theorem dX3_liveOne_48 : decode cX3_liveOne 48 = .ok (.if_icmp .lt 17, 3) := by decide +kernel
theorem dX3_liveOne_51 : decode cX3_liveOne 51 = .ok (.aload_n 0, 1) := by decide +kernel
theorem dX3_liveOne_52 : decode cX3_liveOne 52 = .ok (.getfield 9, 3) := by decide +kernel
theorem dX3_liveOne_55 : decode cX3_liveOne 55 = .ok (.iload_n 1, 1) := by decide +kernel
theorem dX3_liveOne_56 : decode cX3_liveOne 56 = .ok (.iconst 1, 1) := by decide +kernel
theorem dX3_liveOne_57 : decode cX3_liveOne 57 = .ok (.iastore, 1) := by decide +kernel
theorem dX3_liveOne_58 : decode cX3_liveOne 58 = .ok (.aload_n 0, 1) := by decide +kernel
theorem dX3_liveOne_59 : decode cX3_liveOne 59 = .ok (.getfield 18, 3) := by decide +kernel
theorem dX3_liveOne_62 : decode cX3_liveOne 62 = .ok (.iload_n 1, 1) := by decide +kernel
theorem dX3_liveOne_63 : decode cX3_liveOne 63 = .ok (.iload_n 2, 1) := by decide +kernel
theorem dX3_liveOne_64 : decode cX3_liveOne 64 = .ok (.iastore, 1) := by decide +kernel
theorem dX3_liveOne_65 : decode cX3_liveOne 65 = .ok (.aload_n 0, 1) := by decide +kernel
theorem dX3_liveOne_66 : decode cX3_liveOne 66 = .ok (.getfield 9, 3) := by decide +kernel
theorem dX3_liveOne_69 : decode cX3_liveOne 69 = .ok (.iload_n 1, 1) := by decide +kernel
theorem dX3_liveOne_70 : decode cX3_liveOne 70 = .ok (.iaload, 1) := by decide +kernel
theorem dX3_liveOne_71 : decode cX3_liveOne 71 = .ok (.iconst 1, 1) := by decide +kernel
theorem dX3_liveOne_72 : decode cX3_liveOne 72 = .ok (.if_icmp .ne 22, 3) := by decide +kernel
theorem dX3_liveOne_75 : decode cX3_liveOne 75 = .ok (.iload_n 2, 1) := by decide +kernel
theorem dX3_liveOne_76 : decode cX3_liveOne 76 = .ok (.aload_n 0, 1) := by decide +kernel
theorem dX3_liveOne_77 : decode cX3_liveOne 77 = .ok (.getfield 18, 3) := by decide +kernel
theorem dX3_liveOne_80 : decode cX3_liveOne 80 = .ok (.iload_n 1, 1) := by decide +kernel
theorem dX3_liveOne_81 : decode cX3_liveOne 81 = .ok (.iaload, 1) := by decide +kernel
theorem dX3_liveOne_82 : decode cX3_liveOne 82 = .ok (.isub, 1) := by decide +kernel
theorem dX3_liveOne_83 : decode cX3_liveOne 83 = .ok (.iconst 3, 1) := by decide +kernel
theorem dX3_liveOne_84 : decode cX3_liveOne 84 = .ok (.if_icmp .lt 10, 3) := by decide +kernel
theorem dX3_liveOne_87 : decode cX3_liveOne 87 = .ok (.aload_n 0, 1) := by decide +kernel
theorem dX3_liveOne_88 : decode cX3_liveOne 88 = .ok (.getfield 9, 3) := by decide +kernel
theorem dX3_liveOne_91 : decode cX3_liveOne 91 = .ok (.iload_n 1, 1) := by decide +kernel
theorem dX3_liveOne_92 : decode cX3_liveOne 92 = .ok (.iconst 2, 1) := by decide +kernel
theorem dX3_liveOne_93 : decode cX3_liveOne 93 = .ok (.iastore, 1) := by decide +kernel
theorem dX3_liveOne_94 : decode cX3_liveOne 94 = .ok (.aload_n 0, 1) := by decide +kernel
theorem dX3_liveOne_95 : decode cX3_liveOne 95 = .ok (.getfield 9, 3) := by decide +kernel
theorem dX3_liveOne_98 : decode cX3_liveOne 98 = .ok (.iload_n 1, 1) := by decide +kernel
theorem dX3_liveOne_99 : decode cX3_liveOne 99 = .ok (.iaload, 1) := by decide +kernel
theorem dX3_liveOne_100 : decode cX3_liveOne 100 = .ok (.iconst 2, 1) := by decide +kernel
theorem dX3_liveOne_101 : decode cX3_liveOne 101 = .ok (.if_icmp .ne 24, 3) := by decide +kernel
theorem dX3_liveOne_104 : decode cX3_liveOne 104 = .ok (.iload 4, 2) := by decide +kernel
theorem dX3_liveOne_106 : decode cX3_liveOne 106 = .ok (.bipush 40, 2) := by decide +kernel
theorem dX3_liveOne_108 : decode cX3_liveOne 108 = .ok (.if_icmp .lt 9, 3) := by decide +kernel
theorem dX3_liveOne_111 : decode cX3_liveOne 111 = .ok (.iload_n 2, 1) := by decide +kernel
theorem dX3_liveOne_112 : decode cX3_liveOne 112 = .ok (.iconst 2, 1) := by decide +kernel
theorem dX3_liveOne_113 : decode cX3_liveOne 113 = .ok (.irem, 1) := by decide +kernel
theorem dX3_liveOne_114 : decode cX3_liveOne 114 = .ok (.ifCond .ne 11, 3) := by decide +kernel
theorem dX3_liveOne_117 : decode cX3_liveOne 117 = .ok (.aload_n 0, 1) := by decide +kernel
theorem dX3_liveOne_118 : decode cX3_liveOne 118 = .ok (.iload_n 1, 1) := by decide +kernel
theorem dX3_liveOne_119 : decode cX3_liveOne 119 = .ok (.iload_n 2, 1) := by decide +kernel
theorem dX3_liveOne_120 : decode cX3_liveOne 120 = .ok (.aload 5, 2) := by decide +kernel
theorem dX3_liveOne_122 : decode cX3_liveOne 122 = .ok (.invokevirtual 42, 3) := by decide +kernel
theorem dX3_liveOne_125 : decode cX3_liveOne 125 = .ok (.return_, 1) := by decide +kernel
set_option maxRecDepth 20000 in
theorem ggX3_goOn_X3_isPerson : GoodIn wsX3_goOn wsX3_isPerson := goodIn_r _ [8, 9, 27, 28, 29, 30, 31] (by decide +kernel) (by decide +kernel)
set_option maxRecDepth 20000 in
theorem gX3_goOn_X3_isPerson : GoodIn wsX3_goOn (wsV RX3 38 RX3 yX3_isPerson wsX3_isPerson) := goodIn_app (goodIn_of _ (by decide +kernel)) ggX3_goOn_X3_isPerson
set_option maxRecDepth 20000 in
theorem ggX3_goOn_X4_nearestWay : GoodIn wsX3_goOn wsX4_nearestWay := goodIn_r _ [14, 15, 16, 17, 18, 19, 32, 33, 34] (by decide +kernel) (by decide +kernel)
set_option maxRecDepth 20000 in
theorem gX3_goOn_X4_nearestWay : GoodIn wsX3_goOn (wsV RX3 46 RX4 yX4_nearestWay wsX4_nearestWay) := goodIn_app (goodIn_of _ (by decide +kernel)) ggX3_goOn_X4_nearestWay
set_option maxRecDepth 20000 in
theorem ggX3_goOn_J6_compare_7cf53 : GoodIn wsX3_goOn wsJ6_compare_7cf53 := goodIn_r _ [23] (by decide +kernel) (by decide +kernel)
set_option maxRecDepth 20000 in
theorem gX3_goOn_J6_compare_7cf53 : GoodIn wsX3_goOn (va_wsS RX3 51 yJ6_compare_7cf53 wsJ6_compare_7cf53) := goodIn_app (goodIn_of _ (by decide +kernel)) ggX3_goOn_J6_compare_7cf53
set_option maxRecDepth 20000 in
theorem ggX3_goOn_X7_isSegment : GoodIn wsX3_goOn wsX7_isSegment := goodIn_r _ [26] (by decide +kernel) (by decide +kernel)
set_option maxRecDepth 20000 in
theorem gX3_goOn_X7_isSegment_n57 : GoodIn wsX3_goOn (wsX7_isSegment) := ggX3_goOn_X7_isSegment
theorem dX3_goOn_0 : decode cX3_goOn 0 = .ok (.aload_n 0, 1) := by decide +kernel
theorem dX3_goOn_1 : decode cX3_goOn 1 = .ok (.iload_n 1, 1) := by decide +kernel
theorem dX3_goOn_2 : decode cX3_goOn 2 = .ok (.invokevirtual 38, 3) := by decide +kernel
theorem dX3_goOn_5 : decode cX3_goOn 5 = .ok (.ifCond .ne 4, 3) := by decide +kernel
theorem dX3_goOn_8 : decode cX3_goOn 8 = .ok (.return_, 1) := by decide +kernel
theorem dX3_goOn_9 : decode cX3_goOn 9 = .ok (.aload_n 0, 1) := by decide +kernel
theorem dX3_goOn_10 : decode cX3_goOn 10 = .ok (.getfield 15, 3) := by decide +kernel
theorem dX3_goOn_13 : decode cX3_goOn 13 = .ok (.iload_n 1, 1) := by decide +kernel
theorem dX3_goOn_14 : decode cX3_goOn 14 = .ok (.iaload, 1) := by decide +kernel
theorem dX3_goOn_15 : decode cX3_goOn 15 = .ok (.istore 4, 2) := by decide +kernel
theorem dX3_goOn_17 : decode cX3_goOn 17 = .ok (.iload 4, 2) := by decide +kernel
theorem dX3_goOn_19 : decode cX3_goOn 19 = .ok (.aload_n 3, 1) := by decide +kernel
theorem dX3_goOn_20 : decode cX3_goOn 20 = .ok (.iload 4, 2) := by decide +kernel
theorem dX3_goOn_22 : decode cX3_goOn 22 = .ok (.invokevirtual 46, 3) := by decide +kernel
theorem dX3_goOn_25 : decode cX3_goOn 25 = .ok (.iload 4, 2) := by decide +kernel
theorem dX3_goOn_27 : decode cX3_goOn 27 = .ok (.invokestatic 51, 3) := by decide +kernel
theorem dX3_goOn_30 : decode cX3_goOn 30 = .ok (.iadd, 1) := by decide +kernel
theorem dX3_goOn_31 : decode cX3_goOn 31 = .ok (.istore 5, 2) := by decide +kernel
theorem dX3_goOn_33 : decode cX3_goOn 33 = .ok (.iload 5, 2) := by decide +kernel
theorem dX3_goOn_35 : decode cX3_goOn 35 = .ok (.iload 4, 2) := by decide +kernel
theorem dX3_goOn_37 : decode cX3_goOn 37 = .ok (.if_icmp .eq 11, 3) := by decide +kernel
theorem dX3_goOn_40 : decode cX3_goOn 40 = .ok (.iload 5, 2) := by decide +kernel
theorem dX3_goOn_42 : decode cX3_goOn 42 = .ok (.invokestatic 57, 3) := by decide +kernel
theorem dX3_goOn_45 : decode cX3_goOn 45 = .ok (.ifCond .ne 27, 3) := by decide +kernel
theorem dX3_goOn_48 : decode cX3_goOn 48 = .ok (.aload_n 0, 1) := by decide +kernel
theorem dX3_goOn_49 : decode cX3_goOn 49 = .ok (.getfield 9, 3) := by decide +kernel
theorem dX3_goOn_52 : decode cX3_goOn 52 = .ok (.iload_n 1, 1) := by decide +kernel
theorem dX3_goOn_53 : decode cX3_goOn 53 = .ok (.iconst 3, 1) := by decide +kernel
theorem dX3_goOn_54 : decode cX3_goOn 54 = .ok (.iastore, 1) := by decide +kernel
theorem dX3_goOn_55 : decode cX3_goOn 55 = .ok (.aload_n 0, 1) := by decide +kernel
theorem dX3_goOn_56 : decode cX3_goOn 56 = .ok (.getfield 21, 3) := by decide +kernel
theorem dX3_goOn_59 : decode cX3_goOn 59 = .ok (.iload_n 1, 1) := by decide +kernel
theorem dX3_goOn_60 : decode cX3_goOn 60 = .ok (.iload_n 2, 1) := by decide +kernel
theorem dX3_goOn_61 : decode cX3_goOn 61 = .ok (.iastore, 1) := by decide +kernel
theorem dX3_goOn_62 : decode cX3_goOn 62 = .ok (.aload_n 0, 1) := by decide +kernel
theorem dX3_goOn_63 : decode cX3_goOn 63 = .ok (.getfield 15, 3) := by decide +kernel
theorem dX3_goOn_66 : decode cX3_goOn 66 = .ok (.iload_n 1, 1) := by decide +kernel
theorem dX3_goOn_67 : decode cX3_goOn 67 = .ok (.iconst (-1), 1) := by decide +kernel
theorem dX3_goOn_68 : decode cX3_goOn 68 = .ok (.iastore, 1) := by decide +kernel
theorem dX3_goOn_69 : decode cX3_goOn 69 = .ok (.goto 11, 3) := by decide +kernel
theorem dX3_goOn_72 : decode cX3_goOn 72 = .ok (.aload_n 0, 1) := by decide +kernel
theorem dX3_goOn_73 : decode cX3_goOn 73 = .ok (.getfield 15, 3) := by decide +kernel
theorem dX3_goOn_76 : decode cX3_goOn 76 = .ok (.iload_n 1, 1) := by decide +kernel
theorem dX3_goOn_77 : decode cX3_goOn 77 = .ok (.iload 5, 2) := by decide +kernel
theorem dX3_goOn_79 : decode cX3_goOn 79 = .ok (.iastore, 1) := by decide +kernel
theorem dX3_goOn_80 : decode cX3_goOn 80 = .ok (.return_, 1) := by decide +kernel
theorem dX3_howMany_0 : decode cX3_howMany 0 = .ok (.iconst 0, 1) := by decide +kernel
theorem dX3_howMany_1 : decode cX3_howMany 1 = .ok (.istore_n 2, 1) := by decide +kernel
theorem dX3_howMany_2 : decode cX3_howMany 2 = .ok (.iconst 0, 1) := by decide +kernel
theorem dX3_howMany_3 : decode cX3_howMany 3 = .ok (.istore_n 3, 1) := by decide +kernel
theorem dX3_howMany_4 : decode cX3_howMany 4 = .ok (.iload_n 3, 1) := by decide +kernel
theorem dX3_howMany_5 : decode cX3_howMany 5 = .ok (.aload_n 0, 1) := by decide +kernel
theorem dX3_howMany_6 : decode cX3_howMany 6 = .ok (.getfield 24, 3) := by decide +kernel
theorem dX3_howMany_9 : decode cX3_howMany 9 = .ok (.if_icmp .ge 28, 3) := by decide +kernel
theorem dX3_howMany_12 : decode cX3_howMany 12 = .ok (.iload_n 3, 1) := by decide +kernel
theorem dX3_howMany_13 : decode cX3_howMany 13 = .ok (.bipush 30, 2) := by decide +kernel
theorem dX3_howMany_15 : decode cX3_howMany 15 = .ok (.if_icmp .ge 22, 3) := by decide +kernel
theorem dX3_howMany_18 : decode cX3_howMany 18 = .ok (.aload_n 0, 1) := by decide +kernel
theorem dX3_howMany_19 : decode cX3_howMany 19 = .ok (.getfield 9, 3) := by decide +kernel
theorem dX3_howMany_22 : decode cX3_howMany 22 = .ok (.iload_n 3, 1) := by decide +kernel
theorem dX3_howMany_23 : decode cX3_howMany 23 = .ok (.iaload, 1) := by decide +kernel
theorem dX3_howMany_24 : decode cX3_howMany 24 = .ok (.iload_n 1, 1) := by decide +kernel
theorem dX3_howMany_25 : decode cX3_howMany 25 = .ok (.if_icmp .ne 6, 3) := by decide +kernel
theorem dX3_howMany_28 : decode cX3_howMany 28 = .ok (.iinc 2 1, 3) := by decide +kernel
theorem dX3_howMany_31 : decode cX3_howMany 31 = .ok (.iinc 3 1, 3) := by decide +kernel
theorem dX3_howMany_34 : decode cX3_howMany 34 = .ok (.goto (-30), 3) := by decide +kernel
theorem dX3_howMany_37 : decode cX3_howMany 37 = .ok (.iload_n 2, 1) := by decide +kernel
theorem dX3_howMany_38 : decode cX3_howMany 38 = .ok (.ireturn, 1) := by decide +kernel
theorem dX3_insideOf_0 : decode cX3_insideOf 0 = .ok (.iconst 0, 1) := by decide +kernel
theorem dX3_insideOf_1 : decode cX3_insideOf 1 = .ok (.istore_n 2, 1) := by decide +kernel
theorem dX3_insideOf_2 : decode cX3_insideOf 2 = .ok (.iconst 0, 1) := by decide +kernel
theorem dX3_insideOf_3 : decode cX3_insideOf 3 = .ok (.istore_n 3, 1) := by decide +kernel
theorem dX3_insideOf_4 : decode cX3_insideOf 4 = .ok (.iload_n 3, 1) := by decide +kernel
theorem dX3_insideOf_5 : decode cX3_insideOf 5 = .ok (.aload_n 0, 1) := by decide +kernel
theorem dX3_insideOf_6 : decode cX3_insideOf 6 = .ok (.getfield 24, 3) := by decide +kernel
theorem dX3_insideOf_9 : decode cX3_insideOf 9 = .ok (.if_icmp .ge 28, 3) := by decide +kernel
theorem dX3_insideOf_12 : decode cX3_insideOf 12 = .ok (.iload_n 3, 1) := by decide +kernel
theorem dX3_insideOf_13 : decode cX3_insideOf 13 = .ok (.bipush 30, 2) := by decide +kernel
theorem dX3_insideOf_15 : decode cX3_insideOf 15 = .ok (.if_icmp .ge 22, 3) := by decide +kernel
theorem dX3_insideOf_18 : decode cX3_insideOf 18 = .ok (.aload_n 0, 1) := by decide +kernel
theorem dX3_insideOf_19 : decode cX3_insideOf 19 = .ok (.getfield 15, 3) := by decide +kernel
theorem dX3_insideOf_22 : decode cX3_insideOf 22 = .ok (.iload_n 3, 1) := by decide +kernel
theorem dX3_insideOf_23 : decode cX3_insideOf 23 = .ok (.iaload, 1) := by decide +kernel
theorem dX3_insideOf_24 : decode cX3_insideOf 24 = .ok (.iload_n 1, 1) := by decide +kernel
theorem dX3_insideOf_25 : decode cX3_insideOf 25 = .ok (.if_icmp .ne 6, 3) := by decide +kernel
theorem dX3_insideOf_28 : decode cX3_insideOf 28 = .ok (.iinc 2 1, 3) := by decide +kernel
theorem dX3_insideOf_31 : decode cX3_insideOf 31 = .ok (.iinc 3 1, 3) := by decide +kernel
theorem dX3_insideOf_34 : decode cX3_insideOf 34 = .ok (.goto (-30), 3) := by decide +kernel
theorem dX3_insideOf_37 : decode cX3_insideOf 37 = .ok (.iload_n 2, 1) := by decide +kernel
theorem dX3_insideOf_38 : decode cX3_insideOf 38 = .ok (.ireturn, 1) := by decide +kernel
set_option maxRecDepth 20000 in
theorem ggX3_stateOf_X3_isPerson : GoodIn wsX3_stateOf wsX3_isPerson := goodIn_r _ [6, 7, 8, 9, 10, 11, 12] (by decide +kernel) (by decide +kernel)
set_option maxRecDepth 20000 in
theorem gX3_stateOf_X3_isPerson : GoodIn wsX3_stateOf (wsV RX3 38 RX3 yX3_isPerson wsX3_isPerson) := goodIn_app (goodIn_of _ (by decide +kernel)) ggX3_stateOf_X3_isPerson
theorem dX3_stateOf_0 : decode cX3_stateOf 0 = .ok (.aload_n 0, 1) := by decide +kernel
theorem dX3_stateOf_1 : decode cX3_stateOf 1 = .ok (.iload_n 1, 1) := by decide +kernel
theorem dX3_stateOf_2 : decode cX3_stateOf 2 = .ok (.invokevirtual 38, 3) := by decide +kernel
theorem dX3_stateOf_5 : decode cX3_stateOf 5 = .ok (.ifCond .eq 12, 3) := by decide +kernel
theorem dX3_stateOf_8 : decode cX3_stateOf 8 = .ok (.aload_n 0, 1) := by decide +kernel
theorem dX3_stateOf_9 : decode cX3_stateOf 9 = .ok (.getfield 9, 3) := by decide +kernel
theorem dX3_stateOf_12 : decode cX3_stateOf 12 = .ok (.iload_n 1, 1) := by decide +kernel
theorem dX3_stateOf_13 : decode cX3_stateOf 13 = .ok (.iaload, 1) := by decide +kernel
theorem dX3_stateOf_14 : decode cX3_stateOf 14 = .ok (.goto 4, 3) := by decide +kernel
theorem dX3_stateOf_17 : decode cX3_stateOf 17 = .ok (.iconst 0, 1) := by decide +kernel
theorem dX3_stateOf_18 : decode cX3_stateOf 18 = .ok (.ireturn, 1) := by decide +kernel
set_option maxRecDepth 20000 in
theorem ggX3_segmentOf_X3_isPerson : GoodIn wsX3_segmentOf wsX3_isPerson := goodIn_r _ [6, 7, 8, 9, 10, 11, 12] (by decide +kernel) (by decide +kernel)
set_option maxRecDepth 20000 in
theorem gX3_segmentOf_X3_isPerson : GoodIn wsX3_segmentOf (wsV RX3 38 RX3 yX3_isPerson wsX3_isPerson) := goodIn_app (goodIn_of _ (by decide +kernel)) ggX3_segmentOf_X3_isPerson
theorem dX3_segmentOf_0 : decode cX3_segmentOf 0 = .ok (.aload_n 0, 1) := by decide +kernel
theorem dX3_segmentOf_1 : decode cX3_segmentOf 1 = .ok (.iload_n 1, 1) := by decide +kernel
theorem dX3_segmentOf_2 : decode cX3_segmentOf 2 = .ok (.invokevirtual 38, 3) := by decide +kernel
theorem dX3_segmentOf_5 : decode cX3_segmentOf 5 = .ok (.ifCond .eq 12, 3) := by decide +kernel
theorem dX3_segmentOf_8 : decode cX3_segmentOf 8 = .ok (.aload_n 0, 1) := by decide +kernel
theorem dX3_segmentOf_9 : decode cX3_segmentOf 9 = .ok (.getfield 15, 3) := by decide +kernel
theorem dX3_segmentOf_12 : decode cX3_segmentOf 12 = .ok (.iload_n 1, 1) := by decide +kernel
theorem dX3_segmentOf_13 : decode cX3_segmentOf 13 = .ok (.iaload, 1) := by decide +kernel
theorem dX3_segmentOf_14 : decode cX3_segmentOf 14 = .ok (.goto 4, 3) := by decide +kernel
theorem dX3_segmentOf_17 : decode cX3_segmentOf 17 = .ok (.iconst (-1), 1) := by decide +kernel
theorem dX3_segmentOf_18 : decode cX3_segmentOf 18 = .ok (.ireturn, 1) := by decide +kernel
set_option maxRecDepth 20000 in
theorem ggX3_endOf_X3_isPerson : GoodIn wsX3_endOf wsX3_isPerson := goodIn_r _ [6, 7, 8, 9, 10, 11, 12] (by decide +kernel) (by decide +kernel)
set_option maxRecDepth 20000 in
theorem gX3_endOf_X3_isPerson : GoodIn wsX3_endOf (wsV RX3 38 RX3 yX3_isPerson wsX3_isPerson) := goodIn_app (goodIn_of _ (by decide +kernel)) ggX3_endOf_X3_isPerson
theorem dX3_endOf_0 : decode cX3_endOf 0 = .ok (.aload_n 0, 1) := by decide +kernel
theorem dX3_endOf_1 : decode cX3_endOf 1 = .ok (.iload_n 1, 1) := by decide +kernel
theorem dX3_endOf_2 : decode cX3_endOf 2 = .ok (.invokevirtual 38, 3) := by decide +kernel
theorem dX3_endOf_5 : decode cX3_endOf 5 = .ok (.ifCond .eq 12, 3) := by decide +kernel
theorem dX3_endOf_8 : decode cX3_endOf 8 = .ok (.aload_n 0, 1) := by decide +kernel
theorem dX3_endOf_9 : decode cX3_endOf 9 = .ok (.getfield 21, 3) := by decide +kernel
theorem dX3_endOf_12 : decode cX3_endOf 12 = .ok (.iload_n 1, 1) := by decide +kernel
theorem dX3_endOf_13 : decode cX3_endOf 13 = .ok (.iaload, 1) := by decide +kernel
theorem dX3_endOf_14 : decode cX3_endOf 14 = .ok (.goto 4, 3) := by decide +kernel
theorem dX3_endOf_17 : decode cX3_endOf 17 = .ok (.iconst (-1), 1) := by decide +kernel
theorem dX3_endOf_18 : decode cX3_endOf 18 = .ok (.ireturn, 1) := by decide +kernel
theorem dX3_isPerson_0 : decode cX3_isPerson 0 = .ok (.iload_n 1, 1) := by decide +kernel
theorem dX3_isPerson_1 : decode cX3_isPerson 1 = .ok (.ifCond .lt 21, 3) := by decide +kernel
theorem dX3_isPerson_4 : decode cX3_isPerson 4 = .ok (.iload_n 1, 1) := by decide +kernel
theorem dX3_isPerson_5 : decode cX3_isPerson 5 = .ok (.aload_n 0, 1) := by decide +kernel
theorem dX3_isPerson_6 : decode cX3_isPerson 6 = .ok (.getfield 24, 3) := by decide +kernel
theorem dX3_isPerson_9 : decode cX3_isPerson 9 = .ok (.if_icmp .ge 13, 3) := by decide +kernel
theorem dX3_isPerson_12 : decode cX3_isPerson 12 = .ok (.iload_n 1, 1) := by decide +kernel
theorem dX3_isPerson_13 : decode cX3_isPerson 13 = .ok (.bipush 30, 2) := by decide +kernel
theorem dX3_isPerson_15 : decode cX3_isPerson 15 = .ok (.if_icmp .ge 7, 3) := by decide +kernel
theorem dX3_isPerson_18 : decode cX3_isPerson 18 = .ok (.iconst 1, 1) := by decide +kernel
theorem dX3_isPerson_19 : decode cX3_isPerson 19 = .ok (.goto 4, 3) := by decide +kernel
theorem dX3_isPerson_22 : decode cX3_isPerson 22 = .ok (.iconst 0, 1) := by decide +kernel
theorem dX3_isPerson_23 : decode cX3_isPerson 23 = .ok (.ireturn, 1) := by decide +kernel
theorem dX3_size_0 : decode cX3_size 0 = .ok (.aload_n 0, 1) := by decide +kernel
theorem dX3_size_1 : decode cX3_size 1 = .ok (.getfield 24, 3) := by decide +kernel
theorem dX3_size_4 : decode cX3_size 4 = .ok (.ireturn, 1) := by decide +kernel
theorem dX4_init_0 : decode cX4_init 0 = .ok (.aload_n 0, 1) := by decide +kernel
theorem dX4_init_1 : decode cX4_init 1 = .ok (.invokespecial 3, 3) := by decide +kernel
theorem dX4_init_4 : decode cX4_init 4 = .ok (.aload_n 0, 1) := by decide +kernel
theorem dX4_init_5 : decode cX4_init 5 = .ok (.bipush 12, 2) := by decide +kernel
theorem dX4_init_7 : decode cX4_init 7 = .ok (.newarray .boolean, 2) := by decide +kernel
theorem dX4_init_9 : decode cX4_init 9 = .ok (.putfield 9, 3) := by decide +kernel
theorem dX4_init_12 : decode cX4_init 12 = .ok (.aload_n 0, 1) := by decide +kernel
theorem dX4_init_13 : decode cX4_init 13 = .ok (.bipush 12, 2) := by decide +kernel
theorem dX4_init_15 : decode cX4_init 15 = .ok (.newarray .boolean, 2) := by decide +kernel
theorem dX4_init_17 : decode cX4_init 17 = .ok (.putfield 15, 3) := by decide +kernel
theorem dX4_init_20 : decode cX4_init 20 = .ok (.aload_n 0, 1) := by decide +kernel
theorem dX4_init_21 : decode cX4_init 21 = .ok (.bipush 12, 2) := by decide +kernel
theorem dX4_init_23 : decode cX4_init 23 = .ok (.newarray .boolean, 2) := by decide +kernel
theorem dX4_init_25 : decode cX4_init 25 = .ok (.putfield 18, 3) := by decide +kernel
theorem dX4_init_28 : decode cX4_init 28 = .ok (.return_, 1) := by decide +kernel
theorem dX4_place_0 : decode cX4_place 0 = .ok (.iconst 0, 1) := by decide +kernel
theorem dX4_place_1 : decode cX4_place 1 = .ok (.istore_n 2, 1) := by decide +kernel
theorem dX4_place_2 : decode cX4_place 2 = .ok (.iload_n 2, 1) := by decide +kernel
theorem dX4_place_3 : decode cX4_place 3 = .ok (.bipush 12, 2) := by decide +kernel
theorem dX4_place_5 : decode cX4_place 5 = .ok (.if_icmp .ge 43, 3) := by decide +kernel
theorem dX4_place_8 : decode cX4_place 8 = .ok (.aload_n 0, 1) := by decide +kernel
theorem dX4_place_9 : decode cX4_place 9 = .ok (.getfield 9, 3) := by decide +kernel
theorem dX4_place_12 : decode cX4_place 12 = .ok (.iload_n 2, 1) := by decide +kernel
theorem dX4_place_13 : decode cX4_place 13 = .ok (.iload_n 1, 1) := by decide +kernel
theorem dX4_place_14 : decode cX4_place 14 = .ok (.iload_n 2, 1) := by decide +kernel
theorem dX4_place_15 : decode cX4_place 15 = .ok (.ishr, 1) := by decide +kernel
theorem dX4_place_16 : decode cX4_place 16 = .ok (.iconst 1, 1) := by decide +kernel
theorem dX4_place_17 : decode cX4_place 17 = .ok (.iand, 1) := by decide +kernel
theorem dX4_place_18 : decode cX4_place 18 = .ok (.iconst 1, 1) := by decide +kernel
theorem dX4_place_19 : decode cX4_place 19 = .ok (.if_icmp .ne 7, 3) := by decide +kernel
theorem dX4_place_22 : decode cX4_place 22 = .ok (.iconst 1, 1) := by decide +kernel
theorem dX4_place_23 : decode cX4_place 23 = .ok (.goto 4, 3) := by decide +kernel
theorem dX4_place_26 : decode cX4_place 26 = .ok (.iconst 0, 1) := by decide +kernel
theorem dX4_place_27 : decode cX4_place 27 = .ok (.bastore, 1) := by decide +kernel
theorem dX4_place_28 : decode cX4_place 28 = .ok (.aload_n 0, 1) := by decide +kernel
theorem dX4_place_29 : decode cX4_place 29 = .ok (.getfield 15, 3) := by decide +kernel
theorem dX4_place_32 : decode cX4_place 32 = .ok (.iload_n 2, 1) := by decide +kernel
theorem dX4_place_33 : decode cX4_place 33 = .ok (.iconst 0, 1) := by decide +kernel
theorem dX4_place_34 : decode cX4_place 34 = .ok (.bastore, 1) := by decide +kernel
theorem dX4_place_35 : decode cX4_place 35 = .ok (.aload_n 0, 1) := by decide +kernel
theorem dX4_place_36 : decode cX4_place 36 = .ok (.getfield 18, 3) := by decide +kernel
theorem dX4_place_39 : decode cX4_place 39 = .ok (.iload_n 2, 1) := by decide +kernel
theorem dX4_place_40 : decode cX4_place 40 = .ok (.iconst 0, 1) := by decide +kernel
theorem dX4_place_41 : decode cX4_place 41 = .ok (.bastore, 1) := by decide +kernel
theorem dX4_place_42 : decode cX4_place 42 = .ok (.iinc 2 1, 3) := by decide +kernel
theorem dX4_place_45 : decode cX4_place 45 = .ok (.goto (-43), 3) := by decide +kernel
theorem dX4_place_48 : decode cX4_place 48 = .ok (.return_, 1) := by decide +kernel
theorem dX4_openAll_0 : decode cX4_openAll 0 = .ok (.iconst 0, 1) := by decide +kernel
theorem dX4_openAll_1 : decode cX4_openAll 1 = .ok (.istore_n 1, 1) := by decide +kernel
theorem dX4_openAll_2 : decode cX4_openAll 2 = .ok (.iload_n 1, 1) := by decide +kernel
theorem dX4_openAll_3 : decode cX4_openAll 3 = .ok (.bipush 12, 2) := by decide +kernel
theorem dX4_openAll_5 : decode cX4_openAll 5 = .ok (.if_icmp .ge 34, 3) := by decide +kernel
theorem dX4_openAll_8 : decode cX4_openAll 8 = .ok (.aload_n 0, 1) := by decide +kernel
theorem dX4_openAll_9 : decode cX4_openAll 9 = .ok (.getfield 9, 3) := by decide +kernel
theorem dX4_openAll_12 : decode cX4_openAll 12 = .ok (.iload_n 1, 1) := by decide +kernel
theorem dX4_openAll_13 : decode cX4_openAll 13 = .ok (.baload, 1) := by decide +kernel
theorem dX4_openAll_14 : decode cX4_openAll 14 = .ok (.ifCond .eq 19, 3) := by decide +kernel
theorem dX4_openAll_17 : decode cX4_openAll 17 = .ok (.aload_n 0, 1) := by decide +kernel
theorem dX4_openAll_18 : decode cX4_openAll 18 = .ok (.getfield 18, 3) := by decide +kernel
theorem dX4_openAll_21 : decode cX4_openAll 21 = .ok (.iload_n 1, 1) := by decide +kernel
theorem dX4_openAll_22 : decode cX4_openAll 22 = .ok (.baload, 1) := by decide +kernel
theorem dX4_openAll_23 : decode cX4_openAll 23 = .ok (.ifCond .ne 10, 3) := by decide +kernel
theorem dX4_openAll_26 : decode cX4_openAll 26 = .ok (.aload_n 0, 1) := by decide +kernel
theorem dX4_openAll_27 : decode cX4_openAll 27 = .ok (.getfield 15, 3) := by decide +kernel
theorem dX4_openAll_30 : decode cX4_openAll 30 = .ok (.iload_n 1, 1) := by decide +kernel
theorem dX4_openAll_31 : decode cX4_openAll 31 = .ok (.iconst 1, 1) := by decide +kernel
theorem dX4_openAll_32 : decode cX4_openAll 32 = .ok (.bastore, 1) := by decide +kernel
theorem dX4_openAll_33 : decode cX4_openAll 33 = .ok (.iinc 1 1, 3) := by decide +kernel
theorem dX4_openAll_36 : decode cX4_openAll 36 = .ok (.goto (-34), 3) := by decide +kernel
theorem dX4_openAll_39 : decode cX4_openAll 39 = .ok (.return_, 1) := by decide +kernel
set_option maxRecDepth 20000 in
theorem ggX4_setFailing_X7_isSegment : GoodIn wsX4_setFailing wsX7_isSegment := goodIn_r _ [4] (by decide +kernel) (by decide +kernel)
set_option maxRecDepth 20000 in
theorem gX4_setFailing_X7_isSegment_n21 : GoodIn wsX4_setFailing (wsX7_isSegment) := ggX4_setFailing_X7_isSegment
theorem dX4_setFailing_0 : decode cX4_setFailing 0 = .ok (.iload_n 1, 1) := by decide +kernel
theorem dX4_setFailing_1 : decode cX4_setFailing 1 = .ok (.invokestatic 21, 3) := by decide +kernel
theorem dX4_setFailing_4 : decode cX4_setFailing 4 = .ok (.ifCond .eq 10, 3) := by decide +kernel
theorem dX4_setFailing_7 : decode cX4_setFailing 7 = .ok (.aload_n 0, 1) := by decide +kernel
theorem dX4_setFailing_8 : decode cX4_setFailing 8 = .ok (.getfield 18, 3) := by decide +kernel
theorem dX4_setFailing_11 : decode cX4_setFailing 11 = .ok (.iload_n 1, 1) := by decide +kernel
theorem dX4_setFailing_12 : decode cX4_setFailing 12 = .ok (.iload_n 2, 1) := by decide +kernel
theorem dX4_setFailing_13 : decode cX4_setFailing 13 = .ok (.bastore, 1) := by decide +kernel
theorem dX4_setFailing_14 : decode cX4_setFailing 14 = .ok (.return_, 1) := by decide +kernel
theorem dX4_nearestWay_0 : decode cX4_nearestWay 0 = .ok (.iconst (-1), 1) := by decide +kernel
theorem dX4_nearestWay_1 : decode cX4_nearestWay 1 = .ok (.istore_n 2, 1) := by decide +kernel
theorem dX4_nearestWay_2 : decode cX4_nearestWay 2 = .ok (.bipush 13, 2) := by decide +kernel
theorem dX4_nearestWay_4 : decode cX4_nearestWay 4 = .ok (.istore_n 3, 1) := by decide +kernel
theorem dX4_nearestWay_5 : decode cX4_nearestWay 5 = .ok (.iconst 0, 1) := by decide +kernel
theorem dX4_nearestWay_6 : decode cX4_nearestWay 6 = .ok (.istore 4, 2) := by decide +kernel
theorem dX4_nearestWay_8 : decode cX4_nearestWay 8 = .ok (.iload 4, 2) := by decide +kernel
theorem dX4_nearestWay_10 : decode cX4_nearestWay 10 = .ok (.bipush 12, 2) := by decide +kernel
theorem dX4_nearestWay_12 : decode cX4_nearestWay 12 = .ok (.if_icmp .ge 40, 3) := by decide +kernel
theorem dX4_nearestWay_15 : decode cX4_nearestWay 15 = .ok (.iload 4, 2) := by decide +kernel
theorem dX4_nearestWay_17 : decode cX4_nearestWay 17 = .ok (.iload_n 1, 1) := by decide +kernel
theorem dX4_nearestWay_18 : decode cX4_nearestWay 18 = .ok (.isub, 1) := by decide +kernel
theorem dX4_nearestWay_19 : decode cX4_nearestWay 19 = .ok (.invokestatic 25, 3) := by decide +kernel
theorem dX4_nearestWay_22 : decode cX4_nearestWay 22 = .ok (.istore 5, 2) := by decide +kernel
theorem dX4_nearestWay_24 : decode cX4_nearestWay 24 = .ok (.aload_n 0, 1) := by decide +kernel
theorem dX4_nearestWay_25 : decode cX4_nearestWay 25 = .ok (.getfield 15, 3) := by decide +kernel
theorem dX4_nearestWay_28 : decode cX4_nearestWay 28 = .ok (.iload 4, 2) := by decide +kernel
theorem dX4_nearestWay_30 : decode cX4_nearestWay 30 = .ok (.baload, 1) := by decide +kernel
theorem dX4_nearestWay_31 : decode cX4_nearestWay 31 = .ok (.ifCond .eq 15, 3) := by decide +kernel
theorem dX4_nearestWay_34 : decode cX4_nearestWay 34 = .ok (.iload 5, 2) := by decide +kernel
theorem dX4_nearestWay_36 : decode cX4_nearestWay 36 = .ok (.iload_n 3, 1) := by decide +kernel
theorem dX4_nearestWay_37 : decode cX4_nearestWay 37 = .ok (.if_icmp .ge 9, 3) := by decide +kernel
theorem dX4_nearestWay_40 : decode cX4_nearestWay 40 = .ok (.iload 4, 2) := by decide +kernel
theorem dX4_nearestWay_42 : decode cX4_nearestWay 42 = .ok (.istore_n 2, 1) := by decide +kernel
theorem dX4_nearestWay_43 : decode cX4_nearestWay 43 = .ok (.iload 5, 2) := by decide +kernel
theorem dX4_nearestWay_45 : decode cX4_nearestWay 45 = .ok (.istore_n 3, 1) := by decide +kernel
theorem dX4_nearestWay_46 : decode cX4_nearestWay 46 = .ok (.iinc 4 1, 3) := by decide +kernel
theorem dX4_nearestWay_49 : decode cX4_nearestWay 49 = .ok (.goto (-41), 3) := by decide +kernel
theorem dX4_nearestWay_52 : decode cX4_nearestWay 52 = .ok (.iload_n 1, 1) := by decide +kernel
theorem dX4_nearestWay_53 : decode cX4_nearestWay 53 = .ok (.iconst 1, 1) := by decide +kernel
theorem dX4_nearestWay_54 : decode cX4_nearestWay 54 = .ok (.iadd, 1) := by decide +kernel
theorem dX4_nearestWay_55 : decode cX4_nearestWay 55 = .ok (.iload_n 3, 1) := by decide +kernel
theorem dX4_nearestWay_56 : decode cX4_nearestWay 56 = .ok (.if_icmp .ge 9, 3) := by decide +kernel
theorem dX4_nearestWay_59 : decode cX4_nearestWay 59 = .ok (.iconst (-1), 1) := by decide +kernel
theorem dX4_nearestWay_60 : decode cX4_nearestWay 60 = .ok (.istore_n 2, 1) := by decide +kernel
theorem dX4_nearestWay_61 : decode cX4_nearestWay 61 = .ok (.iload_n 1, 1) := by decide +kernel
theorem dX4_nearestWay_62 : decode cX4_nearestWay 62 = .ok (.iconst 1, 1) := by decide +kernel
theorem dX4_nearestWay_63 : decode cX4_nearestWay 63 = .ok (.iadd, 1) := by decide +kernel
theorem dX4_nearestWay_64 : decode cX4_nearestWay 64 = .ok (.istore_n 3, 1) := by decide +kernel
theorem dX4_nearestWay_65 : decode cX4_nearestWay 65 = .ok (.bipush 12, 2) := by decide +kernel
theorem dX4_nearestWay_67 : decode cX4_nearestWay 67 = .ok (.iload_n 1, 1) := by decide +kernel
theorem dX4_nearestWay_68 : decode cX4_nearestWay 68 = .ok (.isub, 1) := by decide +kernel
theorem dX4_nearestWay_69 : decode cX4_nearestWay 69 = .ok (.iload_n 3, 1) := by decide +kernel
theorem dX4_nearestWay_70 : decode cX4_nearestWay 70 = .ok (.if_icmp .ge 8, 3) := by decide +kernel
theorem dX4_nearestWay_73 : decode cX4_nearestWay 73 = .ok (.bipush 12, 2) := by decide +kernel
theorem dX4_nearestWay_75 : decode cX4_nearestWay 75 = .ok (.goto 4, 3) := by decide +kernel
theorem dX4_nearestWay_78 : decode cX4_nearestWay 78 = .ok (.iload_n 2, 1) := by decide +kernel
theorem dX4_nearestWay_79 : decode cX4_nearestWay 79 = .ok (.ireturn, 1) := by decide +kernel
set_option maxRecDepth 20000 in
theorem ggX4_isThere_X7_isSegment : GoodIn wsX4_isThere wsX7_isSegment := goodIn_r _ [4] (by decide +kernel) (by decide +kernel)
set_option maxRecDepth 20000 in
theorem gX4_isThere_X7_isSegment_n21 : GoodIn wsX4_isThere (wsX7_isSegment) := ggX4_isThere_X7_isSegment
theorem dX4_isThere_0 : decode cX4_isThere 0 = .ok (.iload_n 1, 1) := by decide +kernel
theorem dX4_isThere_1 : decode cX4_isThere 1 = .ok (.invokestatic 21, 3) := by decide +kernel
theorem dX4_isThere_4 : decode cX4_isThere 4 = .ok (.ifCond .eq 16, 3) := by decide +kernel
theorem dX4_isThere_7 : decode cX4_isThere 7 = .ok (.aload_n 0, 1) := by decide +kernel
theorem dX4_isThere_8 : decode cX4_isThere 8 = .ok (.getfield 9, 3) := by decide +kernel
theorem dX4_isThere_11 : decode cX4_isThere 11 = .ok (.iload_n 1, 1) := by decide +kernel
theorem dX4_isThere_12 : decode cX4_isThere 12 = .ok (.baload, 1) := by decide +kernel
theorem dX4_isThere_13 : decode cX4_isThere 13 = .ok (.ifCond .eq 7, 3) := by decide +kernel
theorem dX4_isThere_16 : decode cX4_isThere 16 = .ok (.iconst 1, 1) := by decide +kernel
theorem dX4_isThere_17 : decode cX4_isThere 17 = .ok (.goto 4, 3) := by decide +kernel
theorem dX4_isThere_20 : decode cX4_isThere 20 = .ok (.iconst 0, 1) := by decide +kernel
theorem dX4_isThere_21 : decode cX4_isThere 21 = .ok (.ireturn, 1) := by decide +kernel
set_option maxRecDepth 20000 in
theorem ggX4_isOpen_X7_isSegment : GoodIn wsX4_isOpen wsX7_isSegment := goodIn_r _ [4] (by decide +kernel) (by decide +kernel)
set_option maxRecDepth 20000 in
theorem gX4_isOpen_X7_isSegment_n21 : GoodIn wsX4_isOpen (wsX7_isSegment) := ggX4_isOpen_X7_isSegment
theorem dX4_isOpen_0 : decode cX4_isOpen 0 = .ok (.iload_n 1, 1) := by decide +kernel
theorem dX4_isOpen_1 : decode cX4_isOpen 1 = .ok (.invokestatic 21, 3) := by decide +kernel
theorem dX4_isOpen_4 : decode cX4_isOpen 4 = .ok (.ifCond .eq 16, 3) := by decide +kernel
theorem dX4_isOpen_7 : decode cX4_isOpen 7 = .ok (.aload_n 0, 1) := by decide +kernel
theorem dX4_isOpen_8 : decode cX4_isOpen 8 = .ok (.getfield 15, 3) := by decide +kernel
theorem dX4_isOpen_11 : decode cX4_isOpen 11 = .ok (.iload_n 1, 1) := by decide +kernel
theorem dX4_isOpen_12 : decode cX4_isOpen 12 = .ok (.baload, 1) := by decide +kernel
theorem dX4_isOpen_13 : decode cX4_isOpen 13 = .ok (.ifCond .eq 7, 3) := by decide +kernel
theorem dX4_isOpen_16 : decode cX4_isOpen 16 = .ok (.iconst 1, 1) := by decide +kernel
theorem dX4_isOpen_17 : decode cX4_isOpen 17 = .ok (.goto 4, 3) := by decide +kernel
theorem dX4_isOpen_20 : decode cX4_isOpen 20 = .ok (.iconst 0, 1) := by decide +kernel
theorem dX4_isOpen_21 : decode cX4_isOpen 21 = .ok (.ireturn, 1) := by decide +kernel
theorem dX5_init_0 : decode cX5_init 0 = .ok (.aload_n 0, 1) := by decide +kernel
theorem dX5_init_1 : decode cX5_init 1 = .ok (.invokespecial 3, 3) := by decide +kernel
theorem dX5_init_4 : decode cX5_init 4 = .ok (.aload_n 0, 1) := by decide +kernel
theorem dX5_init_5 : decode cX5_init 5 = .ok (.iconst 3, 1) := by decide +kernel
theorem dX5_init_6 : decode cX5_init 6 = .ok (.newarray .int, 2) := by decide +kernel
theorem dX5_init_8 : decode cX5_init 8 = .ok (.putfield 9, 3) := by decide +kernel
theorem dX5_init_11 : decode cX5_init 11 = .ok (.aload_n 0, 1) := by decide +kernel
theorem dX5_init_12 : decode cX5_init 12 = .ok (.iconst 3, 1) := by decide +kernel
theorem dX5_init_13 : decode cX5_init 13 = .ok (.newarray .int, 2) := by decide +kernel
theorem dX5_init_15 : decode cX5_init 15 = .ok (.putfield 15, 3) := by decide +kernel
theorem dX5_init_18 : decode cX5_init 18 = .ok (.aload_n 0, 1) := by decide +kernel
theorem dX5_init_19 : decode cX5_init 19 = .ok (.iconst 3, 1) := by decide +kernel
theorem dX5_init_20 : decode cX5_init 20 = .ok (.newarray .boolean, 2) := by decide +kernel
theorem dX5_init_22 : decode cX5_init 22 = .ok (.putfield 18, 3) := by decide +kernel
theorem dX5_init_25 : decode cX5_init 25 = .ok (.return_, 1) := by decide +kernel
set_option maxRecDepth 20000 in
theorem ggX5_turn_X5_oneNearer : GoodIn wsX5_turn wsX5_oneNearer := goodIn_r _ [7, 8, 9, 10, 11] (by decide +kernel) (by decide +kernel)
set_option maxRecDepth 20000 in
theorem gX5_turn_X5_oneNearer : GoodIn wsX5_turn (va_wsS RX5 22 yX5_oneNearer wsX5_oneNearer) := goodIn_app (goodIn_of _ (by decide +kernel)) ggX5_turn_X5_oneNearer
theorem dX5_turn_0 : decode cX5_turn 0 = .ok (.iconst 0, 1) := by decide +kernel
theorem dX5_turn_1 : decode cX5_turn 1 = .ok (.istore_n 2, 1) := by decide +kernel
theorem dX5_turn_2 : decode cX5_turn 2 = .ok (.iload_n 2, 1) := by decide +kernel
theorem dX5_turn_3 : decode cX5_turn 3 = .ok (.iconst 3, 1) := by decide +kernel
theorem dX5_turn_4 : decode cX5_turn 4 = .ok (.if_icmp .ge 47, 3) := by decide +kernel
theorem dX5_turn_7 : decode cX5_turn 7 = .ok (.aload_n 0, 1) := by decide +kernel
theorem dX5_turn_8 : decode cX5_turn 8 = .ok (.getfield 18, 3) := by decide +kernel
theorem dX5_turn_11 : decode cX5_turn 11 = .ok (.iload_n 2, 1) := by decide +kernel
theorem dX5_turn_12 : decode cX5_turn 12 = .ok (.baload, 1) := by decide +kernel
theorem dX5_turn_13 : decode cX5_turn 13 = .ok (.ifCond .ne 32, 3) := by decide +kernel
theorem dX5_turn_16 : decode cX5_turn 16 = .ok (.aload_n 0, 1) := by decide +kernel
theorem dX5_turn_17 : decode cX5_turn 17 = .ok (.getfield 15, 3) := by decide +kernel
theorem dX5_turn_20 : decode cX5_turn 20 = .ok (.iload_n 2, 1) := by decide +kernel
theorem dX5_turn_21 : decode cX5_turn 21 = .ok (.aload_n 0, 1) := by decide +kernel
theorem dX5_turn_22 : decode cX5_turn 22 = .ok (.getfield 15, 3) := by decide +kernel
theorem dX5_turn_25 : decode cX5_turn 25 = .ok (.iload_n 2, 1) := by decide +kernel
theorem dX5_turn_26 : decode cX5_turn 26 = .ok (.iaload, 1) := by decide +kernel
theorem dX5_turn_27 : decode cX5_turn 27 = .ok (.iload_n 1, 1) := by decide +kernel
theorem dX5_turn_28 : decode cX5_turn 28 = .ok (.ifCond .eq 12, 3) := by decide +kernel
theorem dX5_turn_31 : decode cX5_turn 31 = .ok (.aload_n 0, 1) := by decide +kernel
theorem dX5_turn_32 : decode cX5_turn 32 = .ok (.getfield 9, 3) := by decide +kernel
theorem dX5_turn_35 : decode cX5_turn 35 = .ok (.iload_n 2, 1) := by decide +kernel
theorem dX5_turn_36 : decode cX5_turn 36 = .ok (.iaload, 1) := by decide +kernel
theorem dX5_turn_37 : decode cX5_turn 37 = .ok (.goto 4, 3) := by decide +kernel
theorem dX5_turn_40 : decode cX5_turn 40 = .ok (.iconst 0, 1) := by decide +kernel
theorem dX5_turn_41 : decode cX5_turn 41 = .ok (.invokestatic 22, 3) := by decide +kernel
theorem dX5_turn_44 : decode cX5_turn 44 = .ok (.iastore, 1) := by decide +kernel
theorem dX5_turn_45 : decode cX5_turn 45 = .ok (.iinc 2 1, 3) := by decide +kernel
theorem dX5_turn_48 : decode cX5_turn 48 = .ok (.goto (-46), 3) := by decide +kernel
theorem dX5_turn_51 : decode cX5_turn 51 = .ok (.return_, 1) := by decide +kernel
set_option maxRecDepth 20000 in
theorem ggX5_oneNearer_J6_compare_7cf53 : GoodIn wsX5_oneNearer wsJ6_compare_7cf53 := goodIn_r _ [4] (by decide +kernel) (by decide +kernel)
set_option maxRecDepth 20000 in
theorem gX5_oneNearer_J6_compare_7cf53 : GoodIn wsX5_oneNearer (va_wsS RX5 26 yJ6_compare_7cf53 wsJ6_compare_7cf53) := goodIn_app (goodIn_of _ (by decide +kernel)) ggX5_oneNearer_J6_compare_7cf53
theorem dX5_oneNearer_0 : decode cX5_oneNearer 0 = .ok (.iload_n 0, 1) := by decide +kernel
theorem dX5_oneNearer_1 : decode cX5_oneNearer 1 = .ok (.iload_n 1, 1) := by decide +kernel
theorem dX5_oneNearer_2 : decode cX5_oneNearer 2 = .ok (.iload_n 0, 1) := by decide +kernel
theorem dX5_oneNearer_3 : decode cX5_oneNearer 3 = .ok (.invokestatic 26, 3) := by decide +kernel
theorem dX5_oneNearer_6 : decode cX5_oneNearer 6 = .ok (.iadd, 1) := by decide +kernel
theorem dX5_oneNearer_7 : decode cX5_oneNearer 7 = .ok (.ireturn, 1) := by decide +kernel
theorem dX5_push_0 : decode cX5_push 0 = .ok (.iconst 0, 1) := by decide +kernel
theorem dX5_push_1 : decode cX5_push 1 = .ok (.istore_n 1, 1) := by decide +kernel
theorem dX5_push_2 : decode cX5_push 2 = .ok (.iconst 0, 1) := by decide +kernel
theorem dX5_push_3 : decode cX5_push 3 = .ok (.istore_n 2, 1) := by decide +kernel
theorem dX5_push_4 : decode cX5_push 4 = .ok (.iload_n 2, 1) := by decide +kernel
theorem dX5_push_5 : decode cX5_push 5 = .ok (.iconst 3, 1) := by decide +kernel
theorem dX5_push_6 : decode cX5_push 6 = .ok (.if_icmp .ge 18, 3) := by decide +kernel
theorem dX5_push_9 : decode cX5_push 9 = .ok (.iload_n 1, 1) := by decide +kernel
theorem dX5_push_10 : decode cX5_push 10 = .ok (.aload_n 0, 1) := by decide +kernel
theorem dX5_push_11 : decode cX5_push 11 = .ok (.getfield 15, 3) := by decide +kernel
theorem dX5_push_14 : decode cX5_push 14 = .ok (.iload_n 2, 1) := by decide +kernel
theorem dX5_push_15 : decode cX5_push 15 = .ok (.iaload, 1) := by decide +kernel
theorem dX5_push_16 : decode cX5_push 16 = .ok (.iadd, 1) := by decide +kernel
theorem dX5_push_17 : decode cX5_push 17 = .ok (.istore_n 1, 1) := by decide +kernel
theorem dX5_push_18 : decode cX5_push 18 = .ok (.iinc 2 1, 3) := by decide +kernel
theorem dX5_push_21 : decode cX5_push 21 = .ok (.goto (-17), 3) := by decide +kernel
theorem dX5_push_24 : decode cX5_push 24 = .ok (.iload_n 1, 1) := by decide +kernel
theorem dX5_push_25 : decode cX5_push 25 = .ok (.ireturn, 1) := by decide +kernel
set_option maxRecDepth 20000 in
theorem ggX5_order_X5_isFan : GoodIn wsX5_order wsX5_isFan := goodIn_r _ [5] (by decide +kernel) (by decide +kernel)
set_option maxRecDepth 20000 in
theorem gX5_order_X5_isFan : GoodIn wsX5_order (va_wsS RX5 31 yX5_isFan wsX5_isFan) := goodIn_app (goodIn_of _ (by decide +kernel)) ggX5_order_X5_isFan
theorem dX5_order_0 : decode cX5_order 0 = .ok (.iload_n 1, 1) := by decide +kernel
theorem dX5_order_1 : decode cX5_order 1 = .ok (.invokestatic 31, 3) := by decide +kernel
theorem dX5_order_4 : decode cX5_order 4 = .ok (.ifCond .ne 5, 3) := by decide +kernel
theorem dX5_order_7 : decode cX5_order 7 = .ok (.iconst 0, 1) := by decide +kernel
theorem dX5_order_8 : decode cX5_order 8 = .ok (.ireturn, 1) := by decide +kernel
theorem dX5_order_9 : decode cX5_order 9 = .ok (.aload_n 0, 1) := by decide +kernel
theorem dX5_order_10 : decode cX5_order 10 = .ok (.getfield 9, 3) := by decide +kernel
