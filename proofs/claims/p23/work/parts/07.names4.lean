theorem dX7_tellingIn_60 : decode cX7_tellingIn 60 = .ok (.aload_n 0, 1) := by decide +kernel
theorem dX7_tellingIn_61 : decode cX7_tellingIn 61 = .ok (.iload_n 1, 1) := by decide +kernel
theorem dX7_tellingIn_62 : decode cX7_tellingIn 62 = .ok (.iconst 2, 1) := by decide +kernel
theorem dX7_tellingIn_63 : decode cX7_tellingIn 63 = .ok (.invokevirtual 269, 3) := by decide +kernel
theorem dX7_tellingIn_66 : decode cX7_tellingIn 66 = .ok (.ifCond .eq 17, 3) := by decide +kernel
theorem dX7_tellingIn_69 : decode cX7_tellingIn 69 = .ok (.aload_n 0, 1) := by decide +kernel
theorem dX7_tellingIn_70 : decode cX7_tellingIn 70 = .ok (.getfield 54, 3) := by decide +kernel
theorem dX7_tellingIn_73 : decode cX7_tellingIn 73 = .ok (.iload_n 1, 1) := by decide +kernel
theorem dX7_tellingIn_74 : decode cX7_tellingIn 74 = .ok (.invokevirtual 163, 3) := by decide +kernel
theorem dX7_tellingIn_77 : decode cX7_tellingIn 77 = .ok (.ifCond .le 6, 3) := by decide +kernel
theorem dX7_tellingIn_80 : decode cX7_tellingIn 80 = .ok (.iinc 3 1, 3) := by decide +kernel
theorem dX7_tellingIn_83 : decode cX7_tellingIn 83 = .ok (.iload_n 3, 1) := by decide +kernel
theorem dX7_tellingIn_84 : decode cX7_tellingIn 84 = .ok (.ireturn, 1) := by decide +kernel
theorem dX7_detectorWorks_0 : decode cX7_detectorWorks 0 = .ok (.iload_n 1, 1) := by decide +kernel
theorem dX7_detectorWorks_1 : decode cX7_detectorWorks 1 = .ok (.iconst 3, 1) := by decide +kernel
theorem dX7_detectorWorks_2 : decode cX7_detectorWorks 2 = .ok (.imul, 1) := by decide +kernel
theorem dX7_detectorWorks_3 : decode cX7_detectorWorks 3 = .ok (.iload_n 2, 1) := by decide +kernel
theorem dX7_detectorWorks_4 : decode cX7_detectorWorks 4 = .ok (.iadd, 1) := by decide +kernel
theorem dX7_detectorWorks_5 : decode cX7_detectorWorks 5 = .ok (.istore_n 3, 1) := by decide +kernel
theorem dX7_detectorWorks_6 : decode cX7_detectorWorks 6 = .ok (.iload_n 3, 1) := by decide +kernel
theorem dX7_detectorWorks_7 : decode cX7_detectorWorks 7 = .ok (.ifCond .lt 25, 3) := by decide +kernel
theorem dX7_detectorWorks_10 : decode cX7_detectorWorks 10 = .ok (.iload_n 3, 1) := by decide +kernel
theorem dX7_detectorWorks_11 : decode cX7_detectorWorks 11 = .ok (.aload_n 0, 1) := by decide +kernel
theorem dX7_detectorWorks_12 : decode cX7_detectorWorks 12 = .ok (.getfield 62, 3) := by decide +kernel
theorem dX7_detectorWorks_15 : decode cX7_detectorWorks 15 = .ok (.arraylength, 1) := by decide +kernel
theorem dX7_detectorWorks_16 : decode cX7_detectorWorks 16 = .ok (.if_icmp .ge 16, 3) := by decide +kernel
theorem dX7_detectorWorks_19 : decode cX7_detectorWorks 19 = .ok (.aload_n 0, 1) := by decide +kernel
theorem dX7_detectorWorks_20 : decode cX7_detectorWorks 20 = .ok (.getfield 62, 3) := by decide +kernel
theorem dX7_detectorWorks_23 : decode cX7_detectorWorks 23 = .ok (.iload_n 3, 1) := by decide +kernel
theorem dX7_detectorWorks_24 : decode cX7_detectorWorks 24 = .ok (.baload, 1) := by decide +kernel
theorem dX7_detectorWorks_25 : decode cX7_detectorWorks 25 = .ok (.ifCond .ne 7, 3) := by decide +kernel
theorem dX7_detectorWorks_28 : decode cX7_detectorWorks 28 = .ok (.iconst 1, 1) := by decide +kernel
theorem dX7_detectorWorks_29 : decode cX7_detectorWorks 29 = .ok (.goto 4, 3) := by decide +kernel
theorem dX7_detectorWorks_32 : decode cX7_detectorWorks 32 = .ok (.iconst 0, 1) := by decide +kernel
theorem dX7_detectorWorks_33 : decode cX7_detectorWorks 33 = .ok (.ireturn, 1) := by decide +kernel
set_option maxRecDepth 20000 in
theorem ggX7_doorAnswer_X4_isThere : GoodIn wsX7_doorAnswer wsX4_isThere := goodIn_r _ [6, 7, 8, 9, 10, 30, 31, 32] (by decide +kernel) (by decide +kernel)
set_option maxRecDepth 20000 in
theorem gX7_doorAnswer_X4_isThere : GoodIn wsX7_doorAnswer (wsV RX7 273 RX4 yX4_isThere wsX4_isThere) := goodIn_app (goodIn_of _ (by decide +kernel)) ggX7_doorAnswer_X4_isThere
set_option maxRecDepth 20000 in
theorem ggX7_doorAnswer_X4_isOpen : GoodIn wsX7_doorAnswer wsX4_isOpen := goodIn_r _ [14, 15, 8, 9, 10, 30, 31, 32] (by decide +kernel) (by decide +kernel)
set_option maxRecDepth 20000 in
theorem gX7_doorAnswer_X4_isOpen : GoodIn wsX7_doorAnswer (wsV RX7 137 RX4 yX4_isOpen wsX4_isOpen) := goodIn_app (goodIn_of _ (by decide +kernel)) ggX7_doorAnswer_X4_isOpen
theorem dX7_doorAnswer_0 : decode cX7_doorAnswer 0 = .ok (.aload_n 0, 1) := by decide +kernel
theorem dX7_doorAnswer_1 : decode cX7_doorAnswer 1 = .ok (.getfield 40, 3) := by decide +kernel
theorem dX7_doorAnswer_4 : decode cX7_doorAnswer 4 = .ok (.iload_n 1, 1) := by decide +kernel
theorem dX7_doorAnswer_5 : decode cX7_doorAnswer 5 = .ok (.invokevirtual 273, 3) := by decide +kernel
theorem dX7_doorAnswer_8 : decode cX7_doorAnswer 8 = .ok (.ifCond .ne 5, 3) := by decide +kernel
theorem dX7_doorAnswer_11 : decode cX7_doorAnswer 11 = .ok (.iconst (-1), 1) := by decide +kernel
theorem dX7_doorAnswer_12 : decode cX7_doorAnswer 12 = .ok (.ireturn, 1) := by decide +kernel
theorem dX7_doorAnswer_13 : decode cX7_doorAnswer 13 = .ok (.aload_n 0, 1) := by decide +kernel
theorem dX7_doorAnswer_14 : decode cX7_doorAnswer 14 = .ok (.getfield 40, 3) := by decide +kernel
theorem dX7_doorAnswer_17 : decode cX7_doorAnswer 17 = .ok (.iload_n 1, 1) := by decide +kernel
theorem dX7_doorAnswer_18 : decode cX7_doorAnswer 18 = .ok (.invokevirtual 137, 3) := by decide +kernel
theorem dX7_doorAnswer_21 : decode cX7_doorAnswer 21 = .ok (.ifCond .eq 7, 3) := by decide +kernel
theorem dX7_doorAnswer_24 : decode cX7_doorAnswer 24 = .ok (.iconst 1, 1) := by decide +kernel
theorem dX7_doorAnswer_25 : decode cX7_doorAnswer 25 = .ok (.goto 4, 3) := by decide +kernel
theorem dX7_doorAnswer_28 : decode cX7_doorAnswer 28 = .ok (.iconst 0, 1) := by decide +kernel
theorem dX7_doorAnswer_29 : decode cX7_doorAnswer 29 = .ok (.ireturn, 1) := by decide +kernel
set_option maxRecDepth 20000 in
theorem ggX7_requireDoor_X4_isThere : GoodIn wsX7_requireDoor wsX4_isThere := goodIn_r _ [8, 9, 10, 11, 12, 27, 28, 29] (by decide +kernel) (by decide +kernel)
set_option maxRecDepth 20000 in
theorem gX7_requireDoor_X4_isThere : GoodIn wsX7_requireDoor (wsV RX7 273 RX4 yX4_isThere wsX4_isThere) := goodIn_app (goodIn_of _ (by decide +kernel)) ggX7_requireDoor_X4_isThere
theorem dX7_requireDoor_0 : decode cX7_requireDoor 0 = .ok (.aload_n 0, 1) := by decide +kernel
theorem dX7_requireDoor_1 : decode cX7_requireDoor 1 = .ok (.getfield 40, 3) := by decide +kernel
theorem dX7_requireDoor_4 : decode cX7_requireDoor 4 = .ok (.iload_n 1, 1) := by decide +kernel
theorem dX7_requireDoor_5 : decode cX7_requireDoor 5 = .ok (.invokevirtual 273, 3) := by decide +kernel
theorem dX7_requireDoor_8 : decode cX7_requireDoor 8 = .ok (.ifCond .ne 14, 3) := by decide +kernel
theorem dX7_requireDoor_11 : decode cX7_requireDoor 11 = .ok (.new 276, 3) := by decide +kernel
theorem dX7_requireDoor_14 : decode cX7_requireDoor 14 = .ok (.dup, 1) := by decide +kernel
theorem dX7_requireDoor_15 : decode cX7_requireDoor 15 = .ok (.ldc_w 278, 3) := by decide +kernel
theorem dX7_requireDoor_18 : decode cX7_requireDoor 18 = .ok (.invokespecial 280, 3) := by decide +kernel
theorem dX7_requireDoor_21 : decode cX7_requireDoor 21 = .ok (.athrow, 1) := by decide +kernel
theorem dX7_requireDoor_22 : decode cX7_requireDoor 22 = .ok (.return_, 1) := by decide +kernel
set_option maxRecDepth 20000 in
theorem ggX7_requireSegment_X7_requireIndex : GoodIn wsX7_requireSegment wsX7_requireIndex := goodIn_ca (goodIn_r _ [4, 5, 6] (by decide +kernel) (by decide +kernel)) (goodIn_sub (fun _ h => List.mem_cons_of_mem _ (List.mem_append_right _ h)) (by decide +kernel))
set_option maxRecDepth 20000 in
theorem gX7_requireSegment_X7_requireIndex : GoodIn wsX7_requireSegment (va_wsS RX7 120 yX7_requireIndex wsX7_requireIndex) := goodIn_app (goodIn_of _ (by decide +kernel)) ggX7_requireSegment_X7_requireIndex
theorem dX7_requireSegment_0 : decode cX7_requireSegment 0 = .ok (.iload_n 0, 1) := by decide +kernel
theorem dX7_requireSegment_1 : decode cX7_requireSegment 1 = .ok (.bipush 12, 2) := by decide +kernel
theorem dX7_requireSegment_3 : decode cX7_requireSegment 3 = .ok (.invokestatic 120, 3) := by decide +kernel
theorem dX7_requireSegment_6 : decode cX7_requireSegment 6 = .ok (.return_, 1) := by decide +kernel
theorem dX7_requireIndex_0 : decode cX7_requireIndex 0 = .ok (.iload_n 0, 1) := by decide +kernel
theorem dX7_requireIndex_1 : decode cX7_requireIndex 1 = .ok (.ifCond .lt 8, 3) := by decide +kernel
theorem dX7_requireIndex_4 : decode cX7_requireIndex 4 = .ok (.iload_n 0, 1) := by decide +kernel
theorem dX7_requireIndex_5 : decode cX7_requireIndex 5 = .ok (.iload_n 1, 1) := by decide +kernel
theorem dX7_requireIndex_6 : decode cX7_requireIndex 6 = .ok (.if_icmp .lt 14, 3) := by decide +kernel
theorem dX7_requireIndex_9 : decode cX7_requireIndex 9 = .ok (.new 276, 3) := by decide +kernel
theorem dX7_requireIndex_12 : decode cX7_requireIndex 12 = .ok (.dup, 1) := by decide +kernel
theorem dX7_requireIndex_13 : decode cX7_requireIndex 13 = .ok (.ldc_w 283, 3) := by decide +kernel
theorem dX7_requireIndex_16 : decode cX7_requireIndex 16 = .ok (.invokespecial 280, 3) := by decide +kernel
theorem dX7_requireIndex_19 : decode cX7_requireIndex 19 = .ok (.athrow, 1) := by decide +kernel
theorem dX7_requireIndex_20 : decode cX7_requireIndex 20 = .ok (.return_, 1) := by decide +kernel
theorem dX7_requireRange_0 : decode cX7_requireRange 0 = .ok (.iload_n 0, 1) := by decide +kernel
theorem dX7_requireRange_1 : decode cX7_requireRange 1 = .ok (.iload_n 1, 1) := by decide +kernel
theorem dX7_requireRange_2 : decode cX7_requireRange 2 = .ok (.if_icmp .lt 8, 3) := by decide +kernel
theorem dX7_requireRange_5 : decode cX7_requireRange 5 = .ok (.iload_n 0, 1) := by decide +kernel
theorem dX7_requireRange_6 : decode cX7_requireRange 6 = .ok (.iload_n 2, 1) := by decide +kernel
theorem dX7_requireRange_7 : decode cX7_requireRange 7 = .ok (.if_icmp .le 14, 3) := by decide +kernel
theorem dX7_requireRange_10 : decode cX7_requireRange 10 = .ok (.new 285, 3) := by decide +kernel
theorem dX7_requireRange_13 : decode cX7_requireRange 13 = .ok (.dup, 1) := by decide +kernel
theorem dX7_requireRange_14 : decode cX7_requireRange 14 = .ok (.ldc_w 287, 3) := by decide +kernel
theorem dX7_requireRange_17 : decode cX7_requireRange 17 = .ok (.invokespecial 289, 3) := by decide +kernel
theorem dX7_requireRange_20 : decode cX7_requireRange 20 = .ok (.athrow, 1) := by decide +kernel
theorem dX7_requireRange_21 : decode cX7_requireRange 21 = .ok (.return_, 1) := by decide +kernel
theorem dX7_requireState_0 : decode cX7_requireState 0 = .ok (.iload_n 0, 1) := by decide +kernel
theorem dX7_requireState_1 : decode cX7_requireState 1 = .ok (.ifCond .ne 14, 3) := by decide +kernel
theorem dX7_requireState_4 : decode cX7_requireState 4 = .ok (.new 290, 3) := by decide +kernel
theorem dX7_requireState_7 : decode cX7_requireState 7 = .ok (.dup, 1) := by decide +kernel
theorem dX7_requireState_8 : decode cX7_requireState 8 = .ok (.ldc_w 292, 3) := by decide +kernel
theorem dX7_requireState_11 : decode cX7_requireState 11 = .ok (.invokespecial 294, 3) := by decide +kernel
theorem dX7_requireState_14 : decode cX7_requireState 14 = .ok (.athrow, 1) := by decide +kernel
theorem dX7_requireState_15 : decode cX7_requireState 15 = .ok (.return_, 1) := by decide +kernel
theorem dX7_isSegment_0 : decode cX7_isSegment 0 = .ok (.iload_n 0, 1) := by decide +kernel
theorem dX7_isSegment_1 : decode cX7_isSegment 1 = .ok (.ifCond .lt 13, 3) := by decide +kernel
theorem dX7_isSegment_4 : decode cX7_isSegment 4 = .ok (.iload_n 0, 1) := by decide +kernel
theorem dX7_isSegment_5 : decode cX7_isSegment 5 = .ok (.bipush 12, 2) := by decide +kernel
theorem dX7_isSegment_7 : decode cX7_isSegment 7 = .ok (.if_icmp .ge 7, 3) := by decide +kernel
theorem dX7_isSegment_10 : decode cX7_isSegment 10 = .ok (.iconst 1, 1) := by decide +kernel
theorem dX7_isSegment_11 : decode cX7_isSegment 11 = .ok (.goto 4, 3) := by decide +kernel
theorem dX7_isSegment_14 : decode cX7_isSegment 14 = .ok (.iconst 0, 1) := by decide +kernel
theorem dX7_isSegment_15 : decode cX7_isSegment 15 = .ok (.ireturn, 1) := by decide +kernel
theorem dJ6_compare_7cf53_0 : decode cJ6_compare_7cf53 0 = .ok (.iload_n 0, 1) := by decide +kernel
theorem dJ6_compare_7cf53_1 : decode cJ6_compare_7cf53 1 = .ok (.iload_n 1, 1) := by decide +kernel
theorem dJ6_compare_7cf53_2 : decode cJ6_compare_7cf53 2 = .ok (.if_icmp .ge 7, 3) := by decide +kernel
theorem dJ6_compare_7cf53_5 : decode cJ6_compare_7cf53 5 = .ok (.iconst (-1), 1) := by decide +kernel
theorem dJ6_compare_7cf53_6 : decode cJ6_compare_7cf53 6 = .ok (.goto 13, 3) := by decide +kernel
theorem dJ6_compare_7cf53_9 : decode cJ6_compare_7cf53 9 = .ok (.iload_n 0, 1) := by decide +kernel
theorem dJ6_compare_7cf53_10 : decode cJ6_compare_7cf53 10 = .ok (.iload_n 1, 1) := by decide +kernel
theorem dJ6_compare_7cf53_11 : decode cJ6_compare_7cf53 11 = .ok (.if_icmp .ne 7, 3) := by decide +kernel
theorem dJ6_compare_7cf53_14 : decode cJ6_compare_7cf53 14 = .ok (.iconst 0, 1) := by decide +kernel
theorem dJ6_compare_7cf53_15 : decode cJ6_compare_7cf53 15 = .ok (.goto 4, 3) := by decide +kernel
theorem dJ6_compare_7cf53_18 : decode cJ6_compare_7cf53 18 = .ok (.iconst 1, 1) := by decide +kernel
theorem dJ6_compare_7cf53_19 : decode cJ6_compare_7cf53 19 = .ok (.ireturn, 1) := by decide +kernel
theorem dJ9_abs_0f7a4_0 : decode cJ9_abs_0f7a4 0 = .ok (.iload_n 0, 1) := by decide +kernel
theorem dJ9_abs_0f7a4_1 : decode cJ9_abs_0f7a4 1 = .ok (.ifCond .ge 8, 3) := by decide +kernel
theorem dJ9_abs_0f7a4_4 : decode cJ9_abs_0f7a4 4 = .ok (.iload_n 0, 1) := by decide +kernel
theorem dJ9_abs_0f7a4_5 : decode cJ9_abs_0f7a4 5 = .ok (.ineg, 1) := by decide +kernel
theorem dJ9_abs_0f7a4_6 : decode cJ9_abs_0f7a4 6 = .ok (.goto 4, 3) := by decide +kernel
theorem dJ9_abs_0f7a4_9 : decode cJ9_abs_0f7a4 9 = .ok (.iload_n 0, 1) := by decide +kernel
theorem dJ9_abs_0f7a4_10 : decode cJ9_abs_0f7a4 10 = .ok (.ireturn, 1) := by decide +kernel
theorem dJ9_min_f86c9_0 : decode cJ9_min_f86c9 0 = .ok (.lload_n 0, 1) := by decide +kernel
theorem dJ9_min_f86c9_1 : decode cJ9_min_f86c9 1 = .ok (.lload_n 2, 1) := by decide +kernel
theorem dJ9_min_f86c9_2 : decode cJ9_min_f86c9 2 = .ok (.lcmp, 1) := by decide +kernel
theorem dJ9_min_f86c9_3 : decode cJ9_min_f86c9 3 = .ok (.ifCond .gt 7, 3) := by decide +kernel
theorem dJ9_min_f86c9_6 : decode cJ9_min_f86c9 6 = .ok (.lload_n 0, 1) := by decide +kernel
theorem dJ9_min_f86c9_7 : decode cJ9_min_f86c9 7 = .ok (.goto 4, 3) := by decide +kernel
theorem dJ9_min_f86c9_10 : decode cJ9_min_f86c9 10 = .ok (.lload_n 2, 1) := by decide +kernel
theorem dJ9_min_f86c9_11 : decode cJ9_min_f86c9 11 = .ok (.lreturn, 1) := by decide +kernel
theorem dL_drawn_0 : decode cL_drawn 0 = .ok (.iload_n 1, 1) := by decide +kernel
theorem dL_drawn_1 : decode cL_drawn 1 = .ok (.aload_n 0, 1) := by decide +kernel
theorem dL_drawn_2 : decode cL_drawn 2 = .ok (.arraylength, 1) := by decide +kernel
theorem dL_drawn_3 : decode cL_drawn 3 = .ok (.if_icmp .ge 9, 3) := by decide +kernel
theorem dL_drawn_6 : decode cL_drawn 6 = .ok (.aload_n 0, 1) := by decide +kernel
theorem dL_drawn_7 : decode cL_drawn 7 = .ok (.iload_n 1, 1) := by decide +kernel
theorem dL_drawn_8 : decode cL_drawn 8 = .ok (.iaload, 1) := by decide +kernel
theorem dL_drawn_9 : decode cL_drawn 9 = .ok (.goto 15, 3) := by decide +kernel
theorem dL_drawn_12 : decode cL_drawn 12 = .ok (.ldc 7, 2) := by decide +kernel
theorem dL_drawn_14 : decode cL_drawn 14 = .ok (.iload_n 1, 1) := by decide +kernel
theorem dL_drawn_15 : decode cL_drawn 15 = .ok (.sipush 7919, 3) := by decide +kernel
theorem dL_drawn_18 : decode cL_drawn 18 = .ok (.irem, 1) := by decide +kernel
theorem dL_drawn_19 : decode cL_drawn 19 = .ok (.imul, 1) := by decide +kernel
theorem dL_drawn_20 : decode cL_drawn 20 = .ok (.sipush 5077, 3) := by decide +kernel
theorem dL_drawn_23 : decode cL_drawn 23 = .ok (.iadd, 1) := by decide +kernel
theorem dL_drawn_24 : decode cL_drawn 24 = .ok (.ldc 8, 2) := by decide +kernel
theorem dL_drawn_26 : decode cL_drawn 26 = .ok (.iand, 1) := by decide +kernel
theorem dL_drawn_27 : decode cL_drawn 27 = .ok (.ireturn, 1) := by decide +kernel
set_option maxRecDepth 20000 in
theorem ggL_build_X7_build : GoodIn wsL_build wsX7_build := goodIn_ca (goodIn_ca (goodIn_ca (goodIn_r _ [8, 9, 10, 11, 12, 13, 14, 7, 15, 16, 17, 18, 19, 20, 21, 22, 23, 24, 25, 26, 27, 28, 29, 30, 31, 32, 33, 34, 35, 36, 37, 38, 39, 40, 41, 42, 43, 44, 45, 46, 47, 48, 49, 50, 51, 52, 53, 54, 55] (by decide +kernel) (by decide +kernel)) (goodIn_sub (fun _ h => List.mem_cons_of_mem _ (List.mem_append_left _ (List.mem_append_left _ (List.mem_append_right _ h)))) (by decide +kernel))) (goodIn_sub (fun _ h => List.mem_cons_of_mem _ (List.mem_append_left _ (List.mem_append_right _ h))) (by decide +kernel))) (goodIn_sub (fun _ h => List.mem_cons_of_mem _ (List.mem_append_right _ h)) (by decide +kernel))
set_option maxRecDepth 20000 in
theorem gL_build_X7_build : GoodIn wsL_build (wsV RL 9 RX7 yX7_build wsX7_build) := goodIn_app (goodIn_of _ (by decide +kernel)) ggL_build_X7_build
theorem dL_build_0 : decode cL_build 0 = .ok (.aload_n 0, 1) := by decide +kernel
theorem dL_build_1 : decode cL_build 1 = .ok (.iload_n 1, 1) := by decide +kernel
theorem dL_build_2 : decode cL_build 2 = .ok (.iload_n 2, 1) := by decide +kernel
theorem dL_build_3 : decode cL_build 3 = .ok (.invokevirtual 9, 3) := by decide +kernel
theorem dL_build_6 : decode cL_build 6 = .ok (.iconst 0, 1) := by decide +kernel
theorem dL_build_7 : decode cL_build 7 = .ok (.ireturn, 1) := by decide +kernel
theorem dL_build_8 : decode cL_build 8 = .ok (.astore_n 3, 1) := by decide +kernel
theorem dL_build_9 : decode cL_build 9 = .ok (.bipush (-101), 2) := by decide +kernel
theorem dL_build_11 : decode cL_build 11 = .ok (.ireturn, 1) := by decide +kernel
theorem dL_build_12 : decode cL_build 12 = .ok (.astore_n 3, 1) := by decide +kernel
theorem dL_build_13 : decode cL_build 13 = .ok (.bipush (-102), 2) := by decide +kernel
theorem dL_build_15 : decode cL_build 15 = .ok (.ireturn, 1) := by decide +kernel
theorem dL_build_16 : decode cL_build 16 = .ok (.astore_n 3, 1) := by decide +kernel
theorem dL_build_17 : decode cL_build 17 = .ok (.bipush (-103), 2) := by decide +kernel
theorem dL_build_19 : decode cL_build 19 = .ok (.ireturn, 1) := by decide +kernel
set_option maxRecDepth 20000 in
theorem ggL_people_X7_people : GoodIn wsL_people wsX7_people := goodIn_ca (goodIn_ca (goodIn_ca (goodIn_r _ [8, 9, 10, 11, 7, 12, 13, 14, 15, 16, 17, 18, 19, 20, 21, 22, 23, 24, 25, 26, 27, 28, 29, 30, 31, 32, 33, 34, 35, 36, 37, 38, 39, 40, 41, 42, 43, 44, 45, 46, 47, 48, 49, 50, 51, 52, 53, 54, 55, 56, 57, 58, 59, 60, 61, 62, 63] (by decide +kernel) (by decide +kernel)) (goodIn_sub (fun _ h => List.mem_cons_of_mem _ (List.mem_append_left _ (List.mem_append_left _ (List.mem_append_right _ h)))) (by decide +kernel))) (goodIn_sub (fun _ h => List.mem_cons_of_mem _ (List.mem_append_left _ (List.mem_append_right _ h))) (by decide +kernel))) (goodIn_sub (fun _ h => List.mem_cons_of_mem _ (List.mem_append_right _ h)) (by decide +kernel))
set_option maxRecDepth 20000 in
theorem gL_people_X7_people : GoodIn wsL_people (wsV RL 21 RX7 yX7_people wsX7_people) := goodIn_app (goodIn_of _ (by decide +kernel)) ggL_people_X7_people
theorem dL_people_0 : decode cL_people 0 = .ok (.aload_n 0, 1) := by decide +kernel
theorem dL_people_1 : decode cL_people 1 = .ok (.iload_n 1, 1) := by decide +kernel
theorem dL_people_2 : decode cL_people 2 = .ok (.iload_n 2, 1) := by decide +kernel
theorem dL_people_3 : decode cL_people 3 = .ok (.invokevirtual 21, 3) := by decide +kernel
theorem dL_people_6 : decode cL_people 6 = .ok (.ireturn, 1) := by decide +kernel
theorem dL_people_7 : decode cL_people 7 = .ok (.astore_n 3, 1) := by decide +kernel
theorem dL_people_8 : decode cL_people 8 = .ok (.bipush (-101), 2) := by decide +kernel
theorem dL_people_10 : decode cL_people 10 = .ok (.ireturn, 1) := by decide +kernel
theorem dL_people_11 : decode cL_people 11 = .ok (.astore_n 3, 1) := by decide +kernel
theorem dL_people_12 : decode cL_people 12 = .ok (.bipush (-102), 2) := by decide +kernel
theorem dL_people_14 : decode cL_people 14 = .ok (.ireturn, 1) := by decide +kernel
theorem dL_people_15 : decode cL_people 15 = .ok (.astore_n 3, 1) := by decide +kernel
theorem dL_people_16 : decode cL_people 16 = .ok (.bipush (-103), 2) := by decide +kernel
theorem dL_people_18 : decode cL_people 18 = .ok (.ireturn, 1) := by decide +kernel
set_option maxRecDepth 20000 in
theorem ggL_wind_X7_wind : GoodIn wsL_wind wsX7_wind := goodIn_ca (goodIn_r _ [6, 7, 8, 9, 5, 10, 11, 12, 13, 14, 15, 16, 17, 18, 19, 20, 21, 22, 23, 24, 25, 26, 27, 28, 29, 30, 31, 32, 33, 34, 35] (by decide +kernel) (by decide +kernel)) (goodIn_sub (fun _ h => List.mem_cons_of_mem _ (List.mem_append_right _ h)) (by decide +kernel))
set_option maxRecDepth 20000 in
theorem gL_wind_X7_wind : GoodIn wsL_wind (wsV RL 25 RX7 yX7_wind wsX7_wind) := goodIn_app (goodIn_of _ (by decide +kernel)) ggL_wind_X7_wind
theorem dL_wind_0 : decode cL_wind 0 = .ok (.aload_n 0, 1) := by decide +kernel
theorem dL_wind_1 : decode cL_wind 1 = .ok (.iload_n 1, 1) := by decide +kernel
theorem dL_wind_2 : decode cL_wind 2 = .ok (.invokevirtual 25, 3) := by decide +kernel
theorem dL_wind_5 : decode cL_wind 5 = .ok (.ireturn, 1) := by decide +kernel
theorem dL_wind_6 : decode cL_wind 6 = .ok (.astore_n 2, 1) := by decide +kernel
theorem dL_wind_7 : decode cL_wind 7 = .ok (.bipush (-102), 2) := by decide +kernel
theorem dL_wind_9 : decode cL_wind 9 = .ok (.ireturn, 1) := by decide +kernel
set_option maxRecDepth 20000 in
theorem ggL_fire_X7_fire : GoodIn wsL_fire wsX7_fire := goodIn_ca (goodIn_ca (goodIn_ca (goodIn_r _ [8, 9, 10, 11, 7, 12, 13, 14, 15, 16, 17, 18, 19, 20, 21, 22, 23, 24, 25, 26, 27, 28, 29, 30, 31, 32, 33, 34, 35, 36, 37, 38, 39, 40, 41, 42, 43, 44, 45, 46, 47, 48, 49, 50, 51, 52, 53, 54, 55, 56, 57, 58] (by decide +kernel) (by decide +kernel)) (goodIn_sub (fun _ h => List.mem_cons_of_mem _ (List.mem_append_left _ (List.mem_append_left _ (List.mem_append_right _ h)))) (by decide +kernel))) (goodIn_sub (fun _ h => List.mem_cons_of_mem _ (List.mem_append_left _ (List.mem_append_right _ h))) (by decide +kernel))) (goodIn_sub (fun _ h => List.mem_cons_of_mem _ (List.mem_append_right _ h)) (by decide +kernel))
set_option maxRecDepth 20000 in
theorem gL_fire_X7_fire : GoodIn wsL_fire (wsV RL 29 RX7 yX7_fire wsX7_fire) := goodIn_app (goodIn_of _ (by decide +kernel)) ggL_fire_X7_fire
theorem dL_fire_0 : decode cL_fire 0 = .ok (.aload_n 0, 1) := by decide +kernel
theorem dL_fire_1 : decode cL_fire 1 = .ok (.iload_n 1, 1) := by decide +kernel
theorem dL_fire_2 : decode cL_fire 2 = .ok (.iload_n 2, 1) := by decide +kernel
theorem dL_fire_3 : decode cL_fire 3 = .ok (.invokevirtual 29, 3) := by decide +kernel
theorem dL_fire_6 : decode cL_fire 6 = .ok (.iconst 0, 1) := by decide +kernel
theorem dL_fire_7 : decode cL_fire 7 = .ok (.ireturn, 1) := by decide +kernel
theorem dL_fire_8 : decode cL_fire 8 = .ok (.astore_n 3, 1) := by decide +kernel
theorem dL_fire_9 : decode cL_fire 9 = .ok (.bipush (-101), 2) := by decide +kernel
theorem dL_fire_11 : decode cL_fire 11 = .ok (.ireturn, 1) := by decide +kernel
theorem dL_fire_12 : decode cL_fire 12 = .ok (.astore_n 3, 1) := by decide +kernel
theorem dL_fire_13 : decode cL_fire 13 = .ok (.bipush (-102), 2) := by decide +kernel
theorem dL_fire_15 : decode cL_fire 15 = .ok (.ireturn, 1) := by decide +kernel
theorem dL_fire_16 : decode cL_fire 16 = .ok (.astore_n 3, 1) := by decide +kernel
theorem dL_fire_17 : decode cL_fire 17 = .ok (.bipush (-103), 2) := by decide +kernel
theorem dL_fire_19 : decode cL_fire 19 = .ok (.ireturn, 1) := by decide +kernel
set_option maxRecDepth 20000 in
theorem ggL_feed_X7_feed : GoodIn wsL_feed wsX7_feed := goodIn_ca (goodIn_r _ [6, 7, 8, 9, 5, 10, 11, 12, 13, 14, 15, 16, 17, 18, 19, 20, 21, 22, 23, 24, 25, 26, 27, 28, 29, 30] (by decide +kernel) (by decide +kernel)) (goodIn_sub (fun _ h => List.mem_cons_of_mem _ (List.mem_append_right _ h)) (by decide +kernel))
set_option maxRecDepth 20000 in
theorem gL_feed_X7_feed : GoodIn wsL_feed (wsV RL 32 RX7 yX7_feed wsX7_feed) := goodIn_app (goodIn_of _ (by decide +kernel)) ggL_feed_X7_feed
theorem dL_feed_0 : decode cL_feed 0 = .ok (.aload_n 0, 1) := by decide +kernel
theorem dL_feed_1 : decode cL_feed 1 = .ok (.iload_n 1, 1) := by decide +kernel
theorem dL_feed_2 : decode cL_feed 2 = .ok (.iload_n 2, 1) := by decide +kernel
theorem dL_feed_3 : decode cL_feed 3 = .ok (.invokevirtual 32, 3) := by decide +kernel
theorem dL_feed_6 : decode cL_feed 6 = .ok (.ifCond .eq 7, 3) := by decide +kernel
theorem dL_feed_9 : decode cL_feed 9 = .ok (.iconst 1, 1) := by decide +kernel
theorem dL_feed_10 : decode cL_feed 10 = .ok (.goto 4, 3) := by decide +kernel
theorem dL_feed_13 : decode cL_feed 13 = .ok (.iconst 0, 1) := by decide +kernel
theorem dL_feed_14 : decode cL_feed 14 = .ok (.ireturn, 1) := by decide +kernel
theorem dL_feed_15 : decode cL_feed 15 = .ok (.astore_n 3, 1) := by decide +kernel
theorem dL_feed_16 : decode cL_feed 16 = .ok (.bipush (-101), 2) := by decide +kernel
theorem dL_feed_18 : decode cL_feed 18 = .ok (.ireturn, 1) := by decide +kernel
set_option maxRecDepth 20000 in
theorem ggL_failFan_X7_failFan : GoodIn wsL_failFan wsX7_failFan := goodIn_ca (goodIn_r _ [6, 7, 8, 9, 5, 10, 11, 12, 13, 14, 15, 16, 17, 18, 19, 20, 21, 22, 23, 24, 25, 26, 27, 28, 29, 30, 31, 32, 33, 34, 35, 36, 37, 38, 39, 40, 41, 42, 43] (by decide +kernel) (by decide +kernel)) (goodIn_sub (fun _ h => List.mem_cons_of_mem _ (List.mem_append_right _ h)) (by decide +kernel))
set_option maxRecDepth 20000 in
theorem gL_failFan_X7_failFan : GoodIn wsL_failFan (wsV RL 36 RX7 yX7_failFan wsX7_failFan) := goodIn_app (goodIn_of _ (by decide +kernel)) ggL_failFan_X7_failFan
theorem dL_failFan_0 : decode cL_failFan 0 = .ok (.aload_n 0, 1) := by decide +kernel
theorem dL_failFan_1 : decode cL_failFan 1 = .ok (.iload_n 1, 1) := by decide +kernel
theorem dL_failFan_2 : decode cL_failFan 2 = .ok (.iload_n 2, 1) := by decide +kernel
theorem dL_failFan_3 : decode cL_failFan 3 = .ok (.invokevirtual 36, 3) := by decide +kernel
theorem dL_failFan_6 : decode cL_failFan 6 = .ok (.ireturn, 1) := by decide +kernel
theorem dL_failFan_7 : decode cL_failFan 7 = .ok (.astore_n 3, 1) := by decide +kernel
theorem dL_failFan_8 : decode cL_failFan 8 = .ok (.bipush (-101), 2) := by decide +kernel
theorem dL_failFan_10 : decode cL_failFan 10 = .ok (.ireturn, 1) := by decide +kernel
set_option maxRecDepth 20000 in
theorem ggL_failDoor_X7_failDoor : GoodIn wsL_failDoor wsX7_failDoor := goodIn_ca (goodIn_r _ [6, 7, 8, 9, 10, 5, 11, 12, 13, 14, 15, 16, 17, 18, 19, 20, 21, 22, 23, 24, 25, 26, 27, 28, 29, 30, 31, 32, 33, 34, 35, 36, 37, 38, 39, 40, 41, 42, 43, 44, 45, 46, 47, 48] (by decide +kernel) (by decide +kernel)) (goodIn_sub (fun _ h => List.mem_cons_of_mem _ (List.mem_append_right _ h)) (by decide +kernel))
set_option maxRecDepth 20000 in
theorem gL_failDoor_X7_failDoor : GoodIn wsL_failDoor (wsV RL 40 RX7 yX7_failDoor wsX7_failDoor) := goodIn_app (goodIn_of _ (by decide +kernel)) ggL_failDoor_X7_failDoor
theorem dL_failDoor_0 : decode cL_failDoor 0 = .ok (.aload_n 0, 1) := by decide +kernel
theorem dL_failDoor_1 : decode cL_failDoor 1 = .ok (.iload_n 1, 1) := by decide +kernel
theorem dL_failDoor_2 : decode cL_failDoor 2 = .ok (.iload_n 2, 1) := by decide +kernel
theorem dL_failDoor_3 : decode cL_failDoor 3 = .ok (.invokevirtual 40, 3) := by decide +kernel
theorem dL_failDoor_6 : decode cL_failDoor 6 = .ok (.ifCond .eq 7, 3) := by decide +kernel
theorem dL_failDoor_9 : decode cL_failDoor 9 = .ok (.iconst 1, 1) := by decide +kernel
theorem dL_failDoor_10 : decode cL_failDoor 10 = .ok (.goto 4, 3) := by decide +kernel
theorem dL_failDoor_13 : decode cL_failDoor 13 = .ok (.iconst 0, 1) := by decide +kernel
theorem dL_failDoor_14 : decode cL_failDoor 14 = .ok (.ireturn, 1) := by decide +kernel
theorem dL_failDoor_15 : decode cL_failDoor 15 = .ok (.astore_n 3, 1) := by decide +kernel
theorem dL_failDoor_16 : decode cL_failDoor 16 = .ok (.bipush (-101), 2) := by decide +kernel
theorem dL_failDoor_18 : decode cL_failDoor 18 = .ok (.ireturn, 1) := by decide +kernel
set_option maxRecDepth 20000 in
theorem ggL_failDetector_X7_failDetector : GoodIn wsL_failDetector wsX7_failDetector := goodIn_ca (goodIn_r _ [6, 7, 8, 9, 5, 10, 11, 12, 13, 14, 15, 16, 17, 18, 19, 20, 21, 22, 23, 24, 25, 26, 27, 28, 29] (by decide +kernel) (by decide +kernel)) (goodIn_sub (fun _ h => List.mem_cons_of_mem _ (List.mem_append_right _ h)) (by decide +kernel))
set_option maxRecDepth 20000 in
theorem gL_failDetector_X7_failDetector : GoodIn wsL_failDetector (wsV RL 43 RX7 yX7_failDetector wsX7_failDetector) := goodIn_app (goodIn_of _ (by decide +kernel)) ggL_failDetector_X7_failDetector
theorem dL_failDetector_0 : decode cL_failDetector 0 = .ok (.aload_n 0, 1) := by decide +kernel
theorem dL_failDetector_1 : decode cL_failDetector 1 = .ok (.iload_n 1, 1) := by decide +kernel
theorem dL_failDetector_2 : decode cL_failDetector 2 = .ok (.iload_n 2, 1) := by decide +kernel
theorem dL_failDetector_3 : decode cL_failDetector 3 = .ok (.iload_n 3, 1) := by decide +kernel
theorem dL_failDetector_4 : decode cL_failDetector 4 = .ok (.invokevirtual 43, 3) := by decide +kernel
theorem dL_failDetector_7 : decode cL_failDetector 7 = .ok (.iconst 0, 1) := by decide +kernel
theorem dL_failDetector_8 : decode cL_failDetector 8 = .ok (.ireturn, 1) := by decide +kernel
theorem dL_failDetector_9 : decode cL_failDetector 9 = .ok (.astore 4, 2) := by decide +kernel
theorem dL_failDetector_11 : decode cL_failDetector 11 = .ok (.bipush (-101), 2) := by decide +kernel
theorem dL_failDetector_13 : decode cL_failDetector 13 = .ok (.ireturn, 1) := by decide +kernel
set_option maxRecDepth 20000 in
theorem ggL_act_X7_act : GoodIn wsL_act wsX7_act := goodIn_ca (goodIn_ca (goodIn_r _ [7, 8, 9, 10, 11, 6, 12, 13, 14, 15, 16, 17, 18, 19, 20, 21, 22, 23, 24, 25, 26, 27, 28, 29, 30, 31, 32, 33, 34, 35, 36, 37, 38, 39, 40, 41, 42, 43, 44, 45, 46, 47, 48, 49, 50, 51, 52, 53] (by decide +kernel) (by decide +kernel)) (goodIn_sub (fun _ h => List.mem_cons_of_mem _ (List.mem_append_left _ (List.mem_append_right _ h))) (by decide +kernel))) (goodIn_sub (fun _ h => List.mem_cons_of_mem _ (List.mem_append_right _ h)) (by decide +kernel))
set_option maxRecDepth 20000 in
theorem gL_act_X7_act : GoodIn wsL_act (wsV RL 47 RX7 yX7_act wsX7_act) := goodIn_app (goodIn_of _ (by decide +kernel)) ggL_act_X7_act
theorem dL_act_0 : decode cL_act 0 = .ok (.aload_n 0, 1) := by decide +kernel
theorem dL_act_1 : decode cL_act 1 = .ok (.iload_n 1, 1) := by decide +kernel
theorem dL_act_2 : decode cL_act 2 = .ok (.iload_n 2, 1) := by decide +kernel
theorem dL_act_3 : decode cL_act 3 = .ok (.iload_n 3, 1) := by decide +kernel
theorem dL_act_4 : decode cL_act 4 = .ok (.invokevirtual 47, 3) := by decide +kernel
theorem dL_act_7 : decode cL_act 7 = .ok (.ireturn, 1) := by decide +kernel
theorem dL_act_8 : decode cL_act 8 = .ok (.astore 4, 2) := by decide +kernel
theorem dL_act_10 : decode cL_act 10 = .ok (.bipush (-102), 2) := by decide +kernel
theorem dL_act_12 : decode cL_act 12 = .ok (.ireturn, 1) := by decide +kernel
theorem dL_act_13 : decode cL_act 13 = .ok (.astore 4, 2) := by decide +kernel
theorem dL_act_15 : decode cL_act 15 = .ok (.bipush (-103), 2) := by decide +kernel
theorem dL_act_17 : decode cL_act 17 = .ok (.ireturn, 1) := by decide +kernel
set_option maxRecDepth 20000 in
theorem ggL_command_X7_command : GoodIn wsL_command wsX7_command := goodIn_ca (goodIn_ca (goodIn_r _ [7, 8, 9, 10, 6, 11, 12, 13, 14, 15, 16, 17, 18, 19, 20, 21, 22, 23, 24, 25, 26, 27, 28, 29, 30, 31, 32, 33, 34, 35, 36, 37, 38, 39, 40, 41, 42, 43, 44] (by decide +kernel) (by decide +kernel)) (goodIn_sub (fun _ h => List.mem_cons_of_mem _ (List.mem_append_left _ (List.mem_append_right _ h))) (by decide +kernel))) (goodIn_sub (fun _ h => List.mem_cons_of_mem _ (List.mem_append_right _ h)) (by decide +kernel))
set_option maxRecDepth 20000 in
theorem gL_command_X7_command : GoodIn wsL_command (wsV RL 51 RX7 yX7_command wsX7_command) := goodIn_app (goodIn_of _ (by decide +kernel)) ggL_command_X7_command
theorem dL_command_0 : decode cL_command 0 = .ok (.aload_n 0, 1) := by decide +kernel
theorem dL_command_1 : decode cL_command 1 = .ok (.iload_n 1, 1) := by decide +kernel
theorem dL_command_2 : decode cL_command 2 = .ok (.iload_n 2, 1) := by decide +kernel
theorem dL_command_3 : decode cL_command 3 = .ok (.invokevirtual 51, 3) := by decide +kernel
theorem dL_command_6 : decode cL_command 6 = .ok (.ireturn, 1) := by decide +kernel
theorem dL_command_7 : decode cL_command 7 = .ok (.astore_n 3, 1) := by decide +kernel
theorem dL_command_8 : decode cL_command 8 = .ok (.bipush (-101), 2) := by decide +kernel
theorem dL_command_10 : decode cL_command 10 = .ok (.ireturn, 1) := by decide +kernel
theorem dL_command_11 : decode cL_command 11 = .ok (.astore_n 3, 1) := by decide +kernel
theorem dL_command_12 : decode cL_command 12 = .ok (.bipush (-102), 2) := by decide +kernel
theorem dL_command_14 : decode cL_command 14 = .ok (.ireturn, 1) := by decide +kernel
set_option maxRecDepth 20000 in
theorem ggL_step_X7_step : GoodIn wsL_step wsX7_step := goodIn_ca (goodIn_r _ [6, 7, 8, 9, 5, 10, 11, 12, 13, 14, 15, 16, 17, 18, 19, 20, 21, 22, 23, 24, 25, 26, 27, 28, 29, 30, 31, 32, 33, 34, 35, 36, 37, 38, 39, 40, 41, 42, 43, 44, 45, 46, 47, 48, 49, 50, 51, 52, 53, 54, 55, 56, 57, 58, 59, 60, 61, 62, 63, 64, 65, 66, 67, 68, 69, 70, 71, 72, 73, 74, 75, 76, 77, 78, 79, 80, 81, 82, 83, 84, 85, 86, 87, 88, 89, 90, 91, 92, 93, 94, 95, 96, 97, 98, 99, 100, 101, 102, 103, 104, 105, 106, 107, 108, 109, 110, 111, 112, 113, 114, 115, 116, 117, 118, 119, 120, 121, 122, 123, 124, 125, 126, 127, 128, 129, 130, 131, 132, 133, 134, 135, 136, 137, 138, 139, 140, 141, 142, 143, 144, 145, 146, 147, 148, 149, 150, 151, 152, 153, 154, 155, 156, 157, 158, 159, 160, 161, 162, 163, 164, 165, 166, 167, 168, 169, 170, 171, 172, 173, 174, 175, 176, 177, 178, 179, 180, 181, 182, 183, 184, 185, 186, 187, 188, 189, 190, 191, 192, 193, 194, 195, 196, 197, 198, 199, 200, 201, 202, 203, 204, 205, 206, 207, 208, 209, 210, 211, 212, 213, 214, 215, 216, 217, 218, 219, 220, 221, 222, 223, 224, 225, 226, 227, 228, 229, 230, 231, 232, 233, 234, 235, 236, 237, 238, 239, 240, 241, 242, 243, 244, 245, 246, 247, 248, 249, 250, 251, 252, 253, 254, 255, 256, 257, 258, 259, 260, 261, 262, 263, 264, 265, 266, 267, 268, 269, 270, 271, 272, 273, 274, 275, 276, 277, 278, 279, 280, 281, 282, 283, 284, 285, 286, 287, 288, 289, 290, 291, 292, 293] (by decide +kernel) (by decide +kernel)) (goodIn_sub (fun _ h => List.mem_cons_of_mem _ (List.mem_append_right _ h)) (by decide +kernel))
set_option maxRecDepth 20000 in
theorem gL_step_X7_step : GoodIn wsL_step (wsV RL 54 RX7 yX7_step wsX7_step) := goodIn_app (goodIn_of _ (by decide +kernel)) ggL_step_X7_step
theorem dL_step_0 : decode cL_step 0 = .ok (.aload_n 0, 1) := by decide +kernel
theorem dL_step_1 : decode cL_step 1 = .ok (.iload_n 1, 1) := by decide +kernel
theorem dL_step_2 : decode cL_step 2 = .ok (.invokevirtual 54, 3) := by decide +kernel
theorem dL_step_5 : decode cL_step 5 = .ok (.ireturn, 1) := by decide +kernel
theorem dL_step_6 : decode cL_step 6 = .ok (.astore_n 2, 1) := by decide +kernel
theorem dL_step_7 : decode cL_step 7 = .ok (.bipush (-102), 2) := by decide +kernel
theorem dL_step_9 : decode cL_step 9 = .ok (.ireturn, 1) := by decide +kernel
set_option maxRecDepth 20000 in
theorem ggL_segment_X7_segment : GoodIn wsL_segment wsX7_segment := goodIn_ca (goodIn_ca (goodIn_r _ [7, 8, 9, 10, 11, 6, 12, 13, 14, 15, 16, 17, 18, 19, 20, 21, 22, 23, 24, 25, 26, 27, 28, 29, 30, 31, 32, 33, 34, 35, 36, 37, 38, 39, 40, 41, 42, 43, 44, 45, 46, 47, 48, 49, 50, 51, 52, 53, 54, 55, 56, 57, 58, 59, 60, 61, 62, 63, 64, 65, 66, 67, 68, 69, 70, 71, 72, 73, 74, 75, 76, 77, 78, 79, 80, 81, 82, 83, 84, 85, 86, 87, 88, 89, 90, 91, 92, 93] (by decide +kernel) (by decide +kernel)) (goodIn_sub (fun _ h => List.mem_cons_of_mem _ (List.mem_append_left _ (List.mem_append_right _ h))) (by decide +kernel))) (goodIn_sub (fun _ h => List.mem_cons_of_mem _ (List.mem_append_right _ h)) (by decide +kernel))
set_option maxRecDepth 20000 in
theorem gL_segment_X7_segment : GoodIn wsL_segment (wsV RL 57 RX7 yX7_segment wsX7_segment) := goodIn_app (goodIn_of _ (by decide +kernel)) ggL_segment_X7_segment
theorem dL_segment_0 : decode cL_segment 0 = .ok (.aload_n 0, 1) := by decide +kernel
theorem dL_segment_1 : decode cL_segment 1 = .ok (.iload_n 1, 1) := by decide +kernel
theorem dL_segment_2 : decode cL_segment 2 = .ok (.iload_n 2, 1) := by decide +kernel
theorem dL_segment_3 : decode cL_segment 3 = .ok (.invokevirtual 57, 3) := by decide +kernel
theorem dL_segment_6 : decode cL_segment 6 = .ok (.ireturn, 1) := by decide +kernel
theorem dL_segment_7 : decode cL_segment 7 = .ok (.astore_n 3, 1) := by decide +kernel
theorem dL_segment_8 : decode cL_segment 8 = .ok (.bipush (-101), 2) := by decide +kernel
theorem dL_segment_10 : decode cL_segment 10 = .ok (.ireturn, 1) := by decide +kernel
theorem dL_segment_11 : decode cL_segment 11 = .ok (.astore_n 3, 1) := by decide +kernel
theorem dL_segment_12 : decode cL_segment 12 = .ok (.bipush (-102), 2) := by decide +kernel
theorem dL_segment_14 : decode cL_segment 14 = .ok (.ireturn, 1) := by decide +kernel
set_option maxRecDepth 20000 in
theorem ggL_fan_X7_fan : GoodIn wsL_fan wsX7_fan := goodIn_ca (goodIn_r _ [6, 7, 8, 9, 5, 10, 11, 12, 13, 14, 15, 16, 17, 18, 19, 20, 21, 22, 23, 24, 25, 26, 27, 28, 29, 30, 31, 32, 33, 34, 35, 36, 37, 38] (by decide +kernel) (by decide +kernel)) (goodIn_sub (fun _ h => List.mem_cons_of_mem _ (List.mem_append_right _ h)) (by decide +kernel))
set_option maxRecDepth 20000 in
theorem gL_fan_X7_fan : GoodIn wsL_fan (wsV RL 60 RX7 yX7_fan wsX7_fan) := goodIn_app (goodIn_of _ (by decide +kernel)) ggL_fan_X7_fan
theorem dL_fan_0 : decode cL_fan 0 = .ok (.aload_n 0, 1) := by decide +kernel
theorem dL_fan_1 : decode cL_fan 1 = .ok (.iload_n 1, 1) := by decide +kernel
theorem dL_fan_2 : decode cL_fan 2 = .ok (.invokevirtual 60, 3) := by decide +kernel
theorem dL_fan_5 : decode cL_fan 5 = .ok (.ireturn, 1) := by decide +kernel
theorem dL_fan_6 : decode cL_fan 6 = .ok (.astore_n 2, 1) := by decide +kernel
theorem dL_fan_7 : decode cL_fan 7 = .ok (.bipush (-101), 2) := by decide +kernel
theorem dL_fan_9 : decode cL_fan 9 = .ok (.ireturn, 1) := by decide +kernel
set_option maxRecDepth 20000 in
theorem ggL_done_X7_done : GoodIn wsL_done wsX7_done := goodIn_ca (goodIn_r _ [6, 7, 8, 9, 10, 11, 12, 13, 14, 15, 5, 16, 17, 18, 19, 20, 21, 22, 23, 24, 25, 26, 27, 28, 29, 30, 31, 32, 33, 34, 35, 36, 37, 38, 39, 40, 41, 42, 43, 44, 45, 46, 47] (by decide +kernel) (by decide +kernel)) (goodIn_sub (fun _ h => List.mem_cons_of_mem _ (List.mem_append_right _ h)) (by decide +kernel))
set_option maxRecDepth 20000 in
theorem gL_done_X7_done : GoodIn wsL_done (wsV RL 63 RX7 yX7_done wsX7_done) := goodIn_app (goodIn_of _ (by decide +kernel)) ggL_done_X7_done
theorem dL_done_0 : decode cL_done 0 = .ok (.aload_n 0, 1) := by decide +kernel
theorem dL_done_1 : decode cL_done 1 = .ok (.iload_n 1, 1) := by decide +kernel
theorem dL_done_2 : decode cL_done 2 = .ok (.invokevirtual 63, 3) := by decide +kernel
theorem dL_done_5 : decode cL_done 5 = .ok (.ireturn, 1) := by decide +kernel
theorem dL_done_6 : decode cL_done 6 = .ok (.astore_n 2, 1) := by decide +kernel
theorem dL_done_7 : decode cL_done 7 = .ok (.bipush (-101), 2) := by decide +kernel
theorem dL_done_9 : decode cL_done 9 = .ok (.ireturn, 1) := by decide +kernel
set_option maxRecDepth 20000 in
theorem ggL_person_X7_person : GoodIn wsL_person wsX7_person := goodIn_ca (goodIn_ca (goodIn_r _ [7, 8, 9, 10, 11, 12, 13, 14, 15, 16, 6, 17, 18, 19, 20, 21, 22, 23, 24, 25, 26, 27, 28, 29, 30, 31, 32, 33, 34, 35, 36, 37, 38, 39, 40, 41, 42, 43, 44, 45, 46, 47, 48, 49, 50, 51, 52, 53, 54, 55, 56, 57, 58, 59, 60, 61, 62] (by decide +kernel) (by decide +kernel)) (goodIn_sub (fun _ h => List.mem_cons_of_mem _ (List.mem_append_left _ (List.mem_append_right _ h))) (by decide +kernel))) (goodIn_sub (fun _ h => List.mem_cons_of_mem _ (List.mem_append_right _ h)) (by decide +kernel))
set_option maxRecDepth 20000 in
theorem gL_person_X7_person : GoodIn wsL_person (wsV RL 66 RX7 yX7_person wsX7_person) := goodIn_app (goodIn_of _ (by decide +kernel)) ggL_person_X7_person
theorem dL_person_0 : decode cL_person 0 = .ok (.aload_n 0, 1) := by decide +kernel
theorem dL_person_1 : decode cL_person 1 = .ok (.iload_n 1, 1) := by decide +kernel
theorem dL_person_2 : decode cL_person 2 = .ok (.iload_n 2, 1) := by decide +kernel
theorem dL_person_3 : decode cL_person 3 = .ok (.invokevirtual 66, 3) := by decide +kernel
theorem dL_person_6 : decode cL_person 6 = .ok (.ireturn, 1) := by decide +kernel
theorem dL_person_7 : decode cL_person 7 = .ok (.astore_n 3, 1) := by decide +kernel
theorem dL_person_8 : decode cL_person 8 = .ok (.bipush (-101), 2) := by decide +kernel
theorem dL_person_10 : decode cL_person 10 = .ok (.ireturn, 1) := by decide +kernel
theorem dL_person_11 : decode cL_person 11 = .ok (.astore_n 3, 1) := by decide +kernel
theorem dL_person_12 : decode cL_person 12 = .ok (.bipush (-102), 2) := by decide +kernel
theorem dL_person_14 : decode cL_person 14 = .ok (.ireturn, 1) := by decide +kernel
set_option maxRecDepth 20000 in
theorem ggL_count_X7_count : GoodIn wsL_count wsX7_count := goodIn_ca (goodIn_r _ [6, 7, 8, 9, 5, 10, 11, 12, 13, 14, 15, 16, 17, 18, 19, 20, 21, 22, 23, 24, 25, 26, 27, 28, 29, 30, 31, 32, 33, 34, 35, 36, 37, 38] (by decide +kernel) (by decide +kernel)) (goodIn_sub (fun _ h => List.mem_cons_of_mem _ (List.mem_append_right _ h)) (by decide +kernel))
set_option maxRecDepth 20000 in
theorem gL_count_X7_count : GoodIn wsL_count (wsV RL 69 RX7 yX7_count wsX7_count) := goodIn_app (goodIn_of _ (by decide +kernel)) ggL_count_X7_count
theorem dL_count_0 : decode cL_count 0 = .ok (.aload_n 0, 1) := by decide +kernel
theorem dL_count_1 : decode cL_count 1 = .ok (.iload_n 1, 1) := by decide +kernel
theorem dL_count_2 : decode cL_count 2 = .ok (.invokevirtual 69, 3) := by decide +kernel
theorem dL_count_5 : decode cL_count 5 = .ok (.ireturn, 1) := by decide +kernel
theorem dL_count_6 : decode cL_count 6 = .ok (.astore_n 2, 1) := by decide +kernel
theorem dL_count_7 : decode cL_count 7 = .ok (.bipush (-102), 2) := by decide +kernel
theorem dL_count_9 : decode cL_count 9 = .ok (.ireturn, 1) := by decide +kernel
set_option maxRecDepth 20000 in
theorem ggL_fits_X7_balances : GoodIn wsL_fits wsX7_balances := goodIn_r _ [5, 6, 7, 8, 9, 10, 11, 12, 13, 14, 15, 16, 17, 18, 19, 20, 21, 22, 23, 24, 25, 26, 27, 28, 29, 30, 31, 32, 33, 34, 35, 36, 172, 173, 174, 175, 176, 177, 178, 179, 180, 181, 182, 183, 184, 185, 186, 187, 188, 189, 190, 191, 192, 193, 194, 195, 196, 197, 198, 199, 200] (by decide +kernel) (by decide +kernel)
set_option maxRecDepth 20000 in
theorem gL_fits_X7_balances : GoodIn wsL_fits (wsV RL 72 RX7 yX7_balances wsX7_balances) := goodIn_app (goodIn_of _ (by decide +kernel)) ggL_fits_X7_balances
set_option maxRecDepth 20000 in
theorem ggL_fits_X7_flow : GoodIn wsL_fits wsX7_flow := goodIn_r _ [40, 41, 42, 43, 44, 45, 46, 47, 48, 172, 173, 174, 175, 176, 177, 178, 179, 180, 181, 182, 183, 184, 185, 201, 202, 203] (by decide +kernel) (by decide +kernel)
set_option maxRecDepth 20000 in
theorem gL_fits_X7_flow : GoodIn wsL_fits (wsV RL 76 RX7 yX7_flow wsX7_flow) := goodIn_app (goodIn_of _ (by decide +kernel)) ggL_fits_X7_flow
set_option maxRecDepth 20000 in
theorem ggL_fits_L_count : GoodIn wsL_fits wsL_count := goodIn_ca (goodIn_r _ [52, 53, 54, 55, 56, 4, 57, 6, 58, 59, 60, 61, 62, 9, 10, 11, 12, 13, 14, 15, 172, 173, 174, 175, 176, 177, 178, 179, 180, 181, 182, 183, 184, 185, 186, 187, 188, 189, 190] (by decide +kernel) (by decide +kernel)) (goodIn_sub (fun _ h => List.mem_cons_of_mem _ (List.mem_append_left _ (List.mem_append_right _ h))) (by decide +kernel))
set_option maxRecDepth 20000 in
theorem gL_fits_L_count : GoodIn wsL_fits (va_wsS RL 80 yL_count wsL_count) := goodIn_app (goodIn_of _ (by decide +kernel)) ggL_fits_L_count
set_option maxRecDepth 20000 in
theorem ggL_fits_L_segment : GoodIn wsL_fits wsL_segment := goodIn_ca (goodIn_ca (goodIn_r _ [65, 66, 53, 67, 68, 69, 4, 70, 7, 6, 71, 72, 73, 74, 75, 76, 77, 78, 58, 59, 60, 61, 62, 79, 80, 81, 23, 82, 25, 83, 84, 85, 86, 87, 88, 89, 90, 91, 92, 93, 94, 95, 96, 97, 98, 99, 100, 101, 12, 102, 14, 103, 104, 105, 106, 107, 108, 109, 110, 111, 112, 113, 114, 115, 116, 117, 118, 119, 172, 173, 174, 175, 176, 177, 178, 179, 180, 181, 182, 183, 184, 185, 191, 192, 193, 194, 186, 187, 188, 189, 190, 204, 205, 206] (by decide +kernel) (by decide +kernel)) (goodIn_sub (fun _ h => List.mem_cons_of_mem _ (List.mem_append_right _ h)) (by decide +kernel))) (goodIn_sub (fun _ h => List.mem_cons_of_mem _ (List.mem_append_left _ (List.mem_append_right _ h))) (by decide +kernel))
set_option maxRecDepth 20000 in
theorem gL_fits_L_segment : GoodIn wsL_fits (va_wsS RL 85 yL_segment wsL_segment) := goodIn_app (goodIn_of _ (by decide +kernel)) ggL_fits_L_segment
set_option maxRecDepth 20000 in
theorem ggL_fits_L_person : GoodIn wsL_fits wsL_person := goodIn_ca (goodIn_ca (goodIn_r _ [122, 66, 53, 123, 124, 125, 4, 126, 6, 16, 17, 18, 12, 19, 14, 74, 75, 76, 77, 78, 58, 59, 60, 61, 62, 127, 128, 129, 130, 15, 131, 132, 133, 134, 135, 136, 137, 138, 103, 139, 140, 141, 142, 143, 172, 173, 174, 175, 176, 177, 178, 179, 180, 181, 182, 183, 184, 185, 186, 187, 188, 189, 190] (by decide +kernel) (by decide +kernel)) (goodIn_sub (fun _ h => List.mem_cons_of_mem _ (List.mem_append_right _ h)) (by decide +kernel))) (goodIn_sub (fun _ h => List.mem_cons_of_mem _ (List.mem_append_left _ (List.mem_append_right _ h))) (by decide +kernel))
set_option maxRecDepth 20000 in
theorem gL_fits_L_person : GoodIn wsL_fits (va_wsS RL 88 yL_person wsL_person) := goodIn_app (goodIn_of _ (by decide +kernel)) ggL_fits_L_person
set_option maxRecDepth 20000 in
theorem ggL_fits_L_done : GoodIn wsL_fits wsL_done := goodIn_ca (goodIn_r _ [146, 66, 147, 148, 149, 4, 150, 151, 152, 153, 154, 155, 156, 157, 74, 75, 76, 77, 78, 158, 159, 160, 161, 162, 163, 164, 165, 166, 172, 173, 174, 175, 176, 177, 178, 179, 180, 181, 182, 183, 184, 185, 207, 208, 209, 210, 211, 212] (by decide +kernel) (by decide +kernel)) (goodIn_sub (fun _ h => List.mem_cons_of_mem _ (List.mem_append_right _ h)) (by decide +kernel))
set_option maxRecDepth 20000 in
theorem gL_fits_L_done : GoodIn wsL_fits (va_wsS RL 90 yL_done wsL_done) := goodIn_app (goodIn_of _ (by decide +kernel)) ggL_fits_L_done
set_option maxRecDepth 20000 in
theorem ggL_fits_X7_alarm : GoodIn wsL_fits wsX7_alarm := goodIn_r _ [170, 171, 172, 173, 174, 175, 176, 177, 178, 179, 180, 181, 182, 183, 184, 185] (by decide +kernel) (by decide +kernel)
set_option maxRecDepth 20000 in
theorem gL_fits_X7_alarm : GoodIn wsL_fits (wsV RL 92 RX7 yX7_alarm wsX7_alarm) := goodIn_app (goodIn_of _ (by decide +kernel)) ggL_fits_X7_alarm
theorem dL_fits_0 : decode cL_fits 0 = .ok (.iconst 0, 1) := by decide +kernel
theorem dL_fits_1 : decode cL_fits 1 = .ok (.istore_n 3, 1) := by decide +kernel
theorem dL_fits_2 : decode cL_fits 2 = .ok (.iconst 0, 1) := by decide +kernel
theorem dL_fits_3 : decode cL_fits 3 = .ok (.istore 4, 2) := by decide +kernel
theorem dL_fits_5 : decode cL_fits 5 = .ok (.iconst 0, 1) := by decide +kernel
theorem dL_fits_6 : decode cL_fits 6 = .ok (.istore 5, 2) := by decide +kernel
theorem dL_fits_8 : decode cL_fits 8 = .ok (.aload_n 0, 1) := by decide +kernel
theorem dL_fits_9 : decode cL_fits 9 = .ok (.invokevirtual 72, 3) := by decide +kernel
theorem dL_fits_12 : decode cL_fits 12 = .ok (.ifCond .eq 27, 3) := by decide +kernel
theorem dL_fits_15 : decode cL_fits 15 = .ok (.aload_n 0, 1) := by decide +kernel
theorem dL_fits_16 : decode cL_fits 16 = .ok (.invokevirtual 76, 3) := by decide +kernel
theorem dL_fits_19 : decode cL_fits 19 = .ok (.sipush (-9000), 3) := by decide +kernel
theorem dL_fits_22 : decode cL_fits 22 = .ok (.if_icmp .lt 17, 3) := by decide +kernel
theorem dL_fits_25 : decode cL_fits 25 = .ok (.aload_n 0, 1) := by decide +kernel
theorem dL_fits_26 : decode cL_fits 26 = .ok (.invokevirtual 76, 3) := by decide +kernel
theorem dL_fits_29 : decode cL_fits 29 = .ok (.sipush 9000, 3) := by decide +kernel
theorem dL_fits_32 : decode cL_fits 32 = .ok (.if_icmp .gt 7, 3) := by decide +kernel
theorem dL_fits_35 : decode cL_fits 35 = .ok (.iconst 1, 1) := by decide +kernel
theorem dL_fits_36 : decode cL_fits 36 = .ok (.goto 4, 3) := by decide +kernel
theorem dL_fits_39 : decode cL_fits 39 = .ok (.iconst 0, 1) := by decide +kernel
theorem dL_fits_40 : decode cL_fits 40 = .ok (.istore 6, 2) := by decide +kernel
theorem dL_fits_42 : decode cL_fits 42 = .ok (.iconst 0, 1) := by decide +kernel
theorem dL_fits_43 : decode cL_fits 43 = .ok (.istore 7, 2) := by decide +kernel
theorem dL_fits_45 : decode cL_fits 45 = .ok (.iload 7, 2) := by decide +kernel
theorem dL_fits_47 : decode cL_fits 47 = .ok (.iconst 5, 1) := by decide +kernel
theorem dL_fits_48 : decode cL_fits 48 = .ok (.if_icmp .ge 23, 3) := by decide +kernel
theorem dL_fits_51 : decode cL_fits 51 = .ok (.iload 6, 2) := by decide +kernel
theorem dL_fits_53 : decode cL_fits 53 = .ok (.ifCond .eq 18, 3) := by decide +kernel
theorem dL_fits_56 : decode cL_fits 56 = .ok (.iload_n 3, 1) := by decide +kernel
theorem dL_fits_57 : decode cL_fits 57 = .ok (.aload_n 0, 1) := by decide +kernel
theorem dL_fits_58 : decode cL_fits 58 = .ok (.iload 7, 2) := by decide +kernel
theorem dL_fits_60 : decode cL_fits 60 = .ok (.invokestatic 80, 3) := by decide +kernel
theorem dL_fits_63 : decode cL_fits 63 = .ok (.iadd, 1) := by decide +kernel
theorem dL_fits_64 : decode cL_fits 64 = .ok (.istore_n 3, 1) := by decide +kernel
theorem dL_fits_65 : decode cL_fits 65 = .ok (.iinc 7 1, 3) := by decide +kernel
theorem dL_fits_68 : decode cL_fits 68 = .ok (.goto (-23), 3) := by decide +kernel
theorem dL_fits_71 : decode cL_fits 71 = .ok (.iconst 0, 1) := by decide +kernel
theorem dL_fits_72 : decode cL_fits 72 = .ok (.istore 7, 2) := by decide +kernel
theorem dL_fits_74 : decode cL_fits 74 = .ok (.iload 7, 2) := by decide +kernel
theorem dL_fits_76 : decode cL_fits 76 = .ok (.bipush 12, 2) := by decide +kernel
theorem dL_fits_78 : decode cL_fits 78 = .ok (.if_icmp .ge 53, 3) := by decide +kernel
theorem dL_fits_81 : decode cL_fits 81 = .ok (.iload 6, 2) := by decide +kernel
theorem dL_fits_83 : decode cL_fits 83 = .ok (.ifCond .eq 48, 3) := by decide +kernel
theorem dL_fits_86 : decode cL_fits 86 = .ok (.iload 4, 2) := by decide +kernel
theorem dL_fits_88 : decode cL_fits 88 = .ok (.aload_n 0, 1) := by decide +kernel
theorem dL_fits_89 : decode cL_fits 89 = .ok (.iload 7, 2) := by decide +kernel
theorem dL_fits_91 : decode cL_fits 91 = .ok (.iconst 3, 1) := by decide +kernel
theorem dL_fits_92 : decode cL_fits 92 = .ok (.invokestatic 85, 3) := by decide +kernel
theorem dL_fits_95 : decode cL_fits 95 = .ok (.iadd, 1) := by decide +kernel
theorem dL_fits_96 : decode cL_fits 96 = .ok (.istore 4, 2) := by decide +kernel
theorem dL_fits_98 : decode cL_fits 98 = .ok (.aload_n 0, 1) := by decide +kernel
theorem dL_fits_99 : decode cL_fits 99 = .ok (.iload 7, 2) := by decide +kernel
theorem dL_fits_101 : decode cL_fits 101 = .ok (.iconst 0, 1) := by decide +kernel
theorem dL_fits_102 : decode cL_fits 102 = .ok (.invokestatic 85, 3) := by decide +kernel
theorem dL_fits_105 : decode cL_fits 105 = .ok (.ifCond .lt 17, 3) := by decide +kernel
theorem dL_fits_108 : decode cL_fits 108 = .ok (.aload_n 0, 1) := by decide +kernel
theorem dL_fits_109 : decode cL_fits 109 = .ok (.iload 7, 2) := by decide +kernel
theorem dL_fits_111 : decode cL_fits 111 = .ok (.iconst 1, 1) := by decide +kernel
theorem dL_fits_112 : decode cL_fits 112 = .ok (.invokestatic 85, 3) := by decide +kernel
theorem dL_fits_115 : decode cL_fits 115 = .ok (.ifCond .lt 7, 3) := by decide +kernel
theorem dL_fits_118 : decode cL_fits 118 = .ok (.iconst 1, 1) := by decide +kernel
theorem dL_fits_119 : decode cL_fits 119 = .ok (.goto 4, 3) := by decide +kernel
theorem dL_fits_122 : decode cL_fits 122 = .ok (.iconst 0, 1) := by decide +kernel
theorem dL_fits_123 : decode cL_fits 123 = .ok (.istore 6, 2) := by decide +kernel
theorem dL_fits_125 : decode cL_fits 125 = .ok (.iinc 7 1, 3) := by decide +kernel
theorem dL_fits_128 : decode cL_fits 128 = .ok (.goto (-54), 3) := by decide +kernel
theorem dL_fits_131 : decode cL_fits 131 = .ok (.iconst 0, 1) := by decide +kernel
theorem dL_fits_132 : decode cL_fits 132 = .ok (.istore 7, 2) := by decide +kernel
theorem dL_fits_134 : decode cL_fits 134 = .ok (.iload 7, 2) := by decide +kernel
theorem dL_fits_136 : decode cL_fits 136 = .ok (.iload_n 1, 1) := by decide +kernel
theorem dL_fits_137 : decode cL_fits 137 = .ok (.if_icmp .ge 89, 3) := by decide +kernel
theorem dL_fits_140 : decode cL_fits 140 = .ok (.iload 6, 2) := by decide +kernel
theorem dL_fits_142 : decode cL_fits 142 = .ok (.ifCond .eq 84, 3) := by decide +kernel
theorem dL_fits_145 : decode cL_fits 145 = .ok (.aload_n 0, 1) := by decide +kernel
theorem dL_fits_146 : decode cL_fits 146 = .ok (.iload 7, 2) := by decide +kernel
theorem dL_fits_148 : decode cL_fits 148 = .ok (.iconst 0, 1) := by decide +kernel
theorem dL_fits_149 : decode cL_fits 149 = .ok (.invokestatic 88, 3) := by decide +kernel
theorem dL_fits_152 : decode cL_fits 152 = .ok (.istore 8, 2) := by decide +kernel
theorem dL_fits_154 : decode cL_fits 154 = .ok (.aload_n 0, 1) := by decide +kernel
theorem dL_fits_155 : decode cL_fits 155 = .ok (.iload 7, 2) := by decide +kernel
theorem dL_fits_157 : decode cL_fits 157 = .ok (.iconst 1, 1) := by decide +kernel
theorem dL_fits_158 : decode cL_fits 158 = .ok (.invokestatic 88, 3) := by decide +kernel
theorem dL_fits_161 : decode cL_fits 161 = .ok (.iconst (-1), 1) := by decide +kernel
theorem dL_fits_162 : decode cL_fits 162 = .ok (.if_icmp .ne 7, 3) := by decide +kernel
theorem dL_fits_165 : decode cL_fits 165 = .ok (.iconst 1, 1) := by decide +kernel
theorem dL_fits_166 : decode cL_fits 166 = .ok (.goto 4, 3) := by decide +kernel
theorem dL_fits_169 : decode cL_fits 169 = .ok (.iconst 0, 1) := by decide +kernel
theorem dL_fits_170 : decode cL_fits 170 = .ok (.iload 8, 2) := by decide +kernel
theorem dL_fits_172 : decode cL_fits 172 = .ok (.iconst 3, 1) := by decide +kernel
theorem dL_fits_173 : decode cL_fits 173 = .ok (.if_icmp .ne 7, 3) := by decide +kernel
theorem dL_fits_176 : decode cL_fits 176 = .ok (.iconst 1, 1) := by decide +kernel
theorem dL_fits_177 : decode cL_fits 177 = .ok (.goto 4, 3) := by decide +kernel
theorem dL_fits_180 : decode cL_fits 180 = .ok (.iconst 0, 1) := by decide +kernel
theorem dL_fits_181 : decode cL_fits 181 = .ok (.if_icmp .ne 36, 3) := by decide +kernel
theorem dL_fits_184 : decode cL_fits 184 = .ok (.aload_n 0, 1) := by decide +kernel
theorem dL_fits_185 : decode cL_fits 185 = .ok (.iload 7, 2) := by decide +kernel
theorem dL_fits_187 : decode cL_fits 187 = .ok (.iconst 2, 1) := by decide +kernel
theorem dL_fits_188 : decode cL_fits 188 = .ok (.invokestatic 88, 3) := by decide +kernel
theorem dL_fits_191 : decode cL_fits 191 = .ok (.ifCond .lt 7, 3) := by decide +kernel
theorem dL_fits_194 : decode cL_fits 194 = .ok (.iconst 1, 1) := by decide +kernel
theorem dL_fits_195 : decode cL_fits 195 = .ok (.goto 4, 3) := by decide +kernel
theorem dL_fits_198 : decode cL_fits 198 = .ok (.iconst 0, 1) := by decide +kernel
theorem dL_fits_199 : decode cL_fits 199 = .ok (.iload 8, 2) := by decide +kernel
theorem dL_fits_201 : decode cL_fits 201 = .ok (.iconst 3, 1) := by decide +kernel
theorem dL_fits_202 : decode cL_fits 202 = .ok (.if_icmp .lt 7, 3) := by decide +kernel
theorem dL_fits_205 : decode cL_fits 205 = .ok (.iconst 1, 1) := by decide +kernel
theorem dL_fits_206 : decode cL_fits 206 = .ok (.goto 4, 3) := by decide +kernel
theorem dL_fits_209 : decode cL_fits 209 = .ok (.iconst 0, 1) := by decide +kernel
theorem dL_fits_210 : decode cL_fits 210 = .ok (.if_icmp .ne 7, 3) := by decide +kernel
theorem dL_fits_213 : decode cL_fits 213 = .ok (.iconst 1, 1) := by decide +kernel
theorem dL_fits_214 : decode cL_fits 214 = .ok (.goto 4, 3) := by decide +kernel
theorem dL_fits_217 : decode cL_fits 217 = .ok (.iconst 0, 1) := by decide +kernel
theorem dL_fits_218 : decode cL_fits 218 = .ok (.istore 6, 2) := by decide +kernel
theorem dL_fits_220 : decode cL_fits 220 = .ok (.iinc 7 1, 3) := by decide +kernel
theorem dL_fits_223 : decode cL_fits 223 = .ok (.goto (-89), 3) := by decide +kernel
theorem dL_fits_226 : decode cL_fits 226 = .ok (.iconst 0, 1) := by decide +kernel
theorem dL_fits_227 : decode cL_fits 227 = .ok (.istore 7, 2) := by decide +kernel
theorem dL_fits_229 : decode cL_fits 229 = .ok (.iload 7, 2) := by decide +kernel
theorem dL_fits_231 : decode cL_fits 231 = .ok (.iload_n 2, 1) := by decide +kernel
theorem dL_fits_232 : decode cL_fits 232 = .ok (.if_icmp .ge 64, 3) := by decide +kernel
theorem dL_fits_235 : decode cL_fits 235 = .ok (.iload 6, 2) := by decide +kernel
theorem dL_fits_237 : decode cL_fits 237 = .ok (.ifCond .eq 59, 3) := by decide +kernel
theorem dL_fits_240 : decode cL_fits 240 = .ok (.aload_n 0, 1) := by decide +kernel
theorem dL_fits_241 : decode cL_fits 241 = .ok (.iload 7, 2) := by decide +kernel
theorem dL_fits_243 : decode cL_fits 243 = .ok (.invokestatic 90, 3) := by decide +kernel
theorem dL_fits_246 : decode cL_fits 246 = .ok (.istore 8, 2) := by decide +kernel
theorem dL_fits_248 : decode cL_fits 248 = .ok (.iload 8, 2) := by decide +kernel
theorem dL_fits_250 : decode cL_fits 250 = .ok (.iconst (-1), 1) := by decide +kernel
theorem dL_fits_251 : decode cL_fits 251 = .ok (.if_icmp .eq 17, 3) := by decide +kernel
theorem dL_fits_254 : decode cL_fits 254 = .ok (.aload_n 0, 1) := by decide +kernel
theorem dL_fits_255 : decode cL_fits 255 = .ok (.invokevirtual 92, 3) := by decide +kernel
theorem dL_fits_258 : decode cL_fits 258 = .ok (.ifCond .lt 14, 3) := by decide +kernel
theorem dL_fits_261 : decode cL_fits 261 = .ok (.iload 8, 2) := by decide +kernel
theorem dL_fits_263 : decode cL_fits 263 = .ok (.iload 5, 2) := by decide +kernel
theorem dL_fits_265 : decode cL_fits 265 = .ok (.if_icmp .lt 7, 3) := by decide +kernel
theorem dL_fits_268 : decode cL_fits 268 = .ok (.iconst 1, 1) := by decide +kernel
theorem dL_fits_269 : decode cL_fits 269 = .ok (.goto 4, 3) := by decide +kernel
theorem dL_fits_272 : decode cL_fits 272 = .ok (.iconst 0, 1) := by decide +kernel
theorem dL_fits_273 : decode cL_fits 273 = .ok (.istore 6, 2) := by decide +kernel
theorem dL_fits_275 : decode cL_fits 275 = .ok (.iload 8, 2) := by decide +kernel
theorem dL_fits_277 : decode cL_fits 277 = .ok (.iconst (-1), 1) := by decide +kernel
theorem dL_fits_278 : decode cL_fits 278 = .ok (.if_icmp .ne 8, 3) := by decide +kernel
theorem dL_fits_281 : decode cL_fits 281 = .ok (.iload 5, 2) := by decide +kernel
theorem dL_fits_283 : decode cL_fits 283 = .ok (.goto 5, 3) := by decide +kernel
theorem dL_fits_286 : decode cL_fits 286 = .ok (.iload 8, 2) := by decide +kernel
theorem dL_fits_288 : decode cL_fits 288 = .ok (.istore 5, 2) := by decide +kernel
theorem dL_fits_290 : decode cL_fits 290 = .ok (.iinc 7 1, 3) := by decide +kernel
theorem dL_fits_293 : decode cL_fits 293 = .ok (.goto (-64), 3) := by decide +kernel
theorem dL_fits_296 : decode cL_fits 296 = .ok (.iload 6, 2) := by decide +kernel
theorem dL_fits_298 : decode cL_fits 298 = .ok (.ifCond .eq 24, 3) := by decide +kernel
theorem dL_fits_301 : decode cL_fits 301 = .ok (.iload_n 3, 1) := by decide +kernel
theorem dL_fits_302 : decode cL_fits 302 = .ok (.iload_n 1, 1) := by decide +kernel
theorem dL_fits_303 : decode cL_fits 303 = .ok (.if_icmp .ne 19, 3) := by decide +kernel
theorem dL_fits_306 : decode cL_fits 306 = .ok (.iload 4, 2) := by decide +kernel
theorem dL_fits_308 : decode cL_fits 308 = .ok (.iload_n 1, 1) := by decide +kernel
theorem dL_fits_309 : decode cL_fits 309 = .ok (.aload_n 0, 1) := by decide +kernel
theorem dL_fits_310 : decode cL_fits 310 = .ok (.iconst 3, 1) := by decide +kernel
theorem dL_fits_311 : decode cL_fits 311 = .ok (.invokestatic 80, 3) := by decide +kernel
theorem dL_fits_314 : decode cL_fits 314 = .ok (.isub, 1) := by decide +kernel
theorem dL_fits_315 : decode cL_fits 315 = .ok (.if_icmp .ne 7, 3) := by decide +kernel
theorem dL_fits_318 : decode cL_fits 318 = .ok (.iconst 1, 1) := by decide +kernel
theorem dL_fits_319 : decode cL_fits 319 = .ok (.goto 4, 3) := by decide +kernel
theorem dL_fits_322 : decode cL_fits 322 = .ok (.iconst 0, 1) := by decide +kernel
theorem dL_fits_323 : decode cL_fits 323 = .ok (.ireturn, 1) := by decide +kernel
set_option maxRecDepth 20000 in
theorem ggL_law_X7_init : GoodIn wsL_law wsX7_init := goodIn_r _ [5, 6, 7, 8, 9, 10, 11, 12, 13, 14, 15, 16, 17, 18, 19, 20, 21, 22, 23, 24, 25, 26, 27, 28, 29, 30, 31, 32, 33, 34, 35, 36, 37, 38, 39, 40, 41, 42, 43, 44, 45, 46, 47, 48, 49, 50, 51, 52, 53, 54, 55, 56, 57, 58, 59, 60, 61, 62, 63, 64, 65, 66, 67, 68, 69, 70, 71, 72, 73, 74, 75, 76, 77, 78, 79, 80, 81, 82, 83, 84, 85, 86, 87, 88, 89, 90, 91, 92, 93, 94, 95, 96, 561, 562, 563, 547, 548, 549, 550, 551, 552, 553, 554, 555, 556, 557, 558, 559, 560, 564, 565, 566, 567, 568, 569, 570, 571, 572, 573, 574, 575, 576, 577, 578, 579, 580, 581, 582, 583, 584, 585, 586, 587, 588, 589, 590] (by decide +kernel) (by decide +kernel)
set_option maxRecDepth 20000 in
theorem gL_law_X7_init : GoodIn wsL_law (wsX7_init) := ggL_law_X7_init
set_option maxRecDepth 20000 in
theorem ggL_law_L_drawn : GoodIn wsL_law wsL_drawn := goodIn_r _ [100, 101, 102] (by decide +kernel) (by decide +kernel)
set_option maxRecDepth 20000 in
theorem gL_law_L_drawn : GoodIn wsL_law (va_wsS RL 96 yL_drawn wsL_drawn) := goodIn_app (goodIn_of _ (by decide +kernel)) ggL_law_L_drawn
set_option maxRecDepth 20000 in
theorem ggL_law_L_build : GoodIn wsL_law wsL_build := goodIn_ca (goodIn_ca (goodIn_ca (goodIn_r _ [105, 106, 107, 108, 109, 110, 111, 2, 112, 44, 28, 40, 41, 113, 114, 115, 116, 117, 118, 119, 120, 121, 122, 123, 124, 125, 126, 127, 128, 129, 130, 131, 132, 133, 27, 134, 77, 78, 79, 547, 548, 549, 550, 551, 552, 553, 554, 555, 556, 557, 558, 559, 560, 577, 578, 579] (by decide +kernel) (by decide +kernel)) (goodIn_sub (fun _ h => List.mem_append_left _ (List.mem_append_left _ (List.mem_append_right _ h))) (by decide +kernel))) (goodIn_sub (fun _ h => List.mem_append_left _ (List.mem_append_right _ h)) (by decide +kernel))) (goodIn_sub (fun _ h => List.mem_append_right _ h) (by decide +kernel))
set_option maxRecDepth 20000 in
theorem gL_law_L_build : GoodIn wsL_law (va_wsS RL 100 yL_build wsL_build) := goodIn_app (goodIn_of _ (by decide +kernel)) ggL_law_L_build
set_option maxRecDepth 20000 in
theorem ggL_law_L_people : GoodIn wsL_law wsL_people := goodIn_ca (goodIn_ca (goodIn_ca (goodIn_r _ [137, 106, 107, 108, 138, 139, 140, 2, 141, 36, 113, 114, 115, 116, 117, 118, 119, 120, 121, 122, 123, 124, 125, 142, 143, 144, 35, 145, 96, 126, 127, 128, 129, 130, 146, 147, 148, 149, 92, 93, 95, 150, 151, 152, 153, 547, 548, 549, 550, 551, 552, 553, 554, 555, 556, 557, 558, 559, 560, 586, 587, 588, 589, 590] (by decide +kernel) (by decide +kernel)) (goodIn_sub (fun _ h => List.mem_append_left _ (List.mem_append_left _ (List.mem_append_right _ h))) (by decide +kernel))) (goodIn_sub (fun _ h => List.mem_append_left _ (List.mem_append_right _ h)) (by decide +kernel))) (goodIn_sub (fun _ h => List.mem_append_right _ h) (by decide +kernel))
set_option maxRecDepth 20000 in
theorem gL_law_L_people : GoodIn wsL_law (va_wsS RL 102 yL_people wsL_people) := goodIn_app (goodIn_of _ (by decide +kernel)) ggL_law_L_people
set_option maxRecDepth 20000 in
theorem ggL_law_L_wind : GoodIn wsL_law wsL_wind := goodIn_ca (goodIn_r _ [156, 107, 157, 158, 159, 2, 160, 16, 121, 122, 123, 124, 125, 161, 162, 163, 15, 164, 56, 547, 548, 549, 550, 551, 552, 553, 554, 555, 556, 557, 558, 559, 560, 564, 565, 566] (by decide +kernel) (by decide +kernel)) (goodIn_sub (fun _ h => List.mem_append_left _ (List.mem_append_right _ h)) (by decide +kernel))
set_option maxRecDepth 20000 in
theorem gL_law_L_wind : GoodIn wsL_law (va_wsS RL 104 yL_wind wsL_wind) := goodIn_app (goodIn_of _ (by decide +kernel)) ggL_law_L_wind
set_option maxRecDepth 20000 in
theorem ggL_law_L_fire : GoodIn wsL_law wsL_fire := goodIn_ca (goodIn_ca (goodIn_ca (goodIn_r _ [167, 106, 107, 108, 168, 169, 170, 2, 171, 24, 113, 114, 115, 116, 117, 118, 119, 120, 121, 122, 123, 124, 125, 172, 173, 174, 23, 175, 68, 126, 127, 128, 129, 130, 176, 177, 178, 179, 69, 547, 548, 549, 550, 551, 552, 553, 554, 555, 556, 557, 558, 559, 560, 571, 572, 573, 574, 575, 576] (by decide +kernel) (by decide +kernel)) (goodIn_sub (fun _ h => List.mem_append_left _ (List.mem_append_left _ (List.mem_append_right _ h))) (by decide +kernel))) (goodIn_sub (fun _ h => List.mem_append_left _ (List.mem_append_right _ h)) (by decide +kernel))) (goodIn_sub (fun _ h => List.mem_append_right _ h) (by decide +kernel))
set_option maxRecDepth 20000 in
theorem gL_law_L_fire : GoodIn wsL_law (va_wsS RL 106 yL_fire wsL_fire) := goodIn_app (goodIn_of _ (by decide +kernel)) ggL_law_L_fire
set_option maxRecDepth 20000 in
theorem ggL_law_L_feed : GoodIn wsL_law wsL_feed := goodIn_ca (goodIn_r _ [182, 106, 183, 184, 185, 2, 186, 38, 116, 117, 118, 119, 120, 187, 188, 189, 190, 547, 548, 549, 550, 551, 552, 553, 554, 555, 556, 557, 558, 559, 560] (by decide +kernel) (by decide +kernel)) (goodIn_sub (fun _ h => List.mem_append_left _ (List.mem_append_left _ (List.mem_append_right _ h))) (by decide +kernel))
set_option maxRecDepth 20000 in
theorem gL_law_L_feed : GoodIn wsL_law (va_wsS RL 108 yL_feed wsL_feed) := goodIn_app (goodIn_of _ (by decide +kernel)) ggL_law_L_feed
set_option maxRecDepth 20000 in
theorem ggL_law_L_failFan : GoodIn wsL_law wsL_failFan := goodIn_ca (goodIn_r _ [193, 106, 194, 195, 196, 2, 197, 12, 116, 117, 118, 119, 120, 198, 199, 200, 11, 201, 51, 202, 203, 204, 205, 206, 207, 208, 50, 547, 548, 549, 550, 551, 552, 553, 554, 555, 556, 557, 558, 559, 560, 561, 562, 563] (by decide +kernel) (by decide +kernel)) (goodIn_sub (fun _ h => List.mem_append_left _ (List.mem_append_left _ (List.mem_append_right _ h))) (by decide +kernel))
set_option maxRecDepth 20000 in
theorem gL_law_L_failFan : GoodIn wsL_law (va_wsS RL 111 yL_failFan wsL_failFan) := goodIn_app (goodIn_of _ (by decide +kernel)) ggL_law_L_failFan
set_option maxRecDepth 20000 in
theorem ggL_law_L_failDoor : GoodIn wsL_law wsL_failDoor := goodIn_ca (goodIn_r _ [211, 106, 212, 213, 214, 2, 215, 28, 216, 217, 218, 219, 119, 120, 220, 221, 222, 27, 223, 77, 224, 225, 226, 227, 228, 229, 79, 230, 231, 232, 233, 78, 547, 548, 549, 550, 551, 552, 553, 554, 555, 556, 557, 558, 559, 560, 577, 578, 579] (by decide +kernel) (by decide +kernel)) (goodIn_sub (fun _ h => List.mem_append_left _ (List.mem_append_left _ (List.mem_append_right _ h))) (by decide +kernel))
set_option maxRecDepth 20000 in
theorem gL_law_L_failDoor : GoodIn wsL_law (va_wsS RL 113 yL_failDoor wsL_failDoor) := goodIn_app (goodIn_of _ (by decide +kernel)) ggL_law_L_failDoor
set_option maxRecDepth 20000 in
theorem ggL_law_L_segment : GoodIn wsL_law wsL_segment := goodIn_ca (goodIn_ca (goodIn_r _ [236, 106, 107, 237, 238, 239, 2, 240, 20, 36, 113, 114, 115, 116, 117, 118, 119, 120, 121, 122, 123, 124, 125, 241, 242, 243, 19, 244, 61, 224, 225, 245, 246, 247, 248, 62, 249, 250, 251, 252, 253, 254, 255, 256, 39, 257, 258, 259, 35, 260, 96, 93, 261, 262, 263, 264, 28, 220, 221, 222, 27, 223, 77, 230, 231, 232, 233, 78, 547, 548, 549, 550, 551, 552, 553, 554, 555, 556, 557, 558, 559, 560, 567, 568, 569, 570, 586, 587, 588, 589, 590, 577, 578, 579] (by decide +kernel) (by decide +kernel)) (goodIn_sub (fun _ h => List.mem_append_left _ (List.mem_append_left _ (List.mem_append_right _ h))) (by decide +kernel))) (goodIn_sub (fun _ h => List.mem_append_left _ (List.mem_append_right _ h)) (by decide +kernel))
set_option maxRecDepth 20000 in
theorem gL_law_L_segment : GoodIn wsL_law (va_wsS RL 85 yL_segment wsL_segment) := goodIn_app (goodIn_of _ (by decide +kernel)) ggL_law_L_segment
set_option maxRecDepth 20000 in
theorem ggL_law_L_failDetector : GoodIn wsL_law wsL_failDetector := goodIn_ca (goodIn_r _ [267, 106, 268, 269, 270, 2, 271, 39, 113, 114, 115, 116, 117, 118, 119, 120, 547, 548, 549, 550, 551, 552, 553, 554, 555, 556, 557, 558, 559, 560] (by decide +kernel) (by decide +kernel)) (goodIn_sub (fun _ h => List.mem_append_left _ (List.mem_append_left _ (List.mem_append_right _ h))) (by decide +kernel))
set_option maxRecDepth 20000 in
theorem gL_law_L_failDetector : GoodIn wsL_law (va_wsS RL 115 yL_failDetector wsL_failDetector) := goodIn_app (goodIn_of _ (by decide +kernel)) ggL_law_L_failDetector
set_option maxRecDepth 20000 in
theorem ggL_law_L_act : GoodIn wsL_law wsL_act := goodIn_ca (goodIn_ca (goodIn_r _ [274, 107, 108, 275, 276, 277, 2, 278, 43, 32, 121, 122, 123, 124, 125, 279, 280, 281, 31, 282, 86, 126, 127, 128, 129, 130, 283, 284, 285, 286, 83, 84, 85, 287, 547, 548, 549, 550, 551, 552, 553, 554, 555, 556, 557, 558, 559, 560, 580, 581, 582, 583, 584, 585] (by decide +kernel) (by decide +kernel)) (goodIn_sub (fun _ h => List.mem_append_left _ (List.mem_append_right _ h)) (by decide +kernel))) (goodIn_sub (fun _ h => List.mem_append_right _ h) (by decide +kernel))
set_option maxRecDepth 20000 in
theorem gL_law_L_act : GoodIn wsL_law (va_wsS RL 118 yL_act wsL_act) := goodIn_app (goodIn_of _ (by decide +kernel)) ggL_law_L_act
set_option maxRecDepth 20000 in
theorem ggL_law_L_command : GoodIn wsL_law wsL_command := goodIn_ca (goodIn_ca (goodIn_r _ [290, 106, 107, 291, 292, 293, 2, 294, 12, 116, 117, 118, 119, 120, 121, 122, 123, 124, 125, 295, 296, 297, 11, 298, 49, 202, 203, 204, 547, 548, 549, 550, 551, 552, 553, 554, 555, 556, 557, 558, 559, 560, 561, 562, 563] (by decide +kernel) (by decide +kernel)) (goodIn_sub (fun _ h => List.mem_append_left _ (List.mem_append_left _ (List.mem_append_right _ h))) (by decide +kernel))) (goodIn_sub (fun _ h => List.mem_append_left _ (List.mem_append_right _ h)) (by decide +kernel))
set_option maxRecDepth 20000 in
theorem gL_law_L_command : GoodIn wsL_law (va_wsS RL 120 yL_command wsL_command) := goodIn_app (goodIn_of _ (by decide +kernel)) ggL_law_L_command
set_option maxRecDepth 20000 in
theorem ggL_law_L_fan : GoodIn wsL_law wsL_fan := goodIn_ca (goodIn_r _ [301, 106, 302, 303, 304, 2, 305, 12, 116, 117, 118, 119, 120, 205, 206, 207, 11, 208, 50, 202, 203, 204, 547, 548, 549, 550, 551, 552, 553, 554, 555, 556, 557, 558, 559, 560, 561, 562, 563] (by decide +kernel) (by decide +kernel)) (goodIn_sub (fun _ h => List.mem_append_left _ (List.mem_append_left _ (List.mem_append_right _ h))) (by decide +kernel))
set_option maxRecDepth 20000 in
theorem gL_law_L_fan : GoodIn wsL_law (va_wsS RL 122 yL_fan wsL_fan) := goodIn_app (goodIn_of _ (by decide +kernel)) ggL_law_L_fan
set_option maxRecDepth 20000 in
theorem ggL_law_L_step : GoodIn wsL_law wsL_step := goodIn_ca (goodIn_r _ [308, 107, 309, 310, 311, 2, 312, 44, 121, 122, 123, 124, 125, 313, 314, 315, 316, 12, 16, 36, 42, 20, 28, 187, 188, 189, 190, 38, 317, 318, 319, 11, 320, 51, 50, 49, 321, 322, 323, 324, 325, 326, 327, 328, 329, 330, 331, 332, 333, 334, 15, 335, 336, 56, 57, 337, 55, 338, 339, 340, 341, 342, 343, 344, 345, 346, 347, 24, 172, 173, 174, 23, 175, 68, 348, 349, 350, 351, 352, 353, 354, 355, 69, 70, 356, 357, 358, 359, 360, 72, 71, 73, 361, 362, 363, 19, 364, 61, 62, 224, 225, 365, 366, 367, 368, 41, 40, 369, 370, 371, 372, 373, 374, 375, 376, 63, 377, 378, 379, 380, 381, 382, 383, 384, 385, 386, 64, 387, 388, 389, 390, 391, 392, 242, 243, 244, 393, 394, 395, 396, 397, 398, 399, 400, 401, 402, 403, 404, 43, 32, 249, 250, 251, 252, 241, 245, 246, 247, 248, 253, 254, 255, 256, 39, 257, 258, 259, 35, 260, 96, 93, 405, 406, 407, 31, 408, 88, 409, 410, 411, 412, 413, 414, 415, 416, 87, 84, 417, 418, 419, 420, 86, 421, 422, 423, 424, 83, 85, 425, 426, 427, 428, 429, 430, 431, 432, 433, 434, 435, 27, 436, 77, 79, 78, 437, 438, 439, 440, 441, 442, 443, 444, 445, 446, 447, 448, 92, 449, 450, 451, 452, 453, 95, 94, 454, 455, 456, 457, 458, 459, 460, 461, 462, 463, 464, 465, 466, 467, 468, 469, 547, 548, 549, 550, 551, 552, 553, 554, 555, 556, 557, 558, 559, 560, 561, 562, 563, 564, 565, 566, 571, 572, 573, 574, 575, 576, 567, 568, 569, 570, 586, 587, 588, 589, 590, 580, 581, 582, 583, 584, 585, 577, 578, 579] (by decide +kernel) (by decide +kernel)) (goodIn_sub (fun _ h => List.mem_append_left _ (List.mem_append_right _ h)) (by decide +kernel))
set_option maxRecDepth 20000 in
theorem gL_law_L_step : GoodIn wsL_law (va_wsS RL 124 yL_step wsL_step) := goodIn_app (goodIn_of _ (by decide +kernel)) ggL_law_L_step
set_option maxRecDepth 20000 in
theorem ggL_law_L_fits : GoodIn wsL_law wsL_fits := goodIn_ca (goodIn_ca (goodIn_r _ [472, 473, 474, 475, 2, 476, 36, 20, 24, 477, 478, 479, 35, 480, 96, 92, 150, 151, 152, 153, 481, 482, 483, 19, 484, 61, 485, 486, 487, 488, 64, 489, 490, 491, 23, 492, 73, 493, 494, 495, 496, 497, 16, 369, 370, 371, 15, 372, 55, 498, 499, 99, 500, 107, 501, 502, 503, 504, 121, 122, 123, 124, 125, 234, 235, 236, 106, 237, 238, 239, 240, 113, 114, 115, 116, 117, 118, 119, 120, 241, 242, 243, 244, 224, 225, 245, 246, 247, 248, 62, 249, 250, 251, 252, 253, 254, 255, 256, 39, 257, 258, 259, 260, 93, 261, 262, 263, 264, 28, 220, 221, 222, 27, 223, 77, 230, 231, 232, 233, 78, 505, 506, 507, 508, 509, 510, 511, 512, 513, 514, 515, 454, 455, 456, 457, 516, 517, 518, 519, 520, 521, 522, 523, 95, 524, 525, 526, 527, 528, 529, 530, 32, 531, 532, 533, 31, 534, 86, 535, 536, 537, 538, 85, 417, 418, 419, 420, 539, 540, 541, 542, 43, 547, 548, 549, 550, 551, 552, 553, 554, 555, 556, 557, 558, 559, 560, 586, 587, 588, 589, 590, 567, 568, 569, 570, 571, 572, 573, 574, 575, 576, 564, 565, 566, 577, 578, 579, 580, 581, 582, 583, 584, 585] (by decide +kernel) (by decide +kernel)) (goodIn_sub (fun _ h => List.mem_append_left _ (List.mem_append_right _ h)) (by decide +kernel))) (goodIn_sub (fun _ h => List.mem_append_left _ (List.mem_append_left _ (List.mem_append_right _ h))) (by decide +kernel))
set_option maxRecDepth 20000 in
theorem gL_law_L_fits : GoodIn wsL_law (va_wsS RL 126 yL_fits wsL_fits) := goodIn_app (goodIn_of _ (by decide +kernel)) ggL_law_L_fits
set_option maxRecDepth 20000 in
theorem ggL_law_X7_gone : GoodIn wsL_law wsX7_gone := goodIn_r _ [546, 20, 485, 486, 487, 19, 488, 64, 547, 548, 549, 550, 551, 552, 553, 554, 555, 556, 557, 558, 559, 560, 567, 568, 569, 570] (by decide +kernel) (by decide +kernel)
set_option maxRecDepth 20000 in
theorem gL_law_X7_gone : GoodIn wsL_law (wsV RL 130 RX7 yX7_gone wsX7_gone) := goodIn_app (goodIn_of _ (by decide +kernel)) ggL_law_X7_gone
set_option maxRecDepth 20000 in
theorem ggL_law_X7_alarm : GoodIn wsL_law wsX7_alarm := goodIn_r _ [542, 43, 547, 548, 549, 550, 551, 552, 553, 554, 555, 556, 557, 558, 559, 560] (by decide +kernel) (by decide +kernel)
set_option maxRecDepth 20000 in
theorem gL_law_X7_alarm : GoodIn wsL_law (wsV RL 92 RX7 yX7_alarm wsX7_alarm) := goodIn_app (goodIn_of _ (by decide +kernel)) ggL_law_X7_alarm
theorem dL_law_0 : decode cL_law 0 = .ok (.new 10, 3) := by decide +kernel
theorem dL_law_3 : decode cL_law 3 = .ok (.dup, 1) := by decide +kernel
theorem dL_law_4 : decode cL_law 4 = .ok (.invokespecial 95, 3) := by decide +kernel
theorem dL_law_7 : decode cL_law 7 = .ok (.astore_n 1, 1) := by decide +kernel
theorem dL_law_8 : decode cL_law 8 = .ok (.iconst 0, 1) := by decide +kernel
theorem dL_law_9 : decode cL_law 9 = .ok (.istore_n 2, 1) := by decide +kernel
theorem dL_law_10 : decode cL_law 10 = .ok (.iconst 0, 1) := by decide +kernel
theorem dL_law_11 : decode cL_law 11 = .ok (.istore_n 3, 1) := by decide +kernel
theorem dL_law_12 : decode cL_law 12 = .ok (.iconst 0, 1) := by decide +kernel
theorem dL_law_13 : decode cL_law 13 = .ok (.istore 4, 2) := by decide +kernel
theorem dL_law_15 : decode cL_law 15 = .ok (.iconst 0, 1) := by decide +kernel
theorem dL_law_16 : decode cL_law 16 = .ok (.istore 5, 2) := by decide +kernel
theorem dL_law_18 : decode cL_law 18 = .ok (.iconst (-1), 1) := by decide +kernel
theorem dL_law_19 : decode cL_law 19 = .ok (.istore 6, 2) := by decide +kernel
theorem dL_law_21 : decode cL_law 21 = .ok (.aload_n 1, 1) := by decide +kernel
theorem dL_law_22 : decode cL_law 22 = .ok (.aload_n 0, 1) := by decide +kernel
theorem dL_law_23 : decode cL_law 23 = .ok (.iconst 0, 1) := by decide +kernel
theorem dL_law_24 : decode cL_law 24 = .ok (.invokestatic 96, 3) := by decide +kernel
theorem dL_law_27 : decode cL_law 27 = .ok (.sipush 4096, 3) := by decide +kernel
theorem dL_law_30 : decode cL_law 30 = .ok (.irem, 1) := by decide +kernel
theorem dL_law_31 : decode cL_law 31 = .ok (.aload_n 0, 1) := by decide +kernel
theorem dL_law_32 : decode cL_law 32 = .ok (.iconst 1, 1) := by decide +kernel
theorem dL_law_33 : decode cL_law 33 = .ok (.invokestatic 96, 3) := by decide +kernel
theorem dL_law_36 : decode cL_law 36 = .ok (.bipush 12, 2) := by decide +kernel
theorem dL_law_38 : decode cL_law 38 = .ok (.irem, 1) := by decide +kernel
theorem dL_law_39 : decode cL_law 39 = .ok (.invokestatic 100, 3) := by decide +kernel
theorem dL_law_42 : decode cL_law 42 = .ok (.ifCond .ne 7, 3) := by decide +kernel
theorem dL_law_45 : decode cL_law 45 = .ok (.iconst 1, 1) := by decide +kernel
theorem dL_law_46 : decode cL_law 46 = .ok (.goto 4, 3) := by decide +kernel
theorem dL_law_49 : decode cL_law 49 = .ok (.iconst 0, 1) := by decide +kernel
theorem dL_law_50 : decode cL_law 50 = .ok (.istore 7, 2) := by decide +kernel
theorem dL_law_52 : decode cL_law 52 = .ok (.iconst 2, 1) := by decide +kernel
theorem dL_law_53 : decode cL_law 53 = .ok (.istore 8, 2) := by decide +kernel
theorem dL_law_55 : decode cL_law 55 = .ok (.iload 8, 2) := by decide +kernel
theorem dL_law_57 : decode cL_law 57 = .ok (.bipush 34, 2) := by decide +kernel
theorem dL_law_59 : decode cL_law 59 = .ok (.if_icmp .ge 632, 3) := by decide +kernel
theorem dL_law_62 : decode cL_law 62 = .ok (.iload 7, 2) := by decide +kernel
theorem dL_law_64 : decode cL_law 64 = .ok (.ifCond .eq 627, 3) := by decide +kernel
theorem dL_law_67 : decode cL_law 67 = .ok (.aload_n 0, 1) := by decide +kernel
theorem dL_law_68 : decode cL_law 68 = .ok (.iload 8, 2) := by decide +kernel
theorem dL_law_70 : decode cL_law 70 = .ok (.invokestatic 96, 3) := by decide +kernel
theorem dL_law_73 : decode cL_law 73 = .ok (.istore 9, 2) := by decide +kernel
theorem dL_law_75 : decode cL_law 75 = .ok (.iload 9, 2) := by decide +kernel
theorem dL_law_77 : decode cL_law 77 = .ok (.bipush 16, 2) := by decide +kernel
theorem dL_law_79 : decode cL_law 79 = .ok (.idiv, 1) := by decide +kernel
theorem dL_law_80 : decode cL_law 80 = .ok (.istore 10, 2) := by decide +kernel
theorem dL_law_82 : decode cL_law 82 = .ok (.iload 9, 2) := by decide +kernel
theorem dL_law_84 : decode cL_law 84 = .ok (.bipush 16, 2) := by decide +kernel
theorem dL_law_86 : decode cL_law 86 = .ok (.irem, 1) := by decide +kernel
theorem dL_law_87 : decode cL_law 87 = .ok (.istore 11, 2) := by decide +kernel
theorem dL_law_89 : decode cL_law 89 = .ok (.iload 11, 2) := by decide +kernel
theorem dL_law_91 : decode cL_law 91 = .ok (.iconst 2, 1) := by decide +kernel
theorem dL_law_92 : decode cL_law 92 = .ok (.if_icmp .ge 66, 3) := by decide +kernel
theorem dL_law_95 : decode cL_law 95 = .ok (.iconst 1, 1) := by decide +kernel
theorem dL_law_96 : decode cL_law 96 = .ok (.iload 10, 2) := by decide +kernel
theorem dL_law_98 : decode cL_law 98 = .ok (.bipush 12, 2) := by decide +kernel
theorem dL_law_100 : decode cL_law 100 = .ok (.idiv, 1) := by decide +kernel
theorem dL_law_101 : decode cL_law 101 = .ok (.bipush 6, 2) := by decide +kernel
theorem dL_law_103 : decode cL_law 103 = .ok (.irem, 1) := by decide +kernel
theorem dL_law_104 : decode cL_law 104 = .ok (.iadd, 1) := by decide +kernel
theorem dL_law_105 : decode cL_law 105 = .ok (.istore 12, 2) := by decide +kernel
theorem dL_law_107 : decode cL_law 107 = .ok (.aload_n 1, 1) := by decide +kernel
theorem dL_law_108 : decode cL_law 108 = .ok (.iload 10, 2) := by decide +kernel
theorem dL_law_110 : decode cL_law 110 = .ok (.bipush 12, 2) := by decide +kernel
theorem dL_law_112 : decode cL_law 112 = .ok (.irem, 1) := by decide +kernel
theorem dL_law_113 : decode cL_law 113 = .ok (.iload 12, 2) := by decide +kernel
theorem dL_law_115 : decode cL_law 115 = .ok (.invokestatic 102, 3) := by decide +kernel
theorem dL_law_118 : decode cL_law 118 = .ok (.istore 13, 2) := by decide +kernel
theorem dL_law_120 : decode cL_law 120 = .ok (.iload 13, 2) := by decide +kernel
theorem dL_law_122 : decode cL_law 122 = .ok (.bipush (-103), 2) := by decide +kernel
theorem dL_law_124 : decode cL_law 124 = .ok (.if_icmp .eq 12, 3) := by decide +kernel
theorem dL_law_127 : decode cL_law 127 = .ok (.iload 13, 2) := by decide +kernel
theorem dL_law_129 : decode cL_law 129 = .ok (.iload_n 2, 1) := by decide +kernel
theorem dL_law_130 : decode cL_law 130 = .ok (.iload 12, 2) := by decide +kernel
theorem dL_law_132 : decode cL_law 132 = .ok (.iadd, 1) := by decide +kernel
theorem dL_law_133 : decode cL_law 133 = .ok (.if_icmp .ne 7, 3) := by decide +kernel
theorem dL_law_136 : decode cL_law 136 = .ok (.iconst 1, 1) := by decide +kernel
theorem dL_law_137 : decode cL_law 137 = .ok (.goto 4, 3) := by decide +kernel
theorem dL_law_140 : decode cL_law 140 = .ok (.iconst 0, 1) := by decide +kernel
theorem dL_law_141 : decode cL_law 141 = .ok (.istore 7, 2) := by decide +kernel
theorem dL_law_143 : decode cL_law 143 = .ok (.iload 13, 2) := by decide +kernel
theorem dL_law_145 : decode cL_law 145 = .ok (.ifCond .le 8, 3) := by decide +kernel
theorem dL_law_148 : decode cL_law 148 = .ok (.iload 13, 2) := by decide +kernel
theorem dL_law_150 : decode cL_law 150 = .ok (.goto 4, 3) := by decide +kernel
theorem dL_law_153 : decode cL_law 153 = .ok (.iload_n 2, 1) := by decide +kernel
theorem dL_law_154 : decode cL_law 154 = .ok (.istore_n 2, 1) := by decide +kernel
theorem dL_law_155 : decode cL_law 155 = .ok (.goto 474, 3) := by decide +kernel
theorem dL_law_158 : decode cL_law 158 = .ok (.iload 11, 2) := by decide +kernel
theorem dL_law_160 : decode cL_law 160 = .ok (.iconst 2, 1) := by decide +kernel
theorem dL_law_161 : decode cL_law 161 = .ok (.if_icmp .ne 30, 3) := by decide +kernel
theorem dL_law_164 : decode cL_law 164 = .ok (.aload_n 1, 1) := by decide +kernel
theorem dL_law_165 : decode cL_law 165 = .ok (.iload 10, 2) := by decide +kernel
theorem dL_law_167 : decode cL_law 167 = .ok (.bipush 81, 2) := by decide +kernel
theorem dL_law_169 : decode cL_law 169 = .ok (.irem, 1) := by decide +kernel
theorem dL_law_170 : decode cL_law 170 = .ok (.bipush 40, 2) := by decide +kernel
theorem dL_law_172 : decode cL_law 172 = .ok (.isub, 1) := by decide +kernel
theorem dL_law_173 : decode cL_law 173 = .ok (.invokestatic 104, 3) := by decide +kernel
theorem dL_law_176 : decode cL_law 176 = .ok (.bipush (-40), 2) := by decide +kernel
theorem dL_law_178 : decode cL_law 178 = .ok (.if_icmp .lt 7, 3) := by decide +kernel
theorem dL_law_181 : decode cL_law 181 = .ok (.iconst 1, 1) := by decide +kernel
theorem dL_law_182 : decode cL_law 182 = .ok (.goto 4, 3) := by decide +kernel
theorem dL_law_185 : decode cL_law 185 = .ok (.iconst 0, 1) := by decide +kernel
theorem dL_law_186 : decode cL_law 186 = .ok (.istore 7, 2) := by decide +kernel
theorem dL_law_188 : decode cL_law 188 = .ok (.goto 441, 3) := by decide +kernel
theorem dL_law_191 : decode cL_law 191 = .ok (.iload 11, 2) := by decide +kernel
theorem dL_law_193 : decode cL_law 193 = .ok (.iconst 5, 1) := by decide +kernel
theorem dL_law_194 : decode cL_law 194 = .ok (.if_icmp .ge 47, 3) := by decide +kernel
theorem dL_law_197 : decode cL_law 197 = .ok (.aload_n 1, 1) := by decide +kernel
theorem dL_law_198 : decode cL_law 198 = .ok (.iload 10, 2) := by decide +kernel
theorem dL_law_200 : decode cL_law 200 = .ok (.bipush 12, 2) := by decide +kernel
theorem dL_law_202 : decode cL_law 202 = .ok (.irem, 1) := by decide +kernel
theorem dL_law_203 : decode cL_law 203 = .ok (.iconst 1, 1) := by decide +kernel
theorem dL_law_204 : decode cL_law 204 = .ok (.iload 10, 2) := by decide +kernel
theorem dL_law_206 : decode cL_law 206 = .ok (.bipush 12, 2) := by decide +kernel
theorem dL_law_208 : decode cL_law 208 = .ok (.idiv, 1) := by decide +kernel
theorem dL_law_209 : decode cL_law 209 = .ok (.sipush 200, 3) := by decide +kernel
theorem dL_law_212 : decode cL_law 212 = .ok (.irem, 1) := by decide +kernel
theorem dL_law_213 : decode cL_law 213 = .ok (.iadd, 1) := by decide +kernel
theorem dL_law_214 : decode cL_law 214 = .ok (.invokestatic 106, 3) := by decide +kernel
theorem dL_law_217 : decode cL_law 217 = .ok (.istore 12, 2) := by decide +kernel
theorem dL_law_219 : decode cL_law 219 = .ok (.iload 12, 2) := by decide +kernel
theorem dL_law_221 : decode cL_law 221 = .ok (.ifCond .eq 10, 3) := by decide +kernel
theorem dL_law_224 : decode cL_law 224 = .ok (.iload 12, 2) := by decide +kernel
theorem dL_law_226 : decode cL_law 226 = .ok (.bipush (-103), 2) := by decide +kernel
theorem dL_law_228 : decode cL_law 228 = .ok (.if_icmp .ne 7, 3) := by decide +kernel
theorem dL_law_231 : decode cL_law 231 = .ok (.iconst 1, 1) := by decide +kernel
theorem dL_law_232 : decode cL_law 232 = .ok (.goto 4, 3) := by decide +kernel
theorem dL_law_235 : decode cL_law 235 = .ok (.iconst 0, 1) := by decide +kernel
theorem dL_law_236 : decode cL_law 236 = .ok (.istore 7, 2) := by decide +kernel
theorem dL_law_238 : decode cL_law 238 = .ok (.goto 391, 3) := by decide +kernel
theorem dL_law_241 : decode cL_law 241 = .ok (.iload 11, 2) := by decide +kernel
theorem dL_law_243 : decode cL_law 243 = .ok (.iconst 5, 1) := by decide +kernel
theorem dL_law_244 : decode cL_law 244 = .ok (.if_icmp .ne 65, 3) := by decide +kernel
theorem dL_law_247 : decode cL_law 247 = .ok (.aload_n 1, 1) := by decide +kernel
theorem dL_law_248 : decode cL_law 248 = .ok (.iload 10, 2) := by decide +kernel
theorem dL_law_250 : decode cL_law 250 = .ok (.iconst 2, 1) := by decide +kernel
theorem dL_law_251 : decode cL_law 251 = .ok (.irem, 1) := by decide +kernel
theorem dL_law_252 : decode cL_law 252 = .ok (.iload 10, 2) := by decide +kernel
theorem dL_law_254 : decode cL_law 254 = .ok (.iconst 2, 1) := by decide +kernel
theorem dL_law_255 : decode cL_law 255 = .ok (.idiv, 1) := by decide +kernel
theorem dL_law_256 : decode cL_law 256 = .ok (.iconst 3, 1) := by decide +kernel
theorem dL_law_257 : decode cL_law 257 = .ok (.irem, 1) := by decide +kernel
theorem dL_law_258 : decode cL_law 258 = .ok (.ifCond .le 7, 3) := by decide +kernel
theorem dL_law_261 : decode cL_law 261 = .ok (.iconst 1, 1) := by decide +kernel
theorem dL_law_262 : decode cL_law 262 = .ok (.goto 4, 3) := by decide +kernel
theorem dL_law_265 : decode cL_law 265 = .ok (.iconst 0, 1) := by decide +kernel
theorem dL_law_266 : decode cL_law 266 = .ok (.invokestatic 108, 3) := by decide +kernel
theorem dL_law_269 : decode cL_law 269 = .ok (.ifCond .lt 34, 3) := by decide +kernel
theorem dL_law_272 : decode cL_law 272 = .ok (.aload_n 1, 1) := by decide +kernel
theorem dL_law_273 : decode cL_law 273 = .ok (.iload 10, 2) := by decide +kernel
theorem dL_law_275 : decode cL_law 275 = .ok (.iconst 3, 1) := by decide +kernel
theorem dL_law_276 : decode cL_law 276 = .ok (.irem, 1) := by decide +kernel
theorem dL_law_277 : decode cL_law 277 = .ok (.iload 10, 2) := by decide +kernel
theorem dL_law_279 : decode cL_law 279 = .ok (.bipush 6, 2) := by decide +kernel
theorem dL_law_281 : decode cL_law 281 = .ok (.idiv, 1) := by decide +kernel
theorem dL_law_282 : decode cL_law 282 = .ok (.iconst 3, 1) := by decide +kernel
theorem dL_law_283 : decode cL_law 283 = .ok (.irem, 1) := by decide +kernel
theorem dL_law_284 : decode cL_law 284 = .ok (.ifCond .ne 7, 3) := by decide +kernel
theorem dL_law_287 : decode cL_law 287 = .ok (.iconst 1, 1) := by decide +kernel
theorem dL_law_288 : decode cL_law 288 = .ok (.goto 4, 3) := by decide +kernel
theorem dL_law_291 : decode cL_law 291 = .ok (.iconst 0, 1) := by decide +kernel
theorem dL_law_292 : decode cL_law 292 = .ok (.invokestatic 111, 3) := by decide +kernel
theorem dL_law_295 : decode cL_law 295 = .ok (.iconst (-1), 1) := by decide +kernel
theorem dL_law_296 : decode cL_law 296 = .ok (.if_icmp .lt 7, 3) := by decide +kernel
theorem dL_law_299 : decode cL_law 299 = .ok (.iconst 1, 1) := by decide +kernel
theorem dL_law_300 : decode cL_law 300 = .ok (.goto 4, 3) := by decide +kernel
theorem dL_law_303 : decode cL_law 303 = .ok (.iconst 0, 1) := by decide +kernel
theorem dL_law_304 : decode cL_law 304 = .ok (.istore 7, 2) := by decide +kernel
theorem dL_law_306 : decode cL_law 306 = .ok (.goto 323, 3) := by decide +kernel
theorem dL_law_309 : decode cL_law 309 = .ok (.iload 11, 2) := by decide +kernel
theorem dL_law_311 : decode cL_law 311 = .ok (.bipush 6, 2) := by decide +kernel
theorem dL_law_313 : decode cL_law 313 = .ok (.if_icmp .ne 106, 3) := by decide +kernel
theorem dL_law_316 : decode cL_law 316 = .ok (.aload_n 1, 1) := by decide +kernel
theorem dL_law_317 : decode cL_law 317 = .ok (.iload 10, 2) := by decide +kernel
theorem dL_law_319 : decode cL_law 319 = .ok (.bipush 12, 2) := by decide +kernel
theorem dL_law_321 : decode cL_law 321 = .ok (.irem, 1) := by decide +kernel
theorem dL_law_322 : decode cL_law 322 = .ok (.iload 10, 2) := by decide +kernel
theorem dL_law_324 : decode cL_law 324 = .ok (.bipush 12, 2) := by decide +kernel
theorem dL_law_326 : decode cL_law 326 = .ok (.idiv, 1) := by decide +kernel
theorem dL_law_327 : decode cL_law 327 = .ok (.iconst 2, 1) := by decide +kernel
theorem dL_law_328 : decode cL_law 328 = .ok (.irem, 1) := by decide +kernel
theorem dL_law_329 : decode cL_law 329 = .ok (.ifCond .ne 7, 3) := by decide +kernel
theorem dL_law_332 : decode cL_law 332 = .ok (.iconst 1, 1) := by decide +kernel
theorem dL_law_333 : decode cL_law 333 = .ok (.goto 4, 3) := by decide +kernel
theorem dL_law_336 : decode cL_law 336 = .ok (.iconst 0, 1) := by decide +kernel
theorem dL_law_337 : decode cL_law 337 = .ok (.invokestatic 113, 3) := by decide +kernel
theorem dL_law_340 : decode cL_law 340 = .ok (.istore 12, 2) := by decide +kernel
theorem dL_law_342 : decode cL_law 342 = .ok (.iload 12, 2) := by decide +kernel
theorem dL_law_344 : decode cL_law 344 = .ok (.aload_n 1, 1) := by decide +kernel
theorem dL_law_345 : decode cL_law 345 = .ok (.iload 10, 2) := by decide +kernel
theorem dL_law_347 : decode cL_law 347 = .ok (.bipush 12, 2) := by decide +kernel
theorem dL_law_349 : decode cL_law 349 = .ok (.irem, 1) := by decide +kernel
theorem dL_law_350 : decode cL_law 350 = .ok (.iconst 4, 1) := by decide +kernel
theorem dL_law_351 : decode cL_law 351 = .ok (.invokestatic 85, 3) := by decide +kernel
theorem dL_law_354 : decode cL_law 354 = .ok (.ifCond .ge 8, 3) := by decide +kernel
theorem dL_law_357 : decode cL_law 357 = .ok (.bipush (-101), 2) := by decide +kernel
theorem dL_law_359 : decode cL_law 359 = .ok (.goto 13, 3) := by decide +kernel
theorem dL_law_362 : decode cL_law 362 = .ok (.aload_n 1, 1) := by decide +kernel
theorem dL_law_363 : decode cL_law 363 = .ok (.iload 10, 2) := by decide +kernel
theorem dL_law_365 : decode cL_law 365 = .ok (.bipush 12, 2) := by decide +kernel
theorem dL_law_367 : decode cL_law 367 = .ok (.irem, 1) := by decide +kernel
theorem dL_law_368 : decode cL_law 368 = .ok (.iconst 4, 1) := by decide +kernel
theorem dL_law_369 : decode cL_law 369 = .ok (.invokestatic 85, 3) := by decide +kernel
theorem dL_law_372 : decode cL_law 372 = .ok (.if_icmp .ne 41, 3) := by decide +kernel
theorem dL_law_375 : decode cL_law 375 = .ok (.aload_n 1, 1) := by decide +kernel
theorem dL_law_376 : decode cL_law 376 = .ok (.iload 10, 2) := by decide +kernel
theorem dL_law_378 : decode cL_law 378 = .ok (.bipush 12, 2) := by decide +kernel
theorem dL_law_380 : decode cL_law 380 = .ok (.irem, 1) := by decide +kernel
theorem dL_law_381 : decode cL_law 381 = .ok (.iload 10, 2) := by decide +kernel
theorem dL_law_383 : decode cL_law 383 = .ok (.bipush 24, 2) := by decide +kernel
theorem dL_law_385 : decode cL_law 385 = .ok (.idiv, 1) := by decide +kernel
theorem dL_law_386 : decode cL_law 386 = .ok (.iconst 3, 1) := by decide +kernel
theorem dL_law_387 : decode cL_law 387 = .ok (.irem, 1) := by decide +kernel
theorem dL_law_388 : decode cL_law 388 = .ok (.iload 10, 2) := by decide +kernel
theorem dL_law_390 : decode cL_law 390 = .ok (.bipush 72, 2) := by decide +kernel
theorem dL_law_392 : decode cL_law 392 = .ok (.idiv, 1) := by decide +kernel
theorem dL_law_393 : decode cL_law 393 = .ok (.iconst 2, 1) := by decide +kernel
theorem dL_law_394 : decode cL_law 394 = .ok (.irem, 1) := by decide +kernel
theorem dL_law_395 : decode cL_law 395 = .ok (.ifCond .ne 7, 3) := by decide +kernel
theorem dL_law_398 : decode cL_law 398 = .ok (.iconst 1, 1) := by decide +kernel
theorem dL_law_399 : decode cL_law 399 = .ok (.goto 4, 3) := by decide +kernel
theorem dL_law_402 : decode cL_law 402 = .ok (.iconst 0, 1) := by decide +kernel
theorem dL_law_403 : decode cL_law 403 = .ok (.invokestatic 115, 3) := by decide +kernel
theorem dL_law_406 : decode cL_law 406 = .ok (.ifCond .ne 7, 3) := by decide +kernel
theorem dL_law_409 : decode cL_law 409 = .ok (.iconst 1, 1) := by decide +kernel
theorem dL_law_410 : decode cL_law 410 = .ok (.goto 4, 3) := by decide +kernel
theorem dL_law_413 : decode cL_law 413 = .ok (.iconst 0, 1) := by decide +kernel
theorem dL_law_414 : decode cL_law 414 = .ok (.istore 7, 2) := by decide +kernel
theorem dL_law_416 : decode cL_law 416 = .ok (.goto 213, 3) := by decide +kernel
theorem dL_law_419 : decode cL_law 419 = .ok (.iload 11, 2) := by decide +kernel
theorem dL_law_421 : decode cL_law 421 = .ok (.bipush 9, 2) := by decide +kernel
theorem dL_law_423 : decode cL_law 423 = .ok (.if_icmp .ge 73, 3) := by decide +kernel
theorem dL_law_426 : decode cL_law 426 = .ok (.aload_n 1, 1) := by decide +kernel
theorem dL_law_427 : decode cL_law 427 = .ok (.iload 10, 2) := by decide +kernel
theorem dL_law_429 : decode cL_law 429 = .ok (.bipush 8, 2) := by decide +kernel
theorem dL_law_431 : decode cL_law 431 = .ok (.irem, 1) := by decide +kernel
theorem dL_law_432 : decode cL_law 432 = .ok (.iload 10, 2) := by decide +kernel
theorem dL_law_434 : decode cL_law 434 = .ok (.bipush 8, 2) := by decide +kernel
theorem dL_law_436 : decode cL_law 436 = .ok (.idiv, 1) := by decide +kernel
theorem dL_law_437 : decode cL_law 437 = .ok (.bipush 6, 2) := by decide +kernel
theorem dL_law_439 : decode cL_law 439 = .ok (.irem, 1) := by decide +kernel
theorem dL_law_440 : decode cL_law 440 = .ok (.iload 10, 2) := by decide +kernel
theorem dL_law_442 : decode cL_law 442 = .ok (.bipush 48, 2) := by decide +kernel
theorem dL_law_444 : decode cL_law 444 = .ok (.idiv, 1) := by decide +kernel
theorem dL_law_445 : decode cL_law 445 = .ok (.iconst 3, 1) := by decide +kernel
theorem dL_law_446 : decode cL_law 446 = .ok (.irem, 1) := by decide +kernel
theorem dL_law_447 : decode cL_law 447 = .ok (.ifCond .ne 7, 3) := by decide +kernel
theorem dL_law_450 : decode cL_law 450 = .ok (.iconst 1, 1) := by decide +kernel
theorem dL_law_451 : decode cL_law 451 = .ok (.goto 4, 3) := by decide +kernel
theorem dL_law_454 : decode cL_law 454 = .ok (.iconst 0, 1) := by decide +kernel
theorem dL_law_455 : decode cL_law 455 = .ok (.invokestatic 118, 3) := by decide +kernel
theorem dL_law_458 : decode cL_law 458 = .ok (.istore 12, 2) := by decide +kernel
theorem dL_law_460 : decode cL_law 460 = .ok (.iload 12, 2) := by decide +kernel
theorem dL_law_462 : decode cL_law 462 = .ok (.iload_n 3, 1) := by decide +kernel
theorem dL_law_463 : decode cL_law 463 = .ok (.if_icmp .eq 10, 3) := by decide +kernel
theorem dL_law_466 : decode cL_law 466 = .ok (.iload 12, 2) := by decide +kernel
theorem dL_law_468 : decode cL_law 468 = .ok (.bipush (-103), 2) := by decide +kernel
theorem dL_law_470 : decode cL_law 470 = .ok (.if_icmp .ne 7, 3) := by decide +kernel
theorem dL_law_473 : decode cL_law 473 = .ok (.iconst 1, 1) := by decide +kernel
theorem dL_law_474 : decode cL_law 474 = .ok (.goto 4, 3) := by decide +kernel
theorem dL_law_477 : decode cL_law 477 = .ok (.iconst 0, 1) := by decide +kernel
theorem dL_law_478 : decode cL_law 478 = .ok (.istore 7, 2) := by decide +kernel
theorem dL_law_480 : decode cL_law 480 = .ok (.iload_n 3, 1) := by decide +kernel
theorem dL_law_481 : decode cL_law 481 = .ok (.iload 12, 2) := by decide +kernel
theorem dL_law_483 : decode cL_law 483 = .ok (.ifCond .lt 7, 3) := by decide +kernel
theorem dL_law_486 : decode cL_law 486 = .ok (.iconst 1, 1) := by decide +kernel
theorem dL_law_487 : decode cL_law 487 = .ok (.goto 4, 3) := by decide +kernel
theorem dL_law_490 : decode cL_law 490 = .ok (.iconst 0, 1) := by decide +kernel
theorem dL_law_491 : decode cL_law 491 = .ok (.iadd, 1) := by decide +kernel
theorem dL_law_492 : decode cL_law 492 = .ok (.istore_n 3, 1) := by decide +kernel
theorem dL_law_493 : decode cL_law 493 = .ok (.goto 136, 3) := by decide +kernel
theorem dL_law_496 : decode cL_law 496 = .ok (.iload 11, 2) := by decide +kernel
theorem dL_law_498 : decode cL_law 498 = .ok (.bipush 9, 2) := by decide +kernel
theorem dL_law_500 : decode cL_law 500 = .ok (.if_icmp .ne 33, 3) := by decide +kernel
theorem dL_law_503 : decode cL_law 503 = .ok (.aload_n 1, 1) := by decide +kernel
theorem dL_law_504 : decode cL_law 504 = .ok (.iload 10, 2) := by decide +kernel
theorem dL_law_506 : decode cL_law 506 = .ok (.iconst 3, 1) := by decide +kernel
theorem dL_law_507 : decode cL_law 507 = .ok (.irem, 1) := by decide +kernel
theorem dL_law_508 : decode cL_law 508 = .ok (.iload 10, 2) := by decide +kernel
theorem dL_law_510 : decode cL_law 510 = .ok (.iconst 3, 1) := by decide +kernel
theorem dL_law_511 : decode cL_law 511 = .ok (.idiv, 1) := by decide +kernel
theorem dL_law_512 : decode cL_law 512 = .ok (.iconst 3, 1) := by decide +kernel
theorem dL_law_513 : decode cL_law 513 = .ok (.irem, 1) := by decide +kernel
theorem dL_law_514 : decode cL_law 514 = .ok (.iconst 1, 1) := by decide +kernel
theorem dL_law_515 : decode cL_law 515 = .ok (.isub, 1) := by decide +kernel
theorem dL_law_516 : decode cL_law 516 = .ok (.invokestatic 120, 3) := by decide +kernel
theorem dL_law_519 : decode cL_law 519 = .ok (.iconst (-1), 1) := by decide +kernel
theorem dL_law_520 : decode cL_law 520 = .ok (.if_icmp .lt 7, 3) := by decide +kernel
theorem dL_law_523 : decode cL_law 523 = .ok (.iconst 1, 1) := by decide +kernel
theorem dL_law_524 : decode cL_law 524 = .ok (.goto 4, 3) := by decide +kernel
theorem dL_law_527 : decode cL_law 527 = .ok (.iconst 0, 1) := by decide +kernel
theorem dL_law_528 : decode cL_law 528 = .ok (.istore 7, 2) := by decide +kernel
theorem dL_law_530 : decode cL_law 530 = .ok (.goto 99, 3) := by decide +kernel
theorem dL_law_533 : decode cL_law 533 = .ok (.aload_n 1, 1) := by decide +kernel
theorem dL_law_534 : decode cL_law 534 = .ok (.iload 10, 2) := by decide +kernel
theorem dL_law_536 : decode cL_law 536 = .ok (.iconst 3, 1) := by decide +kernel
theorem dL_law_537 : decode cL_law 537 = .ok (.irem, 1) := by decide +kernel
theorem dL_law_538 : decode cL_law 538 = .ok (.invokestatic 122, 3) := by decide +kernel
theorem dL_law_541 : decode cL_law 541 = .ok (.istore 12, 2) := by decide +kernel
theorem dL_law_543 : decode cL_law 543 = .ok (.iload 10, 2) := by decide +kernel
theorem dL_law_545 : decode cL_law 545 = .ok (.iconst 3, 1) := by decide +kernel
theorem dL_law_546 : decode cL_law 546 = .ok (.idiv, 1) := by decide +kernel
theorem dL_law_547 : decode cL_law 547 = .ok (.iconst 3, 1) := by decide +kernel
theorem dL_law_548 : decode cL_law 548 = .ok (.irem, 1) := by decide +kernel
theorem dL_law_549 : decode cL_law 549 = .ok (.ifCond .ne 16, 3) := by decide +kernel
theorem dL_law_552 : decode cL_law 552 = .ok (.iconst 1, 1) := by decide +kernel
theorem dL_law_553 : decode cL_law 553 = .ok (.iload 10, 2) := by decide +kernel
theorem dL_law_555 : decode cL_law 555 = .ok (.bipush 9, 2) := by decide +kernel
theorem dL_law_557 : decode cL_law 557 = .ok (.idiv, 1) := by decide +kernel
theorem dL_law_558 : decode cL_law 558 = .ok (.bipush 12, 2) := by decide +kernel
theorem dL_law_560 : decode cL_law 560 = .ok (.irem, 1) := by decide +kernel
theorem dL_law_561 : decode cL_law 561 = .ok (.iadd, 1) := by decide +kernel
theorem dL_law_562 : decode cL_law 562 = .ok (.goto 4, 3) := by decide +kernel
theorem dL_law_565 : decode cL_law 565 = .ok (.iconst 1, 1) := by decide +kernel
theorem dL_law_566 : decode cL_law 566 = .ok (.istore 13, 2) := by decide +kernel
theorem dL_law_568 : decode cL_law 568 = .ok (.iload 4, 2) := by decide +kernel
theorem dL_law_570 : decode cL_law 570 = .ok (.iload 13, 2) := by decide +kernel
theorem dL_law_572 : decode cL_law 572 = .ok (.iadd, 1) := by decide +kernel
theorem dL_law_573 : decode cL_law 573 = .ok (.istore 4, 2) := by decide +kernel
theorem dL_law_575 : decode cL_law 575 = .ok (.aload_n 1, 1) := by decide +kernel
theorem dL_law_576 : decode cL_law 576 = .ok (.iload 13, 2) := by decide +kernel
theorem dL_law_578 : decode cL_law 578 = .ok (.invokestatic 124, 3) := by decide +kernel
theorem dL_law_581 : decode cL_law 581 = .ok (.iload 4, 2) := by decide +kernel
theorem dL_law_583 : decode cL_law 583 = .ok (.if_icmp .ne 43, 3) := by decide +kernel
theorem dL_law_586 : decode cL_law 586 = .ok (.iload 13, 2) := by decide +kernel
theorem dL_law_588 : decode cL_law 588 = .ok (.iconst 1, 1) := by decide +kernel
theorem dL_law_589 : decode cL_law 589 = .ok (.if_icmp .gt 33, 3) := by decide +kernel
theorem dL_law_592 : decode cL_law 592 = .ok (.aload_n 1, 1) := by decide +kernel
theorem dL_law_593 : decode cL_law 593 = .ok (.iload 10, 2) := by decide +kernel
theorem dL_law_595 : decode cL_law 595 = .ok (.iconst 3, 1) := by decide +kernel
theorem dL_law_596 : decode cL_law 596 = .ok (.irem, 1) := by decide +kernel
theorem dL_law_597 : decode cL_law 597 = .ok (.invokestatic 122, 3) := by decide +kernel
theorem dL_law_600 : decode cL_law 600 = .ok (.iload 12, 2) := by decide +kernel
theorem dL_law_602 : decode cL_law 602 = .ok (.iconst 1, 1) := by decide +kernel
theorem dL_law_603 : decode cL_law 603 = .ok (.iadd, 1) := by decide +kernel
theorem dL_law_604 : decode cL_law 604 = .ok (.if_icmp .gt 22, 3) := by decide +kernel
theorem dL_law_607 : decode cL_law 607 = .ok (.aload_n 1, 1) := by decide +kernel
theorem dL_law_608 : decode cL_law 608 = .ok (.iload 10, 2) := by decide +kernel
theorem dL_law_610 : decode cL_law 610 = .ok (.iconst 3, 1) := by decide +kernel
theorem dL_law_611 : decode cL_law 611 = .ok (.irem, 1) := by decide +kernel
theorem dL_law_612 : decode cL_law 612 = .ok (.invokestatic 122, 3) := by decide +kernel
theorem dL_law_615 : decode cL_law 615 = .ok (.iload 12, 2) := by decide +kernel
theorem dL_law_617 : decode cL_law 617 = .ok (.iconst 1, 1) := by decide +kernel
theorem dL_law_618 : decode cL_law 618 = .ok (.isub, 1) := by decide +kernel
theorem dL_law_619 : decode cL_law 619 = .ok (.if_icmp .lt 7, 3) := by decide +kernel
theorem dL_law_622 : decode cL_law 622 = .ok (.iconst 1, 1) := by decide +kernel
theorem dL_law_623 : decode cL_law 623 = .ok (.goto 4, 3) := by decide +kernel
theorem dL_law_626 : decode cL_law 626 = .ok (.iconst 0, 1) := by decide +kernel
theorem dL_law_627 : decode cL_law 627 = .ok (.istore 7, 2) := by decide +kernel
theorem dL_law_629 : decode cL_law 629 = .ok (.iload 7, 2) := by decide +kernel
theorem dL_law_631 : decode cL_law 631 = .ok (.ifCond .eq 39, 3) := by decide +kernel
theorem dL_law_634 : decode cL_law 634 = .ok (.aload_n 1, 1) := by decide +kernel
theorem dL_law_635 : decode cL_law 635 = .ok (.iload_n 2, 1) := by decide +kernel
theorem dL_law_636 : decode cL_law 636 = .ok (.iload_n 3, 1) := by decide +kernel
theorem dL_law_637 : decode cL_law 637 = .ok (.invokestatic 126, 3) := by decide +kernel
theorem dL_law_640 : decode cL_law 640 = .ok (.ifCond .eq 30, 3) := by decide +kernel
theorem dL_law_643 : decode cL_law 643 = .ok (.aload_n 1, 1) := by decide +kernel
theorem dL_law_644 : decode cL_law 644 = .ok (.invokevirtual 130, 3) := by decide +kernel
theorem dL_law_647 : decode cL_law 647 = .ok (.iload 5, 2) := by decide +kernel
theorem dL_law_649 : decode cL_law 649 = .ok (.if_icmp .lt 21, 3) := by decide +kernel
theorem dL_law_652 : decode cL_law 652 = .ok (.iload 6, 2) := by decide +kernel
theorem dL_law_654 : decode cL_law 654 = .ok (.ifCond .lt 12, 3) := by decide +kernel
theorem dL_law_657 : decode cL_law 657 = .ok (.aload_n 1, 1) := by decide +kernel
theorem dL_law_658 : decode cL_law 658 = .ok (.invokevirtual 92, 3) := by decide +kernel
theorem dL_law_661 : decode cL_law 661 = .ok (.iload 6, 2) := by decide +kernel
theorem dL_law_663 : decode cL_law 663 = .ok (.if_icmp .ne 7, 3) := by decide +kernel
theorem dL_law_666 : decode cL_law 666 = .ok (.iconst 1, 1) := by decide +kernel
theorem dL_law_667 : decode cL_law 667 = .ok (.goto 4, 3) := by decide +kernel
theorem dL_law_670 : decode cL_law 670 = .ok (.iconst 0, 1) := by decide +kernel
theorem dL_law_671 : decode cL_law 671 = .ok (.istore 7, 2) := by decide +kernel
theorem dL_law_673 : decode cL_law 673 = .ok (.aload_n 1, 1) := by decide +kernel
theorem dL_law_674 : decode cL_law 674 = .ok (.invokevirtual 130, 3) := by decide +kernel
theorem dL_law_677 : decode cL_law 677 = .ok (.istore 5, 2) := by decide +kernel
theorem dL_law_679 : decode cL_law 679 = .ok (.aload_n 1, 1) := by decide +kernel
theorem dL_law_680 : decode cL_law 680 = .ok (.invokevirtual 92, 3) := by decide +kernel
theorem dL_law_683 : decode cL_law 683 = .ok (.istore 6, 2) := by decide +kernel
theorem dL_law_685 : decode cL_law 685 = .ok (.iinc 8 1, 3) := by decide +kernel
theorem dL_law_688 : decode cL_law 688 = .ok (.goto (-633), 3) := by decide +kernel
theorem dL_law_691 : decode cL_law 691 = .ok (.iload 7, 2) := by decide +kernel
theorem dL_law_693 : decode cL_law 693 = .ok (.ireturn, 1) := by decide +kernel

