theorem dX8_balances_11 : decode cX8_balances 11 = .ok (.istore_n 2, 1) := by decide +kernel
theorem dX8_balances_12 : decode cX8_balances 12 = .ok (.iload_n 2, 1) := by decide +kernel
theorem dX8_balances_13 : decode cX8_balances 13 = .ok (.bipush 12, 2) := by decide +kernel
theorem dX8_balances_15 : decode cX8_balances 15 = .ok (.if_icmp .ge 18, 3) := by decide +kernel
theorem dX8_balances_18 : decode cX8_balances 18 = .ok (.iload_n 1, 1) := by decide +kernel
theorem dX8_balances_19 : decode cX8_balances 19 = .ok (.aload_n 0, 1) := by decide +kernel
theorem dX8_balances_20 : decode cX8_balances 20 = .ok (.getfield 7, 3) := by decide +kernel
theorem dX8_balances_23 : decode cX8_balances 23 = .ok (.iload_n 2, 1) := by decide +kernel
theorem dX8_balances_24 : decode cX8_balances 24 = .ok (.iaload, 1) := by decide +kernel
theorem dX8_balances_25 : decode cX8_balances 25 = .ok (.iadd, 1) := by decide +kernel
theorem dX8_balances_26 : decode cX8_balances 26 = .ok (.istore_n 1, 1) := by decide +kernel
theorem dX8_balances_27 : decode cX8_balances 27 = .ok (.iinc 2 1, 3) := by decide +kernel
theorem dX8_balances_30 : decode cX8_balances 30 = .ok (.goto (-18), 3) := by decide +kernel
theorem dX8_balances_33 : decode cX8_balances 33 = .ok (.iconst 0, 1) := by decide +kernel
theorem dX8_balances_34 : decode cX8_balances 34 = .ok (.istore_n 2, 1) := by decide +kernel
theorem dX8_balances_35 : decode cX8_balances 35 = .ok (.iconst 0, 1) := by decide +kernel
theorem dX8_balances_36 : decode cX8_balances 36 = .ok (.istore_n 3, 1) := by decide +kernel
theorem dX8_balances_37 : decode cX8_balances 37 = .ok (.iload_n 3, 1) := by decide +kernel
theorem dX8_balances_38 : decode cX8_balances 38 = .ok (.iconst 4, 1) := by decide +kernel
theorem dX8_balances_39 : decode cX8_balances 39 = .ok (.if_icmp .gt 17, 3) := by decide +kernel
theorem dX8_balances_42 : decode cX8_balances 42 = .ok (.iload_n 2, 1) := by decide +kernel
theorem dX8_balances_43 : decode cX8_balances 43 = .ok (.aload_n 0, 1) := by decide +kernel
theorem dX8_balances_44 : decode cX8_balances 44 = .ok (.iload_n 3, 1) := by decide +kernel
theorem dX8_balances_45 : decode cX8_balances 45 = .ok (.invokevirtual 206, 3) := by decide +kernel
theorem dX8_balances_48 : decode cX8_balances 48 = .ok (.iadd, 1) := by decide +kernel
theorem dX8_balances_49 : decode cX8_balances 49 = .ok (.istore_n 2, 1) := by decide +kernel
theorem dX8_balances_50 : decode cX8_balances 50 = .ok (.iinc 3 1, 3) := by decide +kernel
theorem dX8_balances_53 : decode cX8_balances 53 = .ok (.goto (-16), 3) := by decide +kernel
theorem dX8_balances_56 : decode cX8_balances 56 = .ok (.iload_n 1, 1) := by decide +kernel
theorem dX8_balances_57 : decode cX8_balances 57 = .ok (.aload_n 0, 1) := by decide +kernel
theorem dX8_balances_58 : decode cX8_balances 58 = .ok (.getfield 138, 3) := by decide +kernel
theorem dX8_balances_61 : decode cX8_balances 61 = .ok (.if_icmp .ne 15, 3) := by decide +kernel
theorem dX8_balances_64 : decode cX8_balances 64 = .ok (.iload_n 2, 1) := by decide +kernel
theorem dX8_balances_65 : decode cX8_balances 65 = .ok (.aload_n 0, 1) := by decide +kernel
theorem dX8_balances_66 : decode cX8_balances 66 = .ok (.getfield 97, 3) := by decide +kernel
theorem dX8_balances_69 : decode cX8_balances 69 = .ok (.if_icmp .ne 7, 3) := by decide +kernel
theorem dX8_balances_72 : decode cX8_balances 72 = .ok (.iconst 1, 1) := by decide +kernel
theorem dX8_balances_73 : decode cX8_balances 73 = .ok (.goto 4, 3) := by decide +kernel
theorem dX8_balances_76 : decode cX8_balances 76 = .ok (.iconst 0, 1) := by decide +kernel
theorem dX8_balances_77 : decode cX8_balances 77 = .ok (.ireturn, 1) := by decide +kernel
theorem dJ6_compare_7cf53_0 : decode cJ6_compare_7cf53 0 = .ok (.iload_n 0, 1) := by decide +kernel
theorem dJ6_compare_7cf53_1 : decode cJ6_compare_7cf53 1 = .ok (.iload_n 1, 1) := by decide +kernel
theorem dJ6_compare_7cf53_2 : decode cJ6_compare_7cf53 2 = .ok (.if_icmp .ge 7, 3) := by decide +kernel
theorem dJ6_compare_7cf53_5 : decode cJ6_compare_7cf53 5 = .ok (.iconst (-1), 1) := by decide +kernel
theorem dJ6_compare_7cf53_6 : decode cJ6_compare_7cf53 6 = .ok (.goto 13, 3) := by decide +kernel
theorem dJ6_compare_7cf53_9 : decode cJ6_compare_7cf53 9 = .ok (.iload_n 0, 1) := by decide +kernel
theorem dJ6_compare_7cf53_10 : decode cJ6_compare_7cf53 10 = .ok (.iload_n 1, 1) := by decide +kernel
theorem dJ6_compare_7cf53_11 : decode cJ6_compare_7cf53 11 = .ok (.if_icmp .ne 7, 3) := by decide +kernel
theorem dJ6_compare_7cf53_14 : decode cJ6_compare_7cf53 14 = .ok (.iconst 0, 1) := by decide +kernel
theorem dJ6_compare_7cf53_15 : decode cJ6_compare_7cf53 15 = .ok (.goto 4, 3) := by decide +kernel
theorem dJ6_compare_7cf53_18 : decode cJ6_compare_7cf53 18 = .ok (.iconst 1, 1) := by decide +kernel
theorem dJ6_compare_7cf53_19 : decode cJ6_compare_7cf53 19 = .ok (.ireturn, 1) := by decide +kernel
theorem dJ9_abs_0f7a4_0 : decode cJ9_abs_0f7a4 0 = .ok (.iload_n 0, 1) := by decide +kernel
theorem dJ9_abs_0f7a4_1 : decode cJ9_abs_0f7a4 1 = .ok (.ifCond .ge 8, 3) := by decide +kernel
theorem dJ9_abs_0f7a4_4 : decode cJ9_abs_0f7a4 4 = .ok (.iload_n 0, 1) := by decide +kernel
theorem dJ9_abs_0f7a4_5 : decode cJ9_abs_0f7a4 5 = .ok (.ineg, 1) := by decide +kernel
theorem dJ9_abs_0f7a4_6 : decode cJ9_abs_0f7a4 6 = .ok (.goto 4, 3) := by decide +kernel
theorem dJ9_abs_0f7a4_9 : decode cJ9_abs_0f7a4 9 = .ok (.iload_n 0, 1) := by decide +kernel
theorem dJ9_abs_0f7a4_10 : decode cJ9_abs_0f7a4 10 = .ok (.ireturn, 1) := by decide +kernel
theorem dJ9_min_f86c9_0 : decode cJ9_min_f86c9 0 = .ok (.lload_n 0, 1) := by decide +kernel
theorem dJ9_min_f86c9_1 : decode cJ9_min_f86c9 1 = .ok (.lload_n 2, 1) := by decide +kernel
theorem dJ9_min_f86c9_2 : decode cJ9_min_f86c9 2 = .ok (.lcmp, 1) := by decide +kernel
theorem dJ9_min_f86c9_3 : decode cJ9_min_f86c9 3 = .ok (.ifCond .gt 7, 3) := by decide +kernel
theorem dJ9_min_f86c9_6 : decode cJ9_min_f86c9 6 = .ok (.lload_n 0, 1) := by decide +kernel
theorem dJ9_min_f86c9_7 : decode cJ9_min_f86c9 7 = .ok (.goto 4, 3) := by decide +kernel
theorem dJ9_min_f86c9_10 : decode cJ9_min_f86c9 10 = .ok (.lload_n 2, 1) := by decide +kernel
theorem dJ9_min_f86c9_11 : decode cJ9_min_f86c9 11 = .ok (.lreturn, 1) := by decide +kernel
set_option maxRecDepth 20000 in
theorem ggL_build_X7_build : GoodIn wsL_build wsX7_build := goodIn_ca (goodIn_ca (goodIn_ca (goodIn_r _ [8, 9, 10, 11, 12, 13, 14, 7, 15, 16, 17, 18, 19, 20, 21, 22, 23, 24, 25, 26, 27, 28, 29, 30, 31, 32, 33, 34, 35, 36, 37, 38, 39, 40, 41, 42, 43, 44, 45, 46, 47, 48, 49, 50, 51, 52, 53, 54, 55] (by decide +kernel) (by decide +kernel)) (goodIn_sub (fun _ h => List.mem_cons_of_mem _ (List.mem_append_left _ (List.mem_append_left _ (List.mem_append_right _ h)))) (by decide +kernel))) (goodIn_sub (fun _ h => List.mem_cons_of_mem _ (List.mem_append_left _ (List.mem_append_right _ h))) (by decide +kernel))) (goodIn_sub (fun _ h => List.mem_cons_of_mem _ (List.mem_append_right _ h)) (by decide +kernel))
set_option maxRecDepth 20000 in
theorem gL_build_X7_build : GoodIn wsL_build (wsV RL 7 RX7 yX7_build wsX7_build) := goodIn_app (goodIn_of _ (by decide +kernel)) ggL_build_X7_build
theorem dL_build_0 : decode cL_build 0 = .ok (.aload_n 0, 1) := by decide +kernel
theorem dL_build_1 : decode cL_build 1 = .ok (.iload_n 1, 1) := by decide +kernel
theorem dL_build_2 : decode cL_build 2 = .ok (.iload_n 2, 1) := by decide +kernel
theorem dL_build_3 : decode cL_build 3 = .ok (.invokevirtual 7, 3) := by decide +kernel
theorem dL_build_6 : decode cL_build 6 = .ok (.goto 12, 3) := by decide +kernel
theorem dL_build_9 : decode cL_build 9 = .ok (.astore_n 3, 1) := by decide +kernel
theorem dL_build_10 : decode cL_build 10 = .ok (.iconst 1, 1) := by decide +kernel
theorem dL_build_11 : decode cL_build 11 = .ok (.ireturn, 1) := by decide +kernel
theorem dL_build_12 : decode cL_build 12 = .ok (.astore_n 3, 1) := by decide +kernel
theorem dL_build_13 : decode cL_build 13 = .ok (.iconst 2, 1) := by decide +kernel
theorem dL_build_14 : decode cL_build 14 = .ok (.ireturn, 1) := by decide +kernel
theorem dL_build_15 : decode cL_build 15 = .ok (.astore_n 3, 1) := by decide +kernel
theorem dL_build_16 : decode cL_build 16 = .ok (.iconst 3, 1) := by decide +kernel
theorem dL_build_17 : decode cL_build 17 = .ok (.ireturn, 1) := by decide +kernel
theorem dL_build_18 : decode cL_build 18 = .ok (.iconst 0, 1) := by decide +kernel
theorem dL_build_19 : decode cL_build 19 = .ok (.ireturn, 1) := by decide +kernel
set_option maxRecDepth 20000 in
theorem ggL_people_X7_people : GoodIn wsL_people wsX7_people := goodIn_ca (goodIn_ca (goodIn_ca (goodIn_r _ [8, 9, 10, 11, 7, 12, 13, 14, 15, 16, 17, 18, 19, 20, 21, 22, 23, 24, 25, 26, 27, 28, 29, 30, 31, 32, 33, 34, 35, 36, 37, 38, 39, 40, 41, 42, 43, 44, 45, 46, 47, 48, 49, 50, 51, 52, 53, 54, 55, 56, 57, 58, 59, 60, 61, 62, 63] (by decide +kernel) (by decide +kernel)) (goodIn_sub (fun _ h => List.mem_cons_of_mem _ (List.mem_append_left _ (List.mem_append_left _ (List.mem_append_right _ h)))) (by decide +kernel))) (goodIn_sub (fun _ h => List.mem_cons_of_mem _ (List.mem_append_left _ (List.mem_append_right _ h))) (by decide +kernel))) (goodIn_sub (fun _ h => List.mem_cons_of_mem _ (List.mem_append_right _ h)) (by decide +kernel))
set_option maxRecDepth 20000 in
theorem gL_people_X7_people : GoodIn wsL_people (wsV RL 19 RX7 yX7_people wsX7_people) := goodIn_app (goodIn_of _ (by decide +kernel)) ggL_people_X7_people
theorem dL_people_0 : decode cL_people 0 = .ok (.aload_n 3, 1) := by decide +kernel
theorem dL_people_1 : decode cL_people 1 = .ok (.iconst 0, 1) := by decide +kernel
theorem dL_people_2 : decode cL_people 2 = .ok (.aload_n 0, 1) := by decide +kernel
theorem dL_people_3 : decode cL_people 3 = .ok (.iload_n 1, 1) := by decide +kernel
theorem dL_people_4 : decode cL_people 4 = .ok (.iload_n 2, 1) := by decide +kernel
theorem dL_people_5 : decode cL_people 5 = .ok (.invokevirtual 19, 3) := by decide +kernel
theorem dL_people_8 : decode cL_people 8 = .ok (.i2l, 1) := by decide +kernel
theorem dL_people_9 : decode cL_people 9 = .ok (.lastore, 1) := by decide +kernel
theorem dL_people_10 : decode cL_people 10 = .ok (.goto 15, 3) := by decide +kernel
theorem dL_people_13 : decode cL_people 13 = .ok (.astore 4, 2) := by decide +kernel
theorem dL_people_15 : decode cL_people 15 = .ok (.iconst 1, 1) := by decide +kernel
theorem dL_people_16 : decode cL_people 16 = .ok (.ireturn, 1) := by decide +kernel
theorem dL_people_17 : decode cL_people 17 = .ok (.astore 4, 2) := by decide +kernel
theorem dL_people_19 : decode cL_people 19 = .ok (.iconst 2, 1) := by decide +kernel
theorem dL_people_20 : decode cL_people 20 = .ok (.ireturn, 1) := by decide +kernel
theorem dL_people_21 : decode cL_people 21 = .ok (.astore 4, 2) := by decide +kernel
theorem dL_people_23 : decode cL_people 23 = .ok (.iconst 3, 1) := by decide +kernel
theorem dL_people_24 : decode cL_people 24 = .ok (.ireturn, 1) := by decide +kernel
theorem dL_people_25 : decode cL_people 25 = .ok (.iconst 0, 1) := by decide +kernel
theorem dL_people_26 : decode cL_people 26 = .ok (.ireturn, 1) := by decide +kernel
set_option maxRecDepth 20000 in
theorem ggL_wind_X7_wind : GoodIn wsL_wind wsX7_wind := goodIn_ca (goodIn_r _ [6, 7, 8, 9, 5, 10, 11, 12, 13, 14, 15, 16, 17, 18, 19, 20, 21, 22, 23, 24, 25, 26, 27, 28, 29, 30, 31, 32, 33, 34, 35] (by decide +kernel) (by decide +kernel)) (goodIn_sub (fun _ h => List.mem_cons_of_mem _ (List.mem_append_right _ h)) (by decide +kernel))
set_option maxRecDepth 20000 in
theorem gL_wind_X7_wind : GoodIn wsL_wind (wsV RL 23 RX7 yX7_wind wsX7_wind) := goodIn_app (goodIn_of _ (by decide +kernel)) ggL_wind_X7_wind
theorem dL_wind_0 : decode cL_wind 0 = .ok (.aload_n 2, 1) := by decide +kernel
theorem dL_wind_1 : decode cL_wind 1 = .ok (.iconst 0, 1) := by decide +kernel
theorem dL_wind_2 : decode cL_wind 2 = .ok (.aload_n 0, 1) := by decide +kernel
theorem dL_wind_3 : decode cL_wind 3 = .ok (.iload_n 1, 1) := by decide +kernel
theorem dL_wind_4 : decode cL_wind 4 = .ok (.invokevirtual 23, 3) := by decide +kernel
theorem dL_wind_7 : decode cL_wind 7 = .ok (.i2l, 1) := by decide +kernel
theorem dL_wind_8 : decode cL_wind 8 = .ok (.lastore, 1) := by decide +kernel
theorem dL_wind_9 : decode cL_wind 9 = .ok (.goto 6, 3) := by decide +kernel
theorem dL_wind_12 : decode cL_wind 12 = .ok (.astore_n 3, 1) := by decide +kernel
theorem dL_wind_13 : decode cL_wind 13 = .ok (.iconst 1, 1) := by decide +kernel
theorem dL_wind_14 : decode cL_wind 14 = .ok (.ireturn, 1) := by decide +kernel
theorem dL_wind_15 : decode cL_wind 15 = .ok (.iconst 0, 1) := by decide +kernel
theorem dL_wind_16 : decode cL_wind 16 = .ok (.ireturn, 1) := by decide +kernel
set_option maxRecDepth 20000 in
theorem ggL_fire_X7_fire : GoodIn wsL_fire wsX7_fire := goodIn_ca (goodIn_ca (goodIn_ca (goodIn_r _ [8, 9, 10, 11, 7, 12, 13, 14, 15, 16, 17, 18, 19, 20, 21, 22, 23, 24, 25, 26, 27, 28, 29, 30, 31, 32, 33, 34, 35, 36, 37, 38, 39, 40, 41, 42, 43, 44, 45, 46, 47, 48, 49, 50, 51, 52, 53, 54, 55, 56, 57, 58] (by decide +kernel) (by decide +kernel)) (goodIn_sub (fun _ h => List.mem_cons_of_mem _ (List.mem_append_left _ (List.mem_append_left _ (List.mem_append_right _ h)))) (by decide +kernel))) (goodIn_sub (fun _ h => List.mem_cons_of_mem _ (List.mem_append_left _ (List.mem_append_right _ h))) (by decide +kernel))) (goodIn_sub (fun _ h => List.mem_cons_of_mem _ (List.mem_append_right _ h)) (by decide +kernel))
set_option maxRecDepth 20000 in
theorem gL_fire_X7_fire : GoodIn wsL_fire (wsV RL 27 RX7 yX7_fire wsX7_fire) := goodIn_app (goodIn_of _ (by decide +kernel)) ggL_fire_X7_fire
theorem dL_fire_0 : decode cL_fire 0 = .ok (.aload_n 0, 1) := by decide +kernel
theorem dL_fire_1 : decode cL_fire 1 = .ok (.iload_n 1, 1) := by decide +kernel
theorem dL_fire_2 : decode cL_fire 2 = .ok (.iload_n 2, 1) := by decide +kernel
theorem dL_fire_3 : decode cL_fire 3 = .ok (.invokevirtual 27, 3) := by decide +kernel
theorem dL_fire_6 : decode cL_fire 6 = .ok (.goto 12, 3) := by decide +kernel
theorem dL_fire_9 : decode cL_fire 9 = .ok (.astore_n 3, 1) := by decide +kernel
theorem dL_fire_10 : decode cL_fire 10 = .ok (.iconst 1, 1) := by decide +kernel
theorem dL_fire_11 : decode cL_fire 11 = .ok (.ireturn, 1) := by decide +kernel
theorem dL_fire_12 : decode cL_fire 12 = .ok (.astore_n 3, 1) := by decide +kernel
theorem dL_fire_13 : decode cL_fire 13 = .ok (.iconst 2, 1) := by decide +kernel
theorem dL_fire_14 : decode cL_fire 14 = .ok (.ireturn, 1) := by decide +kernel
theorem dL_fire_15 : decode cL_fire 15 = .ok (.astore_n 3, 1) := by decide +kernel
theorem dL_fire_16 : decode cL_fire 16 = .ok (.iconst 3, 1) := by decide +kernel
theorem dL_fire_17 : decode cL_fire 17 = .ok (.ireturn, 1) := by decide +kernel
theorem dL_fire_18 : decode cL_fire 18 = .ok (.iconst 0, 1) := by decide +kernel
theorem dL_fire_19 : decode cL_fire 19 = .ok (.ireturn, 1) := by decide +kernel
set_option maxRecDepth 20000 in
theorem ggL_feed_X7_feed : GoodIn wsL_feed wsX7_feed := goodIn_ca (goodIn_r _ [6, 7, 8, 9, 5, 10, 11, 12, 13, 14, 15, 16, 17, 18, 19, 20, 21, 22, 23, 24, 25, 26, 27, 28, 29, 30] (by decide +kernel) (by decide +kernel)) (goodIn_sub (fun _ h => List.mem_cons_of_mem _ (List.mem_append_right _ h)) (by decide +kernel))
set_option maxRecDepth 20000 in
theorem gL_feed_X7_feed : GoodIn wsL_feed (wsV RL 30 RX7 yX7_feed wsX7_feed) := goodIn_app (goodIn_of _ (by decide +kernel)) ggL_feed_X7_feed
theorem dL_feed_0 : decode cL_feed 0 = .ok (.aload_n 3, 1) := by decide +kernel
theorem dL_feed_1 : decode cL_feed 1 = .ok (.iconst 0, 1) := by decide +kernel
theorem dL_feed_2 : decode cL_feed 2 = .ok (.aload_n 0, 1) := by decide +kernel
theorem dL_feed_3 : decode cL_feed 3 = .ok (.iload_n 1, 1) := by decide +kernel
theorem dL_feed_4 : decode cL_feed 4 = .ok (.iload_n 2, 1) := by decide +kernel
theorem dL_feed_5 : decode cL_feed 5 = .ok (.invokevirtual 30, 3) := by decide +kernel
theorem dL_feed_8 : decode cL_feed 8 = .ok (.ifCond .eq 7, 3) := by decide +kernel
theorem dL_feed_11 : decode cL_feed 11 = .ok (.lconst 1, 1) := by decide +kernel
theorem dL_feed_12 : decode cL_feed 12 = .ok (.goto 4, 3) := by decide +kernel
theorem dL_feed_15 : decode cL_feed 15 = .ok (.lconst 0, 1) := by decide +kernel
theorem dL_feed_16 : decode cL_feed 16 = .ok (.lastore, 1) := by decide +kernel
theorem dL_feed_17 : decode cL_feed 17 = .ok (.goto 7, 3) := by decide +kernel
theorem dL_feed_20 : decode cL_feed 20 = .ok (.astore 4, 2) := by decide +kernel
theorem dL_feed_22 : decode cL_feed 22 = .ok (.iconst 1, 1) := by decide +kernel
theorem dL_feed_23 : decode cL_feed 23 = .ok (.ireturn, 1) := by decide +kernel
theorem dL_feed_24 : decode cL_feed 24 = .ok (.iconst 0, 1) := by decide +kernel
theorem dL_feed_25 : decode cL_feed 25 = .ok (.ireturn, 1) := by decide +kernel
set_option maxRecDepth 20000 in
theorem ggL_failFan_X7_failFan : GoodIn wsL_failFan wsX7_failFan := goodIn_ca (goodIn_r _ [6, 7, 8, 9, 5, 10, 11, 12, 13, 14, 15, 16, 17, 18, 19, 20, 21, 22, 23, 24, 25, 26, 27, 28, 29, 30, 31, 32, 33, 34, 35, 36, 37, 38, 39, 40, 41, 42, 43] (by decide +kernel) (by decide +kernel)) (goodIn_sub (fun _ h => List.mem_cons_of_mem _ (List.mem_append_right _ h)) (by decide +kernel))
set_option maxRecDepth 20000 in
theorem gL_failFan_X7_failFan : GoodIn wsL_failFan (wsV RL 34 RX7 yX7_failFan wsX7_failFan) := goodIn_app (goodIn_of _ (by decide +kernel)) ggL_failFan_X7_failFan
theorem dL_failFan_0 : decode cL_failFan 0 = .ok (.aload_n 3, 1) := by decide +kernel
theorem dL_failFan_1 : decode cL_failFan 1 = .ok (.iconst 0, 1) := by decide +kernel
theorem dL_failFan_2 : decode cL_failFan 2 = .ok (.aload_n 0, 1) := by decide +kernel
theorem dL_failFan_3 : decode cL_failFan 3 = .ok (.iload_n 1, 1) := by decide +kernel
theorem dL_failFan_4 : decode cL_failFan 4 = .ok (.iload_n 2, 1) := by decide +kernel
theorem dL_failFan_5 : decode cL_failFan 5 = .ok (.invokevirtual 34, 3) := by decide +kernel
theorem dL_failFan_8 : decode cL_failFan 8 = .ok (.i2l, 1) := by decide +kernel
theorem dL_failFan_9 : decode cL_failFan 9 = .ok (.lastore, 1) := by decide +kernel
theorem dL_failFan_10 : decode cL_failFan 10 = .ok (.goto 7, 3) := by decide +kernel
theorem dL_failFan_13 : decode cL_failFan 13 = .ok (.astore 4, 2) := by decide +kernel
theorem dL_failFan_15 : decode cL_failFan 15 = .ok (.iconst 1, 1) := by decide +kernel
theorem dL_failFan_16 : decode cL_failFan 16 = .ok (.ireturn, 1) := by decide +kernel
theorem dL_failFan_17 : decode cL_failFan 17 = .ok (.iconst 0, 1) := by decide +kernel
theorem dL_failFan_18 : decode cL_failFan 18 = .ok (.ireturn, 1) := by decide +kernel
set_option maxRecDepth 20000 in
theorem ggL_failDoor_X7_failDoor : GoodIn wsL_failDoor wsX7_failDoor := goodIn_ca (goodIn_r _ [6, 7, 8, 9, 10, 5, 11, 12, 13, 14, 15, 16, 17, 18, 19, 20, 21, 22, 23, 24, 25, 26, 27, 28, 29, 30, 31, 32, 33, 34, 35, 36, 37, 38, 39, 40, 41, 42, 43, 44, 45, 46, 47, 48] (by decide +kernel) (by decide +kernel)) (goodIn_sub (fun _ h => List.mem_cons_of_mem _ (List.mem_append_right _ h)) (by decide +kernel))
set_option maxRecDepth 20000 in
theorem gL_failDoor_X7_failDoor : GoodIn wsL_failDoor (wsV RL 38 RX7 yX7_failDoor wsX7_failDoor) := goodIn_app (goodIn_of _ (by decide +kernel)) ggL_failDoor_X7_failDoor
theorem dL_failDoor_0 : decode cL_failDoor 0 = .ok (.aload_n 3, 1) := by decide +kernel
theorem dL_failDoor_1 : decode cL_failDoor 1 = .ok (.iconst 0, 1) := by decide +kernel
theorem dL_failDoor_2 : decode cL_failDoor 2 = .ok (.aload_n 0, 1) := by decide +kernel
theorem dL_failDoor_3 : decode cL_failDoor 3 = .ok (.iload_n 1, 1) := by decide +kernel
theorem dL_failDoor_4 : decode cL_failDoor 4 = .ok (.iload_n 2, 1) := by decide +kernel
theorem dL_failDoor_5 : decode cL_failDoor 5 = .ok (.invokevirtual 38, 3) := by decide +kernel
theorem dL_failDoor_8 : decode cL_failDoor 8 = .ok (.ifCond .eq 7, 3) := by decide +kernel
theorem dL_failDoor_11 : decode cL_failDoor 11 = .ok (.lconst 1, 1) := by decide +kernel
theorem dL_failDoor_12 : decode cL_failDoor 12 = .ok (.goto 4, 3) := by decide +kernel
theorem dL_failDoor_15 : decode cL_failDoor 15 = .ok (.lconst 0, 1) := by decide +kernel
theorem dL_failDoor_16 : decode cL_failDoor 16 = .ok (.lastore, 1) := by decide +kernel
theorem dL_failDoor_17 : decode cL_failDoor 17 = .ok (.goto 7, 3) := by decide +kernel
theorem dL_failDoor_20 : decode cL_failDoor 20 = .ok (.astore 4, 2) := by decide +kernel
theorem dL_failDoor_22 : decode cL_failDoor 22 = .ok (.iconst 1, 1) := by decide +kernel
theorem dL_failDoor_23 : decode cL_failDoor 23 = .ok (.ireturn, 1) := by decide +kernel
theorem dL_failDoor_24 : decode cL_failDoor 24 = .ok (.iconst 0, 1) := by decide +kernel
theorem dL_failDoor_25 : decode cL_failDoor 25 = .ok (.ireturn, 1) := by decide +kernel
set_option maxRecDepth 20000 in
theorem ggL_failDetector_X7_failDetector : GoodIn wsL_failDetector wsX7_failDetector := goodIn_ca (goodIn_r _ [6, 7, 8, 9, 5, 10, 11, 12, 13, 14, 15, 16, 17, 18, 19, 20, 21, 22, 23, 24, 25, 26, 27, 28, 29] (by decide +kernel) (by decide +kernel)) (goodIn_sub (fun _ h => List.mem_cons_of_mem _ (List.mem_append_right _ h)) (by decide +kernel))
set_option maxRecDepth 20000 in
theorem gL_failDetector_X7_failDetector : GoodIn wsL_failDetector (wsV RL 41 RX7 yX7_failDetector wsX7_failDetector) := goodIn_app (goodIn_of _ (by decide +kernel)) ggL_failDetector_X7_failDetector
theorem dL_failDetector_0 : decode cL_failDetector 0 = .ok (.aload_n 0, 1) := by decide +kernel
theorem dL_failDetector_1 : decode cL_failDetector 1 = .ok (.iload_n 1, 1) := by decide +kernel
theorem dL_failDetector_2 : decode cL_failDetector 2 = .ok (.iload_n 2, 1) := by decide +kernel
theorem dL_failDetector_3 : decode cL_failDetector 3 = .ok (.iload_n 3, 1) := by decide +kernel
theorem dL_failDetector_4 : decode cL_failDetector 4 = .ok (.invokevirtual 41, 3) := by decide +kernel
theorem dL_failDetector_7 : decode cL_failDetector 7 = .ok (.goto 7, 3) := by decide +kernel
theorem dL_failDetector_10 : decode cL_failDetector 10 = .ok (.astore 4, 2) := by decide +kernel
theorem dL_failDetector_12 : decode cL_failDetector 12 = .ok (.iconst 1, 1) := by decide +kernel
theorem dL_failDetector_13 : decode cL_failDetector 13 = .ok (.ireturn, 1) := by decide +kernel
theorem dL_failDetector_14 : decode cL_failDetector 14 = .ok (.iconst 0, 1) := by decide +kernel
theorem dL_failDetector_15 : decode cL_failDetector 15 = .ok (.ireturn, 1) := by decide +kernel
set_option maxRecDepth 20000 in
theorem ggL_act_X7_act : GoodIn wsL_act wsX7_act := goodIn_ca (goodIn_ca (goodIn_r _ [7, 8, 9, 10, 11, 6, 12, 13, 14, 15, 16, 17, 18, 19, 20, 21, 22, 23, 24, 25, 26, 27, 28, 29, 30, 31, 32, 33, 34, 35, 36, 37, 38, 39, 40, 41, 42, 43, 44, 45, 46, 47, 48, 49, 50, 51, 52, 53] (by decide +kernel) (by decide +kernel)) (goodIn_sub (fun _ h => List.mem_cons_of_mem _ (List.mem_append_left _ (List.mem_append_right _ h))) (by decide +kernel))) (goodIn_sub (fun _ h => List.mem_cons_of_mem _ (List.mem_append_right _ h)) (by decide +kernel))
set_option maxRecDepth 20000 in
theorem gL_act_X7_act : GoodIn wsL_act (wsV RL 45 RX7 yX7_act wsX7_act) := goodIn_app (goodIn_of _ (by decide +kernel)) ggL_act_X7_act
theorem dL_act_0 : decode cL_act 0 = .ok (.aload 4, 2) := by decide +kernel
theorem dL_act_2 : decode cL_act 2 = .ok (.iconst 0, 1) := by decide +kernel
theorem dL_act_3 : decode cL_act 3 = .ok (.aload_n 0, 1) := by decide +kernel
theorem dL_act_4 : decode cL_act 4 = .ok (.iload_n 1, 1) := by decide +kernel
theorem dL_act_5 : decode cL_act 5 = .ok (.iload_n 2, 1) := by decide +kernel
theorem dL_act_6 : decode cL_act 6 = .ok (.iload_n 3, 1) := by decide +kernel
theorem dL_act_7 : decode cL_act 7 = .ok (.invokevirtual 45, 3) := by decide +kernel
theorem dL_act_10 : decode cL_act 10 = .ok (.i2l, 1) := by decide +kernel
theorem dL_act_11 : decode cL_act 11 = .ok (.lastore, 1) := by decide +kernel
theorem dL_act_12 : decode cL_act 12 = .ok (.goto 11, 3) := by decide +kernel
theorem dL_act_15 : decode cL_act 15 = .ok (.astore 5, 2) := by decide +kernel
theorem dL_act_17 : decode cL_act 17 = .ok (.iconst 1, 1) := by decide +kernel
theorem dL_act_18 : decode cL_act 18 = .ok (.ireturn, 1) := by decide +kernel
theorem dL_act_19 : decode cL_act 19 = .ok (.astore 5, 2) := by decide +kernel
theorem dL_act_21 : decode cL_act 21 = .ok (.iconst 2, 1) := by decide +kernel
theorem dL_act_22 : decode cL_act 22 = .ok (.ireturn, 1) := by decide +kernel
theorem dL_act_23 : decode cL_act 23 = .ok (.iconst 0, 1) := by decide +kernel
theorem dL_act_24 : decode cL_act 24 = .ok (.ireturn, 1) := by decide +kernel
set_option maxRecDepth 20000 in
theorem ggL_command_X7_command : GoodIn wsL_command wsX7_command := goodIn_ca (goodIn_ca (goodIn_r _ [7, 8, 9, 10, 6, 11, 12, 13, 14, 15, 16, 17, 18, 19, 20, 21, 22, 23, 24, 25, 26, 27, 28, 29, 30, 31, 32, 33, 34, 35, 36, 37, 38, 39, 40, 41, 42, 43, 44] (by decide +kernel) (by decide +kernel)) (goodIn_sub (fun _ h => List.mem_cons_of_mem _ (List.mem_append_left _ (List.mem_append_right _ h))) (by decide +kernel))) (goodIn_sub (fun _ h => List.mem_cons_of_mem _ (List.mem_append_right _ h)) (by decide +kernel))
set_option maxRecDepth 20000 in
theorem gL_command_X7_command : GoodIn wsL_command (wsV RL 49 RX7 yX7_command wsX7_command) := goodIn_app (goodIn_of _ (by decide +kernel)) ggL_command_X7_command
theorem dL_command_0 : decode cL_command 0 = .ok (.aload_n 3, 1) := by decide +kernel
theorem dL_command_1 : decode cL_command 1 = .ok (.iconst 0, 1) := by decide +kernel
theorem dL_command_2 : decode cL_command 2 = .ok (.aload_n 0, 1) := by decide +kernel
theorem dL_command_3 : decode cL_command 3 = .ok (.iload_n 1, 1) := by decide +kernel
theorem dL_command_4 : decode cL_command 4 = .ok (.iload_n 2, 1) := by decide +kernel
theorem dL_command_5 : decode cL_command 5 = .ok (.invokevirtual 49, 3) := by decide +kernel
theorem dL_command_8 : decode cL_command 8 = .ok (.i2l, 1) := by decide +kernel
theorem dL_command_9 : decode cL_command 9 = .ok (.lastore, 1) := by decide +kernel
theorem dL_command_10 : decode cL_command 10 = .ok (.goto 11, 3) := by decide +kernel
theorem dL_command_13 : decode cL_command 13 = .ok (.astore 4, 2) := by decide +kernel
theorem dL_command_15 : decode cL_command 15 = .ok (.iconst 1, 1) := by decide +kernel
theorem dL_command_16 : decode cL_command 16 = .ok (.ireturn, 1) := by decide +kernel
theorem dL_command_17 : decode cL_command 17 = .ok (.astore 4, 2) := by decide +kernel
theorem dL_command_19 : decode cL_command 19 = .ok (.iconst 2, 1) := by decide +kernel
theorem dL_command_20 : decode cL_command 20 = .ok (.ireturn, 1) := by decide +kernel
theorem dL_command_21 : decode cL_command 21 = .ok (.iconst 0, 1) := by decide +kernel
theorem dL_command_22 : decode cL_command 22 = .ok (.ireturn, 1) := by decide +kernel
set_option maxRecDepth 20000 in
theorem ggL_step_X7_step : GoodIn wsL_step wsX7_step := goodIn_ca (goodIn_r _ [6, 7, 8, 9, 5, 10, 11, 12, 13, 14, 15, 16, 17, 18, 19, 20, 21, 22, 23, 24, 25, 26, 27, 28, 29, 30, 31, 32, 33, 34, 35, 36, 37, 38, 39, 40, 41, 42, 43, 44, 45, 46, 47, 48, 49, 50, 51, 52, 53, 54, 55, 56, 57, 58, 59, 60, 61, 62, 63, 64, 65, 66, 67, 68, 69, 70, 71, 72, 73, 74, 75, 76, 77, 78, 79, 80, 81, 82, 83, 84, 85, 86, 87, 88, 89, 90, 91, 92, 93, 94, 95, 96, 97, 98, 99, 100, 101, 102, 103, 104, 105, 106, 107, 108, 109, 110, 111, 112, 113, 114, 115, 116, 117, 118, 119, 120, 121, 122, 123, 124, 125, 126, 127, 128, 129, 130, 131, 132, 133, 134, 135, 136, 137, 138, 139, 140, 141, 142, 143, 144, 145, 146, 147, 148, 149, 150, 151, 152, 153, 154, 155, 156, 157, 158, 159, 160, 161, 162, 163, 164, 165, 166, 167, 168, 169, 170, 171, 172, 173, 174, 175, 176, 177, 178, 179, 180, 181, 182, 183, 184, 185, 186, 187, 188, 189, 190, 191, 192, 193, 194, 195, 196, 197, 198, 199, 200, 201, 202, 203, 204, 205, 206, 207, 208, 209, 210, 211, 212, 213, 214, 215, 216, 217, 218, 219, 220, 221, 222, 223, 224, 225, 226, 227, 228, 229, 230, 231, 232, 233, 234, 235, 236, 237, 238, 239, 240, 241, 242, 243, 244, 245, 246, 247, 248, 249, 250, 251, 252, 253, 254, 255, 256, 257, 258, 259, 260, 261, 262, 263, 264, 265, 266, 267, 268, 269, 270, 271, 272, 273, 274, 275, 276, 277, 278, 279, 280, 281, 282, 283, 284, 285, 286, 287, 288, 289, 290, 291, 292, 293] (by decide +kernel) (by decide +kernel)) (goodIn_sub (fun _ h => List.mem_cons_of_mem _ (List.mem_append_right _ h)) (by decide +kernel))
set_option maxRecDepth 20000 in
theorem gL_step_X7_step : GoodIn wsL_step (wsV RL 52 RX7 yX7_step wsX7_step) := goodIn_app (goodIn_of _ (by decide +kernel)) ggL_step_X7_step
theorem dL_step_0 : decode cL_step 0 = .ok (.aload_n 2, 1) := by decide +kernel
theorem dL_step_1 : decode cL_step 1 = .ok (.iconst 0, 1) := by decide +kernel
theorem dL_step_2 : decode cL_step 2 = .ok (.aload_n 0, 1) := by decide +kernel
theorem dL_step_3 : decode cL_step 3 = .ok (.iload_n 1, 1) := by decide +kernel
theorem dL_step_4 : decode cL_step 4 = .ok (.invokevirtual 52, 3) := by decide +kernel
theorem dL_step_7 : decode cL_step 7 = .ok (.i2l, 1) := by decide +kernel
theorem dL_step_8 : decode cL_step 8 = .ok (.lastore, 1) := by decide +kernel
theorem dL_step_9 : decode cL_step 9 = .ok (.goto 6, 3) := by decide +kernel
theorem dL_step_12 : decode cL_step 12 = .ok (.astore_n 3, 1) := by decide +kernel
theorem dL_step_13 : decode cL_step 13 = .ok (.iconst 1, 1) := by decide +kernel
theorem dL_step_14 : decode cL_step 14 = .ok (.ireturn, 1) := by decide +kernel
theorem dL_step_15 : decode cL_step 15 = .ok (.iconst 0, 1) := by decide +kernel
theorem dL_step_16 : decode cL_step 16 = .ok (.ireturn, 1) := by decide +kernel
set_option maxRecDepth 20000 in
theorem ggL_segment_X7_segment : GoodIn wsL_segment wsX7_segment := goodIn_ca (goodIn_ca (goodIn_r _ [7, 8, 9, 10, 11, 6, 12, 13, 14, 15, 16, 17, 18, 19, 20, 21, 22, 23, 24, 25, 26, 27, 28, 29, 30, 31, 32, 33, 34, 35, 36, 37, 38, 39, 40, 41, 42, 43, 44, 45, 46, 47, 48, 49, 50, 51, 52, 53, 54, 55, 56, 57, 58, 59, 60, 61, 62, 63, 64, 65, 66, 67, 68, 69, 70, 71, 72, 73, 74, 75, 76, 77, 78, 79, 80, 81, 82, 83, 84, 85, 86, 87, 88, 89, 90, 91, 92, 93] (by decide +kernel) (by decide +kernel)) (goodIn_sub (fun _ h => List.mem_cons_of_mem _ (List.mem_append_left _ (List.mem_append_right _ h))) (by decide +kernel))) (goodIn_sub (fun _ h => List.mem_cons_of_mem _ (List.mem_append_right _ h)) (by decide +kernel))
set_option maxRecDepth 20000 in
theorem gL_segment_X7_segment : GoodIn wsL_segment (wsV RL 55 RX7 yX7_segment wsX7_segment) := goodIn_app (goodIn_of _ (by decide +kernel)) ggL_segment_X7_segment
theorem dL_segment_0 : decode cL_segment 0 = .ok (.aload_n 3, 1) := by decide +kernel
theorem dL_segment_1 : decode cL_segment 1 = .ok (.iconst 0, 1) := by decide +kernel
theorem dL_segment_2 : decode cL_segment 2 = .ok (.aload_n 0, 1) := by decide +kernel
theorem dL_segment_3 : decode cL_segment 3 = .ok (.iload_n 1, 1) := by decide +kernel
theorem dL_segment_4 : decode cL_segment 4 = .ok (.iload_n 2, 1) := by decide +kernel
theorem dL_segment_5 : decode cL_segment 5 = .ok (.invokevirtual 55, 3) := by decide +kernel
theorem dL_segment_8 : decode cL_segment 8 = .ok (.i2l, 1) := by decide +kernel
theorem dL_segment_9 : decode cL_segment 9 = .ok (.lastore, 1) := by decide +kernel
theorem dL_segment_10 : decode cL_segment 10 = .ok (.goto 11, 3) := by decide +kernel
theorem dL_segment_13 : decode cL_segment 13 = .ok (.astore 4, 2) := by decide +kernel
theorem dL_segment_15 : decode cL_segment 15 = .ok (.iconst 1, 1) := by decide +kernel
theorem dL_segment_16 : decode cL_segment 16 = .ok (.ireturn, 1) := by decide +kernel
theorem dL_segment_17 : decode cL_segment 17 = .ok (.astore 4, 2) := by decide +kernel
theorem dL_segment_19 : decode cL_segment 19 = .ok (.iconst 2, 1) := by decide +kernel
theorem dL_segment_20 : decode cL_segment 20 = .ok (.ireturn, 1) := by decide +kernel
theorem dL_segment_21 : decode cL_segment 21 = .ok (.iconst 0, 1) := by decide +kernel
theorem dL_segment_22 : decode cL_segment 22 = .ok (.ireturn, 1) := by decide +kernel
set_option maxRecDepth 20000 in
theorem ggL_fan_X7_fan : GoodIn wsL_fan wsX7_fan := goodIn_ca (goodIn_r _ [6, 7, 8, 9, 5, 10, 11, 12, 13, 14, 15, 16, 17, 18, 19, 20, 21, 22, 23, 24, 25, 26, 27, 28, 29, 30, 31, 32, 33, 34, 35, 36, 37, 38] (by decide +kernel) (by decide +kernel)) (goodIn_sub (fun _ h => List.mem_cons_of_mem _ (List.mem_append_right _ h)) (by decide +kernel))
set_option maxRecDepth 20000 in
theorem gL_fan_X7_fan : GoodIn wsL_fan (wsV RL 58 RX7 yX7_fan wsX7_fan) := goodIn_app (goodIn_of _ (by decide +kernel)) ggL_fan_X7_fan
theorem dL_fan_0 : decode cL_fan 0 = .ok (.aload_n 2, 1) := by decide +kernel
theorem dL_fan_1 : decode cL_fan 1 = .ok (.iconst 0, 1) := by decide +kernel
theorem dL_fan_2 : decode cL_fan 2 = .ok (.aload_n 0, 1) := by decide +kernel
theorem dL_fan_3 : decode cL_fan 3 = .ok (.iload_n 1, 1) := by decide +kernel
theorem dL_fan_4 : decode cL_fan 4 = .ok (.invokevirtual 58, 3) := by decide +kernel
theorem dL_fan_7 : decode cL_fan 7 = .ok (.i2l, 1) := by decide +kernel
theorem dL_fan_8 : decode cL_fan 8 = .ok (.lastore, 1) := by decide +kernel
theorem dL_fan_9 : decode cL_fan 9 = .ok (.goto 6, 3) := by decide +kernel
theorem dL_fan_12 : decode cL_fan 12 = .ok (.astore_n 3, 1) := by decide +kernel
theorem dL_fan_13 : decode cL_fan 13 = .ok (.iconst 1, 1) := by decide +kernel
theorem dL_fan_14 : decode cL_fan 14 = .ok (.ireturn, 1) := by decide +kernel
theorem dL_fan_15 : decode cL_fan 15 = .ok (.iconst 0, 1) := by decide +kernel
theorem dL_fan_16 : decode cL_fan 16 = .ok (.ireturn, 1) := by decide +kernel
set_option maxRecDepth 20000 in
theorem ggL_done_X7_done : GoodIn wsL_done wsX7_done := goodIn_ca (goodIn_r _ [6, 7, 8, 9, 10, 11, 12, 13, 14, 15, 5, 16, 17, 18, 19, 20, 21, 22, 23, 24, 25, 26, 27, 28, 29, 30, 31, 32, 33, 34, 35, 36, 37, 38, 39, 40, 41, 42, 43, 44, 45, 46, 47] (by decide +kernel) (by decide +kernel)) (goodIn_sub (fun _ h => List.mem_cons_of_mem _ (List.mem_append_right _ h)) (by decide +kernel))
set_option maxRecDepth 20000 in
theorem gL_done_X7_done : GoodIn wsL_done (wsV RL 61 RX7 yX7_done wsX7_done) := goodIn_app (goodIn_of _ (by decide +kernel)) ggL_done_X7_done
theorem dL_done_0 : decode cL_done 0 = .ok (.aload_n 2, 1) := by decide +kernel
theorem dL_done_1 : decode cL_done 1 = .ok (.iconst 0, 1) := by decide +kernel
theorem dL_done_2 : decode cL_done 2 = .ok (.aload_n 0, 1) := by decide +kernel
theorem dL_done_3 : decode cL_done 3 = .ok (.iload_n 1, 1) := by decide +kernel
theorem dL_done_4 : decode cL_done 4 = .ok (.invokevirtual 61, 3) := by decide +kernel
theorem dL_done_7 : decode cL_done 7 = .ok (.i2l, 1) := by decide +kernel
theorem dL_done_8 : decode cL_done 8 = .ok (.lastore, 1) := by decide +kernel
theorem dL_done_9 : decode cL_done 9 = .ok (.goto 6, 3) := by decide +kernel
theorem dL_done_12 : decode cL_done 12 = .ok (.astore_n 3, 1) := by decide +kernel
theorem dL_done_13 : decode cL_done 13 = .ok (.iconst 1, 1) := by decide +kernel
theorem dL_done_14 : decode cL_done 14 = .ok (.ireturn, 1) := by decide +kernel
theorem dL_done_15 : decode cL_done 15 = .ok (.iconst 0, 1) := by decide +kernel
theorem dL_done_16 : decode cL_done 16 = .ok (.ireturn, 1) := by decide +kernel
set_option maxRecDepth 20000 in
theorem ggL_person_X7_person : GoodIn wsL_person wsX7_person := goodIn_ca (goodIn_ca (goodIn_r _ [7, 8, 9, 10, 11, 12, 13, 14, 15, 16, 6, 17, 18, 19, 20, 21, 22, 23, 24, 25, 26, 27, 28, 29, 30, 31, 32, 33, 34, 35, 36, 37, 38, 39, 40, 41, 42, 43, 44, 45, 46, 47, 48, 49, 50, 51, 52, 53, 54, 55, 56, 57, 58, 59, 60, 61, 62] (by decide +kernel) (by decide +kernel)) (goodIn_sub (fun _ h => List.mem_cons_of_mem _ (List.mem_append_left _ (List.mem_append_right _ h))) (by decide +kernel))) (goodIn_sub (fun _ h => List.mem_cons_of_mem _ (List.mem_append_right _ h)) (by decide +kernel))
set_option maxRecDepth 20000 in
theorem gL_person_X7_person : GoodIn wsL_person (wsV RL 64 RX7 yX7_person wsX7_person) := goodIn_app (goodIn_of _ (by decide +kernel)) ggL_person_X7_person
theorem dL_person_0 : decode cL_person 0 = .ok (.aload_n 3, 1) := by decide +kernel
theorem dL_person_1 : decode cL_person 1 = .ok (.iconst 0, 1) := by decide +kernel
theorem dL_person_2 : decode cL_person 2 = .ok (.aload_n 0, 1) := by decide +kernel
theorem dL_person_3 : decode cL_person 3 = .ok (.iload_n 1, 1) := by decide +kernel
theorem dL_person_4 : decode cL_person 4 = .ok (.iload_n 2, 1) := by decide +kernel
theorem dL_person_5 : decode cL_person 5 = .ok (.invokevirtual 64, 3) := by decide +kernel
theorem dL_person_8 : decode cL_person 8 = .ok (.i2l, 1) := by decide +kernel
theorem dL_person_9 : decode cL_person 9 = .ok (.lastore, 1) := by decide +kernel
theorem dL_person_10 : decode cL_person 10 = .ok (.goto 11, 3) := by decide +kernel
theorem dL_person_13 : decode cL_person 13 = .ok (.astore 4, 2) := by decide +kernel
theorem dL_person_15 : decode cL_person 15 = .ok (.iconst 1, 1) := by decide +kernel
theorem dL_person_16 : decode cL_person 16 = .ok (.ireturn, 1) := by decide +kernel
theorem dL_person_17 : decode cL_person 17 = .ok (.astore 4, 2) := by decide +kernel
theorem dL_person_19 : decode cL_person 19 = .ok (.iconst 2, 1) := by decide +kernel
theorem dL_person_20 : decode cL_person 20 = .ok (.ireturn, 1) := by decide +kernel
theorem dL_person_21 : decode cL_person 21 = .ok (.iconst 0, 1) := by decide +kernel
theorem dL_person_22 : decode cL_person 22 = .ok (.ireturn, 1) := by decide +kernel
set_option maxRecDepth 20000 in
theorem ggL_count_X7_count : GoodIn wsL_count wsX7_count := goodIn_ca (goodIn_r _ [6, 7, 8, 9, 5, 10, 11, 12, 13, 14, 15, 16, 17, 18, 19, 20, 21, 22, 23, 24, 25, 26, 27, 28, 29, 30, 31, 32, 33, 34, 35, 36, 37, 38] (by decide +kernel) (by decide +kernel)) (goodIn_sub (fun _ h => List.mem_cons_of_mem _ (List.mem_append_right _ h)) (by decide +kernel))
set_option maxRecDepth 20000 in
theorem gL_count_X7_count : GoodIn wsL_count (wsV RL 67 RX7 yX7_count wsX7_count) := goodIn_app (goodIn_of _ (by decide +kernel)) ggL_count_X7_count
theorem dL_count_0 : decode cL_count 0 = .ok (.aload_n 2, 1) := by decide +kernel
theorem dL_count_1 : decode cL_count 1 = .ok (.iconst 0, 1) := by decide +kernel
theorem dL_count_2 : decode cL_count 2 = .ok (.aload_n 0, 1) := by decide +kernel
theorem dL_count_3 : decode cL_count 3 = .ok (.iload_n 1, 1) := by decide +kernel
theorem dL_count_4 : decode cL_count 4 = .ok (.invokevirtual 67, 3) := by decide +kernel
theorem dL_count_7 : decode cL_count 7 = .ok (.i2l, 1) := by decide +kernel
theorem dL_count_8 : decode cL_count 8 = .ok (.lastore, 1) := by decide +kernel
theorem dL_count_9 : decode cL_count 9 = .ok (.goto 6, 3) := by decide +kernel
theorem dL_count_12 : decode cL_count 12 = .ok (.astore_n 3, 1) := by decide +kernel
theorem dL_count_13 : decode cL_count 13 = .ok (.iconst 1, 1) := by decide +kernel
theorem dL_count_14 : decode cL_count 14 = .ok (.ireturn, 1) := by decide +kernel
theorem dL_count_15 : decode cL_count 15 = .ok (.iconst 0, 1) := by decide +kernel
theorem dL_count_16 : decode cL_count 16 = .ok (.ireturn, 1) := by decide +kernel
