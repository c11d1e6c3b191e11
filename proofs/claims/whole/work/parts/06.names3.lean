theorem dX7_fire_13 : decode cX7_fire 13 = .ok (.getfield 33, 3) := by decide +kernel
theorem dX7_fire_16 : decode cX7_fire 16 = .ok (.invokevirtual 113, 3) := by decide +kernel
theorem dX7_fire_19 : decode cX7_fire 19 = .ok (.ifCond .ne 7, 3) := by decide +kernel
theorem dX7_fire_22 : decode cX7_fire 22 = .ok (.iconst 1, 1) := by decide +kernel
theorem dX7_fire_23 : decode cX7_fire 23 = .ok (.goto 4, 3) := by decide +kernel
theorem dX7_fire_26 : decode cX7_fire 26 = .ok (.iconst 0, 1) := by decide +kernel
theorem dX7_fire_27 : decode cX7_fire 27 = .ok (.invokestatic 90, 3) := by decide +kernel
theorem dX7_fire_30 : decode cX7_fire 30 = .ok (.aload_n 0, 1) := by decide +kernel
theorem dX7_fire_31 : decode cX7_fire 31 = .ok (.getfield 33, 3) := by decide +kernel
theorem dX7_fire_34 : decode cX7_fire 34 = .ok (.iload_n 1, 1) := by decide +kernel
theorem dX7_fire_35 : decode cX7_fire 35 = .ok (.iload_n 2, 1) := by decide +kernel
theorem dX7_fire_36 : decode cX7_fire 36 = .ok (.invokevirtual 117, 3) := by decide +kernel
theorem dX7_fire_39 : decode cX7_fire 39 = .ok (.return_, 1) := by decide +kernel
set_option maxRecDepth 20000 in
theorem ggX7_feed_X7_requireIndex : GoodIn wsX7_feed wsX7_requireIndex := goodIn_ca (goodIn_r _ [5, 6, 7] (by decide +kernel) (by decide +kernel)) (goodIn_sub (fun _ h => List.mem_cons_of_mem _ (List.mem_append_right _ h)) (by decide +kernel))
set_option maxRecDepth 20000 in
theorem gX7_feed_X7_requireIndex : GoodIn wsX7_feed (va_wsS RX7 120 yX7_requireIndex wsX7_requireIndex) := goodIn_app (goodIn_of _ (by decide +kernel)) ggX7_feed_X7_requireIndex
set_option maxRecDepth 20000 in
theorem ggX7_feed_X7_hasPower : GoodIn wsX7_feed wsX7_hasPower := goodIn_r _ [11, 1, 12, 13, 14, 15, 16, 17, 18, 19, 20, 21, 22, 23, 24, 25] (by decide +kernel) (by decide +kernel)
set_option maxRecDepth 20000 in
theorem gX7_feed_X7_hasPower : GoodIn wsX7_feed (wsV RX7 123 RX7 yX7_hasPower wsX7_hasPower) := goodIn_app (goodIn_of _ (by decide +kernel)) ggX7_feed_X7_hasPower
theorem dX7_feed_0 : decode cX7_feed 0 = .ok (.iload_n 1, 1) := by decide +kernel
theorem dX7_feed_1 : decode cX7_feed 1 = .ok (.iconst 2, 1) := by decide +kernel
theorem dX7_feed_2 : decode cX7_feed 2 = .ok (.invokestatic 120, 3) := by decide +kernel
theorem dX7_feed_5 : decode cX7_feed 5 = .ok (.aload_n 0, 1) := by decide +kernel
theorem dX7_feed_6 : decode cX7_feed 6 = .ok (.getfield 58, 3) := by decide +kernel
theorem dX7_feed_9 : decode cX7_feed 9 = .ok (.iload_n 1, 1) := by decide +kernel
theorem dX7_feed_10 : decode cX7_feed 10 = .ok (.iload_n 2, 1) := by decide +kernel
theorem dX7_feed_11 : decode cX7_feed 11 = .ok (.ifCond .ne 7, 3) := by decide +kernel
theorem dX7_feed_14 : decode cX7_feed 14 = .ok (.iconst 1, 1) := by decide +kernel
theorem dX7_feed_15 : decode cX7_feed 15 = .ok (.goto 4, 3) := by decide +kernel
theorem dX7_feed_18 : decode cX7_feed 18 = .ok (.iconst 0, 1) := by decide +kernel
theorem dX7_feed_19 : decode cX7_feed 19 = .ok (.bastore, 1) := by decide +kernel
theorem dX7_feed_20 : decode cX7_feed 20 = .ok (.aload_n 0, 1) := by decide +kernel
theorem dX7_feed_21 : decode cX7_feed 21 = .ok (.invokevirtual 123, 3) := by decide +kernel
theorem dX7_feed_24 : decode cX7_feed 24 = .ok (.ireturn, 1) := by decide +kernel
set_option maxRecDepth 20000 in
theorem ggX7_failFan_X7_requireIndex : GoodIn wsX7_failFan wsX7_requireIndex := goodIn_ca (goodIn_r _ [5, 6, 7] (by decide +kernel) (by decide +kernel)) (goodIn_sub (fun _ h => List.mem_cons_of_mem _ (List.mem_append_right _ h)) (by decide +kernel))
set_option maxRecDepth 20000 in
theorem gX7_failFan_X7_requireIndex : GoodIn wsX7_failFan (va_wsS RX7 120 yX7_requireIndex wsX7_requireIndex) := goodIn_app (goodIn_of _ (by decide +kernel)) ggX7_failFan_X7_requireIndex
set_option maxRecDepth 20000 in
theorem ggX7_failFan_X5_setFailing : GoodIn wsX7_failFan wsX5_setFailing := goodIn_r _ [12, 13, 14, 15, 11, 16, 36, 37, 38] (by decide +kernel) (by decide +kernel)
set_option maxRecDepth 20000 in
theorem gX7_failFan_X5_setFailing : GoodIn wsX7_failFan (wsV RX7 126 RX5 yX5_setFailing wsX5_setFailing) := goodIn_app (goodIn_of _ (by decide +kernel)) ggX7_failFan_X5_setFailing
set_option maxRecDepth 20000 in
theorem ggX7_failFan_X5_stateOf : GoodIn wsX7_failFan wsX5_stateOf := goodIn_r _ [20, 21, 14, 15, 11, 16, 36, 37, 38] (by decide +kernel) (by decide +kernel)
set_option maxRecDepth 20000 in
theorem gX7_failFan_X5_stateOf : GoodIn wsX7_failFan (wsV RX7 130 RX5 yX5_stateOf wsX5_stateOf) := goodIn_app (goodIn_of _ (by decide +kernel)) ggX7_failFan_X5_stateOf
theorem dX7_failFan_0 : decode cX7_failFan 0 = .ok (.iload_n 1, 1) := by decide +kernel
theorem dX7_failFan_1 : decode cX7_failFan 1 = .ok (.iconst 3, 1) := by decide +kernel
theorem dX7_failFan_2 : decode cX7_failFan 2 = .ok (.invokestatic 120, 3) := by decide +kernel
theorem dX7_failFan_5 : decode cX7_failFan 5 = .ok (.aload_n 0, 1) := by decide +kernel
theorem dX7_failFan_6 : decode cX7_failFan 6 = .ok (.getfield 10, 3) := by decide +kernel
theorem dX7_failFan_9 : decode cX7_failFan 9 = .ok (.iload_n 1, 1) := by decide +kernel
theorem dX7_failFan_10 : decode cX7_failFan 10 = .ok (.iload_n 2, 1) := by decide +kernel
theorem dX7_failFan_11 : decode cX7_failFan 11 = .ok (.invokevirtual 126, 3) := by decide +kernel
theorem dX7_failFan_14 : decode cX7_failFan 14 = .ok (.aload_n 0, 1) := by decide +kernel
theorem dX7_failFan_15 : decode cX7_failFan 15 = .ok (.getfield 10, 3) := by decide +kernel
theorem dX7_failFan_18 : decode cX7_failFan 18 = .ok (.iload_n 1, 1) := by decide +kernel
theorem dX7_failFan_19 : decode cX7_failFan 19 = .ok (.invokevirtual 130, 3) := by decide +kernel
theorem dX7_failFan_22 : decode cX7_failFan 22 = .ok (.ireturn, 1) := by decide +kernel
set_option maxRecDepth 20000 in
theorem ggX7_failDoor_X7_requireDoor : GoodIn wsX7_failDoor wsX7_requireDoor := goodIn_ca (goodIn_r _ [6, 7, 8, 1, 9, 10, 11, 12, 13, 14, 15, 5, 16, 27, 28, 29, 30, 31, 32, 33, 34, 35, 36, 37, 38, 39, 40, 41, 42, 43] (by decide +kernel) (by decide +kernel)) (goodIn_sub (fun _ h => List.mem_cons_of_mem _ (List.mem_append_right _ h)) (by decide +kernel))
set_option maxRecDepth 20000 in
theorem gX7_failDoor_X7_requireDoor : GoodIn wsX7_failDoor (wsV RX7 133 RX7 yX7_requireDoor wsX7_requireDoor) := goodIn_app (goodIn_of _ (by decide +kernel)) ggX7_failDoor_X7_requireDoor
set_option maxRecDepth 20000 in
theorem ggX7_failDoor_X4_setFailing : GoodIn wsX7_failDoor wsX4_setFailing := goodIn_r _ [20, 21, 15, 5, 16, 41, 42, 43] (by decide +kernel) (by decide +kernel)
set_option maxRecDepth 20000 in
theorem gX7_failDoor_X4_setFailing : GoodIn wsX7_failDoor (wsV RX7 136 RX4 yX4_setFailing wsX4_setFailing) := goodIn_app (goodIn_of _ (by decide +kernel)) ggX7_failDoor_X4_setFailing
set_option maxRecDepth 20000 in
theorem ggX7_failDoor_X4_isOpen : GoodIn wsX7_failDoor wsX4_isOpen := goodIn_r _ [25, 26, 15, 5, 16, 41, 42, 43] (by decide +kernel) (by decide +kernel)
set_option maxRecDepth 20000 in
theorem gX7_failDoor_X4_isOpen : GoodIn wsX7_failDoor (wsV RX7 137 RX4 yX4_isOpen wsX4_isOpen) := goodIn_app (goodIn_of _ (by decide +kernel)) ggX7_failDoor_X4_isOpen
theorem dX7_failDoor_0 : decode cX7_failDoor 0 = .ok (.aload_n 0, 1) := by decide +kernel
theorem dX7_failDoor_1 : decode cX7_failDoor 1 = .ok (.iload_n 1, 1) := by decide +kernel
theorem dX7_failDoor_2 : decode cX7_failDoor 2 = .ok (.invokevirtual 133, 3) := by decide +kernel
theorem dX7_failDoor_5 : decode cX7_failDoor 5 = .ok (.aload_n 0, 1) := by decide +kernel
theorem dX7_failDoor_6 : decode cX7_failDoor 6 = .ok (.getfield 40, 3) := by decide +kernel
theorem dX7_failDoor_9 : decode cX7_failDoor 9 = .ok (.iload_n 1, 1) := by decide +kernel
theorem dX7_failDoor_10 : decode cX7_failDoor 10 = .ok (.iload_n 2, 1) := by decide +kernel
theorem dX7_failDoor_11 : decode cX7_failDoor 11 = .ok (.invokevirtual 136, 3) := by decide +kernel
theorem dX7_failDoor_14 : decode cX7_failDoor 14 = .ok (.aload_n 0, 1) := by decide +kernel
theorem dX7_failDoor_15 : decode cX7_failDoor 15 = .ok (.getfield 40, 3) := by decide +kernel
theorem dX7_failDoor_18 : decode cX7_failDoor 18 = .ok (.iload_n 1, 1) := by decide +kernel
theorem dX7_failDoor_19 : decode cX7_failDoor 19 = .ok (.invokevirtual 137, 3) := by decide +kernel
theorem dX7_failDoor_22 : decode cX7_failDoor 22 = .ok (.ireturn, 1) := by decide +kernel
set_option maxRecDepth 20000 in
theorem ggX7_failDetector_X7_requireSegment : GoodIn wsX7_failDetector wsX7_requireSegment := goodIn_ca (goodIn_r _ [5, 6, 7, 4, 8, 9, 10] (by decide +kernel) (by decide +kernel)) (goodIn_sub (fun _ h => List.mem_cons_of_mem _ (List.mem_append_right _ h)) (by decide +kernel))
set_option maxRecDepth 20000 in
theorem gX7_failDetector_X7_requireSegment : GoodIn wsX7_failDetector (va_wsS RX7 82 yX7_requireSegment wsX7_requireSegment) := goodIn_app (goodIn_of _ (by decide +kernel)) ggX7_failDetector_X7_requireSegment
set_option maxRecDepth 20000 in
theorem ggX7_failDetector_X7_requireIndex : GoodIn wsX7_failDetector wsX7_requireIndex := goodIn_ca (goodIn_r _ [8, 9, 10] (by decide +kernel) (by decide +kernel)) (goodIn_sub (fun _ h => List.mem_cons_of_mem _ (List.mem_append_right _ h)) (by decide +kernel))
set_option maxRecDepth 20000 in
theorem gX7_failDetector_X7_requireIndex : GoodIn wsX7_failDetector (va_wsS RX7 120 yX7_requireIndex wsX7_requireIndex) := goodIn_app (goodIn_of _ (by decide +kernel)) ggX7_failDetector_X7_requireIndex
theorem dX7_failDetector_0 : decode cX7_failDetector 0 = .ok (.iload_n 1, 1) := by decide +kernel
theorem dX7_failDetector_1 : decode cX7_failDetector 1 = .ok (.invokestatic 82, 3) := by decide +kernel
theorem dX7_failDetector_4 : decode cX7_failDetector 4 = .ok (.iload_n 2, 1) := by decide +kernel
theorem dX7_failDetector_5 : decode cX7_failDetector 5 = .ok (.iconst 3, 1) := by decide +kernel
theorem dX7_failDetector_6 : decode cX7_failDetector 6 = .ok (.invokestatic 120, 3) := by decide +kernel
theorem dX7_failDetector_9 : decode cX7_failDetector 9 = .ok (.aload_n 0, 1) := by decide +kernel
theorem dX7_failDetector_10 : decode cX7_failDetector 10 = .ok (.getfield 62, 3) := by decide +kernel
theorem dX7_failDetector_13 : decode cX7_failDetector 13 = .ok (.iload_n 1, 1) := by decide +kernel
theorem dX7_failDetector_14 : decode cX7_failDetector 14 = .ok (.iconst 3, 1) := by decide +kernel
theorem dX7_failDetector_15 : decode cX7_failDetector 15 = .ok (.imul, 1) := by decide +kernel
theorem dX7_failDetector_16 : decode cX7_failDetector 16 = .ok (.iload_n 2, 1) := by decide +kernel
theorem dX7_failDetector_17 : decode cX7_failDetector 17 = .ok (.iadd, 1) := by decide +kernel
theorem dX7_failDetector_18 : decode cX7_failDetector 18 = .ok (.iload_n 3, 1) := by decide +kernel
theorem dX7_failDetector_19 : decode cX7_failDetector 19 = .ok (.bastore, 1) := by decide +kernel
theorem dX7_failDetector_20 : decode cX7_failDetector 20 = .ok (.return_, 1) := by decide +kernel
set_option maxRecDepth 20000 in
theorem ggX7_act_X7_requireRange : GoodIn wsX7_act wsX7_requireRange := goodIn_ca (goodIn_r _ [6, 7, 8] (by decide +kernel) (by decide +kernel)) (goodIn_sub (fun _ h => List.mem_cons_of_mem _ (List.mem_append_left _ (List.mem_append_right _ h))) (by decide +kernel))
set_option maxRecDepth 20000 in
theorem gX7_act_X7_requireRange : GoodIn wsX7_act (va_wsS RX7 86 yX7_requireRange wsX7_requireRange) := goodIn_app (goodIn_of _ (by decide +kernel)) ggX7_act_X7_requireRange
set_option maxRecDepth 20000 in
theorem ggX7_act_X2_hasRoom : GoodIn wsX7_act wsX2_hasRoom := goodIn_r _ [13, 14, 42, 43, 44, 45, 46, 47] (by decide +kernel) (by decide +kernel)
set_option maxRecDepth 20000 in
theorem gX7_act_X2_hasRoom : GoodIn wsX7_act (wsV RX7 140 RX2 yX2_hasRoom wsX2_hasRoom) := goodIn_app (goodIn_of _ (by decide +kernel)) ggX7_act_X2_hasRoom
set_option maxRecDepth 20000 in
theorem ggX7_act_X7_requireState : GoodIn wsX7_act wsX7_requireState := goodIn_ca (goodIn_r _ [17, 18, 19] (by decide +kernel) (by decide +kernel)) (goodIn_sub (fun _ h => List.mem_cons_of_mem _ (List.mem_append_right _ h)) (by decide +kernel))
set_option maxRecDepth 20000 in
theorem gX7_act_X7_requireState : GoodIn wsX7_act (va_wsS RX7 90 yX7_requireState wsX7_requireState) := goodIn_app (goodIn_of _ (by decide +kernel)) ggX7_act_X7_requireState
set_option maxRecDepth 20000 in
theorem ggX7_act_X2_put : GoodIn wsX7_act wsX2_put := goodIn_r _ [23, 24, 14, 25, 26, 27, 10, 11, 12, 13, 42, 43, 44, 45, 46, 47] (by decide +kernel) (by decide +kernel)
set_option maxRecDepth 20000 in
theorem gX7_act_X2_put : GoodIn wsX7_act (wsV RX7 143 RX2 yX2_put wsX2_put) := goodIn_app (goodIn_of _ (by decide +kernel)) ggX7_act_X2_put
theorem dX7_act_0 : decode cX7_act 0 = .ok (.iload_n 1, 1) := by decide +kernel
theorem dX7_act_1 : decode cX7_act 1 = .ok (.iconst 0, 1) := by decide +kernel
theorem dX7_act_2 : decode cX7_act 2 = .ok (.bipush 7, 2) := by decide +kernel
theorem dX7_act_4 : decode cX7_act 4 = .ok (.invokestatic 86, 3) := by decide +kernel
theorem dX7_act_7 : decode cX7_act 7 = .ok (.iload_n 2, 1) := by decide +kernel
theorem dX7_act_8 : decode cX7_act 8 = .ok (.iconst 0, 1) := by decide +kernel
theorem dX7_act_9 : decode cX7_act 9 = .ok (.bipush 20, 2) := by decide +kernel
theorem dX7_act_11 : decode cX7_act 11 = .ok (.invokestatic 86, 3) := by decide +kernel
theorem dX7_act_14 : decode cX7_act 14 = .ok (.aload_n 0, 1) := by decide +kernel
theorem dX7_act_15 : decode cX7_act 15 = .ok (.getfield 76, 3) := by decide +kernel
theorem dX7_act_18 : decode cX7_act 18 = .ok (.iconst (-1), 1) := by decide +kernel
theorem dX7_act_19 : decode cX7_act 19 = .ok (.if_icmp .ne 17, 3) := by decide +kernel
theorem dX7_act_22 : decode cX7_act 22 = .ok (.aload_n 0, 1) := by decide +kernel
theorem dX7_act_23 : decode cX7_act 23 = .ok (.getfield 47, 3) := by decide +kernel
theorem dX7_act_26 : decode cX7_act 26 = .ok (.invokevirtual 140, 3) := by decide +kernel
theorem dX7_act_29 : decode cX7_act 29 = .ok (.ifCond .eq 7, 3) := by decide +kernel
theorem dX7_act_32 : decode cX7_act 32 = .ok (.iconst 1, 1) := by decide +kernel
theorem dX7_act_33 : decode cX7_act 33 = .ok (.goto 4, 3) := by decide +kernel
theorem dX7_act_36 : decode cX7_act 36 = .ok (.iconst 0, 1) := by decide +kernel
theorem dX7_act_37 : decode cX7_act 37 = .ok (.invokestatic 90, 3) := by decide +kernel
theorem dX7_act_40 : decode cX7_act 40 = .ok (.aload_n 0, 1) := by decide +kernel
theorem dX7_act_41 : decode cX7_act 41 = .ok (.getfield 47, 3) := by decide +kernel
theorem dX7_act_44 : decode cX7_act 44 = .ok (.iload_n 1, 1) := by decide +kernel
theorem dX7_act_45 : decode cX7_act 45 = .ok (.iload_n 2, 1) := by decide +kernel
theorem dX7_act_46 : decode cX7_act 46 = .ok (.iload_n 3, 1) := by decide +kernel
theorem dX7_act_47 : decode cX7_act 47 = .ok (.invokevirtual 143, 3) := by decide +kernel
theorem dX7_act_50 : decode cX7_act 50 = .ok (.ireturn, 1) := by decide +kernel
set_option maxRecDepth 20000 in
theorem ggX7_command_X7_requireIndex : GoodIn wsX7_command wsX7_requireIndex := goodIn_ca (goodIn_r _ [5, 6, 7] (by decide +kernel) (by decide +kernel)) (goodIn_sub (fun _ h => List.mem_cons_of_mem _ (List.mem_append_left _ (List.mem_append_right _ h))) (by decide +kernel))
set_option maxRecDepth 20000 in
theorem gX7_command_X7_requireIndex : GoodIn wsX7_command (va_wsS RX7 120 yX7_requireIndex wsX7_requireIndex) := goodIn_app (goodIn_of _ (by decide +kernel)) ggX7_command_X7_requireIndex
set_option maxRecDepth 20000 in
theorem ggX7_command_X7_requireRange : GoodIn wsX7_command wsX7_requireRange := goodIn_ca (goodIn_r _ [10, 11, 12] (by decide +kernel) (by decide +kernel)) (goodIn_sub (fun _ h => List.mem_cons_of_mem _ (List.mem_append_right _ h)) (by decide +kernel))
set_option maxRecDepth 20000 in
theorem gX7_command_X7_requireRange : GoodIn wsX7_command (va_wsS RX7 86 yX7_requireRange wsX7_requireRange) := goodIn_app (goodIn_of _ (by decide +kernel)) ggX7_command_X7_requireRange
set_option maxRecDepth 20000 in
theorem ggX7_command_X5_order : GoodIn wsX7_command wsX5_order := goodIn_r _ [17, 18, 19, 20, 16, 21, 36, 37, 38] (by decide +kernel) (by decide +kernel)
set_option maxRecDepth 20000 in
theorem gX7_command_X5_order : GoodIn wsX7_command (wsV RX7 147 RX5 yX5_order wsX5_order) := goodIn_app (goodIn_of _ (by decide +kernel)) ggX7_command_X5_order
theorem dX7_command_0 : decode cX7_command 0 = .ok (.iload_n 1, 1) := by decide +kernel
theorem dX7_command_1 : decode cX7_command 1 = .ok (.iconst 3, 1) := by decide +kernel
theorem dX7_command_2 : decode cX7_command 2 = .ok (.invokestatic 120, 3) := by decide +kernel
theorem dX7_command_5 : decode cX7_command 5 = .ok (.iload_n 2, 1) := by decide +kernel
theorem dX7_command_6 : decode cX7_command 6 = .ok (.iconst (-1), 1) := by decide +kernel
theorem dX7_command_7 : decode cX7_command 7 = .ok (.iconst 1, 1) := by decide +kernel
theorem dX7_command_8 : decode cX7_command 8 = .ok (.invokestatic 86, 3) := by decide +kernel
theorem dX7_command_11 : decode cX7_command 11 = .ok (.aload_n 0, 1) := by decide +kernel
theorem dX7_command_12 : decode cX7_command 12 = .ok (.getfield 10, 3) := by decide +kernel
theorem dX7_command_15 : decode cX7_command 15 = .ok (.iload_n 1, 1) := by decide +kernel
theorem dX7_command_16 : decode cX7_command 16 = .ok (.iload_n 2, 1) := by decide +kernel
theorem dX7_command_17 : decode cX7_command 17 = .ok (.invokevirtual 147, 3) := by decide +kernel
theorem dX7_command_20 : decode cX7_command 20 = .ok (.ireturn, 1) := by decide +kernel
set_option maxRecDepth 20000 in
theorem ggX7_step_X7_requireRange : GoodIn wsX7_step wsX7_requireRange := goodIn_ca (goodIn_r _ [5, 6, 7] (by decide +kernel) (by decide +kernel)) (goodIn_sub (fun _ h => List.mem_cons_of_mem _ (List.mem_append_right _ h)) (by decide +kernel))
set_option maxRecDepth 20000 in
theorem gX7_step_X7_requireRange : GoodIn wsX7_step (va_wsS RX7 86 yX7_requireRange wsX7_requireRange) := goodIn_app (goodIn_of _ (by decide +kernel)) ggX7_step_X7_requireRange
set_option maxRecDepth 20000 in
theorem ggX7_step_X7_doStep : GoodIn wsX7_step wsX7_doStep := goodIn_r _ [11, 12, 13, 14, 1, 15, 16, 17, 18, 19, 20, 4, 21, 22, 23, 24, 25, 26, 27, 28, 29, 30, 31, 32, 33, 34, 35, 36, 37, 38, 39, 40, 41, 42, 43, 44, 45, 46, 47, 48, 49, 50, 51, 52, 53, 54, 55, 56, 57, 58, 59, 60, 61, 62, 63, 64, 65, 66, 67, 68, 69, 70, 71, 72, 73, 74, 75, 76, 77, 78, 79, 80, 81, 82, 83, 84, 85, 86, 87, 88, 89, 90, 91, 92, 93, 94, 95, 96, 97, 98, 99, 100, 101, 102, 103, 104, 105, 106, 107, 108, 109, 110, 111, 112, 113, 114, 115, 116, 117, 118, 119, 120, 121, 122, 123, 124, 125, 126, 127, 128, 129, 130, 131, 132, 133, 134, 135, 136, 137, 138, 139, 140, 141, 142, 143, 144, 145, 146, 147, 148, 149, 150, 151, 152, 153, 154, 155, 156, 157, 158, 159, 160, 161, 162, 163, 164, 165, 166, 167, 168, 169, 170, 171, 172, 173, 174, 175, 176, 177, 178, 179, 180, 181, 182, 183, 184, 185, 186, 187, 188, 189, 190, 191, 192, 193, 194, 195, 196, 197, 198, 199, 200, 201, 202, 203, 204, 205, 206, 207, 208, 209, 210, 211, 212, 213, 214, 215, 216, 217, 218, 219, 220, 221, 222, 223, 224, 225, 226, 227, 228, 229, 230, 231, 232, 233, 234, 235, 236, 237, 238, 239, 240, 241, 242, 243, 244, 245, 246, 247, 248, 249, 250, 251, 252, 253, 254, 255, 256, 257, 258, 259, 260, 261, 262, 263, 264, 265, 266, 267, 268, 269, 270, 271, 272, 273, 274, 275, 276, 277, 278, 279, 280, 281, 282, 283, 284, 285, 286, 287, 288] (by decide +kernel) (by decide +kernel)
set_option maxRecDepth 20000 in
theorem gX7_step_X7_doStep : GoodIn wsX7_step (wsV RX7 151 RX7 yX7_doStep wsX7_doStep) := goodIn_app (goodIn_of _ (by decide +kernel)) ggX7_step_X7_doStep
theorem dX7_step_0 : decode cX7_step 0 = .ok (.iload_n 1, 1) := by decide +kernel
theorem dX7_step_1 : decode cX7_step 1 = .ok (.iconst 1, 1) := by decide +kernel
theorem dX7_step_2 : decode cX7_step 2 = .ok (.bipush 100, 2) := by decide +kernel
theorem dX7_step_4 : decode cX7_step 4 = .ok (.invokestatic 86, 3) := by decide +kernel
theorem dX7_step_7 : decode cX7_step 7 = .ok (.iconst 0, 1) := by decide +kernel
theorem dX7_step_8 : decode cX7_step 8 = .ok (.istore_n 2, 1) := by decide +kernel
theorem dX7_step_9 : decode cX7_step 9 = .ok (.iload_n 2, 1) := by decide +kernel
theorem dX7_step_10 : decode cX7_step 10 = .ok (.iload_n 1, 1) := by decide +kernel
theorem dX7_step_11 : decode cX7_step 11 = .ok (.if_icmp .ge 13, 3) := by decide +kernel
theorem dX7_step_14 : decode cX7_step 14 = .ok (.aload_n 0, 1) := by decide +kernel
theorem dX7_step_15 : decode cX7_step 15 = .ok (.invokevirtual 151, 3) := by decide +kernel
theorem dX7_step_18 : decode cX7_step 18 = .ok (.iinc 2 1, 3) := by decide +kernel
theorem dX7_step_21 : decode cX7_step 21 = .ok (.goto (-12), 3) := by decide +kernel
theorem dX7_step_24 : decode cX7_step 24 = .ok (.aload_n 0, 1) := by decide +kernel
theorem dX7_step_25 : decode cX7_step 25 = .ok (.getfield 79, 3) := by decide +kernel
theorem dX7_step_28 : decode cX7_step 28 = .ok (.ireturn, 1) := by decide +kernel
set_option maxRecDepth 20000 in
theorem ggX7_segment_X7_requireSegment : GoodIn wsX7_segment wsX7_requireSegment := goodIn_ca (goodIn_r _ [6, 7, 8, 5, 9, 10, 11] (by decide +kernel) (by decide +kernel)) (goodIn_sub (fun _ h => List.mem_cons_of_mem _ (List.mem_append_left _ (List.mem_append_right _ h))) (by decide +kernel))
set_option maxRecDepth 20000 in
theorem gX7_segment_X7_requireSegment : GoodIn wsX7_segment (va_wsS RX7 82 yX7_requireSegment wsX7_requireSegment) := goodIn_app (goodIn_of _ (by decide +kernel)) ggX7_segment_X7_requireSegment
set_option maxRecDepth 20000 in
theorem ggX7_segment_X7_requireRange : GoodIn wsX7_segment wsX7_requireRange := goodIn_ca (goodIn_r _ [14, 15, 16] (by decide +kernel) (by decide +kernel)) (goodIn_sub (fun _ h => List.mem_cons_of_mem _ (List.mem_append_right _ h)) (by decide +kernel))
set_option maxRecDepth 20000 in
theorem gX7_segment_X7_requireRange : GoodIn wsX7_segment (va_wsS RX7 86 yX7_requireRange wsX7_requireRange) := goodIn_app (goodIn_of _ (by decide +kernel)) ggX7_segment_X7_requireRange
set_option maxRecDepth 20000 in
theorem ggX7_segment_X0_smokeIn : GoodIn wsX7_segment wsX0_smokeIn := goodIn_r _ [21, 22, 23, 5, 24, 76, 77, 78, 79] (by decide +kernel) (by decide +kernel)
set_option maxRecDepth 20000 in
theorem gX7_segment_X0_smokeIn : GoodIn wsX7_segment (wsV RX7 154 RX0 yX0_smokeIn wsX0_smokeIn) := goodIn_app (goodIn_of _ (by decide +kernel)) ggX7_segment_X0_smokeIn
set_option maxRecDepth 20000 in
theorem ggX7_segment_X0_heatIn : GoodIn wsX7_segment wsX0_heatIn := goodIn_r _ [28, 29, 23, 5, 24, 76, 77, 78, 79] (by decide +kernel) (by decide +kernel)
set_option maxRecDepth 20000 in
theorem gX7_segment_X0_heatIn : GoodIn wsX7_segment (wsV RX7 157 RX0 yX0_heatIn wsX0_heatIn) := goodIn_app (goodIn_of _ (by decide +kernel)) ggX7_segment_X0_heatIn
set_option maxRecDepth 20000 in
theorem ggX7_segment_X7_tellingIn : GoodIn wsX7_segment wsX7_tellingIn := goodIn_r _ [33, 1, 2, 17, 18, 19, 20, 21, 22, 23, 5, 24, 25, 26, 27, 28, 29, 34, 35, 36, 37, 38, 39, 40, 41, 42, 43, 44, 45, 62, 63, 64, 65, 66, 67, 68, 69, 70, 71, 72, 73, 74, 75, 76, 77, 78, 79, 80, 81, 82, 83, 84] (by decide +kernel) (by decide +kernel)
set_option maxRecDepth 20000 in
theorem gX7_segment_X7_tellingIn : GoodIn wsX7_segment (wsV RX7 160 RX7 yX7_tellingIn wsX7_tellingIn) := goodIn_app (goodIn_of _ (by decide +kernel)) ggX7_segment_X7_tellingIn
set_option maxRecDepth 20000 in
theorem ggX7_segment_X3_insideOf : GoodIn wsX7_segment wsX3_insideOf := goodIn_r _ [43, 44, 45, 80, 81, 82, 83, 84] (by decide +kernel) (by decide +kernel)
set_option maxRecDepth 20000 in
theorem gX7_segment_X3_insideOf : GoodIn wsX7_segment (wsV RX7 163 RX3 yX3_insideOf wsX3_insideOf) := goodIn_app (goodIn_of _ (by decide +kernel)) ggX7_segment_X3_insideOf
set_option maxRecDepth 20000 in
theorem ggX7_segment_X7_doorAnswer : GoodIn wsX7_segment wsX7_doorAnswer := goodIn_r _ [49, 50, 51, 52, 53, 54, 55, 56, 23, 5, 24, 57, 58, 59, 60, 61, 62, 63, 64, 65, 66, 67, 68, 69, 70, 71, 72, 73, 74, 75, 85, 86, 87] (by decide +kernel) (by decide +kernel)
set_option maxRecDepth 20000 in
theorem gX7_segment_X7_doorAnswer : GoodIn wsX7_segment (wsV RX7 166 RX7 yX7_doorAnswer wsX7_doorAnswer) := goodIn_app (goodIn_of _ (by decide +kernel)) ggX7_segment_X7_doorAnswer
theorem dX7_segment_0 : decode cX7_segment 0 = .ok (.iload_n 1, 1) := by decide +kernel
theorem dX7_segment_1 : decode cX7_segment 1 = .ok (.invokestatic 82, 3) := by decide +kernel
theorem dX7_segment_4 : decode cX7_segment 4 = .ok (.iload_n 2, 1) := by decide +kernel
theorem dX7_segment_5 : decode cX7_segment 5 = .ok (.iconst 0, 1) := by decide +kernel
theorem dX7_segment_6 : decode cX7_segment 6 = .ok (.iconst 4, 1) := by decide +kernel
theorem dX7_segment_7 : decode cX7_segment 7 = .ok (.invokestatic 86, 3) := by decide +kernel
theorem dX7_segment_10 : decode cX7_segment 10 = .ok (.iload_n 2, 1) := by decide +kernel
theorem dX7_segment_11 : decode cX7_segment 11 = .ok (.tableswitch 62 0 3 #[29, 38, 47, 53], 29) := by decide +kernel
theorem dX7_segment_40 : decode cX7_segment 40 = .ok (.aload_n 0, 1) := by decide +kernel
theorem dX7_segment_41 : decode cX7_segment 41 = .ok (.getfield 26, 3) := by decide +kernel
theorem dX7_segment_44 : decode cX7_segment 44 = .ok (.iload_n 1, 1) := by decide +kernel
theorem dX7_segment_45 : decode cX7_segment 45 = .ok (.invokevirtual 154, 3) := by decide +kernel
theorem dX7_segment_48 : decode cX7_segment 48 = .ok (.ireturn, 1) := by decide +kernel
theorem dX7_segment_49 : decode cX7_segment 49 = .ok (.aload_n 0, 1) := by decide +kernel
theorem dX7_segment_50 : decode cX7_segment 50 = .ok (.getfield 26, 3) := by decide +kernel
theorem dX7_segment_53 : decode cX7_segment 53 = .ok (.iload_n 1, 1) := by decide +kernel
theorem dX7_segment_54 : decode cX7_segment 54 = .ok (.invokevirtual 157, 3) := by decide +kernel
theorem dX7_segment_57 : decode cX7_segment 57 = .ok (.ireturn, 1) := by decide +kernel
theorem dX7_segment_58 : decode cX7_segment 58 = .ok (.aload_n 0, 1) := by decide +kernel
theorem dX7_segment_59 : decode cX7_segment 59 = .ok (.iload_n 1, 1) := by decide +kernel
theorem dX7_segment_60 : decode cX7_segment 60 = .ok (.invokevirtual 160, 3) := by decide +kernel
theorem dX7_segment_63 : decode cX7_segment 63 = .ok (.ireturn, 1) := by decide +kernel
theorem dX7_segment_64 : decode cX7_segment 64 = .ok (.aload_n 0, 1) := by decide +kernel
theorem dX7_segment_65 : decode cX7_segment 65 = .ok (.getfield 54, 3) := by decide +kernel
theorem dX7_segment_68 : decode cX7_segment 68 = .ok (.iload_n 1, 1) := by decide +kernel
theorem dX7_segment_69 : decode cX7_segment 69 = .ok (.invokevirtual 163, 3) := by decide +kernel
theorem dX7_segment_72 : decode cX7_segment 72 = .ok (.ireturn, 1) := by decide +kernel
theorem dX7_segment_73 : decode cX7_segment 73 = .ok (.aload_n 0, 1) := by decide +kernel
theorem dX7_segment_74 : decode cX7_segment 74 = .ok (.iload_n 1, 1) := by decide +kernel
theorem dX7_segment_75 : decode cX7_segment 75 = .ok (.invokevirtual 166, 3) := by decide +kernel
theorem dX7_segment_78 : decode cX7_segment 78 = .ok (.ireturn, 1) := by decide +kernel
set_option maxRecDepth 20000 in
theorem ggX7_flow_X6_speed : GoodIn wsX7_flow wsX6_speed := goodIn_r _ [7, 8, 23, 24, 25] (by decide +kernel) (by decide +kernel)
set_option maxRecDepth 20000 in
theorem gX7_flow_X6_speed : GoodIn wsX7_flow (wsV RX7 171 RX6 yX6_speed wsX6_speed) := goodIn_app (goodIn_of _ (by decide +kernel)) ggX7_flow_X6_speed
theorem dX7_flow_0 : decode cX7_flow 0 = .ok (.ldc2_w 169, 3) := by decide +kernel
theorem dX7_flow_3 : decode cX7_flow 3 = .ok (.aload_n 0, 1) := by decide +kernel
theorem dX7_flow_4 : decode cX7_flow 4 = .ok (.getfield 19, 3) := by decide +kernel
theorem dX7_flow_7 : decode cX7_flow 7 = .ok (.invokevirtual 171, 3) := by decide +kernel
theorem dX7_flow_10 : decode cX7_flow 10 = .ok (.dmul, 1) := by decide +kernel
theorem dX7_flow_11 : decode cX7_flow 11 = .ok (.d2i, 1) := by decide +kernel
theorem dX7_flow_12 : decode cX7_flow 12 = .ok (.ireturn, 1) := by decide +kernel
set_option maxRecDepth 20000 in
theorem ggX7_fan_X7_requireIndex : GoodIn wsX7_fan wsX7_requireIndex := goodIn_ca (goodIn_r _ [5, 6, 7] (by decide +kernel) (by decide +kernel)) (goodIn_sub (fun _ h => List.mem_cons_of_mem _ (List.mem_append_right _ h)) (by decide +kernel))
set_option maxRecDepth 20000 in
theorem gX7_fan_X7_requireIndex : GoodIn wsX7_fan (va_wsS RX7 120 yX7_requireIndex wsX7_requireIndex) := goodIn_app (goodIn_of _ (by decide +kernel)) ggX7_fan_X7_requireIndex
set_option maxRecDepth 20000 in
theorem ggX7_fan_X5_stateOf : GoodIn wsX7_fan wsX5_stateOf := goodIn_r _ [12, 13, 14, 15, 11, 16, 31, 32, 33] (by decide +kernel) (by decide +kernel)
set_option maxRecDepth 20000 in
theorem gX7_fan_X5_stateOf : GoodIn wsX7_fan (wsV RX7 130 RX5 yX5_stateOf wsX5_stateOf) := goodIn_app (goodIn_of _ (by decide +kernel)) ggX7_fan_X5_stateOf
theorem dX7_fan_0 : decode cX7_fan 0 = .ok (.iload_n 1, 1) := by decide +kernel
theorem dX7_fan_1 : decode cX7_fan 1 = .ok (.iconst 3, 1) := by decide +kernel
theorem dX7_fan_2 : decode cX7_fan 2 = .ok (.invokestatic 120, 3) := by decide +kernel
theorem dX7_fan_5 : decode cX7_fan 5 = .ok (.aload_n 0, 1) := by decide +kernel
theorem dX7_fan_6 : decode cX7_fan 6 = .ok (.getfield 10, 3) := by decide +kernel
theorem dX7_fan_9 : decode cX7_fan 9 = .ok (.iload_n 1, 1) := by decide +kernel
theorem dX7_fan_10 : decode cX7_fan 10 = .ok (.invokevirtual 130, 3) := by decide +kernel
theorem dX7_fan_13 : decode cX7_fan 13 = .ok (.ireturn, 1) := by decide +kernel
theorem dX7_alarm_0 : decode cX7_alarm 0 = .ok (.aload_n 0, 1) := by decide +kernel
theorem dX7_alarm_1 : decode cX7_alarm 1 = .ok (.getfield 76, 3) := by decide +kernel
theorem dX7_alarm_4 : decode cX7_alarm 4 = .ok (.ireturn, 1) := by decide +kernel
set_option maxRecDepth 20000 in
theorem ggX7_done_X2_size : GoodIn wsX7_done wsX2_size := goodIn_r _ [6, 7, 37, 38, 39, 40, 41, 42] (by decide +kernel) (by decide +kernel)
set_option maxRecDepth 20000 in
theorem gX7_done_X2_size : GoodIn wsX7_done (wsV RX7 175 RX2 yX2_size wsX2_size) := goodIn_app (goodIn_of _ (by decide +kernel)) ggX7_done_X2_size
set_option maxRecDepth 20000 in
theorem ggX7_done_X7_requireIndex : GoodIn wsX7_done wsX7_requireIndex := goodIn_ca (goodIn_r _ [11, 12, 13] (by decide +kernel) (by decide +kernel)) (goodIn_sub (fun _ h => List.mem_cons_of_mem _ (List.mem_append_right _ h)) (by decide +kernel))
set_option maxRecDepth 20000 in
theorem gX7_done_X7_requireIndex : GoodIn wsX7_done (va_wsS RX7 120 yX7_requireIndex wsX7_requireIndex) := goodIn_app (goodIn_of _ (by decide +kernel)) ggX7_done_X7_requireIndex
set_option maxRecDepth 20000 in
theorem ggX7_done_X2_stepOf : GoodIn wsX7_done wsX2_stepOf := goodIn_r _ [17, 18, 19, 20, 21, 5, 22, 7, 37, 38, 39, 40, 41, 42] (by decide +kernel) (by decide +kernel)
set_option maxRecDepth 20000 in
theorem gX7_done_X2_stepOf : GoodIn wsX7_done (wsV RX7 176 RX2 yX2_stepOf wsX2_stepOf) := goodIn_app (goodIn_of _ (by decide +kernel)) ggX7_done_X2_stepOf
theorem dX7_done_0 : decode cX7_done 0 = .ok (.iload_n 1, 1) := by decide +kernel
theorem dX7_done_1 : decode cX7_done 1 = .ok (.aload_n 0, 1) := by decide +kernel
theorem dX7_done_2 : decode cX7_done 2 = .ok (.getfield 47, 3) := by decide +kernel
theorem dX7_done_5 : decode cX7_done 5 = .ok (.invokevirtual 175, 3) := by decide +kernel
theorem dX7_done_8 : decode cX7_done 8 = .ok (.invokestatic 120, 3) := by decide +kernel
theorem dX7_done_11 : decode cX7_done 11 = .ok (.aload_n 0, 1) := by decide +kernel
theorem dX7_done_12 : decode cX7_done 12 = .ok (.getfield 47, 3) := by decide +kernel
theorem dX7_done_15 : decode cX7_done 15 = .ok (.iload_n 1, 1) := by decide +kernel
theorem dX7_done_16 : decode cX7_done 16 = .ok (.invokevirtual 176, 3) := by decide +kernel
theorem dX7_done_19 : decode cX7_done 19 = .ok (.ireturn, 1) := by decide +kernel
set_option maxRecDepth 20000 in
theorem ggX7_person_X3_size : GoodIn wsX7_person wsX3_size := goodIn_r _ [6, 7, 52, 53, 54, 55, 56] (by decide +kernel) (by decide +kernel)
set_option maxRecDepth 20000 in
theorem gX7_person_X3_size : GoodIn wsX7_person (wsV RX7 105 RX3 yX3_size wsX3_size) := goodIn_app (goodIn_of _ (by decide +kernel)) ggX7_person_X3_size
set_option maxRecDepth 20000 in
theorem ggX7_person_X7_requireIndex : GoodIn wsX7_person wsX7_requireIndex := goodIn_ca (goodIn_r _ [11, 12, 13] (by decide +kernel) (by decide +kernel)) (goodIn_sub (fun _ h => List.mem_cons_of_mem _ (List.mem_append_left _ (List.mem_append_right _ h))) (by decide +kernel))
set_option maxRecDepth 20000 in
theorem gX7_person_X7_requireIndex : GoodIn wsX7_person (va_wsS RX7 120 yX7_requireIndex wsX7_requireIndex) := goodIn_app (goodIn_of _ (by decide +kernel)) ggX7_person_X7_requireIndex
set_option maxRecDepth 20000 in
theorem ggX7_person_X7_requireRange : GoodIn wsX7_person wsX7_requireRange := goodIn_ca (goodIn_r _ [16, 17, 18] (by decide +kernel) (by decide +kernel)) (goodIn_sub (fun _ h => List.mem_cons_of_mem _ (List.mem_append_right _ h)) (by decide +kernel))
set_option maxRecDepth 20000 in
theorem gX7_person_X7_requireRange : GoodIn wsX7_person (va_wsS RX7 86 yX7_requireRange wsX7_requireRange) := goodIn_app (goodIn_of _ (by decide +kernel)) ggX7_person_X7_requireRange
set_option maxRecDepth 20000 in
theorem ggX7_person_X3_stateOf : GoodIn wsX7_person wsX3_stateOf := goodIn_r _ [22, 23, 24, 25, 26, 5, 27, 7, 52, 53, 54, 55, 56] (by decide +kernel) (by decide +kernel)
set_option maxRecDepth 20000 in
theorem gX7_person_X3_stateOf : GoodIn wsX7_person (wsV RX7 179 RX3 yX3_stateOf wsX3_stateOf) := goodIn_app (goodIn_of _ (by decide +kernel)) ggX7_person_X3_stateOf
set_option maxRecDepth 20000 in
theorem ggX7_person_X3_segmentOf : GoodIn wsX7_person wsX3_segmentOf := goodIn_r _ [31, 32, 24, 25, 26, 5, 27, 7, 52, 53, 54, 55, 56] (by decide +kernel) (by decide +kernel)
set_option maxRecDepth 20000 in
theorem gX7_person_X3_segmentOf : GoodIn wsX7_person (wsV RX7 180 RX3 yX3_segmentOf wsX3_segmentOf) := goodIn_app (goodIn_of _ (by decide +kernel)) ggX7_person_X3_segmentOf
set_option maxRecDepth 20000 in
theorem ggX7_person_X3_endOf : GoodIn wsX7_person wsX3_endOf := goodIn_r _ [36, 37, 24, 25, 26, 5, 27, 7, 52, 53, 54, 55, 56] (by decide +kernel) (by decide +kernel)
set_option maxRecDepth 20000 in
theorem gX7_person_X3_endOf : GoodIn wsX7_person (wsV RX7 183 RX3 yX3_endOf wsX3_endOf) := goodIn_app (goodIn_of _ (by decide +kernel)) ggX7_person_X3_endOf
theorem dX7_person_0 : decode cX7_person 0 = .ok (.iload_n 1, 1) := by decide +kernel
theorem dX7_person_1 : decode cX7_person 1 = .ok (.aload_n 0, 1) := by decide +kernel
theorem dX7_person_2 : decode cX7_person 2 = .ok (.getfield 54, 3) := by decide +kernel
theorem dX7_person_5 : decode cX7_person 5 = .ok (.invokevirtual 105, 3) := by decide +kernel
theorem dX7_person_8 : decode cX7_person 8 = .ok (.invokestatic 120, 3) := by decide +kernel
theorem dX7_person_11 : decode cX7_person 11 = .ok (.iload_n 2, 1) := by decide +kernel
theorem dX7_person_12 : decode cX7_person 12 = .ok (.iconst 0, 1) := by decide +kernel
theorem dX7_person_13 : decode cX7_person 13 = .ok (.iconst 2, 1) := by decide +kernel
theorem dX7_person_14 : decode cX7_person 14 = .ok (.invokestatic 86, 3) := by decide +kernel
theorem dX7_person_17 : decode cX7_person 17 = .ok (.iload_n 2, 1) := by decide +kernel
theorem dX7_person_18 : decode cX7_person 18 = .ok (.lookupswitch 44 #[(0, 26), (1, 35)], 26) := by decide +kernel
theorem dX7_person_44 : decode cX7_person 44 = .ok (.aload_n 0, 1) := by decide +kernel
theorem dX7_person_45 : decode cX7_person 45 = .ok (.getfield 54, 3) := by decide +kernel
theorem dX7_person_48 : decode cX7_person 48 = .ok (.iload_n 1, 1) := by decide +kernel
theorem dX7_person_49 : decode cX7_person 49 = .ok (.invokevirtual 179, 3) := by decide +kernel
theorem dX7_person_52 : decode cX7_person 52 = .ok (.ireturn, 1) := by decide +kernel
theorem dX7_person_53 : decode cX7_person 53 = .ok (.aload_n 0, 1) := by decide +kernel
theorem dX7_person_54 : decode cX7_person 54 = .ok (.getfield 54, 3) := by decide +kernel
theorem dX7_person_57 : decode cX7_person 57 = .ok (.iload_n 1, 1) := by decide +kernel
theorem dX7_person_58 : decode cX7_person 58 = .ok (.invokevirtual 180, 3) := by decide +kernel
theorem dX7_person_61 : decode cX7_person 61 = .ok (.ireturn, 1) := by decide +kernel
theorem dX7_person_62 : decode cX7_person 62 = .ok (.aload_n 0, 1) := by decide +kernel
theorem dX7_person_63 : decode cX7_person 63 = .ok (.getfield 54, 3) := by decide +kernel
theorem dX7_person_66 : decode cX7_person 66 = .ok (.iload_n 1, 1) := by decide +kernel
theorem dX7_person_67 : decode cX7_person 67 = .ok (.invokevirtual 183, 3) := by decide +kernel
theorem dX7_person_70 : decode cX7_person 70 = .ok (.ireturn, 1) := by decide +kernel
set_option maxRecDepth 20000 in
theorem ggX7_count_X7_requireRange : GoodIn wsX7_count wsX7_requireRange := goodIn_ca (goodIn_r _ [5, 6, 7] (by decide +kernel) (by decide +kernel)) (goodIn_sub (fun _ h => List.mem_cons_of_mem _ (List.mem_append_right _ h)) (by decide +kernel))
set_option maxRecDepth 20000 in
theorem gX7_count_X7_requireRange : GoodIn wsX7_count (va_wsS RX7 86 yX7_requireRange wsX7_requireRange) := goodIn_app (goodIn_of _ (by decide +kernel)) ggX7_count_X7_requireRange
set_option maxRecDepth 20000 in
theorem ggX7_count_X3_howMany : GoodIn wsX7_count wsX3_howMany := goodIn_r _ [12, 13, 14, 29, 30, 31, 32, 33] (by decide +kernel) (by decide +kernel)
set_option maxRecDepth 20000 in
theorem gX7_count_X3_howMany : GoodIn wsX7_count (wsV RX7 186 RX3 yX3_howMany wsX3_howMany) := goodIn_app (goodIn_of _ (by decide +kernel)) ggX7_count_X3_howMany
theorem dX7_count_0 : decode cX7_count 0 = .ok (.iload_n 1, 1) := by decide +kernel
theorem dX7_count_1 : decode cX7_count 1 = .ok (.iconst 0, 1) := by decide +kernel
theorem dX7_count_2 : decode cX7_count 2 = .ok (.iconst 4, 1) := by decide +kernel
theorem dX7_count_3 : decode cX7_count 3 = .ok (.invokestatic 86, 3) := by decide +kernel
theorem dX7_count_6 : decode cX7_count 6 = .ok (.aload_n 0, 1) := by decide +kernel
theorem dX7_count_7 : decode cX7_count 7 = .ok (.getfield 54, 3) := by decide +kernel
theorem dX7_count_10 : decode cX7_count 10 = .ok (.iload_n 1, 1) := by decide +kernel
theorem dX7_count_11 : decode cX7_count 11 = .ok (.invokevirtual 186, 3) := by decide +kernel
theorem dX7_count_14 : decode cX7_count 14 = .ok (.ireturn, 1) := by decide +kernel
set_option maxRecDepth 20000 in
theorem ggX7_gone_X0_lost : GoodIn wsX7_gone wsX0_lost := goodIn_r _ [6, 7, 22, 23, 24, 25] (by decide +kernel) (by decide +kernel)
set_option maxRecDepth 20000 in
theorem gX7_gone_X0_lost : GoodIn wsX7_gone (wsV RX7 189 RX0 yX0_lost wsX0_lost) := goodIn_app (goodIn_of _ (by decide +kernel)) ggX7_gone_X0_lost
theorem dX7_gone_0 : decode cX7_gone 0 = .ok (.aload_n 0, 1) := by decide +kernel
theorem dX7_gone_1 : decode cX7_gone 1 = .ok (.getfield 26, 3) := by decide +kernel
theorem dX7_gone_4 : decode cX7_gone 4 = .ok (.invokevirtual 189, 3) := by decide +kernel
theorem dX7_gone_7 : decode cX7_gone 7 = .ok (.ireturn, 1) := by decide +kernel
set_option maxRecDepth 20000 in
theorem ggX7_balances_X3_howMany : GoodIn wsX7_balances wsX3_howMany := goodIn_r _ [8, 9, 10, 46, 47, 48, 49, 50] (by decide +kernel) (by decide +kernel)
set_option maxRecDepth 20000 in
theorem gX7_balances_X3_howMany : GoodIn wsX7_balances (wsV RX7 186 RX3 yX3_howMany wsX3_howMany) := goodIn_app (goodIn_of _ (by decide +kernel)) ggX7_balances_X3_howMany
set_option maxRecDepth 20000 in
theorem ggX7_balances_X3_size : GoodIn wsX7_balances wsX3_size := goodIn_r _ [14, 9, 46, 47, 48, 49, 50] (by decide +kernel) (by decide +kernel)
set_option maxRecDepth 20000 in
theorem gX7_balances_X3_size : GoodIn wsX7_balances (wsV RX7 105 RX3 yX3_size wsX3_size) := goodIn_app (goodIn_of _ (by decide +kernel)) ggX7_balances_X3_size
set_option maxRecDepth 20000 in
theorem ggX7_balances_X0_allSmoke : GoodIn wsX7_balances wsX0_allSmoke := goodIn_r _ [19, 20, 51, 52, 53, 54] (by decide +kernel) (by decide +kernel)
set_option maxRecDepth 20000 in
theorem gX7_balances_X0_allSmoke : GoodIn wsX7_balances (wsV RX7 192 RX0 yX0_allSmoke wsX0_allSmoke) := goodIn_app (goodIn_of _ (by decide +kernel)) ggX7_balances_X0_allSmoke
set_option maxRecDepth 20000 in
theorem ggX7_balances_X0_lost : GoodIn wsX7_balances wsX0_lost := goodIn_r _ [24, 25, 51, 52, 53, 54] (by decide +kernel) (by decide +kernel)
set_option maxRecDepth 20000 in
theorem gX7_balances_X0_lost : GoodIn wsX7_balances (wsV RX7 189 RX0 yX0_lost wsX0_lost) := goodIn_app (goodIn_of _ (by decide +kernel)) ggX7_balances_X0_lost
set_option maxRecDepth 20000 in
theorem ggX7_balances_X1_allMade : GoodIn wsX7_balances wsX1_allMade := goodIn_r _ [30, 31, 55, 56, 57, 58, 59, 60] (by decide +kernel) (by decide +kernel)
set_option maxRecDepth 20000 in
theorem gX7_balances_X1_allMade : GoodIn wsX7_balances (wsV RX7 195 RX1 yX1_allMade wsX1_allMade) := goodIn_app (goodIn_of _ (by decide +kernel)) ggX7_balances_X1_allMade
theorem dX7_balances_0 : decode cX7_balances 0 = .ok (.iconst 0, 1) := by decide +kernel
theorem dX7_balances_1 : decode cX7_balances 1 = .ok (.istore_n 1, 1) := by decide +kernel
theorem dX7_balances_2 : decode cX7_balances 2 = .ok (.iconst 0, 1) := by decide +kernel
theorem dX7_balances_3 : decode cX7_balances 3 = .ok (.istore_n 2, 1) := by decide +kernel
theorem dX7_balances_4 : decode cX7_balances 4 = .ok (.iload_n 2, 1) := by decide +kernel
theorem dX7_balances_5 : decode cX7_balances 5 = .ok (.iconst 4, 1) := by decide +kernel
theorem dX7_balances_6 : decode cX7_balances 6 = .ok (.if_icmp .gt 20, 3) := by decide +kernel
theorem dX7_balances_9 : decode cX7_balances 9 = .ok (.iload_n 1, 1) := by decide +kernel
theorem dX7_balances_10 : decode cX7_balances 10 = .ok (.aload_n 0, 1) := by decide +kernel
theorem dX7_balances_11 : decode cX7_balances 11 = .ok (.getfield 54, 3) := by decide +kernel
theorem dX7_balances_14 : decode cX7_balances 14 = .ok (.iload_n 2, 1) := by decide +kernel
theorem dX7_balances_15 : decode cX7_balances 15 = .ok (.invokevirtual 186, 3) := by decide +kernel
theorem dX7_balances_18 : decode cX7_balances 18 = .ok (.iadd, 1) := by decide +kernel
theorem dX7_balances_19 : decode cX7_balances 19 = .ok (.istore_n 1, 1) := by decide +kernel
theorem dX7_balances_20 : decode cX7_balances 20 = .ok (.iinc 2 1, 3) := by decide +kernel
theorem dX7_balances_23 : decode cX7_balances 23 = .ok (.goto (-19), 3) := by decide +kernel
theorem dX7_balances_26 : decode cX7_balances 26 = .ok (.iload_n 1, 1) := by decide +kernel
theorem dX7_balances_27 : decode cX7_balances 27 = .ok (.aload_n 0, 1) := by decide +kernel
theorem dX7_balances_28 : decode cX7_balances 28 = .ok (.getfield 54, 3) := by decide +kernel
theorem dX7_balances_31 : decode cX7_balances 31 = .ok (.invokevirtual 105, 3) := by decide +kernel
theorem dX7_balances_34 : decode cX7_balances 34 = .ok (.if_icmp .ne 32, 3) := by decide +kernel
theorem dX7_balances_37 : decode cX7_balances 37 = .ok (.aload_n 0, 1) := by decide +kernel
theorem dX7_balances_38 : decode cX7_balances 38 = .ok (.getfield 26, 3) := by decide +kernel
theorem dX7_balances_41 : decode cX7_balances 41 = .ok (.invokevirtual 192, 3) := by decide +kernel
theorem dX7_balances_44 : decode cX7_balances 44 = .ok (.aload_n 0, 1) := by decide +kernel
theorem dX7_balances_45 : decode cX7_balances 45 = .ok (.getfield 26, 3) := by decide +kernel
theorem dX7_balances_48 : decode cX7_balances 48 = .ok (.invokevirtual 189, 3) := by decide +kernel
theorem dX7_balances_51 : decode cX7_balances 51 = .ok (.iadd, 1) := by decide +kernel
theorem dX7_balances_52 : decode cX7_balances 52 = .ok (.aload_n 0, 1) := by decide +kernel
theorem dX7_balances_53 : decode cX7_balances 53 = .ok (.getfield 33, 3) := by decide +kernel
theorem dX7_balances_56 : decode cX7_balances 56 = .ok (.invokevirtual 195, 3) := by decide +kernel
theorem dX7_balances_59 : decode cX7_balances 59 = .ok (.if_icmp .ne 7, 3) := by decide +kernel
theorem dX7_balances_62 : decode cX7_balances 62 = .ok (.iconst 1, 1) := by decide +kernel
theorem dX7_balances_63 : decode cX7_balances 63 = .ok (.goto 4, 3) := by decide +kernel
theorem dX7_balances_66 : decode cX7_balances 66 = .ok (.iconst 0, 1) := by decide +kernel
theorem dX7_balances_67 : decode cX7_balances 67 = .ok (.ireturn, 1) := by decide +kernel
set_option maxRecDepth 20000 in
theorem ggX7_doStep_X7_hasPower : GoodIn wsX7_doStep wsX7_hasPower := goodIn_r _ [12, 13, 236, 237, 238, 239, 240, 241, 242, 243, 244, 245, 246, 247, 248, 249] (by decide +kernel) (by decide +kernel)
set_option maxRecDepth 20000 in
theorem gX7_doStep_X7_hasPower : GoodIn wsX7_doStep (wsV RX7 123 RX7 yX7_hasPower wsX7_hasPower) := goodIn_app (goodIn_of _ (by decide +kernel)) ggX7_doStep_X7_hasPower
set_option maxRecDepth 20000 in
theorem ggX7_doStep_X5_turn : GoodIn wsX7_doStep wsX5_turn := goodIn_r _ [18, 19, 20, 21, 22, 23, 17, 24, 25, 26, 27, 28, 250, 251, 252] (by decide +kernel) (by decide +kernel)
set_option maxRecDepth 20000 in
theorem gX7_doStep_X5_turn : GoodIn wsX7_doStep (wsV RX7 198 RX5 yX5_turn wsX5_turn) := goodIn_app (goodIn_of _ (by decide +kernel)) ggX7_doStep_X5_turn
set_option maxRecDepth 20000 in
theorem ggX7_doStep_X5_push : GoodIn wsX7_doStep wsX5_push := goodIn_r _ [32, 20, 250, 251, 252] (by decide +kernel) (by decide +kernel)
set_option maxRecDepth 20000 in
theorem gX7_doStep_X5_push : GoodIn wsX7_doStep (wsV RX7 201 RX5 yX5_push wsX5_push) := goodIn_app (goodIn_of _ (by decide +kernel)) ggX7_doStep_X5_push
set_option maxRecDepth 20000 in
theorem ggX7_doStep_X6_become : GoodIn wsX7_doStep wsX6_become := goodIn_r _ [37, 38, 39, 40, 41, 42, 43, 44, 45, 36, 46, 47, 48, 253, 254, 255] (by decide +kernel) (by decide +kernel)
set_option maxRecDepth 20000 in
theorem gX7_doStep_X6_become : GoodIn wsX7_doStep (wsV RX7 204 RX6 yX6_become wsX6_become) := goodIn_app (goodIn_of _ (by decide +kernel)) ggX7_doStep_X6_become
set_option maxRecDepth 20000 in
theorem ggX7_doStep_X7_burn : GoodIn wsX7_doStep wsX7_burn := goodIn_r _ [52, 53, 6, 54, 55, 56, 57, 58, 59, 60, 61, 62, 63, 8, 9, 10, 11, 12, 13, 64, 65, 66, 67, 68, 69, 70, 71, 72, 73, 74, 75, 76, 77, 78, 79, 80, 81, 82, 83, 84, 85, 86, 236, 237, 238, 239, 240, 241, 242, 243, 244, 245, 246, 247, 248, 249, 256, 257, 258, 259, 260, 261, 262, 263, 264, 265] (by decide +kernel) (by decide +kernel)
set_option maxRecDepth 20000 in
theorem gX7_doStep_X7_burn : GoodIn wsX7_doStep (wsV RX7 207 RX7 yX7_burn wsX7_burn) := goodIn_app (goodIn_of _ (by decide +kernel)) ggX7_doStep_X7_burn
set_option maxRecDepth 20000 in
theorem ggX7_doStep_X7_moveAir : GoodIn wsX7_doStep wsX7_moveAir := goodIn_r _ [90, 6, 2, 53, 91, 92, 93, 94, 95, 36, 96, 42, 97, 98, 99, 81, 100, 101, 83, 102, 103, 104, 105, 106, 107, 108, 109, 110, 111, 112, 85, 11, 86, 54, 55, 56, 57, 58, 59, 60, 61, 62, 63, 113, 114, 115, 116, 117, 118, 119, 120, 121, 122, 123, 124, 125, 126, 127, 128, 129, 84, 236, 237, 238, 239, 240, 241, 242, 243, 244, 245, 246, 247, 248, 249, 253, 254, 255, 262, 263, 264, 265, 256, 257, 258, 259, 260, 261] (by decide +kernel) (by decide +kernel)
set_option maxRecDepth 20000 in
theorem gX7_doStep_X7_moveAir : GoodIn wsX7_doStep (wsV RX7 210 RX7 yX7_moveAir wsX7_moveAir) := goodIn_app (goodIn_of _ (by decide +kernel)) ggX7_doStep_X7_moveAir
set_option maxRecDepth 20000 in
theorem ggX7_doStep_X7_watch : GoodIn wsX7_doStep wsX7_watch := goodIn_r _ [133, 134, 135, 4, 136, 137, 138, 11, 139, 6, 3, 140, 119, 120, 81, 121, 83, 85, 86, 141, 142, 143, 144, 84, 145, 146, 147, 148, 149, 150, 151, 152, 153, 154, 155, 156, 157, 158, 159, 160, 161, 162, 236, 237, 238, 239, 240, 241, 242, 243, 244, 245, 246, 247, 248, 249, 262, 263, 264, 265, 266, 267, 268, 269, 270, 271, 272, 273, 274, 275, 276] (by decide +kernel) (by decide +kernel)
set_option maxRecDepth 20000 in
theorem gX7_doStep_X7_watch : GoodIn wsX7_doStep (wsV RX7 213 RX7 yX7_watch wsX7_watch) := goodIn_app (goodIn_of _ (by decide +kernel)) ggX7_doStep_X7_watch
set_option maxRecDepth 20000 in
theorem ggX7_doStep_X7_followChart : GoodIn wsX7_doStep wsX7_followChart := goodIn_r _ [166, 134, 135, 4, 167, 168, 169, 160, 170, 171, 162, 172, 173, 174, 175, 176, 177, 178, 179, 180, 181, 182, 183, 184, 185, 186, 11, 187, 2, 5, 7, 1, 91, 53, 188, 189, 190, 36, 191, 40, 192, 193, 194, 195, 196, 197, 198, 199, 200, 201, 202, 17, 203, 21, 204, 205, 206, 57, 207, 75, 236, 237, 238, 239, 240, 241, 242, 243, 244, 245, 246, 247, 248, 249, 271, 272, 273, 274, 275, 276, 253, 254, 255, 277, 278, 279, 250, 251, 252, 256, 257, 258, 259, 260, 261] (by decide +kernel) (by decide +kernel)
set_option maxRecDepth 20000 in
theorem gX7_doStep_X7_followChart : GoodIn wsX7_doStep (wsV RX7 216 RX7 yX7_followChart wsX7_followChart) := goodIn_app (goodIn_of _ (by decide +kernel)) ggX7_doStep_X7_followChart
set_option maxRecDepth 20000 in
theorem ggX7_doStep_X3_live : GoodIn wsX7_doStep wsX3_live := goodIn_r _ [211, 155, 212, 156, 213, 119, 120, 81, 121, 83, 85, 11, 86, 214, 215, 216, 153, 217, 218, 219, 220, 221, 222, 223, 224, 225, 226, 227, 228, 229, 230, 195, 231, 232, 233, 73, 234, 199, 235, 26, 27, 28, 266, 267, 268, 269, 270, 262, 263, 264, 265, 277, 278, 279] (by decide +kernel) (by decide +kernel)
set_option maxRecDepth 20000 in
theorem gX7_doStep_X3_live : GoodIn wsX7_doStep (wsV RX7 219 RX3 yX3_live wsX3_live) := goodIn_app (goodIn_of _ (by decide +kernel)) ggX7_doStep_X3_live
theorem dX7_doStep_0 : decode cX7_doStep 0 = .ok (.aload_n 0, 1) := by decide +kernel
theorem dX7_doStep_1 : decode cX7_doStep 1 = .ok (.getfield 10, 3) := by decide +kernel
theorem dX7_doStep_4 : decode cX7_doStep 4 = .ok (.aload_n 0, 1) := by decide +kernel
theorem dX7_doStep_5 : decode cX7_doStep 5 = .ok (.invokevirtual 123, 3) := by decide +kernel
theorem dX7_doStep_8 : decode cX7_doStep 8 = .ok (.invokevirtual 198, 3) := by decide +kernel
theorem dX7_doStep_11 : decode cX7_doStep 11 = .ok (.aload_n 0, 1) := by decide +kernel
theorem dX7_doStep_12 : decode cX7_doStep 12 = .ok (.getfield 19, 3) := by decide +kernel
theorem dX7_doStep_15 : decode cX7_doStep 15 = .ok (.aload_n 0, 1) := by decide +kernel
theorem dX7_doStep_16 : decode cX7_doStep 16 = .ok (.getfield 10, 3) := by decide +kernel
theorem dX7_doStep_19 : decode cX7_doStep 19 = .ok (.invokevirtual 201, 3) := by decide +kernel
theorem dX7_doStep_22 : decode cX7_doStep 22 = .ok (.invokevirtual 204, 3) := by decide +kernel
theorem dX7_doStep_25 : decode cX7_doStep 25 = .ok (.aload_n 0, 1) := by decide +kernel
theorem dX7_doStep_26 : decode cX7_doStep 26 = .ok (.invokevirtual 207, 3) := by decide +kernel
theorem dX7_doStep_29 : decode cX7_doStep 29 = .ok (.aload_n 0, 1) := by decide +kernel
theorem dX7_doStep_30 : decode cX7_doStep 30 = .ok (.invokevirtual 210, 3) := by decide +kernel
theorem dX7_doStep_33 : decode cX7_doStep 33 = .ok (.aload_n 0, 1) := by decide +kernel
theorem dX7_doStep_34 : decode cX7_doStep 34 = .ok (.invokevirtual 213, 3) := by decide +kernel
theorem dX7_doStep_37 : decode cX7_doStep 37 = .ok (.aload_n 0, 1) := by decide +kernel
theorem dX7_doStep_38 : decode cX7_doStep 38 = .ok (.invokevirtual 216, 3) := by decide +kernel
theorem dX7_doStep_41 : decode cX7_doStep 41 = .ok (.aload_n 0, 1) := by decide +kernel
theorem dX7_doStep_42 : decode cX7_doStep 42 = .ok (.getfield 54, 3) := by decide +kernel
theorem dX7_doStep_45 : decode cX7_doStep 45 = .ok (.aload_n 0, 1) := by decide +kernel
theorem dX7_doStep_46 : decode cX7_doStep 46 = .ok (.getfield 79, 3) := by decide +kernel
theorem dX7_doStep_49 : decode cX7_doStep 49 = .ok (.aload_n 0, 1) := by decide +kernel
theorem dX7_doStep_50 : decode cX7_doStep 50 = .ok (.getfield 73, 3) := by decide +kernel
theorem dX7_doStep_53 : decode cX7_doStep 53 = .ok (.aload_n 0, 1) := by decide +kernel
theorem dX7_doStep_54 : decode cX7_doStep 54 = .ok (.getfield 26, 3) := by decide +kernel
theorem dX7_doStep_57 : decode cX7_doStep 57 = .ok (.aload_n 0, 1) := by decide +kernel
theorem dX7_doStep_58 : decode cX7_doStep 58 = .ok (.getfield 40, 3) := by decide +kernel
theorem dX7_doStep_61 : decode cX7_doStep 61 = .ok (.invokevirtual 219, 3) := by decide +kernel
theorem dX7_doStep_64 : decode cX7_doStep 64 = .ok (.aload_n 0, 1) := by decide +kernel
theorem dX7_doStep_65 : decode cX7_doStep 65 = .ok (.dup, 1) := by decide +kernel
theorem dX7_doStep_66 : decode cX7_doStep 66 = .ok (.getfield 79, 3) := by decide +kernel
theorem dX7_doStep_69 : decode cX7_doStep 69 = .ok (.iconst 1, 1) := by decide +kernel
theorem dX7_doStep_70 : decode cX7_doStep 70 = .ok (.iadd, 1) := by decide +kernel
theorem dX7_doStep_71 : decode cX7_doStep 71 = .ok (.putfield 79, 3) := by decide +kernel
theorem dX7_doStep_74 : decode cX7_doStep 74 = .ok (.return_, 1) := by decide +kernel
set_option maxRecDepth 20000 in
theorem ggX7_burn_X1_isBurning : GoodIn wsX7_burn wsX1_isBurning := goodIn_r _ [7, 8, 56, 57, 58, 59, 60, 61] (by decide +kernel) (by decide +kernel)
set_option maxRecDepth 20000 in
theorem gX7_burn_X1_isBurning : GoodIn wsX7_burn (wsV RX7 113 RX1 yX1_isBurning wsX1_isBurning) := goodIn_app (goodIn_of _ (by decide +kernel)) ggX7_burn_X1_isBurning
set_option maxRecDepth 20000 in
theorem ggX7_burn_X1_place : GoodIn wsX7_burn wsX1_place := goodIn_r _ [12, 8, 56, 57, 58, 59, 60, 61] (by decide +kernel) (by decide +kernel)
set_option maxRecDepth 20000 in
theorem gX7_burn_X1_place : GoodIn wsX7_burn (wsV RX7 223 RX1 yX1_place wsX1_place) := goodIn_app (goodIn_of _ (by decide +kernel)) ggX7_burn_X1_place
set_option maxRecDepth 20000 in
theorem ggX7_burn_X7_hasPower : GoodIn wsX7_burn wsX7_hasPower := goodIn_r _ [17, 18, 42, 43, 44, 45, 46, 47, 48, 49, 50, 51, 52, 53, 54, 55] (by decide +kernel) (by decide +kernel)
set_option maxRecDepth 20000 in
theorem gX7_burn_X7_hasPower : GoodIn wsX7_burn (wsV RX7 123 RX7 yX7_hasPower wsX7_hasPower) := goodIn_app (goodIn_of _ (by decide +kernel)) ggX7_burn_X7_hasPower
set_option maxRecDepth 20000 in
theorem ggX7_burn_X1_burn : GoodIn wsX7_burn wsX1_burn := goodIn_r _ [22, 23, 24, 25, 26, 27, 28, 29, 30, 31, 32, 56, 57, 58, 59, 60, 61] (by decide +kernel) (by decide +kernel)
set_option maxRecDepth 20000 in
theorem gX7_burn_X1_burn : GoodIn wsX7_burn (wsV RX7 225 RX1 yX1_burn wsX1_burn) := goodIn_app (goodIn_of _ (by decide +kernel)) ggX7_burn_X1_burn
set_option maxRecDepth 20000 in
theorem ggX7_burn_X0_feedFrom : GoodIn wsX7_burn wsX0_feedFrom := goodIn_r _ [37, 38, 39, 40, 16, 41, 62, 63, 64, 65] (by decide +kernel) (by decide +kernel)
set_option maxRecDepth 20000 in
theorem gX7_burn_X0_feedFrom : GoodIn wsX7_burn (wsV RX7 228 RX0 yX0_feedFrom wsX0_feedFrom) := goodIn_app (goodIn_of _ (by decide +kernel)) ggX7_burn_X0_feedFrom
theorem dX7_burn_0 : decode cX7_burn 0 = .ok (.aload_n 0, 1) := by decide +kernel
theorem dX7_burn_1 : decode cX7_burn 1 = .ok (.getfield 33, 3) := by decide +kernel
theorem dX7_burn_4 : decode cX7_burn 4 = .ok (.invokevirtual 113, 3) := by decide +kernel
theorem dX7_burn_7 : decode cX7_burn 7 = .ok (.ifCond .eq 28, 3) := by decide +kernel
theorem dX7_burn_10 : decode cX7_burn 10 = .ok (.aload_n 0, 1) := by decide +kernel
theorem dX7_burn_11 : decode cX7_burn 11 = .ok (.getfield 26, 3) := by decide +kernel
theorem dX7_burn_14 : decode cX7_burn 14 = .ok (.aload_n 0, 1) := by decide +kernel
theorem dX7_burn_15 : decode cX7_burn 15 = .ok (.getfield 33, 3) := by decide +kernel
theorem dX7_burn_18 : decode cX7_burn 18 = .ok (.invokevirtual 223, 3) := by decide +kernel
theorem dX7_burn_21 : decode cX7_burn 21 = .ok (.aload_n 0, 1) := by decide +kernel
theorem dX7_burn_22 : decode cX7_burn 22 = .ok (.getfield 33, 3) := by decide +kernel
theorem dX7_burn_25 : decode cX7_burn 25 = .ok (.aload_n 0, 1) := by decide +kernel
theorem dX7_burn_26 : decode cX7_burn 26 = .ok (.invokevirtual 123, 3) := by decide +kernel
theorem dX7_burn_29 : decode cX7_burn 29 = .ok (.invokevirtual 225, 3) := by decide +kernel
theorem dX7_burn_32 : decode cX7_burn 32 = .ok (.invokevirtual 228, 3) := by decide +kernel
theorem dX7_burn_35 : decode cX7_burn 35 = .ok (.return_, 1) := by decide +kernel
set_option maxRecDepth 20000 in
theorem ggX7_moveAir_X6_speed : GoodIn wsX7_moveAir wsX6_speed := goodIn_r _ [10, 11, 75, 76, 77] (by decide +kernel) (by decide +kernel)
set_option maxRecDepth 20000 in
theorem gX7_moveAir_X6_speed : GoodIn wsX7_moveAir (wsV RX7 171 RX6 yX6_speed wsX6_speed) := goodIn_app (goodIn_of _ (by decide +kernel)) ggX7_moveAir_X6_speed
set_option maxRecDepth 20000 in
theorem ggX7_moveAir_X0_drift : GoodIn wsX7_moveAir wsX0_drift := goodIn_r _ [16, 17, 18, 19, 20, 15, 21, 22, 23, 24, 25, 26, 27, 28, 29, 30, 31, 32, 78, 79, 80, 81] (by decide +kernel) (by decide +kernel)
set_option maxRecDepth 20000 in
theorem gX7_moveAir_X0_drift : GoodIn wsX7_moveAir (wsV RX7 231 RX0 yX0_drift wsX0_drift) := goodIn_app (goodIn_of _ (by decide +kernel)) ggX7_moveAir_X0_drift
set_option maxRecDepth 20000 in
theorem ggX7_moveAir_X1_isBurning : GoodIn wsX7_moveAir wsX1_isBurning := goodIn_r _ [37, 38, 82, 83, 84, 85, 86, 87] (by decide +kernel) (by decide +kernel)
set_option maxRecDepth 20000 in
theorem gX7_moveAir_X1_isBurning : GoodIn wsX7_moveAir (wsV RX7 113 RX1 yX1_isBurning wsX1_isBurning) := goodIn_app (goodIn_of _ (by decide +kernel)) ggX7_moveAir_X1_isBurning
set_option maxRecDepth 20000 in
theorem ggX7_moveAir_X1_place : GoodIn wsX7_moveAir wsX1_place := goodIn_r _ [42, 38, 82, 83, 84, 85, 86, 87] (by decide +kernel) (by decide +kernel)
set_option maxRecDepth 20000 in
theorem gX7_moveAir_X1_place : GoodIn wsX7_moveAir (wsV RX7 223 RX1 yX1_place wsX1_place) := goodIn_app (goodIn_of _ (by decide +kernel)) ggX7_moveAir_X1_place
set_option maxRecDepth 20000 in
theorem ggX7_moveAir_X0_backUp : GoodIn wsX7_moveAir wsX0_backUp := goodIn_r _ [46, 47, 19, 20, 15, 21, 22, 23, 24, 48, 49, 50, 51, 18, 30, 31, 32, 25, 26, 27, 28, 29, 78, 79, 80, 81] (by decide +kernel) (by decide +kernel)
set_option maxRecDepth 20000 in
theorem gX7_moveAir_X0_backUp : GoodIn wsX7_moveAir (wsV RX7 235 RX0 yX0_backUp wsX0_backUp) := goodIn_app (goodIn_of _ (by decide +kernel)) ggX7_moveAir_X0_backUp
set_option maxRecDepth 20000 in
theorem ggX7_moveAir_X0_drawOff : GoodIn wsX7_moveAir wsX0_drawOff := goodIn_r _ [55, 48, 49, 50, 15, 51, 18, 30, 31, 32, 25, 26, 27, 28, 29, 78, 79, 80, 81] (by decide +kernel) (by decide +kernel)
set_option maxRecDepth 20000 in
theorem gX7_moveAir_X0_drawOff : GoodIn wsX7_moveAir (wsV RX7 239 RX0 yX0_drawOff wsX0_drawOff) := goodIn_app (goodIn_of _ (by decide +kernel)) ggX7_moveAir_X0_drawOff
set_option maxRecDepth 20000 in
theorem ggX7_moveAir_X0_cool : GoodIn wsX7_moveAir wsX0_cool := goodIn_r _ [59, 60, 78, 79, 80, 81] (by decide +kernel) (by decide +kernel)
set_option maxRecDepth 20000 in
theorem gX7_moveAir_X0_cool : GoodIn wsX7_moveAir (wsV RX7 242 RX0 yX0_cool wsX0_cool) := goodIn_app (goodIn_of _ (by decide +kernel)) ggX7_moveAir_X0_cool
theorem dX7_moveAir_0 : decode cX7_moveAir 0 = .ok (.aload_n 0, 1) := by decide +kernel
theorem dX7_moveAir_1 : decode cX7_moveAir 1 = .ok (.getfield 26, 3) := by decide +kernel
theorem dX7_moveAir_4 : decode cX7_moveAir 4 = .ok (.aload_n 0, 1) := by decide +kernel
theorem dX7_moveAir_5 : decode cX7_moveAir 5 = .ok (.getfield 19, 3) := by decide +kernel
theorem dX7_moveAir_8 : decode cX7_moveAir 8 = .ok (.invokevirtual 171, 3) := by decide +kernel
theorem dX7_moveAir_11 : decode cX7_moveAir 11 = .ok (.invokevirtual 231, 3) := by decide +kernel
theorem dX7_moveAir_14 : decode cX7_moveAir 14 = .ok (.aload_n 0, 1) := by decide +kernel
theorem dX7_moveAir_15 : decode cX7_moveAir 15 = .ok (.getfield 33, 3) := by decide +kernel
theorem dX7_moveAir_18 : decode cX7_moveAir 18 = .ok (.invokevirtual 113, 3) := by decide +kernel
theorem dX7_moveAir_21 : decode cX7_moveAir 21 = .ok (.ifCond .eq 24, 3) := by decide +kernel
theorem dX7_moveAir_24 : decode cX7_moveAir 24 = .ok (.aload_n 0, 1) := by decide +kernel
theorem dX7_moveAir_25 : decode cX7_moveAir 25 = .ok (.getfield 26, 3) := by decide +kernel
theorem dX7_moveAir_28 : decode cX7_moveAir 28 = .ok (.aload_n 0, 1) := by decide +kernel
theorem dX7_moveAir_29 : decode cX7_moveAir 29 = .ok (.getfield 33, 3) := by decide +kernel
theorem dX7_moveAir_32 : decode cX7_moveAir 32 = .ok (.invokevirtual 223, 3) := by decide +kernel
theorem dX7_moveAir_35 : decode cX7_moveAir 35 = .ok (.aload_n 0, 1) := by decide +kernel
theorem dX7_moveAir_36 : decode cX7_moveAir 36 = .ok (.getfield 19, 3) := by decide +kernel
theorem dX7_moveAir_39 : decode cX7_moveAir 39 = .ok (.invokevirtual 171, 3) := by decide +kernel
theorem dX7_moveAir_42 : decode cX7_moveAir 42 = .ok (.invokevirtual 235, 3) := by decide +kernel
theorem dX7_moveAir_45 : decode cX7_moveAir 45 = .ok (.aload_n 0, 1) := by decide +kernel
theorem dX7_moveAir_46 : decode cX7_moveAir 46 = .ok (.getfield 69, 3) := by decide +kernel
theorem dX7_moveAir_49 : decode cX7_moveAir 49 = .ok (.ifCond .eq 14, 3) := by decide +kernel
theorem dX7_moveAir_52 : decode cX7_moveAir 52 = .ok (.aload_n 0, 1) := by decide +kernel
theorem dX7_moveAir_53 : decode cX7_moveAir 53 = .ok (.getfield 26, 3) := by decide +kernel
theorem dX7_moveAir_56 : decode cX7_moveAir 56 = .ok (.aload_n 0, 1) := by decide +kernel
theorem dX7_moveAir_57 : decode cX7_moveAir 57 = .ok (.getfield 65, 3) := by decide +kernel
theorem dX7_moveAir_60 : decode cX7_moveAir 60 = .ok (.invokevirtual 239, 3) := by decide +kernel
theorem dX7_moveAir_63 : decode cX7_moveAir 63 = .ok (.aload_n 0, 1) := by decide +kernel
theorem dX7_moveAir_64 : decode cX7_moveAir 64 = .ok (.getfield 26, 3) := by decide +kernel
theorem dX7_moveAir_67 : decode cX7_moveAir 67 = .ok (.invokevirtual 242, 3) := by decide +kernel
theorem dX7_moveAir_70 : decode cX7_moveAir 70 = .ok (.return_, 1) := by decide +kernel
set_option maxRecDepth 20000 in
theorem ggX7_watch_X7_tellingIn : GoodIn wsX7_watch wsX7_tellingIn := goodIn_r _ [8, 9, 10, 11, 12, 13, 14, 15, 16, 17, 7, 18, 19, 20, 21, 22, 23, 24, 25, 26, 27, 28, 29, 30, 31, 32, 33, 34, 35, 42, 43, 44, 45, 46, 47, 48, 49, 50, 51, 52, 53, 54, 55, 56, 57, 58, 59, 60, 61, 62, 63, 64] (by decide +kernel) (by decide +kernel)
set_option maxRecDepth 20000 in
theorem gX7_watch_X7_tellingIn : GoodIn wsX7_watch (wsV RX7 160 RX7 yX7_tellingIn wsX7_tellingIn) := goodIn_app (goodIn_of _ (by decide +kernel)) ggX7_watch_X7_tellingIn
set_option maxRecDepth 20000 in
theorem ggX7_watch_X2_start : GoodIn wsX7_watch wsX2_start := goodIn_r _ [40, 41, 65, 66, 67, 68, 69, 70] (by decide +kernel) (by decide +kernel)
set_option maxRecDepth 20000 in
theorem gX7_watch_X2_start : GoodIn wsX7_watch (wsV RX7 245 RX2 yX2_start wsX2_start) := goodIn_app (goodIn_of _ (by decide +kernel)) ggX7_watch_X2_start
theorem dX7_watch_0 : decode cX7_watch 0 = .ok (.iconst 0, 1) := by decide +kernel
theorem dX7_watch_1 : decode cX7_watch 1 = .ok (.istore_n 1, 1) := by decide +kernel
theorem dX7_watch_2 : decode cX7_watch 2 = .ok (.iload_n 1, 1) := by decide +kernel
theorem dX7_watch_3 : decode cX7_watch 3 = .ok (.bipush 12, 2) := by decide +kernel
theorem dX7_watch_5 : decode cX7_watch 5 = .ok (.if_icmp .ge 42, 3) := by decide +kernel
theorem dX7_watch_8 : decode cX7_watch 8 = .ok (.aload_n 0, 1) := by decide +kernel
theorem dX7_watch_9 : decode cX7_watch 9 = .ok (.getfield 76, 3) := by decide +kernel
theorem dX7_watch_12 : decode cX7_watch 12 = .ok (.iconst (-1), 1) := by decide +kernel
theorem dX7_watch_13 : decode cX7_watch 13 = .ok (.if_icmp .ne 34, 3) := by decide +kernel
theorem dX7_watch_16 : decode cX7_watch 16 = .ok (.aload_n 0, 1) := by decide +kernel
theorem dX7_watch_17 : decode cX7_watch 17 = .ok (.iload_n 1, 1) := by decide +kernel
theorem dX7_watch_18 : decode cX7_watch 18 = .ok (.invokevirtual 160, 3) := by decide +kernel
theorem dX7_watch_21 : decode cX7_watch 21 = .ok (.iconst 2, 1) := by decide +kernel
theorem dX7_watch_22 : decode cX7_watch 22 = .ok (.if_icmp .lt 19, 3) := by decide +kernel
theorem dX7_watch_25 : decode cX7_watch 25 = .ok (.aload_n 0, 1) := by decide +kernel
theorem dX7_watch_26 : decode cX7_watch 26 = .ok (.iload_n 1, 1) := by decide +kernel
theorem dX7_watch_27 : decode cX7_watch 27 = .ok (.putfield 76, 3) := by decide +kernel
theorem dX7_watch_30 : decode cX7_watch 30 = .ok (.aload_n 0, 1) := by decide +kernel
theorem dX7_watch_31 : decode cX7_watch 31 = .ok (.getfield 47, 3) := by decide +kernel
theorem dX7_watch_34 : decode cX7_watch 34 = .ok (.aload_n 0, 1) := by decide +kernel
theorem dX7_watch_35 : decode cX7_watch 35 = .ok (.getfield 79, 3) := by decide +kernel
theorem dX7_watch_38 : decode cX7_watch 38 = .ok (.invokevirtual 245, 3) := by decide +kernel
theorem dX7_watch_41 : decode cX7_watch 41 = .ok (.iinc 1 1, 3) := by decide +kernel
theorem dX7_watch_44 : decode cX7_watch 44 = .ok (.goto (-42), 3) := by decide +kernel
theorem dX7_watch_47 : decode cX7_watch 47 = .ok (.return_, 1) := by decide +kernel
set_option maxRecDepth 20000 in
theorem ggX7_followChart_X2_isDue : GoodIn wsX7_followChart wsX2_isDue := goodIn_r _ [8, 9, 10, 11, 12, 13, 14, 7, 15, 16, 74, 75, 76, 77, 78, 79] (by decide +kernel) (by decide +kernel)
set_option maxRecDepth 20000 in
theorem gX7_followChart_X2_isDue : GoodIn wsX7_followChart (wsV RX7 248 RX2 yX2_isDue wsX2_isDue) := goodIn_app (goodIn_of _ (by decide +kernel)) ggX7_followChart_X2_isDue
set_option maxRecDepth 20000 in
theorem ggX7_followChart_X2_finishNext : GoodIn wsX7_followChart wsX2_finishNext := goodIn_r _ [20, 9, 21, 22, 10, 12, 13, 14, 7, 15, 16, 74, 75, 76, 77, 78, 79] (by decide +kernel) (by decide +kernel)
set_option maxRecDepth 20000 in
theorem gX7_followChart_X2_finishNext : GoodIn wsX7_followChart (wsV RX7 251 RX2 yX2_finishNext wsX2_finishNext) := goodIn_app (goodIn_of _ (by decide +kernel)) ggX7_followChart_X2_finishNext
set_option maxRecDepth 20000 in
theorem ggX7_followChart_X7_perform : GoodIn wsX7_followChart wsX7_perform := goodIn_r _ [27, 28, 29, 30, 31, 32, 33, 34, 35, 36, 37, 38, 39, 40, 41, 42, 43, 44, 45, 46, 47, 48, 49, 50, 51, 52, 53, 54, 55, 56, 57, 58, 59, 60, 61, 62, 63, 64, 65, 66, 67, 68, 69, 70, 71, 72, 73, 80, 81, 82, 83, 84, 85, 86, 87, 88, 89, 90, 91, 92, 93, 94] (by decide +kernel) (by decide +kernel)
set_option maxRecDepth 20000 in
theorem gX7_followChart_X7_perform : GoodIn wsX7_followChart (wsV RX7 254 RX7 yX7_perform wsX7_perform) := goodIn_app (goodIn_of _ (by decide +kernel)) ggX7_followChart_X7_perform
theorem dX7_followChart_0 : decode cX7_followChart 0 = .ok (.iconst 0, 1) := by decide +kernel
theorem dX7_followChart_1 : decode cX7_followChart 1 = .ok (.istore_n 1, 1) := by decide +kernel
theorem dX7_followChart_2 : decode cX7_followChart 2 = .ok (.iload_n 1, 1) := by decide +kernel
theorem dX7_followChart_3 : decode cX7_followChart 3 = .ok (.bipush 10, 2) := by decide +kernel
theorem dX7_followChart_5 : decode cX7_followChart 5 = .ok (.if_icmp .ge 46, 3) := by decide +kernel
theorem dX7_followChart_8 : decode cX7_followChart 8 = .ok (.aload_n 0, 1) := by decide +kernel
theorem dX7_followChart_9 : decode cX7_followChart 9 = .ok (.getfield 76, 3) := by decide +kernel
theorem dX7_followChart_12 : decode cX7_followChart 12 = .ok (.iconst (-1), 1) := by decide +kernel
theorem dX7_followChart_13 : decode cX7_followChart 13 = .ok (.if_icmp .eq 38, 3) := by decide +kernel
theorem dX7_followChart_16 : decode cX7_followChart 16 = .ok (.aload_n 0, 1) := by decide +kernel
theorem dX7_followChart_17 : decode cX7_followChart 17 = .ok (.getfield 47, 3) := by decide +kernel
theorem dX7_followChart_20 : decode cX7_followChart 20 = .ok (.aload_n 0, 1) := by decide +kernel
theorem dX7_followChart_21 : decode cX7_followChart 21 = .ok (.getfield 79, 3) := by decide +kernel
theorem dX7_followChart_24 : decode cX7_followChart 24 = .ok (.invokevirtual 248, 3) := by decide +kernel
theorem dX7_followChart_27 : decode cX7_followChart 27 = .ok (.ifCond .eq 24, 3) := by decide +kernel
theorem dX7_followChart_30 : decode cX7_followChart 30 = .ok (.aload_n 0, 1) := by decide +kernel
theorem dX7_followChart_31 : decode cX7_followChart 31 = .ok (.aload_n 0, 1) := by decide +kernel
theorem dX7_followChart_32 : decode cX7_followChart 32 = .ok (.getfield 47, 3) := by decide +kernel
theorem dX7_followChart_35 : decode cX7_followChart 35 = .ok (.aload_n 0, 1) := by decide +kernel
theorem dX7_followChart_36 : decode cX7_followChart 36 = .ok (.getfield 79, 3) := by decide +kernel
theorem dX7_followChart_39 : decode cX7_followChart 39 = .ok (.invokevirtual 251, 3) := by decide +kernel
theorem dX7_followChart_42 : decode cX7_followChart 42 = .ok (.invokevirtual 254, 3) := by decide +kernel
theorem dX7_followChart_45 : decode cX7_followChart 45 = .ok (.iinc 1 1, 3) := by decide +kernel
theorem dX7_followChart_48 : decode cX7_followChart 48 = .ok (.goto (-46), 3) := by decide +kernel
theorem dX7_followChart_51 : decode cX7_followChart 51 = .ok (.return_, 1) := by decide +kernel
set_option maxRecDepth 20000 in
theorem ggX7_perform_X6_stopTraffic : GoodIn wsX7_perform wsX6_stopTraffic := goodIn_r _ [11, 12, 47, 48, 49] (by decide +kernel) (by decide +kernel)
set_option maxRecDepth 20000 in
theorem gX7_perform_X6_stopTraffic : GoodIn wsX7_perform (wsV RX7 257 RX6 yX6_stopTraffic wsX6_stopTraffic) := goodIn_app (goodIn_of _ (by decide +kernel)) ggX7_perform_X6_stopTraffic
set_option maxRecDepth 20000 in
theorem ggX7_perform_X4_openAll : GoodIn wsX7_perform wsX4_openAll := goodIn_r _ [17, 18, 19, 20, 50, 51, 52] (by decide +kernel) (by decide +kernel)
set_option maxRecDepth 20000 in
theorem gX7_perform_X4_openAll : GoodIn wsX7_perform (wsV RX7 260 RX4 yX4_openAll wsX4_openAll) := goodIn_app (goodIn_of _ (by decide +kernel)) ggX7_perform_X4_openAll
set_option maxRecDepth 20000 in
theorem ggX7_perform_X5_orderAll : GoodIn wsX7_perform wsX5_orderAll := goodIn_r _ [25, 26, 53, 54, 55] (by decide +kernel) (by decide +kernel)
set_option maxRecDepth 20000 in
theorem gX7_perform_X5_orderAll : GoodIn wsX7_perform (wsV RX7 263 RX5 yX5_orderAll wsX5_orderAll) := goodIn_app (goodIn_of _ (by decide +kernel)) ggX7_perform_X5_orderAll
set_option maxRecDepth 20000 in
theorem ggX7_perform_X1_turnFoamOn : GoodIn wsX7_perform wsX1_turnFoamOn := goodIn_r _ [31, 32, 56, 57, 58, 59, 60, 61] (by decide +kernel) (by decide +kernel)
set_option maxRecDepth 20000 in
theorem gX7_perform_X1_turnFoamOn : GoodIn wsX7_perform (wsV RX7 266 RX1 yX1_turnFoamOn wsX1_turnFoamOn) := goodIn_app (goodIn_of _ (by decide +kernel)) ggX7_perform_X1_turnFoamOn
theorem dX7_perform_0 : decode cX7_perform 0 = .ok (.iload_n 1, 1) := by decide +kernel
theorem dX7_perform_1 : decode cX7_perform 1 = .ok (.tableswitch 126 0 7 #[47, 57, 65, 75, 86, 97, 108, 116], 47) := by decide +kernel
theorem dX7_perform_48 : decode cX7_perform 48 = .ok (.aload_n 0, 1) := by decide +kernel
theorem dX7_perform_49 : decode cX7_perform 49 = .ok (.getfield 19, 3) := by decide +kernel
theorem dX7_perform_52 : decode cX7_perform 52 = .ok (.invokevirtual 257, 3) := by decide +kernel
theorem dX7_perform_55 : decode cX7_perform 55 = .ok (.goto 72, 3) := by decide +kernel
theorem dX7_perform_58 : decode cX7_perform 58 = .ok (.aload_n 0, 1) := by decide +kernel
theorem dX7_perform_59 : decode cX7_perform 59 = .ok (.iconst 1, 1) := by decide +kernel
theorem dX7_perform_60 : decode cX7_perform 60 = .ok (.putfield 73, 3) := by decide +kernel
theorem dX7_perform_63 : decode cX7_perform 63 = .ok (.goto 64, 3) := by decide +kernel
theorem dX7_perform_66 : decode cX7_perform 66 = .ok (.aload_n 0, 1) := by decide +kernel
theorem dX7_perform_67 : decode cX7_perform 67 = .ok (.getfield 40, 3) := by decide +kernel
theorem dX7_perform_70 : decode cX7_perform 70 = .ok (.invokevirtual 260, 3) := by decide +kernel
theorem dX7_perform_73 : decode cX7_perform 73 = .ok (.goto 54, 3) := by decide +kernel
theorem dX7_perform_76 : decode cX7_perform 76 = .ok (.aload_n 0, 1) := by decide +kernel
theorem dX7_perform_77 : decode cX7_perform 77 = .ok (.getfield 10, 3) := by decide +kernel
theorem dX7_perform_80 : decode cX7_perform 80 = .ok (.iconst (-1), 1) := by decide +kernel
theorem dX7_perform_81 : decode cX7_perform 81 = .ok (.invokevirtual 263, 3) := by decide +kernel
theorem dX7_perform_84 : decode cX7_perform 84 = .ok (.goto 43, 3) := by decide +kernel
theorem dX7_perform_87 : decode cX7_perform 87 = .ok (.aload_n 0, 1) := by decide +kernel
theorem dX7_perform_88 : decode cX7_perform 88 = .ok (.getfield 10, 3) := by decide +kernel
theorem dX7_perform_91 : decode cX7_perform 91 = .ok (.iconst 1, 1) := by decide +kernel
theorem dX7_perform_92 : decode cX7_perform 92 = .ok (.invokevirtual 263, 3) := by decide +kernel
theorem dX7_perform_95 : decode cX7_perform 95 = .ok (.goto 32, 3) := by decide +kernel
theorem dX7_perform_98 : decode cX7_perform 98 = .ok (.aload_n 0, 1) := by decide +kernel
theorem dX7_perform_99 : decode cX7_perform 99 = .ok (.getfield 10, 3) := by decide +kernel
theorem dX7_perform_102 : decode cX7_perform 102 = .ok (.iconst 0, 1) := by decide +kernel
theorem dX7_perform_103 : decode cX7_perform 103 = .ok (.invokevirtual 263, 3) := by decide +kernel
theorem dX7_perform_106 : decode cX7_perform 106 = .ok (.goto 21, 3) := by decide +kernel
theorem dX7_perform_109 : decode cX7_perform 109 = .ok (.aload_n 0, 1) := by decide +kernel
theorem dX7_perform_110 : decode cX7_perform 110 = .ok (.iconst 1, 1) := by decide +kernel
theorem dX7_perform_111 : decode cX7_perform 111 = .ok (.putfield 69, 3) := by decide +kernel
theorem dX7_perform_114 : decode cX7_perform 114 = .ok (.goto 13, 3) := by decide +kernel
theorem dX7_perform_117 : decode cX7_perform 117 = .ok (.aload_n 0, 1) := by decide +kernel
theorem dX7_perform_118 : decode cX7_perform 118 = .ok (.getfield 33, 3) := by decide +kernel
theorem dX7_perform_121 : decode cX7_perform 121 = .ok (.invokevirtual 266, 3) := by decide +kernel
theorem dX7_perform_124 : decode cX7_perform 124 = .ok (.goto 3, 3) := by decide +kernel
theorem dX7_perform_127 : decode cX7_perform 127 = .ok (.return_, 1) := by decide +kernel
theorem dX7_hasPower_0 : decode cX7_hasPower 0 = .ok (.iconst 0, 1) := by decide +kernel
theorem dX7_hasPower_1 : decode cX7_hasPower 1 = .ok (.istore_n 1, 1) := by decide +kernel
theorem dX7_hasPower_2 : decode cX7_hasPower 2 = .ok (.iload_n 1, 1) := by decide +kernel
theorem dX7_hasPower_3 : decode cX7_hasPower 3 = .ok (.aload_n 0, 1) := by decide +kernel
theorem dX7_hasPower_4 : decode cX7_hasPower 4 = .ok (.getfield 58, 3) := by decide +kernel
theorem dX7_hasPower_7 : decode cX7_hasPower 7 = .ok (.arraylength, 1) := by decide +kernel
theorem dX7_hasPower_8 : decode cX7_hasPower 8 = .ok (.if_icmp .ge 20, 3) := by decide +kernel
theorem dX7_hasPower_11 : decode cX7_hasPower 11 = .ok (.aload_n 0, 1) := by decide +kernel
theorem dX7_hasPower_12 : decode cX7_hasPower 12 = .ok (.getfield 58, 3) := by decide +kernel
theorem dX7_hasPower_15 : decode cX7_hasPower 15 = .ok (.iload_n 1, 1) := by decide +kernel
theorem dX7_hasPower_16 : decode cX7_hasPower 16 = .ok (.baload, 1) := by decide +kernel
theorem dX7_hasPower_17 : decode cX7_hasPower 17 = .ok (.ifCond .ne 5, 3) := by decide +kernel
theorem dX7_hasPower_20 : decode cX7_hasPower 20 = .ok (.iconst 1, 1) := by decide +kernel
theorem dX7_hasPower_21 : decode cX7_hasPower 21 = .ok (.ireturn, 1) := by decide +kernel
theorem dX7_hasPower_22 : decode cX7_hasPower 22 = .ok (.iinc 1 1, 3) := by decide +kernel
theorem dX7_hasPower_25 : decode cX7_hasPower 25 = .ok (.goto (-23), 3) := by decide +kernel
theorem dX7_hasPower_28 : decode cX7_hasPower 28 = .ok (.iconst 0, 1) := by decide +kernel
theorem dX7_hasPower_29 : decode cX7_hasPower 29 = .ok (.ireturn, 1) := by decide +kernel
set_option maxRecDepth 20000 in
theorem ggX7_tellingIn_X0_smokeIn : GoodIn wsX7_tellingIn wsX0_smokeIn := goodIn_r _ [7, 8, 9, 10, 11, 43, 44, 45, 46] (by decide +kernel) (by decide +kernel)
set_option maxRecDepth 20000 in
theorem gX7_tellingIn_X0_smokeIn : GoodIn wsX7_tellingIn (wsV RX7 154 RX0 yX0_smokeIn wsX0_smokeIn) := goodIn_app (goodIn_of _ (by decide +kernel)) ggX7_tellingIn_X0_smokeIn
set_option maxRecDepth 20000 in
theorem ggX7_tellingIn_X0_heatIn : GoodIn wsX7_tellingIn wsX0_heatIn := goodIn_r _ [15, 16, 9, 10, 11, 43, 44, 45, 46] (by decide +kernel) (by decide +kernel)
set_option maxRecDepth 20000 in
theorem gX7_tellingIn_X0_heatIn : GoodIn wsX7_tellingIn (wsV RX7 157 RX0 yX0_heatIn wsX0_heatIn) := goodIn_app (goodIn_of _ (by decide +kernel)) ggX7_tellingIn_X0_heatIn
set_option maxRecDepth 20000 in
theorem ggX7_tellingIn_X7_detectorWorks : GoodIn wsX7_tellingIn wsX7_detectorWorks := goodIn_r _ [20, 21, 29, 30, 31, 32, 33, 34, 35, 36, 37, 38, 39, 40, 41, 42] (by decide +kernel) (by decide +kernel)
set_option maxRecDepth 20000 in
theorem gX7_tellingIn_X7_detectorWorks : GoodIn wsX7_tellingIn (wsV RX7 269 RX7 yX7_detectorWorks wsX7_detectorWorks) := goodIn_app (goodIn_of _ (by decide +kernel)) ggX7_tellingIn_X7_detectorWorks
set_option maxRecDepth 20000 in
theorem ggX7_tellingIn_X3_insideOf : GoodIn wsX7_tellingIn wsX3_insideOf := goodIn_r _ [26, 27, 28, 47, 48, 49, 50, 51] (by decide +kernel) (by decide +kernel)
set_option maxRecDepth 20000 in
theorem gX7_tellingIn_X3_insideOf : GoodIn wsX7_tellingIn (wsV RX7 163 RX3 yX3_insideOf wsX3_insideOf) := goodIn_app (goodIn_of _ (by decide +kernel)) ggX7_tellingIn_X3_insideOf
theorem dX7_tellingIn_0 : decode cX7_tellingIn 0 = .ok (.aload_n 0, 1) := by decide +kernel
theorem dX7_tellingIn_1 : decode cX7_tellingIn 1 = .ok (.getfield 26, 3) := by decide +kernel
theorem dX7_tellingIn_4 : decode cX7_tellingIn 4 = .ok (.iload_n 1, 1) := by decide +kernel
theorem dX7_tellingIn_5 : decode cX7_tellingIn 5 = .ok (.invokevirtual 154, 3) := by decide +kernel
theorem dX7_tellingIn_8 : decode cX7_tellingIn 8 = .ok (.istore_n 2, 1) := by decide +kernel
theorem dX7_tellingIn_9 : decode cX7_tellingIn 9 = .ok (.iconst 0, 1) := by decide +kernel
theorem dX7_tellingIn_10 : decode cX7_tellingIn 10 = .ok (.istore_n 3, 1) := by decide +kernel
theorem dX7_tellingIn_11 : decode cX7_tellingIn 11 = .ok (.aload_n 0, 1) := by decide +kernel
theorem dX7_tellingIn_12 : decode cX7_tellingIn 12 = .ok (.getfield 26, 3) := by decide +kernel
theorem dX7_tellingIn_15 : decode cX7_tellingIn 15 = .ok (.iload_n 1, 1) := by decide +kernel
theorem dX7_tellingIn_16 : decode cX7_tellingIn 16 = .ok (.invokevirtual 157, 3) := by decide +kernel
theorem dX7_tellingIn_19 : decode cX7_tellingIn 19 = .ok (.bipush 20, 2) := by decide +kernel
theorem dX7_tellingIn_21 : decode cX7_tellingIn 21 = .ok (.if_icmp .lt 15, 3) := by decide +kernel
theorem dX7_tellingIn_24 : decode cX7_tellingIn 24 = .ok (.aload_n 0, 1) := by decide +kernel
theorem dX7_tellingIn_25 : decode cX7_tellingIn 25 = .ok (.iload_n 1, 1) := by decide +kernel
theorem dX7_tellingIn_26 : decode cX7_tellingIn 26 = .ok (.iconst 0, 1) := by decide +kernel
theorem dX7_tellingIn_27 : decode cX7_tellingIn 27 = .ok (.invokevirtual 269, 3) := by decide +kernel
theorem dX7_tellingIn_30 : decode cX7_tellingIn 30 = .ok (.ifCond .eq 6, 3) := by decide +kernel
theorem dX7_tellingIn_33 : decode cX7_tellingIn 33 = .ok (.iinc 3 1, 3) := by decide +kernel
theorem dX7_tellingIn_36 : decode cX7_tellingIn 36 = .ok (.iload_n 2, 1) := by decide +kernel
theorem dX7_tellingIn_37 : decode cX7_tellingIn 37 = .ok (.bipush 15, 2) := by decide +kernel
theorem dX7_tellingIn_39 : decode cX7_tellingIn 39 = .ok (.if_icmp .lt 15, 3) := by decide +kernel
theorem dX7_tellingIn_42 : decode cX7_tellingIn 42 = .ok (.aload_n 0, 1) := by decide +kernel
theorem dX7_tellingIn_43 : decode cX7_tellingIn 43 = .ok (.iload_n 1, 1) := by decide +kernel
theorem dX7_tellingIn_44 : decode cX7_tellingIn 44 = .ok (.iconst 1, 1) := by decide +kernel
theorem dX7_tellingIn_45 : decode cX7_tellingIn 45 = .ok (.invokevirtual 269, 3) := by decide +kernel
theorem dX7_tellingIn_48 : decode cX7_tellingIn 48 = .ok (.ifCond .eq 6, 3) := by decide +kernel
theorem dX7_tellingIn_51 : decode cX7_tellingIn 51 = .ok (.iinc 3 1, 3) := by decide +kernel
theorem dX7_tellingIn_54 : decode cX7_tellingIn 54 = .ok (.iload_n 2, 1) := by decide +kernel
theorem dX7_tellingIn_55 : decode cX7_tellingIn 55 = .ok (.bipush 10, 2) := by decide +kernel
theorem dX7_tellingIn_57 : decode cX7_tellingIn 57 = .ok (.if_icmp .lt 26, 3) := by decide +kernel
theorem dX7_tellingIn_60 : decode cX7_tellingIn 60 = .ok (.aload_n 0, 1) := by decide +kernel
theorem dX7_tellingIn_61 : decode cX7_tellingIn 61 = .ok (.iload_n 1, 1) := by decide +kernel
theorem dX7_tellingIn_62 : decode cX7_tellingIn 62 = .ok (.iconst 2, 1) := by decide +kernel
theorem dX7_tellingIn_63 : decode cX7_tellingIn 63 = .ok (.invokevirtual 269, 3) := by decide +kernel
theorem dX7_tellingIn_66 : decode cX7_tellingIn 66 = .ok (.ifCond .eq 17, 3) := by decide +kernel
theorem dX7_tellingIn_69 : decode cX7_tellingIn 69 = .ok (.aload_n 0, 1) := by decide +kernel
theorem dX7_tellingIn_70 : decode cX7_tellingIn 70 = .ok (.getfield 54, 3) := by decide +kernel
theorem dX7_tellingIn_73 : decode cX7_tellingIn 73 = .ok (.iload_n 1, 1) := by decide +kernel
theorem dX7_tellingIn_74 : decode cX7_tellingIn 74 = .ok (.invokevirtual 163, 3) := by decide +kernel
theorem dX7_tellingIn_77 : decode cX7_tellingIn 77 = .ok (.ifCond .le 6, 3) := by decide +kernel
theorem dX7_tellingIn_80 : decode cX7_tellingIn 80 = .ok (.iinc 3 1, 3) := by decide +kernel
theorem dX7_tellingIn_83 : decode cX7_tellingIn 83 = .ok (.iload_n 3, 1) := by decide +kernel
theorem dX7_tellingIn_84 : decode cX7_tellingIn 84 = .ok (.ireturn, 1) := by decide +kernel
theorem dX7_detectorWorks_0 : decode cX7_detectorWorks 0 = .ok (.iload_n 1, 1) := by decide +kernel
theorem dX7_detectorWorks_1 : decode cX7_detectorWorks 1 = .ok (.iconst 3, 1) := by decide +kernel
theorem dX7_detectorWorks_2 : decode cX7_detectorWorks 2 = .ok (.imul, 1) := by decide +kernel
theorem dX7_detectorWorks_3 : decode cX7_detectorWorks 3 = .ok (.iload_n 2, 1) := by decide +kernel
theorem dX7_detectorWorks_4 : decode cX7_detectorWorks 4 = .ok (.iadd, 1) := by decide +kernel
theorem dX7_detectorWorks_5 : decode cX7_detectorWorks 5 = .ok (.istore_n 3, 1) := by decide +kernel
theorem dX7_detectorWorks_6 : decode cX7_detectorWorks 6 = .ok (.iload_n 3, 1) := by decide +kernel
theorem dX7_detectorWorks_7 : decode cX7_detectorWorks 7 = .ok (.ifCond .lt 25, 3) := by decide +kernel
theorem dX7_detectorWorks_10 : decode cX7_detectorWorks 10 = .ok (.iload_n 3, 1) := by decide +kernel
theorem dX7_detectorWorks_11 : decode cX7_detectorWorks 11 = .ok (.aload_n 0, 1) := by decide +kernel
theorem dX7_detectorWorks_12 : decode cX7_detectorWorks 12 = .ok (.getfield 62, 3) := by decide +kernel
theorem dX7_detectorWorks_15 : decode cX7_detectorWorks 15 = .ok (.arraylength, 1) := by decide +kernel
theorem dX7_detectorWorks_16 : decode cX7_detectorWorks 16 = .ok (.if_icmp .ge 16, 3) := by decide +kernel
theorem dX7_detectorWorks_19 : decode cX7_detectorWorks 19 = .ok (.aload_n 0, 1) := by decide +kernel
theorem dX7_detectorWorks_20 : decode cX7_detectorWorks 20 = .ok (.getfield 62, 3) := by decide +kernel
theorem dX7_detectorWorks_23 : decode cX7_detectorWorks 23 = .ok (.iload_n 3, 1) := by decide +kernel
theorem dX7_detectorWorks_24 : decode cX7_detectorWorks 24 = .ok (.baload, 1) := by decide +kernel
theorem dX7_detectorWorks_25 : decode cX7_detectorWorks 25 = .ok (.ifCond .ne 7, 3) := by decide +kernel
theorem dX7_detectorWorks_28 : decode cX7_detectorWorks 28 = .ok (.iconst 1, 1) := by decide +kernel
theorem dX7_detectorWorks_29 : decode cX7_detectorWorks 29 = .ok (.goto 4, 3) := by decide +kernel
theorem dX7_detectorWorks_32 : decode cX7_detectorWorks 32 = .ok (.iconst 0, 1) := by decide +kernel
theorem dX7_detectorWorks_33 : decode cX7_detectorWorks 33 = .ok (.ireturn, 1) := by decide +kernel
set_option maxRecDepth 20000 in
theorem ggX7_doorAnswer_X4_isThere : GoodIn wsX7_doorAnswer wsX4_isThere := goodIn_r _ [6, 7, 8, 9, 10, 30, 31, 32] (by decide +kernel) (by decide +kernel)
set_option maxRecDepth 20000 in
theorem gX7_doorAnswer_X4_isThere : GoodIn wsX7_doorAnswer (wsV RX7 273 RX4 yX4_isThere wsX4_isThere) := goodIn_app (goodIn_of _ (by decide +kernel)) ggX7_doorAnswer_X4_isThere
set_option maxRecDepth 20000 in
theorem ggX7_doorAnswer_X4_isOpen : GoodIn wsX7_doorAnswer wsX4_isOpen := goodIn_r _ [14, 15, 8, 9, 10, 30, 31, 32] (by decide +kernel) (by decide +kernel)
set_option maxRecDepth 20000 in
theorem gX7_doorAnswer_X4_isOpen : GoodIn wsX7_doorAnswer (wsV RX7 137 RX4 yX4_isOpen wsX4_isOpen) := goodIn_app (goodIn_of _ (by decide +kernel)) ggX7_doorAnswer_X4_isOpen
theorem dX7_doorAnswer_0 : decode cX7_doorAnswer 0 = .ok (.aload_n 0, 1) := by decide +kernel
theorem dX7_doorAnswer_1 : decode cX7_doorAnswer 1 = .ok (.getfield 40, 3) := by decide +kernel
theorem dX7_doorAnswer_4 : decode cX7_doorAnswer 4 = .ok (.iload_n 1, 1) := by decide +kernel
theorem dX7_doorAnswer_5 : decode cX7_doorAnswer 5 = .ok (.invokevirtual 273, 3) := by decide +kernel
theorem dX7_doorAnswer_8 : decode cX7_doorAnswer 8 = .ok (.ifCond .ne 5, 3) := by decide +kernel
theorem dX7_doorAnswer_11 : decode cX7_doorAnswer 11 = .ok (.iconst (-1), 1) := by decide +kernel
theorem dX7_doorAnswer_12 : decode cX7_doorAnswer 12 = .ok (.ireturn, 1) := by decide +kernel
theorem dX7_doorAnswer_13 : decode cX7_doorAnswer 13 = .ok (.aload_n 0, 1) := by decide +kernel
theorem dX7_doorAnswer_14 : decode cX7_doorAnswer 14 = .ok (.getfield 40, 3) := by decide +kernel
theorem dX7_doorAnswer_17 : decode cX7_doorAnswer 17 = .ok (.iload_n 1, 1) := by decide +kernel
theorem dX7_doorAnswer_18 : decode cX7_doorAnswer 18 = .ok (.invokevirtual 137, 3) := by decide +kernel
theorem dX7_doorAnswer_21 : decode cX7_doorAnswer 21 = .ok (.ifCond .eq 7, 3) := by decide +kernel
theorem dX7_doorAnswer_24 : decode cX7_doorAnswer 24 = .ok (.iconst 1, 1) := by decide +kernel
theorem dX7_doorAnswer_25 : decode cX7_doorAnswer 25 = .ok (.goto 4, 3) := by decide +kernel
theorem dX7_doorAnswer_28 : decode cX7_doorAnswer 28 = .ok (.iconst 0, 1) := by decide +kernel
theorem dX7_doorAnswer_29 : decode cX7_doorAnswer 29 = .ok (.ireturn, 1) := by decide +kernel
set_option maxRecDepth 20000 in
theorem ggX7_requireDoor_X4_isThere : GoodIn wsX7_requireDoor wsX4_isThere := goodIn_r _ [8, 9, 10, 11, 12, 27, 28, 29] (by decide +kernel) (by decide +kernel)
set_option maxRecDepth 20000 in
theorem gX7_requireDoor_X4_isThere : GoodIn wsX7_requireDoor (wsV RX7 273 RX4 yX4_isThere wsX4_isThere) := goodIn_app (goodIn_of _ (by decide +kernel)) ggX7_requireDoor_X4_isThere
theorem dX7_requireDoor_0 : decode cX7_requireDoor 0 = .ok (.aload_n 0, 1) := by decide +kernel
theorem dX7_requireDoor_1 : decode cX7_requireDoor 1 = .ok (.getfield 40, 3) := by decide +kernel
theorem dX7_requireDoor_4 : decode cX7_requireDoor 4 = .ok (.iload_n 1, 1) := by decide +kernel
theorem dX7_requireDoor_5 : decode cX7_requireDoor 5 = .ok (.invokevirtual 273, 3) := by decide +kernel
theorem dX7_requireDoor_8 : decode cX7_requireDoor 8 = .ok (.ifCond .ne 14, 3) := by decide +kernel
theorem dX7_requireDoor_11 : decode cX7_requireDoor 11 = .ok (.new 276, 3) := by decide +kernel
theorem dX7_requireDoor_14 : decode cX7_requireDoor 14 = .ok (.dup, 1) := by decide +kernel
theorem dX7_requireDoor_15 : decode cX7_requireDoor 15 = .ok (.ldc_w 278, 3) := by decide +kernel
theorem dX7_requireDoor_18 : decode cX7_requireDoor 18 = .ok (.invokespecial 280, 3) := by decide +kernel
theorem dX7_requireDoor_21 : decode cX7_requireDoor 21 = .ok (.athrow, 1) := by decide +kernel
theorem dX7_requireDoor_22 : decode cX7_requireDoor 22 = .ok (.return_, 1) := by decide +kernel
set_option maxRecDepth 20000 in
theorem ggX7_requireSegment_X7_requireIndex : GoodIn wsX7_requireSegment wsX7_requireIndex := goodIn_ca (goodIn_r _ [4, 5, 6] (by decide +kernel) (by decide +kernel)) (goodIn_sub (fun _ h => List.mem_cons_of_mem _ (List.mem_append_right _ h)) (by decide +kernel))
set_option maxRecDepth 20000 in
theorem gX7_requireSegment_X7_requireIndex : GoodIn wsX7_requireSegment (va_wsS RX7 120 yX7_requireIndex wsX7_requireIndex) := goodIn_app (goodIn_of _ (by decide +kernel)) ggX7_requireSegment_X7_requireIndex
theorem dX7_requireSegment_0 : decode cX7_requireSegment 0 = .ok (.iload_n 0, 1) := by decide +kernel
theorem dX7_requireSegment_1 : decode cX7_requireSegment 1 = .ok (.bipush 12, 2) := by decide +kernel
theorem dX7_requireSegment_3 : decode cX7_requireSegment 3 = .ok (.invokestatic 120, 3) := by decide +kernel
theorem dX7_requireSegment_6 : decode cX7_requireSegment 6 = .ok (.return_, 1) := by decide +kernel
theorem dX7_requireIndex_0 : decode cX7_requireIndex 0 = .ok (.iload_n 0, 1) := by decide +kernel
theorem dX7_requireIndex_1 : decode cX7_requireIndex 1 = .ok (.ifCond .lt 8, 3) := by decide +kernel
theorem dX7_requireIndex_4 : decode cX7_requireIndex 4 = .ok (.iload_n 0, 1) := by decide +kernel
theorem dX7_requireIndex_5 : decode cX7_requireIndex 5 = .ok (.iload_n 1, 1) := by decide +kernel
theorem dX7_requireIndex_6 : decode cX7_requireIndex 6 = .ok (.if_icmp .lt 14, 3) := by decide +kernel
theorem dX7_requireIndex_9 : decode cX7_requireIndex 9 = .ok (.new 276, 3) := by decide +kernel
theorem dX7_requireIndex_12 : decode cX7_requireIndex 12 = .ok (.dup, 1) := by decide +kernel
theorem dX7_requireIndex_13 : decode cX7_requireIndex 13 = .ok (.ldc_w 283, 3) := by decide +kernel
theorem dX7_requireIndex_16 : decode cX7_requireIndex 16 = .ok (.invokespecial 280, 3) := by decide +kernel
theorem dX7_requireIndex_19 : decode cX7_requireIndex 19 = .ok (.athrow, 1) := by decide +kernel
theorem dX7_requireIndex_20 : decode cX7_requireIndex 20 = .ok (.return_, 1) := by decide +kernel
theorem dX7_requireRange_0 : decode cX7_requireRange 0 = .ok (.iload_n 0, 1) := by decide +kernel
theorem dX7_requireRange_1 : decode cX7_requireRange 1 = .ok (.iload_n 1, 1) := by decide +kernel
theorem dX7_requireRange_2 : decode cX7_requireRange 2 = .ok (.if_icmp .lt 8, 3) := by decide +kernel
theorem dX7_requireRange_5 : decode cX7_requireRange 5 = .ok (.iload_n 0, 1) := by decide +kernel
theorem dX7_requireRange_6 : decode cX7_requireRange 6 = .ok (.iload_n 2, 1) := by decide +kernel
theorem dX7_requireRange_7 : decode cX7_requireRange 7 = .ok (.if_icmp .le 14, 3) := by decide +kernel
theorem dX7_requireRange_10 : decode cX7_requireRange 10 = .ok (.new 285, 3) := by decide +kernel
theorem dX7_requireRange_13 : decode cX7_requireRange 13 = .ok (.dup, 1) := by decide +kernel
theorem dX7_requireRange_14 : decode cX7_requireRange 14 = .ok (.ldc_w 287, 3) := by decide +kernel
theorem dX7_requireRange_17 : decode cX7_requireRange 17 = .ok (.invokespecial 289, 3) := by decide +kernel
theorem dX7_requireRange_20 : decode cX7_requireRange 20 = .ok (.athrow, 1) := by decide +kernel
theorem dX7_requireRange_21 : decode cX7_requireRange 21 = .ok (.return_, 1) := by decide +kernel
theorem dX7_requireState_0 : decode cX7_requireState 0 = .ok (.iload_n 0, 1) := by decide +kernel
theorem dX7_requireState_1 : decode cX7_requireState 1 = .ok (.ifCond .ne 14, 3) := by decide +kernel
theorem dX7_requireState_4 : decode cX7_requireState 4 = .ok (.new 290, 3) := by decide +kernel
theorem dX7_requireState_7 : decode cX7_requireState 7 = .ok (.dup, 1) := by decide +kernel
theorem dX7_requireState_8 : decode cX7_requireState 8 = .ok (.ldc_w 292, 3) := by decide +kernel
theorem dX7_requireState_11 : decode cX7_requireState 11 = .ok (.invokespecial 294, 3) := by decide +kernel
theorem dX7_requireState_14 : decode cX7_requireState 14 = .ok (.athrow, 1) := by decide +kernel
theorem dX7_requireState_15 : decode cX7_requireState 15 = .ok (.return_, 1) := by decide +kernel
theorem dX7_isSegment_0 : decode cX7_isSegment 0 = .ok (.iload_n 0, 1) := by decide +kernel
theorem dX7_isSegment_1 : decode cX7_isSegment 1 = .ok (.ifCond .lt 13, 3) := by decide +kernel
theorem dX7_isSegment_4 : decode cX7_isSegment 4 = .ok (.iload_n 0, 1) := by decide +kernel
theorem dX7_isSegment_5 : decode cX7_isSegment 5 = .ok (.bipush 12, 2) := by decide +kernel
theorem dX7_isSegment_7 : decode cX7_isSegment 7 = .ok (.if_icmp .ge 7, 3) := by decide +kernel
theorem dX7_isSegment_10 : decode cX7_isSegment 10 = .ok (.iconst 1, 1) := by decide +kernel
theorem dX7_isSegment_11 : decode cX7_isSegment 11 = .ok (.goto 4, 3) := by decide +kernel
theorem dX7_isSegment_14 : decode cX7_isSegment 14 = .ok (.iconst 0, 1) := by decide +kernel
theorem dX7_isSegment_15 : decode cX7_isSegment 15 = .ok (.ireturn, 1) := by decide +kernel
theorem dX8_init_0 : decode cX8_init 0 = .ok (.aload_n 0, 1) := by decide +kernel
theorem dX8_init_1 : decode cX8_init 1 = .ok (.invokespecial 1, 3) := by decide +kernel
theorem dX8_init_4 : decode cX8_init 4 = .ok (.aload_n 0, 1) := by decide +kernel
theorem dX8_init_5 : decode cX8_init 5 = .ok (.bipush 12, 2) := by decide +kernel
theorem dX8_init_7 : decode cX8_init 7 = .ok (.newarray .int, 2) := by decide +kernel
theorem dX8_init_9 : decode cX8_init 9 = .ok (.putfield 7, 3) := by decide +kernel
theorem dX8_init_12 : decode cX8_init 12 = .ok (.aload_n 0, 1) := by decide +kernel
theorem dX8_init_13 : decode cX8_init 13 = .ok (.bipush 12, 2) := by decide +kernel
theorem dX8_init_15 : decode cX8_init 15 = .ok (.newarray .int, 2) := by decide +kernel
theorem dX8_init_17 : decode cX8_init 17 = .ok (.putfield 13, 3) := by decide +kernel
theorem dX8_init_20 : decode cX8_init 20 = .ok (.aload_n 0, 1) := by decide +kernel
theorem dX8_init_21 : decode cX8_init 21 = .ok (.iconst 3, 1) := by decide +kernel
theorem dX8_init_22 : decode cX8_init 22 = .ok (.newarray .int, 2) := by decide +kernel
theorem dX8_init_24 : decode cX8_init 24 = .ok (.putfield 16, 3) := by decide +kernel
theorem dX8_init_27 : decode cX8_init 27 = .ok (.aload_n 0, 1) := by decide +kernel
theorem dX8_init_28 : decode cX8_init 28 = .ok (.iconst 3, 1) := by decide +kernel
theorem dX8_init_29 : decode cX8_init 29 = .ok (.newarray .int, 2) := by decide +kernel
theorem dX8_init_31 : decode cX8_init 31 = .ok (.putfield 19, 3) := by decide +kernel
theorem dX8_init_34 : decode cX8_init 34 = .ok (.aload_n 0, 1) := by decide +kernel
theorem dX8_init_35 : decode cX8_init 35 = .ok (.iconst 3, 1) := by decide +kernel
theorem dX8_init_36 : decode cX8_init 36 = .ok (.newarray .boolean, 2) := by decide +kernel
theorem dX8_init_38 : decode cX8_init 38 = .ok (.putfield 22, 3) := by decide +kernel
theorem dX8_init_41 : decode cX8_init 41 = .ok (.aload_n 0, 1) := by decide +kernel
theorem dX8_init_42 : decode cX8_init 42 = .ok (.bipush 6, 2) := by decide +kernel
theorem dX8_init_44 : decode cX8_init 44 = .ok (.putfield 26, 3) := by decide +kernel
theorem dX8_init_47 : decode cX8_init 47 = .ok (.aload_n 0, 1) := by decide +kernel
theorem dX8_init_48 : decode cX8_init 48 = .ok (.bipush 30, 2) := by decide +kernel
theorem dX8_init_50 : decode cX8_init 50 = .ok (.putfield 30, 3) := by decide +kernel
theorem dX8_init_53 : decode cX8_init 53 = .ok (.aload_n 0, 1) := by decide +kernel
theorem dX8_init_54 : decode cX8_init 54 = .ok (.iconst 2, 1) := by decide +kernel
theorem dX8_init_55 : decode cX8_init 55 = .ok (.newarray .boolean, 2) := by decide +kernel
theorem dX8_init_57 : decode cX8_init 57 = .ok (.putfield 33, 3) := by decide +kernel
theorem dX8_init_60 : decode cX8_init 60 = .ok (.aload_n 0, 1) := by decide +kernel
theorem dX8_init_61 : decode cX8_init 61 = .ok (.iconst (-1), 1) := by decide +kernel
theorem dX8_init_62 : decode cX8_init 62 = .ok (.putfield 36, 3) := by decide +kernel
theorem dX8_init_65 : decode cX8_init 65 = .ok (.aload_n 0, 1) := by decide +kernel
theorem dX8_init_66 : decode cX8_init 66 = .ok (.bipush 36, 2) := by decide +kernel
theorem dX8_init_68 : decode cX8_init 68 = .ok (.newarray .boolean, 2) := by decide +kernel
theorem dX8_init_70 : decode cX8_init 70 = .ok (.putfield 39, 3) := by decide +kernel
theorem dX8_init_73 : decode cX8_init 73 = .ok (.aload_n 0, 1) := by decide +kernel
theorem dX8_init_74 : decode cX8_init 74 = .ok (.iconst (-1), 1) := by decide +kernel
theorem dX8_init_75 : decode cX8_init 75 = .ok (.putfield 42, 3) := by decide +kernel
theorem dX8_init_78 : decode cX8_init 78 = .ok (.aload_n 0, 1) := by decide +kernel
theorem dX8_init_79 : decode cX8_init 79 = .ok (.bipush 10, 2) := by decide +kernel
theorem dX8_init_81 : decode cX8_init 81 = .ok (.newarray .int, 2) := by decide +kernel
theorem dX8_init_83 : decode cX8_init 83 = .ok (.putfield 45, 3) := by decide +kernel
theorem dX8_init_86 : decode cX8_init 86 = .ok (.aload_n 0, 1) := by decide +kernel
theorem dX8_init_87 : decode cX8_init 87 = .ok (.bipush 10, 2) := by decide +kernel
theorem dX8_init_89 : decode cX8_init 89 = .ok (.newarray .int, 2) := by decide +kernel
theorem dX8_init_91 : decode cX8_init 91 = .ok (.putfield 48, 3) := by decide +kernel
theorem dX8_init_94 : decode cX8_init 94 = .ok (.aload_n 0, 1) := by decide +kernel
theorem dX8_init_95 : decode cX8_init 95 = .ok (.bipush 10, 2) := by decide +kernel
theorem dX8_init_97 : decode cX8_init 97 = .ok (.newarray .int, 2) := by decide +kernel
theorem dX8_init_99 : decode cX8_init 99 = .ok (.putfield 51, 3) := by decide +kernel
theorem dX8_init_102 : decode cX8_init 102 = .ok (.aload_n 0, 1) := by decide +kernel
theorem dX8_init_103 : decode cX8_init 103 = .ok (.bipush 30, 2) := by decide +kernel
theorem dX8_init_105 : decode cX8_init 105 = .ok (.newarray .int, 2) := by decide +kernel
theorem dX8_init_107 : decode cX8_init 107 = .ok (.putfield 54, 3) := by decide +kernel
theorem dX8_init_110 : decode cX8_init 110 = .ok (.aload_n 0, 1) := by decide +kernel
theorem dX8_init_111 : decode cX8_init 111 = .ok (.bipush 30, 2) := by decide +kernel
theorem dX8_init_113 : decode cX8_init 113 = .ok (.newarray .int, 2) := by decide +kernel
theorem dX8_init_115 : decode cX8_init 115 = .ok (.putfield 57, 3) := by decide +kernel
theorem dX8_init_118 : decode cX8_init 118 = .ok (.aload_n 0, 1) := by decide +kernel
theorem dX8_init_119 : decode cX8_init 119 = .ok (.bipush 30, 2) := by decide +kernel
theorem dX8_init_121 : decode cX8_init 121 = .ok (.newarray .int, 2) := by decide +kernel
theorem dX8_init_123 : decode cX8_init 123 = .ok (.putfield 60, 3) := by decide +kernel
theorem dX8_init_126 : decode cX8_init 126 = .ok (.aload_n 0, 1) := by decide +kernel
theorem dX8_init_127 : decode cX8_init 127 = .ok (.bipush 30, 2) := by decide +kernel
theorem dX8_init_129 : decode cX8_init 129 = .ok (.newarray .int, 2) := by decide +kernel
theorem dX8_init_131 : decode cX8_init 131 = .ok (.putfield 63, 3) := by decide +kernel
theorem dX8_init_134 : decode cX8_init 134 = .ok (.return_, 1) := by decide +kernel
theorem dX8_thrown_0 : decode cX8_thrown 0 = .ok (.aload_n 0, 1) := by decide +kernel
theorem dX8_thrown_1 : decode cX8_thrown 1 = .ok (.getfield 66, 3) := by decide +kernel
theorem dX8_thrown_4 : decode cX8_thrown 4 = .ok (.ireturn, 1) := by decide +kernel
theorem dX8_goes_0 : decode cX8_goes 0 = .ok (.aload_n 0, 1) := by decide +kernel
theorem dX8_goes_1 : decode cX8_goes 1 = .ok (.iload_n 1, 1) := by decide +kernel
theorem dX8_goes_2 : decode cX8_goes 2 = .ok (.ifCond .ne 7, 3) := by decide +kernel
theorem dX8_goes_5 : decode cX8_goes 5 = .ok (.iconst 1, 1) := by decide +kernel
theorem dX8_goes_6 : decode cX8_goes 6 = .ok (.goto 20, 3) := by decide +kernel
theorem dX8_goes_9 : decode cX8_goes 9 = .ok (.iload_n 2, 1) := by decide +kernel
theorem dX8_goes_10 : decode cX8_goes 10 = .ok (.ifCond .ne 7, 3) := by decide +kernel
theorem dX8_goes_13 : decode cX8_goes 13 = .ok (.iconst 2, 1) := by decide +kernel
theorem dX8_goes_14 : decode cX8_goes 14 = .ok (.goto 12, 3) := by decide +kernel
theorem dX8_goes_17 : decode cX8_goes 17 = .ok (.iload_n 3, 1) := by decide +kernel
theorem dX8_goes_18 : decode cX8_goes 18 = .ok (.ifCond .ne 7, 3) := by decide +kernel
theorem dX8_goes_21 : decode cX8_goes 21 = .ok (.iconst 3, 1) := by decide +kernel
theorem dX8_goes_22 : decode cX8_goes 22 = .ok (.goto 4, 3) := by decide +kernel
theorem dX8_goes_25 : decode cX8_goes 25 = .ok (.iconst 0, 1) := by decide +kernel
theorem dX8_goes_26 : decode cX8_goes 26 = .ok (.putfield 66, 3) := by decide +kernel
theorem dX8_goes_29 : decode cX8_goes 29 = .ok (.aload_n 0, 1) := by decide +kernel
theorem dX8_goes_30 : decode cX8_goes 30 = .ok (.getfield 66, 3) := by decide +kernel
theorem dX8_goes_33 : decode cX8_goes 33 = .ok (.ifCond .ne 7, 3) := by decide +kernel
theorem dX8_goes_36 : decode cX8_goes 36 = .ok (.iconst 1, 1) := by decide +kernel
theorem dX8_goes_37 : decode cX8_goes 37 = .ok (.goto 4, 3) := by decide +kernel
theorem dX8_goes_40 : decode cX8_goes 40 = .ok (.iconst 0, 1) := by decide +kernel
theorem dX8_goes_41 : decode cX8_goes 41 = .ok (.ireturn, 1) := by decide +kernel
theorem dX8_isBetween_0 : decode cX8_isBetween 0 = .ok (.iload_n 0, 1) := by decide +kernel
theorem dX8_isBetween_1 : decode cX8_isBetween 1 = .ok (.iload_n 1, 1) := by decide +kernel
theorem dX8_isBetween_2 : decode cX8_isBetween 2 = .ok (.if_icmp .lt 12, 3) := by decide +kernel
theorem dX8_isBetween_5 : decode cX8_isBetween 5 = .ok (.iload_n 0, 1) := by decide +kernel
theorem dX8_isBetween_6 : decode cX8_isBetween 6 = .ok (.iload_n 2, 1) := by decide +kernel
theorem dX8_isBetween_7 : decode cX8_isBetween 7 = .ok (.if_icmp .gt 7, 3) := by decide +kernel
theorem dX8_isBetween_10 : decode cX8_isBetween 10 = .ok (.iconst 1, 1) := by decide +kernel
theorem dX8_isBetween_11 : decode cX8_isBetween 11 = .ok (.goto 4, 3) := by decide +kernel
theorem dX8_isBetween_14 : decode cX8_isBetween 14 = .ok (.iconst 0, 1) := by decide +kernel
theorem dX8_isBetween_15 : decode cX8_isBetween 15 = .ok (.ireturn, 1) := by decide +kernel
set_option maxRecDepth 20000 in
theorem ggX8_isSegment_X8_isBetween : GoodIn wsX8_isSegment wsX8_isBetween := goodIn_r _ [4] (by decide +kernel) (by decide +kernel)
set_option maxRecDepth 20000 in
theorem gX8_isSegment_X8_isBetween : GoodIn wsX8_isSegment (va_wsS RX8 69 yX8_isBetween wsX8_isBetween) := goodIn_app (goodIn_of _ (by decide +kernel)) ggX8_isSegment_X8_isBetween
theorem dX8_isSegment_0 : decode cX8_isSegment 0 = .ok (.iload_n 0, 1) := by decide +kernel
theorem dX8_isSegment_1 : decode cX8_isSegment 1 = .ok (.iconst 0, 1) := by decide +kernel
theorem dX8_isSegment_2 : decode cX8_isSegment 2 = .ok (.bipush 11, 2) := by decide +kernel
theorem dX8_isSegment_4 : decode cX8_isSegment 4 = .ok (.invokestatic 69, 3) := by decide +kernel
theorem dX8_isSegment_7 : decode cX8_isSegment 7 = .ok (.ireturn, 1) := by decide +kernel
set_option maxRecDepth 20000 in
theorem ggX8_isFan_X8_isBetween : GoodIn wsX8_isFan wsX8_isBetween := goodIn_r _ [4] (by decide +kernel) (by decide +kernel)
set_option maxRecDepth 20000 in
theorem gX8_isFan_X8_isBetween : GoodIn wsX8_isFan (va_wsS RX8 69 yX8_isBetween wsX8_isBetween) := goodIn_app (goodIn_of _ (by decide +kernel)) ggX8_isFan_X8_isBetween
theorem dX8_isFan_0 : decode cX8_isFan 0 = .ok (.iload_n 0, 1) := by decide +kernel
theorem dX8_isFan_1 : decode cX8_isFan 1 = .ok (.iconst 0, 1) := by decide +kernel
theorem dX8_isFan_2 : decode cX8_isFan 2 = .ok (.iconst 2, 1) := by decide +kernel
theorem dX8_isFan_3 : decode cX8_isFan 3 = .ok (.invokestatic 69, 3) := by decide +kernel
theorem dX8_isFan_6 : decode cX8_isFan 6 = .ok (.ireturn, 1) := by decide +kernel
theorem dX8_isIn_0 : decode cX8_isIn 0 = .ok (.iload_n 1, 1) := by decide +kernel
theorem dX8_isIn_1 : decode cX8_isIn 1 = .ok (.iload_n 0, 1) := by decide +kernel
theorem dX8_isIn_2 : decode cX8_isIn 2 = .ok (.ishr, 1) := by decide +kernel
theorem dX8_isIn_3 : decode cX8_isIn 3 = .ok (.iconst 1, 1) := by decide +kernel
theorem dX8_isIn_4 : decode cX8_isIn 4 = .ok (.iand, 1) := by decide +kernel
theorem dX8_isIn_5 : decode cX8_isIn 5 = .ok (.iconst 1, 1) := by decide +kernel
theorem dX8_isIn_6 : decode cX8_isIn 6 = .ok (.if_icmp .ne 7, 3) := by decide +kernel
theorem dX8_isIn_9 : decode cX8_isIn 9 = .ok (.iconst 1, 1) := by decide +kernel
theorem dX8_isIn_10 : decode cX8_isIn 10 = .ok (.goto 4, 3) := by decide +kernel
theorem dX8_isIn_13 : decode cX8_isIn 13 = .ok (.iconst 0, 1) := by decide +kernel
theorem dX8_isIn_14 : decode cX8_isIn 14 = .ok (.ireturn, 1) := by decide +kernel
theorem dX8_hasPower_0 : decode cX8_hasPower 0 = .ok (.aload_n 0, 1) := by decide +kernel
theorem dX8_hasPower_1 : decode cX8_hasPower 1 = .ok (.getfield 33, 3) := by decide +kernel
theorem dX8_hasPower_4 : decode cX8_hasPower 4 = .ok (.iconst 0, 1) := by decide +kernel
theorem dX8_hasPower_5 : decode cX8_hasPower 5 = .ok (.baload, 1) := by decide +kernel
theorem dX8_hasPower_6 : decode cX8_hasPower 6 = .ok (.ifCond .eq 12, 3) := by decide +kernel
theorem dX8_hasPower_9 : decode cX8_hasPower 9 = .ok (.aload_n 0, 1) := by decide +kernel
theorem dX8_hasPower_10 : decode cX8_hasPower 10 = .ok (.getfield 33, 3) := by decide +kernel
theorem dX8_hasPower_13 : decode cX8_hasPower 13 = .ok (.iconst 1, 1) := by decide +kernel
theorem dX8_hasPower_14 : decode cX8_hasPower 14 = .ok (.baload, 1) := by decide +kernel
theorem dX8_hasPower_15 : decode cX8_hasPower 15 = .ok (.ifCond .ne 7, 3) := by decide +kernel
theorem dX8_hasPower_18 : decode cX8_hasPower 18 = .ok (.iconst 1, 1) := by decide +kernel
theorem dX8_hasPower_19 : decode cX8_hasPower 19 = .ok (.goto 4, 3) := by decide +kernel
theorem dX8_hasPower_22 : decode cX8_hasPower 22 = .ok (.iconst 0, 1) := by decide +kernel
theorem dX8_hasPower_23 : decode cX8_hasPower 23 = .ok (.ireturn, 1) := by decide +kernel
set_option maxRecDepth 20000 in
theorem ggX8_build_X8_isSegment : GoodIn wsX8_build wsX8_isSegment := goodIn_r _ [10, 11, 12, 9, 13] (by decide +kernel) (by decide +kernel)
set_option maxRecDepth 20000 in
theorem gX8_build_X8_isSegment : GoodIn wsX8_build (va_wsS RX8 73 yX8_isSegment wsX8_isSegment) := goodIn_app (goodIn_of _ (by decide +kernel)) ggX8_build_X8_isSegment
set_option maxRecDepth 20000 in
theorem ggX8_build_X8_isBetween : GoodIn wsX8_build wsX8_isBetween := goodIn_r _ [13] (by decide +kernel) (by decide +kernel)
set_option maxRecDepth 20000 in
theorem gX8_build_X8_isBetween : GoodIn wsX8_build (va_wsS RX8 69 yX8_isBetween wsX8_isBetween) := goodIn_app (goodIn_of _ (by decide +kernel)) ggX8_build_X8_isBetween
set_option maxRecDepth 20000 in
theorem ggX8_build_X8_goes : GoodIn wsX8_build wsX8_goes := goodIn_r _ [17, 18, 19, 20, 21, 22, 23, 24, 25, 26, 27, 28, 29, 30, 31, 32, 33, 34, 35, 36, 37, 38, 39, 40, 41, 42, 43, 44, 45, 46, 47, 48, 49, 50, 51, 52, 53, 54, 55] (by decide +kernel) (by decide +kernel)
set_option maxRecDepth 20000 in
theorem gX8_build_X8_goes : GoodIn wsX8_build (wsV RX8 80 RX8 yX8_goes wsX8_goes) := goodIn_app (goodIn_of _ (by decide +kernel)) ggX8_build_X8_goes
theorem dX8_build_0 : decode cX8_build 0 = .ok (.aload_n 0, 1) := by decide +kernel
theorem dX8_build_1 : decode cX8_build 1 = .ok (.iload_n 2, 1) := by decide +kernel
theorem dX8_build_2 : decode cX8_build 2 = .ok (.invokestatic 73, 3) := by decide +kernel
theorem dX8_build_5 : decode cX8_build 5 = .ok (.iload_n 1, 1) := by decide +kernel
theorem dX8_build_6 : decode cX8_build 6 = .ok (.iconst 0, 1) := by decide +kernel
theorem dX8_build_7 : decode cX8_build 7 = .ok (.sipush 4095, 3) := by decide +kernel
theorem dX8_build_10 : decode cX8_build 10 = .ok (.invokestatic 69, 3) := by decide +kernel
theorem dX8_build_13 : decode cX8_build 13 = .ok (.aload_n 0, 1) := by decide +kernel
theorem dX8_build_14 : decode cX8_build 14 = .ok (.getfield 77, 3) := by decide +kernel
theorem dX8_build_17 : decode cX8_build 17 = .ok (.ifCond .ne 7, 3) := by decide +kernel
theorem dX8_build_20 : decode cX8_build 20 = .ok (.iconst 1, 1) := by decide +kernel
theorem dX8_build_21 : decode cX8_build 21 = .ok (.goto 4, 3) := by decide +kernel
theorem dX8_build_24 : decode cX8_build 24 = .ok (.iconst 0, 1) := by decide +kernel
theorem dX8_build_25 : decode cX8_build 25 = .ok (.invokevirtual 80, 3) := by decide +kernel
theorem dX8_build_28 : decode cX8_build 28 = .ok (.ifCond .ne 4, 3) := by decide +kernel
theorem dX8_build_31 : decode cX8_build 31 = .ok (.return_, 1) := by decide +kernel
theorem dX8_build_32 : decode cX8_build 32 = .ok (.aload_n 0, 1) := by decide +kernel
theorem dX8_build_33 : decode cX8_build 33 = .ok (.iload_n 1, 1) := by decide +kernel
theorem dX8_build_34 : decode cX8_build 34 = .ok (.putfield 84, 3) := by decide +kernel
theorem dX8_build_37 : decode cX8_build 37 = .ok (.aload_n 0, 1) := by decide +kernel
theorem dX8_build_38 : decode cX8_build 38 = .ok (.iconst 0, 1) := by decide +kernel
theorem dX8_build_39 : decode cX8_build 39 = .ok (.putfield 87, 3) := by decide +kernel
theorem dX8_build_42 : decode cX8_build 42 = .ok (.aload_n 0, 1) := by decide +kernel
theorem dX8_build_43 : decode cX8_build 43 = .ok (.iconst 0, 1) := by decide +kernel
theorem dX8_build_44 : decode cX8_build 44 = .ok (.putfield 90, 3) := by decide +kernel
theorem dX8_build_47 : decode cX8_build 47 = .ok (.aload_n 0, 1) := by decide +kernel
theorem dX8_build_48 : decode cX8_build 48 = .ok (.iload_n 2, 1) := by decide +kernel
theorem dX8_build_49 : decode cX8_build 49 = .ok (.putfield 26, 3) := by decide +kernel
theorem dX8_build_52 : decode cX8_build 52 = .ok (.aload_n 0, 1) := by decide +kernel
theorem dX8_build_53 : decode cX8_build 53 = .ok (.iconst 0, 1) := by decide +kernel
theorem dX8_build_54 : decode cX8_build 54 = .ok (.putfield 93, 3) := by decide +kernel
theorem dX8_build_57 : decode cX8_build 57 = .ok (.return_, 1) := by decide +kernel
set_option maxRecDepth 20000 in
theorem ggX8_people_X8_isBetween : GoodIn wsX8_people wsX8_isBetween := goodIn_r _ [7] (by decide +kernel) (by decide +kernel)
set_option maxRecDepth 20000 in
theorem gX8_people_X8_isBetween : GoodIn wsX8_people (va_wsS RX8 69 yX8_isBetween wsX8_isBetween) := goodIn_app (goodIn_of _ (by decide +kernel)) ggX8_people_X8_isBetween
set_option maxRecDepth 20000 in
theorem ggX8_people_X8_isSegment : GoodIn wsX8_people wsX8_isSegment := goodIn_r _ [10, 4, 5, 6, 7] (by decide +kernel) (by decide +kernel)
set_option maxRecDepth 20000 in
theorem gX8_people_X8_isSegment : GoodIn wsX8_people (va_wsS RX8 73 yX8_isSegment wsX8_isSegment) := goodIn_app (goodIn_of _ (by decide +kernel)) ggX8_people_X8_isSegment
set_option maxRecDepth 20000 in
theorem ggX8_people_X8_goes : GoodIn wsX8_people wsX8_goes := goodIn_r _ [14, 15, 16, 17, 18, 19, 20, 21, 22, 23, 24, 25, 26, 27, 28, 29, 30, 31, 32, 33, 34, 35, 36, 37, 38, 39, 40, 41, 42, 43, 44, 45, 46, 47, 48, 49, 50, 51, 52] (by decide +kernel) (by decide +kernel)
set_option maxRecDepth 20000 in
theorem gX8_people_X8_goes : GoodIn wsX8_people (wsV RX8 80 RX8 yX8_goes wsX8_goes) := goodIn_app (goodIn_of _ (by decide +kernel)) ggX8_people_X8_goes
theorem dX8_people_0 : decode cX8_people 0 = .ok (.iload_n 2, 1) := by decide +kernel
theorem dX8_people_1 : decode cX8_people 1 = .ok (.iconst 1, 1) := by decide +kernel
theorem dX8_people_2 : decode cX8_people 2 = .ok (.bipush 30, 2) := by decide +kernel
theorem dX8_people_4 : decode cX8_people 4 = .ok (.invokestatic 69, 3) := by decide +kernel
theorem dX8_people_7 : decode cX8_people 7 = .ok (.istore_n 3, 1) := by decide +kernel
theorem dX8_people_8 : decode cX8_people 8 = .ok (.aload_n 0, 1) := by decide +kernel
theorem dX8_people_9 : decode cX8_people 9 = .ok (.iload_n 1, 1) := by decide +kernel
theorem dX8_people_10 : decode cX8_people 10 = .ok (.invokestatic 73, 3) := by decide +kernel
theorem dX8_people_13 : decode cX8_people 13 = .ok (.iload_n 3, 1) := by decide +kernel
theorem dX8_people_14 : decode cX8_people 14 = .ok (.iload_n 3, 1) := by decide +kernel
theorem dX8_people_15 : decode cX8_people 15 = .ok (.ifCond .eq 18, 3) := by decide +kernel
theorem dX8_people_18 : decode cX8_people 18 = .ok (.aload_n 0, 1) := by decide +kernel
theorem dX8_people_19 : decode cX8_people 19 = .ok (.getfield 97, 3) := by decide +kernel
theorem dX8_people_22 : decode cX8_people 22 = .ok (.iload_n 2, 1) := by decide +kernel
theorem dX8_people_23 : decode cX8_people 23 = .ok (.iadd, 1) := by decide +kernel
theorem dX8_people_24 : decode cX8_people 24 = .ok (.bipush 30, 2) := by decide +kernel
theorem dX8_people_26 : decode cX8_people 26 = .ok (.if_icmp .gt 7, 3) := by decide +kernel
theorem dX8_people_29 : decode cX8_people 29 = .ok (.iconst 1, 1) := by decide +kernel
theorem dX8_people_30 : decode cX8_people 30 = .ok (.goto 4, 3) := by decide +kernel
theorem dX8_people_33 : decode cX8_people 33 = .ok (.iconst 0, 1) := by decide +kernel
theorem dX8_people_34 : decode cX8_people 34 = .ok (.invokevirtual 80, 3) := by decide +kernel
theorem dX8_people_37 : decode cX8_people 37 = .ok (.ifCond .ne 5, 3) := by decide +kernel
theorem dX8_people_40 : decode cX8_people 40 = .ok (.iconst 0, 1) := by decide +kernel
theorem dX8_people_41 : decode cX8_people 41 = .ok (.ireturn, 1) := by decide +kernel
theorem dX8_people_42 : decode cX8_people 42 = .ok (.iconst 0, 1) := by decide +kernel
theorem dX8_people_43 : decode cX8_people 43 = .ok (.istore 4, 2) := by decide +kernel
theorem dX8_people_45 : decode cX8_people 45 = .ok (.iload 4, 2) := by decide +kernel
theorem dX8_people_47 : decode cX8_people 47 = .ok (.iload_n 2, 1) := by decide +kernel
theorem dX8_people_48 : decode cX8_people 48 = .ok (.if_icmp .ge 39, 3) := by decide +kernel
theorem dX8_people_51 : decode cX8_people 51 = .ok (.aload_n 0, 1) := by decide +kernel
theorem dX8_people_52 : decode cX8_people 52 = .ok (.getfield 57, 3) := by decide +kernel
theorem dX8_people_55 : decode cX8_people 55 = .ok (.aload_n 0, 1) := by decide +kernel
theorem dX8_people_56 : decode cX8_people 56 = .ok (.getfield 97, 3) := by decide +kernel
theorem dX8_people_59 : decode cX8_people 59 = .ok (.iload_n 1, 1) := by decide +kernel
theorem dX8_people_60 : decode cX8_people 60 = .ok (.iastore, 1) := by decide +kernel
theorem dX8_people_61 : decode cX8_people 61 = .ok (.aload_n 0, 1) := by decide +kernel
theorem dX8_people_62 : decode cX8_people 62 = .ok (.getfield 63, 3) := by decide +kernel
theorem dX8_people_65 : decode cX8_people 65 = .ok (.aload_n 0, 1) := by decide +kernel
theorem dX8_people_66 : decode cX8_people 66 = .ok (.getfield 97, 3) := by decide +kernel
theorem dX8_people_69 : decode cX8_people 69 = .ok (.iconst (-1), 1) := by decide +kernel
theorem dX8_people_70 : decode cX8_people 70 = .ok (.iastore, 1) := by decide +kernel
theorem dX8_people_71 : decode cX8_people 71 = .ok (.aload_n 0, 1) := by decide +kernel
theorem dX8_people_72 : decode cX8_people 72 = .ok (.dup, 1) := by decide +kernel
theorem dX8_people_73 : decode cX8_people 73 = .ok (.getfield 97, 3) := by decide +kernel
theorem dX8_people_76 : decode cX8_people 76 = .ok (.iconst 1, 1) := by decide +kernel
theorem dX8_people_77 : decode cX8_people 77 = .ok (.iadd, 1) := by decide +kernel
theorem dX8_people_78 : decode cX8_people 78 = .ok (.putfield 97, 3) := by decide +kernel
theorem dX8_people_81 : decode cX8_people 81 = .ok (.iinc 4 1, 3) := by decide +kernel
theorem dX8_people_84 : decode cX8_people 84 = .ok (.goto (-39), 3) := by decide +kernel
theorem dX8_people_87 : decode cX8_people 87 = .ok (.aload_n 0, 1) := by decide +kernel
theorem dX8_people_88 : decode cX8_people 88 = .ok (.getfield 97, 3) := by decide +kernel
theorem dX8_people_91 : decode cX8_people 91 = .ok (.ireturn, 1) := by decide +kernel
set_option maxRecDepth 20000 in
theorem ggX8_wind_X8_isBetween : GoodIn wsX8_wind wsX8_isBetween := goodIn_r _ [5] (by decide +kernel) (by decide +kernel)
set_option maxRecDepth 20000 in
theorem gX8_wind_X8_isBetween : GoodIn wsX8_wind (va_wsS RX8 69 yX8_isBetween wsX8_isBetween) := goodIn_app (goodIn_of _ (by decide +kernel)) ggX8_wind_X8_isBetween
set_option maxRecDepth 20000 in
theorem ggX8_wind_X8_goes : GoodIn wsX8_wind wsX8_goes := goodIn_r _ [9, 10, 11, 12, 13, 14, 15, 16, 17, 18, 19, 20, 21, 22, 23, 24, 25, 26, 27, 28, 29, 30, 31, 32, 33, 34, 35, 36, 37, 38, 39, 40, 41, 42, 43, 44, 45, 46, 47] (by decide +kernel) (by decide +kernel)
set_option maxRecDepth 20000 in
theorem gX8_wind_X8_goes : GoodIn wsX8_wind (wsV RX8 80 RX8 yX8_goes wsX8_goes) := goodIn_app (goodIn_of _ (by decide +kernel)) ggX8_wind_X8_goes
theorem dX8_wind_0 : decode cX8_wind 0 = .ok (.aload_n 0, 1) := by decide +kernel
theorem dX8_wind_1 : decode cX8_wind 1 = .ok (.iload_n 1, 1) := by decide +kernel
theorem dX8_wind_2 : decode cX8_wind 2 = .ok (.bipush (-40), 2) := by decide +kernel
theorem dX8_wind_4 : decode cX8_wind 4 = .ok (.bipush 40, 2) := by decide +kernel
theorem dX8_wind_6 : decode cX8_wind 6 = .ok (.invokestatic 69, 3) := by decide +kernel
theorem dX8_wind_9 : decode cX8_wind 9 = .ok (.iconst 1, 1) := by decide +kernel
theorem dX8_wind_10 : decode cX8_wind 10 = .ok (.iconst 1, 1) := by decide +kernel
theorem dX8_wind_11 : decode cX8_wind 11 = .ok (.invokevirtual 80, 3) := by decide +kernel
theorem dX8_wind_14 : decode cX8_wind 14 = .ok (.ifCond .ne 5, 3) := by decide +kernel
theorem dX8_wind_17 : decode cX8_wind 17 = .ok (.iconst 0, 1) := by decide +kernel
theorem dX8_wind_18 : decode cX8_wind 18 = .ok (.ireturn, 1) := by decide +kernel
theorem dX8_wind_19 : decode cX8_wind 19 = .ok (.aload_n 0, 1) := by decide +kernel
theorem dX8_wind_20 : decode cX8_wind 20 = .ok (.getfield 100, 3) := by decide +kernel
theorem dX8_wind_23 : decode cX8_wind 23 = .ok (.istore_n 2, 1) := by decide +kernel
theorem dX8_wind_24 : decode cX8_wind 24 = .ok (.aload_n 0, 1) := by decide +kernel
theorem dX8_wind_25 : decode cX8_wind 25 = .ok (.iload_n 1, 1) := by decide +kernel
theorem dX8_wind_26 : decode cX8_wind 26 = .ok (.putfield 100, 3) := by decide +kernel
theorem dX8_wind_29 : decode cX8_wind 29 = .ok (.iload_n 2, 1) := by decide +kernel
theorem dX8_wind_30 : decode cX8_wind 30 = .ok (.ireturn, 1) := by decide +kernel
set_option maxRecDepth 20000 in
theorem ggX8_fire_X8_isSegment : GoodIn wsX8_fire wsX8_isSegment := goodIn_r _ [6, 7, 8, 5, 9] (by decide +kernel) (by decide +kernel)
set_option maxRecDepth 20000 in
theorem gX8_fire_X8_isSegment : GoodIn wsX8_fire (va_wsS RX8 73 yX8_isSegment wsX8_isSegment) := goodIn_app (goodIn_of _ (by decide +kernel)) ggX8_fire_X8_isSegment
set_option maxRecDepth 20000 in
theorem ggX8_fire_X8_isBetween : GoodIn wsX8_fire wsX8_isBetween := goodIn_r _ [9] (by decide +kernel) (by decide +kernel)
set_option maxRecDepth 20000 in
theorem gX8_fire_X8_isBetween : GoodIn wsX8_fire (va_wsS RX8 69 yX8_isBetween wsX8_isBetween) := goodIn_app (goodIn_of _ (by decide +kernel)) ggX8_fire_X8_isBetween
set_option maxRecDepth 20000 in
theorem ggX8_fire_X8_goes : GoodIn wsX8_fire wsX8_goes := goodIn_r _ [13, 14, 15, 16, 17, 18, 19, 20, 21, 22, 23, 24, 25, 26, 27, 28, 29, 30, 31, 32, 33, 34, 35, 36, 37, 38, 39, 40, 41, 42, 43, 44, 45, 46, 47, 48, 49, 50, 51] (by decide +kernel) (by decide +kernel)
set_option maxRecDepth 20000 in
theorem gX8_fire_X8_goes : GoodIn wsX8_fire (wsV RX8 80 RX8 yX8_goes wsX8_goes) := goodIn_app (goodIn_of _ (by decide +kernel)) ggX8_fire_X8_goes
theorem dX8_fire_0 : decode cX8_fire 0 = .ok (.aload_n 0, 1) := by decide +kernel
theorem dX8_fire_1 : decode cX8_fire 1 = .ok (.iload_n 1, 1) := by decide +kernel
theorem dX8_fire_2 : decode cX8_fire 2 = .ok (.invokestatic 73, 3) := by decide +kernel
theorem dX8_fire_5 : decode cX8_fire 5 = .ok (.iload_n 2, 1) := by decide +kernel
theorem dX8_fire_6 : decode cX8_fire 6 = .ok (.iconst 1, 1) := by decide +kernel
theorem dX8_fire_7 : decode cX8_fire 7 = .ok (.sipush 200, 3) := by decide +kernel
theorem dX8_fire_10 : decode cX8_fire 10 = .ok (.invokestatic 69, 3) := by decide +kernel
theorem dX8_fire_13 : decode cX8_fire 13 = .ok (.aload_n 0, 1) := by decide +kernel
theorem dX8_fire_14 : decode cX8_fire 14 = .ok (.getfield 36, 3) := by decide +kernel
theorem dX8_fire_17 : decode cX8_fire 17 = .ok (.iconst (-1), 1) := by decide +kernel
theorem dX8_fire_18 : decode cX8_fire 18 = .ok (.if_icmp .ne 7, 3) := by decide +kernel
theorem dX8_fire_21 : decode cX8_fire 21 = .ok (.iconst 1, 1) := by decide +kernel
theorem dX8_fire_22 : decode cX8_fire 22 = .ok (.goto 4, 3) := by decide +kernel
theorem dX8_fire_25 : decode cX8_fire 25 = .ok (.iconst 0, 1) := by decide +kernel
theorem dX8_fire_26 : decode cX8_fire 26 = .ok (.invokevirtual 80, 3) := by decide +kernel
theorem dX8_fire_29 : decode cX8_fire 29 = .ok (.ifCond .ne 4, 3) := by decide +kernel
theorem dX8_fire_32 : decode cX8_fire 32 = .ok (.return_, 1) := by decide +kernel
theorem dX8_fire_33 : decode cX8_fire 33 = .ok (.aload_n 0, 1) := by decide +kernel
theorem dX8_fire_34 : decode cX8_fire 34 = .ok (.iload_n 1, 1) := by decide +kernel
theorem dX8_fire_35 : decode cX8_fire 35 = .ok (.putfield 36, 3) := by decide +kernel
theorem dX8_fire_38 : decode cX8_fire 38 = .ok (.aload_n 0, 1) := by decide +kernel
theorem dX8_fire_39 : decode cX8_fire 39 = .ok (.iload_n 2, 1) := by decide +kernel
theorem dX8_fire_40 : decode cX8_fire 40 = .ok (.putfield 103, 3) := by decide +kernel
theorem dX8_fire_43 : decode cX8_fire 43 = .ok (.return_, 1) := by decide +kernel
set_option maxRecDepth 20000 in
theorem ggX8_feed_X8_isBetween : GoodIn wsX8_feed wsX8_isBetween := goodIn_r _ [5] (by decide +kernel) (by decide +kernel)
set_option maxRecDepth 20000 in
theorem gX8_feed_X8_isBetween : GoodIn wsX8_feed (va_wsS RX8 69 yX8_isBetween wsX8_isBetween) := goodIn_app (goodIn_of _ (by decide +kernel)) ggX8_feed_X8_isBetween
set_option maxRecDepth 20000 in
theorem ggX8_feed_X8_goes : GoodIn wsX8_feed wsX8_goes := goodIn_r _ [9, 10, 15, 16, 17, 18, 19, 20, 21, 22, 23, 24, 25, 26, 27, 28, 29, 30, 31, 32, 33, 34, 35, 36, 37, 38, 39, 40, 41, 42, 43, 44, 45, 46, 47, 48, 49, 50, 51] (by decide +kernel) (by decide +kernel)
set_option maxRecDepth 20000 in
theorem gX8_feed_X8_goes : GoodIn wsX8_feed (wsV RX8 80 RX8 yX8_goes wsX8_goes) := goodIn_app (goodIn_of _ (by decide +kernel)) ggX8_feed_X8_goes
set_option maxRecDepth 20000 in
theorem ggX8_feed_X8_hasPower : GoodIn wsX8_feed wsX8_hasPower := goodIn_r _ [14, 1, 15, 16, 17, 18, 19, 20, 21, 22, 23, 24, 25, 26, 27, 28, 29, 30, 31, 32, 33, 34, 35, 36, 37, 38, 39, 40, 41, 42, 43, 44, 45, 46, 47, 48, 49, 50, 51] (by decide +kernel) (by decide +kernel)
set_option maxRecDepth 20000 in
theorem gX8_feed_X8_hasPower : GoodIn wsX8_feed (wsV RX8 106 RX8 yX8_hasPower wsX8_hasPower) := goodIn_app (goodIn_of _ (by decide +kernel)) ggX8_feed_X8_hasPower
theorem dX8_feed_0 : decode cX8_feed 0 = .ok (.aload_n 0, 1) := by decide +kernel
theorem dX8_feed_1 : decode cX8_feed 1 = .ok (.iload_n 1, 1) := by decide +kernel
theorem dX8_feed_2 : decode cX8_feed 2 = .ok (.iconst 0, 1) := by decide +kernel
theorem dX8_feed_3 : decode cX8_feed 3 = .ok (.iconst 1, 1) := by decide +kernel
theorem dX8_feed_4 : decode cX8_feed 4 = .ok (.invokestatic 69, 3) := by decide +kernel
theorem dX8_feed_7 : decode cX8_feed 7 = .ok (.iconst 1, 1) := by decide +kernel
theorem dX8_feed_8 : decode cX8_feed 8 = .ok (.iconst 1, 1) := by decide +kernel
theorem dX8_feed_9 : decode cX8_feed 9 = .ok (.invokevirtual 80, 3) := by decide +kernel
theorem dX8_feed_12 : decode cX8_feed 12 = .ok (.ifCond .ne 5, 3) := by decide +kernel
theorem dX8_feed_15 : decode cX8_feed 15 = .ok (.iconst 0, 1) := by decide +kernel
theorem dX8_feed_16 : decode cX8_feed 16 = .ok (.ireturn, 1) := by decide +kernel
theorem dX8_feed_17 : decode cX8_feed 17 = .ok (.aload_n 0, 1) := by decide +kernel
theorem dX8_feed_18 : decode cX8_feed 18 = .ok (.getfield 33, 3) := by decide +kernel
theorem dX8_feed_21 : decode cX8_feed 21 = .ok (.iload_n 1, 1) := by decide +kernel
theorem dX8_feed_22 : decode cX8_feed 22 = .ok (.iload_n 2, 1) := by decide +kernel
theorem dX8_feed_23 : decode cX8_feed 23 = .ok (.ifCond .ne 7, 3) := by decide +kernel
theorem dX8_feed_26 : decode cX8_feed 26 = .ok (.iconst 1, 1) := by decide +kernel
theorem dX8_feed_27 : decode cX8_feed 27 = .ok (.goto 4, 3) := by decide +kernel
theorem dX8_feed_30 : decode cX8_feed 30 = .ok (.iconst 0, 1) := by decide +kernel
theorem dX8_feed_31 : decode cX8_feed 31 = .ok (.bastore, 1) := by decide +kernel
theorem dX8_feed_32 : decode cX8_feed 32 = .ok (.aload_n 0, 1) := by decide +kernel
theorem dX8_feed_33 : decode cX8_feed 33 = .ok (.invokevirtual 106, 3) := by decide +kernel
theorem dX8_feed_36 : decode cX8_feed 36 = .ok (.ireturn, 1) := by decide +kernel
set_option maxRecDepth 20000 in
theorem ggX8_failFan_X8_isFan : GoodIn wsX8_failFan wsX8_isFan := goodIn_r _ [6, 7, 8, 5, 9] (by decide +kernel) (by decide +kernel)
set_option maxRecDepth 20000 in
theorem gX8_failFan_X8_isFan : GoodIn wsX8_failFan (va_wsS RX8 110 yX8_isFan wsX8_isFan) := goodIn_app (goodIn_of _ (by decide +kernel)) ggX8_failFan_X8_isFan
set_option maxRecDepth 20000 in
theorem ggX8_failFan_X8_goes : GoodIn wsX8_failFan wsX8_goes := goodIn_r _ [13, 14, 15, 16, 17, 18, 19, 20, 21, 22, 23, 24, 25, 26, 27, 28, 29, 30, 31, 32, 33, 34, 35, 36, 37, 38, 39, 40, 41, 42, 43, 44, 45, 46, 47, 48, 49, 50, 51] (by decide +kernel) (by decide +kernel)
set_option maxRecDepth 20000 in
theorem gX8_failFan_X8_goes : GoodIn wsX8_failFan (wsV RX8 80 RX8 yX8_goes wsX8_goes) := goodIn_app (goodIn_of _ (by decide +kernel)) ggX8_failFan_X8_goes
theorem dX8_failFan_0 : decode cX8_failFan 0 = .ok (.aload_n 0, 1) := by decide +kernel
theorem dX8_failFan_1 : decode cX8_failFan 1 = .ok (.iload_n 1, 1) := by decide +kernel
theorem dX8_failFan_2 : decode cX8_failFan 2 = .ok (.invokestatic 110, 3) := by decide +kernel
theorem dX8_failFan_5 : decode cX8_failFan 5 = .ok (.iconst 1, 1) := by decide +kernel
theorem dX8_failFan_6 : decode cX8_failFan 6 = .ok (.iconst 1, 1) := by decide +kernel
theorem dX8_failFan_7 : decode cX8_failFan 7 = .ok (.invokevirtual 80, 3) := by decide +kernel
theorem dX8_failFan_10 : decode cX8_failFan 10 = .ok (.ifCond .ne 5, 3) := by decide +kernel
theorem dX8_failFan_13 : decode cX8_failFan 13 = .ok (.iconst 0, 1) := by decide +kernel
theorem dX8_failFan_14 : decode cX8_failFan 14 = .ok (.ireturn, 1) := by decide +kernel
theorem dX8_failFan_15 : decode cX8_failFan 15 = .ok (.aload_n 0, 1) := by decide +kernel
theorem dX8_failFan_16 : decode cX8_failFan 16 = .ok (.getfield 22, 3) := by decide +kernel
theorem dX8_failFan_19 : decode cX8_failFan 19 = .ok (.iload_n 1, 1) := by decide +kernel
theorem dX8_failFan_20 : decode cX8_failFan 20 = .ok (.iload_n 2, 1) := by decide +kernel
theorem dX8_failFan_21 : decode cX8_failFan 21 = .ok (.bastore, 1) := by decide +kernel
theorem dX8_failFan_22 : decode cX8_failFan 22 = .ok (.aload_n 0, 1) := by decide +kernel
theorem dX8_failFan_23 : decode cX8_failFan 23 = .ok (.getfield 19, 3) := by decide +kernel
theorem dX8_failFan_26 : decode cX8_failFan 26 = .ok (.iload_n 1, 1) := by decide +kernel
theorem dX8_failFan_27 : decode cX8_failFan 27 = .ok (.iaload, 1) := by decide +kernel
theorem dX8_failFan_28 : decode cX8_failFan 28 = .ok (.ireturn, 1) := by decide +kernel
set_option maxRecDepth 20000 in
theorem ggX8_failDoor_X8_isSegment : GoodIn wsX8_failDoor wsX8_isSegment := goodIn_r _ [7, 8, 9, 6, 10] (by decide +kernel) (by decide +kernel)
set_option maxRecDepth 20000 in
theorem gX8_failDoor_X8_isSegment : GoodIn wsX8_failDoor (va_wsS RX8 73 yX8_isSegment wsX8_isSegment) := goodIn_app (goodIn_of _ (by decide +kernel)) ggX8_failDoor_X8_isSegment
set_option maxRecDepth 20000 in
theorem ggX8_failDoor_X8_isIn : GoodIn wsX8_failDoor wsX8_isIn := goodIn_r _ [13] (by decide +kernel) (by decide +kernel)
set_option maxRecDepth 20000 in
theorem gX8_failDoor_X8_isIn : GoodIn wsX8_failDoor (va_wsS RX8 113 yX8_isIn wsX8_isIn) := goodIn_app (goodIn_of _ (by decide +kernel)) ggX8_failDoor_X8_isIn
set_option maxRecDepth 20000 in
theorem ggX8_failDoor_X8_goes : GoodIn wsX8_failDoor wsX8_goes := goodIn_r _ [17, 18, 19, 20, 21, 22, 23, 24, 25, 26, 27, 28, 29, 30, 31, 32, 33, 34, 35, 36, 37, 38, 39, 40, 41, 42, 43, 44, 45, 46, 47, 48, 49, 50, 51, 52, 53, 54, 55] (by decide +kernel) (by decide +kernel)
set_option maxRecDepth 20000 in
theorem gX8_failDoor_X8_goes : GoodIn wsX8_failDoor (wsV RX8 80 RX8 yX8_goes wsX8_goes) := goodIn_app (goodIn_of _ (by decide +kernel)) ggX8_failDoor_X8_goes
theorem dX8_failDoor_0 : decode cX8_failDoor 0 = .ok (.aload_n 0, 1) := by decide +kernel
theorem dX8_failDoor_1 : decode cX8_failDoor 1 = .ok (.iload_n 1, 1) := by decide +kernel
theorem dX8_failDoor_2 : decode cX8_failDoor 2 = .ok (.invokestatic 73, 3) := by decide +kernel
theorem dX8_failDoor_5 : decode cX8_failDoor 5 = .ok (.ifCond .eq 18, 3) := by decide +kernel
theorem dX8_failDoor_8 : decode cX8_failDoor 8 = .ok (.iload_n 1, 1) := by decide +kernel
theorem dX8_failDoor_9 : decode cX8_failDoor 9 = .ok (.aload_n 0, 1) := by decide +kernel
theorem dX8_failDoor_10 : decode cX8_failDoor 10 = .ok (.getfield 84, 3) := by decide +kernel
theorem dX8_failDoor_13 : decode cX8_failDoor 13 = .ok (.invokestatic 113, 3) := by decide +kernel
theorem dX8_failDoor_16 : decode cX8_failDoor 16 = .ok (.ifCond .eq 7, 3) := by decide +kernel
theorem dX8_failDoor_19 : decode cX8_failDoor 19 = .ok (.iconst 1, 1) := by decide +kernel
theorem dX8_failDoor_20 : decode cX8_failDoor 20 = .ok (.goto 4, 3) := by decide +kernel
theorem dX8_failDoor_23 : decode cX8_failDoor 23 = .ok (.iconst 0, 1) := by decide +kernel
theorem dX8_failDoor_24 : decode cX8_failDoor 24 = .ok (.iconst 1, 1) := by decide +kernel
theorem dX8_failDoor_25 : decode cX8_failDoor 25 = .ok (.iconst 1, 1) := by decide +kernel
theorem dX8_failDoor_26 : decode cX8_failDoor 26 = .ok (.invokevirtual 80, 3) := by decide +kernel
theorem dX8_failDoor_29 : decode cX8_failDoor 29 = .ok (.ifCond .ne 5, 3) := by decide +kernel
theorem dX8_failDoor_32 : decode cX8_failDoor 32 = .ok (.iconst 0, 1) := by decide +kernel
theorem dX8_failDoor_33 : decode cX8_failDoor 33 = .ok (.ireturn, 1) := by decide +kernel
theorem dX8_failDoor_34 : decode cX8_failDoor 34 = .ok (.aload_n 0, 1) := by decide +kernel
theorem dX8_failDoor_35 : decode cX8_failDoor 35 = .ok (.iload_n 2, 1) := by decide +kernel
theorem dX8_failDoor_36 : decode cX8_failDoor 36 = .ok (.ifCond .eq 14, 3) := by decide +kernel
theorem dX8_failDoor_39 : decode cX8_failDoor 39 = .ok (.aload_n 0, 1) := by decide +kernel
theorem dX8_failDoor_40 : decode cX8_failDoor 40 = .ok (.getfield 90, 3) := by decide +kernel
theorem dX8_failDoor_43 : decode cX8_failDoor 43 = .ok (.iconst 1, 1) := by decide +kernel
theorem dX8_failDoor_44 : decode cX8_failDoor 44 = .ok (.iload_n 1, 1) := by decide +kernel
theorem dX8_failDoor_45 : decode cX8_failDoor 45 = .ok (.ishl, 1) := by decide +kernel
theorem dX8_failDoor_46 : decode cX8_failDoor 46 = .ok (.ior, 1) := by decide +kernel
theorem dX8_failDoor_47 : decode cX8_failDoor 47 = .ok (.goto 13, 3) := by decide +kernel
theorem dX8_failDoor_50 : decode cX8_failDoor 50 = .ok (.aload_n 0, 1) := by decide +kernel
theorem dX8_failDoor_51 : decode cX8_failDoor 51 = .ok (.getfield 90, 3) := by decide +kernel
theorem dX8_failDoor_54 : decode cX8_failDoor 54 = .ok (.iconst 1, 1) := by decide +kernel
theorem dX8_failDoor_55 : decode cX8_failDoor 55 = .ok (.iload_n 1, 1) := by decide +kernel
theorem dX8_failDoor_56 : decode cX8_failDoor 56 = .ok (.ishl, 1) := by decide +kernel
theorem dX8_failDoor_57 : decode cX8_failDoor 57 = .ok (.iconst (-1), 1) := by decide +kernel
theorem dX8_failDoor_58 : decode cX8_failDoor 58 = .ok (.ixor, 1) := by decide +kernel
theorem dX8_failDoor_59 : decode cX8_failDoor 59 = .ok (.iand, 1) := by decide +kernel
theorem dX8_failDoor_60 : decode cX8_failDoor 60 = .ok (.putfield 90, 3) := by decide +kernel
theorem dX8_failDoor_63 : decode cX8_failDoor 63 = .ok (.iload_n 1, 1) := by decide +kernel
theorem dX8_failDoor_64 : decode cX8_failDoor 64 = .ok (.aload_n 0, 1) := by decide +kernel
theorem dX8_failDoor_65 : decode cX8_failDoor 65 = .ok (.getfield 87, 3) := by decide +kernel
theorem dX8_failDoor_68 : decode cX8_failDoor 68 = .ok (.invokestatic 113, 3) := by decide +kernel
theorem dX8_failDoor_71 : decode cX8_failDoor 71 = .ok (.ireturn, 1) := by decide +kernel
set_option maxRecDepth 20000 in
theorem ggX8_failDetector_X8_isSegment : GoodIn wsX8_failDetector wsX8_isSegment := goodIn_r _ [5, 6, 7, 4, 8] (by decide +kernel) (by decide +kernel)
set_option maxRecDepth 20000 in
theorem gX8_failDetector_X8_isSegment : GoodIn wsX8_failDetector (va_wsS RX8 73 yX8_isSegment wsX8_isSegment) := goodIn_app (goodIn_of _ (by decide +kernel)) ggX8_failDetector_X8_isSegment
set_option maxRecDepth 20000 in
theorem ggX8_failDetector_X8_isBetween : GoodIn wsX8_failDetector wsX8_isBetween := goodIn_r _ [8] (by decide +kernel) (by decide +kernel)
set_option maxRecDepth 20000 in
theorem gX8_failDetector_X8_isBetween : GoodIn wsX8_failDetector (va_wsS RX8 69 yX8_isBetween wsX8_isBetween) := goodIn_app (goodIn_of _ (by decide +kernel)) ggX8_failDetector_X8_isBetween
set_option maxRecDepth 20000 in
theorem ggX8_failDetector_X8_goes : GoodIn wsX8_failDetector wsX8_goes := goodIn_r _ [12, 13, 14, 15, 16, 17, 18, 19, 20, 21, 22, 23, 24, 25, 26, 27, 28, 29, 30, 31, 32, 33, 34, 35, 36, 37, 38, 39, 40, 41, 42, 43, 44, 45, 46, 47, 48, 49, 50] (by decide +kernel) (by decide +kernel)
set_option maxRecDepth 20000 in
theorem gX8_failDetector_X8_goes : GoodIn wsX8_failDetector (wsV RX8 80 RX8 yX8_goes wsX8_goes) := goodIn_app (goodIn_of _ (by decide +kernel)) ggX8_failDetector_X8_goes
theorem dX8_failDetector_0 : decode cX8_failDetector 0 = .ok (.aload_n 0, 1) := by decide +kernel
theorem dX8_failDetector_1 : decode cX8_failDetector 1 = .ok (.iload_n 1, 1) := by decide +kernel
theorem dX8_failDetector_2 : decode cX8_failDetector 2 = .ok (.invokestatic 73, 3) := by decide +kernel
theorem dX8_failDetector_5 : decode cX8_failDetector 5 = .ok (.ifCond .eq 16, 3) := by decide +kernel
theorem dX8_failDetector_8 : decode cX8_failDetector 8 = .ok (.iload_n 2, 1) := by decide +kernel
theorem dX8_failDetector_9 : decode cX8_failDetector 9 = .ok (.iconst 0, 1) := by decide +kernel
theorem dX8_failDetector_10 : decode cX8_failDetector 10 = .ok (.iconst 2, 1) := by decide +kernel
theorem dX8_failDetector_11 : decode cX8_failDetector 11 = .ok (.invokestatic 69, 3) := by decide +kernel
theorem dX8_failDetector_14 : decode cX8_failDetector 14 = .ok (.ifCond .eq 7, 3) := by decide +kernel
theorem dX8_failDetector_17 : decode cX8_failDetector 17 = .ok (.iconst 1, 1) := by decide +kernel
theorem dX8_failDetector_18 : decode cX8_failDetector 18 = .ok (.goto 4, 3) := by decide +kernel
theorem dX8_failDetector_21 : decode cX8_failDetector 21 = .ok (.iconst 0, 1) := by decide +kernel
theorem dX8_failDetector_22 : decode cX8_failDetector 22 = .ok (.iconst 1, 1) := by decide +kernel
theorem dX8_failDetector_23 : decode cX8_failDetector 23 = .ok (.iconst 1, 1) := by decide +kernel
theorem dX8_failDetector_24 : decode cX8_failDetector 24 = .ok (.invokevirtual 80, 3) := by decide +kernel
theorem dX8_failDetector_27 : decode cX8_failDetector 27 = .ok (.ifCond .ne 4, 3) := by decide +kernel
theorem dX8_failDetector_30 : decode cX8_failDetector 30 = .ok (.return_, 1) := by decide +kernel
theorem dX8_failDetector_31 : decode cX8_failDetector 31 = .ok (.aload_n 0, 1) := by decide +kernel
theorem dX8_failDetector_32 : decode cX8_failDetector 32 = .ok (.getfield 39, 3) := by decide +kernel
theorem dX8_failDetector_35 : decode cX8_failDetector 35 = .ok (.iconst 3, 1) := by decide +kernel
theorem dX8_failDetector_36 : decode cX8_failDetector 36 = .ok (.iload_n 1, 1) := by decide +kernel
theorem dX8_failDetector_37 : decode cX8_failDetector 37 = .ok (.imul, 1) := by decide +kernel
theorem dX8_failDetector_38 : decode cX8_failDetector 38 = .ok (.iload_n 2, 1) := by decide +kernel
theorem dX8_failDetector_39 : decode cX8_failDetector 39 = .ok (.iadd, 1) := by decide +kernel
theorem dX8_failDetector_40 : decode cX8_failDetector 40 = .ok (.iload_n 3, 1) := by decide +kernel
theorem dX8_failDetector_41 : decode cX8_failDetector 41 = .ok (.bastore, 1) := by decide +kernel
theorem dX8_failDetector_42 : decode cX8_failDetector 42 = .ok (.return_, 1) := by decide +kernel
set_option maxRecDepth 20000 in
theorem ggX8_act_X8_isBetween : GoodIn wsX8_act wsX8_isBetween := goodIn_r _ [9] (by decide +kernel) (by decide +kernel)
set_option maxRecDepth 20000 in
theorem gX8_act_X8_isBetween : GoodIn wsX8_act (va_wsS RX8 69 yX8_isBetween wsX8_isBetween) := goodIn_app (goodIn_of _ (by decide +kernel)) ggX8_act_X8_isBetween
set_option maxRecDepth 20000 in
theorem ggX8_act_X8_goes : GoodIn wsX8_act wsX8_goes := goodIn_r _ [13, 14, 15, 16, 17, 18, 19, 20, 21, 22, 23, 24, 25, 26, 27, 28, 29, 30, 31, 32, 33, 34, 35, 36, 37, 38, 39, 40, 41, 42, 43, 44, 45, 46, 47, 48, 49, 50, 51] (by decide +kernel) (by decide +kernel)
set_option maxRecDepth 20000 in
theorem gX8_act_X8_goes : GoodIn wsX8_act (wsV RX8 80 RX8 yX8_goes wsX8_goes) := goodIn_app (goodIn_of _ (by decide +kernel)) ggX8_act_X8_goes
theorem dX8_act_0 : decode cX8_act 0 = .ok (.aload_n 0, 1) := by decide +kernel
theorem dX8_act_1 : decode cX8_act 1 = .ok (.iload_n 1, 1) := by decide +kernel
theorem dX8_act_2 : decode cX8_act 2 = .ok (.iconst 0, 1) := by decide +kernel
theorem dX8_act_3 : decode cX8_act 3 = .ok (.bipush 7, 2) := by decide +kernel
theorem dX8_act_5 : decode cX8_act 5 = .ok (.invokestatic 69, 3) := by decide +kernel
theorem dX8_act_8 : decode cX8_act 8 = .ok (.ifCond .eq 17, 3) := by decide +kernel
theorem dX8_act_11 : decode cX8_act 11 = .ok (.iload_n 2, 1) := by decide +kernel
theorem dX8_act_12 : decode cX8_act 12 = .ok (.iconst 0, 1) := by decide +kernel
theorem dX8_act_13 : decode cX8_act 13 = .ok (.bipush 20, 2) := by decide +kernel
theorem dX8_act_15 : decode cX8_act 15 = .ok (.invokestatic 69, 3) := by decide +kernel
theorem dX8_act_18 : decode cX8_act 18 = .ok (.ifCond .eq 7, 3) := by decide +kernel
theorem dX8_act_21 : decode cX8_act 21 = .ok (.iconst 1, 1) := by decide +kernel
theorem dX8_act_22 : decode cX8_act 22 = .ok (.goto 4, 3) := by decide +kernel
theorem dX8_act_25 : decode cX8_act 25 = .ok (.iconst 0, 1) := by decide +kernel
theorem dX8_act_26 : decode cX8_act 26 = .ok (.aload_n 0, 1) := by decide +kernel
theorem dX8_act_27 : decode cX8_act 27 = .ok (.getfield 117, 3) := by decide +kernel
theorem dX8_act_30 : decode cX8_act 30 = .ok (.bipush 10, 2) := by decide +kernel
theorem dX8_act_32 : decode cX8_act 32 = .ok (.if_icmp .ge 15, 3) := by decide +kernel
theorem dX8_act_35 : decode cX8_act 35 = .ok (.aload_n 0, 1) := by decide +kernel
theorem dX8_act_36 : decode cX8_act 36 = .ok (.getfield 42, 3) := by decide +kernel
theorem dX8_act_39 : decode cX8_act 39 = .ok (.iconst (-1), 1) := by decide +kernel
theorem dX8_act_40 : decode cX8_act 40 = .ok (.if_icmp .ne 7, 3) := by decide +kernel
theorem dX8_act_43 : decode cX8_act 43 = .ok (.iconst 1, 1) := by decide +kernel
theorem dX8_act_44 : decode cX8_act 44 = .ok (.goto 4, 3) := by decide +kernel
theorem dX8_act_47 : decode cX8_act 47 = .ok (.iconst 0, 1) := by decide +kernel
theorem dX8_act_48 : decode cX8_act 48 = .ok (.iconst 1, 1) := by decide +kernel
theorem dX8_act_49 : decode cX8_act 49 = .ok (.invokevirtual 80, 3) := by decide +kernel
theorem dX8_act_52 : decode cX8_act 52 = .ok (.ifCond .ne 5, 3) := by decide +kernel
theorem dX8_act_55 : decode cX8_act 55 = .ok (.iconst 0, 1) := by decide +kernel
theorem dX8_act_56 : decode cX8_act 56 = .ok (.ireturn, 1) := by decide +kernel
theorem dX8_act_57 : decode cX8_act 57 = .ok (.aload_n 0, 1) := by decide +kernel
theorem dX8_act_58 : decode cX8_act 58 = .ok (.getfield 45, 3) := by decide +kernel
theorem dX8_act_61 : decode cX8_act 61 = .ok (.aload_n 0, 1) := by decide +kernel
theorem dX8_act_62 : decode cX8_act 62 = .ok (.getfield 117, 3) := by decide +kernel
theorem dX8_act_65 : decode cX8_act 65 = .ok (.iload_n 1, 1) := by decide +kernel
theorem dX8_act_66 : decode cX8_act 66 = .ok (.iastore, 1) := by decide +kernel
theorem dX8_act_67 : decode cX8_act 67 = .ok (.aload_n 0, 1) := by decide +kernel
theorem dX8_act_68 : decode cX8_act 68 = .ok (.getfield 48, 3) := by decide +kernel
theorem dX8_act_71 : decode cX8_act 71 = .ok (.aload_n 0, 1) := by decide +kernel
theorem dX8_act_72 : decode cX8_act 72 = .ok (.getfield 117, 3) := by decide +kernel
theorem dX8_act_75 : decode cX8_act 75 = .ok (.iload_n 3, 1) := by decide +kernel
theorem dX8_act_76 : decode cX8_act 76 = .ok (.ifCond .eq 11, 3) := by decide +kernel
theorem dX8_act_79 : decode cX8_act 79 = .ok (.iconst 2, 1) := by decide +kernel
theorem dX8_act_80 : decode cX8_act 80 = .ok (.iload_n 2, 1) := by decide +kernel
theorem dX8_act_81 : decode cX8_act 81 = .ok (.imul, 1) := by decide +kernel
theorem dX8_act_82 : decode cX8_act 82 = .ok (.iconst 3, 1) := by decide +kernel
theorem dX8_act_83 : decode cX8_act 83 = .ok (.iadd, 1) := by decide +kernel
theorem dX8_act_84 : decode cX8_act 84 = .ok (.goto 4, 3) := by decide +kernel
theorem dX8_act_87 : decode cX8_act 87 = .ok (.iload_n 2, 1) := by decide +kernel
theorem dX8_act_88 : decode cX8_act 88 = .ok (.iastore, 1) := by decide +kernel
theorem dX8_act_89 : decode cX8_act 89 = .ok (.aload_n 0, 1) := by decide +kernel
theorem dX8_act_90 : decode cX8_act 90 = .ok (.getfield 51, 3) := by decide +kernel
theorem dX8_act_93 : decode cX8_act 93 = .ok (.aload_n 0, 1) := by decide +kernel
theorem dX8_act_94 : decode cX8_act 94 = .ok (.getfield 117, 3) := by decide +kernel
theorem dX8_act_97 : decode cX8_act 97 = .ok (.iconst (-1), 1) := by decide +kernel
theorem dX8_act_98 : decode cX8_act 98 = .ok (.iastore, 1) := by decide +kernel
theorem dX8_act_99 : decode cX8_act 99 = .ok (.aload_n 0, 1) := by decide +kernel
theorem dX8_act_100 : decode cX8_act 100 = .ok (.dup, 1) := by decide +kernel
theorem dX8_act_101 : decode cX8_act 101 = .ok (.getfield 117, 3) := by decide +kernel
theorem dX8_act_104 : decode cX8_act 104 = .ok (.iconst 1, 1) := by decide +kernel
theorem dX8_act_105 : decode cX8_act 105 = .ok (.iadd, 1) := by decide +kernel
theorem dX8_act_106 : decode cX8_act 106 = .ok (.putfield 117, 3) := by decide +kernel
theorem dX8_act_109 : decode cX8_act 109 = .ok (.aload_n 0, 1) := by decide +kernel
theorem dX8_act_110 : decode cX8_act 110 = .ok (.getfield 117, 3) := by decide +kernel
theorem dX8_act_113 : decode cX8_act 113 = .ok (.iconst 1, 1) := by decide +kernel
theorem dX8_act_114 : decode cX8_act 114 = .ok (.isub, 1) := by decide +kernel
theorem dX8_act_115 : decode cX8_act 115 = .ok (.ireturn, 1) := by decide +kernel
set_option maxRecDepth 20000 in
theorem ggX8_command_X8_isFan : GoodIn wsX8_command wsX8_isFan := goodIn_r _ [5, 6, 7, 4, 8] (by decide +kernel) (by decide +kernel)
set_option maxRecDepth 20000 in
theorem gX8_command_X8_isFan : GoodIn wsX8_command (va_wsS RX8 110 yX8_isFan wsX8_isFan) := goodIn_app (goodIn_of _ (by decide +kernel)) ggX8_command_X8_isFan
set_option maxRecDepth 20000 in
theorem ggX8_command_X8_isBetween : GoodIn wsX8_command wsX8_isBetween := goodIn_r _ [8] (by decide +kernel) (by decide +kernel)
set_option maxRecDepth 20000 in
theorem gX8_command_X8_isBetween : GoodIn wsX8_command (va_wsS RX8 69 yX8_isBetween wsX8_isBetween) := goodIn_app (goodIn_of _ (by decide +kernel)) ggX8_command_X8_isBetween
set_option maxRecDepth 20000 in
theorem ggX8_command_X8_goes : GoodIn wsX8_command wsX8_goes := goodIn_r _ [12, 13, 14, 15, 16, 17, 18, 19, 20, 21, 22, 23, 24, 25, 26, 27, 28, 29, 30, 31, 32, 33, 34, 35, 36, 37, 38, 39, 40, 41, 42, 43, 44, 45, 46, 47, 48, 49, 50] (by decide +kernel) (by decide +kernel)
set_option maxRecDepth 20000 in
theorem gX8_command_X8_goes : GoodIn wsX8_command (wsV RX8 80 RX8 yX8_goes wsX8_goes) := goodIn_app (goodIn_of _ (by decide +kernel)) ggX8_command_X8_goes
theorem dX8_command_0 : decode cX8_command 0 = .ok (.aload_n 0, 1) := by decide +kernel
theorem dX8_command_1 : decode cX8_command 1 = .ok (.iload_n 1, 1) := by decide +kernel
theorem dX8_command_2 : decode cX8_command 2 = .ok (.invokestatic 110, 3) := by decide +kernel
theorem dX8_command_5 : decode cX8_command 5 = .ok (.iload_n 2, 1) := by decide +kernel
theorem dX8_command_6 : decode cX8_command 6 = .ok (.iconst (-1), 1) := by decide +kernel
theorem dX8_command_7 : decode cX8_command 7 = .ok (.iconst 1, 1) := by decide +kernel
theorem dX8_command_8 : decode cX8_command 8 = .ok (.invokestatic 69, 3) := by decide +kernel
theorem dX8_command_11 : decode cX8_command 11 = .ok (.iconst 1, 1) := by decide +kernel
theorem dX8_command_12 : decode cX8_command 12 = .ok (.invokevirtual 80, 3) := by decide +kernel
theorem dX8_command_15 : decode cX8_command 15 = .ok (.ifCond .ne 5, 3) := by decide +kernel
theorem dX8_command_18 : decode cX8_command 18 = .ok (.iconst 0, 1) := by decide +kernel
theorem dX8_command_19 : decode cX8_command 19 = .ok (.ireturn, 1) := by decide +kernel
theorem dX8_command_20 : decode cX8_command 20 = .ok (.aload_n 0, 1) := by decide +kernel
theorem dX8_command_21 : decode cX8_command 21 = .ok (.getfield 16, 3) := by decide +kernel
theorem dX8_command_24 : decode cX8_command 24 = .ok (.iload_n 1, 1) := by decide +kernel
theorem dX8_command_25 : decode cX8_command 25 = .ok (.iaload, 1) := by decide +kernel
