set_option maxRecDepth 20000 in
theorem ggL_open_X10_open : GoodIn wsL_open wsX10_open := goodIn_ca (goodIn_ca (goodIn_r _ [7, 8, 9, 10, 11, 12, 13, 14, 15, 16, 17, 18, 19, 6, 20, 21, 22, 23, 24, 25, 26, 27, 28, 29, 30, 31, 32, 33, 34, 35, 36, 37, 38, 39, 40, 41, 42, 43, 44, 45, 46, 47, 48, 49, 50, 51, 52, 53, 54, 55, 56, 57, 58, 59, 60, 61, 62, 63, 64, 65, 66, 67, 68, 69, 70, 71, 72, 73, 74, 75, 76] (by decide +kernel) (by decide +kernel)) (goodIn_sub (fun _ h => List.mem_cons_of_mem _ (List.mem_append_left _ (List.mem_append_right _ h))) (by decide +kernel))) (goodIn_sub (fun _ h => List.mem_cons_of_mem _ (List.mem_append_right _ h)) (by decide +kernel))
set_option maxRecDepth 20000 in
theorem gL_open_X10_open : GoodIn wsL_open (wsV RL 7 RX10 yX10_open wsX10_open) := goodIn_app (goodIn_of _ (by decide +kernel)) ggL_open_X10_open
theorem dL_open_0 : decode cL_open 0 = .ok (.aload_n 3, 1) := by decide +kernel
theorem dL_open_1 : decode cL_open 1 = .ok (.iconst 0, 1) := by decide +kernel
theorem dL_open_2 : decode cL_open 2 = .ok (.aload_n 0, 1) := by decide +kernel
theorem dL_open_3 : decode cL_open 3 = .ok (.iload_n 1, 1) := by decide +kernel
theorem dL_open_4 : decode cL_open 4 = .ok (.iload_n 2, 1) := by decide +kernel
theorem dL_open_5 : decode cL_open 5 = .ok (.invokevirtual 7, 3) := by decide +kernel
theorem dL_open_8 : decode cL_open 8 = .ok (.i2l, 1) := by decide +kernel
theorem dL_open_9 : decode cL_open 9 = .ok (.lastore, 1) := by decide +kernel
theorem dL_open_10 : decode cL_open 10 = .ok (.goto 11, 3) := by decide +kernel
theorem dL_open_13 : decode cL_open 13 = .ok (.astore 4, 2) := by decide +kernel
theorem dL_open_15 : decode cL_open 15 = .ok (.iconst 1, 1) := by decide +kernel
theorem dL_open_16 : decode cL_open 16 = .ok (.ireturn, 1) := by decide +kernel
theorem dL_open_17 : decode cL_open 17 = .ok (.astore 4, 2) := by decide +kernel
theorem dL_open_19 : decode cL_open 19 = .ok (.iconst 2, 1) := by decide +kernel
theorem dL_open_20 : decode cL_open 20 = .ok (.ireturn, 1) := by decide +kernel
theorem dL_open_21 : decode cL_open 21 = .ok (.iconst 0, 1) := by decide +kernel
theorem dL_open_22 : decode cL_open 22 = .ok (.ireturn, 1) := by decide +kernel
set_option maxRecDepth 20000 in
theorem ggL_write_X10_write : GoodIn wsL_write wsX10_write := goodIn_ca (goodIn_ca (goodIn_r _ [7, 8, 9, 10, 11, 12, 13, 14, 15, 16, 6, 17, 18, 19, 20, 21, 22, 23, 24, 25, 26, 27, 28, 29, 30, 31, 32, 33, 34, 35, 36, 37, 38, 39, 40, 41, 42, 43, 44, 45, 46, 47, 48, 49, 50, 51, 52, 53, 54, 55, 56, 57, 58, 59, 60, 61, 62, 63, 64, 65, 66, 67, 68, 69, 70, 71] (by decide +kernel) (by decide +kernel)) (goodIn_sub (fun _ h => List.mem_cons_of_mem _ (List.mem_append_left _ (List.mem_append_right _ h))) (by decide +kernel))) (goodIn_sub (fun _ h => List.mem_cons_of_mem _ (List.mem_append_right _ h)) (by decide +kernel))
set_option maxRecDepth 20000 in
theorem gL_write_X10_write : GoodIn wsL_write (wsV RL 17 RX10 yX10_write wsX10_write) := goodIn_app (goodIn_of _ (by decide +kernel)) ggL_write_X10_write
theorem dL_write_0 : decode cL_write 0 = .ok (.aload_n 3, 1) := by decide +kernel
theorem dL_write_1 : decode cL_write 1 = .ok (.iconst 0, 1) := by decide +kernel
theorem dL_write_2 : decode cL_write 2 = .ok (.aload_n 0, 1) := by decide +kernel
theorem dL_write_3 : decode cL_write 3 = .ok (.iload_n 1, 1) := by decide +kernel
theorem dL_write_4 : decode cL_write 4 = .ok (.iload_n 2, 1) := by decide +kernel
theorem dL_write_5 : decode cL_write 5 = .ok (.invokevirtual 17, 3) := by decide +kernel
theorem dL_write_8 : decode cL_write 8 = .ok (.i2l, 1) := by decide +kernel
theorem dL_write_9 : decode cL_write 9 = .ok (.lastore, 1) := by decide +kernel
theorem dL_write_10 : decode cL_write 10 = .ok (.goto 11, 3) := by decide +kernel
theorem dL_write_13 : decode cL_write 13 = .ok (.astore 4, 2) := by decide +kernel
theorem dL_write_15 : decode cL_write 15 = .ok (.iconst 1, 1) := by decide +kernel
theorem dL_write_16 : decode cL_write 16 = .ok (.ireturn, 1) := by decide +kernel
theorem dL_write_17 : decode cL_write 17 = .ok (.astore 4, 2) := by decide +kernel
theorem dL_write_19 : decode cL_write 19 = .ok (.iconst 2, 1) := by decide +kernel
theorem dL_write_20 : decode cL_write 20 = .ok (.ireturn, 1) := by decide +kernel
theorem dL_write_21 : decode cL_write 21 = .ok (.iconst 0, 1) := by decide +kernel
theorem dL_write_22 : decode cL_write 22 = .ok (.ireturn, 1) := by decide +kernel
set_option maxRecDepth 20000 in
theorem ggL_close_X10_close : GoodIn wsL_close wsX10_close := goodIn_ca (goodIn_r _ [6, 7, 8, 9, 10, 11, 12, 13, 14, 15, 16, 17, 18, 19, 20, 21, 22, 23, 24, 25, 26, 27, 28, 29, 30, 31, 32, 33, 34, 35, 36, 37, 38, 39, 40, 41, 42, 43, 44, 45, 46, 47, 48, 49, 50, 51, 52, 53, 54, 55, 56] (by decide +kernel) (by decide +kernel)) (goodIn_sub (fun _ h => List.mem_cons_of_mem _ (List.mem_append_right _ h)) (by decide +kernel))
set_option maxRecDepth 20000 in
theorem gL_close_X10_close : GoodIn wsL_close (wsV RL 20 RX10 yX10_close wsX10_close) := goodIn_app (goodIn_of _ (by decide +kernel)) ggL_close_X10_close
theorem dL_close_0 : decode cL_close 0 = .ok (.aload_n 1, 1) := by decide +kernel
theorem dL_close_1 : decode cL_close 1 = .ok (.iconst 0, 1) := by decide +kernel
theorem dL_close_2 : decode cL_close 2 = .ok (.aload_n 0, 1) := by decide +kernel
theorem dL_close_3 : decode cL_close 3 = .ok (.invokevirtual 20, 3) := by decide +kernel
theorem dL_close_6 : decode cL_close 6 = .ok (.i2l, 1) := by decide +kernel
theorem dL_close_7 : decode cL_close 7 = .ok (.lastore, 1) := by decide +kernel
theorem dL_close_8 : decode cL_close 8 = .ok (.goto 6, 3) := by decide +kernel
theorem dL_close_11 : decode cL_close 11 = .ok (.astore_n 2, 1) := by decide +kernel
theorem dL_close_12 : decode cL_close 12 = .ok (.iconst 1, 1) := by decide +kernel
theorem dL_close_13 : decode cL_close 13 = .ok (.ireturn, 1) := by decide +kernel
theorem dL_close_14 : decode cL_close 14 = .ok (.iconst 0, 1) := by decide +kernel
theorem dL_close_15 : decode cL_close 15 = .ok (.ireturn, 1) := by decide +kernel
set_option maxRecDepth 20000 in
theorem ggL_remove_X10_remove : GoodIn wsL_remove wsX10_remove := goodIn_ca (goodIn_r _ [6, 7, 8, 9, 10, 11, 12, 13, 14, 15, 16, 17, 18, 19, 20, 21, 22, 23, 24, 25, 26, 27, 28, 29, 30, 31, 32, 33, 34, 35, 36, 37, 38] (by decide +kernel) (by decide +kernel)) (goodIn_sub (fun _ h => List.mem_cons_of_mem _ (List.mem_append_right _ h)) (by decide +kernel))
set_option maxRecDepth 20000 in
theorem gL_remove_X10_remove : GoodIn wsL_remove (wsV RL 24 RX10 yX10_remove wsX10_remove) := goodIn_app (goodIn_of _ (by decide +kernel)) ggL_remove_X10_remove
theorem dL_remove_0 : decode cL_remove 0 = .ok (.aload_n 2, 1) := by decide +kernel
theorem dL_remove_1 : decode cL_remove 1 = .ok (.iconst 0, 1) := by decide +kernel
theorem dL_remove_2 : decode cL_remove 2 = .ok (.aload_n 0, 1) := by decide +kernel
theorem dL_remove_3 : decode cL_remove 3 = .ok (.iload_n 1, 1) := by decide +kernel
theorem dL_remove_4 : decode cL_remove 4 = .ok (.invokevirtual 24, 3) := by decide +kernel
theorem dL_remove_7 : decode cL_remove 7 = .ok (.ifCond .eq 7, 3) := by decide +kernel
theorem dL_remove_10 : decode cL_remove 10 = .ok (.lconst 1, 1) := by decide +kernel
theorem dL_remove_11 : decode cL_remove 11 = .ok (.goto 4, 3) := by decide +kernel
theorem dL_remove_14 : decode cL_remove 14 = .ok (.lconst 0, 1) := by decide +kernel
theorem dL_remove_15 : decode cL_remove 15 = .ok (.lastore, 1) := by decide +kernel
theorem dL_remove_16 : decode cL_remove 16 = .ok (.goto 6, 3) := by decide +kernel
theorem dL_remove_19 : decode cL_remove 19 = .ok (.astore_n 3, 1) := by decide +kernel
theorem dL_remove_20 : decode cL_remove 20 = .ok (.iconst 1, 1) := by decide +kernel
theorem dL_remove_21 : decode cL_remove 21 = .ok (.ireturn, 1) := by decide +kernel
theorem dL_remove_22 : decode cL_remove 22 = .ok (.iconst 0, 1) := by decide +kernel
theorem dL_remove_23 : decode cL_remove 23 = .ok (.ireturn, 1) := by decide +kernel
set_option maxRecDepth 20000 in
theorem ggL_setMute_X10_setMute : GoodIn wsL_setMute wsX10_setMute := goodIn_ca (goodIn_r _ [6, 7, 8, 9, 10, 11, 5, 12, 13, 14, 15, 16, 17, 18, 19, 20, 21, 22, 23, 24, 25, 26, 27, 28, 29, 30, 31, 32, 33, 34, 35] (by decide +kernel) (by decide +kernel)) (goodIn_sub (fun _ h => List.mem_cons_of_mem _ (List.mem_append_right _ h)) (by decide +kernel))
set_option maxRecDepth 20000 in
theorem gL_setMute_X10_setMute : GoodIn wsL_setMute (wsV RL 30 RX10 yX10_setMute wsX10_setMute) := goodIn_app (goodIn_of _ (by decide +kernel)) ggL_setMute_X10_setMute
theorem dL_setMute_0 : decode cL_setMute 0 = .ok (.aload_n 3, 1) := by decide +kernel
theorem dL_setMute_1 : decode cL_setMute 1 = .ok (.iconst 0, 1) := by decide +kernel
theorem dL_setMute_2 : decode cL_setMute 2 = .ok (.aload_n 0, 1) := by decide +kernel
theorem dL_setMute_3 : decode cL_setMute 3 = .ok (.iload_n 1, 1) := by decide +kernel
theorem dL_setMute_4 : decode cL_setMute 4 = .ok (.iload_n 2, 1) := by decide +kernel
theorem dL_setMute_5 : decode cL_setMute 5 = .ok (.invokevirtual 30, 3) := by decide +kernel
theorem dL_setMute_8 : decode cL_setMute 8 = .ok (.ifCond .eq 7, 3) := by decide +kernel
theorem dL_setMute_11 : decode cL_setMute 11 = .ok (.lconst 1, 1) := by decide +kernel
theorem dL_setMute_12 : decode cL_setMute 12 = .ok (.goto 4, 3) := by decide +kernel
theorem dL_setMute_15 : decode cL_setMute 15 = .ok (.lconst 0, 1) := by decide +kernel
theorem dL_setMute_16 : decode cL_setMute 16 = .ok (.lastore, 1) := by decide +kernel
theorem dL_setMute_17 : decode cL_setMute 17 = .ok (.goto 7, 3) := by decide +kernel
theorem dL_setMute_20 : decode cL_setMute 20 = .ok (.astore 4, 2) := by decide +kernel
theorem dL_setMute_22 : decode cL_setMute 22 = .ok (.iconst 1, 1) := by decide +kernel
theorem dL_setMute_23 : decode cL_setMute 23 = .ok (.ireturn, 1) := by decide +kernel
theorem dL_setMute_24 : decode cL_setMute 24 = .ok (.iconst 0, 1) := by decide +kernel
theorem dL_setMute_25 : decode cL_setMute 25 = .ok (.ireturn, 1) := by decide +kernel
set_option maxRecDepth 20000 in
theorem ggL_setAlias_X10_setAlias : GoodIn wsL_setAlias wsX10_setAlias := goodIn_ca (goodIn_r _ [6, 7, 8, 9, 10, 11, 5, 12, 13, 14, 15, 16, 17, 18, 19, 20, 21, 22, 23, 24, 25, 26, 27, 28, 29, 30, 31, 32, 33, 34, 35] (by decide +kernel) (by decide +kernel)) (goodIn_sub (fun _ h => List.mem_cons_of_mem _ (List.mem_append_right _ h)) (by decide +kernel))
set_option maxRecDepth 20000 in
theorem gL_setAlias_X10_setAlias : GoodIn wsL_setAlias (wsV RL 34 RX10 yX10_setAlias wsX10_setAlias) := goodIn_app (goodIn_of _ (by decide +kernel)) ggL_setAlias_X10_setAlias
theorem dL_setAlias_0 : decode cL_setAlias 0 = .ok (.aload_n 3, 1) := by decide +kernel
theorem dL_setAlias_1 : decode cL_setAlias 1 = .ok (.iconst 0, 1) := by decide +kernel
theorem dL_setAlias_2 : decode cL_setAlias 2 = .ok (.aload_n 0, 1) := by decide +kernel
theorem dL_setAlias_3 : decode cL_setAlias 3 = .ok (.iload_n 1, 1) := by decide +kernel
theorem dL_setAlias_4 : decode cL_setAlias 4 = .ok (.iload_n 2, 1) := by decide +kernel
theorem dL_setAlias_5 : decode cL_setAlias 5 = .ok (.invokevirtual 34, 3) := by decide +kernel
theorem dL_setAlias_8 : decode cL_setAlias 8 = .ok (.i2l, 1) := by decide +kernel
theorem dL_setAlias_9 : decode cL_setAlias 9 = .ok (.lastore, 1) := by decide +kernel
theorem dL_setAlias_10 : decode cL_setAlias 10 = .ok (.goto 7, 3) := by decide +kernel
theorem dL_setAlias_13 : decode cL_setAlias 13 = .ok (.astore 4, 2) := by decide +kernel
theorem dL_setAlias_15 : decode cL_setAlias 15 = .ok (.iconst 1, 1) := by decide +kernel
theorem dL_setAlias_16 : decode cL_setAlias 16 = .ok (.ireturn, 1) := by decide +kernel
theorem dL_setAlias_17 : decode cL_setAlias 17 = .ok (.iconst 0, 1) := by decide +kernel
theorem dL_setAlias_18 : decode cL_setAlias 18 = .ok (.ireturn, 1) := by decide +kernel
set_option maxRecDepth 20000 in
theorem ggL_setWeight_X10_setWeight : GoodIn wsL_setWeight wsX10_setWeight := goodIn_ca (goodIn_r _ [6, 7, 8, 9, 10, 11, 5, 12, 13, 14, 15, 16, 17, 18, 19, 20, 21, 22, 23, 24, 25, 26, 27, 28, 29, 30, 31, 32, 33, 34, 35] (by decide +kernel) (by decide +kernel)) (goodIn_sub (fun _ h => List.mem_cons_of_mem _ (List.mem_append_right _ h)) (by decide +kernel))
set_option maxRecDepth 20000 in
theorem gL_setWeight_X10_setWeight : GoodIn wsL_setWeight (wsV RL 37 RX10 yX10_setWeight wsX10_setWeight) := goodIn_app (goodIn_of _ (by decide +kernel)) ggL_setWeight_X10_setWeight
theorem dL_setWeight_0 : decode cL_setWeight 0 = .ok (.aload_n 3, 1) := by decide +kernel
theorem dL_setWeight_1 : decode cL_setWeight 1 = .ok (.iconst 0, 1) := by decide +kernel
theorem dL_setWeight_2 : decode cL_setWeight 2 = .ok (.aload_n 0, 1) := by decide +kernel
theorem dL_setWeight_3 : decode cL_setWeight 3 = .ok (.iload_n 1, 1) := by decide +kernel
theorem dL_setWeight_4 : decode cL_setWeight 4 = .ok (.iload_n 2, 1) := by decide +kernel
theorem dL_setWeight_5 : decode cL_setWeight 5 = .ok (.invokevirtual 37, 3) := by decide +kernel
theorem dL_setWeight_8 : decode cL_setWeight 8 = .ok (.i2l, 1) := by decide +kernel
theorem dL_setWeight_9 : decode cL_setWeight 9 = .ok (.lastore, 1) := by decide +kernel
theorem dL_setWeight_10 : decode cL_setWeight 10 = .ok (.goto 7, 3) := by decide +kernel
theorem dL_setWeight_13 : decode cL_setWeight 13 = .ok (.astore 4, 2) := by decide +kernel
theorem dL_setWeight_15 : decode cL_setWeight 15 = .ok (.iconst 1, 1) := by decide +kernel
theorem dL_setWeight_16 : decode cL_setWeight 16 = .ok (.ireturn, 1) := by decide +kernel
theorem dL_setWeight_17 : decode cL_setWeight 17 = .ok (.iconst 0, 1) := by decide +kernel
theorem dL_setWeight_18 : decode cL_setWeight 18 = .ok (.ireturn, 1) := by decide +kernel
set_option maxRecDepth 20000 in
theorem ggL_stateOf_X10_stateOf : GoodIn wsL_stateOf wsX10_stateOf := goodIn_ca (goodIn_r _ [6, 7, 8, 9, 10, 11, 12, 13, 14, 15, 16, 17, 18, 19, 20, 21, 22, 23, 24, 25, 26, 27, 28, 29, 30, 31, 32, 33, 34, 35, 36, 37, 38, 39, 40, 41, 42, 43, 44, 45, 46, 47, 48] (by decide +kernel) (by decide +kernel)) (goodIn_sub (fun _ h => List.mem_cons_of_mem _ (List.mem_append_right _ h)) (by decide +kernel))
set_option maxRecDepth 20000 in
theorem gL_stateOf_X10_stateOf : GoodIn wsL_stateOf (wsV RL 40 RX10 yX10_stateOf wsX10_stateOf) := goodIn_app (goodIn_of _ (by decide +kernel)) ggL_stateOf_X10_stateOf
theorem dL_stateOf_0 : decode cL_stateOf 0 = .ok (.aload_n 2, 1) := by decide +kernel
theorem dL_stateOf_1 : decode cL_stateOf 1 = .ok (.iconst 0, 1) := by decide +kernel
theorem dL_stateOf_2 : decode cL_stateOf 2 = .ok (.aload_n 0, 1) := by decide +kernel
theorem dL_stateOf_3 : decode cL_stateOf 3 = .ok (.iload_n 1, 1) := by decide +kernel
theorem dL_stateOf_4 : decode cL_stateOf 4 = .ok (.invokevirtual 40, 3) := by decide +kernel
theorem dL_stateOf_7 : decode cL_stateOf 7 = .ok (.i2l, 1) := by decide +kernel
theorem dL_stateOf_8 : decode cL_stateOf 8 = .ok (.lastore, 1) := by decide +kernel
theorem dL_stateOf_9 : decode cL_stateOf 9 = .ok (.goto 6, 3) := by decide +kernel
theorem dL_stateOf_12 : decode cL_stateOf 12 = .ok (.astore_n 3, 1) := by decide +kernel
theorem dL_stateOf_13 : decode cL_stateOf 13 = .ok (.iconst 1, 1) := by decide +kernel
theorem dL_stateOf_14 : decode cL_stateOf 14 = .ok (.ireturn, 1) := by decide +kernel
theorem dL_stateOf_15 : decode cL_stateOf 15 = .ok (.iconst 0, 1) := by decide +kernel
theorem dL_stateOf_16 : decode cL_stateOf 16 = .ok (.ireturn, 1) := by decide +kernel
set_option maxRecDepth 20000 in
theorem ggL_termAt_X10_termAt : GoodIn wsL_termAt wsX10_termAt := goodIn_ca (goodIn_r _ [6, 7, 8, 9, 10, 11, 12, 13, 14, 15, 16, 17, 18, 19, 20, 21, 22, 23, 24, 25, 26, 27, 28, 29, 30, 31, 32, 33, 34, 35, 36, 37, 38, 39, 40, 41, 42, 43, 44, 45, 46, 47, 48, 49, 50, 51, 52, 53, 54, 55, 56] (by decide +kernel) (by decide +kernel)) (goodIn_sub (fun _ h => List.mem_cons_of_mem _ (List.mem_append_right _ h)) (by decide +kernel))
set_option maxRecDepth 20000 in
theorem gL_termAt_X10_termAt : GoodIn wsL_termAt (wsV RL 44 RX10 yX10_termAt wsX10_termAt) := goodIn_app (goodIn_of _ (by decide +kernel)) ggL_termAt_X10_termAt
theorem dL_termAt_0 : decode cL_termAt 0 = .ok (.aload 4, 2) := by decide +kernel
theorem dL_termAt_2 : decode cL_termAt 2 = .ok (.iconst 0, 1) := by decide +kernel
theorem dL_termAt_3 : decode cL_termAt 3 = .ok (.aload_n 0, 1) := by decide +kernel
theorem dL_termAt_4 : decode cL_termAt 4 = .ok (.iload_n 1, 1) := by decide +kernel
theorem dL_termAt_5 : decode cL_termAt 5 = .ok (.iload_n 2, 1) := by decide +kernel
theorem dL_termAt_6 : decode cL_termAt 6 = .ok (.iload_n 3, 1) := by decide +kernel
theorem dL_termAt_7 : decode cL_termAt 7 = .ok (.invokevirtual 44, 3) := by decide +kernel
theorem dL_termAt_10 : decode cL_termAt 10 = .ok (.i2l, 1) := by decide +kernel
theorem dL_termAt_11 : decode cL_termAt 11 = .ok (.lastore, 1) := by decide +kernel
theorem dL_termAt_12 : decode cL_termAt 12 = .ok (.goto 7, 3) := by decide +kernel
theorem dL_termAt_15 : decode cL_termAt 15 = .ok (.astore 5, 2) := by decide +kernel
theorem dL_termAt_17 : decode cL_termAt 17 = .ok (.iconst 1, 1) := by decide +kernel
theorem dL_termAt_18 : decode cL_termAt 18 = .ok (.ireturn, 1) := by decide +kernel
theorem dL_termAt_19 : decode cL_termAt 19 = .ok (.iconst 0, 1) := by decide +kernel
theorem dL_termAt_20 : decode cL_termAt 20 = .ok (.ireturn, 1) := by decide +kernel
set_option maxRecDepth 20000 in
theorem ggL_tierOf_X10_tierOf : GoodIn wsL_tierOf wsX10_tierOf := goodIn_ca (goodIn_r _ [6, 7, 8, 9, 10, 11, 12, 13, 14, 15, 16, 17, 18, 19, 20, 21, 22, 23, 24, 25, 26, 27, 28, 29, 30, 31, 32, 33, 34, 35, 36, 37] (by decide +kernel) (by decide +kernel)) (goodIn_sub (fun _ h => List.mem_cons_of_mem _ (List.mem_append_right _ h)) (by decide +kernel))
set_option maxRecDepth 20000 in
theorem gL_tierOf_X10_tierOf : GoodIn wsL_tierOf (wsV RL 48 RX10 yX10_tierOf wsX10_tierOf) := goodIn_app (goodIn_of _ (by decide +kernel)) ggL_tierOf_X10_tierOf
theorem dL_tierOf_0 : decode cL_tierOf 0 = .ok (.aload_n 2, 1) := by decide +kernel
theorem dL_tierOf_1 : decode cL_tierOf 1 = .ok (.iconst 0, 1) := by decide +kernel
theorem dL_tierOf_2 : decode cL_tierOf 2 = .ok (.aload_n 0, 1) := by decide +kernel
theorem dL_tierOf_3 : decode cL_tierOf 3 = .ok (.iload_n 1, 1) := by decide +kernel
theorem dL_tierOf_4 : decode cL_tierOf 4 = .ok (.invokevirtual 48, 3) := by decide +kernel
theorem dL_tierOf_7 : decode cL_tierOf 7 = .ok (.i2l, 1) := by decide +kernel
theorem dL_tierOf_8 : decode cL_tierOf 8 = .ok (.lastore, 1) := by decide +kernel
theorem dL_tierOf_9 : decode cL_tierOf 9 = .ok (.goto 6, 3) := by decide +kernel
theorem dL_tierOf_12 : decode cL_tierOf 12 = .ok (.astore_n 3, 1) := by decide +kernel
theorem dL_tierOf_13 : decode cL_tierOf 13 = .ok (.iconst 1, 1) := by decide +kernel
theorem dL_tierOf_14 : decode cL_tierOf 14 = .ok (.ireturn, 1) := by decide +kernel
theorem dL_tierOf_15 : decode cL_tierOf 15 = .ok (.iconst 0, 1) := by decide +kernel
theorem dL_tierOf_16 : decode cL_tierOf 16 = .ok (.ireturn, 1) := by decide +kernel
set_option maxRecDepth 20000 in
theorem ggL_sizeOf_X10_sizeOf : GoodIn wsL_sizeOf wsX10_sizeOf := goodIn_ca (goodIn_r _ [6, 7, 8, 9, 10, 11, 12, 13, 14, 15, 16, 17, 18, 19, 20, 21, 22, 23, 24, 25, 26, 27, 28, 29, 30, 31, 32, 33, 34, 35, 36, 37, 38, 39, 40, 41, 42, 43, 44, 45, 46, 47] (by decide +kernel) (by decide +kernel)) (goodIn_sub (fun _ h => List.mem_cons_of_mem _ (List.mem_append_right _ h)) (by decide +kernel))
set_option maxRecDepth 20000 in
theorem gL_sizeOf_X10_sizeOf : GoodIn wsL_sizeOf (wsV RL 51 RX10 yX10_sizeOf wsX10_sizeOf) := goodIn_app (goodIn_of _ (by decide +kernel)) ggL_sizeOf_X10_sizeOf
theorem dL_sizeOf_0 : decode cL_sizeOf 0 = .ok (.aload_n 2, 1) := by decide +kernel
theorem dL_sizeOf_1 : decode cL_sizeOf 1 = .ok (.iconst 0, 1) := by decide +kernel
theorem dL_sizeOf_2 : decode cL_sizeOf 2 = .ok (.aload_n 0, 1) := by decide +kernel
theorem dL_sizeOf_3 : decode cL_sizeOf 3 = .ok (.iload_n 1, 1) := by decide +kernel
theorem dL_sizeOf_4 : decode cL_sizeOf 4 = .ok (.invokevirtual 51, 3) := by decide +kernel
theorem dL_sizeOf_7 : decode cL_sizeOf 7 = .ok (.i2l, 1) := by decide +kernel
theorem dL_sizeOf_8 : decode cL_sizeOf 8 = .ok (.lastore, 1) := by decide +kernel
theorem dL_sizeOf_9 : decode cL_sizeOf 9 = .ok (.goto 6, 3) := by decide +kernel
theorem dL_sizeOf_12 : decode cL_sizeOf 12 = .ok (.astore_n 3, 1) := by decide +kernel
theorem dL_sizeOf_13 : decode cL_sizeOf 13 = .ok (.iconst 1, 1) := by decide +kernel
theorem dL_sizeOf_14 : decode cL_sizeOf 14 = .ok (.ireturn, 1) := by decide +kernel
theorem dL_sizeOf_15 : decode cL_sizeOf 15 = .ok (.iconst 0, 1) := by decide +kernel
theorem dL_sizeOf_16 : decode cL_sizeOf 16 = .ok (.ireturn, 1) := by decide +kernel
set_option maxRecDepth 20000 in
theorem ggL_spread_X10_spread : GoodIn wsL_spread wsX10_spread := goodIn_ca (goodIn_r _ [6, 7, 8, 9, 10, 11, 12, 5, 13, 14, 15, 16, 17, 18, 19, 20, 21, 22, 23, 24, 25, 26, 27, 28, 29, 30, 31, 32, 33, 34, 35, 36, 37, 38, 39, 40, 41] (by decide +kernel) (by decide +kernel)) (goodIn_sub (fun _ h => List.mem_cons_of_mem _ (List.mem_append_right _ h)) (by decide +kernel))
set_option maxRecDepth 20000 in
theorem gL_spread_X10_spread : GoodIn wsL_spread (wsV RL 54 RX10 yX10_spread wsX10_spread) := goodIn_app (goodIn_of _ (by decide +kernel)) ggL_spread_X10_spread
theorem dL_spread_0 : decode cL_spread 0 = .ok (.aload_n 3, 1) := by decide +kernel
theorem dL_spread_1 : decode cL_spread 1 = .ok (.iconst 0, 1) := by decide +kernel
theorem dL_spread_2 : decode cL_spread 2 = .ok (.aload_n 0, 1) := by decide +kernel
theorem dL_spread_3 : decode cL_spread 3 = .ok (.iload_n 1, 1) := by decide +kernel
theorem dL_spread_4 : decode cL_spread 4 = .ok (.iload_n 2, 1) := by decide +kernel
theorem dL_spread_5 : decode cL_spread 5 = .ok (.invokevirtual 54, 3) := by decide +kernel
theorem dL_spread_8 : decode cL_spread 8 = .ok (.i2l, 1) := by decide +kernel
theorem dL_spread_9 : decode cL_spread 9 = .ok (.lastore, 1) := by decide +kernel
theorem dL_spread_10 : decode cL_spread 10 = .ok (.goto 7, 3) := by decide +kernel
theorem dL_spread_13 : decode cL_spread 13 = .ok (.astore 4, 2) := by decide +kernel
theorem dL_spread_15 : decode cL_spread 15 = .ok (.iconst 1, 1) := by decide +kernel
theorem dL_spread_16 : decode cL_spread 16 = .ok (.ireturn, 1) := by decide +kernel
theorem dL_spread_17 : decode cL_spread 17 = .ok (.iconst 0, 1) := by decide +kernel
theorem dL_spread_18 : decode cL_spread 18 = .ok (.ireturn, 1) := by decide +kernel
set_option maxRecDepth 20000 in
theorem ggL_rare_X10_rare : GoodIn wsL_rare wsX10_rare := goodIn_ca (goodIn_r _ [6, 7, 8, 9, 10, 11, 12, 5, 13, 14, 15, 16, 17, 18, 19, 20, 21, 22, 23, 24, 25, 26, 27, 28, 29, 30, 31, 32, 33, 34, 35, 36, 37, 38, 39, 40, 41, 42, 43, 44, 45, 46] (by decide +kernel) (by decide +kernel)) (goodIn_sub (fun _ h => List.mem_cons_of_mem _ (List.mem_append_right _ h)) (by decide +kernel))
set_option maxRecDepth 20000 in
theorem gL_rare_X10_rare : GoodIn wsL_rare (wsV RL 57 RX10 yX10_rare wsX10_rare) := goodIn_app (goodIn_of _ (by decide +kernel)) ggL_rare_X10_rare
theorem dL_rare_0 : decode cL_rare 0 = .ok (.aload_n 3, 1) := by decide +kernel
theorem dL_rare_1 : decode cL_rare 1 = .ok (.iconst 0, 1) := by decide +kernel
theorem dL_rare_2 : decode cL_rare 2 = .ok (.aload_n 0, 1) := by decide +kernel
theorem dL_rare_3 : decode cL_rare 3 = .ok (.iload_n 1, 1) := by decide +kernel
theorem dL_rare_4 : decode cL_rare 4 = .ok (.iload_n 2, 1) := by decide +kernel
theorem dL_rare_5 : decode cL_rare 5 = .ok (.invokevirtual 57, 3) := by decide +kernel
theorem dL_rare_8 : decode cL_rare 8 = .ok (.i2l, 1) := by decide +kernel
theorem dL_rare_9 : decode cL_rare 9 = .ok (.lastore, 1) := by decide +kernel
theorem dL_rare_10 : decode cL_rare 10 = .ok (.goto 7, 3) := by decide +kernel
theorem dL_rare_13 : decode cL_rare 13 = .ok (.astore 4, 2) := by decide +kernel
theorem dL_rare_15 : decode cL_rare 15 = .ok (.iconst 1, 1) := by decide +kernel
theorem dL_rare_16 : decode cL_rare 16 = .ok (.ireturn, 1) := by decide +kernel
theorem dL_rare_17 : decode cL_rare 17 = .ok (.iconst 0, 1) := by decide +kernel
theorem dL_rare_18 : decode cL_rare 18 = .ok (.ireturn, 1) := by decide +kernel
set_option maxRecDepth 20000 in
theorem ggL_term_X10_term : GoodIn wsL_term wsX10_term := goodIn_ca (goodIn_ca (goodIn_r _ [7, 8, 9, 10, 11, 12, 13, 14, 15, 16, 17, 18, 19, 6, 20, 21, 22, 23, 24, 25, 26, 27, 28, 29, 30, 31, 32, 33, 34, 35, 36, 37, 38, 39, 40, 41, 42, 43, 44, 45, 46, 47, 48, 49, 50, 51, 52, 53, 54, 55, 56, 57, 58, 59, 60, 61, 62, 63, 64, 65, 66, 67, 68, 69, 70] (by decide +kernel) (by decide +kernel)) (goodIn_sub (fun _ h => List.mem_cons_of_mem _ (List.mem_append_left _ (List.mem_append_right _ h))) (by decide +kernel))) (goodIn_sub (fun _ h => List.mem_cons_of_mem _ (List.mem_append_right _ h)) (by decide +kernel))
set_option maxRecDepth 20000 in
theorem gL_term_X10_term : GoodIn wsL_term (wsV RL 60 RX10 yX10_term wsX10_term) := goodIn_app (goodIn_of _ (by decide +kernel)) ggL_term_X10_term
theorem dL_term_0 : decode cL_term 0 = .ok (.aload_n 3, 1) := by decide +kernel
theorem dL_term_1 : decode cL_term 1 = .ok (.iconst 0, 1) := by decide +kernel
theorem dL_term_2 : decode cL_term 2 = .ok (.aload_n 0, 1) := by decide +kernel
theorem dL_term_3 : decode cL_term 3 = .ok (.iload_n 1, 1) := by decide +kernel
theorem dL_term_4 : decode cL_term 4 = .ok (.iload_n 2, 1) := by decide +kernel
theorem dL_term_5 : decode cL_term 5 = .ok (.invokevirtual 60, 3) := by decide +kernel
theorem dL_term_8 : decode cL_term 8 = .ok (.i2l, 1) := by decide +kernel
theorem dL_term_9 : decode cL_term 9 = .ok (.lastore, 1) := by decide +kernel
theorem dL_term_10 : decode cL_term 10 = .ok (.goto 11, 3) := by decide +kernel
theorem dL_term_13 : decode cL_term 13 = .ok (.astore 4, 2) := by decide +kernel
theorem dL_term_15 : decode cL_term 15 = .ok (.iconst 1, 1) := by decide +kernel
theorem dL_term_16 : decode cL_term 16 = .ok (.ireturn, 1) := by decide +kernel
theorem dL_term_17 : decode cL_term 17 = .ok (.astore 4, 2) := by decide +kernel
theorem dL_term_19 : decode cL_term 19 = .ok (.iconst 2, 1) := by decide +kernel
theorem dL_term_20 : decode cL_term 20 = .ok (.ireturn, 1) := by decide +kernel
theorem dL_term_21 : decode cL_term 21 = .ok (.iconst 0, 1) := by decide +kernel
theorem dL_term_22 : decode cL_term 22 = .ok (.ireturn, 1) := by decide +kernel
set_option maxRecDepth 20000 in
theorem ggL_and_X10_and : GoodIn wsL_and wsX10_and := goodIn_ca (goodIn_ca (goodIn_r _ [7, 8, 9, 10, 6, 11, 12, 13, 14, 15, 16, 17, 18, 19, 20, 21, 22, 23, 24, 25, 26, 27, 28, 29, 30, 31, 32, 33, 34, 35, 36, 37, 38, 39, 40, 41, 42, 43, 44, 45, 46, 47, 48, 49, 50, 51, 52, 53, 54, 55, 56, 57, 58, 59, 60, 61, 62, 63, 64, 65, 66, 67, 68, 69, 70, 71, 72, 73, 74, 75, 76] (by decide +kernel) (by decide +kernel)) (goodIn_sub (fun _ h => List.mem_cons_of_mem _ (List.mem_append_left _ (List.mem_append_right _ h))) (by decide +kernel))) (goodIn_sub (fun _ h => List.mem_cons_of_mem _ (List.mem_append_right _ h)) (by decide +kernel))
set_option maxRecDepth 20000 in
theorem gL_and_X10_and : GoodIn wsL_and (wsV RL 63 RX10 yX10_and wsX10_and) := goodIn_app (goodIn_of _ (by decide +kernel)) ggL_and_X10_and
theorem dL_and_0 : decode cL_and 0 = .ok (.aload_n 3, 1) := by decide +kernel
theorem dL_and_1 : decode cL_and 1 = .ok (.iconst 0, 1) := by decide +kernel
theorem dL_and_2 : decode cL_and 2 = .ok (.aload_n 0, 1) := by decide +kernel
theorem dL_and_3 : decode cL_and 3 = .ok (.iload_n 1, 1) := by decide +kernel
theorem dL_and_4 : decode cL_and 4 = .ok (.iload_n 2, 1) := by decide +kernel
theorem dL_and_5 : decode cL_and 5 = .ok (.invokevirtual 63, 3) := by decide +kernel
theorem dL_and_8 : decode cL_and 8 = .ok (.i2l, 1) := by decide +kernel
theorem dL_and_9 : decode cL_and 9 = .ok (.lastore, 1) := by decide +kernel
theorem dL_and_10 : decode cL_and 10 = .ok (.goto 11, 3) := by decide +kernel
theorem dL_and_13 : decode cL_and 13 = .ok (.astore 4, 2) := by decide +kernel
theorem dL_and_15 : decode cL_and 15 = .ok (.iconst 1, 1) := by decide +kernel
theorem dL_and_16 : decode cL_and 16 = .ok (.ireturn, 1) := by decide +kernel
theorem dL_and_17 : decode cL_and 17 = .ok (.astore 4, 2) := by decide +kernel
theorem dL_and_19 : decode cL_and 19 = .ok (.iconst 2, 1) := by decide +kernel
theorem dL_and_20 : decode cL_and 20 = .ok (.ireturn, 1) := by decide +kernel
theorem dL_and_21 : decode cL_and 21 = .ok (.iconst 0, 1) := by decide +kernel
theorem dL_and_22 : decode cL_and 22 = .ok (.ireturn, 1) := by decide +kernel
set_option maxRecDepth 20000 in
theorem ggL_or_X10_or : GoodIn wsL_or wsX10_or := goodIn_ca (goodIn_ca (goodIn_r _ [7, 8, 9, 10, 6, 11, 12, 13, 14, 15, 16, 17, 18, 19, 20, 21, 22, 23, 24, 25, 26, 27, 28, 29, 30, 31, 32, 33, 34, 35, 36, 37, 38, 39, 40, 41, 42, 43, 44, 45, 46, 47, 48, 49, 50, 51, 52, 53, 54, 55, 56, 57, 58, 59, 60, 61, 62, 63, 64, 65, 66, 67, 68, 69, 70, 71, 72, 73, 74, 75, 76] (by decide +kernel) (by decide +kernel)) (goodIn_sub (fun _ h => List.mem_cons_of_mem _ (List.mem_append_left _ (List.mem_append_right _ h))) (by decide +kernel))) (goodIn_sub (fun _ h => List.mem_cons_of_mem _ (List.mem_append_right _ h)) (by decide +kernel))
set_option maxRecDepth 20000 in
theorem gL_or_X10_or : GoodIn wsL_or (wsV RL 66 RX10 yX10_or wsX10_or) := goodIn_app (goodIn_of _ (by decide +kernel)) ggL_or_X10_or
theorem dL_or_0 : decode cL_or 0 = .ok (.aload_n 3, 1) := by decide +kernel
theorem dL_or_1 : decode cL_or 1 = .ok (.iconst 0, 1) := by decide +kernel
theorem dL_or_2 : decode cL_or 2 = .ok (.aload_n 0, 1) := by decide +kernel
theorem dL_or_3 : decode cL_or 3 = .ok (.iload_n 1, 1) := by decide +kernel
theorem dL_or_4 : decode cL_or 4 = .ok (.iload_n 2, 1) := by decide +kernel
theorem dL_or_5 : decode cL_or 5 = .ok (.invokevirtual 66, 3) := by decide +kernel
theorem dL_or_8 : decode cL_or 8 = .ok (.i2l, 1) := by decide +kernel
theorem dL_or_9 : decode cL_or 9 = .ok (.lastore, 1) := by decide +kernel
theorem dL_or_10 : decode cL_or 10 = .ok (.goto 11, 3) := by decide +kernel
theorem dL_or_13 : decode cL_or 13 = .ok (.astore 4, 2) := by decide +kernel
theorem dL_or_15 : decode cL_or 15 = .ok (.iconst 1, 1) := by decide +kernel
theorem dL_or_16 : decode cL_or 16 = .ok (.ireturn, 1) := by decide +kernel
theorem dL_or_17 : decode cL_or 17 = .ok (.astore 4, 2) := by decide +kernel
theorem dL_or_19 : decode cL_or 19 = .ok (.iconst 2, 1) := by decide +kernel
theorem dL_or_20 : decode cL_or 20 = .ok (.ireturn, 1) := by decide +kernel
theorem dL_or_21 : decode cL_or 21 = .ok (.iconst 0, 1) := by decide +kernel
theorem dL_or_22 : decode cL_or 22 = .ok (.ireturn, 1) := by decide +kernel
set_option maxRecDepth 20000 in
theorem ggL_not_X10_not : GoodIn wsL_not wsX10_not := goodIn_ca (goodIn_ca (goodIn_r _ [7, 8, 9, 10, 6, 11, 12, 13, 14, 15, 16, 17, 18, 19, 20, 21, 22, 23, 24, 25, 26, 27, 28, 29, 30, 31, 32, 33, 34, 35, 36, 37, 38, 39, 40, 41, 42, 43, 44, 45, 46, 47, 48, 49, 50, 51, 52, 53, 54, 55, 56, 57, 58, 59, 60, 61, 62, 63, 64, 65, 66, 67, 68, 69, 70, 71, 72, 73, 74, 75, 76] (by decide +kernel) (by decide +kernel)) (goodIn_sub (fun _ h => List.mem_cons_of_mem _ (List.mem_append_left _ (List.mem_append_right _ h))) (by decide +kernel))) (goodIn_sub (fun _ h => List.mem_cons_of_mem _ (List.mem_append_right _ h)) (by decide +kernel))
set_option maxRecDepth 20000 in
theorem gL_not_X10_not : GoodIn wsL_not (wsV RL 69 RX10 yX10_not wsX10_not) := goodIn_app (goodIn_of _ (by decide +kernel)) ggL_not_X10_not
theorem dL_not_0 : decode cL_not 0 = .ok (.aload_n 3, 1) := by decide +kernel
theorem dL_not_1 : decode cL_not 1 = .ok (.iconst 0, 1) := by decide +kernel
theorem dL_not_2 : decode cL_not 2 = .ok (.aload_n 0, 1) := by decide +kernel
theorem dL_not_3 : decode cL_not 3 = .ok (.iload_n 1, 1) := by decide +kernel
theorem dL_not_4 : decode cL_not 4 = .ok (.iload_n 2, 1) := by decide +kernel
theorem dL_not_5 : decode cL_not 5 = .ok (.invokevirtual 69, 3) := by decide +kernel
theorem dL_not_8 : decode cL_not 8 = .ok (.i2l, 1) := by decide +kernel
theorem dL_not_9 : decode cL_not 9 = .ok (.lastore, 1) := by decide +kernel
theorem dL_not_10 : decode cL_not 10 = .ok (.goto 11, 3) := by decide +kernel
theorem dL_not_13 : decode cL_not 13 = .ok (.astore 4, 2) := by decide +kernel
theorem dL_not_15 : decode cL_not 15 = .ok (.iconst 1, 1) := by decide +kernel
theorem dL_not_16 : decode cL_not 16 = .ok (.ireturn, 1) := by decide +kernel
theorem dL_not_17 : decode cL_not 17 = .ok (.astore 4, 2) := by decide +kernel
theorem dL_not_19 : decode cL_not 19 = .ok (.iconst 2, 1) := by decide +kernel
theorem dL_not_20 : decode cL_not 20 = .ok (.ireturn, 1) := by decide +kernel
theorem dL_not_21 : decode cL_not 21 = .ok (.iconst 0, 1) := by decide +kernel
theorem dL_not_22 : decode cL_not 22 = .ok (.ireturn, 1) := by decide +kernel
set_option maxRecDepth 20000 in
theorem ggL_near_X10_near : GoodIn wsL_near wsX10_near := goodIn_ca (goodIn_ca (goodIn_ca (goodIn_r _ [8, 9, 10, 11, 12, 13, 14, 15, 16, 17, 18, 19, 20, 21, 22, 23, 24, 25, 26, 27, 28, 29, 30, 31, 32, 33, 34, 35, 36, 37, 38, 39, 40, 41, 42, 43, 44, 45, 46, 47, 48, 49, 50, 51, 52, 53, 54, 55, 56, 57, 58, 59, 60, 61, 62, 63, 64, 65, 66, 67, 68, 69, 70, 71, 72, 73, 74] (by decide +kernel) (by decide +kernel)) (goodIn_sub (fun _ h => List.mem_cons_of_mem _ (List.mem_append_left _ (List.mem_append_left _ (List.mem_append_right _ h)))) (by decide +kernel))) (goodIn_sub (fun _ h => List.mem_cons_of_mem _ (List.mem_append_left _ (List.mem_append_right _ h))) (by decide +kernel))) (goodIn_sub (fun _ h => List.mem_cons_of_mem _ (List.mem_append_right _ h)) (by decide +kernel))
set_option maxRecDepth 20000 in
theorem gL_near_X10_near : GoodIn wsL_near (wsV RL 72 RX10 yX10_near wsX10_near) := goodIn_app (goodIn_of _ (by decide +kernel)) ggL_near_X10_near
theorem dL_near_0 : decode cL_near 0 = .ok (.aload 5, 2) := by decide +kernel
theorem dL_near_2 : decode cL_near 2 = .ok (.iconst 0, 1) := by decide +kernel
theorem dL_near_3 : decode cL_near 3 = .ok (.aload_n 0, 1) := by decide +kernel
theorem dL_near_4 : decode cL_near 4 = .ok (.iload_n 1, 1) := by decide +kernel
theorem dL_near_5 : decode cL_near 5 = .ok (.iload_n 2, 1) := by decide +kernel
theorem dL_near_6 : decode cL_near 6 = .ok (.iload_n 3, 1) := by decide +kernel
theorem dL_near_7 : decode cL_near 7 = .ok (.iload 4, 2) := by decide +kernel
theorem dL_near_9 : decode cL_near 9 = .ok (.invokevirtual 72, 3) := by decide +kernel
theorem dL_near_12 : decode cL_near 12 = .ok (.i2l, 1) := by decide +kernel
theorem dL_near_13 : decode cL_near 13 = .ok (.lastore, 1) := by decide +kernel
theorem dL_near_14 : decode cL_near 14 = .ok (.goto 15, 3) := by decide +kernel
theorem dL_near_17 : decode cL_near 17 = .ok (.astore 6, 2) := by decide +kernel
theorem dL_near_19 : decode cL_near 19 = .ok (.iconst 1, 1) := by decide +kernel
theorem dL_near_20 : decode cL_near 20 = .ok (.ireturn, 1) := by decide +kernel
theorem dL_near_21 : decode cL_near 21 = .ok (.astore 6, 2) := by decide +kernel
theorem dL_near_23 : decode cL_near 23 = .ok (.iconst 2, 1) := by decide +kernel
theorem dL_near_24 : decode cL_near 24 = .ok (.ireturn, 1) := by decide +kernel
theorem dL_near_25 : decode cL_near 25 = .ok (.astore 6, 2) := by decide +kernel
theorem dL_near_27 : decode cL_near 27 = .ok (.iconst 3, 1) := by decide +kernel
theorem dL_near_28 : decode cL_near 28 = .ok (.ireturn, 1) := by decide +kernel
theorem dL_near_29 : decode cL_near 29 = .ok (.iconst 0, 1) := by decide +kernel
theorem dL_near_30 : decode cL_near 30 = .ok (.ireturn, 1) := by decide +kernel
set_option maxRecDepth 20000 in
theorem ggL_dated_X10_dated : GoodIn wsL_dated wsX10_dated := goodIn_ca (goodIn_ca (goodIn_r _ [7, 8, 9, 10, 11, 12, 13, 14, 15, 16, 17, 18, 19, 6, 20, 21, 22, 23, 24, 25, 26, 27, 28, 29, 30, 31, 32, 33, 34, 35, 36, 37, 38, 39, 40, 41, 42, 43, 44, 45, 46, 47, 48, 49, 50, 51, 52, 53, 54, 55, 56, 57, 58, 59, 60, 61, 62, 63, 64, 65, 66, 67] (by decide +kernel) (by decide +kernel)) (goodIn_sub (fun _ h => List.mem_cons_of_mem _ (List.mem_append_left _ (List.mem_append_right _ h))) (by decide +kernel))) (goodIn_sub (fun _ h => List.mem_cons_of_mem _ (List.mem_append_right _ h)) (by decide +kernel))
set_option maxRecDepth 20000 in
theorem gL_dated_X10_dated : GoodIn wsL_dated (wsV RL 76 RX10 yX10_dated wsX10_dated) := goodIn_app (goodIn_of _ (by decide +kernel)) ggL_dated_X10_dated
theorem dL_dated_0 : decode cL_dated 0 = .ok (.aload_n 3, 1) := by decide +kernel
theorem dL_dated_1 : decode cL_dated 1 = .ok (.iconst 0, 1) := by decide +kernel
theorem dL_dated_2 : decode cL_dated 2 = .ok (.aload_n 0, 1) := by decide +kernel
theorem dL_dated_3 : decode cL_dated 3 = .ok (.iload_n 1, 1) := by decide +kernel
theorem dL_dated_4 : decode cL_dated 4 = .ok (.iload_n 2, 1) := by decide +kernel
theorem dL_dated_5 : decode cL_dated 5 = .ok (.invokevirtual 76, 3) := by decide +kernel
theorem dL_dated_8 : decode cL_dated 8 = .ok (.i2l, 1) := by decide +kernel
theorem dL_dated_9 : decode cL_dated 9 = .ok (.lastore, 1) := by decide +kernel
theorem dL_dated_10 : decode cL_dated 10 = .ok (.goto 11, 3) := by decide +kernel
theorem dL_dated_13 : decode cL_dated 13 = .ok (.astore 4, 2) := by decide +kernel
theorem dL_dated_15 : decode cL_dated 15 = .ok (.iconst 1, 1) := by decide +kernel
theorem dL_dated_16 : decode cL_dated 16 = .ok (.ireturn, 1) := by decide +kernel
theorem dL_dated_17 : decode cL_dated 17 = .ok (.astore 4, 2) := by decide +kernel
theorem dL_dated_19 : decode cL_dated 19 = .ok (.iconst 2, 1) := by decide +kernel
theorem dL_dated_20 : decode cL_dated 20 = .ok (.ireturn, 1) := by decide +kernel
theorem dL_dated_21 : decode cL_dated 21 = .ok (.iconst 0, 1) := by decide +kernel
theorem dL_dated_22 : decode cL_dated 22 = .ok (.ireturn, 1) := by decide +kernel
set_option maxRecDepth 20000 in
theorem ggL_kind_X10_kind : GoodIn wsL_kind wsX10_kind := goodIn_ca (goodIn_ca (goodIn_r _ [7, 8, 9, 10, 11, 12, 13, 14, 15, 16, 17, 18, 6, 19, 20, 21, 22, 23, 24, 25, 26, 27, 28, 29, 30, 31, 32, 33, 34, 35, 36, 37, 38, 39, 40, 41, 42, 43, 44, 45, 46, 47, 48, 49, 50, 51, 52, 53, 54, 55, 56, 57, 58, 59, 60, 61, 62, 63, 64, 65, 66] (by decide +kernel) (by decide +kernel)) (goodIn_sub (fun _ h => List.mem_cons_of_mem _ (List.mem_append_left _ (List.mem_append_right _ h))) (by decide +kernel))) (goodIn_sub (fun _ h => List.mem_cons_of_mem _ (List.mem_append_right _ h)) (by decide +kernel))
set_option maxRecDepth 20000 in
theorem gL_kind_X10_kind : GoodIn wsL_kind (wsV RL 79 RX10 yX10_kind wsX10_kind) := goodIn_app (goodIn_of _ (by decide +kernel)) ggL_kind_X10_kind
theorem dL_kind_0 : decode cL_kind 0 = .ok (.aload_n 2, 1) := by decide +kernel
theorem dL_kind_1 : decode cL_kind 1 = .ok (.iconst 0, 1) := by decide +kernel
theorem dL_kind_2 : decode cL_kind 2 = .ok (.aload_n 0, 1) := by decide +kernel
theorem dL_kind_3 : decode cL_kind 3 = .ok (.iload_n 1, 1) := by decide +kernel
theorem dL_kind_4 : decode cL_kind 4 = .ok (.invokevirtual 79, 3) := by decide +kernel
theorem dL_kind_7 : decode cL_kind 7 = .ok (.i2l, 1) := by decide +kernel
theorem dL_kind_8 : decode cL_kind 8 = .ok (.lastore, 1) := by decide +kernel
theorem dL_kind_9 : decode cL_kind 9 = .ok (.goto 9, 3) := by decide +kernel
theorem dL_kind_12 : decode cL_kind 12 = .ok (.astore_n 3, 1) := by decide +kernel
theorem dL_kind_13 : decode cL_kind 13 = .ok (.iconst 1, 1) := by decide +kernel
theorem dL_kind_14 : decode cL_kind 14 = .ok (.ireturn, 1) := by decide +kernel
theorem dL_kind_15 : decode cL_kind 15 = .ok (.astore_n 3, 1) := by decide +kernel
theorem dL_kind_16 : decode cL_kind 16 = .ok (.iconst 2, 1) := by decide +kernel
theorem dL_kind_17 : decode cL_kind 17 = .ok (.ireturn, 1) := by decide +kernel
theorem dL_kind_18 : decode cL_kind 18 = .ok (.iconst 0, 1) := by decide +kernel
theorem dL_kind_19 : decode cL_kind 19 = .ok (.ireturn, 1) := by decide +kernel
set_option maxRecDepth 20000 in
theorem ggL_scaled_X10_scaled : GoodIn wsL_scaled wsX10_scaled := goodIn_ca (goodIn_ca (goodIn_ca (goodIn_r _ [8, 9, 10, 11, 12, 13, 14, 15, 16, 17, 18, 19, 20, 21, 22, 23, 24, 25, 26, 27, 28, 29, 30, 31, 32, 33, 34, 35, 36, 37, 38, 39, 40, 41, 42, 43, 44, 45, 46, 47, 48, 49, 50, 51, 52, 53, 54, 55, 56, 57, 58, 59, 60, 61, 62, 63, 64, 65, 66, 67, 68, 69, 70, 71, 72, 73, 74, 75] (by decide +kernel) (by decide +kernel)) (goodIn_sub (fun _ h => List.mem_cons_of_mem _ (List.mem_append_left _ (List.mem_append_left _ (List.mem_append_right _ h)))) (by decide +kernel))) (goodIn_sub (fun _ h => List.mem_cons_of_mem _ (List.mem_append_left _ (List.mem_append_right _ h))) (by decide +kernel))) (goodIn_sub (fun _ h => List.mem_cons_of_mem _ (List.mem_append_right _ h)) (by decide +kernel))
set_option maxRecDepth 20000 in
theorem gL_scaled_X10_scaled : GoodIn wsL_scaled (wsV RL 82 RX10 yX10_scaled wsX10_scaled) := goodIn_app (goodIn_of _ (by decide +kernel)) ggL_scaled_X10_scaled
theorem dL_scaled_0 : decode cL_scaled 0 = .ok (.aload_n 3, 1) := by decide +kernel
theorem dL_scaled_1 : decode cL_scaled 1 = .ok (.iconst 0, 1) := by decide +kernel
theorem dL_scaled_2 : decode cL_scaled 2 = .ok (.aload_n 0, 1) := by decide +kernel
theorem dL_scaled_3 : decode cL_scaled 3 = .ok (.iload_n 1, 1) := by decide +kernel
theorem dL_scaled_4 : decode cL_scaled 4 = .ok (.iload_n 2, 1) := by decide +kernel
theorem dL_scaled_5 : decode cL_scaled 5 = .ok (.invokevirtual 82, 3) := by decide +kernel
theorem dL_scaled_8 : decode cL_scaled 8 = .ok (.i2l, 1) := by decide +kernel
theorem dL_scaled_9 : decode cL_scaled 9 = .ok (.lastore, 1) := by decide +kernel
theorem dL_scaled_10 : decode cL_scaled 10 = .ok (.goto 15, 3) := by decide +kernel
theorem dL_scaled_13 : decode cL_scaled 13 = .ok (.astore 4, 2) := by decide +kernel
theorem dL_scaled_15 : decode cL_scaled 15 = .ok (.iconst 1, 1) := by decide +kernel
theorem dL_scaled_16 : decode cL_scaled 16 = .ok (.ireturn, 1) := by decide +kernel
theorem dL_scaled_17 : decode cL_scaled 17 = .ok (.astore 4, 2) := by decide +kernel
theorem dL_scaled_19 : decode cL_scaled 19 = .ok (.iconst 2, 1) := by decide +kernel
theorem dL_scaled_20 : decode cL_scaled 20 = .ok (.ireturn, 1) := by decide +kernel
theorem dL_scaled_21 : decode cL_scaled 21 = .ok (.astore 4, 2) := by decide +kernel
theorem dL_scaled_23 : decode cL_scaled 23 = .ok (.iconst 3, 1) := by decide +kernel
theorem dL_scaled_24 : decode cL_scaled 24 = .ok (.ireturn, 1) := by decide +kernel
theorem dL_scaled_25 : decode cL_scaled 25 = .ok (.iconst 0, 1) := by decide +kernel
theorem dL_scaled_26 : decode cL_scaled 26 = .ok (.ireturn, 1) := by decide +kernel
set_option maxRecDepth 20000 in
theorem ggL_most_X10_most : GoodIn wsL_most wsX10_most := goodIn_ca (goodIn_ca (goodIn_ca (goodIn_r _ [8, 9, 10, 11, 12, 13, 14, 15, 16, 17, 18, 19, 20, 21, 22, 23, 24, 25, 26, 27, 28, 29, 30, 31, 32, 33, 34, 35, 36, 37, 38, 39, 40, 41, 42, 43, 44, 45, 46, 47, 48, 49, 50, 51, 52, 53, 54, 55, 56, 57, 58, 59, 60, 61, 62, 63, 64, 65, 66, 67, 68, 69, 70, 71, 72, 73, 74, 75, 76, 77] (by decide +kernel) (by decide +kernel)) (goodIn_sub (fun _ h => List.mem_cons_of_mem _ (List.mem_append_left _ (List.mem_append_left _ (List.mem_append_right _ h)))) (by decide +kernel))) (goodIn_sub (fun _ h => List.mem_cons_of_mem _ (List.mem_append_left _ (List.mem_append_right _ h))) (by decide +kernel))) (goodIn_sub (fun _ h => List.mem_cons_of_mem _ (List.mem_append_right _ h)) (by decide +kernel))
set_option maxRecDepth 20000 in
theorem gL_most_X10_most : GoodIn wsL_most (wsV RL 85 RX10 yX10_most wsX10_most) := goodIn_app (goodIn_of _ (by decide +kernel)) ggL_most_X10_most
theorem dL_most_0 : decode cL_most 0 = .ok (.aload 4, 2) := by decide +kernel
theorem dL_most_2 : decode cL_most 2 = .ok (.iconst 0, 1) := by decide +kernel
theorem dL_most_3 : decode cL_most 3 = .ok (.aload_n 0, 1) := by decide +kernel
theorem dL_most_4 : decode cL_most 4 = .ok (.iload_n 1, 1) := by decide +kernel
theorem dL_most_5 : decode cL_most 5 = .ok (.iload_n 2, 1) := by decide +kernel
theorem dL_most_6 : decode cL_most 6 = .ok (.iload_n 3, 1) := by decide +kernel
theorem dL_most_7 : decode cL_most 7 = .ok (.invokevirtual 85, 3) := by decide +kernel
theorem dL_most_10 : decode cL_most 10 = .ok (.i2l, 1) := by decide +kernel
theorem dL_most_11 : decode cL_most 11 = .ok (.lastore, 1) := by decide +kernel
theorem dL_most_12 : decode cL_most 12 = .ok (.goto 15, 3) := by decide +kernel
theorem dL_most_15 : decode cL_most 15 = .ok (.astore 5, 2) := by decide +kernel
theorem dL_most_17 : decode cL_most 17 = .ok (.iconst 1, 1) := by decide +kernel
theorem dL_most_18 : decode cL_most 18 = .ok (.ireturn, 1) := by decide +kernel
theorem dL_most_19 : decode cL_most 19 = .ok (.astore 5, 2) := by decide +kernel
theorem dL_most_21 : decode cL_most 21 = .ok (.iconst 2, 1) := by decide +kernel
theorem dL_most_22 : decode cL_most 22 = .ok (.ireturn, 1) := by decide +kernel
theorem dL_most_23 : decode cL_most 23 = .ok (.astore 5, 2) := by decide +kernel
theorem dL_most_25 : decode cL_most 25 = .ok (.iconst 3, 1) := by decide +kernel
theorem dL_most_26 : decode cL_most 26 = .ok (.ireturn, 1) := by decide +kernel
theorem dL_most_27 : decode cL_most 27 = .ok (.iconst 0, 1) := by decide +kernel
theorem dL_most_28 : decode cL_most 28 = .ok (.ireturn, 1) := by decide +kernel
set_option maxRecDepth 20000 in
theorem ggL_score_X10_score : GoodIn wsL_score wsX10_score := goodIn_ca (goodIn_r _ [6, 7, 8, 9, 10, 11, 12, 13, 14, 15, 16, 17, 18, 19, 20, 21, 22, 23, 24, 25, 26, 27, 28, 29, 30, 31, 32, 33, 34, 35, 36, 37, 38, 39, 40, 41, 42, 43, 44, 45, 46, 47, 48, 49, 50, 51, 52, 53, 54, 55, 56, 57, 58, 59, 60, 61, 62, 63, 64, 65, 66, 67, 68, 69, 70, 71, 72, 73, 74, 75, 76, 77, 78, 79, 80, 81, 82, 83, 84, 85, 86, 87, 88, 89, 90, 91, 92, 93, 94, 95, 96, 97, 98, 99, 100, 101, 102, 103, 104, 105, 106, 107, 108, 109, 110, 111, 112, 113, 114, 115, 116, 117, 118, 119, 120, 121, 122, 123, 124, 125, 126, 127, 128, 129, 130, 131, 132, 133, 134, 135, 136, 137, 138, 139, 140, 141, 142, 143, 144, 145, 146, 147, 148, 149, 150, 151, 152, 153, 154, 155, 156, 157, 158, 159, 160, 161, 162, 163, 164, 165, 166, 167, 168, 169, 170, 171, 172, 173, 174, 175, 176, 177, 178, 179, 180, 181, 182, 183, 184, 185, 186, 187, 188, 189, 190, 191, 192, 193, 194, 195, 196, 197, 198, 199, 200, 201, 202, 203, 204, 205, 206, 207, 208, 209, 210, 211, 212, 213, 214, 215, 216, 217, 218, 219, 220, 221, 222, 223, 224, 225, 226, 227, 228, 229, 230, 231, 232, 233, 234, 235, 236, 237, 238, 239, 240, 241, 242] (by decide +kernel) (by decide +kernel)) (goodIn_sub (fun _ h => List.mem_cons_of_mem _ (List.mem_append_right _ h)) (by decide +kernel))
set_option maxRecDepth 20000 in
theorem gL_score_X10_score : GoodIn wsL_score (wsV RL 88 RX10 yX10_score wsX10_score) := goodIn_app (goodIn_of _ (by decide +kernel)) ggL_score_X10_score
theorem dL_score_0 : decode cL_score 0 = .ok (.aload_n 3, 1) := by decide +kernel
theorem dL_score_1 : decode cL_score 1 = .ok (.iconst 0, 1) := by decide +kernel
theorem dL_score_2 : decode cL_score 2 = .ok (.aload_n 0, 1) := by decide +kernel
theorem dL_score_3 : decode cL_score 3 = .ok (.iload_n 1, 1) := by decide +kernel
theorem dL_score_4 : decode cL_score 4 = .ok (.iload_n 2, 1) := by decide +kernel
theorem dL_score_5 : decode cL_score 5 = .ok (.invokevirtual 88, 3) := by decide +kernel
theorem dL_score_8 : decode cL_score 8 = .ok (.i2l, 1) := by decide +kernel
theorem dL_score_9 : decode cL_score 9 = .ok (.lastore, 1) := by decide +kernel
theorem dL_score_10 : decode cL_score 10 = .ok (.goto 7, 3) := by decide +kernel
theorem dL_score_13 : decode cL_score 13 = .ok (.astore 4, 2) := by decide +kernel
theorem dL_score_15 : decode cL_score 15 = .ok (.iconst 1, 1) := by decide +kernel
theorem dL_score_16 : decode cL_score 16 = .ok (.ireturn, 1) := by decide +kernel
theorem dL_score_17 : decode cL_score 17 = .ok (.iconst 0, 1) := by decide +kernel
theorem dL_score_18 : decode cL_score 18 = .ok (.ireturn, 1) := by decide +kernel
set_option maxRecDepth 20000 in
theorem ggL_found_X10_found : GoodIn wsL_found wsX10_found := goodIn_ca (goodIn_r _ [6, 7, 8, 9, 10, 11, 12, 13, 14, 15, 16, 17, 18, 19, 20, 21, 22, 23, 24, 25, 5, 26, 27, 28, 29, 30, 31, 32, 33, 34, 35, 36, 37, 38, 39, 40, 41, 42, 43, 44, 45, 46, 47, 48, 49, 50, 51, 52, 53, 54, 55, 56, 57, 58, 59, 60, 61, 62, 63, 64, 65, 66, 67, 68, 69, 70, 71, 72, 73, 74, 75, 76, 77, 78, 79, 80, 81, 82, 83, 84, 85, 86, 87, 88, 89, 90, 91, 92, 93, 94, 95, 96, 97, 98, 99, 100, 101, 102, 103, 104, 105, 106, 107, 108, 109, 110, 111, 112, 113, 114, 115, 116, 117, 118, 119, 120, 121, 122, 123, 124, 125, 126, 127, 128, 129, 130, 131, 132, 133, 134, 135, 136, 137, 138, 139, 140, 141, 142, 143, 144, 145, 146, 147, 148, 149, 150, 151, 152, 153, 154, 155, 156, 157, 158, 159, 160, 161, 162, 163, 164, 165, 166, 167, 168, 169, 170, 171, 172, 173, 174, 175, 176, 177, 178, 179, 180, 181, 182, 183, 184, 185, 186, 187, 188, 189, 190, 191, 192, 193, 194, 195, 196, 197, 198, 199, 200, 201, 202, 203, 204, 205, 206, 207, 208, 209, 210, 211, 212, 213, 214, 215, 216, 217, 218, 219, 220, 221, 222, 223, 224, 225, 226, 227, 228, 229, 230, 231, 232, 233, 234, 235, 236, 237, 238, 239, 240, 241, 242, 243, 244, 245, 246, 247] (by decide +kernel) (by decide +kernel)) (goodIn_sub (fun _ h => List.mem_cons_of_mem _ (List.mem_append_right _ h)) (by decide +kernel))
set_option maxRecDepth 20000 in
theorem gL_found_X10_found : GoodIn wsL_found (wsV RL 91 RX10 yX10_found wsX10_found) := goodIn_app (goodIn_of _ (by decide +kernel)) ggL_found_X10_found
theorem dL_found_0 : decode cL_found 0 = .ok (.aload_n 2, 1) := by decide +kernel
theorem dL_found_1 : decode cL_found 1 = .ok (.iconst 0, 1) := by decide +kernel
theorem dL_found_2 : decode cL_found 2 = .ok (.aload_n 0, 1) := by decide +kernel
theorem dL_found_3 : decode cL_found 3 = .ok (.iload_n 1, 1) := by decide +kernel
theorem dL_found_4 : decode cL_found 4 = .ok (.invokevirtual 91, 3) := by decide +kernel
theorem dL_found_7 : decode cL_found 7 = .ok (.i2l, 1) := by decide +kernel
theorem dL_found_8 : decode cL_found 8 = .ok (.lastore, 1) := by decide +kernel
theorem dL_found_9 : decode cL_found 9 = .ok (.goto 6, 3) := by decide +kernel
theorem dL_found_12 : decode cL_found 12 = .ok (.astore_n 3, 1) := by decide +kernel
theorem dL_found_13 : decode cL_found 13 = .ok (.iconst 1, 1) := by decide +kernel
theorem dL_found_14 : decode cL_found 14 = .ok (.ireturn, 1) := by decide +kernel
theorem dL_found_15 : decode cL_found 15 = .ok (.iconst 0, 1) := by decide +kernel
theorem dL_found_16 : decode cL_found 16 = .ok (.ireturn, 1) := by decide +kernel
set_option maxRecDepth 20000 in
theorem ggL_search_X10_search : GoodIn wsL_search wsX10_search := goodIn_ca (goodIn_r _ [6, 7, 8, 9, 10, 11, 12, 13, 14, 15, 16, 17, 18, 19, 20, 21, 22, 23, 24, 25, 26, 27, 28, 29, 30, 31, 32, 33, 5, 34, 35, 36, 37, 38, 39, 40, 41, 42, 43, 44, 45, 46, 47, 48, 49, 50, 51, 52, 53, 54, 55, 56, 57, 58, 59, 60, 61, 62, 63, 64, 65, 66, 67, 68, 69, 70, 71, 72, 73, 74, 75, 76, 77, 78, 79, 80, 81, 82, 83, 84, 85, 86, 87, 88, 89, 90, 91, 92, 93, 94, 95, 96, 97, 98, 99, 100, 101, 102, 103, 104, 105, 106, 107, 108, 109, 110, 111, 112, 113, 114, 115, 116, 117, 118, 119, 120, 121, 122, 123, 124, 125, 126, 127, 128, 129, 130, 131, 132, 133, 134, 135, 136, 137, 138, 139, 140, 141, 142, 143, 144, 145, 146, 147, 148, 149, 150, 151, 152, 153, 154, 155, 156, 157, 158, 159, 160, 161, 162, 163, 164, 165, 166, 167, 168, 169, 170, 171, 172, 173, 174, 175, 176, 177, 178, 179, 180, 181, 182, 183, 184, 185, 186, 187, 188, 189, 190, 191, 192, 193, 194, 195, 196, 197, 198, 199, 200, 201, 202, 203, 204, 205, 206, 207, 208, 209, 210, 211, 212, 213, 214, 215, 216, 217, 218, 219, 220, 221, 222, 223, 224, 225, 226, 227, 228, 229, 230, 231, 232, 233, 234, 235, 236, 237, 238, 239, 240, 241, 242, 243, 244, 245, 246, 247, 248, 249, 250, 251, 252, 253, 254, 255, 256, 257, 258, 259, 260, 261, 262, 263, 264, 265, 266, 267, 268, 269, 270, 271, 272, 273, 274, 275, 276, 277, 278, 279, 280, 281, 282, 283] (by decide +kernel) (by decide +kernel)) (goodIn_sub (fun _ h => List.mem_cons_of_mem _ (List.mem_append_right _ h)) (by decide +kernel))
set_option maxRecDepth 20000 in
theorem gL_search_X10_search : GoodIn wsL_search (wsV RL 94 RX10 yX10_search wsX10_search) := goodIn_app (goodIn_of _ (by decide +kernel)) ggL_search_X10_search
theorem dL_search_0 : decode cL_search 0 = .ok (.aload_n 2, 1) := by decide +kernel
theorem dL_search_1 : decode cL_search 1 = .ok (.iconst 0, 1) := by decide +kernel
theorem dL_search_2 : decode cL_search 2 = .ok (.aload_n 0, 1) := by decide +kernel
theorem dL_search_3 : decode cL_search 3 = .ok (.iload_n 1, 1) := by decide +kernel
theorem dL_search_4 : decode cL_search 4 = .ok (.invokevirtual 94, 3) := by decide +kernel
theorem dL_search_7 : decode cL_search 7 = .ok (.i2l, 1) := by decide +kernel
theorem dL_search_8 : decode cL_search 8 = .ok (.lastore, 1) := by decide +kernel
theorem dL_search_9 : decode cL_search 9 = .ok (.goto 6, 3) := by decide +kernel
theorem dL_search_12 : decode cL_search 12 = .ok (.astore_n 3, 1) := by decide +kernel
theorem dL_search_13 : decode cL_search 13 = .ok (.iconst 1, 1) := by decide +kernel
theorem dL_search_14 : decode cL_search 14 = .ok (.ireturn, 1) := by decide +kernel
theorem dL_search_15 : decode cL_search 15 = .ok (.iconst 0, 1) := by decide +kernel
theorem dL_search_16 : decode cL_search 16 = .ok (.ireturn, 1) := by decide +kernel
set_option maxRecDepth 20000 in
theorem ggL_resultAt_X10_resultAt : GoodIn wsL_resultAt wsX10_resultAt := goodIn_ca (goodIn_r _ [6, 7, 8, 9, 10, 11, 12, 13, 14, 15, 16, 17, 18, 19, 20, 21, 22, 23, 24, 25, 26, 27, 28, 29, 30, 31, 32, 33, 34, 35] (by decide +kernel) (by decide +kernel)) (goodIn_sub (fun _ h => List.mem_cons_of_mem _ (List.mem_append_right _ h)) (by decide +kernel))
set_option maxRecDepth 20000 in
theorem gL_resultAt_X10_resultAt : GoodIn wsL_resultAt (wsV RL 97 RX10 yX10_resultAt wsX10_resultAt) := goodIn_app (goodIn_of _ (by decide +kernel)) ggL_resultAt_X10_resultAt
theorem dL_resultAt_0 : decode cL_resultAt 0 = .ok (.aload_n 2, 1) := by decide +kernel
theorem dL_resultAt_1 : decode cL_resultAt 1 = .ok (.iconst 0, 1) := by decide +kernel
theorem dL_resultAt_2 : decode cL_resultAt 2 = .ok (.aload_n 0, 1) := by decide +kernel
theorem dL_resultAt_3 : decode cL_resultAt 3 = .ok (.iload_n 1, 1) := by decide +kernel
theorem dL_resultAt_4 : decode cL_resultAt 4 = .ok (.invokevirtual 97, 3) := by decide +kernel
theorem dL_resultAt_7 : decode cL_resultAt 7 = .ok (.i2l, 1) := by decide +kernel
theorem dL_resultAt_8 : decode cL_resultAt 8 = .ok (.lastore, 1) := by decide +kernel
theorem dL_resultAt_9 : decode cL_resultAt 9 = .ok (.goto 6, 3) := by decide +kernel
theorem dL_resultAt_12 : decode cL_resultAt 12 = .ok (.astore_n 3, 1) := by decide +kernel
theorem dL_resultAt_13 : decode cL_resultAt 13 = .ok (.iconst 1, 1) := by decide +kernel
theorem dL_resultAt_14 : decode cL_resultAt 14 = .ok (.ireturn, 1) := by decide +kernel
theorem dL_resultAt_15 : decode cL_resultAt 15 = .ok (.iconst 0, 1) := by decide +kernel
theorem dL_resultAt_16 : decode cL_resultAt 16 = .ok (.ireturn, 1) := by decide +kernel
set_option maxRecDepth 20000 in
theorem ggL_scoreAt_X10_scoreAt : GoodIn wsL_scoreAt wsX10_scoreAt := goodIn_ca (goodIn_r _ [6, 7, 8, 9, 10, 11, 12, 13, 14, 15, 16, 17, 18, 19, 20, 21, 22, 23, 24, 25, 26, 27, 28, 29, 30, 31, 32, 33, 34, 35] (by decide +kernel) (by decide +kernel)) (goodIn_sub (fun _ h => List.mem_cons_of_mem _ (List.mem_append_right _ h)) (by decide +kernel))
set_option maxRecDepth 20000 in
theorem gL_scoreAt_X10_scoreAt : GoodIn wsL_scoreAt (wsV RL 100 RX10 yX10_scoreAt wsX10_scoreAt) := goodIn_app (goodIn_of _ (by decide +kernel)) ggL_scoreAt_X10_scoreAt
theorem dL_scoreAt_0 : decode cL_scoreAt 0 = .ok (.aload_n 2, 1) := by decide +kernel
theorem dL_scoreAt_1 : decode cL_scoreAt 1 = .ok (.iconst 0, 1) := by decide +kernel
theorem dL_scoreAt_2 : decode cL_scoreAt 2 = .ok (.aload_n 0, 1) := by decide +kernel
theorem dL_scoreAt_3 : decode cL_scoreAt 3 = .ok (.iload_n 1, 1) := by decide +kernel
theorem dL_scoreAt_4 : decode cL_scoreAt 4 = .ok (.invokevirtual 100, 3) := by decide +kernel
theorem dL_scoreAt_7 : decode cL_scoreAt 7 = .ok (.i2l, 1) := by decide +kernel
theorem dL_scoreAt_8 : decode cL_scoreAt 8 = .ok (.lastore, 1) := by decide +kernel
theorem dL_scoreAt_9 : decode cL_scoreAt 9 = .ok (.goto 6, 3) := by decide +kernel
theorem dL_scoreAt_12 : decode cL_scoreAt 12 = .ok (.astore_n 3, 1) := by decide +kernel
theorem dL_scoreAt_13 : decode cL_scoreAt 13 = .ok (.iconst 1, 1) := by decide +kernel
theorem dL_scoreAt_14 : decode cL_scoreAt 14 = .ok (.ireturn, 1) := by decide +kernel
theorem dL_scoreAt_15 : decode cL_scoreAt 15 = .ok (.iconst 0, 1) := by decide +kernel
theorem dL_scoreAt_16 : decode cL_scoreAt 16 = .ok (.ireturn, 1) := by decide +kernel
set_option maxRecDepth 20000 in
theorem ggL_ofKind_X10_ofKind : GoodIn wsL_ofKind wsX10_ofKind := goodIn_ca (goodIn_r _ [6, 7, 8, 9, 10, 11, 5, 12, 13, 14, 15, 16, 17, 18, 19, 20, 21, 22, 23, 24, 25, 26, 27, 28, 29, 30, 31, 32, 33, 34, 35, 36, 37, 38, 39, 40, 41, 42, 43, 44, 45, 46, 47] (by decide +kernel) (by decide +kernel)) (goodIn_sub (fun _ h => List.mem_cons_of_mem _ (List.mem_append_right _ h)) (by decide +kernel))
set_option maxRecDepth 20000 in
theorem gL_ofKind_X10_ofKind : GoodIn wsL_ofKind (wsV RL 103 RX10 yX10_ofKind wsX10_ofKind) := goodIn_app (goodIn_of _ (by decide +kernel)) ggL_ofKind_X10_ofKind
theorem dL_ofKind_0 : decode cL_ofKind 0 = .ok (.aload_n 2, 1) := by decide +kernel
theorem dL_ofKind_1 : decode cL_ofKind 1 = .ok (.iconst 0, 1) := by decide +kernel
theorem dL_ofKind_2 : decode cL_ofKind 2 = .ok (.aload_n 0, 1) := by decide +kernel
theorem dL_ofKind_3 : decode cL_ofKind 3 = .ok (.iload_n 1, 1) := by decide +kernel
theorem dL_ofKind_4 : decode cL_ofKind 4 = .ok (.invokevirtual 103, 3) := by decide +kernel
theorem dL_ofKind_7 : decode cL_ofKind 7 = .ok (.i2l, 1) := by decide +kernel
theorem dL_ofKind_8 : decode cL_ofKind 8 = .ok (.lastore, 1) := by decide +kernel
theorem dL_ofKind_9 : decode cL_ofKind 9 = .ok (.goto 6, 3) := by decide +kernel
theorem dL_ofKind_12 : decode cL_ofKind 12 = .ok (.astore_n 3, 1) := by decide +kernel
theorem dL_ofKind_13 : decode cL_ofKind 13 = .ok (.iconst 1, 1) := by decide +kernel
theorem dL_ofKind_14 : decode cL_ofKind 14 = .ok (.ireturn, 1) := by decide +kernel
theorem dL_ofKind_15 : decode cL_ofKind 15 = .ok (.iconst 0, 1) := by decide +kernel
theorem dL_ofKind_16 : decode cL_ofKind 16 = .ok (.ireturn, 1) := by decide +kernel
set_option maxRecDepth 20000 in
theorem ggL_ofDates_X10_ofDates : GoodIn wsL_ofDates wsX10_ofDates := goodIn_ca (goodIn_r _ [6, 7, 8, 9, 10, 11, 5, 12, 13, 14, 15, 16, 17, 18, 19, 20, 21, 22, 23, 24, 25, 26, 27, 28, 29, 30, 31, 32, 33, 34, 35, 36, 37, 38, 39, 40, 41, 42, 43, 44, 45, 46, 47] (by decide +kernel) (by decide +kernel)) (goodIn_sub (fun _ h => List.mem_cons_of_mem _ (List.mem_append_right _ h)) (by decide +kernel))
set_option maxRecDepth 20000 in
theorem gL_ofDates_X10_ofDates : GoodIn wsL_ofDates (wsV RL 106 RX10 yX10_ofDates wsX10_ofDates) := goodIn_app (goodIn_of _ (by decide +kernel)) ggL_ofDates_X10_ofDates
theorem dL_ofDates_0 : decode cL_ofDates 0 = .ok (.aload_n 3, 1) := by decide +kernel
theorem dL_ofDates_1 : decode cL_ofDates 1 = .ok (.iconst 0, 1) := by decide +kernel
theorem dL_ofDates_2 : decode cL_ofDates 2 = .ok (.aload_n 0, 1) := by decide +kernel
theorem dL_ofDates_3 : decode cL_ofDates 3 = .ok (.iload_n 1, 1) := by decide +kernel
theorem dL_ofDates_4 : decode cL_ofDates 4 = .ok (.iload_n 2, 1) := by decide +kernel
theorem dL_ofDates_5 : decode cL_ofDates 5 = .ok (.invokevirtual 106, 3) := by decide +kernel
theorem dL_ofDates_8 : decode cL_ofDates 8 = .ok (.i2l, 1) := by decide +kernel
theorem dL_ofDates_9 : decode cL_ofDates 9 = .ok (.lastore, 1) := by decide +kernel
theorem dL_ofDates_10 : decode cL_ofDates 10 = .ok (.goto 7, 3) := by decide +kernel
theorem dL_ofDates_13 : decode cL_ofDates 13 = .ok (.astore 4, 2) := by decide +kernel
theorem dL_ofDates_15 : decode cL_ofDates 15 = .ok (.iconst 1, 1) := by decide +kernel
theorem dL_ofDates_16 : decode cL_ofDates 16 = .ok (.ireturn, 1) := by decide +kernel
theorem dL_ofDates_17 : decode cL_ofDates 17 = .ok (.iconst 0, 1) := by decide +kernel
theorem dL_ofDates_18 : decode cL_ofDates 18 = .ok (.ireturn, 1) := by decide +kernel
set_option maxRecDepth 20000 in
theorem ggL_window_X10_window : GoodIn wsL_window wsX10_window := goodIn_ca (goodIn_ca (goodIn_r _ [7, 8, 9, 10, 11, 12, 13, 14, 15, 16, 17, 18, 19, 20, 21, 22, 23, 24, 25, 26, 27, 28, 29, 30, 31, 32, 33, 34, 35, 36, 37, 38, 39, 40, 41, 42, 43, 44, 45, 46, 47, 48, 49, 50, 51, 52, 53, 54, 55, 56, 57, 58, 59, 60, 61, 62, 63, 64, 65, 66, 67, 68, 69, 70, 71, 72, 73, 74, 75, 76, 77, 78, 79, 80, 81, 82, 83, 84, 85, 86, 87, 88, 89, 90, 91, 92, 93, 94, 95, 96, 97, 98, 99, 100, 101, 102, 103, 104, 105, 106, 107, 108, 109, 110, 111, 112, 113, 114, 115, 116, 117, 118, 119, 120, 121, 122, 123, 124, 125, 126, 127, 128, 129, 130, 131, 132, 133, 134, 135, 136, 137, 138, 139, 140, 141, 142, 143, 144, 145, 146, 147, 148, 149, 150, 151, 152, 153, 154] (by decide +kernel) (by decide +kernel)) (goodIn_sub (fun _ h => List.mem_cons_of_mem _ (List.mem_append_left _ (List.mem_append_right _ h))) (by decide +kernel))) (goodIn_sub (fun _ h => List.mem_cons_of_mem _ (List.mem_append_right _ h)) (by decide +kernel))
set_option maxRecDepth 20000 in
theorem gL_window_X10_window : GoodIn wsL_window (wsV RL 109 RX10 yX10_window wsX10_window) := goodIn_app (goodIn_of _ (by decide +kernel)) ggL_window_X10_window
theorem dL_window_0 : decode cL_window 0 = .ok (.aload 5, 2) := by decide +kernel
theorem dL_window_2 : decode cL_window 2 = .ok (.iconst 0, 1) := by decide +kernel
theorem dL_window_3 : decode cL_window 3 = .ok (.aload_n 0, 1) := by decide +kernel
theorem dL_window_4 : decode cL_window 4 = .ok (.iload_n 1, 1) := by decide +kernel
theorem dL_window_5 : decode cL_window 5 = .ok (.iload_n 2, 1) := by decide +kernel
theorem dL_window_6 : decode cL_window 6 = .ok (.iload_n 3, 1) := by decide +kernel
theorem dL_window_7 : decode cL_window 7 = .ok (.iload 4, 2) := by decide +kernel
theorem dL_window_9 : decode cL_window 9 = .ok (.invokevirtual 109, 3) := by decide +kernel
theorem dL_window_12 : decode cL_window 12 = .ok (.i2l, 1) := by decide +kernel
theorem dL_window_13 : decode cL_window 13 = .ok (.lastore, 1) := by decide +kernel
theorem dL_window_14 : decode cL_window 14 = .ok (.goto 11, 3) := by decide +kernel
theorem dL_window_17 : decode cL_window 17 = .ok (.astore 6, 2) := by decide +kernel
theorem dL_window_19 : decode cL_window 19 = .ok (.iconst 1, 1) := by decide +kernel
theorem dL_window_20 : decode cL_window 20 = .ok (.ireturn, 1) := by decide +kernel
theorem dL_window_21 : decode cL_window 21 = .ok (.astore 6, 2) := by decide +kernel
theorem dL_window_23 : decode cL_window 23 = .ok (.iconst 2, 1) := by decide +kernel
theorem dL_window_24 : decode cL_window 24 = .ok (.ireturn, 1) := by decide +kernel
theorem dL_window_25 : decode cL_window 25 = .ok (.iconst 0, 1) := by decide +kernel
theorem dL_window_26 : decode cL_window 26 = .ok (.ireturn, 1) := by decide +kernel
set_option maxRecDepth 20000 in
theorem ggL_like_X10_like : GoodIn wsL_like wsX10_like := goodIn_ca (goodIn_r _ [6, 7, 8, 9, 10, 11, 12, 13, 14, 15, 16, 17, 18, 19, 20, 21, 22, 23, 24, 25, 26, 27, 28, 29, 30, 31, 32, 33, 34, 35, 36, 37, 38, 39, 40, 41, 42, 43, 44, 45, 46, 47, 48, 49, 50, 51, 52, 53, 54, 55, 56, 57, 58, 59, 60, 61, 62, 63, 64, 65, 66, 67, 68, 69, 70, 71, 72, 73, 74, 75, 76, 77, 78, 79, 80, 81, 82, 83, 84, 85, 86, 87, 88, 89, 90, 91, 92, 93, 94, 95, 96, 97, 98, 99, 100, 101, 102, 103, 104, 105, 106, 107, 108, 109, 110, 111, 112, 113, 114, 115, 116, 117, 118, 119, 120, 121, 122, 123, 124, 125, 126, 127] (by decide +kernel) (by decide +kernel)) (goodIn_sub (fun _ h => List.mem_cons_of_mem _ (List.mem_append_right _ h)) (by decide +kernel))
set_option maxRecDepth 20000 in
theorem gL_like_X10_like : GoodIn wsL_like (wsV RL 113 RX10 yX10_like wsX10_like) := goodIn_app (goodIn_of _ (by decide +kernel)) ggL_like_X10_like
theorem dL_like_0 : decode cL_like 0 = .ok (.aload_n 2, 1) := by decide +kernel
theorem dL_like_1 : decode cL_like 1 = .ok (.iconst 0, 1) := by decide +kernel
theorem dL_like_2 : decode cL_like 2 = .ok (.aload_n 0, 1) := by decide +kernel
theorem dL_like_3 : decode cL_like 3 = .ok (.iload_n 1, 1) := by decide +kernel
theorem dL_like_4 : decode cL_like 4 = .ok (.invokevirtual 113, 3) := by decide +kernel
theorem dL_like_7 : decode cL_like 7 = .ok (.i2l, 1) := by decide +kernel
theorem dL_like_8 : decode cL_like 8 = .ok (.lastore, 1) := by decide +kernel
theorem dL_like_9 : decode cL_like 9 = .ok (.goto 6, 3) := by decide +kernel
theorem dL_like_12 : decode cL_like 12 = .ok (.astore_n 3, 1) := by decide +kernel
theorem dL_like_13 : decode cL_like 13 = .ok (.iconst 1, 1) := by decide +kernel
theorem dL_like_14 : decode cL_like 14 = .ok (.ireturn, 1) := by decide +kernel
theorem dL_like_15 : decode cL_like 15 = .ok (.iconst 0, 1) := by decide +kernel
theorem dL_like_16 : decode cL_like 16 = .ok (.ireturn, 1) := by decide +kernel
set_option maxRecDepth 20000 in
theorem ggL_mate_X10_mate : GoodIn wsL_mate wsX10_mate := goodIn_ca (goodIn_r _ [6, 7, 8, 9, 10, 11, 12, 5, 13, 14, 15, 16, 17, 18, 19, 20, 21, 22, 23, 24, 25, 26, 27, 28, 29, 30, 31, 32, 33, 34, 35, 36, 37, 38, 39, 40, 41, 42, 43, 44, 45, 46, 47, 48, 49, 50, 51, 52, 53, 54, 55, 56, 57, 58, 59, 60, 61, 62, 63, 64, 65, 66, 67, 68, 69, 70, 71, 72, 73, 74, 75, 76, 77, 78, 79, 80, 81, 82, 83, 84, 85, 86, 87, 88, 89, 90, 91, 92, 93, 94, 95, 96, 97, 98, 99, 100, 101, 102, 103, 104, 105, 106, 107, 108, 109, 110, 111, 112, 113, 114, 115, 116, 117, 118, 119, 120, 121, 122, 123, 124, 125, 126] (by decide +kernel) (by decide +kernel)) (goodIn_sub (fun _ h => List.mem_cons_of_mem _ (List.mem_append_right _ h)) (by decide +kernel))
set_option maxRecDepth 20000 in
theorem gL_mate_X10_mate : GoodIn wsL_mate (wsV RL 116 RX10 yX10_mate wsX10_mate) := goodIn_app (goodIn_of _ (by decide +kernel)) ggL_mate_X10_mate
theorem dL_mate_0 : decode cL_mate 0 = .ok (.aload_n 2, 1) := by decide +kernel
theorem dL_mate_1 : decode cL_mate 1 = .ok (.iconst 0, 1) := by decide +kernel
theorem dL_mate_2 : decode cL_mate 2 = .ok (.aload_n 0, 1) := by decide +kernel
theorem dL_mate_3 : decode cL_mate 3 = .ok (.iload_n 1, 1) := by decide +kernel
theorem dL_mate_4 : decode cL_mate 4 = .ok (.invokevirtual 116, 3) := by decide +kernel
theorem dL_mate_7 : decode cL_mate 7 = .ok (.i2l, 1) := by decide +kernel
theorem dL_mate_8 : decode cL_mate 8 = .ok (.lastore, 1) := by decide +kernel
theorem dL_mate_9 : decode cL_mate 9 = .ok (.goto 6, 3) := by decide +kernel
theorem dL_mate_12 : decode cL_mate 12 = .ok (.astore_n 3, 1) := by decide +kernel
theorem dL_mate_13 : decode cL_mate 13 = .ok (.iconst 1, 1) := by decide +kernel
theorem dL_mate_14 : decode cL_mate 14 = .ok (.ireturn, 1) := by decide +kernel
theorem dL_mate_15 : decode cL_mate 15 = .ok (.iconst 0, 1) := by decide +kernel
theorem dL_mate_16 : decode cL_mate 16 = .ok (.ireturn, 1) := by decide +kernel
set_option maxRecDepth 20000 in
theorem ggL_cost_X10_cost : GoodIn wsL_cost wsX10_cost := goodIn_ca (goodIn_r _ [6, 7, 8, 9, 10, 11, 12, 13, 14, 15, 16, 17, 18, 19, 20, 21, 22, 23, 24, 25, 26, 27, 28, 29, 30, 31, 32, 33, 34, 35, 36, 37, 38, 39, 40, 41, 42, 43, 44, 45, 46, 47, 48, 49, 50, 51, 52, 53, 54, 55, 56, 57, 58, 59, 60, 61, 62, 63, 64, 65, 66, 67, 68, 69, 70, 71, 72, 73, 74, 75, 76, 77, 78, 79, 80, 81, 82, 83, 84, 85, 86, 87, 88, 89, 90, 91, 92, 93, 94, 95, 96, 97, 98, 99, 100, 101, 102, 103, 104, 105, 106, 107, 108, 109, 110, 111, 112, 113, 114, 115, 116, 117, 118, 119, 120, 121, 122, 123, 124, 125, 126, 127, 128, 129] (by decide +kernel) (by decide +kernel)) (goodIn_sub (fun _ h => List.mem_cons_of_mem _ (List.mem_append_right _ h)) (by decide +kernel))
set_option maxRecDepth 20000 in
theorem gL_cost_X10_cost : GoodIn wsL_cost (wsV RL 119 RX10 yX10_cost wsX10_cost) := goodIn_app (goodIn_of _ (by decide +kernel)) ggL_cost_X10_cost
theorem dL_cost_0 : decode cL_cost 0 = .ok (.aload_n 2, 1) := by decide +kernel
theorem dL_cost_1 : decode cL_cost 1 = .ok (.iconst 0, 1) := by decide +kernel
theorem dL_cost_2 : decode cL_cost 2 = .ok (.aload_n 0, 1) := by decide +kernel
theorem dL_cost_3 : decode cL_cost 3 = .ok (.iload_n 1, 1) := by decide +kernel
theorem dL_cost_4 : decode cL_cost 4 = .ok (.invokevirtual 119, 3) := by decide +kernel
theorem dL_cost_7 : decode cL_cost 7 = .ok (.i2l, 1) := by decide +kernel
theorem dL_cost_8 : decode cL_cost 8 = .ok (.lastore, 1) := by decide +kernel
theorem dL_cost_9 : decode cL_cost 9 = .ok (.goto 6, 3) := by decide +kernel
theorem dL_cost_12 : decode cL_cost 12 = .ok (.astore_n 3, 1) := by decide +kernel
theorem dL_cost_13 : decode cL_cost 13 = .ok (.iconst 1, 1) := by decide +kernel
theorem dL_cost_14 : decode cL_cost 14 = .ok (.ireturn, 1) := by decide +kernel
theorem dL_cost_15 : decode cL_cost 15 = .ok (.iconst 0, 1) := by decide +kernel
theorem dL_cost_16 : decode cL_cost 16 = .ok (.ireturn, 1) := by decide +kernel
set_option maxRecDepth 20000 in
theorem ggL_byAlias_X10_byAlias : GoodIn wsL_byAlias wsX10_byAlias := goodIn_ca (goodIn_r _ [6, 7, 8, 9, 10, 11, 12, 13, 14, 15, 16, 17, 18, 19, 20, 21, 22, 23, 24, 25, 26, 27, 28, 29, 30, 31, 32, 33, 34, 35, 36, 37, 38, 39, 40, 41, 42, 43, 44, 45, 46, 47, 48, 49, 50, 51, 52, 53, 54, 55, 56, 57, 58, 59, 60, 61, 62, 63, 64, 65, 66, 67, 68, 69, 70, 71, 72, 73, 74, 75, 76, 77, 78, 79, 80, 81, 82, 83, 84, 85, 86, 87, 88, 89, 90, 91, 92, 93, 94, 95, 96, 97, 98, 99, 100, 101, 102, 103, 104, 105, 106, 107, 108, 109, 110, 111, 112, 113, 114, 115, 116, 117, 118, 119, 120, 121, 122, 123, 124, 125, 126, 127, 128, 129, 130, 131, 132, 133, 134, 135, 136, 137, 138, 139, 140, 141, 142, 143, 144, 145, 146, 147, 148, 149, 150, 151, 152, 153, 154, 155, 156, 157, 158, 159, 160, 161, 162, 163, 164, 165, 166, 167, 168, 169, 170, 171, 172, 173, 174, 175, 176, 177, 178, 179, 180, 181, 182, 183, 184, 185, 186, 187, 188, 189, 190, 191, 192, 193, 194, 195, 196, 197, 198, 199, 200, 201, 202, 203, 204, 205, 206, 207, 208, 209, 210, 211, 212, 213, 214, 215, 216, 217, 218, 219, 220, 221, 222, 223, 224, 225, 226, 227, 228, 229, 230, 231, 232, 233, 234, 235, 236, 237, 238, 239, 240, 241, 242, 243, 244] (by decide +kernel) (by decide +kernel)) (goodIn_sub (fun _ h => List.mem_cons_of_mem _ (List.mem_append_right _ h)) (by decide +kernel))
set_option maxRecDepth 20000 in
theorem gL_byAlias_X10_byAlias : GoodIn wsL_byAlias (wsV RL 122 RX10 yX10_byAlias wsX10_byAlias) := goodIn_app (goodIn_of _ (by decide +kernel)) ggL_byAlias_X10_byAlias
theorem dL_byAlias_0 : decode cL_byAlias 0 = .ok (.aload_n 2, 1) := by decide +kernel
theorem dL_byAlias_1 : decode cL_byAlias 1 = .ok (.iconst 0, 1) := by decide +kernel
theorem dL_byAlias_2 : decode cL_byAlias 2 = .ok (.aload_n 0, 1) := by decide +kernel
theorem dL_byAlias_3 : decode cL_byAlias 3 = .ok (.iload_n 1, 1) := by decide +kernel
theorem dL_byAlias_4 : decode cL_byAlias 4 = .ok (.invokevirtual 122, 3) := by decide +kernel
theorem dL_byAlias_7 : decode cL_byAlias 7 = .ok (.i2l, 1) := by decide +kernel
theorem dL_byAlias_8 : decode cL_byAlias 8 = .ok (.lastore, 1) := by decide +kernel
theorem dL_byAlias_9 : decode cL_byAlias 9 = .ok (.goto 6, 3) := by decide +kernel
theorem dL_byAlias_12 : decode cL_byAlias 12 = .ok (.astore_n 3, 1) := by decide +kernel
theorem dL_byAlias_13 : decode cL_byAlias 13 = .ok (.iconst 1, 1) := by decide +kernel
theorem dL_byAlias_14 : decode cL_byAlias 14 = .ok (.ireturn, 1) := by decide +kernel
theorem dL_byAlias_15 : decode cL_byAlias 15 = .ok (.iconst 0, 1) := by decide +kernel
theorem dL_byAlias_16 : decode cL_byAlias 16 = .ok (.ireturn, 1) := by decide +kernel
set_option maxRecDepth 20000 in
theorem ggL_wouldScore_X10_wouldScore : GoodIn wsL_wouldScore wsX10_wouldScore := goodIn_ca (goodIn_r _ [6, 7, 8, 9, 10, 11, 12, 13, 14, 15, 16, 17, 18, 19, 20, 21, 22, 23, 24, 25, 26, 27, 28, 29, 30, 31, 32, 33, 34, 35, 36, 37, 38, 39, 40, 41, 42, 43, 44, 45, 46, 47, 48, 49, 50, 51, 52, 53, 54, 55, 56, 57, 58, 59, 60, 61, 62, 63, 64, 65, 66, 67, 68, 69, 70, 71, 72, 73, 74, 75, 76, 77, 78, 79, 80, 81, 82, 83, 84, 85, 86, 87, 88, 89, 90, 91, 92, 93, 94, 95, 96, 97, 98, 99, 100, 101, 102, 103, 104, 105, 106, 107, 108, 109, 110, 111, 112, 113, 114, 115, 116, 117, 118, 119, 120, 121, 122, 123, 124, 125, 126, 127, 128, 129, 130, 131, 132, 133, 134, 135, 136, 137, 138, 139, 140, 141, 142, 143, 144, 145, 146, 147, 148, 149, 150, 151, 152, 153, 154, 155, 156, 157, 158, 159, 160, 161, 162, 163, 164, 165, 166, 167, 168, 169, 170, 171, 172, 173, 174, 175, 176, 177, 178, 179, 180, 181, 182, 183, 184, 185, 186, 187, 188, 189, 190, 191, 192, 193, 194, 195, 196, 197, 198, 199, 200, 201, 202, 203, 204, 205, 206, 207, 208, 209, 210, 211, 212, 213, 214, 215, 216, 217, 218, 219, 220, 221, 222, 223, 224, 225, 226, 227, 228, 229, 230, 231, 232, 233, 234, 235, 236, 237, 238, 239, 240, 241, 242, 243, 244, 245, 246, 247, 248, 249, 250, 251, 252, 253, 254, 255, 256, 257, 258, 259, 260, 261, 262] (by decide +kernel) (by decide +kernel)) (goodIn_sub (fun _ h => List.mem_cons_of_mem _ (List.mem_append_right _ h)) (by decide +kernel))
set_option maxRecDepth 20000 in
theorem gL_wouldScore_X10_wouldScore : GoodIn wsL_wouldScore (wsV RL 125 RX10 yX10_wouldScore wsX10_wouldScore) := goodIn_app (goodIn_of _ (by decide +kernel)) ggL_wouldScore_X10_wouldScore
theorem dL_wouldScore_0 : decode cL_wouldScore 0 = .ok (.aload_n 3, 1) := by decide +kernel
theorem dL_wouldScore_1 : decode cL_wouldScore 1 = .ok (.iconst 0, 1) := by decide +kernel
theorem dL_wouldScore_2 : decode cL_wouldScore 2 = .ok (.aload_n 0, 1) := by decide +kernel
theorem dL_wouldScore_3 : decode cL_wouldScore 3 = .ok (.iload_n 1, 1) := by decide +kernel
theorem dL_wouldScore_4 : decode cL_wouldScore 4 = .ok (.iload_n 2, 1) := by decide +kernel
theorem dL_wouldScore_5 : decode cL_wouldScore 5 = .ok (.invokevirtual 125, 3) := by decide +kernel
theorem dL_wouldScore_8 : decode cL_wouldScore 8 = .ok (.i2l, 1) := by decide +kernel
theorem dL_wouldScore_9 : decode cL_wouldScore 9 = .ok (.lastore, 1) := by decide +kernel
theorem dL_wouldScore_10 : decode cL_wouldScore 10 = .ok (.goto 7, 3) := by decide +kernel
theorem dL_wouldScore_13 : decode cL_wouldScore 13 = .ok (.astore 4, 2) := by decide +kernel
theorem dL_wouldScore_15 : decode cL_wouldScore 15 = .ok (.iconst 1, 1) := by decide +kernel
theorem dL_wouldScore_16 : decode cL_wouldScore 16 = .ok (.ireturn, 1) := by decide +kernel
theorem dL_wouldScore_17 : decode cL_wouldScore 17 = .ok (.iconst 0, 1) := by decide +kernel
theorem dL_wouldScore_18 : decode cL_wouldScore 18 = .ok (.ireturn, 1) := by decide +kernel
set_option maxRecDepth 20000 in
theorem ggL_law_X10_init : GoodIn wsL_law wsX10_init := goodIn_r _ [9, 10, 11, 12, 13, 14, 15, 16, 17, 18, 19, 20, 21, 22, 23, 24, 25, 26, 27, 28, 29, 30, 31, 32, 33, 34, 35, 36, 37, 38, 39, 40, 41, 42, 43, 44, 45, 46, 47, 48, 49, 50, 51, 52, 53, 54, 55, 56, 57, 58, 59, 60, 61, 62, 63, 64, 65, 66, 67, 68, 69, 70, 71, 72, 73, 74, 75, 76, 77, 78, 79, 80, 81, 82, 83, 84, 85, 86, 87, 88, 89, 90, 91, 92, 93, 94, 95, 96, 97, 98, 99, 100, 101, 102, 103, 104, 105, 106, 107, 108, 1323, 1324, 1325, 1326, 1327, 1328, 1283, 1284, 1285, 1286, 1287, 1288, 1289, 1290, 1291, 1292, 1329, 1330, 1331, 1332, 1333, 1334, 1335, 1336, 1337, 1338, 1339, 1340, 1341, 1342, 1343, 1344, 1345, 1346, 1347, 1348, 1349, 1350, 1351, 1352, 1353, 1354] (by decide +kernel) (by decide +kernel)
set_option maxRecDepth 20000 in
theorem gL_law_X10_init : GoodIn wsL_law (wsX10_init) := ggL_law_X10_init
set_option maxRecDepth 20000 in
theorem ggL_law_X11_init : GoodIn wsL_law wsX11_init := goodIn_r _ [111, 112, 11, 12, 45, 113, 114, 65, 115, 116, 117, 118, 119, 120, 121, 122, 123, 124, 125, 126, 127, 128, 129, 130, 131, 132, 133, 1293, 1294, 1295, 1296, 1297, 1298, 1299, 1300, 1301, 1302, 1303, 1304, 1305, 1306, 1307, 1308, 1309, 1310, 1311, 1312, 1313, 1314, 1315, 1316, 1317, 1318, 1319, 1320, 1321, 1322] (by decide +kernel) (by decide +kernel)
set_option maxRecDepth 20000 in
theorem gL_law_X11_init : GoodIn wsL_law (wsX11_init) := ggL_law_X11_init
set_option maxRecDepth 20000 in
theorem ggL_law_L_open : GoodIn wsL_law wsL_open := goodIn_ca (goodIn_ca (goodIn_r _ [137, 138, 139, 140, 141, 142, 2, 143, 144, 145, 146, 147, 16, 148, 149, 150, 151, 152, 153, 154, 155, 156, 157, 158, 159, 160, 161, 15, 162, 163, 51, 164, 165, 166, 167, 11, 12, 168, 169, 170, 171, 172, 173, 174, 175, 176, 177, 45, 178, 179, 180, 1283, 1284, 1285, 1286, 1287, 1288, 1289, 1290, 1291, 1292, 1323, 1324, 1325, 1326, 1327, 1328, 1355, 1356, 1357, 1358, 1359, 1360, 1361, 1362, 1363, 1364] (by decide +kernel) (by decide +kernel)) (goodIn_sub (fun _ h => List.mem_append_left _ (List.mem_append_left _ (List.mem_append_right _ h))) (by decide +kernel))) (goodIn_sub (fun _ h => List.mem_append_left _ (List.mem_append_right _ h)) (by decide +kernel))
set_option maxRecDepth 20000 in
theorem gL_law_L_open : GoodIn wsL_law (va_wsS RL 132 yL_open wsL_open) := goodIn_app (goodIn_of _ (by decide +kernel)) ggL_law_L_open
set_option maxRecDepth 20000 in
theorem ggL_law_X11_open : GoodIn wsL_law wsX11_open := goodIn_r _ [184, 185, 186, 187, 113, 114, 188, 189, 5, 190, 191, 192, 193, 194, 1293, 1294, 1295, 1296, 1297, 1298, 1299, 1300, 1301, 1302, 1303, 1304, 1305, 1306, 1307, 1308, 1309, 1310, 1311, 1312, 1313, 1314, 1315, 1316, 1317, 1318, 1319, 1320, 1321, 1322] (by decide +kernel) (by decide +kernel)
set_option maxRecDepth 20000 in
theorem gL_law_X11_open : GoodIn wsL_law (wsV RL 137 RX11 yX11_open wsX11_open) := goodIn_app (goodIn_of _ (by decide +kernel)) ggL_law_X11_open
set_option maxRecDepth 20000 in
theorem ggL_law_X11_thrown : GoodIn wsL_law wsX11_thrown := goodIn_r _ [198, 185, 1293, 1294, 1295, 1296, 1297, 1298, 1299, 1300, 1301, 1302, 1303, 1304, 1305, 1306, 1307, 1308, 1309, 1310, 1311, 1312, 1313, 1314, 1315, 1316, 1317, 1318, 1319, 1320, 1321, 1322] (by decide +kernel) (by decide +kernel)
set_option maxRecDepth 20000 in
theorem gL_law_X11_thrown : GoodIn wsL_law (wsV RL 138 RX11 yX11_thrown wsX11_thrown) := goodIn_app (goodIn_of _ (by decide +kernel)) ggL_law_X11_thrown
set_option maxRecDepth 20000 in
theorem ggL_law_L_write : GoodIn wsL_law wsL_write := goodIn_ca (goodIn_ca (goodIn_r _ [201, 138, 139, 202, 203, 204, 2, 205, 144, 145, 146, 147, 16, 148, 206, 207, 208, 209, 210, 211, 212, 213, 214, 215, 151, 216, 169, 217, 218, 219, 174, 220, 221, 178, 222, 223, 224, 225, 180, 226, 179, 227, 228, 229, 230, 231, 1283, 1284, 1285, 1286, 1287, 1288, 1289, 1290, 1291, 1292, 1323, 1324, 1325, 1326, 1327, 1328, 1360, 1361, 1362, 1363, 1364, 1355, 1356, 1357, 1358, 1359] (by decide +kernel) (by decide +kernel)) (goodIn_sub (fun _ h => List.mem_append_left _ (List.mem_append_left _ (List.mem_append_right _ h))) (by decide +kernel))) (goodIn_sub (fun _ h => List.mem_append_left _ (List.mem_append_right _ h)) (by decide +kernel))
set_option maxRecDepth 20000 in
theorem gL_law_L_write : GoodIn wsL_law (va_wsS RL 141 yL_write wsL_write) := goodIn_app (goodIn_of _ (by decide +kernel)) ggL_law_L_write
set_option maxRecDepth 20000 in
theorem ggL_law_X11_write : GoodIn wsL_law wsX11_write := goodIn_r _ [235, 185, 186, 117, 187, 118, 236, 237, 5, 238, 188, 189, 190, 239, 240, 241, 191, 192, 193, 194, 1293, 1294, 1295, 1296, 1297, 1298, 1299, 1300, 1301, 1302, 1303, 1304, 1305, 1306, 1307, 1308, 1309, 1310, 1311, 1312, 1313, 1314, 1315, 1316, 1317, 1318, 1319, 1320, 1321, 1322] (by decide +kernel) (by decide +kernel)
set_option maxRecDepth 20000 in
theorem gL_law_X11_write : GoodIn wsL_law (wsV RL 143 RX11 yX11_write wsX11_write) := goodIn_app (goodIn_of _ (by decide +kernel)) ggL_law_X11_write
set_option maxRecDepth 20000 in
theorem ggL_law_L_close : GoodIn wsL_law wsL_close := goodIn_ca (goodIn_r _ [244, 139, 245, 246, 247, 2, 248, 146, 147, 16, 148, 249, 250, 251, 15, 252, 51, 163, 253, 254, 160, 161, 162, 255, 256, 257, 258, 259, 260, 261, 262, 263, 264, 265, 266, 267, 1283, 1284, 1285, 1286, 1287, 1288, 1289, 1290, 1291, 1292, 1323, 1324, 1325, 1326, 1327, 1328, 1355, 1356, 1357, 1358, 1359] (by decide +kernel) (by decide +kernel)) (goodIn_sub (fun _ h => List.mem_append_left _ (List.mem_append_right _ h)) (by decide +kernel))
set_option maxRecDepth 20000 in
theorem gL_law_L_close : GoodIn wsL_law (va_wsS RL 144 yL_close wsL_close) := goodIn_app (goodIn_of _ (by decide +kernel)) ggL_law_L_close
set_option maxRecDepth 20000 in
theorem ggL_law_X11_close : GoodIn wsL_law wsX11_close := goodIn_r _ [271, 185, 186, 187, 272, 191, 192, 193, 5, 194, 1293, 1294, 1295, 1296, 1297, 1298, 1299, 1300, 1301, 1302, 1303, 1304, 1305, 1306, 1307, 1308, 1309, 1310, 1311, 1312, 1313, 1314, 1315, 1316, 1317, 1318, 1319, 1320, 1321, 1322] (by decide +kernel) (by decide +kernel)
set_option maxRecDepth 20000 in
theorem gL_law_X11_close : GoodIn wsL_law (wsV RL 147 RX11 yX11_close wsX11_close) := goodIn_app (goodIn_of _ (by decide +kernel)) ggL_law_X11_close
set_option maxRecDepth 20000 in
theorem ggL_law_L_remove : GoodIn wsL_law wsL_remove := goodIn_ca (goodIn_r _ [275, 276, 277, 278, 279, 2, 280, 281, 282, 16, 283, 284, 265, 266, 15, 267, 163, 51, 1283, 1284, 1285, 1286, 1287, 1288, 1289, 1290, 1291, 1292, 1355, 1356, 1357, 1358, 1359, 1323, 1324, 1325, 1326, 1327, 1328] (by decide +kernel) (by decide +kernel)) (goodIn_sub (fun _ h => List.mem_append_right _ h) (by decide +kernel))
set_option maxRecDepth 20000 in
theorem gL_law_L_remove : GoodIn wsL_law (va_wsS RL 148 yL_remove wsL_remove) := goodIn_app (goodIn_of _ (by decide +kernel)) ggL_law_L_remove
set_option maxRecDepth 20000 in
theorem ggL_law_X11_remove : GoodIn wsL_law wsX11_remove := goodIn_r _ [288, 185, 115, 289, 290, 291, 5, 292, 187, 188, 189, 190, 1293, 1294, 1295, 1296, 1297, 1298, 1299, 1300, 1301, 1302, 1303, 1304, 1305, 1306, 1307, 1308, 1309, 1310, 1311, 1312, 1313, 1314, 1315, 1316, 1317, 1318, 1319, 1320, 1321, 1322] (by decide +kernel) (by decide +kernel)
set_option maxRecDepth 20000 in
theorem gL_law_X11_remove : GoodIn wsL_law (wsV RL 151 RX11 yX11_remove wsX11_remove) := goodIn_app (goodIn_of _ (by decide +kernel)) ggL_law_X11_remove
set_option maxRecDepth 20000 in
theorem ggL_law_L_setMute : GoodIn wsL_law wsL_setMute := goodIn_ca (goodIn_r _ [295, 138, 296, 297, 298, 2, 299, 144, 145, 20, 210, 211, 212, 300, 301, 302, 19, 303, 66, 304, 305, 306, 307, 1283, 1284, 1285, 1286, 1287, 1288, 1289, 1290, 1291, 1292, 1329, 1330, 1331] (by decide +kernel) (by decide +kernel)) (goodIn_sub (fun _ h => List.mem_append_left _ (List.mem_append_left _ (List.mem_append_right _ h))) (by decide +kernel))
set_option maxRecDepth 20000 in
theorem gL_law_L_setMute : GoodIn wsL_law (va_wsS RL 152 yL_setMute wsL_setMute) := goodIn_app (goodIn_of _ (by decide +kernel)) ggL_law_L_setMute
set_option maxRecDepth 20000 in
theorem ggL_law_X11_setMute : GoodIn wsL_law wsX11_setMute := goodIn_r _ [311, 185, 119, 239, 240, 5, 241, 188, 189, 190, 1293, 1294, 1295, 1296, 1297, 1298, 1299, 1300, 1301, 1302, 1303, 1304, 1305, 1306, 1307, 1308, 1309, 1310, 1311, 1312, 1313, 1314, 1315, 1316, 1317, 1318, 1319, 1320, 1321, 1322] (by decide +kernel) (by decide +kernel)
set_option maxRecDepth 20000 in
theorem gL_law_X11_setMute : GoodIn wsL_law (wsV RL 155 RX11 yX11_setMute wsX11_setMute) := goodIn_app (goodIn_of _ (by decide +kernel)) ggL_law_X11_setMute
set_option maxRecDepth 20000 in
theorem ggL_law_L_setAlias : GoodIn wsL_law wsL_setAlias := goodIn_ca (goodIn_r _ [314, 138, 315, 316, 317, 2, 318, 144, 145, 20, 210, 211, 212, 319, 320, 321, 19, 322, 67, 323, 324, 325, 326, 1283, 1284, 1285, 1286, 1287, 1288, 1289, 1290, 1291, 1292, 1329, 1330, 1331] (by decide +kernel) (by decide +kernel)) (goodIn_sub (fun _ h => List.mem_append_left _ (List.mem_append_left _ (List.mem_append_right _ h))) (by decide +kernel))
set_option maxRecDepth 20000 in
theorem gL_law_L_setAlias : GoodIn wsL_law (va_wsS RL 156 yL_setAlias wsL_setAlias) := goodIn_app (goodIn_of _ (by decide +kernel)) ggL_law_L_setAlias
set_option maxRecDepth 20000 in
theorem ggL_law_X11_setAlias : GoodIn wsL_law wsX11_setAlias := goodIn_r _ [330, 185, 120, 239, 240, 5, 241, 188, 189, 190, 191, 192, 193, 194, 1293, 1294, 1295, 1296, 1297, 1298, 1299, 1300, 1301, 1302, 1303, 1304, 1305, 1306, 1307, 1308, 1309, 1310, 1311, 1312, 1313, 1314, 1315, 1316, 1317, 1318, 1319, 1320, 1321, 1322] (by decide +kernel) (by decide +kernel)
set_option maxRecDepth 20000 in
theorem gL_law_X11_setAlias : GoodIn wsL_law (wsV RL 158 RX11 yX11_setAlias wsX11_setAlias) := goodIn_app (goodIn_of _ (by decide +kernel)) ggL_law_X11_setAlias
set_option maxRecDepth 20000 in
theorem ggL_law_L_setWeight : GoodIn wsL_law wsL_setWeight := goodIn_ca (goodIn_r _ [333, 138, 334, 335, 336, 2, 337, 144, 145, 20, 207, 208, 209, 338, 339, 340, 19, 341, 68, 342, 343, 344, 345, 1283, 1284, 1285, 1286, 1287, 1288, 1289, 1290, 1291, 1292, 1329, 1330, 1331] (by decide +kernel) (by decide +kernel)) (goodIn_sub (fun _ h => List.mem_append_left _ (List.mem_append_left _ (List.mem_append_right _ h))) (by decide +kernel))
set_option maxRecDepth 20000 in
theorem gL_law_L_setWeight : GoodIn wsL_law (va_wsS RL 159 yL_setWeight wsL_setWeight) := goodIn_app (goodIn_of _ (by decide +kernel)) ggL_law_L_setWeight
set_option maxRecDepth 20000 in
theorem ggL_law_X11_setWeight : GoodIn wsL_law wsX11_setWeight := goodIn_r _ [349, 185, 121, 236, 237, 5, 238, 188, 189, 190, 191, 192, 193, 194, 1293, 1294, 1295, 1296, 1297, 1298, 1299, 1300, 1301, 1302, 1303, 1304, 1305, 1306, 1307, 1308, 1309, 1310, 1311, 1312, 1313, 1314, 1315, 1316, 1317, 1318, 1319, 1320, 1321, 1322] (by decide +kernel) (by decide +kernel)
set_option maxRecDepth 20000 in
theorem gL_law_X11_setWeight : GoodIn wsL_law (wsV RL 161 RX11 yX11_setWeight wsX11_setWeight) := goodIn_app (goodIn_of _ (by decide +kernel)) ggL_law_X11_setWeight
set_option maxRecDepth 20000 in
theorem ggL_law_X10_documents : GoodIn wsL_law wsX10_documents := goodIn_r _ [353, 16, 152, 1283, 1284, 1285, 1286, 1287, 1288, 1289, 1290, 1291, 1292, 1323, 1324, 1325, 1326, 1327, 1328] (by decide +kernel) (by decide +kernel)
set_option maxRecDepth 20000 in
theorem gL_law_X10_documents : GoodIn wsL_law (wsV RL 162 RX10 yX10_documents wsX10_documents) := goodIn_app (goodIn_of _ (by decide +kernel)) ggL_law_X10_documents
set_option maxRecDepth 20000 in
theorem ggL_law_X11_documents : GoodIn wsL_law wsX11_documents := goodIn_r _ [357, 187, 358, 359, 360, 5, 361, 185, 1293, 1294, 1295, 1296, 1297, 1298, 1299, 1300, 1301, 1302, 1303, 1304, 1305, 1306, 1307, 1308, 1309, 1310, 1311, 1312, 1313, 1314, 1315, 1316, 1317, 1318, 1319, 1320, 1321, 1322] (by decide +kernel) (by decide +kernel)
set_option maxRecDepth 20000 in
theorem gL_law_X11_documents : GoodIn wsL_law (wsV RL 165 RX11 yX11_documents wsX11_documents) := goodIn_app (goodIn_of _ (by decide +kernel)) ggL_law_X11_documents
set_option maxRecDepth 20000 in
theorem ggL_law_L_stateOf : GoodIn wsL_law wsL_stateOf := goodIn_ca (goodIn_r _ [364, 276, 365, 366, 367, 2, 368, 281, 282, 16, 284, 265, 266, 15, 267, 163, 51, 369, 370, 371, 151, 372, 373, 374, 375, 376, 377, 170, 1283, 1284, 1285, 1286, 1287, 1288, 1289, 1290, 1291, 1292, 1323, 1324, 1325, 1326, 1327, 1328, 1355, 1356, 1357, 1358, 1359] (by decide +kernel) (by decide +kernel)) (goodIn_sub (fun _ h => List.mem_append_right _ h) (by decide +kernel))
set_option maxRecDepth 20000 in
theorem gL_law_L_stateOf : GoodIn wsL_law (va_wsS RL 166 yL_stateOf wsL_stateOf) := goodIn_app (goodIn_of _ (by decide +kernel)) ggL_law_L_stateOf
set_option maxRecDepth 20000 in
theorem ggL_law_X11_stateOf : GoodIn wsL_law wsX11_stateOf := goodIn_r _ [381, 185, 289, 290, 291, 5, 292, 187, 188, 189, 190, 382, 383, 384, 385, 115, 272, 191, 192, 193, 194, 1293, 1294, 1295, 1296, 1297, 1298, 1299, 1300, 1301, 1302, 1303, 1304, 1305, 1306, 1307, 1308, 1309, 1310, 1311, 1312, 1313, 1314, 1315, 1316, 1317, 1318, 1319, 1320, 1321, 1322] (by decide +kernel) (by decide +kernel)
set_option maxRecDepth 20000 in
theorem gL_law_X11_stateOf : GoodIn wsL_law (wsV RL 168 RX11 yX11_stateOf wsX11_stateOf) := goodIn_app (goodIn_of _ (by decide +kernel)) ggL_law_X11_stateOf
set_option maxRecDepth 20000 in
theorem ggL_law_L_termAt : GoodIn wsL_law wsL_termAt := goodIn_ca (goodIn_r _ [388, 276, 389, 390, 391, 2, 392, 281, 282, 16, 206, 284, 265, 266, 15, 267, 163, 51, 213, 214, 215, 151, 216, 169, 393, 394, 395, 174, 396, 221, 178, 1283, 1284, 1285, 1286, 1287, 1288, 1289, 1290, 1291, 1292, 1360, 1361, 1362, 1363, 1364, 1323, 1324, 1325, 1326, 1327, 1328, 1355, 1356, 1357, 1358, 1359] (by decide +kernel) (by decide +kernel)) (goodIn_sub (fun _ h => List.mem_append_right _ h) (by decide +kernel))
set_option maxRecDepth 20000 in
theorem gL_law_L_termAt : GoodIn wsL_law (va_wsS RL 169 yL_termAt wsL_termAt) := goodIn_app (goodIn_of _ (by decide +kernel)) ggL_law_L_termAt
set_option maxRecDepth 20000 in
theorem ggL_law_X11_termAt : GoodIn wsL_law wsX11_termAt := goodIn_r _ [400, 185, 289, 290, 291, 5, 292, 187, 188, 189, 190, 236, 237, 238, 401, 402, 403, 404, 117, 405, 406, 407, 408, 118, 191, 192, 193, 194, 1293, 1294, 1295, 1296, 1297, 1298, 1299, 1300, 1301, 1302, 1303, 1304, 1305, 1306, 1307, 1308, 1309, 1310, 1311, 1312, 1313, 1314, 1315, 1316, 1317, 1318, 1319, 1320, 1321, 1322] (by decide +kernel) (by decide +kernel)
set_option maxRecDepth 20000 in
theorem gL_law_X11_termAt : GoodIn wsL_law (wsV RL 172 RX11 yX11_termAt wsX11_termAt) := goodIn_app (goodIn_of _ (by decide +kernel)) ggL_law_X11_termAt
set_option maxRecDepth 20000 in
theorem ggL_law_X10_flush : GoodIn wsL_law wsX10_flush := goodIn_r _ [412, 16, 413, 414, 415, 15, 416, 417, 418, 256, 257, 258, 259, 260, 261, 262, 163, 263, 264, 265, 266, 267, 51, 419, 420, 421, 422, 52, 423, 424, 425, 426, 427, 428, 429, 430, 431, 432, 433, 434, 435, 436, 437, 438, 439, 440, 441, 442, 443, 54, 444, 445, 446, 35, 447, 448, 60, 59, 449, 70, 71, 72, 450, 375, 376, 151, 377, 170, 451, 452, 453, 454, 455, 456, 214, 215, 216, 169, 457, 458, 459, 460, 461, 462, 463, 174, 464, 226, 179, 1283, 1284, 1285, 1286, 1287, 1288, 1289, 1290, 1291, 1292, 1323, 1324, 1325, 1326, 1327, 1328, 1355, 1356, 1357, 1358, 1359, 1347, 1348, 1349, 1360, 1361, 1362, 1363, 1364] (by decide +kernel) (by decide +kernel)
set_option maxRecDepth 20000 in
theorem gL_law_X10_flush : GoodIn wsL_law (wsV RL 173 RX10 yX10_flush wsX10_flush) := goodIn_app (goodIn_of _ (by decide +kernel)) ggL_law_X10_flush
set_option maxRecDepth 20000 in
theorem ggL_law_X11_flush : GoodIn wsL_law wsX11_flush := goodIn_r _ [468, 185, 187, 272, 469, 123, 470, 116, 122, 471, 472, 473, 5, 474, 115, 1293, 1294, 1295, 1296, 1297, 1298, 1299, 1300, 1301, 1302, 1303, 1304, 1305, 1306, 1307, 1308, 1309, 1310, 1311, 1312, 1313, 1314, 1315, 1316, 1317, 1318, 1319, 1320, 1321, 1322] (by decide +kernel) (by decide +kernel)
set_option maxRecDepth 20000 in
theorem gL_law_X11_flush : GoodIn wsL_law (wsV RL 176 RX11 yX11_flush wsX11_flush) := goodIn_app (goodIn_of _ (by decide +kernel)) ggL_law_X11_flush
set_option maxRecDepth 20000 in
theorem ggL_law_X10_compact : GoodIn wsL_law wsX10_compact := goodIn_r _ [478, 16, 479, 480, 481, 15, 482, 417, 483, 484, 485, 486, 427, 428, 429, 430, 52, 431, 432, 433, 434, 435, 436, 437, 438, 163, 263, 439, 264, 265, 266, 267, 51, 440, 441, 442, 443, 54, 444, 445, 446, 35, 447, 448, 60, 59, 449, 70, 71, 72, 450, 375, 376, 151, 377, 170, 451, 452, 453, 454, 455, 456, 214, 215, 216, 169, 457, 458, 459, 460, 461, 462, 463, 174, 464, 226, 179, 1283, 1284, 1285, 1286, 1287, 1288, 1289, 1290, 1291, 1292, 1323, 1324, 1325, 1326, 1327, 1328, 1355, 1356, 1357, 1358, 1359, 1347, 1348, 1349, 1360, 1361, 1362, 1363, 1364] (by decide +kernel) (by decide +kernel)
set_option maxRecDepth 20000 in
theorem gL_law_X10_compact : GoodIn wsL_law (wsV RL 177 RX10 yX10_compact wsX10_compact) := goodIn_app (goodIn_of _ (by decide +kernel)) ggL_law_X10_compact
set_option maxRecDepth 20000 in
theorem ggL_law_X11_compact : GoodIn wsL_law wsX11_compact := goodIn_r _ [490, 185, 470, 122, 491, 484, 485, 486, 471, 472, 473, 5, 474, 469, 187, 123, 115, 116, 1293, 1294, 1295, 1296, 1297, 1298, 1299, 1300, 1301, 1302, 1303, 1304, 1305, 1306, 1307, 1308, 1309, 1310, 1311, 1312, 1313, 1314, 1315, 1316, 1317, 1318, 1319, 1320, 1321, 1322] (by decide +kernel) (by decide +kernel)
set_option maxRecDepth 20000 in
theorem gL_law_X11_compact : GoodIn wsL_law (wsV RL 180 RX11 yX11_compact wsX11_compact) := goodIn_app (goodIn_of _ (by decide +kernel)) ggL_law_X11_compact
set_option maxRecDepth 20000 in
theorem ggL_law_X10_segments : GoodIn wsL_law wsX10_segments := goodIn_r _ [495, 16, 496, 1283, 1284, 1285, 1286, 1287, 1288, 1289, 1290, 1291, 1292, 1323, 1324, 1325, 1326, 1327, 1328] (by decide +kernel) (by decide +kernel)
set_option maxRecDepth 20000 in
theorem gL_law_X10_segments : GoodIn wsL_law (wsV RL 181 RX10 yX10_segments wsX10_segments) := goodIn_app (goodIn_of _ (by decide +kernel)) ggL_law_X10_segments
set_option maxRecDepth 20000 in
theorem ggL_law_X11_segments : GoodIn wsL_law wsX11_segments := goodIn_r _ [500, 470, 358, 359, 360, 5, 361, 185, 1293, 1294, 1295, 1296, 1297, 1298, 1299, 1300, 1301, 1302, 1303, 1304, 1305, 1306, 1307, 1308, 1309, 1310, 1311, 1312, 1313, 1314, 1315, 1316, 1317, 1318, 1319, 1320, 1321, 1322] (by decide +kernel) (by decide +kernel)
set_option maxRecDepth 20000 in
theorem gL_law_X11_segments : GoodIn wsL_law (wsV RL 184 RX11 yX11_segments wsX11_segments) := goodIn_app (goodIn_of _ (by decide +kernel)) ggL_law_X11_segments
set_option maxRecDepth 20000 in
theorem ggL_law_L_tierOf : GoodIn wsL_law wsL_tierOf := goodIn_ca (goodIn_r _ [503, 276, 504, 505, 506, 2, 507, 281, 282, 16, 508, 432, 433, 15, 434, 417, 509, 428, 429, 430, 52, 431, 1283, 1284, 1285, 1286, 1287, 1288, 1289, 1290, 1291, 1292, 1323, 1324, 1325, 1326, 1327, 1328] (by decide +kernel) (by decide +kernel)) (goodIn_sub (fun _ h => List.mem_append_right _ h) (by decide +kernel))
set_option maxRecDepth 20000 in
theorem gL_law_L_tierOf : GoodIn wsL_law (va_wsS RL 185 yL_tierOf wsL_tierOf) := goodIn_app (goodIn_of _ (by decide +kernel)) ggL_law_L_tierOf
set_option maxRecDepth 20000 in
theorem ggL_law_X11_tierOf : GoodIn wsL_law wsX11_tierOf := goodIn_r _ [513, 185, 470, 122, 188, 189, 5, 190, 191, 192, 193, 194, 1293, 1294, 1295, 1296, 1297, 1298, 1299, 1300, 1301, 1302, 1303, 1304, 1305, 1306, 1307, 1308, 1309, 1310, 1311, 1312, 1313, 1314, 1315, 1316, 1317, 1318, 1319, 1320, 1321, 1322] (by decide +kernel) (by decide +kernel)
set_option maxRecDepth 20000 in
theorem gL_law_X11_tierOf : GoodIn wsL_law (wsV RL 187 RX11 yX11_tierOf wsX11_tierOf) := goodIn_app (goodIn_of _ (by decide +kernel)) ggL_law_X11_tierOf
set_option maxRecDepth 20000 in
theorem ggL_law_L_sizeOf : GoodIn wsL_law wsL_sizeOf := goodIn_ca (goodIn_r _ [516, 276, 517, 518, 519, 2, 520, 281, 282, 16, 508, 432, 433, 15, 434, 417, 521, 260, 261, 262, 163, 263, 264, 265, 266, 267, 51, 1283, 1284, 1285, 1286, 1287, 1288, 1289, 1290, 1291, 1292, 1323, 1324, 1325, 1326, 1327, 1328, 1355, 1356, 1357, 1358, 1359] (by decide +kernel) (by decide +kernel)) (goodIn_sub (fun _ h => List.mem_append_right _ h) (by decide +kernel))
set_option maxRecDepth 20000 in
theorem gL_law_L_sizeOf : GoodIn wsL_law (va_wsS RL 188 yL_sizeOf wsL_sizeOf) := goodIn_app (goodIn_of _ (by decide +kernel)) ggL_law_L_sizeOf
set_option maxRecDepth 20000 in
theorem ggL_law_X11_sizeOf : GoodIn wsL_law wsX11_sizeOf := goodIn_r _ [525, 185, 470, 188, 189, 5, 190, 526, 527, 528, 529, 187, 123, 191, 192, 193, 194, 1293, 1294, 1295, 1296, 1297, 1298, 1299, 1300, 1301, 1302, 1303, 1304, 1305, 1306, 1307, 1308, 1309, 1310, 1311, 1312, 1313, 1314, 1315, 1316, 1317, 1318, 1319, 1320, 1321, 1322] (by decide +kernel) (by decide +kernel)
set_option maxRecDepth 20000 in
theorem gL_law_X11_sizeOf : GoodIn wsL_law (wsV RL 190 RX11 yX11_sizeOf wsX11_sizeOf) := goodIn_app (goodIn_of _ (by decide +kernel)) ggL_law_X11_sizeOf
set_option maxRecDepth 20000 in
theorem ggL_law_L_spread : GoodIn wsL_law wsL_spread := goodIn_ca (goodIn_r _ [532, 138, 533, 534, 535, 2, 536, 144, 145, 16, 40, 210, 211, 212, 207, 208, 209, 537, 538, 539, 35, 540, 59, 1283, 1284, 1285, 1286, 1287, 1288, 1289, 1290, 1291, 1292, 1323, 1324, 1325, 1326, 1327, 1328, 1347, 1348, 1349] (by decide +kernel) (by decide +kernel)) (goodIn_sub (fun _ h => List.mem_append_left _ (List.mem_append_left _ (List.mem_append_right _ h))) (by decide +kernel))
set_option maxRecDepth 20000 in
theorem gL_law_L_spread : GoodIn wsL_law (va_wsS RL 191 yL_spread wsL_spread) := goodIn_app (goodIn_of _ (by decide +kernel)) ggL_law_L_spread
set_option maxRecDepth 20000 in
theorem ggL_law_X11_spread : GoodIn wsL_law wsX11_spread := goodIn_r _ [544, 185, 239, 240, 5, 241, 188, 189, 190, 236, 237, 238, 545, 546, 547, 548, 132, 549, 550, 551, 552, 469, 553, 131, 187, 116, 401, 402, 403, 404, 117, 405, 406, 407, 408, 118, 191, 192, 193, 194, 1293, 1294, 1295, 1296, 1297, 1298, 1299, 1300, 1301, 1302, 1303, 1304, 1305, 1306, 1307, 1308, 1309, 1310, 1311, 1312, 1313, 1314, 1315, 1316, 1317, 1318, 1319, 1320, 1321, 1322] (by decide +kernel) (by decide +kernel)
set_option maxRecDepth 20000 in
theorem gL_law_X11_spread : GoodIn wsL_law (wsV RL 193 RX11 yX11_spread wsX11_spread) := goodIn_app (goodIn_of _ (by decide +kernel)) ggL_law_X11_spread
set_option maxRecDepth 20000 in
theorem ggL_law_L_rare : GoodIn wsL_law wsL_rare := goodIn_ca (goodIn_r _ [556, 138, 557, 558, 559, 2, 560, 144, 145, 16, 40, 210, 211, 212, 207, 208, 209, 537, 538, 539, 35, 540, 59, 561, 562, 563, 564, 448, 1283, 1284, 1285, 1286, 1287, 1288, 1289, 1290, 1291, 1292, 1323, 1324, 1325, 1326, 1327, 1328, 1347, 1348, 1349] (by decide +kernel) (by decide +kernel)) (goodIn_sub (fun _ h => List.mem_append_left _ (List.mem_append_left _ (List.mem_append_right _ h))) (by decide +kernel))
set_option maxRecDepth 20000 in
theorem gL_law_L_rare : GoodIn wsL_law (va_wsS RL 194 yL_rare wsL_rare) := goodIn_app (goodIn_of _ (by decide +kernel)) ggL_law_L_rare
set_option maxRecDepth 20000 in
theorem ggL_law_X11_rare : GoodIn wsL_law wsX11_rare := goodIn_r _ [568, 185, 239, 240, 5, 241, 188, 189, 190, 236, 237, 238, 569, 570, 571, 572, 573, 574, 575, 576, 553, 549, 550, 551, 552, 469, 132, 131, 187, 116, 401, 402, 403, 404, 117, 405, 406, 407, 408, 118, 545, 546, 547, 548, 577, 578, 579, 191, 192, 193, 194, 1293, 1294, 1295, 1296, 1297, 1298, 1299, 1300, 1301, 1302, 1303, 1304, 1305, 1306, 1307, 1308, 1309, 1310, 1311, 1312, 1313, 1314, 1315, 1316, 1317, 1318, 1319, 1320, 1321, 1322] (by decide +kernel) (by decide +kernel)
set_option maxRecDepth 20000 in
theorem gL_law_X11_rare : GoodIn wsL_law (wsV RL 196 RX11 yX11_rare wsX11_rare) := goodIn_app (goodIn_of _ (by decide +kernel)) ggL_law_X11_rare
set_option maxRecDepth 20000 in
theorem ggL_law_L_term : GoodIn wsL_law wsL_term := goodIn_ca (goodIn_ca (goodIn_r _ [582, 138, 139, 583, 584, 585, 2, 586, 144, 145, 146, 147, 24, 587, 588, 589, 590, 591, 210, 211, 212, 592, 593, 594, 595, 596, 597, 23, 598, 599, 78, 600, 601, 602, 603, 11, 12, 604, 605, 606, 607, 608, 609, 1283, 1284, 1285, 1286, 1287, 1288, 1289, 1290, 1291, 1292, 1365, 1366, 1367, 1368, 1369, 1370, 1371, 1372, 1373, 1374, 1375, 1376, 1377, 1332, 1333, 1334, 1335, 1336] (by decide +kernel) (by decide +kernel)) (goodIn_sub (fun _ h => List.mem_append_left _ (List.mem_append_left _ (List.mem_append_right _ h))) (by decide +kernel))) (goodIn_sub (fun _ h => List.mem_append_left _ (List.mem_append_right _ h)) (by decide +kernel))
set_option maxRecDepth 20000 in
theorem gL_law_L_term : GoodIn wsL_law (va_wsS RL 197 yL_term wsL_term) := goodIn_app (goodIn_of _ (by decide +kernel)) ggL_law_L_term
set_option maxRecDepth 20000 in
theorem ggL_law_X11_term : GoodIn wsL_law wsX11_term := goodIn_r _ [613, 185, 614, 239, 240, 5, 241, 188, 189, 190, 191, 192, 193, 194, 615, 616, 617, 618, 124, 125, 126, 127, 1293, 1294, 1295, 1296, 1297, 1298, 1299, 1300, 1301, 1302, 1303, 1304, 1305, 1306, 1307, 1308, 1309, 1310, 1311, 1312, 1313, 1314, 1315, 1316, 1317, 1318, 1319, 1320, 1321, 1322] (by decide +kernel) (by decide +kernel)
set_option maxRecDepth 20000 in
theorem gL_law_X11_term : GoodIn wsL_law (wsV RL 199 RX11 yX11_term wsX11_term) := goodIn_app (goodIn_of _ (by decide +kernel)) ggL_law_X11_term
set_option maxRecDepth 20000 in
theorem ggL_law_L_and : GoodIn wsL_law wsL_and := goodIn_ca (goodIn_ca (goodIn_r _ [621, 276, 139, 622, 623, 624, 2, 625, 626, 627, 628, 629, 281, 282, 146, 147, 24, 587, 588, 589, 630, 631, 632, 633, 634, 23, 635, 636, 637, 638, 639, 599, 78, 595, 596, 597, 598, 600, 601, 602, 603, 11, 12, 604, 605, 606, 607, 608, 609, 1283, 1284, 1285, 1286, 1287, 1288, 1289, 1290, 1291, 1292, 1365, 1366, 1367, 1368, 1369, 1370, 1371, 1372, 1373, 1374, 1375, 1376, 1377, 1332, 1333, 1334, 1335, 1336] (by decide +kernel) (by decide +kernel)) (goodIn_sub (fun _ h => List.mem_append_right _ h) (by decide +kernel))) (goodIn_sub (fun _ h => List.mem_append_left _ (List.mem_append_right _ h)) (by decide +kernel))
set_option maxRecDepth 20000 in
theorem gL_law_L_and : GoodIn wsL_law (va_wsS RL 200 yL_and wsL_and) := goodIn_app (goodIn_of _ (by decide +kernel)) ggL_law_L_and
set_option maxRecDepth 20000 in
theorem ggL_law_X11_and : GoodIn wsL_law wsX11_and := goodIn_r _ [643, 644, 645, 646, 5, 647, 185, 614, 648, 649, 650, 651, 188, 189, 190, 191, 192, 193, 194, 615, 616, 617, 618, 124, 125, 126, 127, 1293, 1294, 1295, 1296, 1297, 1298, 1299, 1300, 1301, 1302, 1303, 1304, 1305, 1306, 1307, 1308, 1309, 1310, 1311, 1312, 1313, 1314, 1315, 1316, 1317, 1318, 1319, 1320, 1321, 1322] (by decide +kernel) (by decide +kernel)
set_option maxRecDepth 20000 in
theorem gL_law_X11_and : GoodIn wsL_law (wsV RL 202 RX11 yX11_and wsX11_and) := goodIn_app (goodIn_of _ (by decide +kernel)) ggL_law_X11_and
set_option maxRecDepth 20000 in
theorem ggL_law_L_or : GoodIn wsL_law wsL_or := goodIn_ca (goodIn_ca (goodIn_r _ [654, 276, 139, 655, 656, 657, 2, 658, 626, 627, 628, 629, 281, 282, 146, 147, 24, 587, 588, 589, 630, 631, 632, 633, 634, 23, 635, 636, 637, 638, 639, 599, 78, 595, 596, 597, 598, 600, 601, 602, 603, 11, 12, 604, 605, 606, 607, 608, 609, 1283, 1284, 1285, 1286, 1287, 1288, 1289, 1290, 1291, 1292, 1365, 1366, 1367, 1368, 1369, 1370, 1371, 1372, 1373, 1374, 1375, 1376, 1377, 1332, 1333, 1334, 1335, 1336] (by decide +kernel) (by decide +kernel)) (goodIn_sub (fun _ h => List.mem_append_right _ h) (by decide +kernel))) (goodIn_sub (fun _ h => List.mem_append_left _ (List.mem_append_right _ h)) (by decide +kernel))
set_option maxRecDepth 20000 in
theorem gL_law_L_or : GoodIn wsL_law (va_wsS RL 203 yL_or wsL_or) := goodIn_app (goodIn_of _ (by decide +kernel)) ggL_law_L_or
set_option maxRecDepth 20000 in
theorem ggL_law_X11_or : GoodIn wsL_law wsX11_or := goodIn_r _ [662, 644, 645, 646, 5, 647, 185, 614, 648, 649, 650, 651, 188, 189, 190, 191, 192, 193, 194, 615, 616, 617, 618, 124, 125, 126, 127, 1293, 1294, 1295, 1296, 1297, 1298, 1299, 1300, 1301, 1302, 1303, 1304, 1305, 1306, 1307, 1308, 1309, 1310, 1311, 1312, 1313, 1314, 1315, 1316, 1317, 1318, 1319, 1320, 1321, 1322] (by decide +kernel) (by decide +kernel)
set_option maxRecDepth 20000 in
theorem gL_law_X11_or : GoodIn wsL_law (wsV RL 205 RX11 yX11_or wsX11_or) := goodIn_app (goodIn_of _ (by decide +kernel)) ggL_law_X11_or
set_option maxRecDepth 20000 in
theorem ggL_law_L_not : GoodIn wsL_law wsL_not := goodIn_ca (goodIn_ca (goodIn_r _ [665, 276, 139, 666, 667, 668, 2, 669, 626, 627, 628, 629, 281, 282, 146, 147, 24, 587, 588, 589, 630, 631, 632, 633, 634, 23, 635, 636, 637, 638, 639, 599, 78, 595, 596, 597, 598, 600, 601, 602, 603, 11, 12, 604, 605, 606, 607, 608, 609, 1283, 1284, 1285, 1286, 1287, 1288, 1289, 1290, 1291, 1292, 1365, 1366, 1367, 1368, 1369, 1370, 1371, 1372, 1373, 1374, 1375, 1376, 1377, 1332, 1333, 1334, 1335, 1336] (by decide +kernel) (by decide +kernel)) (goodIn_sub (fun _ h => List.mem_append_right _ h) (by decide +kernel))) (goodIn_sub (fun _ h => List.mem_append_left _ (List.mem_append_right _ h)) (by decide +kernel))
set_option maxRecDepth 20000 in
theorem gL_law_L_not : GoodIn wsL_law (va_wsS RL 206 yL_not wsL_not) := goodIn_app (goodIn_of _ (by decide +kernel)) ggL_law_L_not
set_option maxRecDepth 20000 in
theorem ggL_law_X11_not : GoodIn wsL_law wsX11_not := goodIn_r _ [673, 644, 645, 646, 5, 647, 185, 614, 648, 649, 650, 651, 188, 189, 190, 191, 192, 193, 194, 615, 616, 617, 618, 124, 125, 126, 127, 1293, 1294, 1295, 1296, 1297, 1298, 1299, 1300, 1301, 1302, 1303, 1304, 1305, 1306, 1307, 1308, 1309, 1310, 1311, 1312, 1313, 1314, 1315, 1316, 1317, 1318, 1319, 1320, 1321, 1322] (by decide +kernel) (by decide +kernel)
set_option maxRecDepth 20000 in
theorem gL_law_X11_not : GoodIn wsL_law (wsV RL 208 RX11 yX11_not wsX11_not) := goodIn_app (goodIn_of _ (by decide +kernel)) ggL_law_X11_not
set_option maxRecDepth 20000 in
theorem ggL_law_L_near : GoodIn wsL_law wsL_near := goodIn_ca (goodIn_ca (goodIn_ca (goodIn_r _ [676, 276, 138, 139, 677, 678, 679, 2, 680, 281, 282, 144, 145, 146, 147, 24, 681, 587, 588, 589, 630, 631, 682, 683, 684, 637, 638, 23, 639, 599, 78, 595, 596, 597, 598, 600, 601, 602, 603, 11, 12, 604, 605, 606, 607, 608, 609, 1283, 1284, 1285, 1286, 1287, 1288, 1289, 1290, 1291, 1292, 1365, 1366, 1367, 1368, 1369, 1370, 1371, 1372, 1373, 1374, 1375, 1376, 1377, 1332, 1333, 1334, 1335, 1336] (by decide +kernel) (by decide +kernel)) (goodIn_sub (fun _ h => List.mem_append_right _ h) (by decide +kernel))) (goodIn_sub (fun _ h => List.mem_append_left _ (List.mem_append_left _ (List.mem_append_right _ h))) (by decide +kernel))) (goodIn_sub (fun _ h => List.mem_append_left _ (List.mem_append_right _ h)) (by decide +kernel))
set_option maxRecDepth 20000 in
theorem gL_law_L_near : GoodIn wsL_law (va_wsS RL 209 yL_near wsL_near) := goodIn_app (goodIn_of _ (by decide +kernel)) ggL_law_L_near
set_option maxRecDepth 20000 in
theorem ggL_law_X11_near : GoodIn wsL_law wsX11_near := goodIn_r _ [688, 185, 124, 614, 128, 648, 649, 650, 5, 651, 188, 189, 190, 191, 192, 193, 194, 615, 616, 617, 618, 125, 126, 127, 1293, 1294, 1295, 1296, 1297, 1298, 1299, 1300, 1301, 1302, 1303, 1304, 1305, 1306, 1307, 1308, 1309, 1310, 1311, 1312, 1313, 1314, 1315, 1316, 1317, 1318, 1319, 1320, 1321, 1322] (by decide +kernel) (by decide +kernel)
set_option maxRecDepth 20000 in
theorem gL_law_X11_near : GoodIn wsL_law (wsV RL 212 RX11 yX11_near wsX11_near) := goodIn_app (goodIn_of _ (by decide +kernel)) ggL_law_X11_near
set_option maxRecDepth 20000 in
theorem ggL_law_L_dated : GoodIn wsL_law wsL_dated := goodIn_ca (goodIn_ca (goodIn_r _ [691, 138, 139, 692, 693, 694, 2, 695, 144, 145, 146, 147, 24, 587, 588, 589, 696, 697, 153, 154, 155, 595, 596, 597, 23, 598, 599, 78, 600, 601, 602, 603, 11, 12, 604, 605, 606, 607, 608, 609, 1283, 1284, 1285, 1286, 1287, 1288, 1289, 1290, 1291, 1292, 1365, 1366, 1367, 1368, 1369, 1370, 1371, 1372, 1373, 1374, 1375, 1376, 1377, 1332, 1333, 1334, 1335, 1336] (by decide +kernel) (by decide +kernel)) (goodIn_sub (fun _ h => List.mem_append_left _ (List.mem_append_left _ (List.mem_append_right _ h))) (by decide +kernel))) (goodIn_sub (fun _ h => List.mem_append_left _ (List.mem_append_right _ h)) (by decide +kernel))
set_option maxRecDepth 20000 in
theorem gL_law_L_dated : GoodIn wsL_law (va_wsS RL 213 yL_dated wsL_dated) := goodIn_app (goodIn_of _ (by decide +kernel)) ggL_law_L_dated
set_option maxRecDepth 20000 in
theorem ggL_law_X11_dated : GoodIn wsL_law wsX11_dated := goodIn_r _ [701, 185, 614, 188, 189, 5, 190, 191, 192, 193, 194, 615, 616, 617, 618, 124, 125, 126, 127, 1293, 1294, 1295, 1296, 1297, 1298, 1299, 1300, 1301, 1302, 1303, 1304, 1305, 1306, 1307, 1308, 1309, 1310, 1311, 1312, 1313, 1314, 1315, 1316, 1317, 1318, 1319, 1320, 1321, 1322] (by decide +kernel) (by decide +kernel)
set_option maxRecDepth 20000 in
theorem gL_law_X11_dated : GoodIn wsL_law (wsV RL 215 RX11 yX11_dated wsX11_dated) := goodIn_app (goodIn_of _ (by decide +kernel)) ggL_law_X11_dated
set_option maxRecDepth 20000 in
theorem ggL_law_L_kind : GoodIn wsL_law wsL_kind := goodIn_ca (goodIn_ca (goodIn_r _ [704, 138, 139, 705, 706, 707, 2, 708, 144, 145, 146, 147, 24, 587, 588, 589, 709, 592, 593, 594, 595, 596, 597, 23, 598, 599, 78, 600, 601, 602, 603, 11, 12, 604, 605, 606, 607, 608, 609, 1283, 1284, 1285, 1286, 1287, 1288, 1289, 1290, 1291, 1292, 1365, 1366, 1367, 1368, 1369, 1370, 1371, 1372, 1373, 1374, 1375, 1376, 1377, 1332, 1333, 1334, 1335, 1336] (by decide +kernel) (by decide +kernel)) (goodIn_sub (fun _ h => List.mem_append_left _ (List.mem_append_left _ (List.mem_append_right _ h))) (by decide +kernel))) (goodIn_sub (fun _ h => List.mem_append_left _ (List.mem_append_right _ h)) (by decide +kernel))
set_option maxRecDepth 20000 in
theorem gL_law_L_kind : GoodIn wsL_law (va_wsS RL 216 yL_kind wsL_kind) := goodIn_app (goodIn_of _ (by decide +kernel)) ggL_law_L_kind
set_option maxRecDepth 20000 in
theorem ggL_law_X11_kind : GoodIn wsL_law wsX11_kind := goodIn_r _ [713, 185, 614, 188, 189, 5, 190, 191, 192, 193, 194, 615, 616, 617, 618, 124, 125, 126, 127, 1293, 1294, 1295, 1296, 1297, 1298, 1299, 1300, 1301, 1302, 1303, 1304, 1305, 1306, 1307, 1308, 1309, 1310, 1311, 1312, 1313, 1314, 1315, 1316, 1317, 1318, 1319, 1320, 1321, 1322] (by decide +kernel) (by decide +kernel)
set_option maxRecDepth 20000 in
theorem gL_law_X11_kind : GoodIn wsL_law (wsV RL 218 RX11 yX11_kind wsX11_kind) := goodIn_app (goodIn_of _ (by decide +kernel)) ggL_law_X11_kind
set_option maxRecDepth 20000 in
theorem ggL_law_L_scaled : GoodIn wsL_law wsL_scaled := goodIn_ca (goodIn_ca (goodIn_ca (goodIn_r _ [716, 276, 138, 139, 717, 718, 719, 2, 720, 281, 282, 144, 145, 146, 147, 24, 587, 588, 589, 630, 721, 632, 633, 634, 23, 635, 636, 637, 638, 639, 599, 78, 595, 596, 597, 598, 600, 601, 602, 603, 11, 12, 604, 605, 606, 607, 608, 609, 1283, 1284, 1285, 1286, 1287, 1288, 1289, 1290, 1291, 1292, 1365, 1366, 1367, 1368, 1369, 1370, 1371, 1372, 1373, 1374, 1375, 1376, 1377, 1332, 1333, 1334, 1335, 1336] (by decide +kernel) (by decide +kernel)) (goodIn_sub (fun _ h => List.mem_append_right _ h) (by decide +kernel))) (goodIn_sub (fun _ h => List.mem_append_left _ (List.mem_append_left _ (List.mem_append_right _ h))) (by decide +kernel))) (goodIn_sub (fun _ h => List.mem_append_left _ (List.mem_append_right _ h)) (by decide +kernel))
set_option maxRecDepth 20000 in
theorem gL_law_L_scaled : GoodIn wsL_law (va_wsS RL 219 yL_scaled wsL_scaled) := goodIn_app (goodIn_of _ (by decide +kernel)) ggL_law_L_scaled
set_option maxRecDepth 20000 in
theorem ggL_law_X11_scaled : GoodIn wsL_law wsX11_scaled := goodIn_r _ [725, 185, 614, 648, 649, 650, 5, 651, 188, 189, 190, 191, 192, 193, 194, 615, 616, 617, 618, 124, 125, 126, 127, 1293, 1294, 1295, 1296, 1297, 1298, 1299, 1300, 1301, 1302, 1303, 1304, 1305, 1306, 1307, 1308, 1309, 1310, 1311, 1312, 1313, 1314, 1315, 1316, 1317, 1318, 1319, 1320, 1321, 1322] (by decide +kernel) (by decide +kernel)
set_option maxRecDepth 20000 in
theorem gL_law_X11_scaled : GoodIn wsL_law (wsV RL 221 RX11 yX11_scaled wsX11_scaled) := goodIn_app (goodIn_of _ (by decide +kernel)) ggL_law_X11_scaled

