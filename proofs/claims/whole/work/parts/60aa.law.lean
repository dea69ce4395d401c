set_option maxRecDepth 20000 in
theorem ggL_open_X10_open : GoodIn wsL_open wsX10_open := goodIn_ca (goodIn_ca (goodIn_r _ [7, 8, 9, 10, 11, 12, 13, 14, 15, 16, 17, 18, 19, 6, 20, 21, 22, 23, 24, 25, 26, 27, 28, 29, 30, 31, 32, 33, 34, 35, 36, 37, 38, 39, 40, 41, 42, 43, 44, 45, 46, 47, 48, 49, 50, 51, 52, 53, 54, 55, 56, 57, 58, 59, 60, 61, 62, 63, 64, 65, 66, 67, 68, 69, 70, 71, 72, 73, 74, 75, 76] (by decide +kernel) (by decide +kernel)) (goodIn_sub (fun _ h => List.mem_cons_of_mem _ (List.mem_append_left _ (List.mem_append_right _ h))) (by decide +kernel))) (goodIn_sub (fun _ h => List.mem_cons_of_mem _ (List.mem_append_right _ h)) (by decide +kernel))
set_option maxRecDepth 20000 in
theorem gL_open_X10_open : GoodIn wsL_open (wsV RL 7 RX10 yX10_open wsX10_open) := goodIn_app (goodIn_of _ (by decide +kernel)) ggL_open_X10_open
theorem dL_open_0 : decode cL_open 0 = .ok (.aload_n 3, 1) := by decide +kernel
theorem dL_open_1 : decode cL_open 1 = .ok (.iconst 0, 1) := by decide +kernel
theorem dL_open_2 : decode cL_open 2 = .ok (.aload_n 0, 1) := by decide +kernel
theorem dL_open_3 : decode cL_open 3 = .ok (.iload_n 1, 1) := by decide +kernel
theorem dL_open_4 : decode cL_open 4 = .ok (.iload_n 2, 1) := by decide +kernel
theorem dL_open_5 : decode cL_open 5 = .ok (.invokevirtual 7, 3) := by decide +kernel
theorem dL_open_8 : decode cL_open 8 = .ok (.i2l, 1) := by decide +kernel
theorem dL_open_9 : decode cL_open 9 = .ok (.lastore, 1) := by decide +kernel
theorem dL_open_10 : decode cL_open 10 = .ok (.goto 11, 3) := by decide +kernel
theorem dL_open_13 : decode cL_open 13 = .ok (.astore 4, 2) := by decide +kernel
theorem dL_open_15 : decode cL_open 15 = .ok (.iconst 1, 1) := by decide +kernel
theorem dL_open_16 : decode cL_open 16 = .ok (.ireturn, 1) := by decide +kernel
theorem dL_open_17 : decode cL_open 17 = .ok (.astore 4, 2) := by decide +kernel
theorem dL_open_19 : decode cL_open 19 = .ok (.iconst 2, 1) := by decide +kernel
theorem dL_open_20 : decode cL_open 20 = .ok (.ireturn, 1) := by decide +kernel
theorem dL_open_21 : decode cL_open 21 = .ok (.iconst 0, 1) := by decide +kernel
theorem dL_open_22 : decode cL_open 22 = .ok (.ireturn, 1) := by decide +kernel
set_option maxRecDepth 20000 in
theorem ggL_write_X10_write : GoodIn wsL_write wsX10_write := goodIn_ca (goodIn_ca (goodIn_r _ [7, 8, 9, 10, 11, 12, 13, 14, 15, 16, 6, 17, 18, 19, 20, 21, 22, 23, 24, 25, 26, 27, 28, 29, 30, 31, 32, 33, 34, 35, 36, 37, 38, 39, 40, 41, 42, 43, 44, 45, 46, 47, 48, 49, 50, 51, 52, 53, 54, 55, 56, 57, 58, 59, 60, 61, 62, 63, 64, 65, 66, 67, 68, 69, 70, 71] (by decide +kernel) (by decide +kernel)) (goodIn_sub (fun _ h => List.mem_cons_of_mem _ (List.mem_append_left _ (List.mem_append_right _ h))) (by decide +kernel))) (goodIn_sub (fun _ h => List.mem_cons_of_mem _ (List.mem_append_right _ h)) (by decide +kernel))
set_option maxRecDepth 20000 in
theorem gL_write_X10_write : GoodIn wsL_write (wsV RL 17 RX10 yX10_write wsX10_write) := goodIn_app (goodIn_of _ (by decide +kernel)) ggL_write_X10_write
theorem dL_write_0 : decode cL_write 0 = .ok (.aload_n 3, 1) := by decide +kernel
theorem dL_write_1 : decode cL_write 1 = .ok (.iconst 0, 1) := by decide +kernel
theorem dL_write_2 : decode cL_write 2 = .ok (.aload_n 0, 1) := by decide +kernel
theorem dL_write_3 : decode cL_write 3 = .ok (.iload_n 1, 1) := by decide +kernel
theorem dL_write_4 : decode cL_write 4 = .ok (.iload_n 2, 1) := by decide +kernel
theorem dL_write_5 : decode cL_write 5 = .ok (.invokevirtual 17, 3) := by decide +kernel
theorem dL_write_8 : decode cL_write 8 = .ok (.i2l, 1) := by decide +kernel
theorem dL_write_9 : decode cL_write 9 = .ok (.lastore, 1) := by decide +kernel
theorem dL_write_10 : decode cL_write 10 = .ok (.goto 11, 3) := by decide +kernel
theorem dL_write_13 : decode cL_write 13 = .ok (.astore 4, 2) := by decide +kernel
theorem dL_write_15 : decode cL_write 15 = .ok (.iconst 1, 1) := by decide +kernel
theorem dL_write_16 : decode cL_write 16 = .ok (.ireturn, 1) := by decide +kernel
theorem dL_write_17 : decode cL_write 17 = .ok (.astore 4, 2) := by decide +kernel
theorem dL_write_19 : decode cL_write 19 = .ok (.iconst 2, 1) := by decide +kernel
theorem dL_write_20 : decode cL_write 20 = .ok (.ireturn, 1) := by decide +kernel
theorem dL_write_21 : decode cL_write 21 = .ok (.iconst 0, 1) := by decide +kernel
theorem dL_write_22 : decode cL_write 22 = .ok (.ireturn, 1) := by decide +kernel
set_option maxRecDepth 20000 in
theorem ggL_close_X10_close : GoodIn wsL_close wsX10_close := goodIn_ca (goodIn_r _ [6, 7, 8, 9, 10, 11, 12, 13, 14, 15, 16, 17, 18, 19, 20, 21, 22, 23, 24, 25, 26, 27, 28, 29, 30, 31, 32, 33, 34, 35, 36, 37, 38, 39, 40, 41, 42, 43, 44, 45, 46, 47, 48, 49, 50, 51, 52, 53, 54, 55, 56] (by decide +kernel) (by decide +kernel)) (goodIn_sub (fun _ h => List.mem_cons_of_mem _ (List.mem_append_right _ h)) (by decide +kernel))
set_option maxRecDepth 20000 in
theorem gL_close_X10_close : GoodIn wsL_close (wsV RL 20 RX10 yX10_close wsX10_close) := goodIn_app (goodIn_of _ (by decide +kernel)) ggL_close_X10_close
theorem dL_close_0 : decode cL_close 0 = .ok (.aload_n 1, 1) := by decide +kernel
theorem dL_close_1 : decode cL_close 1 = .ok (.iconst 0, 1) := by decide +kernel
theorem dL_close_2 : decode cL_close 2 = .ok (.aload_n 0, 1) := by decide +kernel
theorem dL_close_3 : decode cL_close 3 = .ok (.invokevirtual 20, 3) := by decide +kernel
theorem dL_close_6 : decode cL_close 6 = .ok (.i2l, 1) := by decide +kernel
theorem dL_close_7 : decode cL_close 7 = .ok (.lastore, 1) := by decide +kernel
theorem dL_close_8 : decode cL_close 8 = .ok (.goto 6, 3) := by decide +kernel
theorem dL_close_11 : decode cL_close 11 = .ok (.astore_n 2, 1) := by decide +kernel
theorem dL_close_12 : decode cL_close 12 = .ok (.iconst 1, 1) := by decide +kernel
theorem dL_close_13 : decode cL_close 13 = .ok (.ireturn, 1) := by decide +kernel
theorem dL_close_14 : decode cL_close 14 = .ok (.iconst 0, 1) := by decide +kernel
theorem dL_close_15 : decode cL_close 15 = .ok (.ireturn, 1) := by decide +kernel
set_option maxRecDepth 20000 in
theorem ggL_remove_X10_remove : GoodIn wsL_remove wsX10_remove := goodIn_ca (goodIn_r _ [6, 7, 8, 9, 10, 11, 12, 13, 14, 15, 16, 17, 18, 19, 20, 21, 22, 23, 24, 25, 26, 27, 28, 29, 30, 31, 32, 33, 34, 35, 36, 37, 38] (by decide +kernel) (by decide +kernel)) (goodIn_sub (fun _ h => List.mem_cons_of_mem _ (List.mem_append_right _ h)) (by decide +kernel))
set_option maxRecDepth 20000 in
theorem gL_remove_X10_remove : GoodIn wsL_remove (wsV RL 24 RX10 yX10_remove wsX10_remove) := goodIn_app (goodIn_of _ (by decide +kernel)) ggL_remove_X10_remove
theorem dL_remove_0 : decode cL_remove 0 = .ok (.aload_n 2, 1) := by decide +kernel
theorem dL_remove_1 : decode cL_remove 1 = .ok (.iconst 0, 1) := by decide +kernel
theorem dL_remove_2 : decode cL_remove 2 = .ok (.aload_n 0, 1) := by decide +kernel
theorem dL_remove_3 : decode cL_remove 3 = .ok (.iload_n 1, 1) := by decide +kernel
theorem dL_remove_4 : decode cL_remove 4 = .ok (.invokevirtual 24, 3) := by decide +kernel
theorem dL_remove_7 : decode cL_remove 7 = .ok (.ifCond .eq 7, 3) := by decide +kernel
theorem dL_remove_10 : decode cL_remove 10 = .ok (.lconst 1, 1) := by decide +kernel
theorem dL_remove_11 : decode cL_remove 11 = .ok (.goto 4, 3) := by decide +kernel
theorem dL_remove_14 : decode cL_remove 14 = .ok (.lconst 0, 1) := by decide +kernel
theorem dL_remove_15 : decode cL_remove 15 = .ok (.lastore, 1) := by decide +kernel
theorem dL_remove_16 : decode cL_remove 16 = .ok (.goto 6, 3) := by decide +kernel
theorem dL_remove_19 : decode cL_remove 19 = .ok (.astore_n 3, 1) := by decide +kernel
theorem dL_remove_20 : decode cL_remove 20 = .ok (.iconst 1, 1) := by decide +kernel
theorem dL_remove_21 : decode cL_remove 21 = .ok (.ireturn, 1) := by decide +kernel
theorem dL_remove_22 : decode cL_remove 22 = .ok (.iconst 0, 1) := by decide +kernel
theorem dL_remove_23 : decode cL_remove 23 = .ok (.ireturn, 1) := by decide +kernel
set_option maxRecDepth 20000 in
theorem ggL_setMute_X10_setMute : GoodIn wsL_setMute wsX10_setMute := goodIn_ca (goodIn_r _ [6, 7, 8, 9, 10, 11, 5, 12, 13, 14, 15, 16, 17, 18, 19, 20, 21, 22, 23, 24, 25, 26, 27, 28, 29, 30, 31, 32, 33, 34, 35] (by decide +kernel) (by decide +kernel)) (goodIn_sub (fun _ h => List.mem_cons_of_mem _ (List.mem_append_right _ h)) (by decide +kernel))
set_option maxRecDepth 20000 in
theorem gL_setMute_X10_setMute : GoodIn wsL_setMute (wsV RL 30 RX10 yX10_setMute wsX10_setMute) := goodIn_app (goodIn_of _ (by decide +kernel)) ggL_setMute_X10_setMute
theorem dL_setMute_0 : decode cL_setMute 0 = .ok (.aload_n 3, 1) := by decide +kernel
theorem dL_setMute_1 : decode cL_setMute 1 = .ok (.iconst 0, 1) := by decide +kernel
theorem dL_setMute_2 : decode cL_setMute 2 = .ok (.aload_n 0, 1) := by decide +kernel
theorem dL_setMute_3 : decode cL_setMute 3 = .ok (.iload_n 1, 1) := by decide +kernel
theorem dL_setMute_4 : decode cL_setMute 4 = .ok (.iload_n 2, 1) := by decide +kernel
theorem dL_setMute_5 : decode cL_setMute 5 = .ok (.invokevirtual 30, 3) := by decide +kernel
theorem dL_setMute_8 : decode cL_setMute 8 = .ok (.ifCond .eq 7, 3) := by decide +kernel
theorem dL_setMute_11 : decode cL_setMute 11 = .ok (.lconst 1, 1) := by decide +kernel
theorem dL_setMute_12 : decode cL_setMute 12 = .ok (.goto 4, 3) := by decide +kernel
theorem dL_setMute_15 : decode cL_setMute 15 = .ok (.lconst 0, 1) := by decide +kernel
theorem dL_setMute_16 : decode cL_setMute 16 = .ok (.lastore, 1) := by decide +kernel
theorem dL_setMute_17 : decode cL_setMute 17 = .ok (.goto 7, 3) := by decide +kernel
theorem dL_setMute_20 : decode cL_setMute 20 = .ok (.astore 4, 2) := by decide +kernel
theorem dL_setMute_22 : decode cL_setMute 22 = .ok (.iconst 1, 1) := by decide +kernel
theorem dL_setMute_23 : decode cL_setMute 23 = .ok (.ireturn, 1) := by decide +kernel
theorem dL_setMute_24 : decode cL_setMute 24 = .ok (.iconst 0, 1) := by decide +kernel
theorem dL_setMute_25 : decode cL_setMute 25 = .ok (.ireturn, 1) := by decide +kernel
set_option maxRecDepth 20000 in
theorem ggL_setAlias_X10_setAlias : GoodIn wsL_setAlias wsX10_setAlias := goodIn_ca (goodIn_r _ [6, 7, 8, 9, 10, 11, 5, 12, 13, 14, 15, 16, 17, 18, 19, 20, 21, 22, 23, 24, 25, 26, 27, 28, 29, 30, 31, 32, 33, 34, 35] (by decide +kernel) (by decide +kernel)) (goodIn_sub (fun _ h => List.mem_cons_of_mem _ (List.mem_append_right _ h)) (by decide +kernel))
set_option maxRecDepth 20000 in
theorem gL_setAlias_X10_setAlias : GoodIn wsL_setAlias (wsV RL 34 RX10 yX10_setAlias wsX10_setAlias) := goodIn_app (goodIn_of _ (by decide +kernel)) ggL_setAlias_X10_setAlias
theorem dL_setAlias_0 : decode cL_setAlias 0 = .ok (.aload_n 3, 1) := by decide +kernel
theorem dL_setAlias_1 : decode cL_setAlias 1 = .ok (.iconst 0, 1) := by decide +kernel
theorem dL_setAlias_2 : decode cL_setAlias 2 = .ok (.aload_n 0, 1) := by decide +kernel
theorem dL_setAlias_3 : decode cL_setAlias 3 = .ok (.iload_n 1, 1) := by decide +kernel
theorem dL_setAlias_4 : decode cL_setAlias 4 = .ok (.iload_n 2, 1) := by decide +kernel
theorem dL_setAlias_5 : decode cL_setAlias 5 = .ok (.invokevirtual 34, 3) := by decide +kernel
theorem dL_setAlias_8 : decode cL_setAlias 8 = .ok (.i2l, 1) := by decide +kernel
theorem dL_setAlias_9 : decode cL_setAlias 9 = .ok (.lastore, 1) := by decide +kernel
theorem dL_setAlias_10 : decode cL_setAlias 10 = .ok (.goto 7, 3) := by decide +kernel
theorem dL_setAlias_13 : decode cL_setAlias 13 = .ok (.astore 4, 2) := by decide +kernel
theorem dL_setAlias_15 : decode cL_setAlias 15 = .ok (.iconst 1, 1) := by decide +kernel
theorem dL_setAlias_16 : decode cL_setAlias 16 = .ok (.ireturn, 1) := by decide +kernel
theorem dL_setAlias_17 : decode cL_setAlias 17 = .ok (.iconst 0, 1) := by decide +kernel
theorem dL_setAlias_18 : decode cL_setAlias 18 = .ok (.ireturn, 1) := by decide +kernel
set_option maxRecDepth 20000 in
theorem ggL_setWeight_X10_setWeight : GoodIn wsL_setWeight wsX10_setWeight := goodIn_ca (goodIn_r _ [6, 7, 8, 9, 10, 11, 5, 12, 13, 14, 15, 16, 17, 18, 19, 20, 21, 22, 23, 24, 25, 26, 27, 28, 29, 30, 31, 32, 33, 34, 35] (by decide +kernel) (by decide +kernel)) (goodIn_sub (fun _ h => List.mem_cons_of_mem _ (List.mem_append_right _ h)) (by decide +kernel))
set_option maxRecDepth 20000 in
theorem gL_setWeight_X10_setWeight : GoodIn wsL_setWeight (wsV RL 37 RX10 yX10_setWeight wsX10_setWeight) := goodIn_app (goodIn_of _ (by decide +kernel)) ggL_setWeight_X10_setWeight
theorem dL_setWeight_0 : decode cL_setWeight 0 = .ok (.aload_n 3, 1) := by decide +kernel
theorem dL_setWeight_1 : decode cL_setWeight 1 = .ok (.iconst 0, 1) := by decide +kernel
theorem dL_setWeight_2 : decode cL_setWeight 2 = .ok (.aload_n 0, 1) := by decide +kernel
theorem dL_setWeight_3 : decode cL_setWeight 3 = .ok (.iload_n 1, 1) := by decide +kernel
theorem dL_setWeight_4 : decode cL_setWeight 4 = .ok (.iload_n 2, 1) := by decide +kernel
theorem dL_setWeight_5 : decode cL_setWeight 5 = .ok (.invokevirtual 37, 3) := by decide +kernel
theorem dL_setWeight_8 : decode cL_setWeight 8 = .ok (.i2l, 1) := by decide +kernel
theorem dL_setWeight_9 : decode cL_setWeight 9 = .ok (.lastore, 1) := by decide +kernel
theorem dL_setWeight_10 : decode cL_setWeight 10 = .ok (.goto 7, 3) := by decide +kernel
theorem dL_setWeight_13 : decode cL_setWeight 13 = .ok (.astore 4, 2) := by decide +kernel
theorem dL_setWeight_15 : decode cL_setWeight 15 = .ok (.iconst 1, 1) := by decide +kernel
theorem dL_setWeight_16 : decode cL_setWeight 16 = .ok (.ireturn, 1) := by decide +kernel
theorem dL_setWeight_17 : decode cL_setWeight 17 = .ok (.iconst 0, 1) := by decide +kernel
theorem dL_setWeight_18 : decode cL_setWeight 18 = .ok (.ireturn, 1) := by decide +kernel
set_option maxRecDepth 20000 in
theorem ggL_stateOf_X10_stateOf : GoodIn wsL_stateOf wsX10_stateOf := goodIn_ca (goodIn_r _ [6, 7, 8, 9, 10, 11, 12, 13, 14, 15, 16, 17, 18, 19, 20, 21, 22, 23, 24, 25, 26, 27, 28, 29, 30, 31, 32, 33, 34, 35, 36, 37, 38, 39, 40, 41, 42, 43, 44, 45, 46, 47, 48] (by decide +kernel) (by decide +kernel)) (goodIn_sub (fun _ h => List.mem_cons_of_mem _ (List.mem_append_right _ h)) (by decide +kernel))
set_option maxRecDepth 20000 in
theorem gL_stateOf_X10_stateOf : GoodIn wsL_stateOf (wsV RL 40 RX10 yX10_stateOf wsX10_stateOf) := goodIn_app (goodIn_of _ (by decide +kernel)) ggL_stateOf_X10_stateOf
theorem dL_stateOf_0 : decode cL_stateOf 0 = .ok (.aload_n 2, 1) := by decide +kernel
theorem dL_stateOf_1 : decode cL_stateOf 1 = .ok (.iconst 0, 1) := by decide +kernel
theorem dL_stateOf_2 : decode cL_stateOf 2 = .ok (.aload_n 0, 1) := by decide +kernel
theorem dL_stateOf_3 : decode cL_stateOf 3 = .ok (.iload_n 1, 1) := by decide +kernel
theorem dL_stateOf_4 : decode cL_stateOf 4 = .ok (.invokevirtual 40, 3) := by decide +kernel
theorem dL_stateOf_7 : decode cL_stateOf 7 = .ok (.i2l, 1) := by decide +kernel
theorem dL_stateOf_8 : decode cL_stateOf 8 = .ok (.lastore, 1) := by decide +kernel
theorem dL_stateOf_9 : decode cL_stateOf 9 = .ok (.goto 6, 3) := by decide +kernel
theorem dL_stateOf_12 : decode cL_stateOf 12 = .ok (.astore_n 3, 1) := by decide +kernel
theorem dL_stateOf_13 : decode cL_stateOf 13 = .ok (.iconst 1, 1) := by decide +kernel
theorem dL_stateOf_14 : decode cL_stateOf 14 = .ok (.ireturn, 1) := by decide +kernel
theorem dL_stateOf_15 : decode cL_stateOf 15 = .ok (.iconst 0, 1) := by decide +kernel
theorem dL_stateOf_16 : decode cL_stateOf 16 = .ok (.ireturn, 1) := by decide +kernel
set_option maxRecDepth 20000 in
theorem ggL_termAt_X10_termAt : GoodIn wsL_termAt wsX10_termAt := goodIn_ca (goodIn_r _ [6, 7, 8, 9, 10, 11, 12, 13, 14, 15, 16, 17, 18, 19, 20, 21, 22, 23, 24, 25, 26, 27, 28, 29, 30, 31, 32, 33, 34, 35, 36, 37, 38, 39, 40, 41, 42, 43, 44, 45, 46, 47, 48, 49, 50, 51, 52, 53, 54, 55, 56] (by decide +kernel) (by decide +kernel)) (goodIn_sub (fun _ h => List.mem_cons_of_mem _ (List.mem_append_right _ h)) (by decide +kernel))
set_option maxRecDepth 20000 in
theorem gL_termAt_X10_termAt : GoodIn wsL_termAt (wsV RL 44 RX10 yX10_termAt wsX10_termAt) := goodIn_app (goodIn_of _ (by decide +kernel)) ggL_termAt_X10_termAt
theorem dL_termAt_0 : decode cL_termAt 0 = .ok (.aload 4, 2) := by decide +kernel
theorem dL_termAt_2 : decode cL_termAt 2 = .ok (.iconst 0, 1) := by decide +kernel
theorem dL_termAt_3 : decode cL_termAt 3 = .ok (.aload_n 0, 1) := by decide +kernel
theorem dL_termAt_4 : decode cL_termAt 4 = .ok (.iload_n 1, 1) := by decide +kernel
theorem dL_termAt_5 : decode cL_termAt 5 = .ok (.iload_n 2, 1) := by decide +kernel
theorem dL_termAt_6 : decode cL_termAt 6 = .ok (.iload_n 3, 1) := by decide +kernel
theorem dL_termAt_7 : decode cL_termAt 7 = .ok (.invokevirtual 44, 3) := by decide +kernel
theorem dL_termAt_10 : decode cL_termAt 10 = .ok (.i2l, 1) := by decide +kernel
theorem dL_termAt_11 : decode cL_termAt 11 = .ok (.lastore, 1) := by decide +kernel
theorem dL_termAt_12 : decode cL_termAt 12 = .ok (.goto 7, 3) := by decide +kernel
theorem dL_termAt_15 : decode cL_termAt 15 = .ok (.astore 5, 2) := by decide +kernel
theorem dL_termAt_17 : decode cL_termAt 17 = .ok (.iconst 1, 1) := by decide +kernel
theorem dL_termAt_18 : decode cL_termAt 18 = .ok (.ireturn, 1) := by decide +kernel
theorem dL_termAt_19 : decode cL_termAt 19 = .ok (.iconst 0, 1) := by decide +kernel
theorem dL_termAt_20 : decode cL_termAt 20 = .ok (.ireturn, 1) := by decide +kernel
set_option maxRecDepth 20000 in
theorem ggL_tierOf_X10_tierOf : GoodIn wsL_tierOf wsX10_tierOf := goodIn_ca (goodIn_r _ [6, 7, 8, 9, 10, 11, 12, 13, 14, 15, 16, 17, 18, 19, 20, 21, 22, 23, 24, 25, 26, 27, 28, 29, 30, 31, 32, 33, 34, 35, 36, 37] (by decide +kernel) (by decide +kernel)) (goodIn_sub (fun _ h => List.mem_cons_of_mem _ (List.mem_append_right _ h)) (by decide +kernel))
set_option maxRecDepth 20000 in
theorem gL_tierOf_X10_tierOf : GoodIn wsL_tierOf (wsV RL 48 RX10 yX10_tierOf wsX10_tierOf) := goodIn_app (goodIn_of _ (by decide +kernel)) ggL_tierOf_X10_tierOf
theorem dL_tierOf_0 : decode cL_tierOf 0 = .ok (.aload_n 2, 1) := by decide +kernel
theorem dL_tierOf_1 : decode cL_tierOf 1 = .ok (.iconst 0, 1) := by decide +kernel
theorem dL_tierOf_2 : decode cL_tierOf 2 = .ok (.aload_n 0, 1) := by decide +kernel
theorem dL_tierOf_3 : decode cL_tierOf 3 = .ok (.iload_n 1, 1) := by decide +kernel
theorem dL_tierOf_4 : decode cL_tierOf 4 = .ok (.invokevirtual 48, 3) := by decide +kernel
theorem dL_tierOf_7 : decode cL_tierOf 7 = .ok (.i2l, 1) := by decide +kernel
theorem dL_tierOf_8 : decode cL_tierOf 8 = .ok (.lastore, 1) := by decide +kernel
theorem dL_tierOf_9 : decode cL_tierOf 9 = .ok (.goto 6, 3) := by decide +kernel
theorem dL_tierOf_12 : decode cL_tierOf 12 = .ok (.astore_n 3, 1) := by decide +kernel
theorem dL_tierOf_13 : decode cL_tierOf 13 = .ok (.iconst 1, 1) := by decide +kernel
theorem dL_tierOf_14 : decode cL_tierOf 14 = .ok (.ireturn, 1) := by decide +kernel
theorem dL_tierOf_15 : decode cL_tierOf 15 = .ok (.iconst 0, 1) := by decide +kernel
theorem dL_tierOf_16 : decode cL_tierOf 16 = .ok (.ireturn, 1) := by decide +kernel
set_option maxRecDepth 20000 in
theorem ggL_sizeOf_X10_sizeOf : GoodIn wsL_sizeOf wsX10_sizeOf := goodIn_ca (goodIn_r _ [6, 7, 8, 9, 10, 11, 12, 13, 14, 15, 16, 17, 18, 19, 20, 21, 22, 23, 24, 25, 26, 27, 28, 29, 30, 31, 32, 33, 34, 35, 36, 37, 38, 39, 40, 41, 42, 43, 44, 45, 46, 47] (by decide +kernel) (by decide +kernel)) (goodIn_sub (fun _ h => List.mem_cons_of_mem _ (List.mem_append_right _ h)) (by decide +kernel))
set_option maxRecDepth 20000 in
theorem gL_sizeOf_X10_sizeOf : GoodIn wsL_sizeOf (wsV RL 51 RX10 yX10_sizeOf wsX10_sizeOf) := goodIn_app (goodIn_of _ (by decide +kernel)) ggL_sizeOf_X10_sizeOf
theorem dL_sizeOf_0 : decode cL_sizeOf 0 = .ok (.aload_n 2, 1) := by decide +kernel
theorem dL_sizeOf_1 : decode cL_sizeOf 1 = .ok (.iconst 0, 1) := by decide +kernel
theorem dL_sizeOf_2 : decode cL_sizeOf 2 = .ok (.aload_n 0, 1) := by decide +kernel
theorem dL_sizeOf_3 : decode cL_sizeOf 3 = .ok (.iload_n 1, 1) := by decide +kernel
theorem dL_sizeOf_4 : decode cL_sizeOf 4 = .ok (.invokevirtual 51, 3) := by decide +kernel
theorem dL_sizeOf_7 : decode cL_sizeOf 7 = .ok (.i2l, 1) := by decide +kernel
theorem dL_sizeOf_8 : decode cL_sizeOf 8 = .ok (.lastore, 1) := by decide +kernel
theorem dL_sizeOf_9 : decode cL_sizeOf 9 = .ok (.goto 6, 3) := by decide +kernel
theorem dL_sizeOf_12 : decode cL_sizeOf 12 = .ok (.astore_n 3, 1) := by decide +kernel
theorem dL_sizeOf_13 : decode cL_sizeOf 13 = .ok (.iconst 1, 1) := by decide +kernel
theorem dL_sizeOf_14 : decode cL_sizeOf 14 = .ok (.ireturn, 1) := by decide +kernel
theorem dL_sizeOf_15 : decode cL_sizeOf 15 = .ok (.iconst 0, 1) := by decide +kernel
theorem dL_sizeOf_16 : decode cL_sizeOf 16 = .ok (.ireturn, 1) := by decide +kernel
set_option maxRecDepth 20000 in
theorem ggL_spread_X10_spread : GoodIn wsL_spread wsX10_spread := goodIn_ca (goodIn_r _ [6, 7, 8, 9, 10, 11, 12, 5, 13, 14, 15, 16, 17, 18, 19, 20, 21, 22, 23, 24, 25, 26, 27, 28, 29, 30, 31, 32, 33, 34, 35, 36, 37, 38, 39, 40, 41] (by decide +kernel) (by decide +kernel)) (goodIn_sub (fun _ h => List.mem_cons_of_mem _ (List.mem_append_right _ h)) (by decide +kernel))
set_option maxRecDepth 20000 in
theorem gL_spread_X10_spread : GoodIn wsL_spread (wsV RL 54 RX10 yX10_spread wsX10_spread) := goodIn_app (goodIn_of _ (by decide +kernel)) ggL_spread_X10_spread
theorem dL_spread_0 : decode cL_spread 0 = .ok (.aload_n 3, 1) := by decide +kernel
theorem dL_spread_1 : decode cL_spread 1 = .ok (.iconst 0, 1) := by decide +kernel
theorem dL_spread_2 : decode cL_spread 2 = .ok (.aload_n 0, 1) := by decide +kernel
theorem dL_spread_3 : decode cL_spread 3 = .ok (.iload_n 1, 1) := by decide +kernel
theorem dL_spread_4 : decode cL_spread 4 = .ok (.iload_n 2, 1) := by decide +kernel
theorem dL_spread_5 : decode cL_spread 5 = .ok (.invokevirtual 54, 3) := by decide +kernel
theorem dL_spread_8 : decode cL_spread 8 = .ok (.i2l, 1) := by decide +kernel
theorem dL_spread_9 : decode cL_spread 9 = .ok (.lastore, 1) := by decide +kernel
theorem dL_spread_10 : decode cL_spread 10 = .ok (.goto 7, 3) := by decide +kernel
theorem dL_spread_13 : decode cL_spread 13 = .ok (.astore 4, 2) := by decide +kernel
theorem dL_spread_15 : decode cL_spread 15 = .ok (.iconst 1, 1) := by decide +kernel
theorem dL_spread_16 : decode cL_spread 16 = .ok (.ireturn, 1) := by decide +kernel
theorem dL_spread_17 : decode cL_spread 17 = .ok (.iconst 0, 1) := by decide +kernel
theorem dL_spread_18 : decode cL_spread 18 = .ok (.ireturn, 1) := by decide +kernel
set_option maxRecDepth 20000 in
theorem ggL_rare_X10_rare : GoodIn wsL_rare wsX10_rare := goodIn_ca (goodIn_r _ [6, 7, 8, 9, 10, 11, 12, 5, 13, 14, 15, 16, 17, 18, 19, 20, 21, 22, 23, 24, 25, 26, 27, 28, 29, 30, 31, 32, 33, 34, 35, 36, 37, 38, 39, 40, 41, 42, 43, 44, 45, 46] (by decide +kernel) (by decide +kernel)) (goodIn_sub (fun _ h => List.mem_cons_of_mem _ (List.mem_append_right _ h)) (by decide +kernel))
set_option maxRecDepth 20000 in
theorem gL_rare_X10_rare : GoodIn wsL_rare (wsV RL 57 RX10 yX10_rare wsX10_rare) := goodIn_app (goodIn_of _ (by decide +kernel)) ggL_rare_X10_rare
theorem dL_rare_0 : decode cL_rare 0 = .ok (.aload_n 3, 1) := by decide +kernel
theorem dL_rare_1 : decode cL_rare 1 = .ok (.iconst 0, 1) := by decide +kernel
theorem dL_rare_2 : decode cL_rare 2 = .ok (.aload_n 0, 1) := by decide +kernel
theorem dL_rare_3 : decode cL_rare 3 = .ok (.iload_n 1, 1) := by decide +kernel
theorem dL_rare_4 : decode cL_rare 4 = .ok (.iload_n 2, 1) := by decide +kernel
theorem dL_rare_5 : decode cL_rare 5 = .ok (.invokevirtual 57, 3) := by decide +kernel
theorem dL_rare_8 : decode cL_rare 8 = .ok (.i2l, 1) := by decide +kernel
theorem dL_rare_9 : decode cL_rare 9 = .ok (.lastore, 1) := by decide +kernel
theorem dL_rare_10 : decode cL_rare 10 = .ok (.goto 7, 3) := by decide +kernel
theorem dL_rare_13 : decode cL_rare 13 = .ok (.astore 4, 2) := by decide +kernel
theorem dL_rare_15 : decode cL_rare 15 = .ok (.iconst 1, 1) := by decide +kernel
theorem dL_rare_16 : decode cL_rare 16 = .ok (.ireturn, 1) := by decide +kernel
theorem dL_rare_17 : decode cL_rare 17 = .ok (.iconst 0, 1) := by decide +kernel
theorem dL_rare_18 : decode cL_rare 18 = .ok (.ireturn, 1) := by decide +kernel
set_option maxRecDepth 20000 in
theorem ggL_term_X10_term : GoodIn wsL_term wsX10_term := goodIn_ca (goodIn_ca (goodIn_r _ [7, 8, 9, 10, 11, 12, 13, 14, 15, 16, 17, 18, 19, 6, 20, 21, 22, 23, 24, 25, 26, 27, 28, 29, 30, 31, 32, 33, 34, 35, 36, 37, 38, 39, 40, 41, 42, 43, 44, 45, 46, 47, 48, 49, 50, 51, 52, 53, 54, 55, 56, 57, 58, 59, 60, 61, 62, 63, 64, 65, 66, 67, 68, 69, 70] (by decide +kernel) (by decide +kernel)) (goodIn_sub (fun _ h => List.mem_cons_of_mem _ (List.mem_append_left _ (List.mem_append_right _ h))) (by decide +kernel))) (goodIn_sub (fun _ h => List.mem_cons_of_mem _ (List.mem_append_right _ h)) (by decide +kernel))
set_option maxRecDepth 20000 in
theorem gL_term_X10_term : GoodIn wsL_term (wsV RL 60 RX10 yX10_term wsX10_term) := goodIn_app (goodIn_of _ (by decide +kernel)) ggL_term_X10_term
theorem dL_term_0 : decode cL_term 0 = .ok (.aload_n 3, 1) := by decide +kernel
theorem dL_term_1 : decode cL_term 1 = .ok (.iconst 0, 1) := by decide +kernel
theorem dL_term_2 : decode cL_term 2 = .ok (.aload_n 0, 1) := by decide +kernel
theorem dL_term_3 : decode cL_term 3 = .ok (.iload_n 1, 1) := by decide +kernel
theorem dL_term_4 : decode cL_term 4 = .ok (.iload_n 2, 1) := by decide +kernel
theorem dL_term_5 : decode cL_term 5 = .ok (.invokevirtual 60, 3) := by decide +kernel
theorem dL_term_8 : decode cL_term 8 = .ok (.i2l, 1) := by decide +kernel
theorem dL_term_9 : decode cL_term 9 = .ok (.lastore, 1) := by decide +kernel
theorem dL_term_10 : decode cL_term 10 = .ok (.goto 11, 3) := by decide +kernel
theorem dL_term_13 : decode cL_term 13 = .ok (.astore 4, 2) := by decide +kernel
theorem dL_term_15 : decode cL_term 15 = .ok (.iconst 1, 1) := by decide +kernel
theorem dL_term_16 : decode cL_term 16 = .ok (.ireturn, 1) := by decide +kernel
theorem dL_term_17 : decode cL_term 17 = .ok (.astore 4, 2) := by decide +kernel
theorem dL_term_19 : decode cL_term 19 = .ok (.iconst 2, 1) := by decide +kernel
theorem dL_term_20 : decode cL_term 20 = .ok (.ireturn, 1) := by decide +kernel
theorem dL_term_21 : decode cL_term 21 = .ok (.iconst 0, 1) := by decide +kernel
theorem dL_term_22 : decode cL_term 22 = .ok (.ireturn, 1) := by decide +kernel
set_option maxRecDepth 20000 in
theorem ggL_and_X10_and : GoodIn wsL_and wsX10_and := goodIn_ca (goodIn_ca (goodIn_r _ [7, 8, 9, 10, 6, 11, 12, 13, 14, 15, 16, 17, 18, 19, 20, 21, 22, 23, 24, 25, 26, 27, 28, 29, 30, 31, 32, 33, 34, 35, 36, 37, 38, 39, 40, 41, 42, 43, 44, 45, 46, 47, 48, 49, 50, 51, 52, 53, 54, 55, 56, 57, 58, 59, 60, 61, 62, 63, 64, 65, 66, 67, 68, 69, 70, 71, 72, 73, 74, 75, 76] (by decide +kernel) (by decide +kernel)) (goodIn_sub (fun _ h => List.mem_cons_of_mem _ (List.mem_append_left _ (List.mem_append_right _ h))) (by decide +kernel))) (goodIn_sub (fun _ h => List.mem_cons_of_mem _ (List.mem_append_right _ h)) (by decide +kernel))
set_option maxRecDepth 20000 in
theorem gL_and_X10_and : GoodIn wsL_and (wsV RL 63 RX10 yX10_and wsX10_and) := goodIn_app (goodIn_of _ (by decide +kernel)) ggL_and_X10_and
theorem dL_and_0 : decode cL_and 0 = .ok (.aload_n 3, 1) := by decide +kernel
theorem dL_and_1 : decode cL_and 1 = .ok (.iconst 0, 1) := by decide +kernel
theorem dL_and_2 : decode cL_and 2 = .ok (.aload_n 0, 1) := by decide +kernel
theorem dL_and_3 : decode cL_and 3 = .ok (.iload_n 1, 1) := by decide +kernel
theorem dL_and_4 : decode cL_and 4 = .ok (.iload_n 2, 1) := by decide +kernel
theorem dL_and_5 : decode cL_and 5 = .ok (.invokevirtual 63, 3) := by decide +kernel
theorem dL_and_8 : decode cL_and 8 = .ok (.i2l, 1) := by decide +kernel
theorem dL_and_9 : decode cL_and 9 = .ok (.lastore, 1) := by decide +kernel
theorem dL_and_10 : decode cL_and 10 = .ok (.goto 11, 3) := by decide +kernel
theorem dL_and_13 : decode cL_and 13 = .ok (.astore 4, 2) := by decide +kernel
theorem dL_and_15 : decode cL_and 15 = .ok (.iconst 1, 1) := by decide +kernel
theorem dL_and_16 : decode cL_and 16 = .ok (.ireturn, 1) := by decide +kernel
theorem dL_and_17 : decode cL_and 17 = .ok (.astore 4, 2) := by decide +kernel
theorem dL_and_19 : decode cL_and 19 = .ok (.iconst 2, 1) := by decide +kernel
theorem dL_and_20 : decode cL_and 20 = .ok (.ireturn, 1) := by decide +kernel
theorem dL_and_21 : decode cL_and 21 = .ok (.iconst 0, 1) := by decide +kernel
theorem dL_and_22 : decode cL_and 22 = .ok (.ireturn, 1) := by decide +kernel
set_option maxRecDepth 20000 in
theorem ggL_or_X10_or : GoodIn wsL_or wsX10_or := goodIn_ca (goodIn_ca (goodIn_r _ [7, 8, 9, 10, 6, 11, 12, 13, 14, 15, 16, 17, 18, 19, 20, 21, 22, 23, 24, 25, 26, 27, 28, 29, 30, 31, 32, 33, 34, 35, 36, 37, 38, 39, 40, 41, 42, 43, 44, 45, 46, 47, 48, 49, 50, 51, 52, 53, 54, 55, 56, 57, 58, 59, 60, 61, 62, 63, 64, 65, 66, 67, 68, 69, 70, 71, 72, 73, 74, 75, 76] (by decide +kernel) (by decide +kernel)) (goodIn_sub (fun _ h => List.mem_cons_of_mem _ (List.mem_append_left _ (List.mem_append_right _ h))) (by decide +kernel))) (goodIn_sub (fun _ h => List.mem_cons_of_mem _ (List.mem_append_right _ h)) (by decide +kernel))
set_option maxRecDepth 20000 in
theorem gL_or_X10_or : GoodIn wsL_or (wsV RL 66 RX10 yX10_or wsX10_or) := goodIn_app (goodIn_of _ (by decide +kernel)) ggL_or_X10_or
theorem dL_or_0 : decode cL_or 0 = .ok (.aload_n 3, 1) := by decide +kernel
theorem dL_or_1 : decode cL_or 1 = .ok (.iconst 0, 1) := by decide +kernel
theorem dL_or_2 : decode cL_or 2 = .ok (.aload_n 0, 1) := by decide +kernel
theorem dL_or_3 : decode cL_or 3 = .ok (.iload_n 1, 1) := by decide +kernel
theorem dL_or_4 : decode cL_or 4 = .ok (.iload_n 2, 1) := by decide +kernel
theorem dL_or_5 : decode cL_or 5 = .ok (.invokevirtual 66, 3) := by decide +kernel
theorem dL_or_8 : decode cL_or 8 = .ok (.i2l, 1) := by decide +kernel
theorem dL_or_9 : decode cL_or 9 = .ok (.lastore, 1) := by decide +kernel
theorem dL_or_10 : decode cL_or 10 = .ok (.goto 11, 3) := by decide +kernel
theorem dL_or_13 : decode cL_or 13 = .ok (.astore 4, 2) := by decide +kernel
theorem dL_or_15 : decode cL_or 15 = .ok (.iconst 1, 1) := by decide +kernel
theorem dL_or_16 : decode cL_or 16 = .ok (.ireturn, 1) := by decide +kernel
theorem dL_or_17 : decode cL_or 17 = .ok (.astore 4, 2) := by decide +kernel
theorem dL_or_19 : decode cL_or 19 = .ok (.iconst 2, 1) := by decide +kernel
theorem dL_or_20 : decode cL_or 20 = .ok (.ireturn, 1) := by decide +kernel
theorem dL_or_21 : decode cL_or 21 = .ok (.iconst 0, 1) := by decide +kernel
theorem dL_or_22 : decode cL_or 22 = .ok (.ireturn, 1) := by decide +kernel
set_option maxRecDepth 20000 in
theorem ggL_not_X10_not : GoodIn wsL_not wsX10_not := goodIn_ca (goodIn_ca (goodIn_r _ [7, 8, 9, 10, 6, 11, 12, 13, 14, 15, 16, 17, 18, 19, 20, 21, 22, 23, 24, 25, 26, 27, 28, 29, 30, 31, 32, 33, 34, 35, 36, 37, 38, 39, 40, 41, 42, 43, 44, 45, 46, 47, 48, 49, 50, 51, 52, 53, 54, 55, 56, 57, 58, 59, 60, 61, 62, 63, 64, 65, 66, 67, 68, 69, 70, 71, 72, 73, 74, 75, 76] (by decide +kernel) (by decide +kernel)) (goodIn_sub (fun _ h => List.mem_cons_of_mem _ (List.mem_append_left _ (List.mem_append_right _ h))) (by decide +kernel))) (goodIn_sub (fun _ h => List.mem_cons_of_mem _ (List.mem_append_right _ h)) (by decide +kernel))
set_option maxRecDepth 20000 in
theorem gL_not_X10_not : GoodIn wsL_not (wsV RL 69 RX10 yX10_not wsX10_not) := goodIn_app (goodIn_of _ (by decide +kernel)) ggL_not_X10_not
