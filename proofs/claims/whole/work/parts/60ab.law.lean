theorem dL_not_0 : decode cL_not 0 = .ok (.aload_n 3, 1) := by decide +kernel
theorem dL_not_1 : decode cL_not 1 = .ok (.iconst 0, 1) := by decide +kernel
theorem dL_not_2 : decode cL_not 2 = .ok (.aload_n 0, 1) := by decide +kernel
theorem dL_not_3 : decode cL_not 3 = .ok (.iload_n 1, 1) := by decide +kernel
theorem dL_not_4 : decode cL_not 4 = .ok (.iload_n 2, 1) := by decide +kernel
theorem dL_not_5 : decode cL_not 5 = .ok (.invokevirtual 69, 3) := by decide +kernel
theorem dL_not_8 : decode cL_not 8 = .ok (.i2l, 1) := by decide +kernel
theorem dL_not_9 : decode cL_not 9 = .ok (.lastore, 1) := by decide +kernel
theorem dL_not_10 : decode cL_not 10 = .ok (.goto 11, 3) := by decide +kernel
theorem dL_not_13 : decode cL_not 13 = .ok (.astore 4, 2) := by decide +kernel
theorem dL_not_15 : decode cL_not 15 = .ok (.iconst 1, 1) := by decide +kernel
theorem dL_not_16 : decode cL_not 16 = .ok (.ireturn, 1) := by decide +kernel
theorem dL_not_17 : decode cL_not 17 = .ok (.astore 4, 2) := by decide +kernel
theorem dL_not_19 : decode cL_not 19 = .ok (.iconst 2, 1) := by decide +kernel
theorem dL_not_20 : decode cL_not 20 = .ok (.ireturn, 1) := by decide +kernel
theorem dL_not_21 : decode cL_not 21 = .ok (.iconst 0, 1) := by decide +kernel
theorem dL_not_22 : decode cL_not 22 = .ok (.ireturn, 1) := by decide +kernel
set_option maxRecDepth 20000 in
theorem ggL_near_X10_near : GoodIn wsL_near wsX10_near := goodIn_ca (goodIn_ca (goodIn_ca (goodIn_r _ [8, 9, 10, 11, 12, 13, 14, 15, 16, 17, 18, 19, 20, 21, 22, 23, 24, 25, 26, 27, 28, 29, 30, 31, 32, 33, 34, 35, 36, 37, 38, 39, 40, 41, 42, 43, 44, 45, 46, 47, 48, 49, 50, 51, 52, 53, 54, 55, 56, 57, 58, 59, 60, 61, 62, 63, 64, 65, 66, 67, 68, 69, 70, 71, 72, 73, 74] (by decide +kernel) (by decide +kernel)) (goodIn_sub (fun _ h => List.mem_cons_of_mem _ (List.mem_append_left _ (List.mem_append_left _ (List.mem_append_right _ h)))) (by decide +kernel))) (goodIn_sub (fun _ h => List.mem_cons_of_mem _ (List.mem_append_left _ (List.mem_append_right _ h))) (by decide +kernel))) (goodIn_sub (fun _ h => List.mem_cons_of_mem _ (List.mem_append_right _ h)) (by decide +kernel))
set_option maxRecDepth 20000 in
theorem gL_near_X10_near : GoodIn wsL_near (wsV RL 72 RX10 yX10_near wsX10_near) := goodIn_app (goodIn_of _ (by decide +kernel)) ggL_near_X10_near
theorem dL_near_0 : decode cL_near 0 = .ok (.aload 5, 2) := by decide +kernel
theorem dL_near_2 : decode cL_near 2 = .ok (.iconst 0, 1) := by decide +kernel
theorem dL_near_3 : decode cL_near 3 = .ok (.aload_n 0, 1) := by decide +kernel
theorem dL_near_4 : decode cL_near 4 = .ok (.iload_n 1, 1) := by decide +kernel
theorem dL_near_5 : decode cL_near 5 = .ok (.iload_n 2, 1) := by decide +kernel
theorem dL_near_6 : decode cL_near 6 = .ok (.iload_n 3, 1) := by decide +kernel
theorem dL_near_7 : decode cL_near 7 = .ok (.iload 4, 2) := by decide +kernel
theorem dL_near_9 : decode cL_near 9 = .ok (.invokevirtual 72, 3) := by decide +kernel
theorem dL_near_12 : decode cL_near 12 = .ok (.i2l, 1) := by decide +kernel
theorem dL_near_13 : decode cL_near 13 = .ok (.lastore, 1) := by decide +kernel
theorem dL_near_14 : decode cL_near 14 = .ok (.goto 15, 3) := by decide +kernel
theorem dL_near_17 : decode cL_near 17 = .ok (.astore 6, 2) := by decide +kernel
theorem dL_near_19 : decode cL_near 19 = .ok (.iconst 1, 1) := by decide +kernel
theorem dL_near_20 : decode cL_near 20 = .ok (.ireturn, 1) := by decide +kernel
theorem dL_near_21 : decode cL_near 21 = .ok (.astore 6, 2) := by decide +kernel
theorem dL_near_23 : decode cL_near 23 = .ok (.iconst 2, 1) := by decide +kernel
theorem dL_near_24 : decode cL_near 24 = .ok (.ireturn, 1) := by decide +kernel
theorem dL_near_25 : decode cL_near 25 = .ok (.astore 6, 2) := by decide +kernel
theorem dL_near_27 : decode cL_near 27 = .ok (.iconst 3, 1) := by decide +kernel
theorem dL_near_28 : decode cL_near 28 = .ok (.ireturn, 1) := by decide +kernel
theorem dL_near_29 : decode cL_near 29 = .ok (.iconst 0, 1) := by decide +kernel
theorem dL_near_30 : decode cL_near 30 = .ok (.ireturn, 1) := by decide +kernel
set_option maxRecDepth 20000 in
theorem ggL_dated_X10_dated : GoodIn wsL_dated wsX10_dated := goodIn_ca (goodIn_ca (goodIn_r _ [7, 8, 9, 10, 11, 12, 13, 14, 15, 16, 17, 18, 19, 6, 20, 21, 22, 23, 24, 25, 26, 27, 28, 29, 30, 31, 32, 33, 34, 35, 36, 37, 38, 39, 40, 41, 42, 43, 44, 45, 46, 47, 48, 49, 50, 51, 52, 53, 54, 55, 56, 57, 58, 59, 60, 61, 62, 63, 64, 65, 66, 67] (by decide +kernel) (by decide +kernel)) (goodIn_sub (fun _ h => List.mem_cons_of_mem _ (List.mem_append_left _ (List.mem_append_right _ h))) (by decide +kernel))) (goodIn_sub (fun _ h => List.mem_cons_of_mem _ (List.mem_append_right _ h)) (by decide +kernel))
set_option maxRecDepth 20000 in
theorem gL_dated_X10_dated : GoodIn wsL_dated (wsV RL 76 RX10 yX10_dated wsX10_dated) := goodIn_app (goodIn_of _ (by decide +kernel)) ggL_dated_X10_dated
theorem dL_dated_0 : decode cL_dated 0 = .ok (.aload_n 3, 1) := by decide +kernel
theorem dL_dated_1 : decode cL_dated 1 = .ok (.iconst 0, 1) := by decide +kernel
theorem dL_dated_2 : decode cL_dated 2 = .ok (.aload_n 0, 1) := by decide +kernel
theorem dL_dated_3 : decode cL_dated 3 = .ok (.iload_n 1, 1) := by decide +kernel
theorem dL_dated_4 : decode cL_dated 4 = .ok (.iload_n 2, 1) := by decide +kernel
theorem dL_dated_5 : decode cL_dated 5 = .ok (.invokevirtual 76, 3) := by decide +kernel
theorem dL_dated_8 : decode cL_dated 8 = .ok (.i2l, 1) := by decide +kernel
theorem dL_dated_9 : decode cL_dated 9 = .ok (.lastore, 1) := by decide +kernel
theorem dL_dated_10 : decode cL_dated 10 = .ok (.goto 11, 3) := by decide +kernel
theorem dL_dated_13 : decode cL_dated 13 = .ok (.astore 4, 2) := by decide +kernel
theorem dL_dated_15 : decode cL_dated 15 = .ok (.iconst 1, 1) := by decide +kernel
theorem dL_dated_16 : decode cL_dated 16 = .ok (.ireturn, 1) := by decide +kernel
theorem dL_dated_17 : decode cL_dated 17 = .ok (.astore 4, 2) := by decide +kernel
theorem dL_dated_19 : decode cL_dated 19 = .ok (.iconst 2, 1) := by decide +kernel
theorem dL_dated_20 : decode cL_dated 20 = .ok (.ireturn, 1) := by decide +kernel
theorem dL_dated_21 : decode cL_dated 21 = .ok (.iconst 0, 1) := by decide +kernel
theorem dL_dated_22 : decode cL_dated 22 = .ok (.ireturn, 1) := by decide +kernel
set_option maxRecDepth 20000 in
theorem ggL_kind_X10_kind : GoodIn wsL_kind wsX10_kind := goodIn_ca (goodIn_ca (goodIn_r _ [7, 8, 9, 10, 11, 12, 13, 14, 15, 16, 17, 18, 6, 19, 20, 21, 22, 23, 24, 25, 26, 27, 28, 29, 30, 31, 32, 33, 34, 35, 36, 37, 38, 39, 40, 41, 42, 43, 44, 45, 46, 47, 48, 49, 50, 51, 52, 53, 54, 55, 56, 57, 58, 59, 60, 61, 62, 63, 64, 65, 66] (by decide +kernel) (by decide +kernel)) (goodIn_sub (fun _ h => List.mem_cons_of_mem _ (List.mem_append_left _ (List.mem_append_right _ h))) (by decide +kernel))) (goodIn_sub (fun _ h => List.mem_cons_of_mem _ (List.mem_append_right _ h)) (by decide +kernel))
set_option maxRecDepth 20000 in
theorem gL_kind_X10_kind : GoodIn wsL_kind (wsV RL 79 RX10 yX10_kind wsX10_kind) := goodIn_app (goodIn_of _ (by decide +kernel)) ggL_kind_X10_kind
theorem dL_kind_0 : decode cL_kind 0 = .ok (.aload_n 2, 1) := by decide +kernel
theorem dL_kind_1 : decode cL_kind 1 = .ok (.iconst 0, 1) := by decide +kernel
theorem dL_kind_2 : decode cL_kind 2 = .ok (.aload_n 0, 1) := by decide +kernel
theorem dL_kind_3 : decode cL_kind 3 = .ok (.iload_n 1, 1) := by decide +kernel
theorem dL_kind_4 : decode cL_kind 4 = .ok (.invokevirtual 79, 3) := by decide +kernel
theorem dL_kind_7 : decode cL_kind 7 = .ok (.i2l, 1) := by decide +kernel
theorem dL_kind_8 : decode cL_kind 8 = .ok (.lastore, 1) := by decide +kernel
theorem dL_kind_9 : decode cL_kind 9 = .ok (.goto 9, 3) := by decide +kernel
theorem dL_kind_12 : decode cL_kind 12 = .ok (.astore_n 3, 1) := by decide +kernel
theorem dL_kind_13 : decode cL_kind 13 = .ok (.iconst 1, 1) := by decide +kernel
theorem dL_kind_14 : decode cL_kind 14 = .ok (.ireturn, 1) := by decide +kernel
theorem dL_kind_15 : decode cL_kind 15 = .ok (.astore_n 3, 1) := by decide +kernel
theorem dL_kind_16 : decode cL_kind 16 = .ok (.iconst 2, 1) := by decide +kernel
theorem dL_kind_17 : decode cL_kind 17 = .ok (.ireturn, 1) := by decide +kernel
theorem dL_kind_18 : decode cL_kind 18 = .ok (.iconst 0, 1) := by decide +kernel
theorem dL_kind_19 : decode cL_kind 19 = .ok (.ireturn, 1) := by decide +kernel
set_option maxRecDepth 20000 in
theorem ggL_scaled_X10_scaled : GoodIn wsL_scaled wsX10_scaled := goodIn_ca (goodIn_ca (goodIn_ca (goodIn_r _ [8, 9, 10, 11, 12, 13, 14, 15, 16, 17, 18, 19, 20, 21, 22, 23, 24, 25, 26, 27, 28, 29, 30, 31, 32, 33, 34, 35, 36, 37, 38, 39, 40, 41, 42, 43, 44, 45, 46, 47, 48, 49, 50, 51, 52, 53, 54, 55, 56, 57, 58, 59, 60, 61, 62, 63, 64, 65, 66, 67, 68, 69, 70, 71, 72, 73, 74, 75] (by decide +kernel) (by decide +kernel)) (goodIn_sub (fun _ h => List.mem_cons_of_mem _ (List.mem_append_left _ (List.mem_append_left _ (List.mem_append_right _ h)))) (by decide +kernel))) (goodIn_sub (fun _ h => List.mem_cons_of_mem _ (List.mem_append_left _ (List.mem_append_right _ h))) (by decide +kernel))) (goodIn_sub (fun _ h => List.mem_cons_of_mem _ (List.mem_append_right _ h)) (by decide +kernel))
set_option maxRecDepth 20000 in
theorem gL_scaled_X10_scaled : GoodIn wsL_scaled (wsV RL 82 RX10 yX10_scaled wsX10_scaled) := goodIn_app (goodIn_of _ (by decide +kernel)) ggL_scaled_X10_scaled
theorem dL_scaled_0 : decode cL_scaled 0 = .ok (.aload_n 3, 1) := by decide +kernel
theorem dL_scaled_1 : decode cL_scaled 1 = .ok (.iconst 0, 1) := by decide +kernel
theorem dL_scaled_2 : decode cL_scaled 2 = .ok (.aload_n 0, 1) := by decide +kernel
theorem dL_scaled_3 : decode cL_scaled 3 = .ok (.iload_n 1, 1) := by decide +kernel
theorem dL_scaled_4 : decode cL_scaled 4 = .ok (.iload_n 2, 1) := by decide +kernel
theorem dL_scaled_5 : decode cL_scaled 5 = .ok (.invokevirtual 82, 3) := by decide +kernel
theorem dL_scaled_8 : decode cL_scaled 8 = .ok (.i2l, 1) := by decide +kernel
theorem dL_scaled_9 : decode cL_scaled 9 = .ok (.lastore, 1) := by decide +kernel
theorem dL_scaled_10 : decode cL_scaled 10 = .ok (.goto 15, 3) := by decide +kernel
theorem dL_scaled_13 : decode cL_scaled 13 = .ok (.astore 4, 2) := by decide +kernel
theorem dL_scaled_15 : decode cL_scaled 15 = .ok (.iconst 1, 1) := by decide +kernel
theorem dL_scaled_16 : decode cL_scaled 16 = .ok (.ireturn, 1) := by decide +kernel
theorem dL_scaled_17 : decode cL_scaled 17 = .ok (.astore 4, 2) := by decide +kernel
theorem dL_scaled_19 : decode cL_scaled 19 = .ok (.iconst 2, 1) := by decide +kernel
theorem dL_scaled_20 : decode cL_scaled 20 = .ok (.ireturn, 1) := by decide +kernel
theorem dL_scaled_21 : decode cL_scaled 21 = .ok (.astore 4, 2) := by decide +kernel
theorem dL_scaled_23 : decode cL_scaled 23 = .ok (.iconst 3, 1) := by decide +kernel
theorem dL_scaled_24 : decode cL_scaled 24 = .ok (.ireturn, 1) := by decide +kernel
theorem dL_scaled_25 : decode cL_scaled 25 = .ok (.iconst 0, 1) := by decide +kernel
theorem dL_scaled_26 : decode cL_scaled 26 = .ok (.ireturn, 1) := by decide +kernel
set_option maxRecDepth 20000 in
theorem ggL_most_X10_most : GoodIn wsL_most wsX10_most := goodIn_ca (goodIn_ca (goodIn_ca (goodIn_r _ [8, 9, 10, 11, 12, 13, 14, 15, 16, 17, 18, 19, 20, 21, 22, 23, 24, 25, 26, 27, 28, 29, 30, 31, 32, 33, 34, 35, 36, 37, 38, 39, 40, 41, 42, 43, 44, 45, 46, 47, 48, 49, 50, 51, 52, 53, 54, 55, 56, 57, 58, 59, 60, 61, 62, 63, 64, 65, 66, 67, 68, 69, 70, 71, 72, 73, 74, 75, 76, 77] (by decide +kernel) (by decide +kernel)) (goodIn_sub (fun _ h => List.mem_cons_of_mem _ (List.mem_append_left _ (List.mem_append_left _ (List.mem_append_right _ h)))) (by decide +kernel))) (goodIn_sub (fun _ h => List.mem_cons_of_mem _ (List.mem_append_left _ (List.mem_append_right _ h))) (by decide +kernel))) (goodIn_sub (fun _ h => List.mem_cons_of_mem _ (List.mem_append_right _ h)) (by decide +kernel))
set_option maxRecDepth 20000 in
theorem gL_most_X10_most : GoodIn wsL_most (wsV RL 85 RX10 yX10_most wsX10_most) := goodIn_app (goodIn_of _ (by decide +kernel)) ggL_most_X10_most
theorem dL_most_0 : decode cL_most 0 = .ok (.aload 4, 2) := by decide +kernel
theorem dL_most_2 : decode cL_most 2 = .ok (.iconst 0, 1) := by decide +kernel
theorem dL_most_3 : decode cL_most 3 = .ok (.aload_n 0, 1) := by decide +kernel
theorem dL_most_4 : decode cL_most 4 = .ok (.iload_n 1, 1) := by decide +kernel
theorem dL_most_5 : decode cL_most 5 = .ok (.iload_n 2, 1) := by decide +kernel
theorem dL_most_6 : decode cL_most 6 = .ok (.iload_n 3, 1) := by decide +kernel
theorem dL_most_7 : decode cL_most 7 = .ok (.invokevirtual 85, 3) := by decide +kernel
theorem dL_most_10 : decode cL_most 10 = .ok (.i2l, 1) := by decide +kernel
theorem dL_most_11 : decode cL_most 11 = .ok (.lastore, 1) := by decide +kernel
theorem dL_most_12 : decode cL_most 12 = .ok (.goto 15, 3) := by decide +kernel
theorem dL_most_15 : decode cL_most 15 = .ok (.astore 5, 2) := by decide +kernel
theorem dL_most_17 : decode cL_most 17 = .ok (.iconst 1, 1) := by decide +kernel
theorem dL_most_18 : decode cL_most 18 = .ok (.ireturn, 1) := by decide +kernel
theorem dL_most_19 : decode cL_most 19 = .ok (.astore 5, 2) := by decide +kernel
theorem dL_most_21 : decode cL_most 21 = .ok (.iconst 2, 1) := by decide +kernel
theorem dL_most_22 : decode cL_most 22 = .ok (.ireturn, 1) := by decide +kernel
theorem dL_most_23 : decode cL_most 23 = .ok (.astore 5, 2) := by decide +kernel
theorem dL_most_25 : decode cL_most 25 = .ok (.iconst 3, 1) := by decide +kernel
theorem dL_most_26 : decode cL_most 26 = .ok (.ireturn, 1) := by decide +kernel
theorem dL_most_27 : decode cL_most 27 = .ok (.iconst 0, 1) := by decide +kernel
theorem dL_most_28 : decode cL_most 28 = .ok (.ireturn, 1) := by decide +kernel
set_option maxRecDepth 20000 in
theorem ggL_score_X10_score : GoodIn wsL_score wsX10_score := goodIn_ca (goodIn_r _ [6, 7, 8, 9, 10, 11, 12, 13, 14, 15, 16, 17, 18, 19, 20, 21, 22, 23, 24, 25, 26, 27, 28, 29, 30, 31, 32, 33, 34, 35, 36, 37, 38, 39, 40, 41, 42, 43, 44, 45, 46, 47, 48, 49, 50, 51, 52, 53, 54, 55, 56, 57, 58, 59, 60, 61, 62, 63, 64, 65, 66, 67, 68, 69, 70, 71, 72, 73, 74, 75, 76, 77, 78, 79, 80, 81, 82, 83, 84, 85, 86, 87, 88, 89, 90, 91, 92, 93, 94, 95, 96, 97, 98, 99, 100, 101, 102, 103, 104, 105, 106, 107, 108, 109, 110, 111, 112, 113, 114, 115, 116, 117, 118, 119, 120, 121, 122, 123, 124, 125, 126, 127, 128, 129, 130, 131, 132, 133, 134, 135, 136, 137, 138, 139, 140, 141, 142, 143, 144, 145, 146, 147, 148, 149, 150, 151, 152, 153, 154, 155, 156, 157, 158, 159, 160, 161, 162, 163, 164, 165, 166, 167, 168, 169, 170, 171, 172, 173, 174, 175, 176, 177, 178, 179, 180, 181, 182, 183, 184, 185, 186, 187, 188, 189, 190, 191, 192, 193, 194, 195, 196, 197, 198, 199, 200, 201, 202, 203, 204, 205, 206, 207, 208, 209, 210, 211, 212, 213, 214, 215, 216, 217, 218, 219, 220, 221, 222, 223, 224, 225, 226, 227, 228, 229, 230, 231, 232, 233, 234, 235, 236, 237, 238, 239, 240, 241, 242] (by decide +kernel) (by decide +kernel)) (goodIn_sub (fun _ h => List.mem_cons_of_mem _ (List.mem_append_right _ h)) (by decide +kernel))
set_option maxRecDepth 20000 in
theorem gL_score_X10_score : GoodIn wsL_score (wsV RL 88 RX10 yX10_score wsX10_score) := goodIn_app (goodIn_of _ (by decide +kernel)) ggL_score_X10_score
theorem dL_score_0 : decode cL_score 0 = .ok (.aload_n 3, 1) := by decide +kernel
theorem dL_score_1 : decode cL_score 1 = .ok (.iconst 0, 1) := by decide +kernel
theorem dL_score_2 : decode cL_score 2 = .ok (.aload_n 0, 1) := by decide +kernel
theorem dL_score_3 : decode cL_score 3 = .ok (.iload_n 1, 1) := by decide +kernel
theorem dL_score_4 : decode cL_score 4 = .ok (.iload_n 2, 1) := by decide +kernel
theorem dL_score_5 : decode cL_score 5 = .ok (.invokevirtual 88, 3) := by decide +kernel
theorem dL_score_8 : decode cL_score 8 = .ok (.i2l, 1) := by decide +kernel
theorem dL_score_9 : decode cL_score 9 = .ok (.lastore, 1) := by decide +kernel
theorem dL_score_10 : decode cL_score 10 = .ok (.goto 7, 3) := by decide +kernel
theorem dL_score_13 : decode cL_score 13 = .ok (.astore 4, 2) := by decide +kernel
theorem dL_score_15 : decode cL_score 15 = .ok (.iconst 1, 1) := by decide +kernel
theorem dL_score_16 : decode cL_score 16 = .ok (.ireturn, 1) := by decide +kernel
theorem dL_score_17 : decode cL_score 17 = .ok (.iconst 0, 1) := by decide +kernel
theorem dL_score_18 : decode cL_score 18 = .ok (.ireturn, 1) := by decide +kernel
set_option maxRecDepth 20000 in
theorem ggL_found_X10_found : GoodIn wsL_found wsX10_found := goodIn_ca (goodIn_r _ [6, 7, 8, 9, 10, 11, 12, 13, 14, 15, 16, 17, 18, 19, 20, 21, 22, 23, 24, 25, 5, 26, 27, 28, 29, 30, 31, 32, 33, 34, 35, 36, 37, 38, 39, 40, 41, 42, 43, 44, 45, 46, 47, 48, 49, 50, 51, 52, 53, 54, 55, 56, 57, 58, 59, 60, 61, 62, 63, 64, 65, 66, 67, 68, 69, 70, 71, 72, 73, 74, 75, 76, 77, 78, 79, 80, 81, 82, 83, 84, 85, 86, 87, 88, 89, 90, 91, 92, 93, 94, 95, 96, 97, 98, 99, 100, 101, 102, 103, 104, 105, 106, 107, 108, 109, 110, 111, 112, 113, 114, 115, 116, 117, 118, 119, 120, 121, 122, 123, 124, 125, 126, 127, 128, 129, 130, 131, 132, 133, 134, 135, 136, 137, 138, 139, 140, 141, 142, 143, 144, 145, 146, 147, 148, 149, 150, 151, 152, 153, 154, 155, 156, 157, 158, 159, 160, 161, 162, 163, 164, 165, 166, 167, 168, 169, 170, 171, 172, 173, 174, 175, 176, 177, 178, 179, 180, 181, 182, 183, 184, 185, 186, 187, 188, 189, 190, 191, 192, 193, 194, 195, 196, 197, 198, 199, 200, 201, 202, 203, 204, 205, 206, 207, 208, 209, 210, 211, 212, 213, 214, 215, 216, 217, 218, 219, 220, 221, 222, 223, 224, 225, 226, 227, 228, 229, 230, 231, 232, 233, 234, 235, 236, 237, 238, 239, 240, 241, 242, 243, 244, 245, 246, 247] (by decide +kernel) (by decide +kernel)) (goodIn_sub (fun _ h => List.mem_cons_of_mem _ (List.mem_append_right _ h)) (by decide +kernel))
set_option maxRecDepth 20000 in
theorem gL_found_X10_found : GoodIn wsL_found (wsV RL 91 RX10 yX10_found wsX10_found) := goodIn_app (goodIn_of _ (by decide +kernel)) ggL_found_X10_found
theorem dL_found_0 : decode cL_found 0 = .ok (.aload_n 2, 1) := by decide +kernel
theorem dL_found_1 : decode cL_found 1 = .ok (.iconst 0, 1) := by decide +kernel
theorem dL_found_2 : decode cL_found 2 = .ok (.aload_n 0, 1) := by decide +kernel
theorem dL_found_3 : decode cL_found 3 = .ok (.iload_n 1, 1) := by decide +kernel
theorem dL_found_4 : decode cL_found 4 = .ok (.invokevirtual 91, 3) := by decide +kernel
theorem dL_found_7 : decode cL_found 7 = .ok (.i2l, 1) := by decide +kernel
theorem dL_found_8 : decode cL_found 8 = .ok (.lastore, 1) := by decide +kernel
theorem dL_found_9 : decode cL_found 9 = .ok (.goto 6, 3) := by decide +kernel
theorem dL_found_12 : decode cL_found 12 = .ok (.astore_n 3, 1) := by decide +kernel
theorem dL_found_13 : decode cL_found 13 = .ok (.iconst 1, 1) := by decide +kernel
theorem dL_found_14 : decode cL_found 14 = .ok (.ireturn, 1) := by decide +kernel
theorem dL_found_15 : decode cL_found 15 = .ok (.iconst 0, 1) := by decide +kernel
theorem dL_found_16 : decode cL_found 16 = .ok (.ireturn, 1) := by decide +kernel
set_option maxRecDepth 20000 in
theorem ggL_search_X10_search : GoodIn wsL_search wsX10_search := goodIn_ca (goodIn_r _ [6, 7, 8, 9, 10, 11, 12, 13, 14, 15, 16, 17, 18, 19, 20, 21, 22, 23, 24, 25, 26, 27, 28, 29, 30, 31, 32, 33, 5, 34, 35, 36, 37, 38, 39, 40, 41, 42, 43, 44, 45, 46, 47, 48, 49, 50, 51, 52, 53, 54, 55, 56, 57, 58, 59, 60, 61, 62, 63, 64, 65, 66, 67, 68, 69, 70, 71, 72, 73, 74, 75, 76, 77, 78, 79, 80, 81, 82, 83, 84, 85, 86, 87, 88, 89, 90, 91, 92, 93, 94, 95, 96, 97, 98, 99, 100, 101, 102, 103, 104, 105, 106, 107, 108, 109, 110, 111, 112, 113, 114, 115, 116, 117, 118, 119, 120, 121, 122, 123, 124, 125, 126, 127, 128, 129, 130, 131, 132, 133, 134, 135, 136, 137, 138, 139, 140, 141, 142, 143, 144, 145, 146, 147, 148, 149, 150, 151, 152, 153, 154, 155, 156, 157, 158, 159, 160, 161, 162, 163, 164, 165, 166, 167, 168, 169, 170, 171, 172, 173, 174, 175, 176, 177, 178, 179, 180, 181, 182, 183, 184, 185, 186, 187, 188, 189, 190, 191, 192, 193, 194, 195, 196, 197, 198, 199, 200, 201, 202, 203, 204, 205, 206, 207, 208, 209, 210, 211, 212, 213, 214, 215, 216, 217, 218, 219, 220, 221, 222, 223, 224, 225, 226, 227, 228, 229, 230, 231, 232, 233, 234, 235, 236, 237, 238, 239, 240, 241, 242, 243, 244, 245, 246, 247, 248, 249, 250, 251, 252, 253, 254, 255, 256, 257, 258, 259, 260, 261, 262, 263, 264, 265, 266, 267, 268, 269, 270, 271, 272, 273, 274, 275, 276, 277, 278, 279, 280, 281, 282, 283] (by decide +kernel) (by decide +kernel)) (goodIn_sub (fun _ h => List.mem_cons_of_mem _ (List.mem_append_right _ h)) (by decide +kernel))
set_option maxRecDepth 20000 in
theorem gL_search_X10_search : GoodIn wsL_search (wsV RL 94 RX10 yX10_search wsX10_search) := goodIn_app (goodIn_of _ (by decide +kernel)) ggL_search_X10_search
theorem dL_search_0 : decode cL_search 0 = .ok (.aload_n 2, 1) := by decide +kernel
theorem dL_search_1 : decode cL_search 1 = .ok (.iconst 0, 1) := by decide +kernel
theorem dL_search_2 : decode cL_search 2 = .ok (.aload_n 0, 1) := by decide +kernel
theorem dL_search_3 : decode cL_search 3 = .ok (.iload_n 1, 1) := by decide +kernel
theorem dL_search_4 : decode cL_search 4 = .ok (.invokevirtual 94, 3) := by decide +kernel
theorem dL_search_7 : decode cL_search 7 = .ok (.i2l, 1) := by decide +kernel
theorem dL_search_8 : decode cL_search 8 = .ok (.lastore, 1) := by decide +kernel
theorem dL_search_9 : decode cL_search 9 = .ok (.goto 6, 3) := by decide +kernel
theorem dL_search_12 : decode cL_search 12 = .ok (.astore_n 3, 1) := by decide +kernel
theorem dL_search_13 : decode cL_search 13 = .ok (.iconst 1, 1) := by decide +kernel
theorem dL_search_14 : decode cL_search 14 = .ok (.ireturn, 1) := by decide +kernel
theorem dL_search_15 : decode cL_search 15 = .ok (.iconst 0, 1) := by decide +kernel
theorem dL_search_16 : decode cL_search 16 = .ok (.ireturn, 1) := by decide +kernel
set_option maxRecDepth 20000 in
theorem ggL_resultAt_X10_resultAt : GoodIn wsL_resultAt wsX10_resultAt := goodIn_ca (goodIn_r _ [6, 7, 8, 9, 10, 11, 12, 13, 14, 15, 16, 17, 18, 19, 20, 21, 22, 23, 24, 25, 26, 27, 28, 29, 30, 31, 32, 33, 34, 35] (by decide +kernel) (by decide +kernel)) (goodIn_sub (fun _ h => List.mem_cons_of_mem _ (List.mem_append_right _ h)) (by decide +kernel))
set_option maxRecDepth 20000 in
theorem gL_resultAt_X10_resultAt : GoodIn wsL_resultAt (wsV RL 97 RX10 yX10_resultAt wsX10_resultAt) := goodIn_app (goodIn_of _ (by decide +kernel)) ggL_resultAt_X10_resultAt
theorem dL_resultAt_0 : decode cL_resultAt 0 = .ok (.aload_n 2, 1) := by decide +kernel
theorem dL_resultAt_1 : decode cL_resultAt 1 = .ok (.iconst 0, 1) := by decide +kernel
theorem dL_resultAt_2 : decode cL_resultAt 2 = .ok (.aload_n 0, 1) := by decide +kernel
theorem dL_resultAt_3 : decode cL_resultAt 3 = .ok (.iload_n 1, 1) := by decide +kernel
theorem dL_resultAt_4 : decode cL_resultAt 4 = .ok (.invokevirtual 97, 3) := by decide +kernel
theorem dL_resultAt_7 : decode cL_resultAt 7 = .ok (.i2l, 1) := by decide +kernel
theorem dL_resultAt_8 : decode cL_resultAt 8 = .ok (.lastore, 1) := by decide +kernel
theorem dL_resultAt_9 : decode cL_resultAt 9 = .ok (.goto 6, 3) := by decide +kernel
theorem dL_resultAt_12 : decode cL_resultAt 12 = .ok (.astore_n 3, 1) := by decide +kernel
theorem dL_resultAt_13 : decode cL_resultAt 13 = .ok (.iconst 1, 1) := by decide +kernel
theorem dL_resultAt_14 : decode cL_resultAt 14 = .ok (.ireturn, 1) := by decide +kernel
theorem dL_resultAt_15 : decode cL_resultAt 15 = .ok (.iconst 0, 1) := by decide +kernel
theorem dL_resultAt_16 : decode cL_resultAt 16 = .ok (.ireturn, 1) := by decide +kernel
set_option maxRecDepth 20000 in
theorem ggL_scoreAt_X10_scoreAt : GoodIn wsL_scoreAt wsX10_scoreAt := goodIn_ca (goodIn_r _ [6, 7, 8, 9, 10, 11, 12, 13, 14, 15, 16, 17, 18, 19, 20, 21, 22, 23, 24, 25, 26, 27, 28, 29, 30, 31, 32, 33, 34, 35] (by decide +kernel) (by decide +kernel)) (goodIn_sub (fun _ h => List.mem_cons_of_mem _ (List.mem_append_right _ h)) (by decide +kernel))
set_option maxRecDepth 20000 in
theorem gL_scoreAt_X10_scoreAt : GoodIn wsL_scoreAt (wsV RL 100 RX10 yX10_scoreAt wsX10_scoreAt) := goodIn_app (goodIn_of _ (by decide +kernel)) ggL_scoreAt_X10_scoreAt
theorem dL_scoreAt_0 : decode cL_scoreAt 0 = .ok (.aload_n 2, 1) := by decide +kernel
theorem dL_scoreAt_1 : decode cL_scoreAt 1 = .ok (.iconst 0, 1) := by decide +kernel
theorem dL_scoreAt_2 : decode cL_scoreAt 2 = .ok (.aload_n 0, 1) := by decide +kernel
theorem dL_scoreAt_3 : decode cL_scoreAt 3 = .ok (.iload_n 1, 1) := by decide +kernel
theorem dL_scoreAt_4 : decode cL_scoreAt 4 = .ok (.invokevirtual 100, 3) := by decide +kernel
theorem dL_scoreAt_7 : decode cL_scoreAt 7 = .ok (.i2l, 1) := by decide +kernel
theorem dL_scoreAt_8 : decode cL_scoreAt 8 = .ok (.lastore, 1) := by decide +kernel
theorem dL_scoreAt_9 : decode cL_scoreAt 9 = .ok (.goto 6, 3) := by decide +kernel
theorem dL_scoreAt_12 : decode cL_scoreAt 12 = .ok (.astore_n 3, 1) := by decide +kernel
theorem dL_scoreAt_13 : decode cL_scoreAt 13 = .ok (.iconst 1, 1) := by decide +kernel
theorem dL_scoreAt_14 : decode cL_scoreAt 14 = .ok (.ireturn, 1) := by decide +kernel
theorem dL_scoreAt_15 : decode cL_scoreAt 15 = .ok (.iconst 0, 1) := by decide +kernel
theorem dL_scoreAt_16 : decode cL_scoreAt 16 = .ok (.ireturn, 1) := by decide +kernel
set_option maxRecDepth 20000 in
theorem ggL_ofKind_X10_ofKind : GoodIn wsL_ofKind wsX10_ofKind := goodIn_ca (goodIn_r _ [6, 7, 8, 9, 10, 11, 5, 12, 13, 14, 15, 16, 17, 18, 19, 20, 21, 22, 23, 24, 25, 26, 27, 28, 29, 30, 31, 32, 33, 34, 35, 36, 37, 38, 39, 40, 41, 42, 43, 44, 45, 46, 47] (by decide +kernel) (by decide +kernel)) (goodIn_sub (fun _ h => List.mem_cons_of_mem _ (List.mem_append_right _ h)) (by decide +kernel))
set_option maxRecDepth 20000 in
theorem gL_ofKind_X10_ofKind : GoodIn wsL_ofKind (wsV RL 103 RX10 yX10_ofKind wsX10_ofKind) := goodIn_app (goodIn_of _ (by decide +kernel)) ggL_ofKind_X10_ofKind
theorem dL_ofKind_0 : decode cL_ofKind 0 = .ok (.aload_n 2, 1) := by decide +kernel
theorem dL_ofKind_1 : decode cL_ofKind 1 = .ok (.iconst 0, 1) := by decide +kernel
theorem dL_ofKind_2 : decode cL_ofKind 2 = .ok (.aload_n 0, 1) := by decide +kernel
theorem dL_ofKind_3 : decode cL_ofKind 3 = .ok (.iload_n 1, 1) := by decide +kernel
theorem dL_ofKind_4 : decode cL_ofKind 4 = .ok (.invokevirtual 103, 3) := by decide +kernel
theorem dL_ofKind_7 : decode cL_ofKind 7 = .ok (.i2l, 1) := by decide +kernel
theorem dL_ofKind_8 : decode cL_ofKind 8 = .ok (.lastore, 1) := by decide +kernel
theorem dL_ofKind_9 : decode cL_ofKind 9 = .ok (.goto 6, 3) := by decide +kernel
theorem dL_ofKind_12 : decode cL_ofKind 12 = .ok (.astore_n 3, 1) := by decide +kernel
theorem dL_ofKind_13 : decode cL_ofKind 13 = .ok (.iconst 1, 1) := by decide +kernel
theorem dL_ofKind_14 : decode cL_ofKind 14 = .ok (.ireturn, 1) := by decide +kernel
theorem dL_ofKind_15 : decode cL_ofKind 15 = .ok (.iconst 0, 1) := by decide +kernel
theorem dL_ofKind_16 : decode cL_ofKind 16 = .ok (.ireturn, 1) := by decide +kernel
set_option maxRecDepth 20000 in
theorem ggL_ofDates_X10_ofDates : GoodIn wsL_ofDates wsX10_ofDates := goodIn_ca (goodIn_r _ [6, 7, 8, 9, 10, 11, 5, 12, 13, 14, 15, 16, 17, 18, 19, 20, 21, 22, 23, 24, 25, 26, 27, 28, 29, 30, 31, 32, 33, 34, 35, 36, 37, 38, 39, 40, 41, 42, 43, 44, 45, 46, 47] (by decide +kernel) (by decide +kernel)) (goodIn_sub (fun _ h => List.mem_cons_of_mem _ (List.mem_append_right _ h)) (by decide +kernel))
set_option maxRecDepth 20000 in
theorem gL_ofDates_X10_ofDates : GoodIn wsL_ofDates (wsV RL 106 RX10 yX10_ofDates wsX10_ofDates) := goodIn_app (goodIn_of _ (by decide +kernel)) ggL_ofDates_X10_ofDates
theorem dL_ofDates_0 : decode cL_ofDates 0 = .ok (.aload_n 3, 1) := by decide +kernel
theorem dL_ofDates_1 : decode cL_ofDates 1 = .ok (.iconst 0, 1) := by decide +kernel
theorem dL_ofDates_2 : decode cL_ofDates 2 = .ok (.aload_n 0, 1) := by decide +kernel
theorem dL_ofDates_3 : decode cL_ofDates 3 = .ok (.iload_n 1, 1) := by decide +kernel
theorem dL_ofDates_4 : decode cL_ofDates 4 = .ok (.iload_n 2, 1) := by decide +kernel
theorem dL_ofDates_5 : decode cL_ofDates 5 = .ok (.invokevirtual 106, 3) := by decide +kernel
theorem dL_ofDates_8 : decode cL_ofDates 8 = .ok (.i2l, 1) := by decide +kernel
theorem dL_ofDates_9 : decode cL_ofDates 9 = .ok (.lastore, 1) := by decide +kernel
theorem dL_ofDates_10 : decode cL_ofDates 10 = .ok (.goto 7, 3) := by decide +kernel
theorem dL_ofDates_13 : decode cL_ofDates 13 = .ok (.astore 4, 2) := by decide +kernel
theorem dL_ofDates_15 : decode cL_ofDates 15 = .ok (.iconst 1, 1) := by decide +kernel
theorem dL_ofDates_16 : decode cL_ofDates 16 = .ok (.ireturn, 1) := by decide +kernel
theorem dL_ofDates_17 : decode cL_ofDates 17 = .ok (.iconst 0, 1) := by decide +kernel
theorem dL_ofDates_18 : decode cL_ofDates 18 = .ok (.ireturn, 1) := by decide +kernel
set_option maxRecDepth 20000 in
theorem ggL_window_X10_window : GoodIn wsL_window wsX10_window := goodIn_ca (goodIn_ca (goodIn_r _ [7, 8, 9, 10, 11, 12, 13, 14, 15, 16, 17, 18, 19, 20, 21, 22, 23, 24, 25, 26, 27, 28, 29, 30, 31, 32, 33, 34, 35, 36, 37, 38, 39, 40, 41, 42, 43, 44, 45, 46, 47, 48, 49, 50, 51, 52, 53, 54, 55, 56, 57, 58, 59, 60, 61, 62, 63, 64, 65, 66, 67, 68, 69, 70, 71, 72, 73, 74, 75, 76, 77, 78, 79, 80, 81, 82, 83, 84, 85, 86, 87, 88, 89, 90, 91, 92, 93, 94, 95, 96, 97, 98, 99, 100, 101, 102, 103, 104, 105, 106, 107, 108, 109, 110, 111, 112, 113, 114, 115, 116, 117, 118, 119, 120, 121, 122, 123, 124, 125, 126, 127, 128, 129, 130, 131, 132, 133, 134, 135, 136, 137, 138, 139, 140, 141, 142, 143, 144, 145, 146, 147, 148, 149, 150, 151, 152, 153, 154] (by decide +kernel) (by decide +kernel)) (goodIn_sub (fun _ h => List.mem_cons_of_mem _ (List.mem_append_left _ (List.mem_append_right _ h))) (by decide +kernel))) (goodIn_sub (fun _ h => List.mem_cons_of_mem _ (List.mem_append_right _ h)) (by decide +kernel))
set_option maxRecDepth 20000 in
theorem gL_window_X10_window : GoodIn wsL_window (wsV RL 109 RX10 yX10_window wsX10_window) := goodIn_app (goodIn_of _ (by decide +kernel)) ggL_window_X10_window
theorem dL_window_0 : decode cL_window 0 = .ok (.aload 5, 2) := by decide +kernel
theorem dL_window_2 : decode cL_window 2 = .ok (.iconst 0, 1) := by decide +kernel
theorem dL_window_3 : decode cL_window 3 = .ok (.aload_n 0, 1) := by decide +kernel
theorem dL_window_4 : decode cL_window 4 = .ok (.iload_n 1, 1) := by decide +kernel
theorem dL_window_5 : decode cL_window 5 = .ok (.iload_n 2, 1) := by decide +kernel
theorem dL_window_6 : decode cL_window 6 = .ok (.iload_n 3, 1) := by decide +kernel
theorem dL_window_7 : decode cL_window 7 = .ok (.iload 4, 2) := by decide +kernel
theorem dL_window_9 : decode cL_window 9 = .ok (.invokevirtual 109, 3) := by decide +kernel
theorem dL_window_12 : decode cL_window 12 = .ok (.i2l, 1) := by decide +kernel
theorem dL_window_13 : decode cL_window 13 = .ok (.lastore, 1) := by decide +kernel
theorem dL_window_14 : decode cL_window 14 = .ok (.goto 11, 3) := by decide +kernel
theorem dL_window_17 : decode cL_window 17 = .ok (.astore 6, 2) := by decide +kernel
theorem dL_window_19 : decode cL_window 19 = .ok (.iconst 1, 1) := by decide +kernel
theorem dL_window_20 : decode cL_window 20 = .ok (.ireturn, 1) := by decide +kernel
theorem dL_window_21 : decode cL_window 21 = .ok (.astore 6, 2) := by decide +kernel
theorem dL_window_23 : decode cL_window 23 = .ok (.iconst 2, 1) := by decide +kernel
theorem dL_window_24 : decode cL_window 24 = .ok (.ireturn, 1) := by decide +kernel
theorem dL_window_25 : decode cL_window 25 = .ok (.iconst 0, 1) := by decide +kernel
theorem dL_window_26 : decode cL_window 26 = .ok (.ireturn, 1) := by decide +kernel
set_option maxRecDepth 20000 in
theorem ggL_like_X10_like : GoodIn wsL_like wsX10_like := goodIn_ca (goodIn_r _ [6, 7, 8, 9, 10, 11, 12, 13, 14, 15, 16, 17, 18, 19, 20, 21, 22, 23, 24, 25, 26, 27, 28, 29, 30, 31, 32, 33, 34, 35, 36, 37, 38, 39, 40, 41, 42, 43, 44, 45, 46, 47, 48, 49, 50, 51, 52, 53, 54, 55, 56, 57, 58, 59, 60, 61, 62, 63, 64, 65, 66, 67, 68, 69, 70, 71, 72, 73, 74, 75, 76, 77, 78, 79, 80, 81, 82, 83, 84, 85, 86, 87, 88, 89, 90, 91, 92, 93, 94, 95, 96, 97, 98, 99, 100, 101, 102, 103, 104, 105, 106, 107, 108, 109, 110, 111, 112, 113, 114, 115, 116, 117, 118, 119, 120, 121, 122, 123, 124, 125, 126, 127] (by decide +kernel) (by decide +kernel)) (goodIn_sub (fun _ h => List.mem_cons_of_mem _ (List.mem_append_right _ h)) (by decide +kernel))
set_option maxRecDepth 20000 in
theorem gL_like_X10_like : GoodIn wsL_like (wsV RL 113 RX10 yX10_like wsX10_like) := goodIn_app (goodIn_of _ (by decide +kernel)) ggL_like_X10_like
theorem dL_like_0 : decode cL_like 0 = .ok (.aload_n 2, 1) := by decide +kernel
theorem dL_like_1 : decode cL_like 1 = .ok (.iconst 0, 1) := by decide +kernel
theorem dL_like_2 : decode cL_like 2 = .ok (.aload_n 0, 1) := by decide +kernel
theorem dL_like_3 : decode cL_like 3 = .ok (.iload_n 1, 1) := by decide +kernel
theorem dL_like_4 : decode cL_like 4 = .ok (.invokevirtual 113, 3) := by decide +kernel
theorem dL_like_7 : decode cL_like 7 = .ok (.i2l, 1) := by decide +kernel
theorem dL_like_8 : decode cL_like 8 = .ok (.lastore, 1) := by decide +kernel
theorem dL_like_9 : decode cL_like 9 = .ok (.goto 6, 3) := by decide +kernel
theorem dL_like_12 : decode cL_like 12 = .ok (.astore_n 3, 1) := by decide +kernel
theorem dL_like_13 : decode cL_like 13 = .ok (.iconst 1, 1) := by decide +kernel
theorem dL_like_14 : decode cL_like 14 = .ok (.ireturn, 1) := by decide +kernel
theorem dL_like_15 : decode cL_like 15 = .ok (.iconst 0, 1) := by decide +kernel
theorem dL_like_16 : decode cL_like 16 = .ok (.ireturn, 1) := by decide +kernel
set_option maxRecDepth 20000 in
theorem ggL_mate_X10_mate : GoodIn wsL_mate wsX10_mate := goodIn_ca (goodIn_r _ [6, 7, 8, 9, 10, 11, 12, 5, 13, 14, 15, 16, 17, 18, 19, 20, 21, 22, 23, 24, 25, 26, 27, 28, 29, 30, 31, 32, 33, 34, 35, 36, 37, 38, 39, 40, 41, 42, 43, 44, 45, 46, 47, 48, 49, 50, 51, 52, 53, 54, 55, 56, 57, 58, 59, 60, 61, 62, 63, 64, 65, 66, 67, 68, 69, 70, 71, 72, 73, 74, 75, 76, 77, 78, 79, 80, 81, 82, 83, 84, 85, 86, 87, 88, 89, 90, 91, 92, 93, 94, 95, 96, 97, 98, 99, 100, 101, 102, 103, 104, 105, 106, 107, 108, 109, 110, 111, 112, 113, 114, 115, 116, 117, 118, 119, 120, 121, 122, 123, 124, 125, 126] (by decide +kernel) (by decide +kernel)) (goodIn_sub (fun _ h => List.mem_cons_of_mem _ (List.mem_append_right _ h)) (by decide +kernel))
set_option maxRecDepth 20000 in
theorem gL_mate_X10_mate : GoodIn wsL_mate (wsV RL 116 RX10 yX10_mate wsX10_mate) := goodIn_app (goodIn_of _ (by decide +kernel)) ggL_mate_X10_mate
theorem dL_mate_0 : decode cL_mate 0 = .ok (.aload_n 2, 1) := by decide +kernel
theorem dL_mate_1 : decode cL_mate 1 = .ok (.iconst 0, 1) := by decide +kernel
theorem dL_mate_2 : decode cL_mate 2 = .ok (.aload_n 0, 1) := by decide +kernel
theorem dL_mate_3 : decode cL_mate 3 = .ok (.iload_n 1, 1) := by decide +kernel
theorem dL_mate_4 : decode cL_mate 4 = .ok (.invokevirtual 116, 3) := by decide +kernel
theorem dL_mate_7 : decode cL_mate 7 = .ok (.i2l, 1) := by decide +kernel
theorem dL_mate_8 : decode cL_mate 8 = .ok (.lastore, 1) := by decide +kernel
theorem dL_mate_9 : decode cL_mate 9 = .ok (.goto 6, 3) := by decide +kernel
theorem dL_mate_12 : decode cL_mate 12 = .ok (.astore_n 3, 1) := by decide +kernel
theorem dL_mate_13 : decode cL_mate 13 = .ok (.iconst 1, 1) := by decide +kernel
theorem dL_mate_14 : decode cL_mate 14 = .ok (.ireturn, 1) := by decide +kernel
theorem dL_mate_15 : decode cL_mate 15 = .ok (.iconst 0, 1) := by decide +kernel
theorem dL_mate_16 : decode cL_mate 16 = .ok (.ireturn, 1) := by decide +kernel
set_option maxRecDepth 20000 in
theorem ggL_cost_X10_cost : GoodIn wsL_cost wsX10_cost := goodIn_ca (goodIn_r _ [6, 7, 8, 9, 10, 11, 12, 13, 14, 15, 16, 17, 18, 19, 20, 21, 22, 23, 24, 25, 26, 27, 28, 29, 30, 31, 32, 33, 34, 35, 36, 37, 38, 39, 40, 41, 42, 43, 44, 45, 46, 47, 48, 49, 50, 51, 52, 53, 54, 55, 56, 57, 58, 59, 60, 61, 62, 63, 64, 65, 66, 67, 68, 69, 70, 71, 72, 73, 74, 75, 76, 77, 78, 79, 80, 81, 82, 83, 84, 85, 86, 87, 88, 89, 90, 91, 92, 93, 94, 95, 96, 97, 98, 99, 100, 101, 102, 103, 104, 105, 106, 107, 108, 109, 110, 111, 112, 113, 114, 115, 116, 117, 118, 119, 120, 121, 122, 123, 124, 125, 126, 127, 128, 129] (by decide +kernel) (by decide +kernel)) (goodIn_sub (fun _ h => List.mem_cons_of_mem _ (List.mem_append_right _ h)) (by decide +kernel))
set_option maxRecDepth 20000 in
theorem gL_cost_X10_cost : GoodIn wsL_cost (wsV RL 119 RX10 yX10_cost wsX10_cost) := goodIn_app (goodIn_of _ (by decide +kernel)) ggL_cost_X10_cost
theorem dL_cost_0 : decode cL_cost 0 = .ok (.aload_n 2, 1) := by decide +kernel
theorem dL_cost_1 : decode cL_cost 1 = .ok (.iconst 0, 1) := by decide +kernel
theorem dL_cost_2 : decode cL_cost 2 = .ok (.aload_n 0, 1) := by decide +kernel
theorem dL_cost_3 : decode cL_cost 3 = .ok (.iload_n 1, 1) := by decide +kernel
theorem dL_cost_4 : decode cL_cost 4 = .ok (.invokevirtual 119, 3) := by decide +kernel
theorem dL_cost_7 : decode cL_cost 7 = .ok (.i2l, 1) := by decide +kernel
theorem dL_cost_8 : decode cL_cost 8 = .ok (.lastore, 1) := by decide +kernel
theorem dL_cost_9 : decode cL_cost 9 = .ok (.goto 6, 3) := by decide +kernel
theorem dL_cost_12 : decode cL_cost 12 = .ok (.astore_n 3, 1) := by decide +kernel
theorem dL_cost_13 : decode cL_cost 13 = .ok (.iconst 1, 1) := by decide +kernel
theorem dL_cost_14 : decode cL_cost 14 = .ok (.ireturn, 1) := by decide +kernel
theorem dL_cost_15 : decode cL_cost 15 = .ok (.iconst 0, 1) := by decide +kernel
theorem dL_cost_16 : decode cL_cost 16 = .ok (.ireturn, 1) := by decide +kernel
set_option maxRecDepth 20000 in
theorem ggL_byAlias_X10_byAlias : GoodIn wsL_byAlias wsX10_byAlias := goodIn_ca (goodIn_r _ [6, 7, 8, 9, 10, 11, 12, 13, 14, 15, 16, 17, 18, 19, 20, 21, 22, 23, 24, 25, 26, 27, 28, 29, 30, 31, 32, 33, 34, 35, 36, 37, 38, 39, 40, 41, 42, 43, 44, 45, 46, 47, 48, 49, 50, 51, 52, 53, 54, 55, 56, 57, 58, 59, 60, 61, 62, 63, 64, 65, 66, 67, 68, 69, 70, 71, 72, 73, 74, 75, 76, 77, 78, 79, 80, 81, 82, 83, 84, 85, 86, 87, 88, 89, 90, 91, 92, 93, 94, 95, 96, 97, 98, 99, 100, 101, 102, 103, 104, 105, 106, 107, 108, 109, 110, 111, 112, 113, 114, 115, 116, 117, 118, 119, 120, 121, 122, 123, 124, 125, 126, 127, 128, 129, 130, 131, 132, 133, 134, 135, 136, 137, 138, 139, 140, 141, 142, 143, 144, 145, 146, 147, 148, 149, 150, 151, 152, 153, 154, 155, 156, 157, 158, 159, 160, 161, 162, 163, 164, 165, 166, 167, 168, 169, 170, 171, 172, 173, 174, 175, 176, 177, 178, 179, 180, 181, 182, 183, 184, 185, 186, 187, 188, 189, 190, 191, 192, 193, 194, 195, 196, 197, 198, 199, 200, 201, 202, 203, 204, 205, 206, 207, 208, 209, 210, 211, 212, 213, 214, 215, 216, 217, 218, 219, 220, 221, 222, 223, 224, 225, 226, 227, 228, 229, 230, 231, 232, 233, 234, 235, 236, 237, 238, 239, 240, 241, 242, 243, 244] (by decide +kernel) (by decide +kernel)) (goodIn_sub (fun _ h => List.mem_cons_of_mem _ (List.mem_append_right _ h)) (by decide +kernel))
set_option maxRecDepth 20000 in
theorem gL_byAlias_X10_byAlias : GoodIn wsL_byAlias (wsV RL 122 RX10 yX10_byAlias wsX10_byAlias) := goodIn_app (goodIn_of _ (by decide +kernel)) ggL_byAlias_X10_byAlias
