theorem dX10_most_24 : decode cX10_most 24 = .ok (.new 151, 3) := by decide +kernel
theorem dX10_most_27 : decode cX10_most 27 = .ok (.dup, 1) := by decide +kernel
theorem dX10_most_28 : decode cX10_most 28 = .ok (.ldc 252, 2) := by decide +kernel
theorem dX10_most_30 : decode cX10_most 30 = .ok (.invokespecial 155, 3) := by decide +kernel
theorem dX10_most_33 : decode cX10_most 33 = .ok (.athrow, 1) := by decide +kernel
theorem dX10_most_34 : decode cX10_most 34 = .ok (.iload_n 2, 1) := by decide +kernel
theorem dX10_most_35 : decode cX10_most 35 = .ok (.iconst 2, 1) := by decide +kernel
theorem dX10_most_36 : decode cX10_most 36 = .ok (.if_icmp .lt 18, 3) := by decide +kernel
theorem dX10_most_39 : decode cX10_most 39 = .ok (.iload_n 2, 1) := by decide +kernel
theorem dX10_most_40 : decode cX10_most 40 = .ok (.iconst 4, 1) := by decide +kernel
theorem dX10_most_41 : decode cX10_most 41 = .ok (.if_icmp .gt 13, 3) := by decide +kernel
theorem dX10_most_44 : decode cX10_most 44 = .ok (.iload_n 3, 1) := by decide +kernel
theorem dX10_most_45 : decode cX10_most 45 = .ok (.iconst 1, 1) := by decide +kernel
theorem dX10_most_46 : decode cX10_most 46 = .ok (.if_icmp .lt 8, 3) := by decide +kernel
theorem dX10_most_49 : decode cX10_most 49 = .ok (.iload_n 3, 1) := by decide +kernel
theorem dX10_most_50 : decode cX10_most 50 = .ok (.iload_n 2, 1) := by decide +kernel
theorem dX10_most_51 : decode cX10_most 51 = .ok (.if_icmp .le 14, 3) := by decide +kernel
theorem dX10_most_54 : decode cX10_most 54 = .ok (.new 85, 3) := by decide +kernel
theorem dX10_most_57 : decode cX10_most 57 = .ok (.dup, 1) := by decide +kernel
theorem dX10_most_58 : decode cX10_most 58 = .ok (.ldc_w 294, 3) := by decide +kernel
theorem dX10_most_61 : decode cX10_most 61 = .ok (.invokespecial 89, 3) := by decide +kernel
theorem dX10_most_64 : decode cX10_most 64 = .ok (.athrow, 1) := by decide +kernel
theorem dX10_most_65 : decode cX10_most 65 = .ok (.aload_n 0, 1) := by decide +kernel
theorem dX10_most_66 : decode cX10_most 66 = .ok (.getfield 28, 3) := by decide +kernel
theorem dX10_most_69 : decode cX10_most 69 = .ok (.invokevirtual 229, 3) := by decide +kernel
theorem dX10_most_72 : decode cX10_most 72 = .ok (.ifCond .eq 13, 3) := by decide +kernel
theorem dX10_most_75 : decode cX10_most 75 = .ok (.new 100, 3) := by decide +kernel
theorem dX10_most_78 : decode cX10_most 78 = .ok (.dup, 1) := by decide +kernel
theorem dX10_most_79 : decode cX10_most 79 = .ok (.ldc 230, 2) := by decide +kernel
theorem dX10_most_81 : decode cX10_most 81 = .ok (.invokespecial 104, 3) := by decide +kernel
theorem dX10_most_84 : decode cX10_most 84 = .ok (.athrow, 1) := by decide +kernel
theorem dX10_most_85 : decode cX10_most 85 = .ok (.new 232, 3) := by decide +kernel
theorem dX10_most_88 : decode cX10_most 88 = .ok (.dup, 1) := by decide +kernel
theorem dX10_most_89 : decode cX10_most 89 = .ok (.bipush 8, 2) := by decide +kernel
theorem dX10_most_91 : decode cX10_most 91 = .ok (.invokespecial 234, 3) := by decide +kernel
theorem dX10_most_94 : decode cX10_most 94 = .ok (.astore 4, 2) := by decide +kernel
theorem dX10_most_96 : decode cX10_most 96 = .ok (.aload 4, 2) := by decide +kernel
theorem dX10_most_98 : decode cX10_most 98 = .ok (.iload_n 1, 1) := by decide +kernel
theorem dX10_most_99 : decode cX10_most 99 = .ok (.putfield 254, 3) := by decide +kernel
theorem dX10_most_102 : decode cX10_most 102 = .ok (.aload 4, 2) := by decide +kernel
theorem dX10_most_104 : decode cX10_most 104 = .ok (.iload_n 2, 1) := by decide +kernel
theorem dX10_most_105 : decode cX10_most 105 = .ok (.putfield 296, 3) := by decide +kernel
theorem dX10_most_108 : decode cX10_most 108 = .ok (.aload 4, 2) := by decide +kernel
theorem dX10_most_110 : decode cX10_most 110 = .ok (.iload_n 3, 1) := by decide +kernel
theorem dX10_most_111 : decode cX10_most 111 = .ok (.putfield 299, 3) := by decide +kernel
theorem dX10_most_114 : decode cX10_most 114 = .ok (.aload_n 0, 1) := by decide +kernel
theorem dX10_most_115 : decode cX10_most 115 = .ok (.getfield 28, 3) := by decide +kernel
theorem dX10_most_118 : decode cX10_most 118 = .ok (.aload 4, 2) := by decide +kernel
theorem dX10_most_120 : decode cX10_most 120 = .ok (.invokevirtual 242, 3) := by decide +kernel
theorem dX10_most_123 : decode cX10_most 123 = .ok (.ireturn, 1) := by decide +kernel
theorem dX10_nodes_0 : decode cX10_nodes 0 = .ok (.aload_n 0, 1) := by decide +kernel
theorem dX10_nodes_1 : decode cX10_nodes 1 = .ok (.getfield 28, 3) := by decide +kernel
theorem dX10_nodes_4 : decode cX10_nodes 4 = .ok (.getfield 293, 3) := by decide +kernel
theorem dX10_nodes_7 : decode cX10_nodes 7 = .ok (.ireturn, 1) := by decide +kernel
set_option maxRecDepth 20000 in
theorem ggX10_score_X0_documentAt : GoodIn wsX10_score wsX0_documentAt := goodIn_r _ [10, 11, 12, 192, 193, 194, 195, 196, 197] (by decide +kernel) (by decide +kernel)
set_option maxRecDepth 20000 in
theorem gX10_score_X0_documentAt : GoodIn wsX10_score (wsV RX10 147 RX0 yX0_documentAt wsX0_documentAt) := goodIn_app (goodIn_of _ (by decide +kernel)) ggX10_score_X0_documentAt
set_option maxRecDepth 20000 in
theorem ggX10_score_X6_hasNode : GoodIn wsX10_score wsX6_hasNode := goodIn_r _ [17, 18, 19, 20, 16, 21, 22, 23, 198, 199, 200, 201, 202] (by decide +kernel) (by decide +kernel)
set_option maxRecDepth 20000 in
theorem gX10_score_X6_hasNode : GoodIn wsX10_score (wsV RX10 249 RX6 yX6_hasNode wsX6_hasNode) := goodIn_app (goodIn_of _ (by decide +kernel)) ggX10_score_X6_hasNode
set_option maxRecDepth 20000 in
theorem ggX10_score_X2_canBeFound : GoodIn wsX10_score wsX2_canBeFound := goodIn_r _ [28, 29, 30, 31, 32, 27, 33, 34, 203, 204, 205, 206, 207] (by decide +kernel) (by decide +kernel)
set_option maxRecDepth 20000 in
theorem gX10_score_X2_canBeFound : GoodIn wsX10_score (wsV RX10 307 RX2 yX2_canBeFound wsX2_canBeFound) := goodIn_app (goodIn_of _ (by decide +kernel)) ggX10_score_X2_canBeFound
set_option maxRecDepth 20000 in
theorem ggX10_score_X8_scoreOf : GoodIn wsX10_score wsX8_scoreOf := goodIn_r _ [39, 40, 41, 42, 43, 44, 45, 46, 47, 19, 20, 16, 21, 22, 23, 48, 49, 50, 38, 51, 52, 53, 54, 55, 56, 57, 58, 59, 60, 61, 62, 63, 64, 65, 66, 67, 68, 69, 70, 71, 72, 73, 74, 75, 76, 77, 78, 79, 80, 81, 82, 83, 84, 85, 86, 87, 27, 88, 89, 90, 91, 92, 93, 94, 95, 96, 97, 98, 99, 100, 101, 102, 103, 104, 105, 106, 107, 108, 109, 110, 111, 112, 113, 114, 115, 116, 117, 118, 119, 120, 121, 122, 123, 124, 125, 126, 127, 128, 129, 130, 131, 132, 133, 134, 135, 136, 137, 138, 139, 140, 141, 142, 143, 144, 145, 146, 147, 148, 149, 150, 151, 152, 153, 154, 155, 156, 157, 158, 159, 160, 161, 162, 163, 164, 165, 166, 167, 168, 169, 170, 171, 172, 173, 174, 175, 176, 177, 178, 179, 180, 181, 208, 209, 210, 211, 212, 198, 199, 200, 201, 202, 213, 214, 215, 216, 217, 218, 219, 220, 221, 222, 223, 224, 225, 203, 204, 205, 206, 207, 226, 227, 228, 229, 230, 231, 232, 233, 234, 235, 236] (by decide +kernel) (by decide +kernel)
set_option maxRecDepth 20000 in
theorem gX10_score_X8_scoreOf : GoodIn wsX10_score (wsV RX10 310 RX8 yX8_scoreOf wsX8_scoreOf) := goodIn_app (goodIn_of _ (by decide +kernel)) ggX10_score_X8_scoreOf
theorem dX10_score_0 : decode cX10_score 0 = .ok (.aload_n 0, 1) := by decide +kernel
theorem dX10_score_1 : decode cX10_score 1 = .ok (.getfield 10, 3) := by decide +kernel
theorem dX10_score_4 : decode cX10_score 4 = .ok (.iload_n 2, 1) := by decide +kernel
theorem dX10_score_5 : decode cX10_score 5 = .ok (.invokevirtual 147, 3) := by decide +kernel
theorem dX10_score_8 : decode cX10_score 8 = .ok (.astore_n 3, 1) := by decide +kernel
theorem dX10_score_9 : decode cX10_score 9 = .ok (.aload_n 0, 1) := by decide +kernel
theorem dX10_score_10 : decode cX10_score 10 = .ok (.getfield 28, 3) := by decide +kernel
theorem dX10_score_13 : decode cX10_score 13 = .ok (.iload_n 1, 1) := by decide +kernel
theorem dX10_score_14 : decode cX10_score 14 = .ok (.invokevirtual 249, 3) := by decide +kernel
theorem dX10_score_17 : decode cX10_score 17 = .ok (.ifCond .eq 7, 3) := by decide +kernel
theorem dX10_score_20 : decode cX10_score 20 = .ok (.aload_n 3, 1) := by decide +kernel
theorem dX10_score_21 : decode cX10_score 21 = .ok (.ifnonnull 14, 3) := by decide +kernel
theorem dX10_score_24 : decode cX10_score 24 = .ok (.new 151, 3) := by decide +kernel
theorem dX10_score_27 : decode cX10_score 27 = .ok (.dup, 1) := by decide +kernel
theorem dX10_score_28 : decode cX10_score 28 = .ok (.ldc_w 305, 3) := by decide +kernel
theorem dX10_score_31 : decode cX10_score 31 = .ok (.invokespecial 155, 3) := by decide +kernel
theorem dX10_score_34 : decode cX10_score 34 = .ok (.athrow, 1) := by decide +kernel
theorem dX10_score_35 : decode cX10_score 35 = .ok (.aload_n 3, 1) := by decide +kernel
theorem dX10_score_36 : decode cX10_score 36 = .ok (.invokevirtual 307, 3) := by decide +kernel
theorem dX10_score_39 : decode cX10_score 39 = .ok (.ifCond .eq 15, 3) := by decide +kernel
theorem dX10_score_42 : decode cX10_score 42 = .ok (.aload_n 0, 1) := by decide +kernel
theorem dX10_score_43 : decode cX10_score 43 = .ok (.getfield 63, 3) := by decide +kernel
theorem dX10_score_46 : decode cX10_score 46 = .ok (.aload_n 3, 1) := by decide +kernel
theorem dX10_score_47 : decode cX10_score 47 = .ok (.iload_n 1, 1) := by decide +kernel
theorem dX10_score_48 : decode cX10_score 48 = .ok (.invokevirtual 310, 3) := by decide +kernel
theorem dX10_score_51 : decode cX10_score 51 = .ok (.goto 4, 3) := by decide +kernel
theorem dX10_score_54 : decode cX10_score 54 = .ok (.iconst (-1), 1) := by decide +kernel
theorem dX10_score_55 : decode cX10_score 55 = .ok (.ireturn, 1) := by decide +kernel
set_option maxRecDepth 20000 in
theorem ggX10_found_X6_hasNode : GoodIn wsX10_found wsX6_hasNode := goodIn_r _ [10, 11, 12, 13, 9, 14, 15, 16, 204, 205, 206, 207, 208] (by decide +kernel) (by decide +kernel)
set_option maxRecDepth 20000 in
theorem gX10_found_X6_hasNode : GoodIn wsX10_found (wsV RX10 249 RX6 yX6_hasNode wsX6_hasNode) := goodIn_app (goodIn_of _ (by decide +kernel)) ggX10_found_X6_hasNode
set_option maxRecDepth 20000 in
theorem ggX10_found_X10_scoreNow : GoodIn wsX10_found wsX10_scoreNow := goodIn_r _ [21, 4, 22, 23, 24, 25, 26, 27, 28, 29, 30, 31, 32, 33, 34, 35, 36, 37, 38, 39, 40, 41, 42, 43, 44, 45, 46, 47, 48, 49, 50, 51, 52, 53, 12, 13, 9, 14, 15, 16, 54, 55, 56, 57, 58, 59, 60, 61, 62, 63, 64, 65, 66, 67, 68, 69, 70, 71, 72, 73, 74, 75, 76, 77, 78, 79, 80, 81, 82, 83, 84, 85, 86, 87, 88, 89, 90, 91, 92, 93, 94, 95, 96, 97, 98, 99, 100, 101, 102, 103, 104, 105, 106, 107, 108, 109, 110, 111, 112, 113, 114, 115, 116, 117, 118, 119, 120, 121, 122, 123, 124, 125, 126, 127, 128, 129, 130, 131, 132, 133, 134, 135, 136, 137, 138, 139, 140, 141, 142, 143, 144, 145, 146, 147, 148, 149, 150, 151, 152, 153, 154, 155, 156, 157, 158, 159, 160, 161, 162, 163, 164, 165, 166, 167, 168, 169, 170, 171, 172, 173, 174, 175, 176, 177, 178, 179, 180, 181, 182, 183, 184, 185, 186, 187, 188, 189, 190, 191, 192, 193, 194, 195, 196, 197, 198, 199, 200, 201, 202, 203, 209, 210, 211, 212, 213, 214, 215, 216, 217, 218, 204, 205, 206, 207, 208, 219, 220, 221, 222, 223, 224, 225, 226, 227, 228, 229, 230, 231, 232, 233, 234, 235, 236, 237, 238, 239, 240, 241, 242] (by decide +kernel) (by decide +kernel)
set_option maxRecDepth 20000 in
theorem gX10_found_X10_scoreNow : GoodIn wsX10_found (wsV RX10 314 RX10 yX10_scoreNow wsX10_scoreNow) := goodIn_app (goodIn_of _ (by decide +kernel)) ggX10_found_X10_scoreNow
theorem dX10_found_0 : decode cX10_found 0 = .ok (.aload_n 0, 1) := by decide +kernel
theorem dX10_found_1 : decode cX10_found 1 = .ok (.getfield 28, 3) := by decide +kernel
theorem dX10_found_4 : decode cX10_found 4 = .ok (.iload_n 1, 1) := by decide +kernel
theorem dX10_found_5 : decode cX10_found 5 = .ok (.invokevirtual 249, 3) := by decide +kernel
theorem dX10_found_8 : decode cX10_found 8 = .ok (.ifCond .ne 13, 3) := by decide +kernel
theorem dX10_found_11 : decode cX10_found 11 = .ok (.new 151, 3) := by decide +kernel
theorem dX10_found_14 : decode cX10_found 14 = .ok (.dup, 1) := by decide +kernel
theorem dX10_found_15 : decode cX10_found 15 = .ok (.ldc 252, 2) := by decide +kernel
theorem dX10_found_17 : decode cX10_found 17 = .ok (.invokespecial 155, 3) := by decide +kernel
theorem dX10_found_20 : decode cX10_found 20 = .ok (.athrow, 1) := by decide +kernel
theorem dX10_found_21 : decode cX10_found 21 = .ok (.iconst 0, 1) := by decide +kernel
theorem dX10_found_22 : decode cX10_found 22 = .ok (.istore_n 2, 1) := by decide +kernel
theorem dX10_found_23 : decode cX10_found 23 = .ok (.iconst 0, 1) := by decide +kernel
theorem dX10_found_24 : decode cX10_found 24 = .ok (.istore_n 3, 1) := by decide +kernel
theorem dX10_found_25 : decode cX10_found 25 = .ok (.iload_n 3, 1) := by decide +kernel
theorem dX10_found_26 : decode cX10_found 26 = .ok (.aload_n 0, 1) := by decide +kernel
theorem dX10_found_27 : decode cX10_found 27 = .ok (.getfield 10, 3) := by decide +kernel
theorem dX10_found_30 : decode cX10_found 30 = .ok (.getfield 110, 3) := by decide +kernel
theorem dX10_found_33 : decode cX10_found 33 = .ok (.if_icmp .ge 22, 3) := by decide +kernel
theorem dX10_found_36 : decode cX10_found 36 = .ok (.aload_n 0, 1) := by decide +kernel
theorem dX10_found_37 : decode cX10_found 37 = .ok (.iload_n 3, 1) := by decide +kernel
theorem dX10_found_38 : decode cX10_found 38 = .ok (.iload_n 1, 1) := by decide +kernel
theorem dX10_found_39 : decode cX10_found 39 = .ok (.invokevirtual 314, 3) := by decide +kernel
theorem dX10_found_42 : decode cX10_found 42 = .ok (.iconst (-1), 1) := by decide +kernel
theorem dX10_found_43 : decode cX10_found 43 = .ok (.if_icmp .eq 6, 3) := by decide +kernel
theorem dX10_found_46 : decode cX10_found 46 = .ok (.iinc 2 1, 3) := by decide +kernel
theorem dX10_found_49 : decode cX10_found 49 = .ok (.iinc 3 1, 3) := by decide +kernel
theorem dX10_found_52 : decode cX10_found 52 = .ok (.goto (-27), 3) := by decide +kernel
theorem dX10_found_55 : decode cX10_found 55 = .ok (.iload_n 2, 1) := by decide +kernel
theorem dX10_found_56 : decode cX10_found 56 = .ok (.ireturn, 1) := by decide +kernel
set_option maxRecDepth 20000 in
theorem ggX10_scoreNow_X0_documentAt : GoodIn wsX10_scoreNow wsX0_documentAt := goodIn_r _ [7, 8, 9, 184, 185, 186, 187, 188, 189] (by decide +kernel) (by decide +kernel)
set_option maxRecDepth 20000 in
theorem gX10_scoreNow_X0_documentAt : GoodIn wsX10_scoreNow (wsV RX10 147 RX0 yX0_documentAt wsX0_documentAt) := goodIn_app (goodIn_of _ (by decide +kernel)) ggX10_scoreNow_X0_documentAt
set_option maxRecDepth 20000 in
theorem ggX10_scoreNow_X2_canBeFound : GoodIn wsX10_scoreNow wsX2_canBeFound := goodIn_r _ [14, 15, 16, 17, 18, 13, 19, 20, 190, 191, 192, 193, 194] (by decide +kernel) (by decide +kernel)
set_option maxRecDepth 20000 in
theorem gX10_scoreNow_X2_canBeFound : GoodIn wsX10_scoreNow (wsV RX10 307 RX2 yX2_canBeFound wsX2_canBeFound) := goodIn_app (goodIn_of _ (by decide +kernel)) ggX10_scoreNow_X2_canBeFound
set_option maxRecDepth 20000 in
theorem ggX10_scoreNow_X8_scoreOf : GoodIn wsX10_scoreNow wsX8_scoreOf := goodIn_r _ [25, 26, 27, 28, 29, 30, 31, 32, 33, 34, 35, 36, 37, 38, 39, 40, 41, 42, 24, 43, 44, 45, 46, 47, 48, 49, 50, 51, 52, 53, 54, 55, 56, 57, 58, 59, 60, 61, 62, 63, 64, 65, 66, 67, 68, 69, 70, 71, 72, 73, 74, 75, 76, 77, 78, 79, 13, 80, 81, 82, 83, 84, 85, 86, 87, 88, 89, 90, 91, 92, 93, 94, 95, 96, 97, 98, 99, 100, 101, 102, 103, 104, 105, 106, 107, 108, 109, 110, 111, 112, 113, 114, 115, 116, 117, 118, 119, 120, 121, 122, 123, 124, 125, 126, 127, 128, 129, 130, 131, 132, 133, 134, 135, 136, 137, 138, 139, 140, 141, 142, 143, 144, 145, 146, 147, 148, 149, 150, 151, 152, 153, 154, 155, 156, 157, 158, 159, 160, 161, 162, 163, 164, 165, 166, 167, 168, 169, 170, 171, 172, 173, 195, 196, 197, 198, 199, 200, 201, 202, 203, 204, 205, 206, 207, 208, 209, 210, 211, 212, 213, 214, 215, 216, 217, 190, 191, 192, 193, 194, 218, 219, 220, 221, 222, 223, 224, 225, 226, 227, 228] (by decide +kernel) (by decide +kernel)
set_option maxRecDepth 20000 in
theorem gX10_scoreNow_X8_scoreOf : GoodIn wsX10_scoreNow (wsV RX10 310 RX8 yX8_scoreOf wsX8_scoreOf) := goodIn_app (goodIn_of _ (by decide +kernel)) ggX10_scoreNow_X8_scoreOf
theorem dX10_scoreNow_0 : decode cX10_scoreNow 0 = .ok (.aload_n 0, 1) := by decide +kernel
theorem dX10_scoreNow_1 : decode cX10_scoreNow 1 = .ok (.getfield 10, 3) := by decide +kernel
theorem dX10_scoreNow_4 : decode cX10_scoreNow 4 = .ok (.iload_n 1, 1) := by decide +kernel
theorem dX10_scoreNow_5 : decode cX10_scoreNow 5 = .ok (.invokevirtual 147, 3) := by decide +kernel
theorem dX10_scoreNow_8 : decode cX10_scoreNow 8 = .ok (.astore_n 3, 1) := by decide +kernel
theorem dX10_scoreNow_9 : decode cX10_scoreNow 9 = .ok (.aload_n 3, 1) := by decide +kernel
theorem dX10_scoreNow_10 : decode cX10_scoreNow 10 = .ok (.ifnull 10, 3) := by decide +kernel
theorem dX10_scoreNow_13 : decode cX10_scoreNow 13 = .ok (.aload_n 3, 1) := by decide +kernel
theorem dX10_scoreNow_14 : decode cX10_scoreNow 14 = .ok (.invokevirtual 307, 3) := by decide +kernel
theorem dX10_scoreNow_17 : decode cX10_scoreNow 17 = .ok (.ifCond .ne 7, 3) := by decide +kernel
theorem dX10_scoreNow_20 : decode cX10_scoreNow 20 = .ok (.iconst (-1), 1) := by decide +kernel
theorem dX10_scoreNow_21 : decode cX10_scoreNow 21 = .ok (.goto 12, 3) := by decide +kernel
theorem dX10_scoreNow_24 : decode cX10_scoreNow 24 = .ok (.aload_n 0, 1) := by decide +kernel
theorem dX10_scoreNow_25 : decode cX10_scoreNow 25 = .ok (.getfield 63, 3) := by decide +kernel
theorem dX10_scoreNow_28 : decode cX10_scoreNow 28 = .ok (.aload_n 3, 1) := by decide +kernel
theorem dX10_scoreNow_29 : decode cX10_scoreNow 29 = .ok (.iload_n 2, 1) := by decide +kernel
theorem dX10_scoreNow_30 : decode cX10_scoreNow 30 = .ok (.invokevirtual 310, 3) := by decide +kernel
theorem dX10_scoreNow_33 : decode cX10_scoreNow 33 = .ok (.ireturn, 1) := by decide +kernel
set_option maxRecDepth 20000 in
theorem ggX10_search_X6_hasNode : GoodIn wsX10_search wsX6_hasNode := goodIn_r _ [12, 13, 14, 15, 11, 16, 17, 18, 240, 241, 242, 243, 244] (by decide +kernel) (by decide +kernel)
set_option maxRecDepth 20000 in
theorem gX10_search_X6_hasNode : GoodIn wsX10_search (wsV RX10 249 RX6 yX6_hasNode wsX6_hasNode) := goodIn_app (goodIn_of _ (by decide +kernel)) ggX10_search_X6_hasNode
set_option maxRecDepth 20000 in
theorem ggX10_search_X7_dropAll : GoodIn wsX10_search wsX7_dropAll := goodIn_r _ [23, 24, 236, 237, 238, 239] (by decide +kernel) (by decide +kernel)
set_option maxRecDepth 20000 in
theorem gX10_search_X7_dropAll : GoodIn wsX10_search (wsV RX10 317 RX7 yX7_dropAll wsX7_dropAll) := goodIn_app (goodIn_of _ (by decide +kernel)) ggX10_search_X7_dropAll
set_option maxRecDepth 20000 in
theorem ggX10_search_X10_scoreNow : GoodIn wsX10_search wsX10_scoreNow := goodIn_r _ [29, 5, 30, 31, 32, 33, 34, 35, 36, 37, 38, 39, 40, 41, 42, 43, 44, 45, 46, 47, 48, 49, 50, 51, 52, 53, 54, 55, 56, 57, 58, 59, 60, 61, 14, 15, 11, 16, 17, 18, 62, 63, 64, 65, 66, 67, 68, 69, 70, 71, 72, 73, 74, 75, 76, 77, 78, 79, 80, 81, 82, 83, 84, 85, 86, 87, 88, 89, 90, 91, 92, 93, 94, 95, 96, 97, 98, 99, 100, 101, 102, 103, 104, 105, 106, 107, 108, 109, 110, 111, 112, 113, 114, 115, 116, 117, 118, 119, 120, 121, 122, 123, 124, 125, 126, 127, 128, 129, 130, 131, 132, 133, 134, 135, 136, 137, 138, 139, 140, 141, 142, 143, 144, 145, 146, 147, 148, 149, 150, 151, 152, 153, 154, 155, 156, 157, 158, 159, 160, 161, 162, 163, 164, 165, 166, 167, 168, 169, 170, 171, 172, 173, 174, 175, 176, 177, 178, 179, 180, 181, 182, 183, 184, 185, 186, 187, 188, 189, 190, 191, 192, 193, 194, 195, 220, 221, 222, 223, 224, 225, 226, 227, 228, 229, 230, 231, 232, 233, 234, 235, 245, 246, 247, 248, 249, 250, 251, 252, 253, 254, 240, 241, 242, 243, 244, 255, 256, 257, 258, 259, 260, 261, 262, 263, 264, 265, 266, 267, 268, 269, 270, 271, 272, 273, 274, 275, 276, 277, 278] (by decide +kernel) (by decide +kernel)
set_option maxRecDepth 20000 in
theorem gX10_search_X10_scoreNow : GoodIn wsX10_search (wsV RX10 314 RX10 yX10_scoreNow wsX10_scoreNow) := goodIn_app (goodIn_of _ (by decide +kernel)) ggX10_search_X10_scoreNow
set_option maxRecDepth 20000 in
theorem ggX10_search_X0_documentAt : GoodIn wsX10_search wsX0_documentAt := goodIn_r _ [35, 36, 37, 230, 231, 232, 233, 234, 235] (by decide +kernel) (by decide +kernel)
set_option maxRecDepth 20000 in
theorem gX10_search_X0_documentAt : GoodIn wsX10_search (wsV RX10 147 RX0 yX0_documentAt wsX0_documentAt) := goodIn_app (goodIn_of _ (by decide +kernel)) ggX10_search_X0_documentAt
set_option maxRecDepth 20000 in
theorem ggX10_search_X7_insert : GoodIn wsX10_search wsX7_insert := goodIn_r _ [199, 24, 200, 201, 202, 203, 204, 205, 22, 206, 207, 208, 209, 210, 211, 212, 213, 214, 215, 216, 217, 218, 219, 236, 237, 238, 239, 245, 246, 247, 248, 249] (by decide +kernel) (by decide +kernel)
set_option maxRecDepth 20000 in
theorem gX10_search_X7_insert : GoodIn wsX10_search (wsV RX10 319 RX7 yX7_insert wsX7_insert) := goodIn_app (goodIn_of _ (by decide +kernel)) ggX10_search_X7_insert
theorem dX10_search_0 : decode cX10_search 0 = .ok (.aload_n 0, 1) := by decide +kernel
theorem dX10_search_1 : decode cX10_search 1 = .ok (.getfield 28, 3) := by decide +kernel
theorem dX10_search_4 : decode cX10_search 4 = .ok (.iload_n 1, 1) := by decide +kernel
theorem dX10_search_5 : decode cX10_search 5 = .ok (.invokevirtual 249, 3) := by decide +kernel
theorem dX10_search_8 : decode cX10_search 8 = .ok (.ifCond .ne 13, 3) := by decide +kernel
theorem dX10_search_11 : decode cX10_search 11 = .ok (.new 151, 3) := by decide +kernel
theorem dX10_search_14 : decode cX10_search 14 = .ok (.dup, 1) := by decide +kernel
theorem dX10_search_15 : decode cX10_search 15 = .ok (.ldc 252, 2) := by decide +kernel
theorem dX10_search_17 : decode cX10_search 17 = .ok (.invokespecial 155, 3) := by decide +kernel
theorem dX10_search_20 : decode cX10_search 20 = .ok (.athrow, 1) := by decide +kernel
theorem dX10_search_21 : decode cX10_search 21 = .ok (.aload_n 0, 1) := by decide +kernel
theorem dX10_search_22 : decode cX10_search 22 = .ok (.getfield 35, 3) := by decide +kernel
theorem dX10_search_25 : decode cX10_search 25 = .ok (.invokevirtual 317, 3) := by decide +kernel
theorem dX10_search_28 : decode cX10_search 28 = .ok (.iconst 0, 1) := by decide +kernel
theorem dX10_search_29 : decode cX10_search 29 = .ok (.istore_n 2, 1) := by decide +kernel
theorem dX10_search_30 : decode cX10_search 30 = .ok (.iload_n 2, 1) := by decide +kernel
theorem dX10_search_31 : decode cX10_search 31 = .ok (.aload_n 0, 1) := by decide +kernel
theorem dX10_search_32 : decode cX10_search 32 = .ok (.getfield 10, 3) := by decide +kernel
theorem dX10_search_35 : decode cX10_search 35 = .ok (.getfield 110, 3) := by decide +kernel
theorem dX10_search_38 : decode cX10_search 38 = .ok (.if_icmp .ge 38, 3) := by decide +kernel
theorem dX10_search_41 : decode cX10_search 41 = .ok (.aload_n 0, 1) := by decide +kernel
theorem dX10_search_42 : decode cX10_search 42 = .ok (.iload_n 2, 1) := by decide +kernel
theorem dX10_search_43 : decode cX10_search 43 = .ok (.iload_n 1, 1) := by decide +kernel
theorem dX10_search_44 : decode cX10_search 44 = .ok (.invokevirtual 314, 3) := by decide +kernel
theorem dX10_search_47 : decode cX10_search 47 = .ok (.istore_n 3, 1) := by decide +kernel
theorem dX10_search_48 : decode cX10_search 48 = .ok (.iload_n 3, 1) := by decide +kernel
theorem dX10_search_49 : decode cX10_search 49 = .ok (.iconst (-1), 1) := by decide +kernel
theorem dX10_search_50 : decode cX10_search 50 = .ok (.if_icmp .eq 20, 3) := by decide +kernel
theorem dX10_search_53 : decode cX10_search 53 = .ok (.aload_n 0, 1) := by decide +kernel
theorem dX10_search_54 : decode cX10_search 54 = .ok (.getfield 35, 3) := by decide +kernel
theorem dX10_search_57 : decode cX10_search 57 = .ok (.aload_n 0, 1) := by decide +kernel
theorem dX10_search_58 : decode cX10_search 58 = .ok (.getfield 10, 3) := by decide +kernel
theorem dX10_search_61 : decode cX10_search 61 = .ok (.iload_n 2, 1) := by decide +kernel
theorem dX10_search_62 : decode cX10_search 62 = .ok (.invokevirtual 147, 3) := by decide +kernel
theorem dX10_search_65 : decode cX10_search 65 = .ok (.iload_n 2, 1) := by decide +kernel
theorem dX10_search_66 : decode cX10_search 66 = .ok (.iload_n 3, 1) := by decide +kernel
theorem dX10_search_67 : decode cX10_search 67 = .ok (.invokevirtual 319, 3) := by decide +kernel
theorem dX10_search_70 : decode cX10_search 70 = .ok (.iinc 2 1, 3) := by decide +kernel
theorem dX10_search_73 : decode cX10_search 73 = .ok (.goto (-43), 3) := by decide +kernel
theorem dX10_search_76 : decode cX10_search 76 = .ok (.aload_n 0, 1) := by decide +kernel
theorem dX10_search_77 : decode cX10_search 77 = .ok (.getfield 35, 3) := by decide +kernel
theorem dX10_search_80 : decode cX10_search 80 = .ok (.getfield 323, 3) := by decide +kernel
theorem dX10_search_83 : decode cX10_search 83 = .ok (.ireturn, 1) := by decide +kernel
theorem dX10_results_0 : decode cX10_results 0 = .ok (.aload_n 0, 1) := by decide +kernel
theorem dX10_results_1 : decode cX10_results 1 = .ok (.getfield 35, 3) := by decide +kernel
theorem dX10_results_4 : decode cX10_results 4 = .ok (.getfield 323, 3) := by decide +kernel
theorem dX10_results_7 : decode cX10_results 7 = .ok (.ireturn, 1) := by decide +kernel
set_option maxRecDepth 20000 in
theorem ggX10_resultAt_X7_hasPlace : GoodIn wsX10_resultAt wsX7_hasPlace := goodIn_r _ [8, 9, 26, 27, 28, 29] (by decide +kernel) (by decide +kernel)
set_option maxRecDepth 20000 in
theorem gX10_resultAt_X7_hasPlace : GoodIn wsX10_resultAt (wsV RX10 324 RX7 yX7_hasPlace wsX7_hasPlace) := goodIn_app (goodIn_of _ (by decide +kernel)) ggX10_resultAt_X7_hasPlace
set_option maxRecDepth 20000 in
theorem ggX10_resultAt_X7_numberAt : GoodIn wsX10_resultAt wsX7_numberAt := goodIn_r _ [13, 14, 15, 5, 6, 7, 8, 9, 26, 27, 28, 29] (by decide +kernel) (by decide +kernel)
set_option maxRecDepth 20000 in
theorem gX10_resultAt_X7_numberAt : GoodIn wsX10_resultAt (wsV RX10 329 RX7 yX7_numberAt wsX7_numberAt) := goodIn_app (goodIn_of _ (by decide +kernel)) ggX10_resultAt_X7_numberAt
theorem dX10_resultAt_0 : decode cX10_resultAt 0 = .ok (.aload_n 0, 1) := by decide +kernel
theorem dX10_resultAt_1 : decode cX10_resultAt 1 = .ok (.getfield 35, 3) := by decide +kernel
theorem dX10_resultAt_4 : decode cX10_resultAt 4 = .ok (.iload_n 1, 1) := by decide +kernel
theorem dX10_resultAt_5 : decode cX10_resultAt 5 = .ok (.invokevirtual 324, 3) := by decide +kernel
theorem dX10_resultAt_8 : decode cX10_resultAt 8 = .ok (.ifCond .ne 14, 3) := by decide +kernel
theorem dX10_resultAt_11 : decode cX10_resultAt 11 = .ok (.new 151, 3) := by decide +kernel
theorem dX10_resultAt_14 : decode cX10_resultAt 14 = .ok (.dup, 1) := by decide +kernel
theorem dX10_resultAt_15 : decode cX10_resultAt 15 = .ok (.ldc_w 327, 3) := by decide +kernel
theorem dX10_resultAt_18 : decode cX10_resultAt 18 = .ok (.invokespecial 155, 3) := by decide +kernel
theorem dX10_resultAt_21 : decode cX10_resultAt 21 = .ok (.athrow, 1) := by decide +kernel
theorem dX10_resultAt_22 : decode cX10_resultAt 22 = .ok (.aload_n 0, 1) := by decide +kernel
theorem dX10_resultAt_23 : decode cX10_resultAt 23 = .ok (.getfield 35, 3) := by decide +kernel
theorem dX10_resultAt_26 : decode cX10_resultAt 26 = .ok (.iload_n 1, 1) := by decide +kernel
theorem dX10_resultAt_27 : decode cX10_resultAt 27 = .ok (.invokevirtual 329, 3) := by decide +kernel
theorem dX10_resultAt_30 : decode cX10_resultAt 30 = .ok (.ireturn, 1) := by decide +kernel
set_option maxRecDepth 20000 in
theorem ggX10_scoreAt_X7_hasPlace : GoodIn wsX10_scoreAt wsX7_hasPlace := goodIn_r _ [8, 9, 26, 27, 28, 29] (by decide +kernel) (by decide +kernel)
set_option maxRecDepth 20000 in
theorem gX10_scoreAt_X7_hasPlace : GoodIn wsX10_scoreAt (wsV RX10 324 RX7 yX7_hasPlace wsX7_hasPlace) := goodIn_app (goodIn_of _ (by decide +kernel)) ggX10_scoreAt_X7_hasPlace
set_option maxRecDepth 20000 in
theorem ggX10_scoreAt_X7_valueAt : GoodIn wsX10_scoreAt wsX7_valueAt := goodIn_r _ [13, 14, 15, 5, 6, 7, 8, 9, 26, 27, 28, 29] (by decide +kernel) (by decide +kernel)
set_option maxRecDepth 20000 in
theorem gX10_scoreAt_X7_valueAt : GoodIn wsX10_scoreAt (wsV RX10 332 RX7 yX7_valueAt wsX7_valueAt) := goodIn_app (goodIn_of _ (by decide +kernel)) ggX10_scoreAt_X7_valueAt
theorem dX10_scoreAt_0 : decode cX10_scoreAt 0 = .ok (.aload_n 0, 1) := by decide +kernel
theorem dX10_scoreAt_1 : decode cX10_scoreAt 1 = .ok (.getfield 35, 3) := by decide +kernel
theorem dX10_scoreAt_4 : decode cX10_scoreAt 4 = .ok (.iload_n 1, 1) := by decide +kernel
theorem dX10_scoreAt_5 : decode cX10_scoreAt 5 = .ok (.invokevirtual 324, 3) := by decide +kernel
theorem dX10_scoreAt_8 : decode cX10_scoreAt 8 = .ok (.ifCond .ne 14, 3) := by decide +kernel
theorem dX10_scoreAt_11 : decode cX10_scoreAt 11 = .ok (.new 151, 3) := by decide +kernel
theorem dX10_scoreAt_14 : decode cX10_scoreAt 14 = .ok (.dup, 1) := by decide +kernel
theorem dX10_scoreAt_15 : decode cX10_scoreAt 15 = .ok (.ldc_w 327, 3) := by decide +kernel
theorem dX10_scoreAt_18 : decode cX10_scoreAt 18 = .ok (.invokespecial 155, 3) := by decide +kernel
theorem dX10_scoreAt_21 : decode cX10_scoreAt 21 = .ok (.athrow, 1) := by decide +kernel
theorem dX10_scoreAt_22 : decode cX10_scoreAt 22 = .ok (.aload_n 0, 1) := by decide +kernel
theorem dX10_scoreAt_23 : decode cX10_scoreAt 23 = .ok (.getfield 35, 3) := by decide +kernel
theorem dX10_scoreAt_26 : decode cX10_scoreAt 26 = .ok (.iload_n 1, 1) := by decide +kernel
theorem dX10_scoreAt_27 : decode cX10_scoreAt 27 = .ok (.invokevirtual 332, 3) := by decide +kernel
theorem dX10_scoreAt_30 : decode cX10_scoreAt 30 = .ok (.ireturn, 1) := by decide +kernel
set_option maxRecDepth 20000 in
theorem ggX10_ofKind_X10_isKind : GoodIn wsX10_ofKind wsX10_isKind := goodIn_r _ [7] (by decide +kernel) (by decide +kernel)
set_option maxRecDepth 20000 in
theorem gX10_ofKind_X10_isKind : GoodIn wsX10_ofKind (va_wsS RX10 82 yX10_isKind wsX10_isKind) := goodIn_app (goodIn_of _ (by decide +kernel)) ggX10_ofKind_X10_isKind
set_option maxRecDepth 20000 in
theorem ggX10_ofKind_X7_countKind : GoodIn wsX10_ofKind wsX7_countKind := goodIn_r _ [12, 13, 14, 15, 16, 17, 11, 18, 19, 20, 21, 22, 23, 34, 35, 36, 37, 38, 39, 40, 41, 42] (by decide +kernel) (by decide +kernel)
set_option maxRecDepth 20000 in
theorem gX10_ofKind_X7_countKind : GoodIn wsX10_ofKind (wsV RX10 337 RX7 yX7_countKind wsX7_countKind) := goodIn_app (goodIn_of _ (by decide +kernel)) ggX10_ofKind_X7_countKind
theorem dX10_ofKind_0 : decode cX10_ofKind 0 = .ok (.iload_n 1, 1) := by decide +kernel
theorem dX10_ofKind_1 : decode cX10_ofKind 1 = .ok (.invokestatic 82, 3) := by decide +kernel
theorem dX10_ofKind_4 : decode cX10_ofKind 4 = .ok (.ifCond .ne 14, 3) := by decide +kernel
theorem dX10_ofKind_7 : decode cX10_ofKind 7 = .ok (.new 85, 3) := by decide +kernel
theorem dX10_ofKind_10 : decode cX10_ofKind 10 = .ok (.dup, 1) := by decide +kernel
theorem dX10_ofKind_11 : decode cX10_ofKind 11 = .ok (.ldc_w 335, 3) := by decide +kernel
theorem dX10_ofKind_14 : decode cX10_ofKind 14 = .ok (.invokespecial 89, 3) := by decide +kernel
theorem dX10_ofKind_17 : decode cX10_ofKind 17 = .ok (.athrow, 1) := by decide +kernel
theorem dX10_ofKind_18 : decode cX10_ofKind 18 = .ok (.aload_n 0, 1) := by decide +kernel
theorem dX10_ofKind_19 : decode cX10_ofKind 19 = .ok (.getfield 35, 3) := by decide +kernel
theorem dX10_ofKind_22 : decode cX10_ofKind 22 = .ok (.iload_n 1, 1) := by decide +kernel
theorem dX10_ofKind_23 : decode cX10_ofKind 23 = .ok (.invokevirtual 337, 3) := by decide +kernel
theorem dX10_ofKind_26 : decode cX10_ofKind 26 = .ok (.ireturn, 1) := by decide +kernel
set_option maxRecDepth 20000 in
theorem ggX10_ofDates_X10_isDate : GoodIn wsX10_ofDates wsX10_isDate := goodIn_r _ [7] (by decide +kernel) (by decide +kernel)
set_option maxRecDepth 20000 in
theorem gX10_ofDates_X10_isDate : GoodIn wsX10_ofDates (va_wsS RX10 78 yX10_isDate wsX10_isDate) := goodIn_app (goodIn_of _ (by decide +kernel)) ggX10_ofDates_X10_isDate
set_option maxRecDepth 20000 in
theorem ggX10_ofDates_X7_countDates : GoodIn wsX10_ofDates wsX7_countDates := goodIn_r _ [12, 13, 14, 15, 16, 17, 11, 18, 19, 20, 21, 22, 23, 34, 35, 36, 37, 38, 39, 40, 41, 42] (by decide +kernel) (by decide +kernel)
set_option maxRecDepth 20000 in
theorem gX10_ofDates_X7_countDates : GoodIn wsX10_ofDates (wsV RX10 342 RX7 yX7_countDates wsX7_countDates) := goodIn_app (goodIn_of _ (by decide +kernel)) ggX10_ofDates_X7_countDates
theorem dX10_ofDates_0 : decode cX10_ofDates 0 = .ok (.iload_n 1, 1) := by decide +kernel
theorem dX10_ofDates_1 : decode cX10_ofDates 1 = .ok (.invokestatic 78, 3) := by decide +kernel
theorem dX10_ofDates_4 : decode cX10_ofDates 4 = .ok (.ifCond .eq 15, 3) := by decide +kernel
theorem dX10_ofDates_7 : decode cX10_ofDates 7 = .ok (.iload_n 2, 1) := by decide +kernel
theorem dX10_ofDates_8 : decode cX10_ofDates 8 = .ok (.iconst 1, 1) := by decide +kernel
theorem dX10_ofDates_9 : decode cX10_ofDates 9 = .ok (.if_icmp .lt 10, 3) := by decide +kernel
theorem dX10_ofDates_12 : decode cX10_ofDates 12 = .ok (.iload_n 2, 1) := by decide +kernel
theorem dX10_ofDates_13 : decode cX10_ofDates 13 = .ok (.sipush 10000, 3) := by decide +kernel
theorem dX10_ofDates_16 : decode cX10_ofDates 16 = .ok (.if_icmp .le 14, 3) := by decide +kernel
theorem dX10_ofDates_19 : decode cX10_ofDates 19 = .ok (.new 85, 3) := by decide +kernel
theorem dX10_ofDates_22 : decode cX10_ofDates 22 = .ok (.dup, 1) := by decide +kernel
theorem dX10_ofDates_23 : decode cX10_ofDates 23 = .ok (.ldc_w 340, 3) := by decide +kernel
theorem dX10_ofDates_26 : decode cX10_ofDates 26 = .ok (.invokespecial 89, 3) := by decide +kernel
theorem dX10_ofDates_29 : decode cX10_ofDates 29 = .ok (.athrow, 1) := by decide +kernel
theorem dX10_ofDates_30 : decode cX10_ofDates 30 = .ok (.aload_n 0, 1) := by decide +kernel
theorem dX10_ofDates_31 : decode cX10_ofDates 31 = .ok (.getfield 35, 3) := by decide +kernel
theorem dX10_ofDates_34 : decode cX10_ofDates 34 = .ok (.iload_n 1, 1) := by decide +kernel
theorem dX10_ofDates_35 : decode cX10_ofDates 35 = .ok (.iload_n 1, 1) := by decide +kernel
theorem dX10_ofDates_36 : decode cX10_ofDates 36 = .ok (.iload_n 2, 1) := by decide +kernel
theorem dX10_ofDates_37 : decode cX10_ofDates 37 = .ok (.iadd, 1) := by decide +kernel
theorem dX10_ofDates_38 : decode cX10_ofDates 38 = .ok (.iconst 1, 1) := by decide +kernel
theorem dX10_ofDates_39 : decode cX10_ofDates 39 = .ok (.isub, 1) := by decide +kernel
theorem dX10_ofDates_40 : decode cX10_ofDates 40 = .ok (.invokevirtual 342, 3) := by decide +kernel
theorem dX10_ofDates_43 : decode cX10_ofDates 43 = .ok (.ireturn, 1) := by decide +kernel
set_option maxRecDepth 20000 in
theorem ggX10_like_X0_documentAt : GoodIn wsX10_like wsX0_documentAt := goodIn_r _ [9, 10, 11, 94, 95, 96, 97, 98, 99] (by decide +kernel) (by decide +kernel)
set_option maxRecDepth 20000 in
theorem gX10_like_X0_documentAt : GoodIn wsX10_like (wsV RX10 147 RX0 yX0_documentAt wsX0_documentAt) := goodIn_app (goodIn_of _ (by decide +kernel)) ggX10_like_X0_documentAt
set_option maxRecDepth 20000 in
theorem ggX10_like_X3_mostLike : GoodIn wsX10_like wsX3_mostLike := goodIn_r _ [16, 17, 18, 19, 6, 7, 8, 9, 10, 11, 20, 21, 22, 15, 23, 24, 25, 26, 27, 28, 29, 30, 31, 32, 33, 34, 35, 36, 37, 38, 39, 40, 41, 42, 43, 44, 45, 46, 47, 48, 49, 50, 51, 52, 53, 54, 55, 56, 57, 58, 59, 60, 61, 62, 63, 64, 65, 66, 67, 68, 69, 70, 71, 72, 73, 74, 75, 76, 77, 78, 79, 80, 81, 82, 83, 100, 101, 102, 103, 104, 105, 94, 95, 96, 97, 98, 99, 106, 107, 108, 109, 110, 111, 112, 113, 114, 115, 116, 117, 118, 119, 120, 121] (by decide +kernel) (by decide +kernel)
set_option maxRecDepth 20000 in
theorem gX10_like_X3_mostLike : GoodIn wsX10_like (wsV RX10 353 RX3 yX3_mostLike wsX3_mostLike) := goodIn_app (goodIn_of _ (by decide +kernel)) ggX10_like_X3_mostLike
theorem dX10_like_0 : decode cX10_like 0 = .ok (.aload_n 0, 1) := by decide +kernel
theorem dX10_like_1 : decode cX10_like 1 = .ok (.getfield 10, 3) := by decide +kernel
theorem dX10_like_4 : decode cX10_like 4 = .ok (.iload_n 1, 1) := by decide +kernel
theorem dX10_like_5 : decode cX10_like 5 = .ok (.invokevirtual 147, 3) := by decide +kernel
theorem dX10_like_8 : decode cX10_like 8 = .ok (.ifnonnull 13, 3) := by decide +kernel
theorem dX10_like_11 : decode cX10_like 11 = .ok (.new 151, 3) := by decide +kernel
theorem dX10_like_14 : decode cX10_like 14 = .ok (.dup, 1) := by decide +kernel
theorem dX10_like_15 : decode cX10_like 15 = .ok (.ldc 153, 2) := by decide +kernel
theorem dX10_like_17 : decode cX10_like 17 = .ok (.invokespecial 155, 3) := by decide +kernel
theorem dX10_like_20 : decode cX10_like 20 = .ok (.athrow, 1) := by decide +kernel
theorem dX10_like_21 : decode cX10_like 21 = .ok (.aload_n 0, 1) := by decide +kernel
theorem dX10_like_22 : decode cX10_like 22 = .ok (.getfield 44, 3) := by decide +kernel
theorem dX10_like_25 : decode cX10_like 25 = .ok (.iload_n 1, 1) := by decide +kernel
theorem dX10_like_26 : decode cX10_like 26 = .ok (.invokevirtual 353, 3) := by decide +kernel
theorem dX10_like_29 : decode cX10_like 29 = .ok (.ireturn, 1) := by decide +kernel
set_option maxRecDepth 20000 in
theorem ggX10_cost_X6_hasNode : GoodIn wsX10_cost wsX6_hasNode := goodIn_r _ [10, 11, 12, 13, 9, 14, 15, 16, 100, 101, 102, 103, 104] (by decide +kernel) (by decide +kernel)
set_option maxRecDepth 20000 in
theorem gX10_cost_X6_hasNode : GoodIn wsX10_cost (wsV RX10 249 RX6 yX6_hasNode wsX6_hasNode) := goodIn_app (goodIn_of _ (by decide +kernel)) ggX10_cost_X6_hasNode
set_option maxRecDepth 20000 in
theorem ggX10_cost_X6_entriesOf : GoodIn wsX10_cost wsX6_entriesOf := goodIn_r _ [20, 15, 21, 22, 23, 9, 24, 25, 26, 27, 28, 29, 11, 12, 13, 14, 16, 30, 31, 32, 33, 34, 35, 36, 37, 38, 39, 40, 41, 42, 43, 44, 45, 46, 47, 48, 49, 50, 51, 52, 53, 54, 55, 56, 57, 58, 59, 60, 61, 62, 63, 64, 65, 66, 67, 68, 69, 70, 71, 72, 73, 74, 75, 76, 77, 78, 79, 80, 81, 82, 83, 100, 101, 102, 103, 104, 105, 106, 107, 108, 109, 110, 111, 112, 113, 114, 115, 116, 117, 118, 119, 120, 121, 122, 123] (by decide +kernel) (by decide +kernel)
set_option maxRecDepth 20000 in
theorem gX10_cost_X6_entriesOf : GoodIn wsX10_cost (wsV RX10 361 RX6 yX6_entriesOf wsX6_entriesOf) := goodIn_app (goodIn_of _ (by decide +kernel)) ggX10_cost_X6_entriesOf
theorem dX10_cost_0 : decode cX10_cost 0 = .ok (.aload_n 0, 1) := by decide +kernel
theorem dX10_cost_1 : decode cX10_cost 1 = .ok (.getfield 28, 3) := by decide +kernel
theorem dX10_cost_4 : decode cX10_cost 4 = .ok (.iload_n 1, 1) := by decide +kernel
theorem dX10_cost_5 : decode cX10_cost 5 = .ok (.invokevirtual 249, 3) := by decide +kernel
theorem dX10_cost_8 : decode cX10_cost 8 = .ok (.ifCond .ne 13, 3) := by decide +kernel
theorem dX10_cost_11 : decode cX10_cost 11 = .ok (.new 151, 3) := by decide +kernel
theorem dX10_cost_14 : decode cX10_cost 14 = .ok (.dup, 1) := by decide +kernel
theorem dX10_cost_15 : decode cX10_cost 15 = .ok (.ldc 252, 2) := by decide +kernel
theorem dX10_cost_17 : decode cX10_cost 17 = .ok (.invokespecial 155, 3) := by decide +kernel
theorem dX10_cost_20 : decode cX10_cost 20 = .ok (.athrow, 1) := by decide +kernel
theorem dX10_cost_21 : decode cX10_cost 21 = .ok (.aload_n 0, 1) := by decide +kernel
theorem dX10_cost_22 : decode cX10_cost 22 = .ok (.getfield 28, 3) := by decide +kernel
theorem dX10_cost_25 : decode cX10_cost 25 = .ok (.iload_n 1, 1) := by decide +kernel
theorem dX10_cost_26 : decode cX10_cost 26 = .ok (.aload_n 0, 1) := by decide +kernel
theorem dX10_cost_27 : decode cX10_cost 27 = .ok (.getfield 10, 3) := by decide +kernel
theorem dX10_cost_30 : decode cX10_cost 30 = .ok (.getfield 57, 3) := by decide +kernel
theorem dX10_cost_33 : decode cX10_cost 33 = .ok (.invokevirtual 361, 3) := by decide +kernel
theorem dX10_cost_36 : decode cX10_cost 36 = .ok (.ireturn, 1) := by decide +kernel
set_option maxRecDepth 20000 in
theorem ggX10_byAlias_X6_hasNode : GoodIn wsX10_byAlias wsX6_hasNode := goodIn_r _ [12, 13, 14, 15, 11, 16, 17, 18, 200, 201, 202, 203, 204] (by decide +kernel) (by decide +kernel)
set_option maxRecDepth 20000 in
theorem gX10_byAlias_X6_hasNode : GoodIn wsX10_byAlias (wsV RX10 249 RX6 yX6_hasNode wsX6_hasNode) := goodIn_app (goodIn_of _ (by decide +kernel)) ggX10_byAlias_X6_hasNode
set_option maxRecDepth 20000 in
theorem ggX10_byAlias_X0_documentAt : GoodIn wsX10_byAlias wsX0_documentAt := goodIn_r _ [23, 24, 25, 194, 195, 196, 197, 198, 199] (by decide +kernel) (by decide +kernel)
set_option maxRecDepth 20000 in
theorem gX10_byAlias_X0_documentAt : GoodIn wsX10_byAlias (wsV RX10 147 RX0 yX0_documentAt wsX0_documentAt) := goodIn_app (goodIn_of _ (by decide +kernel)) ggX10_byAlias_X0_documentAt
set_option maxRecDepth 20000 in
theorem ggX10_byAlias_X2_canBeFound : GoodIn wsX10_byAlias wsX2_canBeFound := goodIn_r _ [30, 31, 32, 33, 34, 29, 35, 36, 205, 206, 207, 208, 209] (by decide +kernel) (by decide +kernel)
set_option maxRecDepth 20000 in
theorem gX10_byAlias_X2_canBeFound : GoodIn wsX10_byAlias (wsV RX10 307 RX2 yX2_canBeFound wsX2_canBeFound) := goodIn_app (goodIn_of _ (by decide +kernel)) ggX10_byAlias_X2_canBeFound
set_option maxRecDepth 20000 in
theorem ggX10_byAlias_X8_scoreOf : GoodIn wsX10_byAlias wsX8_scoreOf := goodIn_r _ [41, 42, 43, 44, 45, 46, 47, 48, 49, 14, 15, 11, 16, 17, 18, 50, 51, 52, 40, 53, 54, 55, 56, 57, 58, 59, 60, 61, 62, 63, 64, 65, 66, 67, 68, 69, 70, 71, 72, 73, 74, 75, 76, 77, 78, 79, 80, 81, 82, 83, 84, 85, 86, 87, 88, 89, 29, 90, 91, 92, 93, 94, 95, 96, 97, 98, 99, 100, 101, 102, 103, 104, 105, 106, 107, 108, 109, 110, 111, 112, 113, 114, 115, 116, 117, 118, 119, 120, 121, 122, 123, 124, 125, 126, 127, 128, 129, 130, 131, 132, 133, 134, 135, 136, 137, 138, 139, 140, 141, 142, 143, 144, 145, 146, 147, 148, 149, 150, 151, 152, 153, 154, 155, 156, 157, 158, 159, 160, 161, 162, 163, 164, 165, 166, 167, 168, 169, 170, 171, 172, 173, 174, 175, 176, 177, 178, 179, 180, 181, 182, 183, 210, 211, 212, 213, 214, 200, 201, 202, 203, 204, 215, 216, 217, 218, 219, 220, 221, 222, 223, 224, 225, 226, 227, 205, 206, 207, 208, 209, 228, 229, 230, 231, 232, 233, 234, 235, 236, 237, 238] (by decide +kernel) (by decide +kernel)
set_option maxRecDepth 20000 in
theorem gX10_byAlias_X8_scoreOf : GoodIn wsX10_byAlias (wsV RX10 310 RX8 yX8_scoreOf wsX8_scoreOf) := goodIn_app (goodIn_of _ (by decide +kernel)) ggX10_byAlias_X8_scoreOf
theorem dX10_byAlias_0 : decode cX10_byAlias 0 = .ok (.aload_n 0, 1) := by decide +kernel
theorem dX10_byAlias_1 : decode cX10_byAlias 1 = .ok (.getfield 28, 3) := by decide +kernel
theorem dX10_byAlias_4 : decode cX10_byAlias 4 = .ok (.iload_n 1, 1) := by decide +kernel
theorem dX10_byAlias_5 : decode cX10_byAlias 5 = .ok (.invokevirtual 249, 3) := by decide +kernel
theorem dX10_byAlias_8 : decode cX10_byAlias 8 = .ok (.ifCond .ne 13, 3) := by decide +kernel
theorem dX10_byAlias_11 : decode cX10_byAlias 11 = .ok (.new 151, 3) := by decide +kernel
theorem dX10_byAlias_14 : decode cX10_byAlias 14 = .ok (.dup, 1) := by decide +kernel
theorem dX10_byAlias_15 : decode cX10_byAlias 15 = .ok (.ldc 252, 2) := by decide +kernel
theorem dX10_byAlias_17 : decode cX10_byAlias 17 = .ok (.invokespecial 155, 3) := by decide +kernel
theorem dX10_byAlias_20 : decode cX10_byAlias 20 = .ok (.athrow, 1) := by decide +kernel
theorem dX10_byAlias_21 : decode cX10_byAlias 21 = .ok (.iconst 0, 1) := by decide +kernel
theorem dX10_byAlias_22 : decode cX10_byAlias 22 = .ok (.istore_n 2, 1) := by decide +kernel
theorem dX10_byAlias_23 : decode cX10_byAlias 23 = .ok (.iconst 0, 1) := by decide +kernel
theorem dX10_byAlias_24 : decode cX10_byAlias 24 = .ok (.istore_n 3, 1) := by decide +kernel
theorem dX10_byAlias_25 : decode cX10_byAlias 25 = .ok (.iload_n 3, 1) := by decide +kernel
theorem dX10_byAlias_26 : decode cX10_byAlias 26 = .ok (.aload_n 0, 1) := by decide +kernel
theorem dX10_byAlias_27 : decode cX10_byAlias 27 = .ok (.getfield 10, 3) := by decide +kernel
theorem dX10_byAlias_30 : decode cX10_byAlias 30 = .ok (.getfield 110, 3) := by decide +kernel
theorem dX10_byAlias_33 : decode cX10_byAlias 33 = .ok (.if_icmp .ge 63, 3) := by decide +kernel
theorem dX10_byAlias_36 : decode cX10_byAlias 36 = .ok (.aload_n 0, 1) := by decide +kernel
theorem dX10_byAlias_37 : decode cX10_byAlias 37 = .ok (.getfield 10, 3) := by decide +kernel
theorem dX10_byAlias_40 : decode cX10_byAlias 40 = .ok (.iload_n 3, 1) := by decide +kernel
theorem dX10_byAlias_41 : decode cX10_byAlias 41 = .ok (.invokevirtual 147, 3) := by decide +kernel
theorem dX10_byAlias_44 : decode cX10_byAlias 44 = .ok (.astore 4, 2) := by decide +kernel
theorem dX10_byAlias_46 : decode cX10_byAlias 46 = .ok (.aload 4, 2) := by decide +kernel
theorem dX10_byAlias_48 : decode cX10_byAlias 48 = .ok (.ifnull 42, 3) := by decide +kernel
theorem dX10_byAlias_51 : decode cX10_byAlias 51 = .ok (.aload 4, 2) := by decide +kernel
theorem dX10_byAlias_53 : decode cX10_byAlias 53 = .ok (.invokevirtual 307, 3) := by decide +kernel
theorem dX10_byAlias_56 : decode cX10_byAlias 56 = .ok (.ifCond .eq 34, 3) := by decide +kernel
theorem dX10_byAlias_59 : decode cX10_byAlias 59 = .ok (.aload_n 0, 1) := by decide +kernel
theorem dX10_byAlias_60 : decode cX10_byAlias 60 = .ok (.getfield 63, 3) := by decide +kernel
theorem dX10_byAlias_63 : decode cX10_byAlias 63 = .ok (.aload 4, 2) := by decide +kernel
theorem dX10_byAlias_65 : decode cX10_byAlias 65 = .ok (.iload_n 1, 1) := by decide +kernel
theorem dX10_byAlias_66 : decode cX10_byAlias 66 = .ok (.invokevirtual 310, 3) := by decide +kernel
theorem dX10_byAlias_69 : decode cX10_byAlias 69 = .ok (.iconst (-1), 1) := by decide +kernel
theorem dX10_byAlias_70 : decode cX10_byAlias 70 = .ok (.if_icmp .eq 20, 3) := by decide +kernel
theorem dX10_byAlias_73 : decode cX10_byAlias 73 = .ok (.aload_n 0, 1) := by decide +kernel
theorem dX10_byAlias_74 : decode cX10_byAlias 74 = .ok (.getfield 67, 3) := by decide +kernel
theorem dX10_byAlias_77 : decode cX10_byAlias 77 = .ok (.aload 4, 2) := by decide +kernel
theorem dX10_byAlias_79 : decode cX10_byAlias 79 = .ok (.iload_n 1, 1) := by decide +kernel
theorem dX10_byAlias_80 : decode cX10_byAlias 80 = .ok (.invokevirtual 310, 3) := by decide +kernel
theorem dX10_byAlias_83 : decode cX10_byAlias 83 = .ok (.iconst (-1), 1) := by decide +kernel
theorem dX10_byAlias_84 : decode cX10_byAlias 84 = .ok (.if_icmp .ne 6, 3) := by decide +kernel
theorem dX10_byAlias_87 : decode cX10_byAlias 87 = .ok (.iinc 2 1, 3) := by decide +kernel
theorem dX10_byAlias_90 : decode cX10_byAlias 90 = .ok (.iinc 3 1, 3) := by decide +kernel
theorem dX10_byAlias_93 : decode cX10_byAlias 93 = .ok (.goto (-68), 3) := by decide +kernel
theorem dX10_byAlias_96 : decode cX10_byAlias 96 = .ok (.iload_n 2, 1) := by decide +kernel
theorem dX10_byAlias_97 : decode cX10_byAlias 97 = .ok (.ireturn, 1) := by decide +kernel
set_option maxRecDepth 20000 in
theorem ggX10_wouldScore_X0_documentAt : GoodIn wsX10_wouldScore wsX0_documentAt := goodIn_r _ [12, 13, 14, 217, 218, 219, 220, 221, 222] (by decide +kernel) (by decide +kernel)
set_option maxRecDepth 20000 in
theorem gX10_wouldScore_X0_documentAt : GoodIn wsX10_wouldScore (wsV RX10 147 RX0 yX0_documentAt wsX0_documentAt) := goodIn_app (goodIn_of _ (by decide +kernel)) ggX10_wouldScore_X0_documentAt
set_option maxRecDepth 20000 in
theorem ggX10_wouldScore_X6_hasNode : GoodIn wsX10_wouldScore wsX6_hasNode := goodIn_r _ [19, 20, 21, 22, 18, 23, 24, 25, 223, 224, 225, 226, 227] (by decide +kernel) (by decide +kernel)
set_option maxRecDepth 20000 in
theorem gX10_wouldScore_X6_hasNode : GoodIn wsX10_wouldScore (wsV RX10 249 RX6 yX6_hasNode wsX6_hasNode) := goodIn_app (goodIn_of _ (by decide +kernel)) ggX10_wouldScore_X6_hasNode
set_option maxRecDepth 20000 in
theorem ggX10_wouldScore_X0_countSurvivors : GoodIn wsX10_wouldScore wsX0_countSurvivors := goodIn_r _ [29, 13, 30, 31, 32, 33, 34, 35, 36, 37, 38, 39, 40, 41, 42, 43, 9, 10, 11, 12, 14, 44, 45, 46, 47, 48, 49, 50, 51, 52, 53, 54, 55, 56, 57, 58, 59, 60, 61, 62, 63, 64, 65, 217, 218, 219, 220, 221, 222, 212, 213, 214, 215, 216, 228, 229, 230, 231, 232, 233, 234, 235] (by decide +kernel) (by decide +kernel)
set_option maxRecDepth 20000 in
theorem gX10_wouldScore_X0_countSurvivors : GoodIn wsX10_wouldScore (wsV RX10 365 RX0 yX0_countSurvivors wsX0_countSurvivors) := goodIn_app (goodIn_of _ (by decide +kernel)) ggX10_wouldScore_X0_countSurvivors
set_option maxRecDepth 20000 in
theorem ggX10_wouldScore_X8_scoreOf : GoodIn wsX10_wouldScore wsX8_scoreOf := goodIn_r _ [70, 71, 72, 73, 74, 75, 76, 77, 78, 21, 22, 18, 23, 24, 25, 79, 80, 81, 69, 82, 83, 84, 85, 86, 87, 88, 89, 90, 91, 92, 93, 94, 95, 96, 97, 98, 99, 100, 101, 102, 103, 104, 105, 106, 107, 108, 109, 110, 111, 112, 113, 114, 115, 116, 50, 51, 52, 53, 54, 117, 118, 119, 120, 121, 122, 123, 124, 125, 62, 126, 127, 128, 129, 130, 131, 64, 65, 132, 133, 134, 135, 136, 137, 138, 139, 140, 34, 141, 37, 142, 143, 144, 145, 38, 146, 147, 148, 149, 36, 150, 151, 152, 153, 154, 155, 156, 157, 158, 159, 160, 161, 162, 163, 164, 165, 166, 167, 168, 169, 170, 171, 172, 173, 174, 175, 176, 177, 178, 179, 180, 181, 182, 183, 184, 185, 186, 187, 188, 189, 190, 191, 192, 193, 194, 195, 196, 197, 198, 199, 200, 201, 236, 237, 238, 239, 240, 223, 224, 225, 226, 227, 241, 242, 243, 244, 245, 246, 247, 248, 249, 250, 251, 252, 253, 212, 213, 214, 215, 216, 231, 232, 233, 234, 235, 254, 255, 256, 228, 229, 230] (by decide +kernel) (by decide +kernel)
set_option maxRecDepth 20000 in
theorem gX10_wouldScore_X8_scoreOf : GoodIn wsX10_wouldScore (wsV RX10 310 RX8 yX8_scoreOf wsX8_scoreOf) := goodIn_app (goodIn_of _ (by decide +kernel)) ggX10_wouldScore_X8_scoreOf
theorem dX10_wouldScore_0 : decode cX10_wouldScore 0 = .ok (.aload_n 0, 1) := by decide +kernel
theorem dX10_wouldScore_1 : decode cX10_wouldScore 1 = .ok (.getfield 10, 3) := by decide +kernel
theorem dX10_wouldScore_4 : decode cX10_wouldScore 4 = .ok (.iload_n 2, 1) := by decide +kernel
theorem dX10_wouldScore_5 : decode cX10_wouldScore 5 = .ok (.invokevirtual 147, 3) := by decide +kernel
theorem dX10_wouldScore_8 : decode cX10_wouldScore 8 = .ok (.astore_n 3, 1) := by decide +kernel
theorem dX10_wouldScore_9 : decode cX10_wouldScore 9 = .ok (.aload_n 0, 1) := by decide +kernel
theorem dX10_wouldScore_10 : decode cX10_wouldScore 10 = .ok (.getfield 28, 3) := by decide +kernel
theorem dX10_wouldScore_13 : decode cX10_wouldScore 13 = .ok (.iload_n 1, 1) := by decide +kernel
theorem dX10_wouldScore_14 : decode cX10_wouldScore 14 = .ok (.invokevirtual 249, 3) := by decide +kernel
theorem dX10_wouldScore_17 : decode cX10_wouldScore 17 = .ok (.ifCond .eq 7, 3) := by decide +kernel
theorem dX10_wouldScore_20 : decode cX10_wouldScore 20 = .ok (.aload_n 3, 1) := by decide +kernel
theorem dX10_wouldScore_21 : decode cX10_wouldScore 21 = .ok (.ifnonnull 14, 3) := by decide +kernel
theorem dX10_wouldScore_24 : decode cX10_wouldScore 24 = .ok (.new 151, 3) := by decide +kernel
theorem dX10_wouldScore_27 : decode cX10_wouldScore 27 = .ok (.dup, 1) := by decide +kernel
theorem dX10_wouldScore_28 : decode cX10_wouldScore 28 = .ok (.ldc_w 305, 3) := by decide +kernel
theorem dX10_wouldScore_31 : decode cX10_wouldScore 31 = .ok (.invokespecial 155, 3) := by decide +kernel
theorem dX10_wouldScore_34 : decode cX10_wouldScore 34 = .ok (.athrow, 1) := by decide +kernel
theorem dX10_wouldScore_35 : decode cX10_wouldScore 35 = .ok (.aload_n 3, 1) := by decide +kernel
theorem dX10_wouldScore_36 : decode cX10_wouldScore 36 = .ok (.getfield 156, 3) := by decide +kernel
theorem dX10_wouldScore_39 : decode cX10_wouldScore 39 = .ok (.ifCond .eq 5, 3) := by decide +kernel
theorem dX10_wouldScore_42 : decode cX10_wouldScore 42 = .ok (.iconst (-1), 1) := by decide +kernel
theorem dX10_wouldScore_43 : decode cX10_wouldScore 43 = .ok (.ireturn, 1) := by decide +kernel
theorem dX10_wouldScore_44 : decode cX10_wouldScore 44 = .ok (.aload_n 0, 1) := by decide +kernel
theorem dX10_wouldScore_45 : decode cX10_wouldScore 45 = .ok (.getfield 10, 3) := by decide +kernel
theorem dX10_wouldScore_48 : decode cX10_wouldScore 48 = .ok (.aload_n 0, 1) := by decide +kernel
theorem dX10_wouldScore_49 : decode cX10_wouldScore 49 = .ok (.getfield 51, 3) := by decide +kernel
theorem dX10_wouldScore_52 : decode cX10_wouldScore 52 = .ok (.invokevirtual 365, 3) := by decide +kernel
theorem dX10_wouldScore_55 : decode cX10_wouldScore 55 = .ok (.aload_n 0, 1) := by decide +kernel
theorem dX10_wouldScore_56 : decode cX10_wouldScore 56 = .ok (.getfield 70, 3) := by decide +kernel
theorem dX10_wouldScore_59 : decode cX10_wouldScore 59 = .ok (.aload_n 3, 1) := by decide +kernel
theorem dX10_wouldScore_60 : decode cX10_wouldScore 60 = .ok (.iload_n 1, 1) := by decide +kernel
theorem dX10_wouldScore_61 : decode cX10_wouldScore 61 = .ok (.invokevirtual 310, 3) := by decide +kernel
theorem dX10_wouldScore_64 : decode cX10_wouldScore 64 = .ok (.ireturn, 1) := by decide +kernel
set_option maxRecDepth 20000 in
theorem ggX10_waste_X0_goneInSegments : GoodIn wsX10_waste wsX0_goneInSegments := goodIn_r _ [8, 9, 10, 11, 12, 13, 7, 14, 15, 16, 17, 18, 19, 20, 21, 32, 33, 34, 35, 36, 37, 41, 42, 43, 44, 45] (by decide +kernel) (by decide +kernel)
set_option maxRecDepth 20000 in
theorem gX10_waste_X0_goneInSegments : GoodIn wsX10_waste (wsV RX10 372 RX0 yX0_goneInSegments wsX0_goneInSegments) := goodIn_app (goodIn_of _ (by decide +kernel)) ggX10_waste_X0_goneInSegments
theorem dX10_waste_0 : decode cX10_waste 0 = .ok (.aload_n 0, 1) := by decide +kernel
theorem dX10_waste_1 : decode cX10_waste 1 = .ok (.getfield 10, 3) := by decide +kernel
theorem dX10_waste_4 : decode cX10_waste 4 = .ok (.getfield 57, 3) := by decide +kernel
theorem dX10_waste_7 : decode cX10_waste 7 = .ok (.getfield 369, 3) := by decide +kernel
theorem dX10_waste_10 : decode cX10_waste 10 = .ok (.istore_n 1, 1) := by decide +kernel
theorem dX10_waste_11 : decode cX10_waste 11 = .ok (.iload_n 1, 1) := by decide +kernel
theorem dX10_waste_12 : decode cX10_waste 12 = .ok (.ifCond .gt 7, 3) := by decide +kernel
theorem dX10_waste_15 : decode cX10_waste 15 = .ok (.dconst 0, 1) := by decide +kernel
theorem dX10_waste_16 : decode cX10_waste 16 = .ok (.goto 14, 3) := by decide +kernel
theorem dX10_waste_19 : decode cX10_waste 19 = .ok (.aload_n 0, 1) := by decide +kernel
theorem dX10_waste_20 : decode cX10_waste 20 = .ok (.getfield 10, 3) := by decide +kernel
theorem dX10_waste_23 : decode cX10_waste 23 = .ok (.invokevirtual 372, 3) := by decide +kernel
theorem dX10_waste_26 : decode cX10_waste 26 = .ok (.i2d, 1) := by decide +kernel
theorem dX10_waste_27 : decode cX10_waste 27 = .ok (.iload_n 1, 1) := by decide +kernel
theorem dX10_waste_28 : decode cX10_waste 28 = .ok (.i2d, 1) := by decide +kernel
theorem dX10_waste_29 : decode cX10_waste 29 = .ok (.ddiv, 1) := by decide +kernel
theorem dX10_waste_30 : decode cX10_waste 30 = .ok (.dreturn, 1) := by decide +kernel
set_option maxRecDepth 20000 in
theorem ggX10_digest_X10_addArchive : GoodIn wsX10_digest wsX10_addArchive := goodIn_r _ [10, 4, 2, 3, 11, 12, 13, 14, 15, 16, 17, 18, 19, 20, 21, 22, 23, 24, 25, 26, 27, 28, 29, 30, 31, 32, 33, 34, 35, 36, 37, 38, 39, 40, 41, 42, 43, 44, 45, 326, 327, 328, 329, 330, 331, 332, 333, 334, 335, 336, 337, 338, 339, 340, 341, 342, 343, 344, 345, 346] (by decide +kernel) (by decide +kernel)
set_option maxRecDepth 20000 in
theorem gX10_digest_X10_addArchive : GoodIn wsX10_digest (wsV RX10 377 RX10 yX10_addArchive wsX10_addArchive) := goodIn_app (goodIn_of _ (by decide +kernel)) ggX10_digest_X10_addArchive
set_option maxRecDepth 20000 in
theorem ggX10_digest_X10_fillScoresByNode : GoodIn wsX10_digest wsX10_fillScoresByNode := goodIn_r _ [49, 2, 3, 50, 51, 52, 53, 12, 13, 14, 15, 16, 17, 18, 54, 55, 56, 22, 57, 24, 25, 26, 27, 28, 29, 58, 59, 60, 61, 62, 63, 64, 65, 66, 67, 68, 69, 70, 71, 72, 73, 74, 75, 76, 77, 78, 79, 80, 81, 82, 83, 84, 85, 86, 87, 88, 89, 90, 91, 92, 93, 94, 95, 96, 97, 98, 99, 100, 101, 102, 103, 104, 105, 106, 107, 108, 109, 110, 111, 112, 113, 114, 115, 116, 117, 118, 119, 120, 121, 122, 123, 124, 125, 126, 127, 128, 129, 130, 131, 132, 133, 134, 135, 136, 137, 138, 139, 140, 141, 142, 143, 144, 145, 146, 147, 148, 149, 150, 151, 152, 153, 154, 155, 156, 157, 158, 159, 160, 161, 162, 163, 164, 165, 166, 167, 168, 169, 170, 171, 172, 173, 174, 175, 176, 177, 178, 179, 180, 181, 182, 183, 184, 185, 186, 187, 188, 189, 190, 191, 192, 193, 194, 195, 196, 197, 198, 199, 200, 201, 202, 203, 204, 205, 206, 207, 208, 209, 210, 211, 326, 327, 328, 329, 330, 331, 332, 333, 334, 335, 336, 337, 338, 339, 340, 341, 347, 348, 349, 350, 351, 342, 343, 344, 345, 346, 352, 353, 354, 355, 356, 357, 358, 359, 360, 361, 362, 363, 364, 365, 366, 367, 368, 369, 370, 371, 372, 373, 374, 375, 376, 377, 378, 379, 380] (by decide +kernel) (by decide +kernel)
set_option maxRecDepth 20000 in
theorem gX10_digest_X10_fillScoresByNode : GoodIn wsX10_digest (wsV RX10 381 RX10 yX10_fillScoresByNode wsX10_fillScoresByNode) := goodIn_app (goodIn_of _ (by decide +kernel)) ggX10_digest_X10_fillScoresByNode
set_option maxRecDepth 20000 in
theorem ggX10_digest_X10_addNodes : GoodIn wsX10_digest wsX10_addNodes := goodIn_r _ [215, 4, 51, 52, 53, 2, 3, 216, 67, 68, 69, 217, 218, 219, 9, 220, 221, 222, 223, 73, 224, 75, 225, 226, 227, 228, 229, 230, 231, 71, 72, 74, 76, 232, 233, 234, 235, 236, 237, 169, 170, 122, 171, 172, 173, 238, 175, 176, 177, 178, 179, 239, 240, 241, 242, 243, 244, 245, 246, 247, 248, 249, 100, 101, 102, 103, 104, 105, 106, 107, 108, 250, 110, 111, 112, 113, 251, 120, 121, 123, 124, 252, 150, 151, 146, 152, 153, 326, 327, 328, 329, 330, 331, 332, 333, 334, 335, 347, 348, 349, 350, 351, 336, 337, 338, 339, 340, 341, 357, 358, 359, 360, 361, 362, 363, 364, 365, 366, 367, 368, 369, 375, 376, 377, 378, 379, 380] (by decide +kernel) (by decide +kernel)
set_option maxRecDepth 20000 in
theorem gX10_digest_X10_addNodes : GoodIn wsX10_digest (wsV RX10 384 RX10 yX10_addNodes wsX10_addNodes) := goodIn_app (goodIn_of _ (by decide +kernel)) ggX10_digest_X10_addNodes
set_option maxRecDepth 20000 in
theorem ggX10_digest_X10_addResults : GoodIn wsX10_digest wsX10_addResults := goodIn_r _ [256, 4, 257, 258, 259, 260, 261, 262, 263, 264, 265, 266, 267, 268, 269, 270, 271, 272, 273, 274, 275, 276, 277, 278, 279, 280, 281, 282, 283, 284, 326, 327, 328, 329, 330, 331, 332, 333, 334, 335, 381, 382, 383, 384, 342, 343, 344, 345, 346] (by decide +kernel) (by decide +kernel)
set_option maxRecDepth 20000 in
theorem gX10_digest_X10_addResults : GoodIn wsX10_digest (wsV RX10 387 RX10 yX10_addResults wsX10_addResults) := goodIn_app (goodIn_of _ (by decide +kernel)) ggX10_digest_X10_addResults
set_option maxRecDepth 20000 in
theorem ggX10_digest_X3_mostLike : GoodIn wsX10_digest wsX3_mostLike := goodIn_r _ [289, 290, 291, 292, 13, 14, 15, 16, 17, 18, 293, 294, 295, 288, 296, 297, 298, 299, 300, 301, 302, 115, 116, 22, 117, 118, 303, 304, 305, 306, 307, 308, 309, 310, 311, 312, 128, 313, 135, 136, 314, 105, 106, 102, 107, 108, 315, 150, 151, 146, 152, 153, 316, 155, 156, 157, 158, 317, 55, 56, 57, 24, 25, 26, 27, 28, 29, 318, 319, 320, 321, 322, 323, 324, 325, 385, 386, 387, 388, 389, 390, 336, 337, 338, 339, 340, 341, 342, 343, 344, 345, 346, 370, 371, 372, 373, 374, 375, 376, 377, 378, 379, 380] (by decide +kernel) (by decide +kernel)
set_option maxRecDepth 20000 in
theorem gX10_digest_X3_mostLike : GoodIn wsX10_digest (wsV RX10 353 RX3 yX3_mostLike wsX3_mostLike) := goodIn_app (goodIn_of _ (by decide +kernel)) ggX10_digest_X3_mostLike
theorem dX10_digest_0 : decode cX10_digest 0 = .ok (.aload_n 0, 1) := by decide +kernel
theorem dX10_digest_1 : decode cX10_digest 1 = .ok (.ldc2_w 375, 3) := by decide +kernel
theorem dX10_digest_4 : decode cX10_digest 4 = .ok (.invokevirtual 377, 3) := by decide +kernel
theorem dX10_digest_7 : decode cX10_digest 7 = .ok (.lstore_n 1, 1) := by decide +kernel
theorem dX10_digest_8 : decode cX10_digest 8 = .ok (.aload_n 0, 1) := by decide +kernel
theorem dX10_digest_9 : decode cX10_digest 9 = .ok (.invokevirtual 381, 3) := by decide +kernel
theorem dX10_digest_12 : decode cX10_digest 12 = .ok (.aload_n 0, 1) := by decide +kernel
theorem dX10_digest_13 : decode cX10_digest 13 = .ok (.lload_n 1, 1) := by decide +kernel
theorem dX10_digest_14 : decode cX10_digest 14 = .ok (.invokevirtual 384, 3) := by decide +kernel
theorem dX10_digest_17 : decode cX10_digest 17 = .ok (.lstore_n 1, 1) := by decide +kernel
theorem dX10_digest_18 : decode cX10_digest 18 = .ok (.aload_n 0, 1) := by decide +kernel
theorem dX10_digest_19 : decode cX10_digest 19 = .ok (.lload_n 1, 1) := by decide +kernel
theorem dX10_digest_20 : decode cX10_digest 20 = .ok (.invokevirtual 387, 3) := by decide +kernel
theorem dX10_digest_23 : decode cX10_digest 23 = .ok (.lstore_n 1, 1) := by decide +kernel
theorem dX10_digest_24 : decode cX10_digest 24 = .ok (.iconst 0, 1) := by decide +kernel
theorem dX10_digest_25 : decode cX10_digest 25 = .ok (.istore_n 3, 1) := by decide +kernel
theorem dX10_digest_26 : decode cX10_digest 26 = .ok (.iload_n 3, 1) := by decide +kernel
theorem dX10_digest_27 : decode cX10_digest 27 = .ok (.aload_n 0, 1) := by decide +kernel
theorem dX10_digest_28 : decode cX10_digest 28 = .ok (.getfield 10, 3) := by decide +kernel
theorem dX10_digest_31 : decode cX10_digest 31 = .ok (.getfield 110, 3) := by decide +kernel
theorem dX10_digest_34 : decode cX10_digest 34 = .ok (.if_icmp .ge 25, 3) := by decide +kernel
theorem dX10_digest_37 : decode cX10_digest 37 = .ok (.lload_n 1, 1) := by decide +kernel
theorem dX10_digest_38 : decode cX10_digest 38 = .ok (.ldc2_w 390, 3) := by decide +kernel
theorem dX10_digest_41 : decode cX10_digest 41 = .ok (.lmul, 1) := by decide +kernel
theorem dX10_digest_42 : decode cX10_digest 42 = .ok (.aload_n 0, 1) := by decide +kernel
theorem dX10_digest_43 : decode cX10_digest 43 = .ok (.getfield 44, 3) := by decide +kernel
theorem dX10_digest_46 : decode cX10_digest 46 = .ok (.iload_n 3, 1) := by decide +kernel
theorem dX10_digest_47 : decode cX10_digest 47 = .ok (.invokevirtual 353, 3) := by decide +kernel
theorem dX10_digest_50 : decode cX10_digest 50 = .ok (.i2l, 1) := by decide +kernel
theorem dX10_digest_51 : decode cX10_digest 51 = .ok (.ladd, 1) := by decide +kernel
theorem dX10_digest_52 : decode cX10_digest 52 = .ok (.lstore_n 1, 1) := by decide +kernel
theorem dX10_digest_53 : decode cX10_digest 53 = .ok (.iinc 3 1, 3) := by decide +kernel
theorem dX10_digest_56 : decode cX10_digest 56 = .ok (.goto (-30), 3) := by decide +kernel
theorem dX10_digest_59 : decode cX10_digest 59 = .ok (.lload_n 1, 1) := by decide +kernel
theorem dX10_digest_60 : decode cX10_digest 60 = .ok (.lreturn, 1) := by decide +kernel
set_option maxRecDepth 20000 in
theorem ggX10_addArchive_X0_documentAt : GoodIn wsX10_addArchive wsX0_documentAt := goodIn_r _ [9, 10, 11, 49, 50, 51, 52, 53, 54] (by decide +kernel) (by decide +kernel)
set_option maxRecDepth 20000 in
theorem gX10_addArchive_X0_documentAt : GoodIn wsX10_addArchive (wsV RX10 147 RX0 yX0_documentAt wsX0_documentAt) := goodIn_app (goodIn_of _ (by decide +kernel)) ggX10_addArchive_X0_documentAt
set_option maxRecDepth 20000 in
theorem ggX10_addArchive_X2_state : GoodIn wsX10_addArchive wsX2_state := goodIn_r _ [16, 17, 18, 19, 20, 15, 21, 22, 55, 56, 57, 58, 59] (by decide +kernel) (by decide +kernel)
set_option maxRecDepth 20000 in
theorem gX10_addArchive_X2_state : GoodIn wsX10_addArchive (wsV RX10 186 RX2 yX2_state wsX2_state) := goodIn_app (goodIn_of _ (by decide +kernel)) ggX10_addArchive_X2_state
set_option maxRecDepth 20000 in
theorem ggX10_addArchive_X0_tierAt : GoodIn wsX10_addArchive wsX0_tierAt := goodIn_r _ [26, 27, 28, 29, 30, 8, 31, 32, 49, 50, 51, 52, 53, 54] (by decide +kernel) (by decide +kernel)
set_option maxRecDepth 20000 in
theorem gX10_addArchive_X0_tierAt : GoodIn wsX10_addArchive (wsV RX10 208 RX0 yX0_tierAt wsX0_tierAt) := goodIn_app (goodIn_of _ (by decide +kernel)) ggX10_addArchive_X0_tierAt
set_option maxRecDepth 20000 in
theorem ggX10_addArchive_X0_countAt : GoodIn wsX10_addArchive wsX0_countAt := goodIn_r _ [36, 10, 37, 38, 6, 7, 8, 9, 11, 49, 50, 51, 52, 53, 54, 55, 56, 57, 58, 59] (by decide +kernel) (by decide +kernel)
set_option maxRecDepth 20000 in
theorem gX10_addArchive_X0_countAt : GoodIn wsX10_addArchive (wsV RX10 211 RX0 yX0_countAt wsX0_countAt) := goodIn_app (goodIn_of _ (by decide +kernel)) ggX10_addArchive_X0_countAt
theorem dX10_addArchive_0 : decode cX10_addArchive 0 = .ok (.lload_n 1, 1) := by decide +kernel
theorem dX10_addArchive_1 : decode cX10_addArchive 1 = .ok (.ldc2_w 390, 3) := by decide +kernel
theorem dX10_addArchive_4 : decode cX10_addArchive 4 = .ok (.lmul, 1) := by decide +kernel
theorem dX10_addArchive_5 : decode cX10_addArchive 5 = .ok (.aload_n 0, 1) := by decide +kernel
theorem dX10_addArchive_6 : decode cX10_addArchive 6 = .ok (.getfield 10, 3) := by decide +kernel
theorem dX10_addArchive_9 : decode cX10_addArchive 9 = .ok (.getfield 110, 3) := by decide +kernel
theorem dX10_addArchive_12 : decode cX10_addArchive 12 = .ok (.i2l, 1) := by decide +kernel
theorem dX10_addArchive_13 : decode cX10_addArchive 13 = .ok (.ladd, 1) := by decide +kernel
theorem dX10_addArchive_14 : decode cX10_addArchive 14 = .ok (.lstore_n 3, 1) := by decide +kernel
theorem dX10_addArchive_15 : decode cX10_addArchive 15 = .ok (.iconst 0, 1) := by decide +kernel
theorem dX10_addArchive_16 : decode cX10_addArchive 16 = .ok (.istore 5, 2) := by decide +kernel
theorem dX10_addArchive_18 : decode cX10_addArchive 18 = .ok (.iload 5, 2) := by decide +kernel
theorem dX10_addArchive_20 : decode cX10_addArchive 20 = .ok (.aload_n 0, 1) := by decide +kernel
theorem dX10_addArchive_21 : decode cX10_addArchive 21 = .ok (.getfield 10, 3) := by decide +kernel
theorem dX10_addArchive_24 : decode cX10_addArchive 24 = .ok (.getfield 110, 3) := by decide +kernel
theorem dX10_addArchive_27 : decode cX10_addArchive 27 = .ok (.if_icmp .ge 42, 3) := by decide +kernel
theorem dX10_addArchive_30 : decode cX10_addArchive 30 = .ok (.aload_n 0, 1) := by decide +kernel
theorem dX10_addArchive_31 : decode cX10_addArchive 31 = .ok (.getfield 10, 3) := by decide +kernel
theorem dX10_addArchive_34 : decode cX10_addArchive 34 = .ok (.iload 5, 2) := by decide +kernel
theorem dX10_addArchive_36 : decode cX10_addArchive 36 = .ok (.invokevirtual 147, 3) := by decide +kernel
theorem dX10_addArchive_39 : decode cX10_addArchive 39 = .ok (.astore 6, 2) := by decide +kernel
theorem dX10_addArchive_41 : decode cX10_addArchive 41 = .ok (.lload_n 3, 1) := by decide +kernel
theorem dX10_addArchive_42 : decode cX10_addArchive 42 = .ok (.ldc2_w 390, 3) := by decide +kernel
theorem dX10_addArchive_45 : decode cX10_addArchive 45 = .ok (.lmul, 1) := by decide +kernel
theorem dX10_addArchive_46 : decode cX10_addArchive 46 = .ok (.aload 6, 2) := by decide +kernel
theorem dX10_addArchive_48 : decode cX10_addArchive 48 = .ok (.ifnonnull 7, 3) := by decide +kernel
theorem dX10_addArchive_51 : decode cX10_addArchive 51 = .ok (.iconst 0, 1) := by decide +kernel
theorem dX10_addArchive_52 : decode cX10_addArchive 52 = .ok (.goto 8, 3) := by decide +kernel
theorem dX10_addArchive_55 : decode cX10_addArchive 55 = .ok (.aload 6, 2) := by decide +kernel
theorem dX10_addArchive_57 : decode cX10_addArchive 57 = .ok (.invokevirtual 186, 3) := by decide +kernel
theorem dX10_addArchive_60 : decode cX10_addArchive 60 = .ok (.i2l, 1) := by decide +kernel
theorem dX10_addArchive_61 : decode cX10_addArchive 61 = .ok (.ladd, 1) := by decide +kernel
theorem dX10_addArchive_62 : decode cX10_addArchive 62 = .ok (.lstore_n 3, 1) := by decide +kernel
theorem dX10_addArchive_63 : decode cX10_addArchive 63 = .ok (.iinc 5 1, 3) := by decide +kernel
theorem dX10_addArchive_66 : decode cX10_addArchive 66 = .ok (.goto (-48), 3) := by decide +kernel
theorem dX10_addArchive_69 : decode cX10_addArchive 69 = .ok (.lload_n 3, 1) := by decide +kernel
theorem dX10_addArchive_70 : decode cX10_addArchive 70 = .ok (.ldc2_w 390, 3) := by decide +kernel
theorem dX10_addArchive_73 : decode cX10_addArchive 73 = .ok (.lmul, 1) := by decide +kernel
theorem dX10_addArchive_74 : decode cX10_addArchive 74 = .ok (.aload_n 0, 1) := by decide +kernel
theorem dX10_addArchive_75 : decode cX10_addArchive 75 = .ok (.getfield 10, 3) := by decide +kernel
theorem dX10_addArchive_78 : decode cX10_addArchive 78 = .ok (.getfield 200, 3) := by decide +kernel
theorem dX10_addArchive_81 : decode cX10_addArchive 81 = .ok (.i2l, 1) := by decide +kernel
theorem dX10_addArchive_82 : decode cX10_addArchive 82 = .ok (.ladd, 1) := by decide +kernel
theorem dX10_addArchive_83 : decode cX10_addArchive 83 = .ok (.lstore_n 3, 1) := by decide +kernel
theorem dX10_addArchive_84 : decode cX10_addArchive 84 = .ok (.iconst 0, 1) := by decide +kernel
theorem dX10_addArchive_85 : decode cX10_addArchive 85 = .ok (.istore 5, 2) := by decide +kernel
theorem dX10_addArchive_87 : decode cX10_addArchive 87 = .ok (.iload 5, 2) := by decide +kernel
theorem dX10_addArchive_89 : decode cX10_addArchive 89 = .ok (.aload_n 0, 1) := by decide +kernel
theorem dX10_addArchive_90 : decode cX10_addArchive 90 = .ok (.getfield 10, 3) := by decide +kernel
theorem dX10_addArchive_93 : decode cX10_addArchive 93 = .ok (.getfield 200, 3) := by decide +kernel
theorem dX10_addArchive_96 : decode cX10_addArchive 96 = .ok (.if_icmp .ge 43, 3) := by decide +kernel
theorem dX10_addArchive_99 : decode cX10_addArchive 99 = .ok (.lload_n 3, 1) := by decide +kernel
theorem dX10_addArchive_100 : decode cX10_addArchive 100 = .ok (.ldc2_w 390, 3) := by decide +kernel
theorem dX10_addArchive_103 : decode cX10_addArchive 103 = .ok (.lmul, 1) := by decide +kernel
theorem dX10_addArchive_104 : decode cX10_addArchive 104 = .ok (.aload_n 0, 1) := by decide +kernel
theorem dX10_addArchive_105 : decode cX10_addArchive 105 = .ok (.getfield 10, 3) := by decide +kernel
theorem dX10_addArchive_108 : decode cX10_addArchive 108 = .ok (.iload 5, 2) := by decide +kernel
theorem dX10_addArchive_110 : decode cX10_addArchive 110 = .ok (.invokevirtual 208, 3) := by decide +kernel
theorem dX10_addArchive_113 : decode cX10_addArchive 113 = .ok (.i2l, 1) := by decide +kernel
theorem dX10_addArchive_114 : decode cX10_addArchive 114 = .ok (.ladd, 1) := by decide +kernel
theorem dX10_addArchive_115 : decode cX10_addArchive 115 = .ok (.lstore_n 3, 1) := by decide +kernel
theorem dX10_addArchive_116 : decode cX10_addArchive 116 = .ok (.lload_n 3, 1) := by decide +kernel
theorem dX10_addArchive_117 : decode cX10_addArchive 117 = .ok (.ldc2_w 390, 3) := by decide +kernel
theorem dX10_addArchive_120 : decode cX10_addArchive 120 = .ok (.lmul, 1) := by decide +kernel
theorem dX10_addArchive_121 : decode cX10_addArchive 121 = .ok (.aload_n 0, 1) := by decide +kernel
theorem dX10_addArchive_122 : decode cX10_addArchive 122 = .ok (.getfield 10, 3) := by decide +kernel
theorem dX10_addArchive_125 : decode cX10_addArchive 125 = .ok (.iload 5, 2) := by decide +kernel
theorem dX10_addArchive_127 : decode cX10_addArchive 127 = .ok (.invokevirtual 211, 3) := by decide +kernel
theorem dX10_addArchive_130 : decode cX10_addArchive 130 = .ok (.i2l, 1) := by decide +kernel
theorem dX10_addArchive_131 : decode cX10_addArchive 131 = .ok (.ladd, 1) := by decide +kernel
theorem dX10_addArchive_132 : decode cX10_addArchive 132 = .ok (.lstore_n 3, 1) := by decide +kernel
theorem dX10_addArchive_133 : decode cX10_addArchive 133 = .ok (.iinc 5 1, 3) := by decide +kernel
theorem dX10_addArchive_136 : decode cX10_addArchive 136 = .ok (.goto (-49), 3) := by decide +kernel
theorem dX10_addArchive_139 : decode cX10_addArchive 139 = .ok (.lload_n 3, 1) := by decide +kernel
theorem dX10_addArchive_140 : decode cX10_addArchive 140 = .ok (.lreturn, 1) := by decide +kernel
set_option maxRecDepth 20000 in
theorem ggX10_addNodes_X10_countFound : GoodIn wsX10_addNodes wsX10_countFound := goodIn_r _ [15] (by decide +kernel) (by decide +kernel)
set_option maxRecDepth 20000 in
theorem gX10_addNodes_X10_countFound : GoodIn wsX10_addNodes (va_wsS RX10 397 yX10_countFound wsX10_countFound) := goodIn_app (goodIn_of _ (by decide +kernel)) ggX10_addNodes_X10_countFound
set_option maxRecDepth 20000 in
theorem ggX10_addNodes_X6_entriesOf : GoodIn wsX10_addNodes wsX6_entriesOf := goodIn_r _ [20, 21, 22, 23, 24, 19, 25, 26, 27, 8, 9, 10, 28, 29, 30, 31, 32, 33, 34, 35, 36, 37, 38, 39, 40, 41, 42, 43, 44, 45, 46, 47, 48, 49, 50, 51, 52, 53, 54, 55, 56, 57, 58, 59, 60, 61, 62, 63, 64, 65, 66, 67, 68, 69, 70, 71, 72, 73, 74, 75, 76, 77, 78, 79, 80, 81, 82, 83, 84, 85, 86, 97, 98, 99, 100, 101, 108, 109, 110, 111, 112, 113, 114, 115, 116, 117, 118, 119, 120, 121, 122, 123, 124, 125, 126] (by decide +kernel) (by decide +kernel)
set_option maxRecDepth 20000 in
theorem gX10_addNodes_X6_entriesOf : GoodIn wsX10_addNodes (wsV RX10 361 RX6 yX6_entriesOf wsX6_entriesOf) := goodIn_app (goodIn_of _ (by decide +kernel)) ggX10_addNodes_X6_entriesOf
theorem dX10_addNodes_0 : decode cX10_addNodes 0 = .ok (.lload_n 1, 1) := by decide +kernel
theorem dX10_addNodes_1 : decode cX10_addNodes 1 = .ok (.ldc2_w 390, 3) := by decide +kernel
theorem dX10_addNodes_4 : decode cX10_addNodes 4 = .ok (.lmul, 1) := by decide +kernel
theorem dX10_addNodes_5 : decode cX10_addNodes 5 = .ok (.aload_n 0, 1) := by decide +kernel
theorem dX10_addNodes_6 : decode cX10_addNodes 6 = .ok (.getfield 28, 3) := by decide +kernel
theorem dX10_addNodes_9 : decode cX10_addNodes 9 = .ok (.getfield 293, 3) := by decide +kernel
theorem dX10_addNodes_12 : decode cX10_addNodes 12 = .ok (.i2l, 1) := by decide +kernel
theorem dX10_addNodes_13 : decode cX10_addNodes 13 = .ok (.ladd, 1) := by decide +kernel
theorem dX10_addNodes_14 : decode cX10_addNodes 14 = .ok (.lstore_n 3, 1) := by decide +kernel
theorem dX10_addNodes_15 : decode cX10_addNodes 15 = .ok (.iconst 0, 1) := by decide +kernel
theorem dX10_addNodes_16 : decode cX10_addNodes 16 = .ok (.istore 5, 2) := by decide +kernel
theorem dX10_addNodes_18 : decode cX10_addNodes 18 = .ok (.iload 5, 2) := by decide +kernel
theorem dX10_addNodes_20 : decode cX10_addNodes 20 = .ok (.aload_n 0, 1) := by decide +kernel
theorem dX10_addNodes_21 : decode cX10_addNodes 21 = .ok (.getfield 28, 3) := by decide +kernel
theorem dX10_addNodes_24 : decode cX10_addNodes 24 = .ok (.getfield 293, 3) := by decide +kernel
theorem dX10_addNodes_27 : decode cX10_addNodes 27 = .ok (.if_icmp .ge 111, 3) := by decide +kernel
theorem dX10_addNodes_30 : decode cX10_addNodes 30 = .ok (.iload 5, 2) := by decide +kernel
theorem dX10_addNodes_32 : decode cX10_addNodes 32 = .ok (.aload_n 0, 1) := by decide +kernel
theorem dX10_addNodes_33 : decode cX10_addNodes 33 = .ok (.getfield 75, 3) := by decide +kernel
theorem dX10_addNodes_36 : decode cX10_addNodes 36 = .ok (.arraylength, 1) := by decide +kernel
theorem dX10_addNodes_37 : decode cX10_addNodes 37 = .ok (.if_icmp .ge 101, 3) := by decide +kernel
theorem dX10_addNodes_40 : decode cX10_addNodes 40 = .ok (.aload_n 0, 1) := by decide +kernel
theorem dX10_addNodes_41 : decode cX10_addNodes 41 = .ok (.getfield 75, 3) := by decide +kernel
theorem dX10_addNodes_44 : decode cX10_addNodes 44 = .ok (.iload 5, 2) := by decide +kernel
theorem dX10_addNodes_46 : decode cX10_addNodes 46 = .ok (.aaload, 1) := by decide +kernel
theorem dX10_addNodes_47 : decode cX10_addNodes 47 = .ok (.astore 6, 2) := by decide +kernel
theorem dX10_addNodes_49 : decode cX10_addNodes 49 = .ok (.aload_n 0, 1) := by decide +kernel
theorem dX10_addNodes_50 : decode cX10_addNodes 50 = .ok (.getfield 10, 3) := by decide +kernel
theorem dX10_addNodes_53 : decode cX10_addNodes 53 = .ok (.getfield 110, 3) := by decide +kernel
theorem dX10_addNodes_56 : decode cX10_addNodes 56 = .ok (.aload 6, 2) := by decide +kernel
theorem dX10_addNodes_58 : decode cX10_addNodes 58 = .ok (.arraylength, 1) := by decide +kernel
theorem dX10_addNodes_59 : decode cX10_addNodes 59 = .ok (.invokestatic 392, 3) := by decide +kernel
theorem dX10_addNodes_62 : decode cX10_addNodes 62 = .ok (.istore 7, 2) := by decide +kernel
theorem dX10_addNodes_64 : decode cX10_addNodes 64 = .ok (.lload_n 3, 1) := by decide +kernel
theorem dX10_addNodes_65 : decode cX10_addNodes 65 = .ok (.ldc2_w 390, 3) := by decide +kernel
theorem dX10_addNodes_68 : decode cX10_addNodes 68 = .ok (.lmul, 1) := by decide +kernel
theorem dX10_addNodes_69 : decode cX10_addNodes 69 = .ok (.aload 6, 2) := by decide +kernel
theorem dX10_addNodes_71 : decode cX10_addNodes 71 = .ok (.iload 7, 2) := by decide +kernel
theorem dX10_addNodes_73 : decode cX10_addNodes 73 = .ok (.invokestatic 397, 3) := by decide +kernel
theorem dX10_addNodes_76 : decode cX10_addNodes 76 = .ok (.i2l, 1) := by decide +kernel
theorem dX10_addNodes_77 : decode cX10_addNodes 77 = .ok (.ladd, 1) := by decide +kernel
theorem dX10_addNodes_78 : decode cX10_addNodes 78 = .ok (.lstore_n 3, 1) := by decide +kernel
theorem dX10_addNodes_79 : decode cX10_addNodes 79 = .ok (.lload_n 3, 1) := by decide +kernel
theorem dX10_addNodes_80 : decode cX10_addNodes 80 = .ok (.ldc2_w 390, 3) := by decide +kernel
theorem dX10_addNodes_83 : decode cX10_addNodes 83 = .ok (.lmul, 1) := by decide +kernel
theorem dX10_addNodes_84 : decode cX10_addNodes 84 = .ok (.aload_n 0, 1) := by decide +kernel
theorem dX10_addNodes_85 : decode cX10_addNodes 85 = .ok (.getfield 28, 3) := by decide +kernel
theorem dX10_addNodes_88 : decode cX10_addNodes 88 = .ok (.iload 5, 2) := by decide +kernel
theorem dX10_addNodes_90 : decode cX10_addNodes 90 = .ok (.aload_n 0, 1) := by decide +kernel
theorem dX10_addNodes_91 : decode cX10_addNodes 91 = .ok (.getfield 10, 3) := by decide +kernel
theorem dX10_addNodes_94 : decode cX10_addNodes 94 = .ok (.getfield 57, 3) := by decide +kernel
theorem dX10_addNodes_97 : decode cX10_addNodes 97 = .ok (.invokevirtual 361, 3) := by decide +kernel
theorem dX10_addNodes_100 : decode cX10_addNodes 100 = .ok (.i2l, 1) := by decide +kernel
theorem dX10_addNodes_101 : decode cX10_addNodes 101 = .ok (.ladd, 1) := by decide +kernel
theorem dX10_addNodes_102 : decode cX10_addNodes 102 = .ok (.lstore_n 3, 1) := by decide +kernel
theorem dX10_addNodes_103 : decode cX10_addNodes 103 = .ok (.iconst 0, 1) := by decide +kernel
theorem dX10_addNodes_104 : decode cX10_addNodes 104 = .ok (.istore 8, 2) := by decide +kernel
theorem dX10_addNodes_106 : decode cX10_addNodes 106 = .ok (.iload 8, 2) := by decide +kernel
theorem dX10_addNodes_108 : decode cX10_addNodes 108 = .ok (.iload 7, 2) := by decide +kernel
theorem dX10_addNodes_110 : decode cX10_addNodes 110 = .ok (.if_icmp .ge 22, 3) := by decide +kernel
theorem dX10_addNodes_113 : decode cX10_addNodes 113 = .ok (.lload_n 3, 1) := by decide +kernel
theorem dX10_addNodes_114 : decode cX10_addNodes 114 = .ok (.ldc2_w 390, 3) := by decide +kernel
theorem dX10_addNodes_117 : decode cX10_addNodes 117 = .ok (.lmul, 1) := by decide +kernel
theorem dX10_addNodes_118 : decode cX10_addNodes 118 = .ok (.aload 6, 2) := by decide +kernel
theorem dX10_addNodes_120 : decode cX10_addNodes 120 = .ok (.iload 8, 2) := by decide +kernel
theorem dX10_addNodes_122 : decode cX10_addNodes 122 = .ok (.iaload, 1) := by decide +kernel
theorem dX10_addNodes_123 : decode cX10_addNodes 123 = .ok (.i2l, 1) := by decide +kernel
theorem dX10_addNodes_124 : decode cX10_addNodes 124 = .ok (.ladd, 1) := by decide +kernel
theorem dX10_addNodes_125 : decode cX10_addNodes 125 = .ok (.lstore_n 3, 1) := by decide +kernel
theorem dX10_addNodes_126 : decode cX10_addNodes 126 = .ok (.iinc 8 1, 3) := by decide +kernel
theorem dX10_addNodes_129 : decode cX10_addNodes 129 = .ok (.goto (-23), 3) := by decide +kernel
theorem dX10_addNodes_132 : decode cX10_addNodes 132 = .ok (.iinc 5 1, 3) := by decide +kernel
theorem dX10_addNodes_135 : decode cX10_addNodes 135 = .ok (.goto (-117), 3) := by decide +kernel
theorem dX10_addNodes_138 : decode cX10_addNodes 138 = .ok (.lload_n 3, 1) := by decide +kernel
theorem dX10_addNodes_139 : decode cX10_addNodes 139 = .ok (.lreturn, 1) := by decide +kernel
set_option maxRecDepth 20000 in
theorem ggX10_fillScoresByNode_X0_documentAt : GoodIn wsX10_fillScoresByNode wsX0_documentAt := goodIn_r _ [11, 12, 13, 189, 190, 191, 192, 193, 194] (by decide +kernel) (by decide +kernel)
set_option maxRecDepth 20000 in
theorem gX10_fillScoresByNode_X0_documentAt : GoodIn wsX10_fillScoresByNode (wsV RX10 147 RX0 yX0_documentAt wsX0_documentAt) := goodIn_app (goodIn_of _ (by decide +kernel)) ggX10_fillScoresByNode_X0_documentAt
set_option maxRecDepth 20000 in
theorem ggX10_fillScoresByNode_X2_canBeFound : GoodIn wsX10_fillScoresByNode wsX2_canBeFound := goodIn_r _ [18, 19, 20, 21, 22, 17, 23, 24, 200, 201, 202, 203, 204] (by decide +kernel) (by decide +kernel)
set_option maxRecDepth 20000 in
theorem gX10_fillScoresByNode_X2_canBeFound : GoodIn wsX10_fillScoresByNode (wsV RX10 307 RX2 yX2_canBeFound wsX2_canBeFound) := goodIn_app (goodIn_of _ (by decide +kernel)) ggX10_fillScoresByNode_X2_canBeFound
set_option maxRecDepth 20000 in
theorem ggX10_fillScoresByNode_X8_scoreOf : GoodIn wsX10_fillScoresByNode wsX8_scoreOf := goodIn_r _ [29, 30, 31, 32, 33, 34, 35, 36, 37, 38, 39, 40, 41, 42, 43, 44, 45, 46, 28, 47, 48, 49, 50, 51, 52, 53, 54, 55, 56, 57, 58, 59, 60, 61, 62, 63, 64, 65, 66, 67, 68, 69, 70, 71, 72, 73, 74, 75, 76, 77, 78, 79, 80, 81, 82, 83, 17, 84, 85, 86, 87, 88, 89, 90, 91, 92, 93, 94, 95, 96, 97, 98, 99, 100, 101, 102, 103, 104, 105, 106, 107, 108, 109, 110, 111, 112, 113, 114, 115, 116, 117, 118, 119, 120, 121, 122, 123, 124, 125, 126, 127, 128, 129, 130, 131, 132, 133, 134, 135, 136, 137, 138, 139, 140, 141, 142, 143, 144, 145, 146, 147, 148, 149, 150, 151, 152, 153, 154, 155, 156, 157, 158, 159, 160, 161, 162, 163, 164, 165, 166, 167, 168, 169, 170, 171, 172, 173, 174, 175, 176, 177, 205, 206, 207, 208, 209, 195, 196, 197, 198, 199, 210, 211, 212, 213, 214, 215, 216, 217, 218, 219, 220, 221, 222, 200, 201, 202, 203, 204, 223, 224, 225, 226, 227, 228, 229, 230, 231, 232, 233] (by decide +kernel) (by decide +kernel)
set_option maxRecDepth 20000 in
theorem gX10_fillScoresByNode_X8_scoreOf : GoodIn wsX10_fillScoresByNode (wsV RX10 310 RX8 yX8_scoreOf wsX8_scoreOf) := goodIn_app (goodIn_of _ (by decide +kernel)) ggX10_fillScoresByNode_X8_scoreOf
set_option maxRecDepth 20000 in
theorem ggX10_fillScoresByNode_X8_valueAt : GoodIn wsX10_fillScoresByNode wsX8_valueAt := goodIn_r _ [150, 30, 205, 206, 207, 208, 209] (by decide +kernel) (by decide +kernel)
set_option maxRecDepth 20000 in
theorem gX10_fillScoresByNode_X8_valueAt : GoodIn wsX10_fillScoresByNode (wsV RX10 401 RX8 yX8_valueAt wsX8_valueAt) := goodIn_app (goodIn_of _ (by decide +kernel)) ggX10_fillScoresByNode_X8_valueAt
theorem dX10_fillScoresByNode_0 : decode cX10_fillScoresByNode 0 = .ok (.iconst 0, 1) := by decide +kernel
theorem dX10_fillScoresByNode_1 : decode cX10_fillScoresByNode 1 = .ok (.istore_n 1, 1) := by decide +kernel
theorem dX10_fillScoresByNode_2 : decode cX10_fillScoresByNode 2 = .ok (.iload_n 1, 1) := by decide +kernel
theorem dX10_fillScoresByNode_3 : decode cX10_fillScoresByNode 3 = .ok (.aload_n 0, 1) := by decide +kernel
theorem dX10_fillScoresByNode_4 : decode cX10_fillScoresByNode 4 = .ok (.getfield 10, 3) := by decide +kernel
theorem dX10_fillScoresByNode_7 : decode cX10_fillScoresByNode 7 = .ok (.getfield 110, 3) := by decide +kernel
theorem dX10_fillScoresByNode_10 : decode cX10_fillScoresByNode 10 = .ok (.if_icmp .ge 126, 3) := by decide +kernel
theorem dX10_fillScoresByNode_13 : decode cX10_fillScoresByNode 13 = .ok (.aload_n 0, 1) := by decide +kernel
theorem dX10_fillScoresByNode_14 : decode cX10_fillScoresByNode 14 = .ok (.getfield 10, 3) := by decide +kernel
theorem dX10_fillScoresByNode_17 : decode cX10_fillScoresByNode 17 = .ok (.iload_n 1, 1) := by decide +kernel
theorem dX10_fillScoresByNode_18 : decode cX10_fillScoresByNode 18 = .ok (.invokevirtual 147, 3) := by decide +kernel
theorem dX10_fillScoresByNode_21 : decode cX10_fillScoresByNode 21 = .ok (.astore_n 2, 1) := by decide +kernel
theorem dX10_fillScoresByNode_22 : decode cX10_fillScoresByNode 22 = .ok (.aload_n 2, 1) := by decide +kernel
theorem dX10_fillScoresByNode_23 : decode cX10_fillScoresByNode 23 = .ok (.ifnull 14, 3) := by decide +kernel
theorem dX10_fillScoresByNode_26 : decode cX10_fillScoresByNode 26 = .ok (.aload_n 2, 1) := by decide +kernel
theorem dX10_fillScoresByNode_27 : decode cX10_fillScoresByNode 27 = .ok (.invokevirtual 307, 3) := by decide +kernel
theorem dX10_fillScoresByNode_30 : decode cX10_fillScoresByNode 30 = .ok (.ifCond .eq 7, 3) := by decide +kernel
theorem dX10_fillScoresByNode_33 : decode cX10_fillScoresByNode 33 = .ok (.iconst 1, 1) := by decide +kernel
theorem dX10_fillScoresByNode_34 : decode cX10_fillScoresByNode 34 = .ok (.goto 4, 3) := by decide +kernel
theorem dX10_fillScoresByNode_37 : decode cX10_fillScoresByNode 37 = .ok (.iconst 0, 1) := by decide +kernel
theorem dX10_fillScoresByNode_38 : decode cX10_fillScoresByNode 38 = .ok (.istore_n 3, 1) := by decide +kernel
theorem dX10_fillScoresByNode_39 : decode cX10_fillScoresByNode 39 = .ok (.iload_n 3, 1) := by decide +kernel
theorem dX10_fillScoresByNode_40 : decode cX10_fillScoresByNode 40 = .ok (.ifCond .eq 21, 3) := by decide +kernel
theorem dX10_fillScoresByNode_43 : decode cX10_fillScoresByNode 43 = .ok (.aload_n 0, 1) := by decide +kernel
theorem dX10_fillScoresByNode_44 : decode cX10_fillScoresByNode 44 = .ok (.getfield 63, 3) := by decide +kernel
theorem dX10_fillScoresByNode_47 : decode cX10_fillScoresByNode 47 = .ok (.aload_n 2, 1) := by decide +kernel
theorem dX10_fillScoresByNode_48 : decode cX10_fillScoresByNode 48 = .ok (.aload_n 0, 1) := by decide +kernel
theorem dX10_fillScoresByNode_49 : decode cX10_fillScoresByNode 49 = .ok (.getfield 28, 3) := by decide +kernel
theorem dX10_fillScoresByNode_52 : decode cX10_fillScoresByNode 52 = .ok (.getfield 293, 3) := by decide +kernel
theorem dX10_fillScoresByNode_55 : decode cX10_fillScoresByNode 55 = .ok (.iconst 1, 1) := by decide +kernel
theorem dX10_fillScoresByNode_56 : decode cX10_fillScoresByNode 56 = .ok (.isub, 1) := by decide +kernel
theorem dX10_fillScoresByNode_57 : decode cX10_fillScoresByNode 57 = .ok (.invokevirtual 310, 3) := by decide +kernel
theorem dX10_fillScoresByNode_60 : decode cX10_fillScoresByNode 60 = .ok (.pop, 1) := by decide +kernel
theorem dX10_fillScoresByNode_61 : decode cX10_fillScoresByNode 61 = .ok (.iconst 0, 1) := by decide +kernel
theorem dX10_fillScoresByNode_62 : decode cX10_fillScoresByNode 62 = .ok (.istore 4, 2) := by decide +kernel
theorem dX10_fillScoresByNode_64 : decode cX10_fillScoresByNode 64 = .ok (.iload 4, 2) := by decide +kernel
theorem dX10_fillScoresByNode_66 : decode cX10_fillScoresByNode 66 = .ok (.aload_n 0, 1) := by decide +kernel
theorem dX10_fillScoresByNode_67 : decode cX10_fillScoresByNode 67 = .ok (.getfield 28, 3) := by decide +kernel
theorem dX10_fillScoresByNode_70 : decode cX10_fillScoresByNode 70 = .ok (.getfield 293, 3) := by decide +kernel
theorem dX10_fillScoresByNode_73 : decode cX10_fillScoresByNode 73 = .ok (.if_icmp .ge 57, 3) := by decide +kernel
theorem dX10_fillScoresByNode_76 : decode cX10_fillScoresByNode 76 = .ok (.iload 4, 2) := by decide +kernel
theorem dX10_fillScoresByNode_78 : decode cX10_fillScoresByNode 78 = .ok (.aload_n 0, 1) := by decide +kernel
theorem dX10_fillScoresByNode_79 : decode cX10_fillScoresByNode 79 = .ok (.getfield 75, 3) := by decide +kernel
theorem dX10_fillScoresByNode_82 : decode cX10_fillScoresByNode 82 = .ok (.arraylength, 1) := by decide +kernel
theorem dX10_fillScoresByNode_83 : decode cX10_fillScoresByNode 83 = .ok (.if_icmp .ge 47, 3) := by decide +kernel
theorem dX10_fillScoresByNode_86 : decode cX10_fillScoresByNode 86 = .ok (.iload_n 1, 1) := by decide +kernel
theorem dX10_fillScoresByNode_87 : decode cX10_fillScoresByNode 87 = .ok (.aload_n 0, 1) := by decide +kernel
theorem dX10_fillScoresByNode_88 : decode cX10_fillScoresByNode 88 = .ok (.getfield 75, 3) := by decide +kernel
theorem dX10_fillScoresByNode_91 : decode cX10_fillScoresByNode 91 = .ok (.iload 4, 2) := by decide +kernel
theorem dX10_fillScoresByNode_93 : decode cX10_fillScoresByNode 93 = .ok (.aaload, 1) := by decide +kernel
theorem dX10_fillScoresByNode_94 : decode cX10_fillScoresByNode 94 = .ok (.arraylength, 1) := by decide +kernel
theorem dX10_fillScoresByNode_95 : decode cX10_fillScoresByNode 95 = .ok (.if_icmp .ge 29, 3) := by decide +kernel
theorem dX10_fillScoresByNode_98 : decode cX10_fillScoresByNode 98 = .ok (.aload_n 0, 1) := by decide +kernel
theorem dX10_fillScoresByNode_99 : decode cX10_fillScoresByNode 99 = .ok (.getfield 75, 3) := by decide +kernel
theorem dX10_fillScoresByNode_102 : decode cX10_fillScoresByNode 102 = .ok (.iload 4, 2) := by decide +kernel
theorem dX10_fillScoresByNode_104 : decode cX10_fillScoresByNode 104 = .ok (.aaload, 1) := by decide +kernel
theorem dX10_fillScoresByNode_105 : decode cX10_fillScoresByNode 105 = .ok (.iload_n 1, 1) := by decide +kernel
theorem dX10_fillScoresByNode_106 : decode cX10_fillScoresByNode 106 = .ok (.iload_n 3, 1) := by decide +kernel
theorem dX10_fillScoresByNode_107 : decode cX10_fillScoresByNode 107 = .ok (.ifCond .eq 15, 3) := by decide +kernel
theorem dX10_fillScoresByNode_110 : decode cX10_fillScoresByNode 110 = .ok (.aload_n 0, 1) := by decide +kernel
theorem dX10_fillScoresByNode_111 : decode cX10_fillScoresByNode 111 = .ok (.getfield 63, 3) := by decide +kernel
theorem dX10_fillScoresByNode_114 : decode cX10_fillScoresByNode 114 = .ok (.iload 4, 2) := by decide +kernel
theorem dX10_fillScoresByNode_116 : decode cX10_fillScoresByNode 116 = .ok (.invokevirtual 401, 3) := by decide +kernel
theorem dX10_fillScoresByNode_119 : decode cX10_fillScoresByNode 119 = .ok (.goto 4, 3) := by decide +kernel
theorem dX10_fillScoresByNode_122 : decode cX10_fillScoresByNode 122 = .ok (.iconst (-1), 1) := by decide +kernel
theorem dX10_fillScoresByNode_123 : decode cX10_fillScoresByNode 123 = .ok (.iastore, 1) := by decide +kernel
theorem dX10_fillScoresByNode_124 : decode cX10_fillScoresByNode 124 = .ok (.iinc 4 1, 3) := by decide +kernel
theorem dX10_fillScoresByNode_127 : decode cX10_fillScoresByNode 127 = .ok (.goto (-63), 3) := by decide +kernel
theorem dX10_fillScoresByNode_130 : decode cX10_fillScoresByNode 130 = .ok (.iinc 1 1, 3) := by decide +kernel
theorem dX10_fillScoresByNode_133 : decode cX10_fillScoresByNode 133 = .ok (.goto (-131), 3) := by decide +kernel
theorem dX10_fillScoresByNode_136 : decode cX10_fillScoresByNode 136 = .ok (.return_, 1) := by decide +kernel
theorem dX10_countFound_0 : decode cX10_countFound 0 = .ok (.iconst 0, 1) := by decide +kernel
theorem dX10_countFound_1 : decode cX10_countFound 1 = .ok (.istore_n 2, 1) := by decide +kernel
theorem dX10_countFound_2 : decode cX10_countFound 2 = .ok (.iconst 0, 1) := by decide +kernel
theorem dX10_countFound_3 : decode cX10_countFound 3 = .ok (.istore_n 3, 1) := by decide +kernel
theorem dX10_countFound_4 : decode cX10_countFound 4 = .ok (.iload_n 3, 1) := by decide +kernel
theorem dX10_countFound_5 : decode cX10_countFound 5 = .ok (.iload_n 1, 1) := by decide +kernel
theorem dX10_countFound_6 : decode cX10_countFound 6 = .ok (.if_icmp .ge 25, 3) := by decide +kernel
theorem dX10_countFound_9 : decode cX10_countFound 9 = .ok (.iload_n 3, 1) := by decide +kernel
theorem dX10_countFound_10 : decode cX10_countFound 10 = .ok (.aload_n 0, 1) := by decide +kernel
theorem dX10_countFound_11 : decode cX10_countFound 11 = .ok (.arraylength, 1) := by decide +kernel
theorem dX10_countFound_12 : decode cX10_countFound 12 = .ok (.if_icmp .ge 19, 3) := by decide +kernel
theorem dX10_countFound_15 : decode cX10_countFound 15 = .ok (.aload_n 0, 1) := by decide +kernel
theorem dX10_countFound_16 : decode cX10_countFound 16 = .ok (.iload_n 3, 1) := by decide +kernel
theorem dX10_countFound_17 : decode cX10_countFound 17 = .ok (.iaload, 1) := by decide +kernel
theorem dX10_countFound_18 : decode cX10_countFound 18 = .ok (.iconst (-1), 1) := by decide +kernel
theorem dX10_countFound_19 : decode cX10_countFound 19 = .ok (.if_icmp .eq 6, 3) := by decide +kernel
theorem dX10_countFound_22 : decode cX10_countFound 22 = .ok (.iinc 2 1, 3) := by decide +kernel
theorem dX10_countFound_25 : decode cX10_countFound 25 = .ok (.iinc 3 1, 3) := by decide +kernel
theorem dX10_countFound_28 : decode cX10_countFound 28 = .ok (.goto (-24), 3) := by decide +kernel
theorem dX10_countFound_31 : decode cX10_countFound 31 = .ok (.iload_n 2, 1) := by decide +kernel
theorem dX10_countFound_32 : decode cX10_countFound 32 = .ok (.ireturn, 1) := by decide +kernel
set_option maxRecDepth 20000 in
theorem ggX10_addResults_X7_numberAt : GoodIn wsX10_addResults wsX7_numberAt := goodIn_r _ [8, 9, 10, 11, 12, 7, 13, 14, 40, 41, 42, 43] (by decide +kernel) (by decide +kernel)
set_option maxRecDepth 20000 in
theorem gX10_addResults_X7_numberAt : GoodIn wsX10_addResults (wsV RX10 329 RX7 yX7_numberAt wsX7_numberAt) := goodIn_app (goodIn_of _ (by decide +kernel)) ggX10_addResults_X7_numberAt
set_option maxRecDepth 20000 in
theorem ggX10_addResults_X7_valueAt : GoodIn wsX10_addResults wsX7_valueAt := goodIn_r _ [18, 19, 10, 11, 12, 7, 13, 14, 40, 41, 42, 43] (by decide +kernel) (by decide +kernel)
set_option maxRecDepth 20000 in
theorem gX10_addResults_X7_valueAt : GoodIn wsX10_addResults (wsV RX10 332 RX7 yX7_valueAt wsX7_valueAt) := goodIn_app (goodIn_of _ (by decide +kernel)) ggX10_addResults_X7_valueAt
set_option maxRecDepth 20000 in
theorem ggX10_addResults_X7_countKind : GoodIn wsX10_addResults wsX7_countKind := goodIn_r _ [23, 14, 24, 25, 26, 27, 7, 28, 29, 10, 11, 12, 13, 40, 41, 42, 43, 44, 45, 46, 47, 48] (by decide +kernel) (by decide +kernel)
set_option maxRecDepth 20000 in
theorem gX10_addResults_X7_countKind : GoodIn wsX10_addResults (wsV RX10 337 RX7 yX7_countKind wsX7_countKind) := goodIn_app (goodIn_of _ (by decide +kernel)) ggX10_addResults_X7_countKind
theorem dX10_addResults_0 : decode cX10_addResults 0 = .ok (.lload_n 1, 1) := by decide +kernel
theorem dX10_addResults_1 : decode cX10_addResults 1 = .ok (.ldc2_w 390, 3) := by decide +kernel
theorem dX10_addResults_4 : decode cX10_addResults 4 = .ok (.lmul, 1) := by decide +kernel
theorem dX10_addResults_5 : decode cX10_addResults 5 = .ok (.aload_n 0, 1) := by decide +kernel
theorem dX10_addResults_6 : decode cX10_addResults 6 = .ok (.getfield 35, 3) := by decide +kernel
theorem dX10_addResults_9 : decode cX10_addResults 9 = .ok (.getfield 323, 3) := by decide +kernel
theorem dX10_addResults_12 : decode cX10_addResults 12 = .ok (.i2l, 1) := by decide +kernel
theorem dX10_addResults_13 : decode cX10_addResults 13 = .ok (.ladd, 1) := by decide +kernel
theorem dX10_addResults_14 : decode cX10_addResults 14 = .ok (.lstore_n 3, 1) := by decide +kernel
theorem dX10_addResults_15 : decode cX10_addResults 15 = .ok (.iconst 0, 1) := by decide +kernel
theorem dX10_addResults_16 : decode cX10_addResults 16 = .ok (.istore 5, 2) := by decide +kernel
theorem dX10_addResults_18 : decode cX10_addResults 18 = .ok (.iload 5, 2) := by decide +kernel
theorem dX10_addResults_20 : decode cX10_addResults 20 = .ok (.aload_n 0, 1) := by decide +kernel
theorem dX10_addResults_21 : decode cX10_addResults 21 = .ok (.getfield 35, 3) := by decide +kernel
theorem dX10_addResults_24 : decode cX10_addResults 24 = .ok (.getfield 323, 3) := by decide +kernel
theorem dX10_addResults_27 : decode cX10_addResults 27 = .ok (.if_icmp .ge 43, 3) := by decide +kernel
theorem dX10_addResults_30 : decode cX10_addResults 30 = .ok (.lload_n 3, 1) := by decide +kernel
theorem dX10_addResults_31 : decode cX10_addResults 31 = .ok (.ldc2_w 390, 3) := by decide +kernel
theorem dX10_addResults_34 : decode cX10_addResults 34 = .ok (.lmul, 1) := by decide +kernel
theorem dX10_addResults_35 : decode cX10_addResults 35 = .ok (.aload_n 0, 1) := by decide +kernel
theorem dX10_addResults_36 : decode cX10_addResults 36 = .ok (.getfield 35, 3) := by decide +kernel
theorem dX10_addResults_39 : decode cX10_addResults 39 = .ok (.iload 5, 2) := by decide +kernel
theorem dX10_addResults_41 : decode cX10_addResults 41 = .ok (.invokevirtual 329, 3) := by decide +kernel
theorem dX10_addResults_44 : decode cX10_addResults 44 = .ok (.i2l, 1) := by decide +kernel
theorem dX10_addResults_45 : decode cX10_addResults 45 = .ok (.ladd, 1) := by decide +kernel
theorem dX10_addResults_46 : decode cX10_addResults 46 = .ok (.lstore_n 3, 1) := by decide +kernel
theorem dX10_addResults_47 : decode cX10_addResults 47 = .ok (.lload_n 3, 1) := by decide +kernel
theorem dX10_addResults_48 : decode cX10_addResults 48 = .ok (.ldc2_w 390, 3) := by decide +kernel
theorem dX10_addResults_51 : decode cX10_addResults 51 = .ok (.lmul, 1) := by decide +kernel
theorem dX10_addResults_52 : decode cX10_addResults 52 = .ok (.aload_n 0, 1) := by decide +kernel
theorem dX10_addResults_53 : decode cX10_addResults 53 = .ok (.getfield 35, 3) := by decide +kernel
theorem dX10_addResults_56 : decode cX10_addResults 56 = .ok (.iload 5, 2) := by decide +kernel
theorem dX10_addResults_58 : decode cX10_addResults 58 = .ok (.invokevirtual 332, 3) := by decide +kernel
theorem dX10_addResults_61 : decode cX10_addResults 61 = .ok (.i2l, 1) := by decide +kernel
theorem dX10_addResults_62 : decode cX10_addResults 62 = .ok (.ladd, 1) := by decide +kernel
theorem dX10_addResults_63 : decode cX10_addResults 63 = .ok (.lstore_n 3, 1) := by decide +kernel
theorem dX10_addResults_64 : decode cX10_addResults 64 = .ok (.iinc 5 1, 3) := by decide +kernel
theorem dX10_addResults_67 : decode cX10_addResults 67 = .ok (.goto (-49), 3) := by decide +kernel
theorem dX10_addResults_70 : decode cX10_addResults 70 = .ok (.iconst 0, 1) := by decide +kernel
theorem dX10_addResults_71 : decode cX10_addResults 71 = .ok (.istore 5, 2) := by decide +kernel
theorem dX10_addResults_73 : decode cX10_addResults 73 = .ok (.iload 5, 2) := by decide +kernel
theorem dX10_addResults_75 : decode cX10_addResults 75 = .ok (.bipush 8, 2) := by decide +kernel
theorem dX10_addResults_77 : decode cX10_addResults 77 = .ok (.if_icmp .ge 26, 3) := by decide +kernel
theorem dX10_addResults_80 : decode cX10_addResults 80 = .ok (.lload_n 3, 1) := by decide +kernel
theorem dX10_addResults_81 : decode cX10_addResults 81 = .ok (.ldc2_w 390, 3) := by decide +kernel
theorem dX10_addResults_84 : decode cX10_addResults 84 = .ok (.lmul, 1) := by decide +kernel
theorem dX10_addResults_85 : decode cX10_addResults 85 = .ok (.aload_n 0, 1) := by decide +kernel
theorem dX10_addResults_86 : decode cX10_addResults 86 = .ok (.getfield 35, 3) := by decide +kernel
theorem dX10_addResults_89 : decode cX10_addResults 89 = .ok (.iload 5, 2) := by decide +kernel
theorem dX10_addResults_91 : decode cX10_addResults 91 = .ok (.invokevirtual 337, 3) := by decide +kernel
theorem dX10_addResults_94 : decode cX10_addResults 94 = .ok (.i2l, 1) := by decide +kernel
theorem dX10_addResults_95 : decode cX10_addResults 95 = .ok (.ladd, 1) := by decide +kernel
theorem dX10_addResults_96 : decode cX10_addResults 96 = .ok (.lstore_n 3, 1) := by decide +kernel
theorem dX10_addResults_97 : decode cX10_addResults 97 = .ok (.iinc 5 1, 3) := by decide +kernel
theorem dX10_addResults_100 : decode cX10_addResults 100 = .ok (.goto (-27), 3) := by decide +kernel
theorem dX10_addResults_103 : decode cX10_addResults 103 = .ok (.lload_n 3, 1) := by decide +kernel
theorem dX10_addResults_104 : decode cX10_addResults 104 = .ok (.lreturn, 1) := by decide +kernel
theorem dX10_isTerm_0 : decode cX10_isTerm 0 = .ok (.iload_n 0, 1) := by decide +kernel
theorem dX10_isTerm_1 : decode cX10_isTerm 1 = .ok (.ifCond .lt 14, 3) := by decide +kernel
theorem dX10_isTerm_4 : decode cX10_isTerm 4 = .ok (.iload_n 0, 1) := by decide +kernel
theorem dX10_isTerm_5 : decode cX10_isTerm 5 = .ok (.sipush 200, 3) := by decide +kernel
theorem dX10_isTerm_8 : decode cX10_isTerm 8 = .ok (.if_icmp .ge 7, 3) := by decide +kernel
theorem dX10_isTerm_11 : decode cX10_isTerm 11 = .ok (.iconst 1, 1) := by decide +kernel
theorem dX10_isTerm_12 : decode cX10_isTerm 12 = .ok (.goto 4, 3) := by decide +kernel
theorem dX10_isTerm_15 : decode cX10_isTerm 15 = .ok (.iconst 0, 1) := by decide +kernel
theorem dX10_isTerm_16 : decode cX10_isTerm 16 = .ok (.ireturn, 1) := by decide +kernel
theorem dX10_isField_0 : decode cX10_isField 0 = .ok (.iload_n 0, 1) := by decide +kernel
theorem dX10_isField_1 : decode cX10_isField 1 = .ok (.ifCond .lt 12, 3) := by decide +kernel
theorem dX10_isField_4 : decode cX10_isField 4 = .ok (.iload_n 0, 1) := by decide +kernel
theorem dX10_isField_5 : decode cX10_isField 5 = .ok (.iconst 3, 1) := by decide +kernel
theorem dX10_isField_6 : decode cX10_isField 6 = .ok (.if_icmp .ge 7, 3) := by decide +kernel
theorem dX10_isField_9 : decode cX10_isField 9 = .ok (.iconst 1, 1) := by decide +kernel
theorem dX10_isField_10 : decode cX10_isField 10 = .ok (.goto 4, 3) := by decide +kernel
theorem dX10_isField_13 : decode cX10_isField 13 = .ok (.iconst 0, 1) := by decide +kernel
theorem dX10_isField_14 : decode cX10_isField 14 = .ok (.ireturn, 1) := by decide +kernel
theorem dX10_isDate_0 : decode cX10_isDate 0 = .ok (.iload_n 0, 1) := by decide +kernel
theorem dX10_isDate_1 : decode cX10_isDate 1 = .ok (.ifCond .lt 14, 3) := by decide +kernel
theorem dX10_isDate_4 : decode cX10_isDate 4 = .ok (.iload_n 0, 1) := by decide +kernel
theorem dX10_isDate_5 : decode cX10_isDate 5 = .ok (.sipush 10000, 3) := by decide +kernel
theorem dX10_isDate_8 : decode cX10_isDate 8 = .ok (.if_icmp .ge 7, 3) := by decide +kernel
theorem dX10_isDate_11 : decode cX10_isDate 11 = .ok (.iconst 1, 1) := by decide +kernel
theorem dX10_isDate_12 : decode cX10_isDate 12 = .ok (.goto 4, 3) := by decide +kernel
theorem dX10_isDate_15 : decode cX10_isDate 15 = .ok (.iconst 0, 1) := by decide +kernel
theorem dX10_isDate_16 : decode cX10_isDate 16 = .ok (.ireturn, 1) := by decide +kernel
theorem dX10_isKind_0 : decode cX10_isKind 0 = .ok (.iload_n 0, 1) := by decide +kernel
theorem dX10_isKind_1 : decode cX10_isKind 1 = .ok (.ifCond .lt 13, 3) := by decide +kernel
theorem dX10_isKind_4 : decode cX10_isKind 4 = .ok (.iload_n 0, 1) := by decide +kernel
theorem dX10_isKind_5 : decode cX10_isKind 5 = .ok (.bipush 8, 2) := by decide +kernel
theorem dX10_isKind_7 : decode cX10_isKind 7 = .ok (.if_icmp .ge 7, 3) := by decide +kernel
theorem dX10_isKind_10 : decode cX10_isKind 10 = .ok (.iconst 1, 1) := by decide +kernel
theorem dX10_isKind_11 : decode cX10_isKind 11 = .ok (.goto 4, 3) := by decide +kernel
theorem dX10_isKind_14 : decode cX10_isKind 14 = .ok (.iconst 0, 1) := by decide +kernel
theorem dX10_isKind_15 : decode cX10_isKind 15 = .ok (.ireturn, 1) := by decide +kernel
theorem dX10_isSetOf_0 : decode cX10_isSetOf 0 = .ok (.iload_n 1, 1) := by decide +kernel
theorem dX10_isSetOf_1 : decode cX10_isSetOf 1 = .ok (.iconst 1, 1) := by decide +kernel
theorem dX10_isSetOf_2 : decode cX10_isSetOf 2 = .ok (.if_icmp .lt 14, 3) := by decide +kernel
theorem dX10_isSetOf_5 : decode cX10_isSetOf 5 = .ok (.iload_n 1, 1) := by decide +kernel
theorem dX10_isSetOf_6 : decode cX10_isSetOf 6 = .ok (.iconst 1, 1) := by decide +kernel
theorem dX10_isSetOf_7 : decode cX10_isSetOf 7 = .ok (.iload_n 0, 1) := by decide +kernel
theorem dX10_isSetOf_8 : decode cX10_isSetOf 8 = .ok (.ishl, 1) := by decide +kernel
theorem dX10_isSetOf_9 : decode cX10_isSetOf 9 = .ok (.if_icmp .ge 7, 3) := by decide +kernel
theorem dX10_isSetOf_12 : decode cX10_isSetOf 12 = .ok (.iconst 1, 1) := by decide +kernel
theorem dX10_isSetOf_13 : decode cX10_isSetOf 13 = .ok (.goto 4, 3) := by decide +kernel
theorem dX10_isSetOf_16 : decode cX10_isSetOf 16 = .ok (.iconst 0, 1) := by decide +kernel
theorem dX10_isSetOf_17 : decode cX10_isSetOf 17 = .ok (.ireturn, 1) := by decide +kernel
theorem dJ9_max_7cf53_0 : decode cJ9_max_7cf53 0 = .ok (.iload_n 0, 1) := by decide +kernel
theorem dJ9_max_7cf53_1 : decode cJ9_max_7cf53 1 = .ok (.iload_n 1, 1) := by decide +kernel
theorem dJ9_max_7cf53_2 : decode cJ9_max_7cf53 2 = .ok (.if_icmp .lt 7, 3) := by decide +kernel
theorem dJ9_max_7cf53_5 : decode cJ9_max_7cf53 5 = .ok (.iload_n 0, 1) := by decide +kernel
theorem dJ9_max_7cf53_6 : decode cJ9_max_7cf53 6 = .ok (.goto 4, 3) := by decide +kernel
theorem dJ9_max_7cf53_9 : decode cJ9_max_7cf53 9 = .ok (.iload_n 1, 1) := by decide +kernel
theorem dJ9_max_7cf53_10 : decode cJ9_max_7cf53 10 = .ok (.ireturn, 1) := by decide +kernel
theorem dJ9_min_7cf53_0 : decode cJ9_min_7cf53 0 = .ok (.iload_n 0, 1) := by decide +kernel
theorem dJ9_min_7cf53_1 : decode cJ9_min_7cf53 1 = .ok (.iload_n 1, 1) := by decide +kernel
theorem dJ9_min_7cf53_2 : decode cJ9_min_7cf53 2 = .ok (.if_icmp .gt 7, 3) := by decide +kernel
theorem dJ9_min_7cf53_5 : decode cJ9_min_7cf53 5 = .ok (.iload_n 0, 1) := by decide +kernel
theorem dJ9_min_7cf53_6 : decode cJ9_min_7cf53 6 = .ok (.goto 4, 3) := by decide +kernel
theorem dJ9_min_7cf53_9 : decode cJ9_min_7cf53 9 = .ok (.iload_n 1, 1) := by decide +kernel
theorem dJ9_min_7cf53_10 : decode cJ9_min_7cf53 10 = .ok (.ireturn, 1) := by decide +kernel
theorem dJ7_fill_53178_0 : decode cJ7_fill_53178 0 = .ok (.iconst 0, 1) := by decide +kernel
theorem dJ7_fill_53178_1 : decode cJ7_fill_53178 1 = .ok (.istore_n 2, 1) := by decide +kernel
theorem dJ7_fill_53178_2 : decode cJ7_fill_53178 2 = .ok (.aload_n 0, 1) := by decide +kernel
theorem dJ7_fill_53178_3 : decode cJ7_fill_53178 3 = .ok (.arraylength, 1) := by decide +kernel
theorem dJ7_fill_53178_4 : decode cJ7_fill_53178 4 = .ok (.istore_n 3, 1) := by decide +kernel
theorem dJ7_fill_53178_5 : decode cJ7_fill_53178 5 = .ok (.iload_n 2, 1) := by decide +kernel
theorem dJ7_fill_53178_6 : decode cJ7_fill_53178 6 = .ok (.iload_n 3, 1) := by decide +kernel
theorem dJ7_fill_53178_7 : decode cJ7_fill_53178 7 = .ok (.if_icmp .ge 13, 3) := by decide +kernel
theorem dJ7_fill_53178_10 : decode cJ7_fill_53178 10 = .ok (.aload_n 0, 1) := by decide +kernel
theorem dJ7_fill_53178_11 : decode cJ7_fill_53178 11 = .ok (.iload_n 2, 1) := by decide +kernel
theorem dJ7_fill_53178_12 : decode cJ7_fill_53178 12 = .ok (.iload_n 1, 1) := by decide +kernel
theorem dJ7_fill_53178_13 : decode cJ7_fill_53178 13 = .ok (.iastore, 1) := by decide +kernel
theorem dJ7_fill_53178_14 : decode cJ7_fill_53178 14 = .ok (.iinc 2 1, 3) := by decide +kernel
theorem dJ7_fill_53178_17 : decode cJ7_fill_53178 17 = .ok (.goto (-12), 3) := by decide +kernel
theorem dJ7_fill_53178_20 : decode cJ7_fill_53178 20 = .ok (.return_, 1) := by decide +kernel
