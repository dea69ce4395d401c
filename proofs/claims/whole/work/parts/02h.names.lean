theorem dX7_documentAt_9 : decode cX7_documentAt 9 = .ok (.aload_n 0, 1) := by decide +kernel
theorem dX7_documentAt_10 : decode cX7_documentAt 10 = .ok (.getfield 11, 3) := by decide +kernel
theorem dX7_documentAt_13 : decode cX7_documentAt 13 = .ok (.arraylength, 1) := by decide +kernel
theorem dX7_documentAt_14 : decode cX7_documentAt 14 = .ok (.if_icmp .lt 7, 3) := by decide +kernel
theorem dX7_documentAt_17 : decode cX7_documentAt 17 = .ok (.aconst_null, 1) := by decide +kernel
theorem dX7_documentAt_18 : decode cX7_documentAt 18 = .ok (.goto 9, 3) := by decide +kernel
theorem dX7_documentAt_21 : decode cX7_documentAt 21 = .ok (.aload_n 0, 1) := by decide +kernel
theorem dX7_documentAt_22 : decode cX7_documentAt 22 = .ok (.getfield 11, 3) := by decide +kernel
theorem dX7_documentAt_25 : decode cX7_documentAt 25 = .ok (.iload_n 1, 1) := by decide +kernel
theorem dX7_documentAt_26 : decode cX7_documentAt 26 = .ok (.aaload, 1) := by decide +kernel
theorem dX7_documentAt_27 : decode cX7_documentAt 27 = .ok (.areturn, 1) := by decide +kernel
set_option maxRecDepth 20000 in
theorem ggX7_numberAt_X7_hasPlace : GoodIn wsX7_numberAt wsX7_hasPlace := goodIn_r _ [6, 7, 8, 9, 10, 11] (by decide +kernel) (by decide +kernel)
set_option maxRecDepth 20000 in
theorem gX7_numberAt_X7_hasPlace : GoodIn wsX7_numberAt (wsV RX7 43 RX7 yX7_hasPlace wsX7_hasPlace) := goodIn_app (goodIn_of _ (by decide +kernel)) ggX7_numberAt_X7_hasPlace
theorem dX7_numberAt_0 : decode cX7_numberAt 0 = .ok (.aload_n 0, 1) := by decide +kernel
theorem dX7_numberAt_1 : decode cX7_numberAt 1 = .ok (.iload_n 1, 1) := by decide +kernel
theorem dX7_numberAt_2 : decode cX7_numberAt 2 = .ok (.invokevirtual 43, 3) := by decide +kernel
theorem dX7_numberAt_5 : decode cX7_numberAt 5 = .ok (.ifCond .eq 12, 3) := by decide +kernel
theorem dX7_numberAt_8 : decode cX7_numberAt 8 = .ok (.iload_n 1, 1) := by decide +kernel
theorem dX7_numberAt_9 : decode cX7_numberAt 9 = .ok (.aload_n 0, 1) := by decide +kernel
theorem dX7_numberAt_10 : decode cX7_numberAt 10 = .ok (.getfield 17, 3) := by decide +kernel
theorem dX7_numberAt_13 : decode cX7_numberAt 13 = .ok (.arraylength, 1) := by decide +kernel
theorem dX7_numberAt_14 : decode cX7_numberAt 14 = .ok (.if_icmp .lt 7, 3) := by decide +kernel
theorem dX7_numberAt_17 : decode cX7_numberAt 17 = .ok (.iconst (-1), 1) := by decide +kernel
theorem dX7_numberAt_18 : decode cX7_numberAt 18 = .ok (.goto 9, 3) := by decide +kernel
theorem dX7_numberAt_21 : decode cX7_numberAt 21 = .ok (.aload_n 0, 1) := by decide +kernel
theorem dX7_numberAt_22 : decode cX7_numberAt 22 = .ok (.getfield 17, 3) := by decide +kernel
theorem dX7_numberAt_25 : decode cX7_numberAt 25 = .ok (.iload_n 1, 1) := by decide +kernel
theorem dX7_numberAt_26 : decode cX7_numberAt 26 = .ok (.iaload, 1) := by decide +kernel
theorem dX7_numberAt_27 : decode cX7_numberAt 27 = .ok (.ireturn, 1) := by decide +kernel
set_option maxRecDepth 20000 in
theorem ggX7_valueAt_X7_hasPlace : GoodIn wsX7_valueAt wsX7_hasPlace := goodIn_r _ [6, 7, 8, 9, 10, 11] (by decide +kernel) (by decide +kernel)
set_option maxRecDepth 20000 in
theorem gX7_valueAt_X7_hasPlace : GoodIn wsX7_valueAt (wsV RX7 43 RX7 yX7_hasPlace wsX7_hasPlace) := goodIn_app (goodIn_of _ (by decide +kernel)) ggX7_valueAt_X7_hasPlace
theorem dX7_valueAt_0 : decode cX7_valueAt 0 = .ok (.aload_n 0, 1) := by decide +kernel
theorem dX7_valueAt_1 : decode cX7_valueAt 1 = .ok (.iload_n 1, 1) := by decide +kernel
theorem dX7_valueAt_2 : decode cX7_valueAt 2 = .ok (.invokevirtual 43, 3) := by decide +kernel
theorem dX7_valueAt_5 : decode cX7_valueAt 5 = .ok (.ifCond .eq 12, 3) := by decide +kernel
theorem dX7_valueAt_8 : decode cX7_valueAt 8 = .ok (.iload_n 1, 1) := by decide +kernel
theorem dX7_valueAt_9 : decode cX7_valueAt 9 = .ok (.aload_n 0, 1) := by decide +kernel
theorem dX7_valueAt_10 : decode cX7_valueAt 10 = .ok (.getfield 21, 3) := by decide +kernel
theorem dX7_valueAt_13 : decode cX7_valueAt 13 = .ok (.arraylength, 1) := by decide +kernel
theorem dX7_valueAt_14 : decode cX7_valueAt 14 = .ok (.if_icmp .lt 7, 3) := by decide +kernel
theorem dX7_valueAt_17 : decode cX7_valueAt 17 = .ok (.iconst (-1), 1) := by decide +kernel
theorem dX7_valueAt_18 : decode cX7_valueAt 18 = .ok (.goto 9, 3) := by decide +kernel
theorem dX7_valueAt_21 : decode cX7_valueAt 21 = .ok (.aload_n 0, 1) := by decide +kernel
theorem dX7_valueAt_22 : decode cX7_valueAt 22 = .ok (.getfield 21, 3) := by decide +kernel
theorem dX7_valueAt_25 : decode cX7_valueAt 25 = .ok (.iload_n 1, 1) := by decide +kernel
theorem dX7_valueAt_26 : decode cX7_valueAt 26 = .ok (.iaload, 1) := by decide +kernel
theorem dX7_valueAt_27 : decode cX7_valueAt 27 = .ok (.ireturn, 1) := by decide +kernel
set_option maxRecDepth 20000 in
theorem ggX7_countKind_X7_documentAt : GoodIn wsX7_countKind wsX7_documentAt := goodIn_r _ [7, 8, 9, 10, 11, 6, 12, 1, 13, 14, 15, 16] (by decide +kernel) (by decide +kernel)
set_option maxRecDepth 20000 in
theorem gX7_countKind_X7_documentAt : GoodIn wsX7_countKind (wsV RX7 32 RX7 yX7_documentAt wsX7_documentAt) := goodIn_app (goodIn_of _ (by decide +kernel)) ggX7_countKind_X7_documentAt
theorem dX7_countKind_0 : decode cX7_countKind 0 = .ok (.iconst 0, 1) := by decide +kernel
theorem dX7_countKind_1 : decode cX7_countKind 1 = .ok (.istore_n 2, 1) := by decide +kernel
theorem dX7_countKind_2 : decode cX7_countKind 2 = .ok (.iconst 0, 1) := by decide +kernel
theorem dX7_countKind_3 : decode cX7_countKind 3 = .ok (.istore_n 3, 1) := by decide +kernel
theorem dX7_countKind_4 : decode cX7_countKind 4 = .ok (.iload_n 3, 1) := by decide +kernel
theorem dX7_countKind_5 : decode cX7_countKind 5 = .ok (.aload_n 0, 1) := by decide +kernel
theorem dX7_countKind_6 : decode cX7_countKind 6 = .ok (.getfield 24, 3) := by decide +kernel
theorem dX7_countKind_9 : decode cX7_countKind 9 = .ok (.if_icmp .ge 33, 3) := by decide +kernel
theorem dX7_countKind_12 : decode cX7_countKind 12 = .ok (.aload_n 0, 1) := by decide +kernel
theorem dX7_countKind_13 : decode cX7_countKind 13 = .ok (.iload_n 3, 1) := by decide +kernel
theorem dX7_countKind_14 : decode cX7_countKind 14 = .ok (.invokevirtual 32, 3) := by decide +kernel
theorem dX7_countKind_17 : decode cX7_countKind 17 = .ok (.astore 4, 2) := by decide +kernel
theorem dX7_countKind_19 : decode cX7_countKind 19 = .ok (.aload 4, 2) := by decide +kernel
theorem dX7_countKind_21 : decode cX7_countKind 21 = .ok (.ifnull 15, 3) := by decide +kernel
theorem dX7_countKind_24 : decode cX7_countKind 24 = .ok (.aload 4, 2) := by decide +kernel
theorem dX7_countKind_26 : decode cX7_countKind 26 = .ok (.getfield 47, 3) := by decide +kernel
theorem dX7_countKind_29 : decode cX7_countKind 29 = .ok (.iload_n 1, 1) := by decide +kernel
theorem dX7_countKind_30 : decode cX7_countKind 30 = .ok (.if_icmp .ne 6, 3) := by decide +kernel
theorem dX7_countKind_33 : decode cX7_countKind 33 = .ok (.iinc 2 1, 3) := by decide +kernel
theorem dX7_countKind_36 : decode cX7_countKind 36 = .ok (.iinc 3 1, 3) := by decide +kernel
theorem dX7_countKind_39 : decode cX7_countKind 39 = .ok (.goto (-35), 3) := by decide +kernel
theorem dX7_countKind_42 : decode cX7_countKind 42 = .ok (.iload_n 2, 1) := by decide +kernel
theorem dX7_countKind_43 : decode cX7_countKind 43 = .ok (.ireturn, 1) := by decide +kernel
set_option maxRecDepth 20000 in
theorem ggX7_countDates_X7_documentAt : GoodIn wsX7_countDates wsX7_documentAt := goodIn_r _ [7, 8, 9, 10, 11, 6, 12, 1, 13, 14, 15, 16] (by decide +kernel) (by decide +kernel)
set_option maxRecDepth 20000 in
theorem gX7_countDates_X7_documentAt : GoodIn wsX7_countDates (wsV RX7 32 RX7 yX7_documentAt wsX7_documentAt) := goodIn_app (goodIn_of _ (by decide +kernel)) ggX7_countDates_X7_documentAt
theorem dX7_countDates_0 : decode cX7_countDates 0 = .ok (.iconst 0, 1) := by decide +kernel
theorem dX7_countDates_1 : decode cX7_countDates 1 = .ok (.istore_n 3, 1) := by decide +kernel
theorem dX7_countDates_2 : decode cX7_countDates 2 = .ok (.iconst 0, 1) := by decide +kernel
theorem dX7_countDates_3 : decode cX7_countDates 3 = .ok (.istore 4, 2) := by decide +kernel
theorem dX7_countDates_5 : decode cX7_countDates 5 = .ok (.iload 4, 2) := by decide +kernel
theorem dX7_countDates_7 : decode cX7_countDates 7 = .ok (.aload_n 0, 1) := by decide +kernel
theorem dX7_countDates_8 : decode cX7_countDates 8 = .ok (.getfield 24, 3) := by decide +kernel
theorem dX7_countDates_11 : decode cX7_countDates 11 = .ok (.if_icmp .ge 43, 3) := by decide +kernel
theorem dX7_countDates_14 : decode cX7_countDates 14 = .ok (.aload_n 0, 1) := by decide +kernel
theorem dX7_countDates_15 : decode cX7_countDates 15 = .ok (.iload 4, 2) := by decide +kernel
theorem dX7_countDates_17 : decode cX7_countDates 17 = .ok (.invokevirtual 32, 3) := by decide +kernel
theorem dX7_countDates_20 : decode cX7_countDates 20 = .ok (.astore 5, 2) := by decide +kernel
theorem dX7_countDates_22 : decode cX7_countDates 22 = .ok (.aload 5, 2) := by decide +kernel
theorem dX7_countDates_24 : decode cX7_countDates 24 = .ok (.ifnull 24, 3) := by decide +kernel
theorem dX7_countDates_27 : decode cX7_countDates 27 = .ok (.aload 5, 2) := by decide +kernel
theorem dX7_countDates_29 : decode cX7_countDates 29 = .ok (.getfield 40, 3) := by decide +kernel
theorem dX7_countDates_32 : decode cX7_countDates 32 = .ok (.iload_n 1, 1) := by decide +kernel
theorem dX7_countDates_33 : decode cX7_countDates 33 = .ok (.if_icmp .lt 15, 3) := by decide +kernel
theorem dX7_countDates_36 : decode cX7_countDates 36 = .ok (.aload 5, 2) := by decide +kernel
theorem dX7_countDates_38 : decode cX7_countDates 38 = .ok (.getfield 40, 3) := by decide +kernel
theorem dX7_countDates_41 : decode cX7_countDates 41 = .ok (.iload_n 2, 1) := by decide +kernel
theorem dX7_countDates_42 : decode cX7_countDates 42 = .ok (.if_icmp .gt 6, 3) := by decide +kernel
theorem dX7_countDates_45 : decode cX7_countDates 45 = .ok (.iinc 3 1, 3) := by decide +kernel
theorem dX7_countDates_48 : decode cX7_countDates 48 = .ok (.iinc 4 1, 3) := by decide +kernel
theorem dX7_countDates_51 : decode cX7_countDates 51 = .ok (.goto (-46), 3) := by decide +kernel
theorem dX7_countDates_54 : decode cX7_countDates 54 = .ok (.iload_n 3, 1) := by decide +kernel
theorem dX7_countDates_55 : decode cX7_countDates 55 = .ok (.ireturn, 1) := by decide +kernel
theorem dX8_init_0 : decode cX8_init 0 = .ok (.aload_n 0, 1) := by decide +kernel
theorem dX8_init_1 : decode cX8_init 1 = .ok (.invokespecial 3, 3) := by decide +kernel
theorem dX8_init_4 : decode cX8_init 4 = .ok (.aload_n 0, 1) := by decide +kernel
theorem dX8_init_5 : decode cX8_init 5 = .ok (.bipush 30, 2) := by decide +kernel
theorem dX8_init_7 : decode cX8_init 7 = .ok (.newarray .int, 2) := by decide +kernel
theorem dX8_init_9 : decode cX8_init 9 = .ok (.putfield 9, 3) := by decide +kernel
theorem dX8_init_12 : decode cX8_init 12 = .ok (.aload_n 0, 1) := by decide +kernel
theorem dX8_init_13 : decode cX8_init 13 = .ok (.aload_n 1, 1) := by decide +kernel
theorem dX8_init_14 : decode cX8_init 14 = .ok (.putfield 15, 3) := by decide +kernel
theorem dX8_init_17 : decode cX8_init 17 = .ok (.aload_n 0, 1) := by decide +kernel
theorem dX8_init_18 : decode cX8_init 18 = .ok (.aload_n 2, 1) := by decide +kernel
theorem dX8_init_19 : decode cX8_init 19 = .ok (.putfield 19, 3) := by decide +kernel
theorem dX8_init_22 : decode cX8_init 22 = .ok (.aload_n 0, 1) := by decide +kernel
theorem dX8_init_23 : decode cX8_init 23 = .ok (.aload_n 3, 1) := by decide +kernel
theorem dX8_init_24 : decode cX8_init 24 = .ok (.putfield 23, 3) := by decide +kernel
theorem dX8_init_27 : decode cX8_init 27 = .ok (.aload_n 0, 1) := by decide +kernel
theorem dX8_init_28 : decode cX8_init 28 = .ok (.iload 4, 2) := by decide +kernel
theorem dX8_init_30 : decode cX8_init 30 = .ok (.putfield 27, 3) := by decide +kernel
theorem dX8_init_33 : decode cX8_init 33 = .ok (.return_, 1) := by decide +kernel
set_option maxRecDepth 20000 in
theorem ggX8_scoreOf_X6_nodeAt : GoodIn wsX8_scoreOf wsX6_nodeAt := goodIn_r _ [12, 13, 14, 156, 157, 158, 159, 160] (by decide +kernel) (by decide +kernel)
set_option maxRecDepth 20000 in
theorem gX8_scoreOf_X6_nodeAt : GoodIn wsX8_scoreOf (wsV RX8 31 RX6 yX6_nodeAt wsX6_nodeAt) := goodIn_app (goodIn_of _ (by decide +kernel)) ggX8_scoreOf_X6_nodeAt
set_option maxRecDepth 20000 in
theorem ggX8_scoreOf_X8_valueOf : GoodIn wsX8_scoreOf wsX8_valueOf := goodIn_r _ [19, 20, 21, 22, 23, 24, 25, 26, 27, 28, 29, 30, 31, 32, 18, 33, 34, 35, 36, 37, 38, 39, 40, 41, 42, 43, 44, 45, 46, 47, 48, 49, 50, 51, 52, 53, 54, 55, 56, 57, 58, 59, 60, 61, 62, 63, 64, 65, 66, 67, 68, 69, 70, 71, 72, 73, 74, 75, 76, 77, 78, 79, 80, 81, 82, 83, 84, 85, 86, 87, 88, 89, 90, 91, 92, 93, 94, 95, 96, 97, 98, 99, 100, 101, 102, 103, 104, 105, 106, 107, 108, 109, 110, 111, 112, 113, 114, 115, 116, 117, 118, 119, 120, 121, 122, 123, 1, 124, 125, 126, 127, 2, 8, 9, 10, 11, 12, 13, 14, 128, 129, 130, 131, 132, 133, 134, 135, 136, 137, 138, 139, 140, 141, 142, 143, 144, 145, 146, 147, 148, 149, 150, 161, 162, 163, 164, 165, 166, 167, 168, 169, 170, 171, 172, 173, 174, 175, 176, 177, 178, 151, 152, 153, 154, 155, 179, 180, 181, 182, 183, 184, 185, 186, 187, 188, 189, 156, 157, 158, 159, 160] (by decide +kernel) (by decide +kernel)
set_option maxRecDepth 20000 in
theorem gX8_scoreOf_X8_valueOf : GoodIn wsX8_scoreOf (wsV RX8 37 RX8 yX8_valueOf wsX8_valueOf) := goodIn_app (goodIn_of _ (by decide +kernel)) ggX8_scoreOf_X8_valueOf
set_option maxRecDepth 20000 in
theorem ggX8_scoreOf_X8_valueAt : GoodIn wsX8_scoreOf wsX8_valueAt := goodIn_r _ [123, 1, 151, 152, 153, 154, 155] (by decide +kernel) (by decide +kernel)
set_option maxRecDepth 20000 in
theorem gX8_scoreOf_X8_valueAt : GoodIn wsX8_scoreOf (wsV RX8 48 RX8 yX8_valueAt wsX8_valueAt) := goodIn_app (goodIn_of _ (by decide +kernel)) ggX8_scoreOf_X8_valueAt
theorem dX8_scoreOf_0 : decode cX8_scoreOf 0 = .ok (.iconst 0, 1) := by decide +kernel
theorem dX8_scoreOf_1 : decode cX8_scoreOf 1 = .ok (.istore_n 3, 1) := by decide +kernel
theorem dX8_scoreOf_2 : decode cX8_scoreOf 2 = .ok (.iload_n 3, 1) := by decide +kernel
theorem dX8_scoreOf_3 : decode cX8_scoreOf 3 = .ok (.iload_n 2, 1) := by decide +kernel
theorem dX8_scoreOf_4 : decode cX8_scoreOf 4 = .ok (.if_icmp .gt 42, 3) := by decide +kernel
theorem dX8_scoreOf_7 : decode cX8_scoreOf 7 = .ok (.iload_n 3, 1) := by decide +kernel
theorem dX8_scoreOf_8 : decode cX8_scoreOf 8 = .ok (.aload_n 0, 1) := by decide +kernel
theorem dX8_scoreOf_9 : decode cX8_scoreOf 9 = .ok (.getfield 9, 3) := by decide +kernel
theorem dX8_scoreOf_12 : decode cX8_scoreOf 12 = .ok (.arraylength, 1) := by decide +kernel
theorem dX8_scoreOf_13 : decode cX8_scoreOf 13 = .ok (.if_icmp .ge 33, 3) := by decide +kernel
theorem dX8_scoreOf_16 : decode cX8_scoreOf 16 = .ok (.aload_n 0, 1) := by decide +kernel
theorem dX8_scoreOf_17 : decode cX8_scoreOf 17 = .ok (.getfield 9, 3) := by decide +kernel
theorem dX8_scoreOf_20 : decode cX8_scoreOf 20 = .ok (.iload_n 3, 1) := by decide +kernel
theorem dX8_scoreOf_21 : decode cX8_scoreOf 21 = .ok (.aload_n 0, 1) := by decide +kernel
theorem dX8_scoreOf_22 : decode cX8_scoreOf 22 = .ok (.aload_n 0, 1) := by decide +kernel
theorem dX8_scoreOf_23 : decode cX8_scoreOf 23 = .ok (.getfield 15, 3) := by decide +kernel
theorem dX8_scoreOf_26 : decode cX8_scoreOf 26 = .ok (.iload_n 3, 1) := by decide +kernel
theorem dX8_scoreOf_27 : decode cX8_scoreOf 27 = .ok (.invokevirtual 31, 3) := by decide +kernel
theorem dX8_scoreOf_30 : decode cX8_scoreOf 30 = .ok (.aload_n 1, 1) := by decide +kernel
theorem dX8_scoreOf_31 : decode cX8_scoreOf 31 = .ok (.invokevirtual 37, 3) := by decide +kernel
theorem dX8_scoreOf_34 : decode cX8_scoreOf 34 = .ok (.ldc 41, 2) := by decide +kernel
theorem dX8_scoreOf_36 : decode cX8_scoreOf 36 = .ok (.invokestatic 42, 3) := by decide +kernel
theorem dX8_scoreOf_39 : decode cX8_scoreOf 39 = .ok (.iastore, 1) := by decide +kernel
theorem dX8_scoreOf_40 : decode cX8_scoreOf 40 = .ok (.iinc 3 1, 3) := by decide +kernel
theorem dX8_scoreOf_43 : decode cX8_scoreOf 43 = .ok (.goto (-41), 3) := by decide +kernel
theorem dX8_scoreOf_46 : decode cX8_scoreOf 46 = .ok (.aload_n 0, 1) := by decide +kernel
theorem dX8_scoreOf_47 : decode cX8_scoreOf 47 = .ok (.iload_n 2, 1) := by decide +kernel
theorem dX8_scoreOf_48 : decode cX8_scoreOf 48 = .ok (.invokevirtual 48, 3) := by decide +kernel
theorem dX8_scoreOf_51 : decode cX8_scoreOf 51 = .ok (.ireturn, 1) := by decide +kernel
theorem dX8_valueAt_0 : decode cX8_valueAt 0 = .ok (.iload_n 1, 1) := by decide +kernel
theorem dX8_valueAt_1 : decode cX8_valueAt 1 = .ok (.ifCond .lt 12, 3) := by decide +kernel
theorem dX8_valueAt_4 : decode cX8_valueAt 4 = .ok (.iload_n 1, 1) := by decide +kernel
theorem dX8_valueAt_5 : decode cX8_valueAt 5 = .ok (.aload_n 0, 1) := by decide +kernel
theorem dX8_valueAt_6 : decode cX8_valueAt 6 = .ok (.getfield 9, 3) := by decide +kernel
theorem dX8_valueAt_9 : decode cX8_valueAt 9 = .ok (.arraylength, 1) := by decide +kernel
theorem dX8_valueAt_10 : decode cX8_valueAt 10 = .ok (.if_icmp .lt 7, 3) := by decide +kernel
theorem dX8_valueAt_13 : decode cX8_valueAt 13 = .ok (.iconst (-1), 1) := by decide +kernel
theorem dX8_valueAt_14 : decode cX8_valueAt 14 = .ok (.goto 9, 3) := by decide +kernel
theorem dX8_valueAt_17 : decode cX8_valueAt 17 = .ok (.aload_n 0, 1) := by decide +kernel
theorem dX8_valueAt_18 : decode cX8_valueAt 18 = .ok (.getfield 9, 3) := by decide +kernel
theorem dX8_valueAt_21 : decode cX8_valueAt 21 = .ok (.iload_n 1, 1) := by decide +kernel
theorem dX8_valueAt_22 : decode cX8_valueAt 22 = .ok (.iaload, 1) := by decide +kernel
theorem dX8_valueAt_23 : decode cX8_valueAt 23 = .ok (.ireturn, 1) := by decide +kernel
set_option maxRecDepth 20000 in
theorem ggX8_valueOf_X8_termValue : GoodIn wsX8_valueOf wsX8_termValue := goodIn_r _ [15, 16, 17, 18, 19, 20, 21, 22, 23, 24, 25, 26, 27, 28, 29, 30, 31, 32, 33, 34, 35, 36, 37, 38, 39, 40, 41, 42, 43, 44, 45, 46, 47, 48, 49, 50, 51, 52, 53, 54, 55, 56, 57, 58, 59, 60, 61, 14, 62, 63, 64, 65, 66, 67, 68, 69, 70, 71, 72, 73, 74, 75, 76, 77, 78, 79, 80, 81, 82, 83, 84, 85, 160, 161, 162, 163, 164, 142, 143, 144, 145, 146, 147, 148, 149, 150, 151, 152, 153, 154, 165, 166, 167, 168, 169, 170, 171, 172, 155, 156, 157, 158, 159, 173, 174, 175] (by decide +kernel) (by decide +kernel)
set_option maxRecDepth 20000 in
theorem gX8_valueOf_X8_termValue : GoodIn wsX8_valueOf (wsV RX8 58 RX8 yX8_termValue wsX8_termValue) := goodIn_app (goodIn_of _ (by decide +kernel)) ggX8_valueOf_X8_termValue
set_option maxRecDepth 20000 in
theorem ggX8_valueOf_X8_sumOfAtLeast : GoodIn wsX8_valueOf wsX8_sumOfAtLeast := goodIn_r _ [89, 90, 91, 92, 44, 93, 94, 95, 96, 97, 98, 99, 100, 101, 102, 103, 104, 14, 105, 106, 142, 143, 144, 145, 146, 147, 148, 149, 150, 151, 152, 153, 154, 160, 161, 162, 163, 164] (by decide +kernel) (by decide +kernel)
set_option maxRecDepth 20000 in
theorem gX8_valueOf_X8_sumOfAtLeast : GoodIn wsX8_valueOf (wsV RX8 61 RX8 yX8_sumOfAtLeast wsX8_sumOfAtLeast) := goodIn_app (goodIn_of _ (by decide +kernel)) ggX8_valueOf_X8_sumOfAtLeast
set_option maxRecDepth 20000 in
theorem ggX8_valueOf_X8_valueAt : GoodIn wsX8_valueOf wsX8_valueAt := goodIn_r _ [105, 106, 160, 161, 162, 163, 164] (by decide +kernel) (by decide +kernel)
set_option maxRecDepth 20000 in
theorem gX8_valueOf_X8_valueAt : GoodIn wsX8_valueOf (wsV RX8 48 RX8 yX8_valueAt wsX8_valueAt) := goodIn_app (goodIn_of _ (by decide +kernel)) ggX8_valueOf_X8_valueAt
set_option maxRecDepth 20000 in
theorem ggX8_valueOf_X8_nearValue : GoodIn wsX8_valueOf wsX8_nearValue := goodIn_r _ [110, 111, 4, 3, 17, 112, 113, 114, 115, 116, 117, 118, 86, 87, 88, 14, 89, 90, 91, 92, 44, 93, 94, 95, 96, 97, 98, 99, 100, 101, 102, 103, 104, 105, 106, 35, 36, 37, 38, 39, 40, 41, 42, 43, 45, 46, 119, 120, 121, 122, 19, 16, 18, 123, 124, 125, 50, 126, 127, 128, 129, 130, 131, 23, 132, 34, 29, 133, 134, 135, 136, 137, 138, 160, 161, 162, 163, 164, 142, 143, 144, 145, 146, 147, 148, 149, 150, 151, 152, 153, 154, 176, 177, 178, 179, 180, 155, 156, 157, 158, 159, 165, 166, 167, 168, 169, 170, 171, 172] (by decide +kernel) (by decide +kernel)
set_option maxRecDepth 20000 in
theorem gX8_valueOf_X8_nearValue : GoodIn wsX8_valueOf (wsV RX8 74 RX8 yX8_nearValue wsX8_nearValue) := goodIn_app (goodIn_of _ (by decide +kernel)) ggX8_valueOf_X8_nearValue
set_option maxRecDepth 20000 in
theorem ggX8_valueOf_X8_scaledValue : GoodIn wsX8_valueOf wsX8_scaledValue := goodIn_r _ [141] (by decide +kernel) (by decide +kernel)
set_option maxRecDepth 20000 in
theorem gX8_valueOf_X8_scaledValue : GoodIn wsX8_valueOf (va_wsS RX8 97 yX8_scaledValue wsX8_scaledValue) := goodIn_app (goodIn_of _ (by decide +kernel)) ggX8_valueOf_X8_scaledValue
theorem dX8_valueOf_0 : decode cX8_valueOf 0 = .ok (.aload_n 1, 1) := by decide +kernel
theorem dX8_valueOf_1 : decode cX8_valueOf 1 = .ok (.ifnonnull 5, 3) := by decide +kernel
theorem dX8_valueOf_4 : decode cX8_valueOf 4 = .ok (.iconst (-1), 1) := by decide +kernel
theorem dX8_valueOf_5 : decode cX8_valueOf 5 = .ok (.ireturn, 1) := by decide +kernel
theorem dX8_valueOf_6 : decode cX8_valueOf 6 = .ok (.aload_n 1, 1) := by decide +kernel
theorem dX8_valueOf_7 : decode cX8_valueOf 7 = .ok (.getfield 52, 3) := by decide +kernel
theorem dX8_valueOf_10 : decode cX8_valueOf 10 = .ok (.tableswitch 178 0 8 #[50, 57, 64, 81, 106, 113, 141, 162, 71], 50) := by decide +kernel
theorem dX8_valueOf_60 : decode cX8_valueOf 60 = .ok (.aload_n 0, 1) := by decide +kernel
theorem dX8_valueOf_61 : decode cX8_valueOf 61 = .ok (.aload_n 1, 1) := by decide +kernel
theorem dX8_valueOf_62 : decode cX8_valueOf 62 = .ok (.aload_n 2, 1) := by decide +kernel
theorem dX8_valueOf_63 : decode cX8_valueOf 63 = .ok (.invokevirtual 58, 3) := by decide +kernel
theorem dX8_valueOf_66 : decode cX8_valueOf 66 = .ok (.ireturn, 1) := by decide +kernel
theorem dX8_valueOf_67 : decode cX8_valueOf 67 = .ok (.aload_n 0, 1) := by decide +kernel
theorem dX8_valueOf_68 : decode cX8_valueOf 68 = .ok (.aload_n 1, 1) := by decide +kernel
theorem dX8_valueOf_69 : decode cX8_valueOf 69 = .ok (.iconst 2, 1) := by decide +kernel
theorem dX8_valueOf_70 : decode cX8_valueOf 70 = .ok (.invokevirtual 61, 3) := by decide +kernel
theorem dX8_valueOf_73 : decode cX8_valueOf 73 = .ok (.ireturn, 1) := by decide +kernel
theorem dX8_valueOf_74 : decode cX8_valueOf 74 = .ok (.aload_n 0, 1) := by decide +kernel
theorem dX8_valueOf_75 : decode cX8_valueOf 75 = .ok (.aload_n 1, 1) := by decide +kernel
theorem dX8_valueOf_76 : decode cX8_valueOf 76 = .ok (.iconst 1, 1) := by decide +kernel
theorem dX8_valueOf_77 : decode cX8_valueOf 77 = .ok (.invokevirtual 61, 3) := by decide +kernel
theorem dX8_valueOf_80 : decode cX8_valueOf 80 = .ok (.ireturn, 1) := by decide +kernel
theorem dX8_valueOf_81 : decode cX8_valueOf 81 = .ok (.aload_n 0, 1) := by decide +kernel
theorem dX8_valueOf_82 : decode cX8_valueOf 82 = .ok (.aload_n 1, 1) := by decide +kernel
theorem dX8_valueOf_83 : decode cX8_valueOf 83 = .ok (.aload_n 1, 1) := by decide +kernel
theorem dX8_valueOf_84 : decode cX8_valueOf 84 = .ok (.getfield 65, 3) := by decide +kernel
theorem dX8_valueOf_87 : decode cX8_valueOf 87 = .ok (.invokevirtual 61, 3) := by decide +kernel
theorem dX8_valueOf_90 : decode cX8_valueOf 90 = .ok (.ireturn, 1) := by decide +kernel
theorem dX8_valueOf_91 : decode cX8_valueOf 91 = .ok (.aload_n 0, 1) := by decide +kernel
theorem dX8_valueOf_92 : decode cX8_valueOf 92 = .ok (.aload_n 1, 1) := by decide +kernel
theorem dX8_valueOf_93 : decode cX8_valueOf 93 = .ok (.getfield 68, 3) := by decide +kernel
theorem dX8_valueOf_96 : decode cX8_valueOf 96 = .ok (.invokevirtual 48, 3) := by decide +kernel
theorem dX8_valueOf_99 : decode cX8_valueOf 99 = .ok (.iconst (-1), 1) := by decide +kernel
theorem dX8_valueOf_100 : decode cX8_valueOf 100 = .ok (.if_icmp .ne 14, 3) := by decide +kernel
theorem dX8_valueOf_103 : decode cX8_valueOf 103 = .ok (.aload_n 0, 1) := by decide +kernel
theorem dX8_valueOf_104 : decode cX8_valueOf 104 = .ok (.aload_n 1, 1) := by decide +kernel
theorem dX8_valueOf_105 : decode cX8_valueOf 105 = .ok (.getfield 71, 3) := by decide +kernel
theorem dX8_valueOf_108 : decode cX8_valueOf 108 = .ok (.invokevirtual 48, 3) := by decide +kernel
theorem dX8_valueOf_111 : decode cX8_valueOf 111 = .ok (.goto 4, 3) := by decide +kernel
theorem dX8_valueOf_114 : decode cX8_valueOf 114 = .ok (.iconst (-1), 1) := by decide +kernel
theorem dX8_valueOf_115 : decode cX8_valueOf 115 = .ok (.ireturn, 1) := by decide +kernel
theorem dX8_valueOf_116 : decode cX8_valueOf 116 = .ok (.aload_n 0, 1) := by decide +kernel
theorem dX8_valueOf_117 : decode cX8_valueOf 117 = .ok (.aload_n 1, 1) := by decide +kernel
theorem dX8_valueOf_118 : decode cX8_valueOf 118 = .ok (.aload_n 2, 1) := by decide +kernel
theorem dX8_valueOf_119 : decode cX8_valueOf 119 = .ok (.invokevirtual 74, 3) := by decide +kernel
theorem dX8_valueOf_122 : decode cX8_valueOf 122 = .ok (.ireturn, 1) := by decide +kernel
theorem dX8_valueOf_123 : decode cX8_valueOf 123 = .ok (.aload_n 2, 1) := by decide +kernel
theorem dX8_valueOf_124 : decode cX8_valueOf 124 = .ok (.getfield 77, 3) := by decide +kernel
theorem dX8_valueOf_127 : decode cX8_valueOf 127 = .ok (.aload_n 1, 1) := by decide +kernel
theorem dX8_valueOf_128 : decode cX8_valueOf 128 = .ok (.getfield 82, 3) := by decide +kernel
theorem dX8_valueOf_131 : decode cX8_valueOf 131 = .ok (.if_icmp .lt 18, 3) := by decide +kernel
theorem dX8_valueOf_134 : decode cX8_valueOf 134 = .ok (.aload_n 2, 1) := by decide +kernel
theorem dX8_valueOf_135 : decode cX8_valueOf 135 = .ok (.getfield 77, 3) := by decide +kernel
theorem dX8_valueOf_138 : decode cX8_valueOf 138 = .ok (.aload_n 1, 1) := by decide +kernel
theorem dX8_valueOf_139 : decode cX8_valueOf 139 = .ok (.getfield 85, 3) := by decide +kernel
theorem dX8_valueOf_142 : decode cX8_valueOf 142 = .ok (.if_icmp .gt 7, 3) := by decide +kernel
theorem dX8_valueOf_145 : decode cX8_valueOf 145 = .ok (.iconst 0, 1) := by decide +kernel
theorem dX8_valueOf_146 : decode cX8_valueOf 146 = .ok (.goto 4, 3) := by decide +kernel
theorem dX8_valueOf_149 : decode cX8_valueOf 149 = .ok (.iconst (-1), 1) := by decide +kernel
theorem dX8_valueOf_150 : decode cX8_valueOf 150 = .ok (.ireturn, 1) := by decide +kernel
theorem dX8_valueOf_151 : decode cX8_valueOf 151 = .ok (.aload_n 1, 1) := by decide +kernel
theorem dX8_valueOf_152 : decode cX8_valueOf 152 = .ok (.getfield 88, 3) := by decide +kernel
theorem dX8_valueOf_155 : decode cX8_valueOf 155 = .ok (.aload_n 2, 1) := by decide +kernel
theorem dX8_valueOf_156 : decode cX8_valueOf 156 = .ok (.getfield 91, 3) := by decide +kernel
theorem dX8_valueOf_159 : decode cX8_valueOf 159 = .ok (.ishr, 1) := by decide +kernel
theorem dX8_valueOf_160 : decode cX8_valueOf 160 = .ok (.iconst 1, 1) := by decide +kernel
theorem dX8_valueOf_161 : decode cX8_valueOf 161 = .ok (.iand, 1) := by decide +kernel
theorem dX8_valueOf_162 : decode cX8_valueOf 162 = .ok (.iconst 1, 1) := by decide +kernel
theorem dX8_valueOf_163 : decode cX8_valueOf 163 = .ok (.if_icmp .ne 7, 3) := by decide +kernel
theorem dX8_valueOf_166 : decode cX8_valueOf 166 = .ok (.iconst 0, 1) := by decide +kernel
theorem dX8_valueOf_167 : decode cX8_valueOf 167 = .ok (.goto 4, 3) := by decide +kernel
theorem dX8_valueOf_170 : decode cX8_valueOf 170 = .ok (.iconst (-1), 1) := by decide +kernel
theorem dX8_valueOf_171 : decode cX8_valueOf 171 = .ok (.ireturn, 1) := by decide +kernel
theorem dX8_valueOf_172 : decode cX8_valueOf 172 = .ok (.aload_n 0, 1) := by decide +kernel
theorem dX8_valueOf_173 : decode cX8_valueOf 173 = .ok (.aload_n 1, 1) := by decide +kernel
theorem dX8_valueOf_174 : decode cX8_valueOf 174 = .ok (.getfield 71, 3) := by decide +kernel
theorem dX8_valueOf_177 : decode cX8_valueOf 177 = .ok (.invokevirtual 48, 3) := by decide +kernel
theorem dX8_valueOf_180 : decode cX8_valueOf 180 = .ok (.aload_n 1, 1) := by decide +kernel
theorem dX8_valueOf_181 : decode cX8_valueOf 181 = .ok (.getfield 94, 3) := by decide +kernel
theorem dX8_valueOf_184 : decode cX8_valueOf 184 = .ok (.invokestatic 97, 3) := by decide +kernel
theorem dX8_valueOf_187 : decode cX8_valueOf 187 = .ok (.ireturn, 1) := by decide +kernel
theorem dX8_valueOf_188 : decode cX8_valueOf 188 = .ok (.iconst (-1), 1) := by decide +kernel
theorem dX8_valueOf_189 : decode cX8_valueOf 189 = .ok (.ireturn, 1) := by decide +kernel
set_option maxRecDepth 20000 in
theorem ggX8_termValue_X4_unmuted : GoodIn wsX8_termValue wsX4_unmuted := goodIn_r _ [9, 10, 11, 12, 8, 13, 14, 95, 96, 97] (by decide +kernel) (by decide +kernel)
set_option maxRecDepth 20000 in
theorem gX8_termValue_X4_unmuted : GoodIn wsX8_termValue (wsV RX8 103 RX4 yX4_unmuted wsX4_unmuted) := goodIn_app (goodIn_of _ (by decide +kernel)) ggX8_termValue_X4_unmuted
set_option maxRecDepth 20000 in
theorem ggX8_termValue_X4_aliasOf : GoodIn wsX8_termValue wsX4_aliasOf := goodIn_r _ [18, 19, 95, 96, 97] (by decide +kernel) (by decide +kernel)
set_option maxRecDepth 20000 in
theorem gX8_termValue_X4_aliasOf : GoodIn wsX8_termValue (wsV RX8 108 RX4 yX4_aliasOf wsX4_aliasOf) := goodIn_app (goodIn_of _ (by decide +kernel)) ggX8_termValue_X4_aliasOf
set_option maxRecDepth 20000 in
theorem ggX8_termValue_X2_rowOf : GoodIn wsX8_termValue wsX2_rowOf := goodIn_r _ [24, 25, 98, 99, 100, 101, 102] (by decide +kernel) (by decide +kernel)
set_option maxRecDepth 20000 in
theorem gX8_termValue_X2_rowOf : GoodIn wsX8_termValue (wsV RX8 111 RX2 yX2_rowOf wsX2_rowOf) := goodIn_app (goodIn_of _ (by decide +kernel)) ggX8_termValue_X2_rowOf
set_option maxRecDepth 20000 in
theorem ggX8_termValue_X5_isFor : GoodIn wsX8_termValue wsX5_isFor := goodIn_r _ [30, 31, 77, 78, 79, 80, 81, 82, 83, 84, 85, 86, 87, 88, 89] (by decide +kernel) (by decide +kernel)
set_option maxRecDepth 20000 in
theorem gX8_termValue_X5_isFor : GoodIn wsX8_termValue (wsV RX8 115 RX5 yX5_isFor wsX5_isFor) := goodIn_app (goodIn_of _ (by decide +kernel)) ggX8_termValue_X5_isFor
set_option maxRecDepth 20000 in
theorem ggX8_termValue_X9_countOf : GoodIn wsX8_termValue wsX9_countOf := goodIn_r _ [36, 37, 38, 39, 40, 35, 41, 42, 43, 90, 91, 92, 93, 94] (by decide +kernel) (by decide +kernel)
set_option maxRecDepth 20000 in
theorem gX8_termValue_X9_countOf : GoodIn wsX8_termValue (wsV RX8 119 RX9 yX9_countOf wsX9_countOf) := goodIn_app (goodIn_of _ (by decide +kernel)) ggX8_termValue_X9_countOf
set_option maxRecDepth 20000 in
theorem ggX8_termValue_X8_taste : GoodIn wsX8_termValue wsX8_taste := goodIn_r _ [48, 49, 50, 1, 51, 52, 53, 54, 55, 56, 57, 58, 59, 60, 61, 62, 63, 64, 65, 66, 67, 68, 69, 8, 70, 71, 72, 73, 74, 75, 76, 103, 104, 105, 95, 96, 97] (by decide +kernel) (by decide +kernel)
set_option maxRecDepth 20000 in
theorem gX8_termValue_X8_taste : GoodIn wsX8_termValue (wsV RX8 127 RX8 yX8_taste wsX8_taste) := goodIn_app (goodIn_of _ (by decide +kernel)) ggX8_termValue_X8_taste
theorem dX8_termValue_0 : decode cX8_termValue 0 = .ok (.aload_n 0, 1) := by decide +kernel
theorem dX8_termValue_1 : decode cX8_termValue 1 = .ok (.getfield 19, 3) := by decide +kernel
theorem dX8_termValue_4 : decode cX8_termValue 4 = .ok (.aload_n 1, 1) := by decide +kernel
theorem dX8_termValue_5 : decode cX8_termValue 5 = .ok (.getfield 100, 3) := by decide +kernel
theorem dX8_termValue_8 : decode cX8_termValue 8 = .ok (.invokevirtual 103, 3) := by decide +kernel
theorem dX8_termValue_11 : decode cX8_termValue 11 = .ok (.istore_n 3, 1) := by decide +kernel
theorem dX8_termValue_12 : decode cX8_termValue 12 = .ok (.aload_n 0, 1) := by decide +kernel
theorem dX8_termValue_13 : decode cX8_termValue 13 = .ok (.getfield 27, 3) := by decide +kernel
theorem dX8_termValue_16 : decode cX8_termValue 16 = .ok (.ifCond .eq 24, 3) := by decide +kernel
theorem dX8_termValue_19 : decode cX8_termValue 19 = .ok (.aload_n 0, 1) := by decide +kernel
theorem dX8_termValue_20 : decode cX8_termValue 20 = .ok (.getfield 19, 3) := by decide +kernel
theorem dX8_termValue_23 : decode cX8_termValue 23 = .ok (.aload_n 0, 1) := by decide +kernel
theorem dX8_termValue_24 : decode cX8_termValue 24 = .ok (.getfield 19, 3) := by decide +kernel
theorem dX8_termValue_27 : decode cX8_termValue 27 = .ok (.aload_n 1, 1) := by decide +kernel
theorem dX8_termValue_28 : decode cX8_termValue 28 = .ok (.getfield 100, 3) := by decide +kernel
theorem dX8_termValue_31 : decode cX8_termValue 31 = .ok (.invokevirtual 108, 3) := by decide +kernel
theorem dX8_termValue_34 : decode cX8_termValue 34 = .ok (.invokevirtual 103, 3) := by decide +kernel
theorem dX8_termValue_37 : decode cX8_termValue 37 = .ok (.goto 4, 3) := by decide +kernel
theorem dX8_termValue_40 : decode cX8_termValue 40 = .ok (.iconst (-1), 1) := by decide +kernel
theorem dX8_termValue_41 : decode cX8_termValue 41 = .ok (.istore 4, 2) := by decide +kernel
theorem dX8_termValue_43 : decode cX8_termValue 43 = .ok (.iconst 0, 1) := by decide +kernel
theorem dX8_termValue_44 : decode cX8_termValue 44 = .ok (.istore 5, 2) := by decide +kernel
theorem dX8_termValue_46 : decode cX8_termValue 46 = .ok (.iconst 0, 1) := by decide +kernel
theorem dX8_termValue_47 : decode cX8_termValue 47 = .ok (.istore 6, 2) := by decide +kernel
theorem dX8_termValue_49 : decode cX8_termValue 49 = .ok (.iconst 0, 1) := by decide +kernel
theorem dX8_termValue_50 : decode cX8_termValue 50 = .ok (.istore 7, 2) := by decide +kernel
theorem dX8_termValue_52 : decode cX8_termValue 52 = .ok (.iload 7, 2) := by decide +kernel
theorem dX8_termValue_54 : decode cX8_termValue 54 = .ok (.iconst 3, 1) := by decide +kernel
theorem dX8_termValue_55 : decode cX8_termValue 55 = .ok (.if_icmp .ge 108, 3) := by decide +kernel
theorem dX8_termValue_58 : decode cX8_termValue 58 = .ok (.aload_n 2, 1) := by decide +kernel
theorem dX8_termValue_59 : decode cX8_termValue 59 = .ok (.iload 7, 2) := by decide +kernel
theorem dX8_termValue_61 : decode cX8_termValue 61 = .ok (.invokevirtual 111, 3) := by decide +kernel
theorem dX8_termValue_64 : decode cX8_termValue 64 = .ok (.astore 8, 2) := by decide +kernel
theorem dX8_termValue_66 : decode cX8_termValue 66 = .ok (.aload 8, 2) := by decide +kernel
theorem dX8_termValue_68 : decode cX8_termValue 68 = .ok (.ifnull 89, 3) := by decide +kernel
theorem dX8_termValue_71 : decode cX8_termValue 71 = .ok (.aload_n 1, 1) := by decide +kernel
theorem dX8_termValue_72 : decode cX8_termValue 72 = .ok (.iload 7, 2) := by decide +kernel
theorem dX8_termValue_74 : decode cX8_termValue 74 = .ok (.invokevirtual 115, 3) := by decide +kernel
theorem dX8_termValue_77 : decode cX8_termValue 77 = .ok (.ifCond .ne 6, 3) := by decide +kernel
theorem dX8_termValue_80 : decode cX8_termValue 80 = .ok (.goto 77, 3) := by decide +kernel
theorem dX8_termValue_83 : decode cX8_termValue 83 = .ok (.aload 8, 2) := by decide +kernel
theorem dX8_termValue_85 : decode cX8_termValue 85 = .ok (.iload_n 3, 1) := by decide +kernel
theorem dX8_termValue_86 : decode cX8_termValue 86 = .ok (.invokevirtual 119, 3) := by decide +kernel
theorem dX8_termValue_89 : decode cX8_termValue 89 = .ok (.istore 9, 2) := by decide +kernel
theorem dX8_termValue_91 : decode cX8_termValue 91 = .ok (.aload 8, 2) := by decide +kernel
theorem dX8_termValue_93 : decode cX8_termValue 93 = .ok (.iload 4, 2) := by decide +kernel
theorem dX8_termValue_95 : decode cX8_termValue 95 = .ok (.invokevirtual 119, 3) := by decide +kernel
theorem dX8_termValue_98 : decode cX8_termValue 98 = .ok (.istore 10, 2) := by decide +kernel
theorem dX8_termValue_100 : decode cX8_termValue 100 = .ok (.iload 5, 2) := by decide +kernel
theorem dX8_termValue_102 : decode cX8_termValue 102 = .ok (.ifCond .ne 13, 3) := by decide +kernel
theorem dX8_termValue_105 : decode cX8_termValue 105 = .ok (.iload 9, 2) := by decide +kernel
theorem dX8_termValue_107 : decode cX8_termValue 107 = .ok (.ifCond .gt 8, 3) := by decide +kernel
theorem dX8_termValue_110 : decode cX8_termValue 110 = .ok (.iload 10, 2) := by decide +kernel
theorem dX8_termValue_112 : decode cX8_termValue 112 = .ok (.ifCond .le 7, 3) := by decide +kernel
theorem dX8_termValue_115 : decode cX8_termValue 115 = .ok (.iconst 1, 1) := by decide +kernel
theorem dX8_termValue_116 : decode cX8_termValue 116 = .ok (.goto 4, 3) := by decide +kernel
theorem dX8_termValue_119 : decode cX8_termValue 119 = .ok (.iconst 0, 1) := by decide +kernel
theorem dX8_termValue_120 : decode cX8_termValue 120 = .ok (.istore 5, 2) := by decide +kernel
theorem dX8_termValue_122 : decode cX8_termValue 122 = .ok (.iload 6, 2) := by decide +kernel
theorem dX8_termValue_124 : decode cX8_termValue 124 = .ok (.aload_n 0, 1) := by decide +kernel
theorem dX8_termValue_125 : decode cX8_termValue 125 = .ok (.iload_n 3, 1) := by decide +kernel
theorem dX8_termValue_126 : decode cX8_termValue 126 = .ok (.iload 9, 2) := by decide +kernel
theorem dX8_termValue_128 : decode cX8_termValue 128 = .ok (.aload 8, 2) := by decide +kernel
theorem dX8_termValue_130 : decode cX8_termValue 130 = .ok (.getfield 124, 3) := by decide +kernel
theorem dX8_termValue_133 : decode cX8_termValue 133 = .ok (.iload 7, 2) := by decide +kernel
theorem dX8_termValue_135 : decode cX8_termValue 135 = .ok (.invokevirtual 127, 3) := by decide +kernel
theorem dX8_termValue_138 : decode cX8_termValue 138 = .ok (.aload_n 0, 1) := by decide +kernel
theorem dX8_termValue_139 : decode cX8_termValue 139 = .ok (.iload 4, 2) := by decide +kernel
theorem dX8_termValue_141 : decode cX8_termValue 141 = .ok (.iload 10, 2) := by decide +kernel
theorem dX8_termValue_143 : decode cX8_termValue 143 = .ok (.aload 8, 2) := by decide +kernel
theorem dX8_termValue_145 : decode cX8_termValue 145 = .ok (.getfield 124, 3) := by decide +kernel
theorem dX8_termValue_148 : decode cX8_termValue 148 = .ok (.iload 7, 2) := by decide +kernel
theorem dX8_termValue_150 : decode cX8_termValue 150 = .ok (.invokevirtual 127, 3) := by decide +kernel
theorem dX8_termValue_153 : decode cX8_termValue 153 = .ok (.iadd, 1) := by decide +kernel
theorem dX8_termValue_154 : decode cX8_termValue 154 = .ok (.iadd, 1) := by decide +kernel
theorem dX8_termValue_155 : decode cX8_termValue 155 = .ok (.istore 6, 2) := by decide +kernel
theorem dX8_termValue_157 : decode cX8_termValue 157 = .ok (.iinc 7 1, 3) := by decide +kernel
theorem dX8_termValue_160 : decode cX8_termValue 160 = .ok (.goto (-108), 3) := by decide +kernel
theorem dX8_termValue_163 : decode cX8_termValue 163 = .ok (.iload 5, 2) := by decide +kernel
theorem dX8_termValue_165 : decode cX8_termValue 165 = .ok (.ifCond .eq 8, 3) := by decide +kernel
theorem dX8_termValue_168 : decode cX8_termValue 168 = .ok (.iload 6, 2) := by decide +kernel
theorem dX8_termValue_170 : decode cX8_termValue 170 = .ok (.goto 4, 3) := by decide +kernel
theorem dX8_termValue_173 : decode cX8_termValue 173 = .ok (.iconst (-1), 1) := by decide +kernel
theorem dX8_termValue_174 : decode cX8_termValue 174 = .ok (.ireturn, 1) := by decide +kernel
set_option maxRecDepth 20000 in
theorem ggX8_taste_X1_lengthOf : GoodIn wsX8_taste wsX1_lengthOf := goodIn_r _ [8, 9, 31, 32, 33] (by decide +kernel) (by decide +kernel)
set_option maxRecDepth 20000 in
theorem gX8_taste_X1_lengthOf : GoodIn wsX8_taste (wsV RX8 131 RX1 yX1_lengthOf wsX1_lengthOf) := goodIn_app (goodIn_of _ (by decide +kernel)) ggX8_taste_X1_lengthOf
set_option maxRecDepth 20000 in
theorem ggX8_taste_X1_spreadOf : GoodIn wsX8_taste wsX1_spreadOf := goodIn_r _ [13, 14, 31, 32, 33] (by decide +kernel) (by decide +kernel)
set_option maxRecDepth 20000 in
theorem gX8_taste_X1_spreadOf : GoodIn wsX8_taste (wsV RX8 139 RX1 yX1_spreadOf wsX1_spreadOf) := goodIn_app (goodIn_of _ (by decide +kernel)) ggX8_taste_X1_spreadOf
set_option maxRecDepth 20000 in
theorem ggX8_taste_X1_rarityOf : GoodIn wsX8_taste wsX1_rarityOf := goodIn_r _ [18, 19, 31, 32, 33] (by decide +kernel) (by decide +kernel)
set_option maxRecDepth 20000 in
theorem gX8_taste_X1_rarityOf : GoodIn wsX8_taste (wsV RX8 142 RX1 yX1_rarityOf wsX1_rarityOf) := goodIn_app (goodIn_of _ (by decide +kernel)) ggX8_taste_X1_rarityOf
set_option maxRecDepth 20000 in
theorem ggX8_taste_X4_weightOf : GoodIn wsX8_taste wsX4_weightOf := goodIn_r _ [24, 25, 34, 35, 36] (by decide +kernel) (by decide +kernel)
set_option maxRecDepth 20000 in
theorem gX8_taste_X4_weightOf : GoodIn wsX8_taste (wsV RX8 145 RX4 yX4_weightOf wsX4_weightOf) := goodIn_app (goodIn_of _ (by decide +kernel)) ggX8_taste_X4_weightOf
theorem dX8_taste_0 : decode cX8_taste 0 = .ok (.aload_n 0, 1) := by decide +kernel
theorem dX8_taste_1 : decode cX8_taste 1 = .ok (.getfield 23, 3) := by decide +kernel
theorem dX8_taste_4 : decode cX8_taste 4 = .ok (.iload 4, 2) := by decide +kernel
theorem dX8_taste_6 : decode cX8_taste 6 = .ok (.invokevirtual 131, 3) := by decide +kernel
theorem dX8_taste_9 : decode cX8_taste 9 = .ok (.istore 5, 2) := by decide +kernel
theorem dX8_taste_11 : decode cX8_taste 11 = .ok (.iload_n 2, 1) := by decide +kernel
theorem dX8_taste_12 : decode cX8_taste 12 = .ok (.ifCond .le 8, 3) := by decide +kernel
theorem dX8_taste_15 : decode cX8_taste 15 = .ok (.iload 5, 2) := by decide +kernel
theorem dX8_taste_17 : decode cX8_taste 17 = .ok (.ifCond .gt 5, 3) := by decide +kernel
theorem dX8_taste_20 : decode cX8_taste 20 = .ok (.iconst 0, 1) := by decide +kernel
theorem dX8_taste_21 : decode cX8_taste 21 = .ok (.ireturn, 1) := by decide +kernel
theorem dX8_taste_22 : decode cX8_taste 22 = .ok (.bipush 10, 2) := by decide +kernel
theorem dX8_taste_24 : decode cX8_taste 24 = .ok (.iload_n 2, 1) := by decide +kernel
theorem dX8_taste_25 : decode cX8_taste 25 = .ok (.imul, 1) := by decide +kernel
theorem dX8_taste_26 : decode cX8_taste 26 = .ok (.iconst 3, 1) := by decide +kernel
theorem dX8_taste_27 : decode cX8_taste 27 = .ok (.iadd, 1) := by decide +kernel
theorem dX8_taste_28 : decode cX8_taste 28 = .ok (.bipush 9, 2) := by decide +kernel
theorem dX8_taste_30 : decode cX8_taste 30 = .ok (.iload_n 3, 1) := by decide +kernel
theorem dX8_taste_31 : decode cX8_taste 31 = .ok (.imul, 1) := by decide +kernel
theorem dX8_taste_32 : decode cX8_taste 32 = .ok (.aload_n 0, 1) := by decide +kernel
theorem dX8_taste_33 : decode cX8_taste 33 = .ok (.getfield 23, 3) := by decide +kernel
theorem dX8_taste_36 : decode cX8_taste 36 = .ok (.getfield 136, 3) := by decide +kernel
theorem dX8_taste_39 : decode cX8_taste 39 = .ok (.imul, 1) := by decide +kernel
theorem dX8_taste_40 : decode cX8_taste 40 = .ok (.iload 5, 2) := by decide +kernel
theorem dX8_taste_42 : decode cX8_taste 42 = .ok (.idiv, 1) := by decide +kernel
theorem dX8_taste_43 : decode cX8_taste 43 = .ok (.iadd, 1) := by decide +kernel
theorem dX8_taste_44 : decode cX8_taste 44 = .ok (.istore 6, 2) := by decide +kernel
theorem dX8_taste_46 : decode cX8_taste 46 = .ok (.aload_n 0, 1) := by decide +kernel
theorem dX8_taste_47 : decode cX8_taste 47 = .ok (.getfield 23, 3) := by decide +kernel
theorem dX8_taste_50 : decode cX8_taste 50 = .ok (.aload_n 0, 1) := by decide +kernel
theorem dX8_taste_51 : decode cX8_taste 51 = .ok (.getfield 23, 3) := by decide +kernel
theorem dX8_taste_54 : decode cX8_taste 54 = .ok (.iload_n 1, 1) := by decide +kernel
theorem dX8_taste_55 : decode cX8_taste 55 = .ok (.iload 4, 2) := by decide +kernel
theorem dX8_taste_57 : decode cX8_taste 57 = .ok (.invokevirtual 139, 3) := by decide +kernel
theorem dX8_taste_60 : decode cX8_taste 60 = .ok (.invokevirtual 142, 3) := by decide +kernel
theorem dX8_taste_63 : decode cX8_taste 63 = .ok (.istore 7, 2) := by decide +kernel
theorem dX8_taste_65 : decode cX8_taste 65 = .ok (.iload 6, 2) := by decide +kernel
theorem dX8_taste_67 : decode cX8_taste 67 = .ok (.ifCond .gt 7, 3) := by decide +kernel
theorem dX8_taste_70 : decode cX8_taste 70 = .ok (.iconst 0, 1) := by decide +kernel
theorem dX8_taste_71 : decode cX8_taste 71 = .ok (.goto 23, 3) := by decide +kernel
theorem dX8_taste_74 : decode cX8_taste 74 = .ok (.iload 7, 2) := by decide +kernel
theorem dX8_taste_76 : decode cX8_taste 76 = .ok (.iload_n 2, 1) := by decide +kernel
theorem dX8_taste_77 : decode cX8_taste 77 = .ok (.imul, 1) := by decide +kernel
theorem dX8_taste_78 : decode cX8_taste 78 = .ok (.bipush 20, 2) := by decide +kernel
theorem dX8_taste_80 : decode cX8_taste 80 = .ok (.imul, 1) := by decide +kernel
theorem dX8_taste_81 : decode cX8_taste 81 = .ok (.iload 6, 2) := by decide +kernel
theorem dX8_taste_83 : decode cX8_taste 83 = .ok (.idiv, 1) := by decide +kernel
theorem dX8_taste_84 : decode cX8_taste 84 = .ok (.aload_n 0, 1) := by decide +kernel
theorem dX8_taste_85 : decode cX8_taste 85 = .ok (.getfield 19, 3) := by decide +kernel
theorem dX8_taste_88 : decode cX8_taste 88 = .ok (.iload 4, 2) := by decide +kernel
theorem dX8_taste_90 : decode cX8_taste 90 = .ok (.invokevirtual 145, 3) := by decide +kernel
theorem dX8_taste_93 : decode cX8_taste 93 = .ok (.imul, 1) := by decide +kernel
theorem dX8_taste_94 : decode cX8_taste 94 = .ok (.ireturn, 1) := by decide +kernel
set_option maxRecDepth 20000 in
theorem ggX8_sumOfAtLeast_X5_partCount : GoodIn wsX8_sumOfAtLeast wsX5_partCount := goodIn_r _ [5, 6, 7, 20, 21, 22, 23, 24, 25, 26, 27, 28, 29, 30, 31, 32] (by decide +kernel) (by decide +kernel)
set_option maxRecDepth 20000 in
theorem gX8_sumOfAtLeast_X5_partCount : GoodIn wsX8_sumOfAtLeast (wsV RX8 148 RX5 yX5_partCount wsX5_partCount) := goodIn_app (goodIn_of _ (by decide +kernel)) ggX8_sumOfAtLeast_X5_partCount
set_option maxRecDepth 20000 in
theorem ggX8_sumOfAtLeast_X5_partAt : GoodIn wsX8_sumOfAtLeast wsX5_partAt := goodIn_r _ [11, 6, 12, 13, 20, 21, 22, 23, 24, 25, 26, 27, 28, 29, 30, 31, 32] (by decide +kernel) (by decide +kernel)
set_option maxRecDepth 20000 in
theorem gX8_sumOfAtLeast_X5_partAt : GoodIn wsX8_sumOfAtLeast (wsV RX8 152 RX5 yX5_partAt wsX5_partAt) := goodIn_app (goodIn_of _ (by decide +kernel)) ggX8_sumOfAtLeast_X5_partAt
set_option maxRecDepth 20000 in
theorem ggX8_sumOfAtLeast_X8_valueAt : GoodIn wsX8_sumOfAtLeast wsX8_valueAt := goodIn_r _ [18, 19, 33, 34, 35, 36, 37] (by decide +kernel) (by decide +kernel)
set_option maxRecDepth 20000 in
theorem gX8_sumOfAtLeast_X8_valueAt : GoodIn wsX8_sumOfAtLeast (wsV RX8 48 RX8 yX8_valueAt wsX8_valueAt) := goodIn_app (goodIn_of _ (by decide +kernel)) ggX8_sumOfAtLeast_X8_valueAt
theorem dX8_sumOfAtLeast_0 : decode cX8_sumOfAtLeast 0 = .ok (.iconst 0, 1) := by decide +kernel
theorem dX8_sumOfAtLeast_1 : decode cX8_sumOfAtLeast 1 = .ok (.istore_n 3, 1) := by decide +kernel
theorem dX8_sumOfAtLeast_2 : decode cX8_sumOfAtLeast 2 = .ok (.iconst 0, 1) := by decide +kernel
theorem dX8_sumOfAtLeast_3 : decode cX8_sumOfAtLeast 3 = .ok (.istore 4, 2) := by decide +kernel
theorem dX8_sumOfAtLeast_5 : decode cX8_sumOfAtLeast 5 = .ok (.iconst 0, 1) := by decide +kernel
theorem dX8_sumOfAtLeast_6 : decode cX8_sumOfAtLeast 6 = .ok (.istore 5, 2) := by decide +kernel
theorem dX8_sumOfAtLeast_8 : decode cX8_sumOfAtLeast 8 = .ok (.iload 5, 2) := by decide +kernel
theorem dX8_sumOfAtLeast_10 : decode cX8_sumOfAtLeast 10 = .ok (.aload_n 1, 1) := by decide +kernel
theorem dX8_sumOfAtLeast_11 : decode cX8_sumOfAtLeast 11 = .ok (.invokevirtual 148, 3) := by decide +kernel
theorem dX8_sumOfAtLeast_14 : decode cX8_sumOfAtLeast 14 = .ok (.if_icmp .ge 37, 3) := by decide +kernel
theorem dX8_sumOfAtLeast_17 : decode cX8_sumOfAtLeast 17 = .ok (.aload_n 0, 1) := by decide +kernel
theorem dX8_sumOfAtLeast_18 : decode cX8_sumOfAtLeast 18 = .ok (.aload_n 1, 1) := by decide +kernel
theorem dX8_sumOfAtLeast_19 : decode cX8_sumOfAtLeast 19 = .ok (.iload 5, 2) := by decide +kernel
theorem dX8_sumOfAtLeast_21 : decode cX8_sumOfAtLeast 21 = .ok (.invokevirtual 152, 3) := by decide +kernel
theorem dX8_sumOfAtLeast_24 : decode cX8_sumOfAtLeast 24 = .ok (.invokevirtual 48, 3) := by decide +kernel
theorem dX8_sumOfAtLeast_27 : decode cX8_sumOfAtLeast 27 = .ok (.istore 6, 2) := by decide +kernel
theorem dX8_sumOfAtLeast_29 : decode cX8_sumOfAtLeast 29 = .ok (.iload 6, 2) := by decide +kernel
theorem dX8_sumOfAtLeast_31 : decode cX8_sumOfAtLeast 31 = .ok (.iconst (-1), 1) := by decide +kernel
theorem dX8_sumOfAtLeast_32 : decode cX8_sumOfAtLeast 32 = .ok (.if_icmp .eq 13, 3) := by decide +kernel
theorem dX8_sumOfAtLeast_35 : decode cX8_sumOfAtLeast 35 = .ok (.iinc 3 1, 3) := by decide +kernel
theorem dX8_sumOfAtLeast_38 : decode cX8_sumOfAtLeast 38 = .ok (.iload 4, 2) := by decide +kernel
theorem dX8_sumOfAtLeast_40 : decode cX8_sumOfAtLeast 40 = .ok (.iload 6, 2) := by decide +kernel
theorem dX8_sumOfAtLeast_42 : decode cX8_sumOfAtLeast 42 = .ok (.iadd, 1) := by decide +kernel
theorem dX8_sumOfAtLeast_43 : decode cX8_sumOfAtLeast 43 = .ok (.istore 4, 2) := by decide +kernel
theorem dX8_sumOfAtLeast_45 : decode cX8_sumOfAtLeast 45 = .ok (.iinc 5 1, 3) := by decide +kernel
theorem dX8_sumOfAtLeast_48 : decode cX8_sumOfAtLeast 48 = .ok (.goto (-40), 3) := by decide +kernel
theorem dX8_sumOfAtLeast_51 : decode cX8_sumOfAtLeast 51 = .ok (.iload_n 3, 1) := by decide +kernel
theorem dX8_sumOfAtLeast_52 : decode cX8_sumOfAtLeast 52 = .ok (.iload_n 2, 1) := by decide +kernel
theorem dX8_sumOfAtLeast_53 : decode cX8_sumOfAtLeast 53 = .ok (.if_icmp .lt 8, 3) := by decide +kernel
theorem dX8_sumOfAtLeast_56 : decode cX8_sumOfAtLeast 56 = .ok (.iload 4, 2) := by decide +kernel
theorem dX8_sumOfAtLeast_58 : decode cX8_sumOfAtLeast 58 = .ok (.goto 4, 3) := by decide +kernel
theorem dX8_sumOfAtLeast_61 : decode cX8_sumOfAtLeast 61 = .ok (.iconst (-1), 1) := by decide +kernel
theorem dX8_sumOfAtLeast_62 : decode cX8_sumOfAtLeast 62 = .ok (.ireturn, 1) := by decide +kernel
set_option maxRecDepth 20000 in
theorem ggX8_nearValue_X6_nodeAt : GoodIn wsX8_nearValue wsX6_nodeAt := goodIn_r _ [9, 10, 11, 91, 92, 93, 94, 95] (by decide +kernel) (by decide +kernel)
set_option maxRecDepth 20000 in
theorem gX8_nearValue_X6_nodeAt : GoodIn wsX8_nearValue (wsV RX8 31 RX6 yX6_nodeAt wsX6_nodeAt) := goodIn_app (goodIn_of _ (by decide +kernel)) ggX8_nearValue_X6_nodeAt
set_option maxRecDepth 20000 in
theorem ggX8_nearValue_X8_sumOfAtLeast : GoodIn wsX8_nearValue wsX8_sumOfAtLeast := goodIn_r _ [16, 17, 18, 19, 20, 21, 22, 23, 24, 25, 26, 27, 28, 29, 30, 31, 32, 15, 33, 34, 78, 79, 80, 81, 82, 83, 84, 85, 86, 87, 88, 89, 90, 73, 74, 75, 76, 77] (by decide +kernel) (by decide +kernel)
set_option maxRecDepth 20000 in
theorem gX8_nearValue_X8_sumOfAtLeast : GoodIn wsX8_nearValue (wsV RX8 61 RX8 yX8_sumOfAtLeast wsX8_sumOfAtLeast) := goodIn_app (goodIn_of _ (by decide +kernel)) ggX8_nearValue_X8_sumOfAtLeast
set_option maxRecDepth 20000 in
theorem ggX8_nearValue_X2_rowOf : GoodIn wsX8_nearValue wsX2_rowOf := goodIn_r _ [39, 40, 96, 97, 98, 99, 100] (by decide +kernel) (by decide +kernel)
set_option maxRecDepth 20000 in
theorem gX8_nearValue_X2_rowOf : GoodIn wsX8_nearValue (wsV RX8 111 RX2 yX2_rowOf wsX2_rowOf) := goodIn_app (goodIn_of _ (by decide +kernel)) ggX8_nearValue_X2_rowOf
set_option maxRecDepth 20000 in
theorem ggX8_nearValue_X5_isFor : GoodIn wsX8_nearValue wsX5_isFor := goodIn_r _ [44, 45, 78, 79, 80, 81, 82, 83, 84, 85, 86, 87, 88, 89, 90] (by decide +kernel) (by decide +kernel)
set_option maxRecDepth 20000 in
theorem gX8_nearValue_X5_isFor : GoodIn wsX8_nearValue (wsV RX8 115 RX5 yX5_isFor wsX5_isFor) := goodIn_app (goodIn_of _ (by decide +kernel)) ggX8_nearValue_X5_isFor
set_option maxRecDepth 20000 in
theorem ggX8_nearValue_X8_isNearIn : GoodIn wsX8_nearValue wsX8_isNearIn := goodIn_r _ [49, 50, 51, 52, 53, 54, 55, 56, 57, 58, 59, 60, 61, 62, 63, 64, 65, 66, 67, 68, 69, 20, 70, 71, 72, 101, 102, 103, 104, 105, 73, 74, 75, 76, 77, 106, 107, 108, 78, 79, 80, 81, 82, 83, 84, 85, 86, 87, 88, 89, 90] (by decide +kernel) (by decide +kernel)
set_option maxRecDepth 20000 in
theorem gX8_nearValue_X8_isNearIn : GoodIn wsX8_nearValue (wsV RX8 155 RX8 yX8_isNearIn wsX8_isNearIn) := goodIn_app (goodIn_of _ (by decide +kernel)) ggX8_nearValue_X8_isNearIn
theorem dX8_nearValue_0 : decode cX8_nearValue 0 = .ok (.aload_n 0, 1) := by decide +kernel
theorem dX8_nearValue_1 : decode cX8_nearValue 1 = .ok (.getfield 15, 3) := by decide +kernel
theorem dX8_nearValue_4 : decode cX8_nearValue 4 = .ok (.aload_n 1, 1) := by decide +kernel
theorem dX8_nearValue_5 : decode cX8_nearValue 5 = .ok (.getfield 71, 3) := by decide +kernel
theorem dX8_nearValue_8 : decode cX8_nearValue 8 = .ok (.invokevirtual 31, 3) := by decide +kernel
theorem dX8_nearValue_11 : decode cX8_nearValue 11 = .ok (.astore_n 3, 1) := by decide +kernel
theorem dX8_nearValue_12 : decode cX8_nearValue 12 = .ok (.aload_n 0, 1) := by decide +kernel
theorem dX8_nearValue_13 : decode cX8_nearValue 13 = .ok (.getfield 15, 3) := by decide +kernel
theorem dX8_nearValue_16 : decode cX8_nearValue 16 = .ok (.aload_n 1, 1) := by decide +kernel
theorem dX8_nearValue_17 : decode cX8_nearValue 17 = .ok (.getfield 68, 3) := by decide +kernel
theorem dX8_nearValue_20 : decode cX8_nearValue 20 = .ok (.invokevirtual 31, 3) := by decide +kernel
theorem dX8_nearValue_23 : decode cX8_nearValue 23 = .ok (.astore 4, 2) := by decide +kernel
theorem dX8_nearValue_25 : decode cX8_nearValue 25 = .ok (.aload_n 0, 1) := by decide +kernel
theorem dX8_nearValue_26 : decode cX8_nearValue 26 = .ok (.aload_n 1, 1) := by decide +kernel
theorem dX8_nearValue_27 : decode cX8_nearValue 27 = .ok (.iconst 2, 1) := by decide +kernel
theorem dX8_nearValue_28 : decode cX8_nearValue 28 = .ok (.invokevirtual 61, 3) := by decide +kernel
theorem dX8_nearValue_31 : decode cX8_nearValue 31 = .ok (.istore 5, 2) := by decide +kernel
theorem dX8_nearValue_33 : decode cX8_nearValue 33 = .ok (.aload_n 3, 1) := by decide +kernel
theorem dX8_nearValue_34 : decode cX8_nearValue 34 = .ok (.ifnull 14, 3) := by decide +kernel
theorem dX8_nearValue_37 : decode cX8_nearValue 37 = .ok (.aload 4, 2) := by decide +kernel
theorem dX8_nearValue_39 : decode cX8_nearValue 39 = .ok (.ifnull 9, 3) := by decide +kernel
theorem dX8_nearValue_42 : decode cX8_nearValue 42 = .ok (.iload 5, 2) := by decide +kernel
theorem dX8_nearValue_44 : decode cX8_nearValue 44 = .ok (.iconst (-1), 1) := by decide +kernel
theorem dX8_nearValue_45 : decode cX8_nearValue 45 = .ok (.if_icmp .ne 5, 3) := by decide +kernel
theorem dX8_nearValue_48 : decode cX8_nearValue 48 = .ok (.iconst (-1), 1) := by decide +kernel
theorem dX8_nearValue_49 : decode cX8_nearValue 49 = .ok (.ireturn, 1) := by decide +kernel
theorem dX8_nearValue_50 : decode cX8_nearValue 50 = .ok (.iconst 0, 1) := by decide +kernel
theorem dX8_nearValue_51 : decode cX8_nearValue 51 = .ok (.istore 6, 2) := by decide +kernel
theorem dX8_nearValue_53 : decode cX8_nearValue 53 = .ok (.iconst 0, 1) := by decide +kernel
theorem dX8_nearValue_54 : decode cX8_nearValue 54 = .ok (.istore 7, 2) := by decide +kernel
theorem dX8_nearValue_56 : decode cX8_nearValue 56 = .ok (.iload 7, 2) := by decide +kernel
theorem dX8_nearValue_58 : decode cX8_nearValue 58 = .ok (.iconst 3, 1) := by decide +kernel
theorem dX8_nearValue_59 : decode cX8_nearValue 59 = .ok (.if_icmp .ge 75, 3) := by decide +kernel
theorem dX8_nearValue_62 : decode cX8_nearValue 62 = .ok (.aload_n 2, 1) := by decide +kernel
theorem dX8_nearValue_63 : decode cX8_nearValue 63 = .ok (.iload 7, 2) := by decide +kernel
theorem dX8_nearValue_65 : decode cX8_nearValue 65 = .ok (.invokevirtual 111, 3) := by decide +kernel
theorem dX8_nearValue_68 : decode cX8_nearValue 68 = .ok (.astore 8, 2) := by decide +kernel
theorem dX8_nearValue_70 : decode cX8_nearValue 70 = .ok (.aload_n 3, 1) := by decide +kernel
theorem dX8_nearValue_71 : decode cX8_nearValue 71 = .ok (.iload 7, 2) := by decide +kernel
theorem dX8_nearValue_73 : decode cX8_nearValue 73 = .ok (.invokevirtual 115, 3) := by decide +kernel
theorem dX8_nearValue_76 : decode cX8_nearValue 76 = .ok (.ifCond .eq 17, 3) := by decide +kernel
theorem dX8_nearValue_79 : decode cX8_nearValue 79 = .ok (.aload 4, 2) := by decide +kernel
theorem dX8_nearValue_81 : decode cX8_nearValue 81 = .ok (.iload 7, 2) := by decide +kernel
theorem dX8_nearValue_83 : decode cX8_nearValue 83 = .ok (.invokevirtual 115, 3) := by decide +kernel
theorem dX8_nearValue_86 : decode cX8_nearValue 86 = .ok (.ifCond .eq 7, 3) := by decide +kernel
theorem dX8_nearValue_89 : decode cX8_nearValue 89 = .ok (.iconst 1, 1) := by decide +kernel
theorem dX8_nearValue_90 : decode cX8_nearValue 90 = .ok (.goto 4, 3) := by decide +kernel
theorem dX8_nearValue_93 : decode cX8_nearValue 93 = .ok (.iconst 0, 1) := by decide +kernel
theorem dX8_nearValue_94 : decode cX8_nearValue 94 = .ok (.istore 9, 2) := by decide +kernel
theorem dX8_nearValue_96 : decode cX8_nearValue 96 = .ok (.aload 8, 2) := by decide +kernel
theorem dX8_nearValue_98 : decode cX8_nearValue 98 = .ok (.ifnull 30, 3) := by decide +kernel
theorem dX8_nearValue_101 : decode cX8_nearValue 101 = .ok (.iload 9, 2) := by decide +kernel
theorem dX8_nearValue_103 : decode cX8_nearValue 103 = .ok (.ifCond .eq 25, 3) := by decide +kernel
theorem dX8_nearValue_106 : decode cX8_nearValue 106 = .ok (.aload_n 0, 1) := by decide +kernel
theorem dX8_nearValue_107 : decode cX8_nearValue 107 = .ok (.aload 8, 2) := by decide +kernel
theorem dX8_nearValue_109 : decode cX8_nearValue 109 = .ok (.aload_n 1, 1) := by decide +kernel
theorem dX8_nearValue_110 : decode cX8_nearValue 110 = .ok (.aload_n 3, 1) := by decide +kernel
theorem dX8_nearValue_111 : decode cX8_nearValue 111 = .ok (.getfield 100, 3) := by decide +kernel
theorem dX8_nearValue_114 : decode cX8_nearValue 114 = .ok (.aload 4, 2) := by decide +kernel
theorem dX8_nearValue_116 : decode cX8_nearValue 116 = .ok (.getfield 100, 3) := by decide +kernel
theorem dX8_nearValue_119 : decode cX8_nearValue 119 = .ok (.invokevirtual 155, 3) := by decide +kernel
theorem dX8_nearValue_122 : decode cX8_nearValue 122 = .ok (.ifCond .eq 6, 3) := by decide +kernel
theorem dX8_nearValue_125 : decode cX8_nearValue 125 = .ok (.iinc 6 1, 3) := by decide +kernel
theorem dX8_nearValue_128 : decode cX8_nearValue 128 = .ok (.iinc 7 1, 3) := by decide +kernel
theorem dX8_nearValue_131 : decode cX8_nearValue 131 = .ok (.goto (-75), 3) := by decide +kernel
theorem dX8_nearValue_134 : decode cX8_nearValue 134 = .ok (.iload 6, 2) := by decide +kernel
theorem dX8_nearValue_136 : decode cX8_nearValue 136 = .ok (.ifCond .ne 7, 3) := by decide +kernel
theorem dX8_nearValue_139 : decode cX8_nearValue 139 = .ok (.iconst (-1), 1) := by decide +kernel
theorem dX8_nearValue_140 : decode cX8_nearValue 140 = .ok (.goto 11, 3) := by decide +kernel
theorem dX8_nearValue_143 : decode cX8_nearValue 143 = .ok (.iload 5, 2) := by decide +kernel
theorem dX8_nearValue_145 : decode cX8_nearValue 145 = .ok (.bipush 100, 2) := by decide +kernel
theorem dX8_nearValue_147 : decode cX8_nearValue 147 = .ok (.iload 6, 2) := by decide +kernel
theorem dX8_nearValue_149 : decode cX8_nearValue 149 = .ok (.imul, 1) := by decide +kernel
theorem dX8_nearValue_150 : decode cX8_nearValue 150 = .ok (.iadd, 1) := by decide +kernel
theorem dX8_nearValue_151 : decode cX8_nearValue 151 = .ok (.ireturn, 1) := by decide +kernel
set_option maxRecDepth 20000 in
theorem ggX8_isNearIn_X9_termOn : GoodIn wsX8_isNearIn wsX9_termOn := goodIn_r _ [8, 9, 10, 25, 26, 27, 28, 29] (by decide +kernel) (by decide +kernel)
set_option maxRecDepth 20000 in
theorem gX8_isNearIn_X9_termOn : GoodIn wsX8_isNearIn (wsV RX8 159 RX9 yX9_termOn wsX9_termOn) := goodIn_app (goodIn_of _ (by decide +kernel)) ggX8_isNearIn_X9_termOn
set_option maxRecDepth 20000 in
theorem ggX8_isNearIn_X4_finds : GoodIn wsX8_isNearIn wsX4_finds := goodIn_r _ [15, 16, 17, 35, 36, 37] (by decide +kernel) (by decide +kernel)
set_option maxRecDepth 20000 in
theorem gX8_isNearIn_X4_finds : GoodIn wsX8_isNearIn (wsV RX8 162 RX4 yX4_finds wsX4_finds) := goodIn_app (goodIn_of _ (by decide +kernel)) ggX8_isNearIn_X4_finds
set_option maxRecDepth 20000 in
theorem ggX8_isNearIn_X5_isApartAsAsked : GoodIn wsX8_isNearIn wsX5_isApartAsAsked := goodIn_r _ [22, 23, 24, 38, 39, 40, 41, 42, 43, 44, 45, 46, 47, 48, 49, 50] (by decide +kernel) (by decide +kernel)
set_option maxRecDepth 20000 in
theorem gX8_isNearIn_X5_isApartAsAsked : GoodIn wsX8_isNearIn (wsV RX8 166 RX5 yX5_isApartAsAsked wsX5_isApartAsAsked) := goodIn_app (goodIn_of _ (by decide +kernel)) ggX8_isNearIn_X5_isApartAsAsked
theorem dX8_isNearIn_0 : decode cX8_isNearIn 0 = .ok (.iconst 0, 1) := by decide +kernel
theorem dX8_isNearIn_1 : decode cX8_isNearIn 1 = .ok (.istore 5, 2) := by decide +kernel
theorem dX8_isNearIn_3 : decode cX8_isNearIn 3 = .ok (.iload 5, 2) := by decide +kernel
theorem dX8_isNearIn_5 : decode cX8_isNearIn 5 = .ok (.aload_n 1, 1) := by decide +kernel
theorem dX8_isNearIn_6 : decode cX8_isNearIn 6 = .ok (.getfield 124, 3) := by decide +kernel
theorem dX8_isNearIn_9 : decode cX8_isNearIn 9 = .ok (.if_icmp .ge 87, 3) := by decide +kernel
theorem dX8_isNearIn_12 : decode cX8_isNearIn 12 = .ok (.aload_n 0, 1) := by decide +kernel
theorem dX8_isNearIn_13 : decode cX8_isNearIn 13 = .ok (.getfield 19, 3) := by decide +kernel
theorem dX8_isNearIn_16 : decode cX8_isNearIn 16 = .ok (.iload_n 3, 1) := by decide +kernel
theorem dX8_isNearIn_17 : decode cX8_isNearIn 17 = .ok (.aload_n 1, 1) := by decide +kernel
theorem dX8_isNearIn_18 : decode cX8_isNearIn 18 = .ok (.iload 5, 2) := by decide +kernel
theorem dX8_isNearIn_20 : decode cX8_isNearIn 20 = .ok (.invokevirtual 159, 3) := by decide +kernel
theorem dX8_isNearIn_23 : decode cX8_isNearIn 23 = .ok (.aload_n 0, 1) := by decide +kernel
theorem dX8_isNearIn_24 : decode cX8_isNearIn 24 = .ok (.getfield 27, 3) := by decide +kernel
theorem dX8_isNearIn_27 : decode cX8_isNearIn 27 = .ok (.invokevirtual 162, 3) := by decide +kernel
theorem dX8_isNearIn_30 : decode cX8_isNearIn 30 = .ok (.ifCond .ne 6, 3) := by decide +kernel
theorem dX8_isNearIn_33 : decode cX8_isNearIn 33 = .ok (.goto 57, 3) := by decide +kernel
theorem dX8_isNearIn_36 : decode cX8_isNearIn 36 = .ok (.iconst 0, 1) := by decide +kernel
theorem dX8_isNearIn_37 : decode cX8_isNearIn 37 = .ok (.istore 6, 2) := by decide +kernel
theorem dX8_isNearIn_39 : decode cX8_isNearIn 39 = .ok (.iload 6, 2) := by decide +kernel
theorem dX8_isNearIn_41 : decode cX8_isNearIn 41 = .ok (.aload_n 1, 1) := by decide +kernel
theorem dX8_isNearIn_42 : decode cX8_isNearIn 42 = .ok (.getfield 124, 3) := by decide +kernel
theorem dX8_isNearIn_45 : decode cX8_isNearIn 45 = .ok (.if_icmp .ge 45, 3) := by decide +kernel
theorem dX8_isNearIn_48 : decode cX8_isNearIn 48 = .ok (.aload_n 2, 1) := by decide +kernel
theorem dX8_isNearIn_49 : decode cX8_isNearIn 49 = .ok (.iload 6, 2) := by decide +kernel
theorem dX8_isNearIn_51 : decode cX8_isNearIn 51 = .ok (.iload 5, 2) := by decide +kernel
theorem dX8_isNearIn_53 : decode cX8_isNearIn 53 = .ok (.isub, 1) := by decide +kernel
theorem dX8_isNearIn_54 : decode cX8_isNearIn 54 = .ok (.invokevirtual 166, 3) := by decide +kernel
theorem dX8_isNearIn_57 : decode cX8_isNearIn 57 = .ok (.ifCond .eq 27, 3) := by decide +kernel
theorem dX8_isNearIn_60 : decode cX8_isNearIn 60 = .ok (.aload_n 0, 1) := by decide +kernel
theorem dX8_isNearIn_61 : decode cX8_isNearIn 61 = .ok (.getfield 19, 3) := by decide +kernel
theorem dX8_isNearIn_64 : decode cX8_isNearIn 64 = .ok (.iload 4, 2) := by decide +kernel
theorem dX8_isNearIn_66 : decode cX8_isNearIn 66 = .ok (.aload_n 1, 1) := by decide +kernel
theorem dX8_isNearIn_67 : decode cX8_isNearIn 67 = .ok (.iload 6, 2) := by decide +kernel
theorem dX8_isNearIn_69 : decode cX8_isNearIn 69 = .ok (.invokevirtual 159, 3) := by decide +kernel
theorem dX8_isNearIn_72 : decode cX8_isNearIn 72 = .ok (.aload_n 0, 1) := by decide +kernel
theorem dX8_isNearIn_73 : decode cX8_isNearIn 73 = .ok (.getfield 27, 3) := by decide +kernel
theorem dX8_isNearIn_76 : decode cX8_isNearIn 76 = .ok (.invokevirtual 162, 3) := by decide +kernel
theorem dX8_isNearIn_79 : decode cX8_isNearIn 79 = .ok (.ifCond .eq 5, 3) := by decide +kernel
theorem dX8_isNearIn_82 : decode cX8_isNearIn 82 = .ok (.iconst 1, 1) := by decide +kernel
theorem dX8_isNearIn_83 : decode cX8_isNearIn 83 = .ok (.ireturn, 1) := by decide +kernel
theorem dX8_isNearIn_84 : decode cX8_isNearIn 84 = .ok (.iinc 6 1, 3) := by decide +kernel
theorem dX8_isNearIn_87 : decode cX8_isNearIn 87 = .ok (.goto (-48), 3) := by decide +kernel
theorem dX8_isNearIn_90 : decode cX8_isNearIn 90 = .ok (.iinc 5 1, 3) := by decide +kernel
theorem dX8_isNearIn_93 : decode cX8_isNearIn 93 = .ok (.goto (-90), 3) := by decide +kernel
theorem dX8_isNearIn_96 : decode cX8_isNearIn 96 = .ok (.iconst 0, 1) := by decide +kernel
theorem dX8_isNearIn_97 : decode cX8_isNearIn 97 = .ok (.ireturn, 1) := by decide +kernel
theorem dX8_scaledValue_0 : decode cX8_scaledValue 0 = .ok (.iload_n 0, 1) := by decide +kernel
theorem dX8_scaledValue_1 : decode cX8_scaledValue 1 = .ok (.iconst (-1), 1) := by decide +kernel
theorem dX8_scaledValue_2 : decode cX8_scaledValue 2 = .ok (.if_icmp .ne 7, 3) := by decide +kernel
theorem dX8_scaledValue_5 : decode cX8_scaledValue 5 = .ok (.iconst (-1), 1) := by decide +kernel
theorem dX8_scaledValue_6 : decode cX8_scaledValue 6 = .ok (.goto 9, 3) := by decide +kernel
theorem dX8_scaledValue_9 : decode cX8_scaledValue 9 = .ok (.iload_n 0, 1) := by decide +kernel
theorem dX8_scaledValue_10 : decode cX8_scaledValue 10 = .ok (.iload_n 1, 1) := by decide +kernel
theorem dX8_scaledValue_11 : decode cX8_scaledValue 11 = .ok (.imul, 1) := by decide +kernel
theorem dX8_scaledValue_12 : decode cX8_scaledValue 12 = .ok (.bipush 100, 2) := by decide +kernel
theorem dX8_scaledValue_14 : decode cX8_scaledValue 14 = .ok (.idiv, 1) := by decide +kernel
theorem dX8_scaledValue_15 : decode cX8_scaledValue 15 = .ok (.ireturn, 1) := by decide +kernel
theorem dX9_init_0 : decode cX9_init 0 = .ok (.aload_n 0, 1) := by decide +kernel
theorem dX9_init_1 : decode cX9_init 1 = .ok (.invokespecial 3, 3) := by decide +kernel
theorem dX9_init_4 : decode cX9_init 4 = .ok (.aload_n 0, 1) := by decide +kernel
theorem dX9_init_5 : decode cX9_init 5 = .ok (.bipush 12, 2) := by decide +kernel
theorem dX9_init_7 : decode cX9_init 7 = .ok (.newarray .int, 2) := by decide +kernel
theorem dX9_init_9 : decode cX9_init 9 = .ok (.putfield 9, 3) := by decide +kernel
theorem dX9_init_12 : decode cX9_init 12 = .ok (.aload_n 0, 1) := by decide +kernel
theorem dX9_init_13 : decode cX9_init 13 = .ok (.bipush 12, 2) := by decide +kernel
theorem dX9_init_15 : decode cX9_init 15 = .ok (.newarray .int, 2) := by decide +kernel
theorem dX9_init_17 : decode cX9_init 17 = .ok (.putfield 15, 3) := by decide +kernel
theorem dX9_init_20 : decode cX9_init 20 = .ok (.aload_n 0, 1) := by decide +kernel
theorem dX9_init_21 : decode cX9_init 21 = .ok (.bipush 12, 2) := by decide +kernel
theorem dX9_init_23 : decode cX9_init 23 = .ok (.newarray .int, 2) := by decide +kernel
theorem dX9_init_25 : decode cX9_init 25 = .ok (.putfield 18, 3) := by decide +kernel
theorem dX9_init_28 : decode cX9_init 28 = .ok (.return_, 1) := by decide +kernel
theorem dX9_isFull_0 : decode cX9_isFull 0 = .ok (.aload_n 0, 1) := by decide +kernel
theorem dX9_isFull_1 : decode cX9_isFull 1 = .ok (.getfield 21, 3) := by decide +kernel
theorem dX9_isFull_4 : decode cX9_isFull 4 = .ok (.aload_n 0, 1) := by decide +kernel
theorem dX9_isFull_5 : decode cX9_isFull 5 = .ok (.getfield 9, 3) := by decide +kernel
theorem dX9_isFull_8 : decode cX9_isFull 8 = .ok (.arraylength, 1) := by decide +kernel
theorem dX9_isFull_9 : decode cX9_isFull 9 = .ok (.if_icmp .lt 7, 3) := by decide +kernel
theorem dX9_isFull_12 : decode cX9_isFull 12 = .ok (.iconst 1, 1) := by decide +kernel
theorem dX9_isFull_13 : decode cX9_isFull 13 = .ok (.goto 4, 3) := by decide +kernel
theorem dX9_isFull_16 : decode cX9_isFull 16 = .ok (.iconst 0, 1) := by decide +kernel
theorem dX9_isFull_17 : decode cX9_isFull 17 = .ok (.ireturn, 1) := by decide +kernel
set_option maxRecDepth 20000 in
theorem ggX9_append_X9_isFull : GoodIn wsX9_append wsX9_isFull := goodIn_r _ [10, 2, 1, 15, 16, 17, 18, 19] (by decide +kernel) (by decide +kernel)
set_option maxRecDepth 20000 in
theorem gX9_append_X9_isFull : GoodIn wsX9_append (wsV RX9 25 RX9 yX9_isFull wsX9_isFull) := goodIn_app (goodIn_of _ (by decide +kernel)) ggX9_append_X9_isFull
set_option maxRecDepth 20000 in
theorem ggX9_append_X9_indexOf : GoodIn wsX9_append wsX9_indexOf := goodIn_r _ [14, 4, 5, 15, 16, 17, 18, 19] (by decide +kernel) (by decide +kernel)
set_option maxRecDepth 20000 in
theorem gX9_append_X9_indexOf : GoodIn wsX9_append (wsV RX9 29 RX9 yX9_indexOf wsX9_indexOf) := goodIn_app (goodIn_of _ (by decide +kernel)) ggX9_append_X9_indexOf
theorem dX9_append_0 : decode cX9_append 0 = .ok (.aload_n 0, 1) := by decide +kernel
theorem dX9_append_1 : decode cX9_append 1 = .ok (.invokevirtual 25, 3) := by decide +kernel
theorem dX9_append_4 : decode cX9_append 4 = .ok (.ifCond .eq 4, 3) := by decide +kernel
theorem dX9_append_7 : decode cX9_append 7 = .ok (.return_, 1) := by decide +kernel
theorem dX9_append_8 : decode cX9_append 8 = .ok (.aload_n 0, 1) := by decide +kernel
theorem dX9_append_9 : decode cX9_append 9 = .ok (.getfield 9, 3) := by decide +kernel
theorem dX9_append_12 : decode cX9_append 12 = .ok (.aload_n 0, 1) := by decide +kernel
theorem dX9_append_13 : decode cX9_append 13 = .ok (.getfield 21, 3) := by decide +kernel
theorem dX9_append_16 : decode cX9_append 16 = .ok (.iload_n 1, 1) := by decide +kernel
theorem dX9_append_17 : decode cX9_append 17 = .ok (.iastore, 1) := by decide +kernel
theorem dX9_append_18 : decode cX9_append 18 = .ok (.aload_n 0, 1) := by decide +kernel
theorem dX9_append_19 : decode cX9_append 19 = .ok (.dup, 1) := by decide +kernel
theorem dX9_append_20 : decode cX9_append 20 = .ok (.getfield 21, 3) := by decide +kernel
theorem dX9_append_23 : decode cX9_append 23 = .ok (.iconst 1, 1) := by decide +kernel
theorem dX9_append_24 : decode cX9_append 24 = .ok (.iadd, 1) := by decide +kernel
theorem dX9_append_25 : decode cX9_append 25 = .ok (.putfield 21, 3) := by decide +kernel
theorem dX9_append_28 : decode cX9_append 28 = .ok (.aload_n 0, 1) := by decide +kernel
theorem dX9_append_29 : decode cX9_append 29 = .ok (.iload_n 1, 1) := by decide +kernel
theorem dX9_append_30 : decode cX9_append 30 = .ok (.invokevirtual 29, 3) := by decide +kernel
theorem dX9_append_33 : decode cX9_append 33 = .ok (.istore_n 2, 1) := by decide +kernel
theorem dX9_append_34 : decode cX9_append 34 = .ok (.iload_n 2, 1) := by decide +kernel
theorem dX9_append_35 : decode cX9_append 35 = .ok (.ifCond .lt 25, 3) := by decide +kernel
theorem dX9_append_38 : decode cX9_append 38 = .ok (.iload_n 2, 1) := by decide +kernel
theorem dX9_append_39 : decode cX9_append 39 = .ok (.aload_n 0, 1) := by decide +kernel
theorem dX9_append_40 : decode cX9_append 40 = .ok (.getfield 18, 3) := by decide +kernel
theorem dX9_append_43 : decode cX9_append 43 = .ok (.arraylength, 1) := by decide +kernel
theorem dX9_append_44 : decode cX9_append 44 = .ok (.if_icmp .ge 16, 3) := by decide +kernel
theorem dX9_append_47 : decode cX9_append 47 = .ok (.aload_n 0, 1) := by decide +kernel
theorem dX9_append_48 : decode cX9_append 48 = .ok (.getfield 18, 3) := by decide +kernel
theorem dX9_append_51 : decode cX9_append 51 = .ok (.iload_n 2, 1) := by decide +kernel
theorem dX9_append_52 : decode cX9_append 52 = .ok (.dup2, 1) := by decide +kernel
theorem dX9_append_53 : decode cX9_append 53 = .ok (.iaload, 1) := by decide +kernel
theorem dX9_append_54 : decode cX9_append 54 = .ok (.iconst 1, 1) := by decide +kernel
theorem dX9_append_55 : decode cX9_append 55 = .ok (.iadd, 1) := by decide +kernel
theorem dX9_append_56 : decode cX9_append 56 = .ok (.iastore, 1) := by decide +kernel
theorem dX9_append_57 : decode cX9_append 57 = .ok (.goto 45, 3) := by decide +kernel
theorem dX9_append_60 : decode cX9_append 60 = .ok (.aload_n 0, 1) := by decide +kernel
theorem dX9_append_61 : decode cX9_append 61 = .ok (.getfield 33, 3) := by decide +kernel
theorem dX9_append_64 : decode cX9_append 64 = .ok (.aload_n 0, 1) := by decide +kernel
theorem dX9_append_65 : decode cX9_append 65 = .ok (.getfield 15, 3) := by decide +kernel
theorem dX9_append_68 : decode cX9_append 68 = .ok (.arraylength, 1) := by decide +kernel
theorem dX9_append_69 : decode cX9_append 69 = .ok (.if_icmp .ge 33, 3) := by decide +kernel
theorem dX9_append_72 : decode cX9_append 72 = .ok (.aload_n 0, 1) := by decide +kernel
theorem dX9_append_73 : decode cX9_append 73 = .ok (.getfield 15, 3) := by decide +kernel
theorem dX9_append_76 : decode cX9_append 76 = .ok (.aload_n 0, 1) := by decide +kernel
theorem dX9_append_77 : decode cX9_append 77 = .ok (.getfield 33, 3) := by decide +kernel
theorem dX9_append_80 : decode cX9_append 80 = .ok (.iload_n 1, 1) := by decide +kernel
theorem dX9_append_81 : decode cX9_append 81 = .ok (.iastore, 1) := by decide +kernel
theorem dX9_append_82 : decode cX9_append 82 = .ok (.aload_n 0, 1) := by decide +kernel
theorem dX9_append_83 : decode cX9_append 83 = .ok (.getfield 18, 3) := by decide +kernel
theorem dX9_append_86 : decode cX9_append 86 = .ok (.aload_n 0, 1) := by decide +kernel
theorem dX9_append_87 : decode cX9_append 87 = .ok (.getfield 33, 3) := by decide +kernel
theorem dX9_append_90 : decode cX9_append 90 = .ok (.iconst 1, 1) := by decide +kernel
theorem dX9_append_91 : decode cX9_append 91 = .ok (.iastore, 1) := by decide +kernel
theorem dX9_append_92 : decode cX9_append 92 = .ok (.aload_n 0, 1) := by decide +kernel
theorem dX9_append_93 : decode cX9_append 93 = .ok (.dup, 1) := by decide +kernel
theorem dX9_append_94 : decode cX9_append 94 = .ok (.getfield 33, 3) := by decide +kernel
theorem dX9_append_97 : decode cX9_append 97 = .ok (.iconst 1, 1) := by decide +kernel
theorem dX9_append_98 : decode cX9_append 98 = .ok (.iadd, 1) := by decide +kernel
theorem dX9_append_99 : decode cX9_append 99 = .ok (.putfield 33, 3) := by decide +kernel
theorem dX9_append_102 : decode cX9_append 102 = .ok (.return_, 1) := by decide +kernel
theorem dX9_termOn_0 : decode cX9_termOn 0 = .ok (.iload_n 1, 1) := by decide +kernel
theorem dX9_termOn_1 : decode cX9_termOn 1 = .ok (.ifCond .lt 20, 3) := by decide +kernel
theorem dX9_termOn_4 : decode cX9_termOn 4 = .ok (.iload_n 1, 1) := by decide +kernel
theorem dX9_termOn_5 : decode cX9_termOn 5 = .ok (.aload_n 0, 1) := by decide +kernel
theorem dX9_termOn_6 : decode cX9_termOn 6 = .ok (.getfield 21, 3) := by decide +kernel
theorem dX9_termOn_9 : decode cX9_termOn 9 = .ok (.if_icmp .ge 12, 3) := by decide +kernel
theorem dX9_termOn_12 : decode cX9_termOn 12 = .ok (.iload_n 1, 1) := by decide +kernel
theorem dX9_termOn_13 : decode cX9_termOn 13 = .ok (.aload_n 0, 1) := by decide +kernel
theorem dX9_termOn_14 : decode cX9_termOn 14 = .ok (.getfield 9, 3) := by decide +kernel
theorem dX9_termOn_17 : decode cX9_termOn 17 = .ok (.arraylength, 1) := by decide +kernel
theorem dX9_termOn_18 : decode cX9_termOn 18 = .ok (.if_icmp .lt 7, 3) := by decide +kernel
theorem dX9_termOn_21 : decode cX9_termOn 21 = .ok (.iconst (-1), 1) := by decide +kernel
theorem dX9_termOn_22 : decode cX9_termOn 22 = .ok (.goto 9, 3) := by decide +kernel
theorem dX9_termOn_25 : decode cX9_termOn 25 = .ok (.aload_n 0, 1) := by decide +kernel
theorem dX9_termOn_26 : decode cX9_termOn 26 = .ok (.getfield 9, 3) := by decide +kernel
theorem dX9_termOn_29 : decode cX9_termOn 29 = .ok (.iload_n 1, 1) := by decide +kernel
theorem dX9_termOn_30 : decode cX9_termOn 30 = .ok (.iaload, 1) := by decide +kernel
theorem dX9_termOn_31 : decode cX9_termOn 31 = .ok (.ireturn, 1) := by decide +kernel
theorem dX9_differentTermOn_0 : decode cX9_differentTermOn 0 = .ok (.iload_n 1, 1) := by decide +kernel
theorem dX9_differentTermOn_1 : decode cX9_differentTermOn 1 = .ok (.ifCond .lt 20, 3) := by decide +kernel
theorem dX9_differentTermOn_4 : decode cX9_differentTermOn 4 = .ok (.iload_n 1, 1) := by decide +kernel
theorem dX9_differentTermOn_5 : decode cX9_differentTermOn 5 = .ok (.aload_n 0, 1) := by decide +kernel
theorem dX9_differentTermOn_6 : decode cX9_differentTermOn 6 = .ok (.getfield 33, 3) := by decide +kernel
theorem dX9_differentTermOn_9 : decode cX9_differentTermOn 9 = .ok (.if_icmp .ge 12, 3) := by decide +kernel
theorem dX9_differentTermOn_12 : decode cX9_differentTermOn 12 = .ok (.iload_n 1, 1) := by decide +kernel
theorem dX9_differentTermOn_13 : decode cX9_differentTermOn 13 = .ok (.aload_n 0, 1) := by decide +kernel
theorem dX9_differentTermOn_14 : decode cX9_differentTermOn 14 = .ok (.getfield 15, 3) := by decide +kernel
theorem dX9_differentTermOn_17 : decode cX9_differentTermOn 17 = .ok (.arraylength, 1) := by decide +kernel
theorem dX9_differentTermOn_18 : decode cX9_differentTermOn 18 = .ok (.if_icmp .lt 7, 3) := by decide +kernel
theorem dX9_differentTermOn_21 : decode cX9_differentTermOn 21 = .ok (.iconst (-1), 1) := by decide +kernel
theorem dX9_differentTermOn_22 : decode cX9_differentTermOn 22 = .ok (.goto 9, 3) := by decide +kernel
theorem dX9_differentTermOn_25 : decode cX9_differentTermOn 25 = .ok (.aload_n 0, 1) := by decide +kernel
theorem dX9_differentTermOn_26 : decode cX9_differentTermOn 26 = .ok (.getfield 15, 3) := by decide +kernel
theorem dX9_differentTermOn_29 : decode cX9_differentTermOn 29 = .ok (.iload_n 1, 1) := by decide +kernel
theorem dX9_differentTermOn_30 : decode cX9_differentTermOn 30 = .ok (.iaload, 1) := by decide +kernel
theorem dX9_differentTermOn_31 : decode cX9_differentTermOn 31 = .ok (.ireturn, 1) := by decide +kernel
set_option maxRecDepth 20000 in
theorem ggX9_countOf_X9_indexOf : GoodIn wsX9_countOf wsX9_indexOf := goodIn_r _ [6, 7, 8, 9, 10, 11, 12, 13] (by decide +kernel) (by decide +kernel)
set_option maxRecDepth 20000 in
theorem gX9_countOf_X9_indexOf : GoodIn wsX9_countOf (wsV RX9 29 RX9 yX9_indexOf wsX9_indexOf) := goodIn_app (goodIn_of _ (by decide +kernel)) ggX9_countOf_X9_indexOf
theorem dX9_countOf_0 : decode cX9_countOf 0 = .ok (.aload_n 0, 1) := by decide +kernel
theorem dX9_countOf_1 : decode cX9_countOf 1 = .ok (.iload_n 1, 1) := by decide +kernel
theorem dX9_countOf_2 : decode cX9_countOf 2 = .ok (.invokevirtual 29, 3) := by decide +kernel
theorem dX9_countOf_5 : decode cX9_countOf 5 = .ok (.istore_n 2, 1) := by decide +kernel
theorem dX9_countOf_6 : decode cX9_countOf 6 = .ok (.iload_n 2, 1) := by decide +kernel
theorem dX9_countOf_7 : decode cX9_countOf 7 = .ok (.ifCond .lt 12, 3) := by decide +kernel
theorem dX9_countOf_10 : decode cX9_countOf 10 = .ok (.iload_n 2, 1) := by decide +kernel
theorem dX9_countOf_11 : decode cX9_countOf 11 = .ok (.aload_n 0, 1) := by decide +kernel
theorem dX9_countOf_12 : decode cX9_countOf 12 = .ok (.getfield 18, 3) := by decide +kernel
theorem dX9_countOf_15 : decode cX9_countOf 15 = .ok (.arraylength, 1) := by decide +kernel
theorem dX9_countOf_16 : decode cX9_countOf 16 = .ok (.if_icmp .lt 7, 3) := by decide +kernel
theorem dX9_countOf_19 : decode cX9_countOf 19 = .ok (.iconst 0, 1) := by decide +kernel
theorem dX9_countOf_20 : decode cX9_countOf 20 = .ok (.goto 9, 3) := by decide +kernel
theorem dX9_countOf_23 : decode cX9_countOf 23 = .ok (.aload_n 0, 1) := by decide +kernel
theorem dX9_countOf_24 : decode cX9_countOf 24 = .ok (.getfield 18, 3) := by decide +kernel
theorem dX9_countOf_27 : decode cX9_countOf 27 = .ok (.iload_n 2, 1) := by decide +kernel
theorem dX9_countOf_28 : decode cX9_countOf 28 = .ok (.iaload, 1) := by decide +kernel
theorem dX9_countOf_29 : decode cX9_countOf 29 = .ok (.ireturn, 1) := by decide +kernel
theorem dX9_indexOf_0 : decode cX9_indexOf 0 = .ok (.iconst 0, 1) := by decide +kernel
theorem dX9_indexOf_1 : decode cX9_indexOf 1 = .ok (.istore_n 2, 1) := by decide +kernel
theorem dX9_indexOf_2 : decode cX9_indexOf 2 = .ok (.iload_n 2, 1) := by decide +kernel
theorem dX9_indexOf_3 : decode cX9_indexOf 3 = .ok (.aload_n 0, 1) := by decide +kernel
theorem dX9_indexOf_4 : decode cX9_indexOf 4 = .ok (.getfield 33, 3) := by decide +kernel
theorem dX9_indexOf_7 : decode cX9_indexOf 7 = .ok (.if_icmp .ge 30, 3) := by decide +kernel
theorem dX9_indexOf_10 : decode cX9_indexOf 10 = .ok (.iload_n 2, 1) := by decide +kernel
theorem dX9_indexOf_11 : decode cX9_indexOf 11 = .ok (.aload_n 0, 1) := by decide +kernel
theorem dX9_indexOf_12 : decode cX9_indexOf 12 = .ok (.getfield 15, 3) := by decide +kernel
theorem dX9_indexOf_15 : decode cX9_indexOf 15 = .ok (.arraylength, 1) := by decide +kernel
theorem dX9_indexOf_16 : decode cX9_indexOf 16 = .ok (.if_icmp .ge 21, 3) := by decide +kernel
theorem dX9_indexOf_19 : decode cX9_indexOf 19 = .ok (.aload_n 0, 1) := by decide +kernel
theorem dX9_indexOf_20 : decode cX9_indexOf 20 = .ok (.getfield 15, 3) := by decide +kernel
theorem dX9_indexOf_23 : decode cX9_indexOf 23 = .ok (.iload_n 2, 1) := by decide +kernel
theorem dX9_indexOf_24 : decode cX9_indexOf 24 = .ok (.iaload, 1) := by decide +kernel
theorem dX9_indexOf_25 : decode cX9_indexOf 25 = .ok (.iload_n 1, 1) := by decide +kernel
theorem dX9_indexOf_26 : decode cX9_indexOf 26 = .ok (.if_icmp .ne 5, 3) := by decide +kernel
theorem dX9_indexOf_29 : decode cX9_indexOf 29 = .ok (.iload_n 2, 1) := by decide +kernel
theorem dX9_indexOf_30 : decode cX9_indexOf 30 = .ok (.ireturn, 1) := by decide +kernel
theorem dX9_indexOf_31 : decode cX9_indexOf 31 = .ok (.iinc 2 1, 3) := by decide +kernel
theorem dX9_indexOf_34 : decode cX9_indexOf 34 = .ok (.goto (-32), 3) := by decide +kernel
theorem dX9_indexOf_37 : decode cX9_indexOf 37 = .ok (.iconst (-1), 1) := by decide +kernel
theorem dX9_indexOf_38 : decode cX9_indexOf 38 = .ok (.ireturn, 1) := by decide +kernel
set_option maxRecDepth 20000 in
theorem ggX10_init_X0_init : GoodIn wsX10_init wsX0_init := goodIn_r _ [39, 40, 2, 3, 41, 42, 36, 43, 44, 25, 26, 45, 46, 47, 48, 49, 50, 51, 100, 101, 102, 103, 104, 105, 134, 135, 136] (by decide +kernel) (by decide +kernel)
set_option maxRecDepth 20000 in
theorem gX10_init_X0_init_n9 : GoodIn wsX10_init (wsX0_init) := ggX10_init_X0_init
set_option maxRecDepth 20000 in
theorem ggX10_init_X4_init : GoodIn wsX10_init wsX4_init := goodIn_r _ [54, 55, 2, 3, 56, 57, 36, 58, 59, 60, 61, 62, 63, 116, 117, 118] (by decide +kernel) (by decide +kernel)
set_option maxRecDepth 20000 in
theorem gX10_init_X4_init : GoodIn wsX10_init (wsX4_init) := ggX10_init_X4_init
set_option maxRecDepth 20000 in
theorem ggX10_init_X6_init : GoodIn wsX10_init wsX6_init := goodIn_r _ [66, 67, 2, 3, 68, 69, 56, 70, 71, 72, 119, 120, 121, 122, 123] (by decide +kernel) (by decide +kernel)
set_option maxRecDepth 20000 in
theorem gX10_init_X6_init : GoodIn wsX10_init (wsX6_init) := ggX10_init_X6_init
set_option maxRecDepth 20000 in
theorem ggX10_init_X7_init : GoodIn wsX10_init wsX7_init := goodIn_r _ [74, 75, 2, 3, 76, 77, 36, 78, 79, 124, 125, 126, 127] (by decide +kernel) (by decide +kernel)
set_option maxRecDepth 20000 in
theorem gX10_init_X7_init_n34 : GoodIn wsX10_init (wsX7_init) := ggX10_init_X7_init
set_option maxRecDepth 20000 in
theorem ggX10_init_X3_init : GoodIn wsX10_init wsX3_init := goodIn_r _ [82, 83, 2, 3, 84, 36, 85, 86, 87, 88, 89, 90, 128, 129, 130, 131, 132, 133] (by decide +kernel) (by decide +kernel)
set_option maxRecDepth 20000 in
theorem gX10_init_X3_init : GoodIn wsX10_init (wsX3_init) := ggX10_init_X3_init
set_option maxRecDepth 20000 in
theorem ggX10_init_X1_init : GoodIn wsX10_init wsX1_init := goodIn_r _ [47, 48, 2, 3, 49, 36, 50, 51, 134, 135, 136] (by decide +kernel) (by decide +kernel)
set_option maxRecDepth 20000 in
theorem gX10_init_X1_init_n50 : GoodIn wsX10_init (wsX1_init) := ggX10_init_X1_init
set_option maxRecDepth 20000 in
theorem ggX10_init_X8_init : GoodIn wsX10_init wsX8_init := goodIn_r _ [93, 94, 2, 3, 36, 95, 96, 97, 98, 99, 137, 138, 139, 140, 141] (by decide +kernel) (by decide +kernel)
set_option maxRecDepth 20000 in
theorem gX10_init_X8_init : GoodIn wsX10_init (wsX8_init) := ggX10_init_X8_init
theorem dX10_init_0 : decode cX10_init 0 = .ok (.aload_n 0, 1) := by decide +kernel
theorem dX10_init_1 : decode cX10_init 1 = .ok (.invokespecial 1, 3) := by decide +kernel
theorem dX10_init_4 : decode cX10_init 4 = .ok (.aload_n 0, 1) := by decide +kernel
theorem dX10_init_5 : decode cX10_init 5 = .ok (.new 7, 3) := by decide +kernel
theorem dX10_init_8 : decode cX10_init 8 = .ok (.dup, 1) := by decide +kernel
theorem dX10_init_9 : decode cX10_init 9 = .ok (.invokespecial 9, 3) := by decide +kernel
theorem dX10_init_12 : decode cX10_init 12 = .ok (.putfield 10, 3) := by decide +kernel
theorem dX10_init_15 : decode cX10_init 15 = .ok (.aload_n 0, 1) := by decide +kernel
theorem dX10_init_16 : decode cX10_init 16 = .ok (.new 16, 3) := by decide +kernel
theorem dX10_init_19 : decode cX10_init 19 = .ok (.dup, 1) := by decide +kernel
theorem dX10_init_20 : decode cX10_init 20 = .ok (.invokespecial 18, 3) := by decide +kernel
theorem dX10_init_23 : decode cX10_init 23 = .ok (.putfield 19, 3) := by decide +kernel
theorem dX10_init_26 : decode cX10_init 26 = .ok (.aload_n 0, 1) := by decide +kernel
theorem dX10_init_27 : decode cX10_init 27 = .ok (.new 23, 3) := by decide +kernel
theorem dX10_init_30 : decode cX10_init 30 = .ok (.dup, 1) := by decide +kernel
theorem dX10_init_31 : decode cX10_init 31 = .ok (.aload_n 0, 1) := by decide +kernel
theorem dX10_init_32 : decode cX10_init 32 = .ok (.getfield 19, 3) := by decide +kernel
theorem dX10_init_35 : decode cX10_init 35 = .ok (.invokespecial 25, 3) := by decide +kernel
theorem dX10_init_38 : decode cX10_init 38 = .ok (.putfield 28, 3) := by decide +kernel
theorem dX10_init_41 : decode cX10_init 41 = .ok (.aload_n 0, 1) := by decide +kernel
theorem dX10_init_42 : decode cX10_init 42 = .ok (.new 32, 3) := by decide +kernel
theorem dX10_init_45 : decode cX10_init 45 = .ok (.dup, 1) := by decide +kernel
theorem dX10_init_46 : decode cX10_init 46 = .ok (.invokespecial 34, 3) := by decide +kernel
theorem dX10_init_49 : decode cX10_init 49 = .ok (.putfield 35, 3) := by decide +kernel
theorem dX10_init_52 : decode cX10_init 52 = .ok (.aload_n 0, 1) := by decide +kernel
theorem dX10_init_53 : decode cX10_init 53 = .ok (.new 39, 3) := by decide +kernel
theorem dX10_init_56 : decode cX10_init 56 = .ok (.dup, 1) := by decide +kernel
theorem dX10_init_57 : decode cX10_init 57 = .ok (.aload_n 0, 1) := by decide +kernel
theorem dX10_init_58 : decode cX10_init 58 = .ok (.getfield 10, 3) := by decide +kernel
theorem dX10_init_61 : decode cX10_init 61 = .ok (.aload_n 0, 1) := by decide +kernel
theorem dX10_init_62 : decode cX10_init 62 = .ok (.getfield 19, 3) := by decide +kernel
theorem dX10_init_65 : decode cX10_init 65 = .ok (.invokespecial 41, 3) := by decide +kernel
theorem dX10_init_68 : decode cX10_init 68 = .ok (.putfield 44, 3) := by decide +kernel
theorem dX10_init_71 : decode cX10_init 71 = .ok (.aload_n 0, 1) := by decide +kernel
theorem dX10_init_72 : decode cX10_init 72 = .ok (.new 48, 3) := by decide +kernel
theorem dX10_init_75 : decode cX10_init 75 = .ok (.dup, 1) := by decide +kernel
theorem dX10_init_76 : decode cX10_init 76 = .ok (.invokespecial 50, 3) := by decide +kernel
theorem dX10_init_79 : decode cX10_init 79 = .ok (.putfield 51, 3) := by decide +kernel
theorem dX10_init_82 : decode cX10_init 82 = .ok (.aload_n 0, 1) := by decide +kernel
theorem dX10_init_83 : decode cX10_init 83 = .ok (.new 55, 3) := by decide +kernel
theorem dX10_init_86 : decode cX10_init 86 = .ok (.dup, 1) := by decide +kernel
theorem dX10_init_87 : decode cX10_init 87 = .ok (.aload_n 0, 1) := by decide +kernel
theorem dX10_init_88 : decode cX10_init 88 = .ok (.getfield 28, 3) := by decide +kernel
theorem dX10_init_91 : decode cX10_init 91 = .ok (.aload_n 0, 1) := by decide +kernel
theorem dX10_init_92 : decode cX10_init 92 = .ok (.getfield 19, 3) := by decide +kernel
theorem dX10_init_95 : decode cX10_init 95 = .ok (.aload_n 0, 1) := by decide +kernel
theorem dX10_init_96 : decode cX10_init 96 = .ok (.getfield 10, 3) := by decide +kernel
theorem dX10_init_99 : decode cX10_init 99 = .ok (.getfield 57, 3) := by decide +kernel
theorem dX10_init_102 : decode cX10_init 102 = .ok (.iconst 1, 1) := by decide +kernel
theorem dX10_init_103 : decode cX10_init 103 = .ok (.invokespecial 60, 3) := by decide +kernel
theorem dX10_init_106 : decode cX10_init 106 = .ok (.putfield 63, 3) := by decide +kernel
theorem dX10_init_109 : decode cX10_init 109 = .ok (.aload_n 0, 1) := by decide +kernel
theorem dX10_init_110 : decode cX10_init 110 = .ok (.new 55, 3) := by decide +kernel
theorem dX10_init_113 : decode cX10_init 113 = .ok (.dup, 1) := by decide +kernel
theorem dX10_init_114 : decode cX10_init 114 = .ok (.aload_n 0, 1) := by decide +kernel
theorem dX10_init_115 : decode cX10_init 115 = .ok (.getfield 28, 3) := by decide +kernel
theorem dX10_init_118 : decode cX10_init 118 = .ok (.aload_n 0, 1) := by decide +kernel
theorem dX10_init_119 : decode cX10_init 119 = .ok (.getfield 19, 3) := by decide +kernel
theorem dX10_init_122 : decode cX10_init 122 = .ok (.aload_n 0, 1) := by decide +kernel
theorem dX10_init_123 : decode cX10_init 123 = .ok (.getfield 10, 3) := by decide +kernel
theorem dX10_init_126 : decode cX10_init 126 = .ok (.getfield 57, 3) := by decide +kernel
theorem dX10_init_129 : decode cX10_init 129 = .ok (.iconst 0, 1) := by decide +kernel
theorem dX10_init_130 : decode cX10_init 130 = .ok (.invokespecial 60, 3) := by decide +kernel
theorem dX10_init_133 : decode cX10_init 133 = .ok (.putfield 67, 3) := by decide +kernel
theorem dX10_init_136 : decode cX10_init 136 = .ok (.aload_n 0, 1) := by decide +kernel
theorem dX10_init_137 : decode cX10_init 137 = .ok (.new 55, 3) := by decide +kernel
theorem dX10_init_140 : decode cX10_init 140 = .ok (.dup, 1) := by decide +kernel
theorem dX10_init_141 : decode cX10_init 141 = .ok (.aload_n 0, 1) := by decide +kernel
theorem dX10_init_142 : decode cX10_init 142 = .ok (.getfield 28, 3) := by decide +kernel
theorem dX10_init_145 : decode cX10_init 145 = .ok (.aload_n 0, 1) := by decide +kernel
theorem dX10_init_146 : decode cX10_init 146 = .ok (.getfield 19, 3) := by decide +kernel
theorem dX10_init_149 : decode cX10_init 149 = .ok (.aload_n 0, 1) := by decide +kernel
theorem dX10_init_150 : decode cX10_init 150 = .ok (.getfield 51, 3) := by decide +kernel
theorem dX10_init_153 : decode cX10_init 153 = .ok (.iconst 1, 1) := by decide +kernel
theorem dX10_init_154 : decode cX10_init 154 = .ok (.invokespecial 60, 3) := by decide +kernel
theorem dX10_init_157 : decode cX10_init 157 = .ok (.putfield 70, 3) := by decide +kernel
theorem dX10_init_160 : decode cX10_init 160 = .ok (.aload_n 0, 1) := by decide +kernel
theorem dX10_init_161 : decode cX10_init 161 = .ok (.bipush 30, 2) := by decide +kernel
theorem dX10_init_163 : decode cX10_init 163 = .ok (.bipush 60, 2) := by decide +kernel
theorem dX10_init_165 : decode cX10_init 165 = .ok (.multianewarray 73 2, 4) := by decide +kernel
theorem dX10_init_169 : decode cX10_init 169 = .ok (.putfield 75, 3) := by decide +kernel
theorem dX10_init_172 : decode cX10_init 172 = .ok (.return_, 1) := by decide +kernel
set_option maxRecDepth 20000 in
theorem ggX10_open_X10_isDate : GoodIn wsX10_open wsX10_isDate := goodIn_r _ [14] (by decide +kernel) (by decide +kernel)
set_option maxRecDepth 20000 in
theorem gX10_open_X10_isDate : GoodIn wsX10_open (va_wsS RX10 78 yX10_isDate wsX10_isDate) := goodIn_app (goodIn_of _ (by decide +kernel)) ggX10_open_X10_isDate
set_option maxRecDepth 20000 in
theorem ggX10_open_X10_isKind : GoodIn wsX10_open wsX10_isKind := goodIn_r _ [17] (by decide +kernel) (by decide +kernel)
set_option maxRecDepth 20000 in
theorem gX10_open_X10_isKind : GoodIn wsX10_open (va_wsS RX10 82 yX10_isKind wsX10_isKind) := goodIn_app (goodIn_of _ (by decide +kernel)) ggX10_open_X10_isKind
set_option maxRecDepth 20000 in
theorem ggX10_open_X0_isFull : GoodIn wsX10_open wsX0_isFull := goodIn_r _ [22, 23, 24, 55, 56, 57, 58, 59, 60] (by decide +kernel) (by decide +kernel)
set_option maxRecDepth 20000 in
theorem gX10_open_X0_isFull : GoodIn wsX10_open (wsV RX10 96 RX0 yX0_isFull wsX0_isFull) := goodIn_app (goodIn_of _ (by decide +kernel)) ggX10_open_X0_isFull
set_option maxRecDepth 20000 in
theorem ggX10_open_X2_init : GoodIn wsX10_open wsX2_init := goodIn_r _ [27, 28, 29, 30, 31, 32, 33, 34, 35, 36, 37, 38, 39, 40, 41, 42, 43, 44, 61, 62, 63, 64, 65, 66, 67, 68, 69, 70] (by decide +kernel) (by decide +kernel)
set_option maxRecDepth 20000 in
theorem gX10_open_X2_init : GoodIn wsX10_open (wsX2_init) := ggX10_open_X2_init
theorem dX10_open_0 : decode cX10_open 0 = .ok (.iload_n 1, 1) := by decide +kernel
theorem dX10_open_1 : decode cX10_open 1 = .ok (.invokestatic 78, 3) := by decide +kernel
theorem dX10_open_4 : decode cX10_open 4 = .ok (.ifCond .eq 10, 3) := by decide +kernel
theorem dX10_open_7 : decode cX10_open 7 = .ok (.iload_n 2, 1) := by decide +kernel
theorem dX10_open_8 : decode cX10_open 8 = .ok (.invokestatic 82, 3) := by decide +kernel
theorem dX10_open_11 : decode cX10_open 11 = .ok (.ifCond .ne 13, 3) := by decide +kernel
theorem dX10_open_14 : decode cX10_open 14 = .ok (.new 85, 3) := by decide +kernel
theorem dX10_open_17 : decode cX10_open 17 = .ok (.dup, 1) := by decide +kernel
theorem dX10_open_18 : decode cX10_open 18 = .ok (.ldc 87, 2) := by decide +kernel
theorem dX10_open_20 : decode cX10_open 20 = .ok (.invokespecial 89, 3) := by decide +kernel
theorem dX10_open_23 : decode cX10_open 23 = .ok (.athrow, 1) := by decide +kernel
theorem dX10_open_24 : decode cX10_open 24 = .ok (.aload_n 0, 1) := by decide +kernel
theorem dX10_open_25 : decode cX10_open 25 = .ok (.getfield 10, 3) := by decide +kernel
theorem dX10_open_28 : decode cX10_open 28 = .ok (.getfield 92, 3) := by decide +kernel
theorem dX10_open_31 : decode cX10_open 31 = .ok (.ifnonnull 13, 3) := by decide +kernel
theorem dX10_open_34 : decode cX10_open 34 = .ok (.aload_n 0, 1) := by decide +kernel
theorem dX10_open_35 : decode cX10_open 35 = .ok (.getfield 10, 3) := by decide +kernel
theorem dX10_open_38 : decode cX10_open 38 = .ok (.invokevirtual 96, 3) := by decide +kernel
theorem dX10_open_41 : decode cX10_open 41 = .ok (.ifCond .eq 13, 3) := by decide +kernel
theorem dX10_open_44 : decode cX10_open 44 = .ok (.new 100, 3) := by decide +kernel
theorem dX10_open_47 : decode cX10_open 47 = .ok (.dup, 1) := by decide +kernel
theorem dX10_open_48 : decode cX10_open 48 = .ok (.ldc 102, 2) := by decide +kernel
theorem dX10_open_50 : decode cX10_open 50 = .ok (.invokespecial 104, 3) := by decide +kernel
theorem dX10_open_53 : decode cX10_open 53 = .ok (.athrow, 1) := by decide +kernel
theorem dX10_open_54 : decode cX10_open 54 = .ok (.aload_n 0, 1) := by decide +kernel
theorem dX10_open_55 : decode cX10_open 55 = .ok (.getfield 10, 3) := by decide +kernel
theorem dX10_open_58 : decode cX10_open 58 = .ok (.new 105, 3) := by decide +kernel
theorem dX10_open_61 : decode cX10_open 61 = .ok (.dup, 1) := by decide +kernel
theorem dX10_open_62 : decode cX10_open 62 = .ok (.iload_n 1, 1) := by decide +kernel
theorem dX10_open_63 : decode cX10_open 63 = .ok (.iload_n 2, 1) := by decide +kernel
theorem dX10_open_64 : decode cX10_open 64 = .ok (.invokespecial 107, 3) := by decide +kernel
theorem dX10_open_67 : decode cX10_open 67 = .ok (.putfield 92, 3) := by decide +kernel
theorem dX10_open_70 : decode cX10_open 70 = .ok (.aload_n 0, 1) := by decide +kernel
theorem dX10_open_71 : decode cX10_open 71 = .ok (.getfield 10, 3) := by decide +kernel
theorem dX10_open_74 : decode cX10_open 74 = .ok (.getfield 110, 3) := by decide +kernel
theorem dX10_open_77 : decode cX10_open 77 = .ok (.ireturn, 1) := by decide +kernel
set_option maxRecDepth 20000 in
theorem ggX10_write_X10_isField : GoodIn wsX10_write wsX10_isField := goodIn_r _ [11] (by decide +kernel) (by decide +kernel)
set_option maxRecDepth 20000 in
theorem gX10_write_X10_isField : GoodIn wsX10_write (va_wsS RX10 114 yX10_isField wsX10_isField) := goodIn_app (goodIn_of _ (by decide +kernel)) ggX10_write_X10_isField
set_option maxRecDepth 20000 in
theorem ggX10_write_X10_isTerm : GoodIn wsX10_write wsX10_isTerm := goodIn_r _ [14] (by decide +kernel) (by decide +kernel)
set_option maxRecDepth 20000 in
theorem gX10_write_X10_isTerm : GoodIn wsX10_write (va_wsS RX10 117 yX10_isTerm wsX10_isTerm) := goodIn_app (goodIn_of _ (by decide +kernel)) ggX10_write_X10_isTerm
set_option maxRecDepth 20000 in
theorem ggX10_write_X2_rowOf : GoodIn wsX10_write wsX2_rowOf := goodIn_r _ [19, 20, 61, 62, 63, 64, 65] (by decide +kernel) (by decide +kernel)
set_option maxRecDepth 20000 in
theorem gX10_write_X2_rowOf : GoodIn wsX10_write (wsV RX10 124 RX2 yX2_rowOf wsX2_rowOf) := goodIn_app (goodIn_of _ (by decide +kernel)) ggX10_write_X2_rowOf
set_option maxRecDepth 20000 in
theorem ggX10_write_X9_isFull : GoodIn wsX10_write wsX9_isFull := goodIn_r _ [25, 26, 27, 56, 57, 58, 59, 60] (by decide +kernel) (by decide +kernel)
set_option maxRecDepth 20000 in
theorem gX10_write_X9_isFull : GoodIn wsX10_write (wsV RX10 128 RX9 yX9_isFull wsX9_isFull) := goodIn_app (goodIn_of _ (by decide +kernel)) ggX10_write_X9_isFull
set_option maxRecDepth 20000 in
theorem ggX10_write_X9_append : GoodIn wsX10_write wsX9_append := goodIn_r _ [31, 27, 26, 32, 33, 34, 35, 22, 23, 24, 25, 36, 37, 38, 39, 56, 57, 58, 59, 60] (by decide +kernel) (by decide +kernel)
set_option maxRecDepth 20000 in
theorem gX10_write_X9_append : GoodIn wsX10_write (wsV RX10 133 RX9 yX9_append wsX9_append) := goodIn_app (goodIn_of _ (by decide +kernel)) ggX10_write_X9_append
theorem dX10_write_0 : decode cX10_write 0 = .ok (.iload_n 1, 1) := by decide +kernel
theorem dX10_write_1 : decode cX10_write 1 = .ok (.invokestatic 114, 3) := by decide +kernel
theorem dX10_write_4 : decode cX10_write 4 = .ok (.ifCond .eq 10, 3) := by decide +kernel
theorem dX10_write_7 : decode cX10_write 7 = .ok (.iload_n 2, 1) := by decide +kernel
theorem dX10_write_8 : decode cX10_write 8 = .ok (.invokestatic 117, 3) := by decide +kernel
theorem dX10_write_11 : decode cX10_write 11 = .ok (.ifCond .ne 13, 3) := by decide +kernel
theorem dX10_write_14 : decode cX10_write 14 = .ok (.new 85, 3) := by decide +kernel
theorem dX10_write_17 : decode cX10_write 17 = .ok (.dup, 1) := by decide +kernel
theorem dX10_write_18 : decode cX10_write 18 = .ok (.ldc 120, 2) := by decide +kernel
theorem dX10_write_20 : decode cX10_write 20 = .ok (.invokespecial 89, 3) := by decide +kernel
theorem dX10_write_23 : decode cX10_write 23 = .ok (.athrow, 1) := by decide +kernel
theorem dX10_write_24 : decode cX10_write 24 = .ok (.aload_n 0, 1) := by decide +kernel
theorem dX10_write_25 : decode cX10_write 25 = .ok (.getfield 10, 3) := by decide +kernel
theorem dX10_write_28 : decode cX10_write 28 = .ok (.getfield 92, 3) := by decide +kernel
theorem dX10_write_31 : decode cX10_write 31 = .ok (.astore_n 3, 1) := by decide +kernel
theorem dX10_write_32 : decode cX10_write 32 = .ok (.aload_n 3, 1) := by decide +kernel
theorem dX10_write_33 : decode cX10_write 33 = .ok (.ifnonnull 13, 3) := by decide +kernel
theorem dX10_write_36 : decode cX10_write 36 = .ok (.new 100, 3) := by decide +kernel
theorem dX10_write_39 : decode cX10_write 39 = .ok (.dup, 1) := by decide +kernel
theorem dX10_write_40 : decode cX10_write 40 = .ok (.ldc 122, 2) := by decide +kernel
theorem dX10_write_42 : decode cX10_write 42 = .ok (.invokespecial 104, 3) := by decide +kernel
theorem dX10_write_45 : decode cX10_write 45 = .ok (.athrow, 1) := by decide +kernel
theorem dX10_write_46 : decode cX10_write 46 = .ok (.aload_n 3, 1) := by decide +kernel
theorem dX10_write_47 : decode cX10_write 47 = .ok (.iload_n 1, 1) := by decide +kernel
theorem dX10_write_48 : decode cX10_write 48 = .ok (.invokevirtual 124, 3) := by decide +kernel
theorem dX10_write_51 : decode cX10_write 51 = .ok (.astore 4, 2) := by decide +kernel
theorem dX10_write_53 : decode cX10_write 53 = .ok (.aload 4, 2) := by decide +kernel
theorem dX10_write_55 : decode cX10_write 55 = .ok (.ifnull 11, 3) := by decide +kernel
theorem dX10_write_58 : decode cX10_write 58 = .ok (.aload 4, 2) := by decide +kernel
theorem dX10_write_60 : decode cX10_write 60 = .ok (.invokevirtual 128, 3) := by decide +kernel
theorem dX10_write_63 : decode cX10_write 63 = .ok (.ifCond .eq 13, 3) := by decide +kernel
theorem dX10_write_66 : decode cX10_write 66 = .ok (.new 100, 3) := by decide +kernel
theorem dX10_write_69 : decode cX10_write 69 = .ok (.dup, 1) := by decide +kernel
theorem dX10_write_70 : decode cX10_write 70 = .ok (.ldc 131, 2) := by decide +kernel
theorem dX10_write_72 : decode cX10_write 72 = .ok (.invokespecial 104, 3) := by decide +kernel
theorem dX10_write_75 : decode cX10_write 75 = .ok (.athrow, 1) := by decide +kernel
theorem dX10_write_76 : decode cX10_write 76 = .ok (.aload 4, 2) := by decide +kernel
theorem dX10_write_78 : decode cX10_write 78 = .ok (.iload_n 2, 1) := by decide +kernel
theorem dX10_write_79 : decode cX10_write 79 = .ok (.invokevirtual 133, 3) := by decide +kernel
theorem dX10_write_82 : decode cX10_write 82 = .ok (.aload 4, 2) := by decide +kernel
theorem dX10_write_84 : decode cX10_write 84 = .ok (.getfield 137, 3) := by decide +kernel
theorem dX10_write_87 : decode cX10_write 87 = .ok (.ireturn, 1) := by decide +kernel
set_option maxRecDepth 20000 in
theorem ggX10_close_X0_takeIn : GoodIn wsX10_close wsX0_takeIn := goodIn_r _ [9, 10, 11, 12, 13, 14, 15, 8, 16, 40, 41, 42, 43, 44, 45] (by decide +kernel) (by decide +kernel)
set_option maxRecDepth 20000 in
theorem gX10_close_X0_takeIn : GoodIn wsX10_close (wsV RX10 140 RX0 yX0_takeIn wsX0_takeIn) := goodIn_app (goodIn_of _ (by decide +kernel)) ggX10_close_X0_takeIn
set_option maxRecDepth 20000 in
theorem ggX10_close_X0_bufferSize : GoodIn wsX10_close wsX0_bufferSize := goodIn_r _ [20, 21, 22, 23, 8, 24, 11, 25, 26, 27, 28, 29, 10, 40, 41, 42, 43, 44, 45, 46, 47, 48, 49, 50] (by decide +kernel) (by decide +kernel)
set_option maxRecDepth 20000 in
theorem gX10_close_X0_bufferSize : GoodIn wsX10_close (wsV RX10 143 RX0 yX0_bufferSize wsX0_bufferSize) := goodIn_app (goodIn_of _ (by decide +kernel)) ggX10_close_X0_bufferSize
theorem dX10_close_0 : decode cX10_close 0 = .ok (.aload_n 0, 1) := by decide +kernel
theorem dX10_close_1 : decode cX10_close 1 = .ok (.getfield 10, 3) := by decide +kernel
theorem dX10_close_4 : decode cX10_close 4 = .ok (.getfield 92, 3) := by decide +kernel
theorem dX10_close_7 : decode cX10_close 7 = .ok (.ifnonnull 13, 3) := by decide +kernel
theorem dX10_close_10 : decode cX10_close 10 = .ok (.new 100, 3) := by decide +kernel
theorem dX10_close_13 : decode cX10_close 13 = .ok (.dup, 1) := by decide +kernel
theorem dX10_close_14 : decode cX10_close 14 = .ok (.ldc 122, 2) := by decide +kernel
theorem dX10_close_16 : decode cX10_close 16 = .ok (.invokespecial 104, 3) := by decide +kernel
theorem dX10_close_19 : decode cX10_close 19 = .ok (.athrow, 1) := by decide +kernel
theorem dX10_close_20 : decode cX10_close 20 = .ok (.aload_n 0, 1) := by decide +kernel
theorem dX10_close_21 : decode cX10_close 21 = .ok (.getfield 10, 3) := by decide +kernel
theorem dX10_close_24 : decode cX10_close 24 = .ok (.invokevirtual 140, 3) := by decide +kernel
theorem dX10_close_27 : decode cX10_close 27 = .ok (.aload_n 0, 1) := by decide +kernel
theorem dX10_close_28 : decode cX10_close 28 = .ok (.getfield 10, 3) := by decide +kernel
theorem dX10_close_31 : decode cX10_close 31 = .ok (.invokevirtual 143, 3) := by decide +kernel
theorem dX10_close_34 : decode cX10_close 34 = .ok (.ireturn, 1) := by decide +kernel
set_option maxRecDepth 20000 in
theorem ggX10_remove_X0_documentAt : GoodIn wsX10_remove wsX0_documentAt := goodIn_r _ [9, 10, 11, 27, 28, 29, 30, 31, 32] (by decide +kernel) (by decide +kernel)
set_option maxRecDepth 20000 in
theorem gX10_remove_X0_documentAt : GoodIn wsX10_remove (wsV RX10 147 RX0 yX0_documentAt wsX0_documentAt) := goodIn_app (goodIn_of _ (by decide +kernel)) ggX10_remove_X0_documentAt
