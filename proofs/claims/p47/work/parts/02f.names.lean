set_option maxRecDepth 20000 in
theorem ggX0_init_X1_init : GoodIn wsX0_init wsX1_init := goodIn_r _ [13, 14, 2, 3, 15, 6, 16, 17, 24, 25, 26] (by decide +kernel) (by decide +kernel)
set_option maxRecDepth 20000 in
theorem gX0_init_X1_init_n23 : GoodIn wsX0_init (wsX1_init) := ggX0_init_X1_init
theorem dX0_init_0 : decode cX0_init 0 = .ok (.aload_n 0, 1) := by decide +kernel
theorem dX0_init_1 : decode cX0_init 1 = .ok (.invokespecial 3, 3) := by decide +kernel
theorem dX0_init_4 : decode cX0_init 4 = .ok (.aload_n 0, 1) := by decide +kernel
theorem dX0_init_5 : decode cX0_init 5 = .ok (.bipush 60, 2) := by decide +kernel
theorem dX0_init_7 : decode cX0_init 7 = .ok (.anewarray 9, 3) := by decide +kernel
theorem dX0_init_10 : decode cX0_init 10 = .ok (.putfield 11, 3) := by decide +kernel
theorem dX0_init_13 : decode cX0_init 13 = .ok (.aload_n 0, 1) := by decide +kernel
theorem dX0_init_14 : decode cX0_init 14 = .ok (.bipush 60, 2) := by decide +kernel
theorem dX0_init_16 : decode cX0_init 16 = .ok (.newarray .int, 2) := by decide +kernel
theorem dX0_init_18 : decode cX0_init 18 = .ok (.putfield 17, 3) := by decide +kernel
theorem dX0_init_21 : decode cX0_init 21 = .ok (.aload_n 0, 1) := by decide +kernel
theorem dX0_init_22 : decode cX0_init 22 = .ok (.new 21, 3) := by decide +kernel
theorem dX0_init_25 : decode cX0_init 25 = .ok (.dup, 1) := by decide +kernel
theorem dX0_init_26 : decode cX0_init 26 = .ok (.invokespecial 23, 3) := by decide +kernel
theorem dX0_init_29 : decode cX0_init 29 = .ok (.putfield 24, 3) := by decide +kernel
theorem dX0_init_32 : decode cX0_init 32 = .ok (.return_, 1) := by decide +kernel
theorem dX0_isFull_0 : decode cX0_isFull 0 = .ok (.aload_n 0, 1) := by decide +kernel
theorem dX0_isFull_1 : decode cX0_isFull 1 = .ok (.getfield 28, 3) := by decide +kernel
theorem dX0_isFull_4 : decode cX0_isFull 4 = .ok (.aload_n 0, 1) := by decide +kernel
theorem dX0_isFull_5 : decode cX0_isFull 5 = .ok (.getfield 11, 3) := by decide +kernel
theorem dX0_isFull_8 : decode cX0_isFull 8 = .ok (.arraylength, 1) := by decide +kernel
theorem dX0_isFull_9 : decode cX0_isFull 9 = .ok (.if_icmp .lt 7, 3) := by decide +kernel
theorem dX0_isFull_12 : decode cX0_isFull 12 = .ok (.iconst 1, 1) := by decide +kernel
theorem dX0_isFull_13 : decode cX0_isFull 13 = .ok (.goto 4, 3) := by decide +kernel
theorem dX0_isFull_16 : decode cX0_isFull 16 = .ok (.iconst 0, 1) := by decide +kernel
theorem dX0_isFull_17 : decode cX0_isFull 17 = .ok (.ireturn, 1) := by decide +kernel
set_option maxRecDepth 20000 in
theorem ggX0_takeIn_X0_isFull : GoodIn wsX0_takeIn wsX0_isFull := goodIn_r _ [8, 2, 1, 9, 10, 11, 12, 13, 14] (by decide +kernel) (by decide +kernel)
set_option maxRecDepth 20000 in
theorem gX0_takeIn_X0_isFull : GoodIn wsX0_takeIn (wsV RX0 32 RX0 yX0_isFull wsX0_isFull) := goodIn_app (goodIn_of _ (by decide +kernel)) ggX0_takeIn_X0_isFull
theorem dX0_takeIn_0 : decode cX0_takeIn 0 = .ok (.aload_n 0, 1) := by decide +kernel
theorem dX0_takeIn_1 : decode cX0_takeIn 1 = .ok (.invokevirtual 32, 3) := by decide +kernel
theorem dX0_takeIn_4 : decode cX0_takeIn 4 = .ok (.ifCond .ne 31, 3) := by decide +kernel
theorem dX0_takeIn_7 : decode cX0_takeIn 7 = .ok (.aload_n 0, 1) := by decide +kernel
theorem dX0_takeIn_8 : decode cX0_takeIn 8 = .ok (.getfield 11, 3) := by decide +kernel
theorem dX0_takeIn_11 : decode cX0_takeIn 11 = .ok (.aload_n 0, 1) := by decide +kernel
theorem dX0_takeIn_12 : decode cX0_takeIn 12 = .ok (.getfield 28, 3) := by decide +kernel
theorem dX0_takeIn_15 : decode cX0_takeIn 15 = .ok (.aload_n 0, 1) := by decide +kernel
theorem dX0_takeIn_16 : decode cX0_takeIn 16 = .ok (.getfield 36, 3) := by decide +kernel
theorem dX0_takeIn_19 : decode cX0_takeIn 19 = .ok (.aastore, 1) := by decide +kernel
theorem dX0_takeIn_20 : decode cX0_takeIn 20 = .ok (.aload_n 0, 1) := by decide +kernel
theorem dX0_takeIn_21 : decode cX0_takeIn 21 = .ok (.dup, 1) := by decide +kernel
theorem dX0_takeIn_22 : decode cX0_takeIn 22 = .ok (.getfield 28, 3) := by decide +kernel
theorem dX0_takeIn_25 : decode cX0_takeIn 25 = .ok (.iconst 1, 1) := by decide +kernel
theorem dX0_takeIn_26 : decode cX0_takeIn 26 = .ok (.iadd, 1) := by decide +kernel
theorem dX0_takeIn_27 : decode cX0_takeIn 27 = .ok (.putfield 28, 3) := by decide +kernel
theorem dX0_takeIn_30 : decode cX0_takeIn 30 = .ok (.aload_n 0, 1) := by decide +kernel
theorem dX0_takeIn_31 : decode cX0_takeIn 31 = .ok (.aconst_null, 1) := by decide +kernel
theorem dX0_takeIn_32 : decode cX0_takeIn 32 = .ok (.putfield 36, 3) := by decide +kernel
theorem dX0_takeIn_35 : decode cX0_takeIn 35 = .ok (.return_, 1) := by decide +kernel
theorem dX0_documentAt_0 : decode cX0_documentAt 0 = .ok (.iload_n 1, 1) := by decide +kernel
theorem dX0_documentAt_1 : decode cX0_documentAt 1 = .ok (.ifCond .lt 20, 3) := by decide +kernel
theorem dX0_documentAt_4 : decode cX0_documentAt 4 = .ok (.iload_n 1, 1) := by decide +kernel
theorem dX0_documentAt_5 : decode cX0_documentAt 5 = .ok (.aload_n 0, 1) := by decide +kernel
theorem dX0_documentAt_6 : decode cX0_documentAt 6 = .ok (.getfield 28, 3) := by decide +kernel
theorem dX0_documentAt_9 : decode cX0_documentAt 9 = .ok (.if_icmp .ge 12, 3) := by decide +kernel
theorem dX0_documentAt_12 : decode cX0_documentAt 12 = .ok (.iload_n 1, 1) := by decide +kernel
theorem dX0_documentAt_13 : decode cX0_documentAt 13 = .ok (.aload_n 0, 1) := by decide +kernel
theorem dX0_documentAt_14 : decode cX0_documentAt 14 = .ok (.getfield 11, 3) := by decide +kernel
theorem dX0_documentAt_17 : decode cX0_documentAt 17 = .ok (.arraylength, 1) := by decide +kernel
theorem dX0_documentAt_18 : decode cX0_documentAt 18 = .ok (.if_icmp .lt 7, 3) := by decide +kernel
theorem dX0_documentAt_21 : decode cX0_documentAt 21 = .ok (.aconst_null, 1) := by decide +kernel
theorem dX0_documentAt_22 : decode cX0_documentAt 22 = .ok (.goto 9, 3) := by decide +kernel
theorem dX0_documentAt_25 : decode cX0_documentAt 25 = .ok (.aload_n 0, 1) := by decide +kernel
theorem dX0_documentAt_26 : decode cX0_documentAt 26 = .ok (.getfield 11, 3) := by decide +kernel
theorem dX0_documentAt_29 : decode cX0_documentAt 29 = .ok (.iload_n 1, 1) := by decide +kernel
theorem dX0_documentAt_30 : decode cX0_documentAt 30 = .ok (.aaload, 1) := by decide +kernel
theorem dX0_documentAt_31 : decode cX0_documentAt 31 = .ok (.areturn, 1) := by decide +kernel
set_option maxRecDepth 20000 in
theorem ggX0_bufferSize_X0_countAt : GoodIn wsX0_bufferSize wsX0_countAt := goodIn_r _ [5, 6, 7, 8, 9, 10, 4, 11, 12, 13, 14, 15, 16, 17, 18, 19, 20, 21, 22, 23] (by decide +kernel) (by decide +kernel)
set_option maxRecDepth 20000 in
theorem gX0_bufferSize_X0_countAt : GoodIn wsX0_bufferSize (wsV RX0 40 RX0 yX0_countAt wsX0_countAt) := goodIn_app (goodIn_of _ (by decide +kernel)) ggX0_bufferSize_X0_countAt
theorem dX0_bufferSize_0 : decode cX0_bufferSize 0 = .ok (.aload_n 0, 1) := by decide +kernel
theorem dX0_bufferSize_1 : decode cX0_bufferSize 1 = .ok (.iconst (-1), 1) := by decide +kernel
theorem dX0_bufferSize_2 : decode cX0_bufferSize 2 = .ok (.invokevirtual 40, 3) := by decide +kernel
theorem dX0_bufferSize_5 : decode cX0_bufferSize 5 = .ok (.ireturn, 1) := by decide +kernel
set_option maxRecDepth 20000 in
theorem ggX0_countAt_X0_documentAt : GoodIn wsX0_countAt wsX0_documentAt := goodIn_r _ [7, 1, 8, 9, 10, 11, 12, 13, 14] (by decide +kernel) (by decide +kernel)
set_option maxRecDepth 20000 in
theorem gX0_countAt_X0_documentAt : GoodIn wsX0_countAt (wsV RX0 44 RX0 yX0_documentAt wsX0_documentAt) := goodIn_app (goodIn_of _ (by decide +kernel)) ggX0_countAt_X0_documentAt
theorem dX0_countAt_0 : decode cX0_countAt 0 = .ok (.iconst 0, 1) := by decide +kernel
theorem dX0_countAt_1 : decode cX0_countAt 1 = .ok (.istore_n 2, 1) := by decide +kernel
theorem dX0_countAt_2 : decode cX0_countAt 2 = .ok (.iconst 0, 1) := by decide +kernel
theorem dX0_countAt_3 : decode cX0_countAt 3 = .ok (.istore_n 3, 1) := by decide +kernel
theorem dX0_countAt_4 : decode cX0_countAt 4 = .ok (.iload_n 3, 1) := by decide +kernel
theorem dX0_countAt_5 : decode cX0_countAt 5 = .ok (.aload_n 0, 1) := by decide +kernel
theorem dX0_countAt_6 : decode cX0_countAt 6 = .ok (.getfield 28, 3) := by decide +kernel
theorem dX0_countAt_9 : decode cX0_countAt 9 = .ok (.if_icmp .ge 33, 3) := by decide +kernel
theorem dX0_countAt_12 : decode cX0_countAt 12 = .ok (.aload_n 0, 1) := by decide +kernel
theorem dX0_countAt_13 : decode cX0_countAt 13 = .ok (.iload_n 3, 1) := by decide +kernel
theorem dX0_countAt_14 : decode cX0_countAt 14 = .ok (.invokevirtual 44, 3) := by decide +kernel
theorem dX0_countAt_17 : decode cX0_countAt 17 = .ok (.astore 4, 2) := by decide +kernel
theorem dX0_countAt_19 : decode cX0_countAt 19 = .ok (.aload 4, 2) := by decide +kernel
theorem dX0_countAt_21 : decode cX0_countAt 21 = .ok (.ifnull 15, 3) := by decide +kernel
theorem dX0_countAt_24 : decode cX0_countAt 24 = .ok (.aload 4, 2) := by decide +kernel
theorem dX0_countAt_26 : decode cX0_countAt 26 = .ok (.getfield 48, 3) := by decide +kernel
theorem dX0_countAt_29 : decode cX0_countAt 29 = .ok (.iload_n 1, 1) := by decide +kernel
theorem dX0_countAt_30 : decode cX0_countAt 30 = .ok (.if_icmp .ne 6, 3) := by decide +kernel
theorem dX0_countAt_33 : decode cX0_countAt 33 = .ok (.iinc 2 1, 3) := by decide +kernel
theorem dX0_countAt_36 : decode cX0_countAt 36 = .ok (.iinc 3 1, 3) := by decide +kernel
theorem dX0_countAt_39 : decode cX0_countAt 39 = .ok (.goto (-35), 3) := by decide +kernel
theorem dX0_countAt_42 : decode cX0_countAt 42 = .ok (.iload_n 2, 1) := by decide +kernel
theorem dX0_countAt_43 : decode cX0_countAt 43 = .ok (.ireturn, 1) := by decide +kernel
set_option maxRecDepth 20000 in
theorem ggX0_goneInSegments_X0_documentAt : GoodIn wsX0_goneInSegments wsX0_documentAt := goodIn_r _ [7, 1, 8, 15, 16, 17, 18, 19, 20] (by decide +kernel) (by decide +kernel)
set_option maxRecDepth 20000 in
theorem gX0_goneInSegments_X0_documentAt : GoodIn wsX0_goneInSegments (wsV RX0 44 RX0 yX0_documentAt wsX0_documentAt) := goodIn_app (goodIn_of _ (by decide +kernel)) ggX0_goneInSegments_X0_documentAt
set_option maxRecDepth 20000 in
theorem ggX0_goneInSegments_X2_liesInSegment : GoodIn wsX0_goneInSegments wsX2_liesInSegment := goodIn_r _ [13, 14, 21, 22, 23, 24, 25] (by decide +kernel) (by decide +kernel)
set_option maxRecDepth 20000 in
theorem gX0_goneInSegments_X2_liesInSegment : GoodIn wsX0_goneInSegments (wsV RX0 55 RX2 yX2_liesInSegment wsX2_liesInSegment) := goodIn_app (goodIn_of _ (by decide +kernel)) ggX0_goneInSegments_X2_liesInSegment
theorem dX0_goneInSegments_0 : decode cX0_goneInSegments 0 = .ok (.iconst 0, 1) := by decide +kernel
theorem dX0_goneInSegments_1 : decode cX0_goneInSegments 1 = .ok (.istore_n 1, 1) := by decide +kernel
theorem dX0_goneInSegments_2 : decode cX0_goneInSegments 2 = .ok (.iconst 0, 1) := by decide +kernel
theorem dX0_goneInSegments_3 : decode cX0_goneInSegments 3 = .ok (.istore_n 2, 1) := by decide +kernel
theorem dX0_goneInSegments_4 : decode cX0_goneInSegments 4 = .ok (.iload_n 2, 1) := by decide +kernel
theorem dX0_goneInSegments_5 : decode cX0_goneInSegments 5 = .ok (.aload_n 0, 1) := by decide +kernel
theorem dX0_goneInSegments_6 : decode cX0_goneInSegments 6 = .ok (.getfield 28, 3) := by decide +kernel
theorem dX0_goneInSegments_9 : decode cX0_goneInSegments 9 = .ok (.if_icmp .ge 36, 3) := by decide +kernel
theorem dX0_goneInSegments_12 : decode cX0_goneInSegments 12 = .ok (.aload_n 0, 1) := by decide +kernel
theorem dX0_goneInSegments_13 : decode cX0_goneInSegments 13 = .ok (.iload_n 2, 1) := by decide +kernel
theorem dX0_goneInSegments_14 : decode cX0_goneInSegments 14 = .ok (.invokevirtual 44, 3) := by decide +kernel
theorem dX0_goneInSegments_17 : decode cX0_goneInSegments 17 = .ok (.astore_n 3, 1) := by decide +kernel
theorem dX0_goneInSegments_18 : decode cX0_goneInSegments 18 = .ok (.aload_n 3, 1) := by decide +kernel
theorem dX0_goneInSegments_19 : decode cX0_goneInSegments 19 = .ok (.ifnull 20, 3) := by decide +kernel
theorem dX0_goneInSegments_22 : decode cX0_goneInSegments 22 = .ok (.aload_n 3, 1) := by decide +kernel
theorem dX0_goneInSegments_23 : decode cX0_goneInSegments 23 = .ok (.getfield 51, 3) := by decide +kernel
theorem dX0_goneInSegments_26 : decode cX0_goneInSegments 26 = .ok (.ifCond .eq 13, 3) := by decide +kernel
theorem dX0_goneInSegments_29 : decode cX0_goneInSegments 29 = .ok (.aload_n 3, 1) := by decide +kernel
theorem dX0_goneInSegments_30 : decode cX0_goneInSegments 30 = .ok (.invokevirtual 55, 3) := by decide +kernel
theorem dX0_goneInSegments_33 : decode cX0_goneInSegments 33 = .ok (.ifCond .eq 6, 3) := by decide +kernel
theorem dX0_goneInSegments_36 : decode cX0_goneInSegments 36 = .ok (.iinc 1 1, 3) := by decide +kernel
theorem dX0_goneInSegments_39 : decode cX0_goneInSegments 39 = .ok (.iinc 2 1, 3) := by decide +kernel
theorem dX0_goneInSegments_42 : decode cX0_goneInSegments 42 = .ok (.goto (-38), 3) := by decide +kernel
theorem dX0_goneInSegments_45 : decode cX0_goneInSegments 45 = .ok (.iload_n 1, 1) := by decide +kernel
theorem dX0_goneInSegments_46 : decode cX0_goneInSegments 46 = .ok (.ireturn, 1) := by decide +kernel
theorem dX0_hasSegment_0 : decode cX0_hasSegment 0 = .ok (.iload_n 1, 1) := by decide +kernel
theorem dX0_hasSegment_1 : decode cX0_hasSegment 1 = .ok (.ifCond .lt 15, 3) := by decide +kernel
theorem dX0_hasSegment_4 : decode cX0_hasSegment 4 = .ok (.iload_n 1, 1) := by decide +kernel
theorem dX0_hasSegment_5 : decode cX0_hasSegment 5 = .ok (.aload_n 0, 1) := by decide +kernel
theorem dX0_hasSegment_6 : decode cX0_hasSegment 6 = .ok (.getfield 58, 3) := by decide +kernel
theorem dX0_hasSegment_9 : decode cX0_hasSegment 9 = .ok (.if_icmp .ge 7, 3) := by decide +kernel
theorem dX0_hasSegment_12 : decode cX0_hasSegment 12 = .ok (.iconst 1, 1) := by decide +kernel
theorem dX0_hasSegment_13 : decode cX0_hasSegment 13 = .ok (.goto 4, 3) := by decide +kernel
theorem dX0_hasSegment_16 : decode cX0_hasSegment 16 = .ok (.iconst 0, 1) := by decide +kernel
theorem dX0_hasSegment_17 : decode cX0_hasSegment 17 = .ok (.ireturn, 1) := by decide +kernel
set_option maxRecDepth 20000 in
theorem ggX0_tierAt_X0_hasSegment : GoodIn wsX0_tierAt wsX0_hasSegment := goodIn_r _ [6, 7, 8, 9, 10, 11, 12, 13] (by decide +kernel) (by decide +kernel)
set_option maxRecDepth 20000 in
theorem gX0_tierAt_X0_hasSegment : GoodIn wsX0_tierAt (wsV RX0 61 RX0 yX0_hasSegment wsX0_hasSegment) := goodIn_app (goodIn_of _ (by decide +kernel)) ggX0_tierAt_X0_hasSegment
theorem dX0_tierAt_0 : decode cX0_tierAt 0 = .ok (.aload_n 0, 1) := by decide +kernel
theorem dX0_tierAt_1 : decode cX0_tierAt 1 = .ok (.iload_n 1, 1) := by decide +kernel
theorem dX0_tierAt_2 : decode cX0_tierAt 2 = .ok (.invokevirtual 61, 3) := by decide +kernel
theorem dX0_tierAt_5 : decode cX0_tierAt 5 = .ok (.ifCond .eq 12, 3) := by decide +kernel
theorem dX0_tierAt_8 : decode cX0_tierAt 8 = .ok (.iload_n 1, 1) := by decide +kernel
theorem dX0_tierAt_9 : decode cX0_tierAt 9 = .ok (.aload_n 0, 1) := by decide +kernel
theorem dX0_tierAt_10 : decode cX0_tierAt 10 = .ok (.getfield 17, 3) := by decide +kernel
theorem dX0_tierAt_13 : decode cX0_tierAt 13 = .ok (.arraylength, 1) := by decide +kernel
theorem dX0_tierAt_14 : decode cX0_tierAt 14 = .ok (.if_icmp .lt 7, 3) := by decide +kernel
theorem dX0_tierAt_17 : decode cX0_tierAt 17 = .ok (.iconst (-1), 1) := by decide +kernel
theorem dX0_tierAt_18 : decode cX0_tierAt 18 = .ok (.goto 9, 3) := by decide +kernel
theorem dX0_tierAt_21 : decode cX0_tierAt 21 = .ok (.aload_n 0, 1) := by decide +kernel
theorem dX0_tierAt_22 : decode cX0_tierAt 22 = .ok (.getfield 17, 3) := by decide +kernel
theorem dX0_tierAt_25 : decode cX0_tierAt 25 = .ok (.iload_n 1, 1) := by decide +kernel
theorem dX0_tierAt_26 : decode cX0_tierAt 26 = .ok (.iaload, 1) := by decide +kernel
theorem dX0_tierAt_27 : decode cX0_tierAt 27 = .ok (.ireturn, 1) := by decide +kernel
set_option maxRecDepth 20000 in
theorem ggX0_flushBuffer_X0_bufferSize : GoodIn wsX0_flushBuffer wsX0_bufferSize := goodIn_r _ [6, 7, 8, 9, 5, 10, 11, 12, 13, 14, 15, 16, 17, 84, 85, 86, 87, 88, 89, 90, 91, 92, 93, 94] (by decide +kernel) (by decide +kernel)
set_option maxRecDepth 20000 in
theorem gX0_flushBuffer_X0_bufferSize : GoodIn wsX0_flushBuffer (wsV RX0 65 RX0 yX0_bufferSize wsX0_bufferSize) := goodIn_app (goodIn_of _ (by decide +kernel)) ggX0_flushBuffer_X0_bufferSize
set_option maxRecDepth 20000 in
theorem ggX0_flushBuffer_X0_appendSegment : GoodIn wsX0_flushBuffer wsX0_appendSegment := goodIn_r _ [21, 1, 22, 11, 12, 13, 14, 15, 5, 16, 17, 84, 85, 86, 87, 88, 89, 90, 91, 92, 93, 94] (by decide +kernel) (by decide +kernel)
set_option maxRecDepth 20000 in
theorem gX0_flushBuffer_X0_appendSegment : GoodIn wsX0_flushBuffer (wsV RX0 69 RX0 yX0_appendSegment wsX0_appendSegment) := goodIn_app (goodIn_of _ (by decide +kernel)) ggX0_flushBuffer_X0_appendSegment
set_option maxRecDepth 20000 in
theorem ggX0_flushBuffer_X0_lastThreeAreAlike : GoodIn wsX0_flushBuffer wsX0_lastThreeAreAlike := goodIn_r _ [26, 1, 27, 28, 29, 5, 30, 22, 31, 32, 33, 34, 84, 85, 86, 87, 88, 89] (by decide +kernel) (by decide +kernel)
set_option maxRecDepth 20000 in
theorem gX0_flushBuffer_X0_lastThreeAreAlike : GoodIn wsX0_flushBuffer (wsV RX0 72 RX0 yX0_lastThreeAreAlike wsX0_lastThreeAreAlike) := goodIn_app (goodIn_of _ (by decide +kernel)) ggX0_flushBuffer_X0_lastThreeAreAlike
set_option maxRecDepth 20000 in
theorem ggX0_flushBuffer_X0_tierAt : GoodIn wsX0_flushBuffer wsX0_tierAt := goodIn_r _ [30, 22, 31, 32, 33, 5, 34, 1, 84, 85, 86, 87, 88, 89] (by decide +kernel) (by decide +kernel)
set_option maxRecDepth 20000 in
theorem gX0_flushBuffer_X0_tierAt : GoodIn wsX0_flushBuffer (wsV RX0 75 RX0 yX0_tierAt wsX0_tierAt) := goodIn_app (goodIn_of _ (by decide +kernel)) ggX0_flushBuffer_X0_tierAt
set_option maxRecDepth 20000 in
theorem ggX0_flushBuffer_X0_mergeFrom : GoodIn wsX0_flushBuffer wsX0_mergeFrom := goodIn_r _ [38, 11, 12, 39, 1, 22, 13, 14, 15, 5, 16, 17, 84, 85, 86, 87, 88, 89, 90, 91, 92, 93, 94] (by decide +kernel) (by decide +kernel)
set_option maxRecDepth 20000 in
theorem gX0_flushBuffer_X0_mergeFrom : GoodIn wsX0_flushBuffer (wsV RX0 78 RX0 yX0_mergeFrom wsX0_mergeFrom) := goodIn_app (goodIn_of _ (by decide +kernel)) ggX0_flushBuffer_X0_mergeFrom
set_option maxRecDepth 20000 in
theorem ggX0_flushBuffer_X0_recount : GoodIn wsX0_flushBuffer wsX0_recount := goodIn_r _ [43, 44, 11, 45, 46, 47, 48, 49, 50, 51, 52, 53, 54, 55, 56, 13, 14, 15, 5, 16, 17, 57, 58, 59, 60, 61, 62, 63, 64, 65, 66, 67, 68, 69, 70, 71, 72, 73, 74, 75, 76, 77, 78, 79, 80, 81, 82, 83, 84, 85, 86, 87, 88, 89, 95, 96, 97, 90, 91, 92, 93, 94, 98, 99, 100, 101, 102] (by decide +kernel) (by decide +kernel)
set_option maxRecDepth 20000 in
theorem gX0_flushBuffer_X0_recount : GoodIn wsX0_flushBuffer (wsV RX0 82 RX0 yX0_recount wsX0_recount) := goodIn_app (goodIn_of _ (by decide +kernel)) ggX0_flushBuffer_X0_recount
theorem dX0_flushBuffer_0 : decode cX0_flushBuffer 0 = .ok (.aload_n 0, 1) := by decide +kernel
theorem dX0_flushBuffer_1 : decode cX0_flushBuffer 1 = .ok (.invokevirtual 65, 3) := by decide +kernel
theorem dX0_flushBuffer_4 : decode cX0_flushBuffer 4 = .ok (.istore_n 1, 1) := by decide +kernel
theorem dX0_flushBuffer_5 : decode cX0_flushBuffer 5 = .ok (.iload_n 1, 1) := by decide +kernel
theorem dX0_flushBuffer_6 : decode cX0_flushBuffer 6 = .ok (.ifCond .le 7, 3) := by decide +kernel
theorem dX0_flushBuffer_9 : decode cX0_flushBuffer 9 = .ok (.aload_n 0, 1) := by decide +kernel
theorem dX0_flushBuffer_10 : decode cX0_flushBuffer 10 = .ok (.invokevirtual 69, 3) := by decide +kernel
theorem dX0_flushBuffer_13 : decode cX0_flushBuffer 13 = .ok (.iconst 0, 1) := by decide +kernel
theorem dX0_flushBuffer_14 : decode cX0_flushBuffer 14 = .ok (.istore_n 2, 1) := by decide +kernel
theorem dX0_flushBuffer_15 : decode cX0_flushBuffer 15 = .ok (.iload_n 2, 1) := by decide +kernel
theorem dX0_flushBuffer_16 : decode cX0_flushBuffer 16 = .ok (.bipush 60, 2) := by decide +kernel
theorem dX0_flushBuffer_18 : decode cX0_flushBuffer 18 = .ok (.if_icmp .ge 39, 3) := by decide +kernel
theorem dX0_flushBuffer_21 : decode cX0_flushBuffer 21 = .ok (.aload_n 0, 1) := by decide +kernel
theorem dX0_flushBuffer_22 : decode cX0_flushBuffer 22 = .ok (.invokevirtual 72, 3) := by decide +kernel
theorem dX0_flushBuffer_25 : decode cX0_flushBuffer 25 = .ok (.ifCond .eq 32, 3) := by decide +kernel
theorem dX0_flushBuffer_28 : decode cX0_flushBuffer 28 = .ok (.aload_n 0, 1) := by decide +kernel
theorem dX0_flushBuffer_29 : decode cX0_flushBuffer 29 = .ok (.aload_n 0, 1) := by decide +kernel
theorem dX0_flushBuffer_30 : decode cX0_flushBuffer 30 = .ok (.getfield 58, 3) := by decide +kernel
theorem dX0_flushBuffer_33 : decode cX0_flushBuffer 33 = .ok (.iconst 3, 1) := by decide +kernel
theorem dX0_flushBuffer_34 : decode cX0_flushBuffer 34 = .ok (.isub, 1) := by decide +kernel
theorem dX0_flushBuffer_35 : decode cX0_flushBuffer 35 = .ok (.aload_n 0, 1) := by decide +kernel
theorem dX0_flushBuffer_36 : decode cX0_flushBuffer 36 = .ok (.aload_n 0, 1) := by decide +kernel
theorem dX0_flushBuffer_37 : decode cX0_flushBuffer 37 = .ok (.getfield 58, 3) := by decide +kernel
theorem dX0_flushBuffer_40 : decode cX0_flushBuffer 40 = .ok (.iconst 1, 1) := by decide +kernel
theorem dX0_flushBuffer_41 : decode cX0_flushBuffer 41 = .ok (.isub, 1) := by decide +kernel
theorem dX0_flushBuffer_42 : decode cX0_flushBuffer 42 = .ok (.invokevirtual 75, 3) := by decide +kernel
theorem dX0_flushBuffer_45 : decode cX0_flushBuffer 45 = .ok (.iconst 1, 1) := by decide +kernel
theorem dX0_flushBuffer_46 : decode cX0_flushBuffer 46 = .ok (.iadd, 1) := by decide +kernel
theorem dX0_flushBuffer_47 : decode cX0_flushBuffer 47 = .ok (.invokevirtual 78, 3) := by decide +kernel
theorem dX0_flushBuffer_50 : decode cX0_flushBuffer 50 = .ok (.pop, 1) := by decide +kernel
theorem dX0_flushBuffer_51 : decode cX0_flushBuffer 51 = .ok (.iinc 2 1, 3) := by decide +kernel
theorem dX0_flushBuffer_54 : decode cX0_flushBuffer 54 = .ok (.goto (-39), 3) := by decide +kernel
theorem dX0_flushBuffer_57 : decode cX0_flushBuffer 57 = .ok (.aload_n 0, 1) := by decide +kernel
theorem dX0_flushBuffer_58 : decode cX0_flushBuffer 58 = .ok (.invokevirtual 82, 3) := by decide +kernel
theorem dX0_flushBuffer_61 : decode cX0_flushBuffer 61 = .ok (.iload_n 1, 1) := by decide +kernel
theorem dX0_flushBuffer_62 : decode cX0_flushBuffer 62 = .ok (.ireturn, 1) := by decide +kernel
set_option maxRecDepth 20000 in
theorem ggX0_appendSegment_X0_documentAt : GoodIn wsX0_appendSegment wsX0_documentAt := goodIn_r _ [9, 3, 10, 11, 12, 13, 14, 15, 16] (by decide +kernel) (by decide +kernel)
set_option maxRecDepth 20000 in
theorem gX0_appendSegment_X0_documentAt : GoodIn wsX0_appendSegment (wsV RX0 44 RX0 yX0_documentAt wsX0_documentAt) := goodIn_app (goodIn_of _ (by decide +kernel)) ggX0_appendSegment_X0_documentAt
theorem dX0_appendSegment_0 : decode cX0_appendSegment 0 = .ok (.aload_n 0, 1) := by decide +kernel
theorem dX0_appendSegment_1 : decode cX0_appendSegment 1 = .ok (.getfield 58, 3) := by decide +kernel
theorem dX0_appendSegment_4 : decode cX0_appendSegment 4 = .ok (.aload_n 0, 1) := by decide +kernel
theorem dX0_appendSegment_5 : decode cX0_appendSegment 5 = .ok (.getfield 17, 3) := by decide +kernel
theorem dX0_appendSegment_8 : decode cX0_appendSegment 8 = .ok (.arraylength, 1) := by decide +kernel
theorem dX0_appendSegment_9 : decode cX0_appendSegment 9 = .ok (.if_icmp .lt 4, 3) := by decide +kernel
theorem dX0_appendSegment_12 : decode cX0_appendSegment 12 = .ok (.return_, 1) := by decide +kernel
theorem dX0_appendSegment_13 : decode cX0_appendSegment 13 = .ok (.iconst 0, 1) := by decide +kernel
theorem dX0_appendSegment_14 : decode cX0_appendSegment 14 = .ok (.istore_n 1, 1) := by decide +kernel
theorem dX0_appendSegment_15 : decode cX0_appendSegment 15 = .ok (.iload_n 1, 1) := by decide +kernel
theorem dX0_appendSegment_16 : decode cX0_appendSegment 16 = .ok (.aload_n 0, 1) := by decide +kernel
theorem dX0_appendSegment_17 : decode cX0_appendSegment 17 = .ok (.getfield 28, 3) := by decide +kernel
theorem dX0_appendSegment_20 : decode cX0_appendSegment 20 = .ok (.if_icmp .ge 35, 3) := by decide +kernel
theorem dX0_appendSegment_23 : decode cX0_appendSegment 23 = .ok (.aload_n 0, 1) := by decide +kernel
theorem dX0_appendSegment_24 : decode cX0_appendSegment 24 = .ok (.iload_n 1, 1) := by decide +kernel
theorem dX0_appendSegment_25 : decode cX0_appendSegment 25 = .ok (.invokevirtual 44, 3) := by decide +kernel
theorem dX0_appendSegment_28 : decode cX0_appendSegment 28 = .ok (.astore_n 2, 1) := by decide +kernel
theorem dX0_appendSegment_29 : decode cX0_appendSegment 29 = .ok (.aload_n 2, 1) := by decide +kernel
theorem dX0_appendSegment_30 : decode cX0_appendSegment 30 = .ok (.ifnull 19, 3) := by decide +kernel
theorem dX0_appendSegment_33 : decode cX0_appendSegment 33 = .ok (.aload_n 2, 1) := by decide +kernel
theorem dX0_appendSegment_34 : decode cX0_appendSegment 34 = .ok (.getfield 48, 3) := by decide +kernel
theorem dX0_appendSegment_37 : decode cX0_appendSegment 37 = .ok (.iconst (-1), 1) := by decide +kernel
theorem dX0_appendSegment_38 : decode cX0_appendSegment 38 = .ok (.if_icmp .ne 11, 3) := by decide +kernel
theorem dX0_appendSegment_41 : decode cX0_appendSegment 41 = .ok (.aload_n 2, 1) := by decide +kernel
theorem dX0_appendSegment_42 : decode cX0_appendSegment 42 = .ok (.aload_n 0, 1) := by decide +kernel
theorem dX0_appendSegment_43 : decode cX0_appendSegment 43 = .ok (.getfield 58, 3) := by decide +kernel
theorem dX0_appendSegment_46 : decode cX0_appendSegment 46 = .ok (.putfield 48, 3) := by decide +kernel
theorem dX0_appendSegment_49 : decode cX0_appendSegment 49 = .ok (.iinc 1 1, 3) := by decide +kernel
theorem dX0_appendSegment_52 : decode cX0_appendSegment 52 = .ok (.goto (-37), 3) := by decide +kernel
theorem dX0_appendSegment_55 : decode cX0_appendSegment 55 = .ok (.aload_n 0, 1) := by decide +kernel
theorem dX0_appendSegment_56 : decode cX0_appendSegment 56 = .ok (.getfield 17, 3) := by decide +kernel
theorem dX0_appendSegment_59 : decode cX0_appendSegment 59 = .ok (.aload_n 0, 1) := by decide +kernel
theorem dX0_appendSegment_60 : decode cX0_appendSegment 60 = .ok (.getfield 58, 3) := by decide +kernel
theorem dX0_appendSegment_63 : decode cX0_appendSegment 63 = .ok (.iconst 0, 1) := by decide +kernel
theorem dX0_appendSegment_64 : decode cX0_appendSegment 64 = .ok (.iastore, 1) := by decide +kernel
theorem dX0_appendSegment_65 : decode cX0_appendSegment 65 = .ok (.aload_n 0, 1) := by decide +kernel
theorem dX0_appendSegment_66 : decode cX0_appendSegment 66 = .ok (.dup, 1) := by decide +kernel
theorem dX0_appendSegment_67 : decode cX0_appendSegment 67 = .ok (.getfield 58, 3) := by decide +kernel
theorem dX0_appendSegment_70 : decode cX0_appendSegment 70 = .ok (.iconst 1, 1) := by decide +kernel
theorem dX0_appendSegment_71 : decode cX0_appendSegment 71 = .ok (.iadd, 1) := by decide +kernel
theorem dX0_appendSegment_72 : decode cX0_appendSegment 72 = .ok (.putfield 58, 3) := by decide +kernel
theorem dX0_appendSegment_75 : decode cX0_appendSegment 75 = .ok (.return_, 1) := by decide +kernel
set_option maxRecDepth 20000 in
theorem ggX0_lastThreeAreAlike_X0_tierAt : GoodIn wsX0_lastThreeAreAlike wsX0_tierAt := goodIn_r _ [6, 7, 8, 9, 10, 5, 11, 1, 12, 13, 14, 15, 16, 17] (by decide +kernel) (by decide +kernel)
set_option maxRecDepth 20000 in
theorem gX0_lastThreeAreAlike_X0_tierAt : GoodIn wsX0_lastThreeAreAlike (wsV RX0 75 RX0 yX0_tierAt wsX0_tierAt) := goodIn_app (goodIn_of _ (by decide +kernel)) ggX0_lastThreeAreAlike_X0_tierAt
theorem dX0_lastThreeAreAlike_0 : decode cX0_lastThreeAreAlike 0 = .ok (.aload_n 0, 1) := by decide +kernel
theorem dX0_lastThreeAreAlike_1 : decode cX0_lastThreeAreAlike 1 = .ok (.getfield 58, 3) := by decide +kernel
theorem dX0_lastThreeAreAlike_4 : decode cX0_lastThreeAreAlike 4 = .ok (.iconst 1, 1) := by decide +kernel
theorem dX0_lastThreeAreAlike_5 : decode cX0_lastThreeAreAlike 5 = .ok (.isub, 1) := by decide +kernel
theorem dX0_lastThreeAreAlike_6 : decode cX0_lastThreeAreAlike 6 = .ok (.istore_n 1, 1) := by decide +kernel
theorem dX0_lastThreeAreAlike_7 : decode cX0_lastThreeAreAlike 7 = .ok (.iload_n 1, 1) := by decide +kernel
theorem dX0_lastThreeAreAlike_8 : decode cX0_lastThreeAreAlike 8 = .ok (.iconst 2, 1) := by decide +kernel
theorem dX0_lastThreeAreAlike_9 : decode cX0_lastThreeAreAlike 9 = .ok (.if_icmp .lt 37, 3) := by decide +kernel
theorem dX0_lastThreeAreAlike_12 : decode cX0_lastThreeAreAlike 12 = .ok (.aload_n 0, 1) := by decide +kernel
theorem dX0_lastThreeAreAlike_13 : decode cX0_lastThreeAreAlike 13 = .ok (.iload_n 1, 1) := by decide +kernel
theorem dX0_lastThreeAreAlike_14 : decode cX0_lastThreeAreAlike 14 = .ok (.invokevirtual 75, 3) := by decide +kernel
theorem dX0_lastThreeAreAlike_17 : decode cX0_lastThreeAreAlike 17 = .ok (.aload_n 0, 1) := by decide +kernel
theorem dX0_lastThreeAreAlike_18 : decode cX0_lastThreeAreAlike 18 = .ok (.iload_n 1, 1) := by decide +kernel
theorem dX0_lastThreeAreAlike_19 : decode cX0_lastThreeAreAlike 19 = .ok (.iconst 1, 1) := by decide +kernel
theorem dX0_lastThreeAreAlike_20 : decode cX0_lastThreeAreAlike 20 = .ok (.isub, 1) := by decide +kernel
theorem dX0_lastThreeAreAlike_21 : decode cX0_lastThreeAreAlike 21 = .ok (.invokevirtual 75, 3) := by decide +kernel
theorem dX0_lastThreeAreAlike_24 : decode cX0_lastThreeAreAlike 24 = .ok (.if_icmp .ne 22, 3) := by decide +kernel
theorem dX0_lastThreeAreAlike_27 : decode cX0_lastThreeAreAlike 27 = .ok (.aload_n 0, 1) := by decide +kernel
theorem dX0_lastThreeAreAlike_28 : decode cX0_lastThreeAreAlike 28 = .ok (.iload_n 1, 1) := by decide +kernel
theorem dX0_lastThreeAreAlike_29 : decode cX0_lastThreeAreAlike 29 = .ok (.invokevirtual 75, 3) := by decide +kernel
theorem dX0_lastThreeAreAlike_32 : decode cX0_lastThreeAreAlike 32 = .ok (.aload_n 0, 1) := by decide +kernel
theorem dX0_lastThreeAreAlike_33 : decode cX0_lastThreeAreAlike 33 = .ok (.iload_n 1, 1) := by decide +kernel
theorem dX0_lastThreeAreAlike_34 : decode cX0_lastThreeAreAlike 34 = .ok (.iconst 2, 1) := by decide +kernel
theorem dX0_lastThreeAreAlike_35 : decode cX0_lastThreeAreAlike 35 = .ok (.isub, 1) := by decide +kernel
theorem dX0_lastThreeAreAlike_36 : decode cX0_lastThreeAreAlike 36 = .ok (.invokevirtual 75, 3) := by decide +kernel
theorem dX0_lastThreeAreAlike_39 : decode cX0_lastThreeAreAlike 39 = .ok (.if_icmp .ne 7, 3) := by decide +kernel
theorem dX0_lastThreeAreAlike_42 : decode cX0_lastThreeAreAlike 42 = .ok (.iconst 1, 1) := by decide +kernel
theorem dX0_lastThreeAreAlike_43 : decode cX0_lastThreeAreAlike 43 = .ok (.goto 4, 3) := by decide +kernel
theorem dX0_lastThreeAreAlike_46 : decode cX0_lastThreeAreAlike 46 = .ok (.iconst 0, 1) := by decide +kernel
theorem dX0_lastThreeAreAlike_47 : decode cX0_lastThreeAreAlike 47 = .ok (.ireturn, 1) := by decide +kernel
set_option maxRecDepth 20000 in
theorem ggX0_mergeAll_X0_tierAt : GoodIn wsX0_mergeAll wsX0_tierAt := goodIn_r _ [10, 11, 12, 13, 14, 9, 15, 1, 72, 73, 74, 75, 76, 77] (by decide +kernel) (by decide +kernel)
set_option maxRecDepth 20000 in
theorem gX0_mergeAll_X0_tierAt : GoodIn wsX0_mergeAll (wsV RX0 75 RX0 yX0_tierAt wsX0_tierAt) := goodIn_app (goodIn_of _ (by decide +kernel)) ggX0_mergeAll_X0_tierAt
set_option maxRecDepth 20000 in
theorem ggX0_mergeAll_X0_mergeFrom : GoodIn wsX0_mergeAll wsX0_mergeFrom := goodIn_r _ [19, 20, 21, 22, 1, 11, 23, 24, 25, 9, 26, 27, 72, 73, 74, 75, 76, 77, 78, 79, 80, 81, 82] (by decide +kernel) (by decide +kernel)
set_option maxRecDepth 20000 in
theorem gX0_mergeAll_X0_mergeFrom : GoodIn wsX0_mergeAll (wsV RX0 78 RX0 yX0_mergeFrom wsX0_mergeFrom) := goodIn_app (goodIn_of _ (by decide +kernel)) ggX0_mergeAll_X0_mergeFrom
set_option maxRecDepth 20000 in
theorem ggX0_mergeAll_X0_recount : GoodIn wsX0_mergeAll wsX0_recount := goodIn_r _ [31, 32, 20, 33, 34, 35, 36, 37, 38, 39, 40, 41, 42, 43, 44, 23, 24, 25, 9, 26, 27, 45, 46, 47, 48, 49, 50, 51, 52, 53, 54, 55, 56, 57, 58, 59, 60, 61, 62, 63, 64, 65, 66, 67, 68, 69, 70, 71, 72, 73, 74, 75, 76, 77, 83, 84, 85, 78, 79, 80, 81, 82, 86, 87, 88, 89, 90] (by decide +kernel) (by decide +kernel)
set_option maxRecDepth 20000 in
theorem gX0_mergeAll_X0_recount : GoodIn wsX0_mergeAll (wsV RX0 82 RX0 yX0_recount wsX0_recount) := goodIn_app (goodIn_of _ (by decide +kernel)) ggX0_mergeAll_X0_recount
theorem dX0_mergeAll_0 : decode cX0_mergeAll 0 = .ok (.aload_n 0, 1) := by decide +kernel
theorem dX0_mergeAll_1 : decode cX0_mergeAll 1 = .ok (.getfield 58, 3) := by decide +kernel
theorem dX0_mergeAll_4 : decode cX0_mergeAll 4 = .ok (.ifCond .ne 5, 3) := by decide +kernel
theorem dX0_mergeAll_7 : decode cX0_mergeAll 7 = .ok (.iconst 0, 1) := by decide +kernel
theorem dX0_mergeAll_8 : decode cX0_mergeAll 8 = .ok (.ireturn, 1) := by decide +kernel
theorem dX0_mergeAll_9 : decode cX0_mergeAll 9 = .ok (.iconst 0, 1) := by decide +kernel
theorem dX0_mergeAll_10 : decode cX0_mergeAll 10 = .ok (.istore_n 1, 1) := by decide +kernel
theorem dX0_mergeAll_11 : decode cX0_mergeAll 11 = .ok (.iconst 0, 1) := by decide +kernel
theorem dX0_mergeAll_12 : decode cX0_mergeAll 12 = .ok (.istore_n 2, 1) := by decide +kernel
theorem dX0_mergeAll_13 : decode cX0_mergeAll 13 = .ok (.iload_n 2, 1) := by decide +kernel
theorem dX0_mergeAll_14 : decode cX0_mergeAll 14 = .ok (.aload_n 0, 1) := by decide +kernel
theorem dX0_mergeAll_15 : decode cX0_mergeAll 15 = .ok (.getfield 58, 3) := by decide +kernel
theorem dX0_mergeAll_18 : decode cX0_mergeAll 18 = .ok (.if_icmp .ge 19, 3) := by decide +kernel
theorem dX0_mergeAll_21 : decode cX0_mergeAll 21 = .ok (.iload_n 1, 1) := by decide +kernel
theorem dX0_mergeAll_22 : decode cX0_mergeAll 22 = .ok (.aload_n 0, 1) := by decide +kernel
theorem dX0_mergeAll_23 : decode cX0_mergeAll 23 = .ok (.iload_n 2, 1) := by decide +kernel
theorem dX0_mergeAll_24 : decode cX0_mergeAll 24 = .ok (.invokevirtual 75, 3) := by decide +kernel
theorem dX0_mergeAll_27 : decode cX0_mergeAll 27 = .ok (.invokestatic 85, 3) := by decide +kernel
theorem dX0_mergeAll_30 : decode cX0_mergeAll 30 = .ok (.istore_n 1, 1) := by decide +kernel
theorem dX0_mergeAll_31 : decode cX0_mergeAll 31 = .ok (.iinc 2 1, 3) := by decide +kernel
theorem dX0_mergeAll_34 : decode cX0_mergeAll 34 = .ok (.goto (-21), 3) := by decide +kernel
theorem dX0_mergeAll_37 : decode cX0_mergeAll 37 = .ok (.aload_n 0, 1) := by decide +kernel
theorem dX0_mergeAll_38 : decode cX0_mergeAll 38 = .ok (.iconst 0, 1) := by decide +kernel
theorem dX0_mergeAll_39 : decode cX0_mergeAll 39 = .ok (.iload_n 1, 1) := by decide +kernel
theorem dX0_mergeAll_40 : decode cX0_mergeAll 40 = .ok (.invokevirtual 78, 3) := by decide +kernel
theorem dX0_mergeAll_43 : decode cX0_mergeAll 43 = .ok (.istore_n 2, 1) := by decide +kernel
theorem dX0_mergeAll_44 : decode cX0_mergeAll 44 = .ok (.aload_n 0, 1) := by decide +kernel
theorem dX0_mergeAll_45 : decode cX0_mergeAll 45 = .ok (.invokevirtual 82, 3) := by decide +kernel
theorem dX0_mergeAll_48 : decode cX0_mergeAll 48 = .ok (.iload_n 2, 1) := by decide +kernel
theorem dX0_mergeAll_49 : decode cX0_mergeAll 49 = .ok (.ireturn, 1) := by decide +kernel
set_option maxRecDepth 20000 in
theorem ggX0_mergeFrom_X0_documentAt : GoodIn wsX0_mergeFrom wsX0_documentAt := goodIn_r _ [10, 1, 11, 12, 13, 14, 15, 16, 17] (by decide +kernel) (by decide +kernel)
set_option maxRecDepth 20000 in
theorem gX0_mergeFrom_X0_documentAt : GoodIn wsX0_mergeFrom (wsV RX0 44 RX0 yX0_documentAt wsX0_documentAt) := goodIn_app (goodIn_of _ (by decide +kernel)) ggX0_mergeFrom_X0_documentAt
theorem dX0_mergeFrom_0 : decode cX0_mergeFrom 0 = .ok (.iconst 0, 1) := by decide +kernel
theorem dX0_mergeFrom_1 : decode cX0_mergeFrom 1 = .ok (.istore_n 3, 1) := by decide +kernel
theorem dX0_mergeFrom_2 : decode cX0_mergeFrom 2 = .ok (.iconst 0, 1) := by decide +kernel
theorem dX0_mergeFrom_3 : decode cX0_mergeFrom 3 = .ok (.istore 4, 2) := by decide +kernel
theorem dX0_mergeFrom_5 : decode cX0_mergeFrom 5 = .ok (.iconst 0, 1) := by decide +kernel
theorem dX0_mergeFrom_6 : decode cX0_mergeFrom 6 = .ok (.istore 5, 2) := by decide +kernel
theorem dX0_mergeFrom_8 : decode cX0_mergeFrom 8 = .ok (.iload 5, 2) := by decide +kernel
theorem dX0_mergeFrom_10 : decode cX0_mergeFrom 10 = .ok (.aload_n 0, 1) := by decide +kernel
theorem dX0_mergeFrom_11 : decode cX0_mergeFrom 11 = .ok (.getfield 28, 3) := by decide +kernel
theorem dX0_mergeFrom_14 : decode cX0_mergeFrom 14 = .ok (.if_icmp .ge 64, 3) := by decide +kernel
theorem dX0_mergeFrom_17 : decode cX0_mergeFrom 17 = .ok (.aload_n 0, 1) := by decide +kernel
theorem dX0_mergeFrom_18 : decode cX0_mergeFrom 18 = .ok (.iload 5, 2) := by decide +kernel
theorem dX0_mergeFrom_20 : decode cX0_mergeFrom 20 = .ok (.invokevirtual 44, 3) := by decide +kernel
theorem dX0_mergeFrom_23 : decode cX0_mergeFrom 23 = .ok (.astore 6, 2) := by decide +kernel
theorem dX0_mergeFrom_25 : decode cX0_mergeFrom 25 = .ok (.aload 6, 2) := by decide +kernel
theorem dX0_mergeFrom_27 : decode cX0_mergeFrom 27 = .ok (.ifnull 45, 3) := by decide +kernel
theorem dX0_mergeFrom_30 : decode cX0_mergeFrom 30 = .ok (.aload 6, 2) := by decide +kernel
theorem dX0_mergeFrom_32 : decode cX0_mergeFrom 32 = .ok (.getfield 48, 3) := by decide +kernel
theorem dX0_mergeFrom_35 : decode cX0_mergeFrom 35 = .ok (.iload_n 1, 1) := by decide +kernel
theorem dX0_mergeFrom_36 : decode cX0_mergeFrom 36 = .ok (.if_icmp .ge 6, 3) := by decide +kernel
theorem dX0_mergeFrom_39 : decode cX0_mergeFrom 39 = .ok (.goto 33, 3) := by decide +kernel
theorem dX0_mergeFrom_42 : decode cX0_mergeFrom 42 = .ok (.aload 6, 2) := by decide +kernel
theorem dX0_mergeFrom_44 : decode cX0_mergeFrom 44 = .ok (.getfield 51, 3) := by decide +kernel
theorem dX0_mergeFrom_47 : decode cX0_mergeFrom 47 = .ok (.ifCond .eq 16, 3) := by decide +kernel
theorem dX0_mergeFrom_50 : decode cX0_mergeFrom 50 = .ok (.aload 6, 2) := by decide +kernel
theorem dX0_mergeFrom_52 : decode cX0_mergeFrom 52 = .ok (.bipush (-2), 2) := by decide +kernel
theorem dX0_mergeFrom_54 : decode cX0_mergeFrom 54 = .ok (.putfield 48, 3) := by decide +kernel
theorem dX0_mergeFrom_57 : decode cX0_mergeFrom 57 = .ok (.iinc 3 1, 3) := by decide +kernel
theorem dX0_mergeFrom_60 : decode cX0_mergeFrom 60 = .ok (.goto 12, 3) := by decide +kernel
theorem dX0_mergeFrom_63 : decode cX0_mergeFrom 63 = .ok (.aload 6, 2) := by decide +kernel
theorem dX0_mergeFrom_65 : decode cX0_mergeFrom 65 = .ok (.iload_n 1, 1) := by decide +kernel
theorem dX0_mergeFrom_66 : decode cX0_mergeFrom 66 = .ok (.putfield 48, 3) := by decide +kernel
theorem dX0_mergeFrom_69 : decode cX0_mergeFrom 69 = .ok (.iinc 4 1, 3) := by decide +kernel
theorem dX0_mergeFrom_72 : decode cX0_mergeFrom 72 = .ok (.iinc 5 1, 3) := by decide +kernel
theorem dX0_mergeFrom_75 : decode cX0_mergeFrom 75 = .ok (.goto (-67), 3) := by decide +kernel
theorem dX0_mergeFrom_78 : decode cX0_mergeFrom 78 = .ok (.aload_n 0, 1) := by decide +kernel
theorem dX0_mergeFrom_79 : decode cX0_mergeFrom 79 = .ok (.iload_n 1, 1) := by decide +kernel
theorem dX0_mergeFrom_80 : decode cX0_mergeFrom 80 = .ok (.putfield 58, 3) := by decide +kernel
theorem dX0_mergeFrom_83 : decode cX0_mergeFrom 83 = .ok (.iload 4, 2) := by decide +kernel
theorem dX0_mergeFrom_85 : decode cX0_mergeFrom 85 = .ok (.ifCond .le 33, 3) := by decide +kernel
theorem dX0_mergeFrom_88 : decode cX0_mergeFrom 88 = .ok (.iload_n 1, 1) := by decide +kernel
theorem dX0_mergeFrom_89 : decode cX0_mergeFrom 89 = .ok (.ifCond .lt 29, 3) := by decide +kernel
theorem dX0_mergeFrom_92 : decode cX0_mergeFrom 92 = .ok (.iload_n 1, 1) := by decide +kernel
theorem dX0_mergeFrom_93 : decode cX0_mergeFrom 93 = .ok (.aload_n 0, 1) := by decide +kernel
theorem dX0_mergeFrom_94 : decode cX0_mergeFrom 94 = .ok (.getfield 17, 3) := by decide +kernel
theorem dX0_mergeFrom_97 : decode cX0_mergeFrom 97 = .ok (.arraylength, 1) := by decide +kernel
theorem dX0_mergeFrom_98 : decode cX0_mergeFrom 98 = .ok (.if_icmp .ge 20, 3) := by decide +kernel
theorem dX0_mergeFrom_101 : decode cX0_mergeFrom 101 = .ok (.aload_n 0, 1) := by decide +kernel
theorem dX0_mergeFrom_102 : decode cX0_mergeFrom 102 = .ok (.getfield 17, 3) := by decide +kernel
theorem dX0_mergeFrom_105 : decode cX0_mergeFrom 105 = .ok (.iload_n 1, 1) := by decide +kernel
theorem dX0_mergeFrom_106 : decode cX0_mergeFrom 106 = .ok (.iload_n 2, 1) := by decide +kernel
theorem dX0_mergeFrom_107 : decode cX0_mergeFrom 107 = .ok (.iastore, 1) := by decide +kernel
theorem dX0_mergeFrom_108 : decode cX0_mergeFrom 108 = .ok (.aload_n 0, 1) := by decide +kernel
theorem dX0_mergeFrom_109 : decode cX0_mergeFrom 109 = .ok (.dup, 1) := by decide +kernel
theorem dX0_mergeFrom_110 : decode cX0_mergeFrom 110 = .ok (.getfield 58, 3) := by decide +kernel
theorem dX0_mergeFrom_113 : decode cX0_mergeFrom 113 = .ok (.iconst 1, 1) := by decide +kernel
theorem dX0_mergeFrom_114 : decode cX0_mergeFrom 114 = .ok (.iadd, 1) := by decide +kernel
theorem dX0_mergeFrom_115 : decode cX0_mergeFrom 115 = .ok (.putfield 58, 3) := by decide +kernel
theorem dX0_mergeFrom_118 : decode cX0_mergeFrom 118 = .ok (.iload_n 3, 1) := by decide +kernel
theorem dX0_mergeFrom_119 : decode cX0_mergeFrom 119 = .ok (.ireturn, 1) := by decide +kernel
set_option maxRecDepth 20000 in
theorem ggX0_recount_X1_reset : GoodIn wsX0_recount wsX1_reset := goodIn_r _ [7, 8, 9, 10, 11, 12, 13, 14, 54, 55, 56] (by decide +kernel) (by decide +kernel)
set_option maxRecDepth 20000 in
theorem gX0_recount_X1_reset : GoodIn wsX0_recount (wsV RX0 90 RX1 yX1_reset wsX1_reset) := goodIn_app (goodIn_of _ (by decide +kernel)) ggX0_recount_X1_reset
set_option maxRecDepth 20000 in
theorem ggX0_recount_X0_documentAt : GoodIn wsX0_recount wsX0_documentAt := goodIn_r _ [19, 2, 20, 48, 49, 50, 51, 52, 53] (by decide +kernel) (by decide +kernel)
set_option maxRecDepth 20000 in
theorem gX0_recount_X0_documentAt : GoodIn wsX0_recount (wsV RX0 44 RX0 yX0_documentAt wsX0_documentAt) := goodIn_app (goodIn_of _ (by decide +kernel)) ggX0_recount_X0_documentAt
set_option maxRecDepth 20000 in
theorem ggX0_recount_X2_liesInSegment : GoodIn wsX0_recount wsX2_liesInSegment := goodIn_r _ [25, 26, 57, 58, 59, 60, 61] (by decide +kernel) (by decide +kernel)
set_option maxRecDepth 20000 in
theorem gX0_recount_X2_liesInSegment : GoodIn wsX0_recount (wsV RX0 55 RX2 yX2_liesInSegment wsX2_liesInSegment) := goodIn_app (goodIn_of _ (by decide +kernel)) ggX0_recount_X2_liesInSegment
set_option maxRecDepth 20000 in
theorem ggX0_recount_X1_count : GoodIn wsX0_recount wsX1_count := goodIn_r _ [30, 8, 10, 9, 31, 32, 33, 34, 24, 35, 36, 37, 38, 6, 39, 40, 41, 42, 43, 44, 45, 46, 47, 54, 55, 56, 62, 63, 64, 65, 66, 57, 58, 59, 60, 61] (by decide +kernel) (by decide +kernel)
set_option maxRecDepth 20000 in
theorem gX0_recount_X1_count : GoodIn wsX0_recount (wsV RX0 93 RX1 yX1_count wsX1_count) := goodIn_app (goodIn_of _ (by decide +kernel)) ggX0_recount_X1_count
theorem dX0_recount_0 : decode cX0_recount 0 = .ok (.aload_n 0, 1) := by decide +kernel
theorem dX0_recount_1 : decode cX0_recount 1 = .ok (.getfield 24, 3) := by decide +kernel
theorem dX0_recount_4 : decode cX0_recount 4 = .ok (.invokevirtual 90, 3) := by decide +kernel
theorem dX0_recount_7 : decode cX0_recount 7 = .ok (.iconst 0, 1) := by decide +kernel
theorem dX0_recount_8 : decode cX0_recount 8 = .ok (.istore_n 1, 1) := by decide +kernel
theorem dX0_recount_9 : decode cX0_recount 9 = .ok (.iload_n 1, 1) := by decide +kernel
theorem dX0_recount_10 : decode cX0_recount 10 = .ok (.aload_n 0, 1) := by decide +kernel
theorem dX0_recount_11 : decode cX0_recount 11 = .ok (.getfield 28, 3) := by decide +kernel
theorem dX0_recount_14 : decode cX0_recount 14 = .ok (.if_icmp .ge 34, 3) := by decide +kernel
theorem dX0_recount_17 : decode cX0_recount 17 = .ok (.aload_n 0, 1) := by decide +kernel
theorem dX0_recount_18 : decode cX0_recount 18 = .ok (.iload_n 1, 1) := by decide +kernel
theorem dX0_recount_19 : decode cX0_recount 19 = .ok (.invokevirtual 44, 3) := by decide +kernel
theorem dX0_recount_22 : decode cX0_recount 22 = .ok (.astore_n 2, 1) := by decide +kernel
theorem dX0_recount_23 : decode cX0_recount 23 = .ok (.aload_n 2, 1) := by decide +kernel
theorem dX0_recount_24 : decode cX0_recount 24 = .ok (.ifnull 18, 3) := by decide +kernel
theorem dX0_recount_27 : decode cX0_recount 27 = .ok (.aload_n 2, 1) := by decide +kernel
theorem dX0_recount_28 : decode cX0_recount 28 = .ok (.invokevirtual 55, 3) := by decide +kernel
theorem dX0_recount_31 : decode cX0_recount 31 = .ok (.ifCond .eq 11, 3) := by decide +kernel
theorem dX0_recount_34 : decode cX0_recount 34 = .ok (.aload_n 0, 1) := by decide +kernel
theorem dX0_recount_35 : decode cX0_recount 35 = .ok (.getfield 24, 3) := by decide +kernel
theorem dX0_recount_38 : decode cX0_recount 38 = .ok (.aload_n 2, 1) := by decide +kernel
theorem dX0_recount_39 : decode cX0_recount 39 = .ok (.invokevirtual 93, 3) := by decide +kernel
theorem dX0_recount_42 : decode cX0_recount 42 = .ok (.iinc 1 1, 3) := by decide +kernel
theorem dX0_recount_45 : decode cX0_recount 45 = .ok (.goto (-36), 3) := by decide +kernel
theorem dX0_recount_48 : decode cX0_recount 48 = .ok (.return_, 1) := by decide +kernel
set_option maxRecDepth 20000 in
theorem ggX0_countSurvivors_X1_reset : GoodIn wsX0_countSurvivors wsX1_reset := goodIn_r _ [7, 8, 9, 10, 11, 12, 13, 14, 54, 55, 56] (by decide +kernel) (by decide +kernel)
set_option maxRecDepth 20000 in
theorem gX0_countSurvivors_X1_reset : GoodIn wsX0_countSurvivors (wsV RX0 90 RX1 yX1_reset wsX1_reset) := goodIn_app (goodIn_of _ (by decide +kernel)) ggX0_countSurvivors_X1_reset
set_option maxRecDepth 20000 in
theorem ggX0_countSurvivors_X0_documentAt : GoodIn wsX0_countSurvivors wsX0_documentAt := goodIn_r _ [19, 1, 20, 43, 44, 45, 46, 47, 48] (by decide +kernel) (by decide +kernel)
set_option maxRecDepth 20000 in
theorem gX0_countSurvivors_X0_documentAt : GoodIn wsX0_countSurvivors (wsV RX0 44 RX0 yX0_documentAt wsX0_documentAt) := goodIn_app (goodIn_of _ (by decide +kernel)) ggX0_countSurvivors_X0_documentAt
set_option maxRecDepth 20000 in
theorem ggX0_countSurvivors_X1_count : GoodIn wsX0_countSurvivors wsX1_count := goodIn_r _ [24, 8, 10, 9, 25, 26, 27, 28, 29, 30, 31, 32, 33, 6, 34, 35, 36, 37, 38, 39, 40, 41, 42, 54, 55, 56, 57, 58, 59, 60, 61, 49, 50, 51, 52, 53] (by decide +kernel) (by decide +kernel)
set_option maxRecDepth 20000 in
theorem gX0_countSurvivors_X1_count : GoodIn wsX0_countSurvivors (wsV RX0 93 RX1 yX1_count wsX1_count) := goodIn_app (goodIn_of _ (by decide +kernel)) ggX0_countSurvivors_X1_count
theorem dX0_countSurvivors_0 : decode cX0_countSurvivors 0 = .ok (.aload_n 1, 1) := by decide +kernel
theorem dX0_countSurvivors_1 : decode cX0_countSurvivors 1 = .ok (.invokevirtual 90, 3) := by decide +kernel
theorem dX0_countSurvivors_4 : decode cX0_countSurvivors 4 = .ok (.iconst 0, 1) := by decide +kernel
theorem dX0_countSurvivors_5 : decode cX0_countSurvivors 5 = .ok (.istore_n 2, 1) := by decide +kernel
theorem dX0_countSurvivors_6 : decode cX0_countSurvivors 6 = .ok (.iload_n 2, 1) := by decide +kernel
theorem dX0_countSurvivors_7 : decode cX0_countSurvivors 7 = .ok (.aload_n 0, 1) := by decide +kernel
theorem dX0_countSurvivors_8 : decode cX0_countSurvivors 8 = .ok (.getfield 28, 3) := by decide +kernel
theorem dX0_countSurvivors_11 : decode cX0_countSurvivors 11 = .ok (.if_icmp .ge 31, 3) := by decide +kernel
theorem dX0_countSurvivors_14 : decode cX0_countSurvivors 14 = .ok (.aload_n 0, 1) := by decide +kernel
theorem dX0_countSurvivors_15 : decode cX0_countSurvivors 15 = .ok (.iload_n 2, 1) := by decide +kernel
theorem dX0_countSurvivors_16 : decode cX0_countSurvivors 16 = .ok (.invokevirtual 44, 3) := by decide +kernel
theorem dX0_countSurvivors_19 : decode cX0_countSurvivors 19 = .ok (.astore_n 3, 1) := by decide +kernel
theorem dX0_countSurvivors_20 : decode cX0_countSurvivors 20 = .ok (.aload_n 3, 1) := by decide +kernel
theorem dX0_countSurvivors_21 : decode cX0_countSurvivors 21 = .ok (.ifnull 15, 3) := by decide +kernel
theorem dX0_countSurvivors_24 : decode cX0_countSurvivors 24 = .ok (.aload_n 3, 1) := by decide +kernel
theorem dX0_countSurvivors_25 : decode cX0_countSurvivors 25 = .ok (.getfield 51, 3) := by decide +kernel
theorem dX0_countSurvivors_28 : decode cX0_countSurvivors 28 = .ok (.ifCond .ne 8, 3) := by decide +kernel
theorem dX0_countSurvivors_31 : decode cX0_countSurvivors 31 = .ok (.aload_n 1, 1) := by decide +kernel
theorem dX0_countSurvivors_32 : decode cX0_countSurvivors 32 = .ok (.aload_n 3, 1) := by decide +kernel
theorem dX0_countSurvivors_33 : decode cX0_countSurvivors 33 = .ok (.invokevirtual 93, 3) := by decide +kernel
theorem dX0_countSurvivors_36 : decode cX0_countSurvivors 36 = .ok (.iinc 2 1, 3) := by decide +kernel
theorem dX0_countSurvivors_39 : decode cX0_countSurvivors 39 = .ok (.goto (-33), 3) := by decide +kernel
theorem dX0_countSurvivors_42 : decode cX0_countSurvivors 42 = .ok (.return_, 1) := by decide +kernel
theorem dX1_init_0 : decode cX1_init 0 = .ok (.aload_n 0, 1) := by decide +kernel
theorem dX1_init_1 : decode cX1_init 1 = .ok (.invokespecial 3, 3) := by decide +kernel
theorem dX1_init_4 : decode cX1_init 4 = .ok (.aload_n 0, 1) := by decide +kernel
theorem dX1_init_5 : decode cX1_init 5 = .ok (.iconst 3, 1) := by decide +kernel
theorem dX1_init_6 : decode cX1_init 6 = .ok (.sipush 200, 3) := by decide +kernel
theorem dX1_init_9 : decode cX1_init 9 = .ok (.multianewarray 9 2, 4) := by decide +kernel
theorem dX1_init_13 : decode cX1_init 13 = .ok (.putfield 11, 3) := by decide +kernel
theorem dX1_init_16 : decode cX1_init 16 = .ok (.aload_n 0, 1) := by decide +kernel
theorem dX1_init_17 : decode cX1_init 17 = .ok (.iconst 3, 1) := by decide +kernel
theorem dX1_init_18 : decode cX1_init 18 = .ok (.newarray .int, 2) := by decide +kernel
theorem dX1_init_20 : decode cX1_init 20 = .ok (.putfield 16, 3) := by decide +kernel
theorem dX1_init_23 : decode cX1_init 23 = .ok (.return_, 1) := by decide +kernel
set_option maxRecDepth 20000 in
theorem ggX1_reset_J7_fill_53178 : GoodIn wsX1_reset wsJ7_fill_53178 := goodIn_r _ [7] (by decide +kernel) (by decide +kernel)
set_option maxRecDepth 20000 in
theorem gX1_reset_J7_fill_53178 : GoodIn wsX1_reset (va_wsS RX1 24 yJ7_fill_53178 wsJ7_fill_53178) := goodIn_app (goodIn_of _ (by decide +kernel)) ggX1_reset_J7_fill_53178
theorem dX1_reset_0 : decode cX1_reset 0 = .ok (.aload_n 0, 1) := by decide +kernel
theorem dX1_reset_1 : decode cX1_reset 1 = .ok (.iconst 0, 1) := by decide +kernel
theorem dX1_reset_2 : decode cX1_reset 2 = .ok (.putfield 20, 3) := by decide +kernel
theorem dX1_reset_5 : decode cX1_reset 5 = .ok (.aload_n 0, 1) := by decide +kernel
theorem dX1_reset_6 : decode cX1_reset 6 = .ok (.getfield 16, 3) := by decide +kernel
theorem dX1_reset_9 : decode cX1_reset 9 = .ok (.iconst 0, 1) := by decide +kernel
theorem dX1_reset_10 : decode cX1_reset 10 = .ok (.invokestatic 24, 3) := by decide +kernel
theorem dX1_reset_13 : decode cX1_reset 13 = .ok (.iconst 0, 1) := by decide +kernel
theorem dX1_reset_14 : decode cX1_reset 14 = .ok (.istore_n 1, 1) := by decide +kernel
theorem dX1_reset_15 : decode cX1_reset 15 = .ok (.iload_n 1, 1) := by decide +kernel
theorem dX1_reset_16 : decode cX1_reset 16 = .ok (.aload_n 0, 1) := by decide +kernel
theorem dX1_reset_17 : decode cX1_reset 17 = .ok (.getfield 11, 3) := by decide +kernel
theorem dX1_reset_20 : decode cX1_reset 20 = .ok (.arraylength, 1) := by decide +kernel
theorem dX1_reset_21 : decode cX1_reset 21 = .ok (.if_icmp .ge 19, 3) := by decide +kernel
theorem dX1_reset_24 : decode cX1_reset 24 = .ok (.aload_n 0, 1) := by decide +kernel
theorem dX1_reset_25 : decode cX1_reset 25 = .ok (.getfield 11, 3) := by decide +kernel
theorem dX1_reset_28 : decode cX1_reset 28 = .ok (.iload_n 1, 1) := by decide +kernel
theorem dX1_reset_29 : decode cX1_reset 29 = .ok (.aaload, 1) := by decide +kernel
theorem dX1_reset_30 : decode cX1_reset 30 = .ok (.iconst 0, 1) := by decide +kernel
theorem dX1_reset_31 : decode cX1_reset 31 = .ok (.invokestatic 24, 3) := by decide +kernel
theorem dX1_reset_34 : decode cX1_reset 34 = .ok (.iinc 1 1, 3) := by decide +kernel
theorem dX1_reset_37 : decode cX1_reset 37 = .ok (.goto (-22), 3) := by decide +kernel
theorem dX1_reset_40 : decode cX1_reset 40 = .ok (.return_, 1) := by decide +kernel
set_option maxRecDepth 20000 in
theorem ggX1_count_X2_rowOf : GoodIn wsX1_count wsX2_rowOf := goodIn_r _ [9, 10, 31, 32, 33, 34, 35] (by decide +kernel) (by decide +kernel)
set_option maxRecDepth 20000 in
theorem gX1_count_X2_rowOf : GoodIn wsX1_count (wsV RX1 30 RX2 yX2_rowOf wsX2_rowOf) := goodIn_app (goodIn_of _ (by decide +kernel)) ggX1_count_X2_rowOf
set_option maxRecDepth 20000 in
theorem ggX1_count_X1_countTerms : GoodIn wsX1_count wsX1_countTerms := goodIn_r _ [14, 15, 16, 17, 18, 19, 20, 21, 22, 26, 27, 28, 29, 30] (by decide +kernel) (by decide +kernel)
set_option maxRecDepth 20000 in
theorem gX1_count_X1_countTerms : GoodIn wsX1_count (va_wsS RX1 41 yX1_countTerms wsX1_countTerms) := goodIn_app (goodIn_of _ (by decide +kernel)) ggX1_count_X1_countTerms
theorem dX1_count_0 : decode cX1_count 0 = .ok (.aload_n 0, 1) := by decide +kernel
theorem dX1_count_1 : decode cX1_count 1 = .ok (.dup, 1) := by decide +kernel
theorem dX1_count_2 : decode cX1_count 2 = .ok (.getfield 20, 3) := by decide +kernel
theorem dX1_count_5 : decode cX1_count 5 = .ok (.iconst 1, 1) := by decide +kernel
theorem dX1_count_6 : decode cX1_count 6 = .ok (.iadd, 1) := by decide +kernel
theorem dX1_count_7 : decode cX1_count 7 = .ok (.putfield 20, 3) := by decide +kernel
theorem dX1_count_10 : decode cX1_count 10 = .ok (.iconst 0, 1) := by decide +kernel
theorem dX1_count_11 : decode cX1_count 11 = .ok (.istore_n 2, 1) := by decide +kernel
theorem dX1_count_12 : decode cX1_count 12 = .ok (.iload_n 2, 1) := by decide +kernel
theorem dX1_count_13 : decode cX1_count 13 = .ok (.aload_n 0, 1) := by decide +kernel
theorem dX1_count_14 : decode cX1_count 14 = .ok (.getfield 11, 3) := by decide +kernel
theorem dX1_count_17 : decode cX1_count 17 = .ok (.arraylength, 1) := by decide +kernel
theorem dX1_count_18 : decode cX1_count 18 = .ok (.if_icmp .ge 51, 3) := by decide +kernel
theorem dX1_count_21 : decode cX1_count 21 = .ok (.iload_n 2, 1) := by decide +kernel
theorem dX1_count_22 : decode cX1_count 22 = .ok (.aload_n 0, 1) := by decide +kernel
theorem dX1_count_23 : decode cX1_count 23 = .ok (.getfield 16, 3) := by decide +kernel
theorem dX1_count_26 : decode cX1_count 26 = .ok (.arraylength, 1) := by decide +kernel
theorem dX1_count_27 : decode cX1_count 27 = .ok (.if_icmp .ge 42, 3) := by decide +kernel
theorem dX1_count_30 : decode cX1_count 30 = .ok (.aload_n 1, 1) := by decide +kernel
theorem dX1_count_31 : decode cX1_count 31 = .ok (.iload_n 2, 1) := by decide +kernel
theorem dX1_count_32 : decode cX1_count 32 = .ok (.invokevirtual 30, 3) := by decide +kernel
theorem dX1_count_35 : decode cX1_count 35 = .ok (.astore_n 3, 1) := by decide +kernel
theorem dX1_count_36 : decode cX1_count 36 = .ok (.aload_n 3, 1) := by decide +kernel
theorem dX1_count_37 : decode cX1_count 37 = .ok (.ifnull 26, 3) := by decide +kernel
theorem dX1_count_40 : decode cX1_count 40 = .ok (.aload_n 0, 1) := by decide +kernel
theorem dX1_count_41 : decode cX1_count 41 = .ok (.getfield 16, 3) := by decide +kernel
theorem dX1_count_44 : decode cX1_count 44 = .ok (.iload_n 2, 1) := by decide +kernel
theorem dX1_count_45 : decode cX1_count 45 = .ok (.dup2, 1) := by decide +kernel
theorem dX1_count_46 : decode cX1_count 46 = .ok (.iaload, 1) := by decide +kernel
theorem dX1_count_47 : decode cX1_count 47 = .ok (.aload_n 3, 1) := by decide +kernel
theorem dX1_count_48 : decode cX1_count 48 = .ok (.getfield 36, 3) := by decide +kernel
theorem dX1_count_51 : decode cX1_count 51 = .ok (.iadd, 1) := by decide +kernel
theorem dX1_count_52 : decode cX1_count 52 = .ok (.iastore, 1) := by decide +kernel
theorem dX1_count_53 : decode cX1_count 53 = .ok (.aload_n 3, 1) := by decide +kernel
theorem dX1_count_54 : decode cX1_count 54 = .ok (.aload_n 0, 1) := by decide +kernel
theorem dX1_count_55 : decode cX1_count 55 = .ok (.getfield 11, 3) := by decide +kernel
theorem dX1_count_58 : decode cX1_count 58 = .ok (.iload_n 2, 1) := by decide +kernel
theorem dX1_count_59 : decode cX1_count 59 = .ok (.aaload, 1) := by decide +kernel
theorem dX1_count_60 : decode cX1_count 60 = .ok (.invokestatic 41, 3) := by decide +kernel
theorem dX1_count_63 : decode cX1_count 63 = .ok (.iinc 2 1, 3) := by decide +kernel
theorem dX1_count_66 : decode cX1_count 66 = .ok (.goto (-54), 3) := by decide +kernel
theorem dX1_count_69 : decode cX1_count 69 = .ok (.return_, 1) := by decide +kernel
set_option maxRecDepth 20000 in
theorem ggX1_countTerms_X9_differentTermOn : GoodIn wsX1_countTerms wsX9_differentTermOn := goodIn_r _ [6, 7, 8, 9, 10, 11, 12, 13] (by decide +kernel) (by decide +kernel)
set_option maxRecDepth 20000 in
theorem gX1_countTerms_X9_differentTermOn : GoodIn wsX1_countTerms (wsV RX1 48 RX9 yX9_differentTermOn wsX9_differentTermOn) := goodIn_app (goodIn_of _ (by decide +kernel)) ggX1_countTerms_X9_differentTermOn
theorem dX1_countTerms_0 : decode cX1_countTerms 0 = .ok (.iconst 0, 1) := by decide +kernel
theorem dX1_countTerms_1 : decode cX1_countTerms 1 = .ok (.istore_n 2, 1) := by decide +kernel
theorem dX1_countTerms_2 : decode cX1_countTerms 2 = .ok (.iload_n 2, 1) := by decide +kernel
theorem dX1_countTerms_3 : decode cX1_countTerms 3 = .ok (.aload_n 0, 1) := by decide +kernel
theorem dX1_countTerms_4 : decode cX1_countTerms 4 = .ok (.getfield 45, 3) := by decide +kernel
theorem dX1_countTerms_7 : decode cX1_countTerms 7 = .ok (.if_icmp .ge 32, 3) := by decide +kernel
theorem dX1_countTerms_10 : decode cX1_countTerms 10 = .ok (.aload_n 0, 1) := by decide +kernel
theorem dX1_countTerms_11 : decode cX1_countTerms 11 = .ok (.iload_n 2, 1) := by decide +kernel
theorem dX1_countTerms_12 : decode cX1_countTerms 12 = .ok (.invokevirtual 48, 3) := by decide +kernel
theorem dX1_countTerms_15 : decode cX1_countTerms 15 = .ok (.istore_n 3, 1) := by decide +kernel
theorem dX1_countTerms_16 : decode cX1_countTerms 16 = .ok (.iload_n 3, 1) := by decide +kernel
theorem dX1_countTerms_17 : decode cX1_countTerms 17 = .ok (.ifCond .lt 16, 3) := by decide +kernel
theorem dX1_countTerms_20 : decode cX1_countTerms 20 = .ok (.iload_n 3, 1) := by decide +kernel
theorem dX1_countTerms_21 : decode cX1_countTerms 21 = .ok (.aload_n 1, 1) := by decide +kernel
theorem dX1_countTerms_22 : decode cX1_countTerms 22 = .ok (.arraylength, 1) := by decide +kernel
theorem dX1_countTerms_23 : decode cX1_countTerms 23 = .ok (.if_icmp .ge 10, 3) := by decide +kernel
theorem dX1_countTerms_26 : decode cX1_countTerms 26 = .ok (.aload_n 1, 1) := by decide +kernel
theorem dX1_countTerms_27 : decode cX1_countTerms 27 = .ok (.iload_n 3, 1) := by decide +kernel
theorem dX1_countTerms_28 : decode cX1_countTerms 28 = .ok (.dup2, 1) := by decide +kernel
theorem dX1_countTerms_29 : decode cX1_countTerms 29 = .ok (.iaload, 1) := by decide +kernel
theorem dX1_countTerms_30 : decode cX1_countTerms 30 = .ok (.iconst 1, 1) := by decide +kernel
theorem dX1_countTerms_31 : decode cX1_countTerms 31 = .ok (.iadd, 1) := by decide +kernel
theorem dX1_countTerms_32 : decode cX1_countTerms 32 = .ok (.iastore, 1) := by decide +kernel
theorem dX1_countTerms_33 : decode cX1_countTerms 33 = .ok (.iinc 2 1, 3) := by decide +kernel
theorem dX1_countTerms_36 : decode cX1_countTerms 36 = .ok (.goto (-34), 3) := by decide +kernel
theorem dX1_countTerms_39 : decode cX1_countTerms 39 = .ok (.return_, 1) := by decide +kernel
theorem dX1_spreadOf_0 : decode cX1_spreadOf 0 = .ok (.iload_n 2, 1) := by decide +kernel
theorem dX1_spreadOf_1 : decode cX1_spreadOf 1 = .ok (.ifCond .lt 27, 3) := by decide +kernel
theorem dX1_spreadOf_4 : decode cX1_spreadOf 4 = .ok (.iload_n 2, 1) := by decide +kernel
theorem dX1_spreadOf_5 : decode cX1_spreadOf 5 = .ok (.aload_n 0, 1) := by decide +kernel
theorem dX1_spreadOf_6 : decode cX1_spreadOf 6 = .ok (.getfield 11, 3) := by decide +kernel
theorem dX1_spreadOf_9 : decode cX1_spreadOf 9 = .ok (.arraylength, 1) := by decide +kernel
theorem dX1_spreadOf_10 : decode cX1_spreadOf 10 = .ok (.if_icmp .ge 18, 3) := by decide +kernel
theorem dX1_spreadOf_13 : decode cX1_spreadOf 13 = .ok (.iload_n 1, 1) := by decide +kernel
theorem dX1_spreadOf_14 : decode cX1_spreadOf 14 = .ok (.ifCond .lt 14, 3) := by decide +kernel
theorem dX1_spreadOf_17 : decode cX1_spreadOf 17 = .ok (.iload_n 1, 1) := by decide +kernel
theorem dX1_spreadOf_18 : decode cX1_spreadOf 18 = .ok (.aload_n 0, 1) := by decide +kernel
theorem dX1_spreadOf_19 : decode cX1_spreadOf 19 = .ok (.getfield 11, 3) := by decide +kernel
theorem dX1_spreadOf_22 : decode cX1_spreadOf 22 = .ok (.iload_n 2, 1) := by decide +kernel
theorem dX1_spreadOf_23 : decode cX1_spreadOf 23 = .ok (.aaload, 1) := by decide +kernel
theorem dX1_spreadOf_24 : decode cX1_spreadOf 24 = .ok (.arraylength, 1) := by decide +kernel
theorem dX1_spreadOf_25 : decode cX1_spreadOf 25 = .ok (.if_icmp .lt 5, 3) := by decide +kernel
theorem dX1_spreadOf_28 : decode cX1_spreadOf 28 = .ok (.iconst 0, 1) := by decide +kernel
theorem dX1_spreadOf_29 : decode cX1_spreadOf 29 = .ok (.ireturn, 1) := by decide +kernel
theorem dX1_spreadOf_30 : decode cX1_spreadOf 30 = .ok (.aload_n 0, 1) := by decide +kernel
theorem dX1_spreadOf_31 : decode cX1_spreadOf 31 = .ok (.getfield 11, 3) := by decide +kernel
theorem dX1_spreadOf_34 : decode cX1_spreadOf 34 = .ok (.iload_n 2, 1) := by decide +kernel
theorem dX1_spreadOf_35 : decode cX1_spreadOf 35 = .ok (.aaload, 1) := by decide +kernel
theorem dX1_spreadOf_36 : decode cX1_spreadOf 36 = .ok (.iload_n 1, 1) := by decide +kernel
theorem dX1_spreadOf_37 : decode cX1_spreadOf 37 = .ok (.iaload, 1) := by decide +kernel
theorem dX1_spreadOf_38 : decode cX1_spreadOf 38 = .ok (.ireturn, 1) := by decide +kernel
theorem dX1_lengthOf_0 : decode cX1_lengthOf 0 = .ok (.iload_n 1, 1) := by decide +kernel
theorem dX1_lengthOf_1 : decode cX1_lengthOf 1 = .ok (.ifCond .lt 12, 3) := by decide +kernel
theorem dX1_lengthOf_4 : decode cX1_lengthOf 4 = .ok (.iload_n 1, 1) := by decide +kernel
theorem dX1_lengthOf_5 : decode cX1_lengthOf 5 = .ok (.aload_n 0, 1) := by decide +kernel
theorem dX1_lengthOf_6 : decode cX1_lengthOf 6 = .ok (.getfield 16, 3) := by decide +kernel
theorem dX1_lengthOf_9 : decode cX1_lengthOf 9 = .ok (.arraylength, 1) := by decide +kernel
theorem dX1_lengthOf_10 : decode cX1_lengthOf 10 = .ok (.if_icmp .lt 7, 3) := by decide +kernel
theorem dX1_lengthOf_13 : decode cX1_lengthOf 13 = .ok (.iconst 0, 1) := by decide +kernel
theorem dX1_lengthOf_14 : decode cX1_lengthOf 14 = .ok (.goto 9, 3) := by decide +kernel
theorem dX1_lengthOf_17 : decode cX1_lengthOf 17 = .ok (.aload_n 0, 1) := by decide +kernel
theorem dX1_lengthOf_18 : decode cX1_lengthOf 18 = .ok (.getfield 16, 3) := by decide +kernel
theorem dX1_lengthOf_21 : decode cX1_lengthOf 21 = .ok (.iload_n 1, 1) := by decide +kernel
theorem dX1_lengthOf_22 : decode cX1_lengthOf 22 = .ok (.iaload, 1) := by decide +kernel
theorem dX1_lengthOf_23 : decode cX1_lengthOf 23 = .ok (.ireturn, 1) := by decide +kernel
theorem dX1_rarityOf_0 : decode cX1_rarityOf 0 = .ok (.iload_n 1, 1) := by decide +kernel
theorem dX1_rarityOf_1 : decode cX1_rarityOf 1 = .ok (.ifCond .ge 5, 3) := by decide +kernel
theorem dX1_rarityOf_4 : decode cX1_rarityOf 4 = .ok (.iconst 0, 1) := by decide +kernel
theorem dX1_rarityOf_5 : decode cX1_rarityOf 5 = .ok (.ireturn, 1) := by decide +kernel
theorem dX1_rarityOf_6 : decode cX1_rarityOf 6 = .ok (.sipush 10000, 3) := by decide +kernel
theorem dX1_rarityOf_9 : decode cX1_rarityOf 9 = .ok (.aload_n 0, 1) := by decide +kernel
theorem dX1_rarityOf_10 : decode cX1_rarityOf 10 = .ok (.getfield 20, 3) := by decide +kernel
theorem dX1_rarityOf_13 : decode cX1_rarityOf 13 = .ok (.iconst 1, 1) := by decide +kernel
theorem dX1_rarityOf_14 : decode cX1_rarityOf 14 = .ok (.iadd, 1) := by decide +kernel
theorem dX1_rarityOf_15 : decode cX1_rarityOf 15 = .ok (.imul, 1) := by decide +kernel
theorem dX1_rarityOf_16 : decode cX1_rarityOf 16 = .ok (.iload_n 1, 1) := by decide +kernel
theorem dX1_rarityOf_17 : decode cX1_rarityOf 17 = .ok (.iconst 1, 1) := by decide +kernel
theorem dX1_rarityOf_18 : decode cX1_rarityOf 18 = .ok (.iadd, 1) := by decide +kernel
theorem dX1_rarityOf_19 : decode cX1_rarityOf 19 = .ok (.idiv, 1) := by decide +kernel
theorem dX1_rarityOf_20 : decode cX1_rarityOf 20 = .ok (.istore_n 2, 1) := by decide +kernel
theorem dX1_rarityOf_21 : decode cX1_rarityOf 21 = .ok (.iconst 0, 1) := by decide +kernel
theorem dX1_rarityOf_22 : decode cX1_rarityOf 22 = .ok (.istore_n 3, 1) := by decide +kernel
theorem dX1_rarityOf_23 : decode cX1_rarityOf 23 = .ok (.sipush 16384, 3) := by decide +kernel
theorem dX1_rarityOf_26 : decode cX1_rarityOf 26 = .ok (.istore 4, 2) := by decide +kernel
theorem dX1_rarityOf_28 : decode cX1_rarityOf 28 = .ok (.iload 4, 2) := by decide +kernel
theorem dX1_rarityOf_30 : decode cX1_rarityOf 30 = .ok (.ifCond .le 30, 3) := by decide +kernel
theorem dX1_rarityOf_33 : decode cX1_rarityOf 33 = .ok (.iload_n 3, 1) := by decide +kernel
theorem dX1_rarityOf_34 : decode cX1_rarityOf 34 = .ok (.iload 4, 2) := by decide +kernel
theorem dX1_rarityOf_36 : decode cX1_rarityOf 36 = .ok (.iadd, 1) := by decide +kernel
theorem dX1_rarityOf_37 : decode cX1_rarityOf 37 = .ok (.istore 5, 2) := by decide +kernel
theorem dX1_rarityOf_39 : decode cX1_rarityOf 39 = .ok (.iload 5, 2) := by decide +kernel
theorem dX1_rarityOf_41 : decode cX1_rarityOf 41 = .ok (.iload 5, 2) := by decide +kernel
theorem dX1_rarityOf_43 : decode cX1_rarityOf 43 = .ok (.imul, 1) := by decide +kernel
theorem dX1_rarityOf_44 : decode cX1_rarityOf 44 = .ok (.iload_n 2, 1) := by decide +kernel
theorem dX1_rarityOf_45 : decode cX1_rarityOf 45 = .ok (.if_icmp .gt 6, 3) := by decide +kernel
theorem dX1_rarityOf_48 : decode cX1_rarityOf 48 = .ok (.iload 5, 2) := by decide +kernel
theorem dX1_rarityOf_50 : decode cX1_rarityOf 50 = .ok (.istore_n 3, 1) := by decide +kernel
theorem dX1_rarityOf_51 : decode cX1_rarityOf 51 = .ok (.iload 4, 2) := by decide +kernel
theorem dX1_rarityOf_53 : decode cX1_rarityOf 53 = .ok (.iconst 1, 1) := by decide +kernel
theorem dX1_rarityOf_54 : decode cX1_rarityOf 54 = .ok (.ishr, 1) := by decide +kernel
theorem dX1_rarityOf_55 : decode cX1_rarityOf 55 = .ok (.istore 4, 2) := by decide +kernel
theorem dX1_rarityOf_57 : decode cX1_rarityOf 57 = .ok (.goto (-29), 3) := by decide +kernel
theorem dX1_rarityOf_60 : decode cX1_rarityOf 60 = .ok (.iload_n 3, 1) := by decide +kernel
theorem dX1_rarityOf_61 : decode cX1_rarityOf 61 = .ok (.ireturn, 1) := by decide +kernel
set_option maxRecDepth 20000 in
theorem ggX2_init_X9_init : GoodIn wsX2_init wsX9_init := goodIn_r _ [12, 13, 2, 3, 14, 15, 16, 17, 23, 24, 25, 26, 27] (by decide +kernel) (by decide +kernel)
set_option maxRecDepth 20000 in
theorem gX2_init_X9_init_n27 : GoodIn wsX2_init (wsX9_init) := ggX2_init_X9_init
theorem dX2_init_0 : decode cX2_init 0 = .ok (.aload_n 0, 1) := by decide +kernel
theorem dX2_init_1 : decode cX2_init 1 = .ok (.invokespecial 3, 3) := by decide +kernel
theorem dX2_init_4 : decode cX2_init 4 = .ok (.aload_n 0, 1) := by decide +kernel
theorem dX2_init_5 : decode cX2_init 5 = .ok (.iconst 3, 1) := by decide +kernel
theorem dX2_init_6 : decode cX2_init 6 = .ok (.anewarray 9, 3) := by decide +kernel
theorem dX2_init_9 : decode cX2_init 9 = .ok (.putfield 11, 3) := by decide +kernel
theorem dX2_init_12 : decode cX2_init 12 = .ok (.aload_n 0, 1) := by decide +kernel
theorem dX2_init_13 : decode cX2_init 13 = .ok (.iconst (-1), 1) := by decide +kernel
theorem dX2_init_14 : decode cX2_init 14 = .ok (.putfield 17, 3) := by decide +kernel
theorem dX2_init_17 : decode cX2_init 17 = .ok (.aload_n 0, 1) := by decide +kernel
theorem dX2_init_18 : decode cX2_init 18 = .ok (.iload_n 1, 1) := by decide +kernel
theorem dX2_init_19 : decode cX2_init 19 = .ok (.putfield 21, 3) := by decide +kernel
theorem dX2_init_22 : decode cX2_init 22 = .ok (.aload_n 0, 1) := by decide +kernel
theorem dX2_init_23 : decode cX2_init 23 = .ok (.iload_n 2, 1) := by decide +kernel
theorem dX2_init_24 : decode cX2_init 24 = .ok (.putfield 24, 3) := by decide +kernel
theorem dX2_init_27 : decode cX2_init 27 = .ok (.iconst 0, 1) := by decide +kernel
theorem dX2_init_28 : decode cX2_init 28 = .ok (.istore_n 3, 1) := by decide +kernel
theorem dX2_init_29 : decode cX2_init 29 = .ok (.iload_n 3, 1) := by decide +kernel
theorem dX2_init_30 : decode cX2_init 30 = .ok (.aload_n 0, 1) := by decide +kernel
theorem dX2_init_31 : decode cX2_init 31 = .ok (.getfield 11, 3) := by decide +kernel
theorem dX2_init_34 : decode cX2_init 34 = .ok (.arraylength, 1) := by decide +kernel
theorem dX2_init_35 : decode cX2_init 35 = .ok (.if_icmp .ge 22, 3) := by decide +kernel
theorem dX2_init_38 : decode cX2_init 38 = .ok (.aload_n 0, 1) := by decide +kernel
theorem dX2_init_39 : decode cX2_init 39 = .ok (.getfield 11, 3) := by decide +kernel
theorem dX2_init_42 : decode cX2_init 42 = .ok (.iload_n 3, 1) := by decide +kernel
theorem dX2_init_43 : decode cX2_init 43 = .ok (.new 9, 3) := by decide +kernel
theorem dX2_init_46 : decode cX2_init 46 = .ok (.dup, 1) := by decide +kernel
theorem dX2_init_47 : decode cX2_init 47 = .ok (.invokespecial 27, 3) := by decide +kernel
theorem dX2_init_50 : decode cX2_init 50 = .ok (.aastore, 1) := by decide +kernel
theorem dX2_init_51 : decode cX2_init 51 = .ok (.iinc 3 1, 3) := by decide +kernel
theorem dX2_init_54 : decode cX2_init 54 = .ok (.goto (-25), 3) := by decide +kernel
theorem dX2_init_57 : decode cX2_init 57 = .ok (.return_, 1) := by decide +kernel
theorem dX2_rowOf_0 : decode cX2_rowOf 0 = .ok (.iload_n 1, 1) := by decide +kernel
theorem dX2_rowOf_1 : decode cX2_rowOf 1 = .ok (.ifCond .lt 12, 3) := by decide +kernel
theorem dX2_rowOf_4 : decode cX2_rowOf 4 = .ok (.iload_n 1, 1) := by decide +kernel
theorem dX2_rowOf_5 : decode cX2_rowOf 5 = .ok (.aload_n 0, 1) := by decide +kernel
theorem dX2_rowOf_6 : decode cX2_rowOf 6 = .ok (.getfield 11, 3) := by decide +kernel
theorem dX2_rowOf_9 : decode cX2_rowOf 9 = .ok (.arraylength, 1) := by decide +kernel
theorem dX2_rowOf_10 : decode cX2_rowOf 10 = .ok (.if_icmp .lt 7, 3) := by decide +kernel
theorem dX2_rowOf_13 : decode cX2_rowOf 13 = .ok (.aconst_null, 1) := by decide +kernel
theorem dX2_rowOf_14 : decode cX2_rowOf 14 = .ok (.goto 9, 3) := by decide +kernel
theorem dX2_rowOf_17 : decode cX2_rowOf 17 = .ok (.aload_n 0, 1) := by decide +kernel
theorem dX2_rowOf_18 : decode cX2_rowOf 18 = .ok (.getfield 11, 3) := by decide +kernel
theorem dX2_rowOf_21 : decode cX2_rowOf 21 = .ok (.iload_n 1, 1) := by decide +kernel
theorem dX2_rowOf_22 : decode cX2_rowOf 22 = .ok (.aaload, 1) := by decide +kernel
theorem dX2_rowOf_23 : decode cX2_rowOf 23 = .ok (.areturn, 1) := by decide +kernel
theorem dX2_liesInSegment_0 : decode cX2_liesInSegment 0 = .ok (.aload_n 0, 1) := by decide +kernel
theorem dX2_liesInSegment_1 : decode cX2_liesInSegment 1 = .ok (.getfield 17, 3) := by decide +kernel
theorem dX2_liesInSegment_4 : decode cX2_liesInSegment 4 = .ok (.ifCond .lt 7, 3) := by decide +kernel
theorem dX2_liesInSegment_7 : decode cX2_liesInSegment 7 = .ok (.iconst 1, 1) := by decide +kernel
theorem dX2_liesInSegment_8 : decode cX2_liesInSegment 8 = .ok (.goto 4, 3) := by decide +kernel
theorem dX2_liesInSegment_11 : decode cX2_liesInSegment 11 = .ok (.iconst 0, 1) := by decide +kernel
theorem dX2_liesInSegment_12 : decode cX2_liesInSegment 12 = .ok (.ireturn, 1) := by decide +kernel
set_option maxRecDepth 20000 in
theorem ggX2_canBeFound_X2_liesInSegment : GoodIn wsX2_canBeFound wsX2_liesInSegment := goodIn_r _ [6, 7, 8, 9, 10, 11, 12] (by decide +kernel) (by decide +kernel)
set_option maxRecDepth 20000 in
theorem gX2_canBeFound_X2_liesInSegment : GoodIn wsX2_canBeFound (wsV RX2 32 RX2 yX2_liesInSegment wsX2_liesInSegment) := goodIn_app (goodIn_of _ (by decide +kernel)) ggX2_canBeFound_X2_liesInSegment
theorem dX2_canBeFound_0 : decode cX2_canBeFound 0 = .ok (.aload_n 0, 1) := by decide +kernel
theorem dX2_canBeFound_1 : decode cX2_canBeFound 1 = .ok (.getfield 28, 3) := by decide +kernel
theorem dX2_canBeFound_4 : decode cX2_canBeFound 4 = .ok (.ifCond .ne 14, 3) := by decide +kernel
theorem dX2_canBeFound_7 : decode cX2_canBeFound 7 = .ok (.aload_n 0, 1) := by decide +kernel
theorem dX2_canBeFound_8 : decode cX2_canBeFound 8 = .ok (.invokevirtual 32, 3) := by decide +kernel
theorem dX2_canBeFound_11 : decode cX2_canBeFound 11 = .ok (.ifCond .eq 7, 3) := by decide +kernel
theorem dX2_canBeFound_14 : decode cX2_canBeFound 14 = .ok (.iconst 1, 1) := by decide +kernel
theorem dX2_canBeFound_15 : decode cX2_canBeFound 15 = .ok (.goto 4, 3) := by decide +kernel
theorem dX2_canBeFound_18 : decode cX2_canBeFound 18 = .ok (.iconst 0, 1) := by decide +kernel
theorem dX2_canBeFound_19 : decode cX2_canBeFound 19 = .ok (.ireturn, 1) := by decide +kernel
set_option maxRecDepth 20000 in
theorem ggX2_state_X2_liesInSegment : GoodIn wsX2_state wsX2_liesInSegment := goodIn_r _ [6, 7, 8, 9, 10, 11, 12] (by decide +kernel) (by decide +kernel)
set_option maxRecDepth 20000 in
theorem gX2_state_X2_liesInSegment : GoodIn wsX2_state (wsV RX2 32 RX2 yX2_liesInSegment wsX2_liesInSegment) := goodIn_app (goodIn_of _ (by decide +kernel)) ggX2_state_X2_liesInSegment
theorem dX2_state_0 : decode cX2_state 0 = .ok (.aload_n 0, 1) := by decide +kernel
theorem dX2_state_1 : decode cX2_state 1 = .ok (.getfield 28, 3) := by decide +kernel
theorem dX2_state_4 : decode cX2_state 4 = .ok (.ifCond .eq 5, 3) := by decide +kernel
theorem dX2_state_7 : decode cX2_state 7 = .ok (.iconst 0, 1) := by decide +kernel
theorem dX2_state_8 : decode cX2_state 8 = .ok (.ireturn, 1) := by decide +kernel
theorem dX2_state_9 : decode cX2_state 9 = .ok (.aload_n 0, 1) := by decide +kernel
theorem dX2_state_10 : decode cX2_state 10 = .ok (.invokevirtual 32, 3) := by decide +kernel
theorem dX2_state_13 : decode cX2_state 13 = .ok (.ifCond .eq 7, 3) := by decide +kernel
theorem dX2_state_16 : decode cX2_state 16 = .ok (.iconst 2, 1) := by decide +kernel
theorem dX2_state_17 : decode cX2_state 17 = .ok (.goto 4, 3) := by decide +kernel
theorem dX2_state_20 : decode cX2_state 20 = .ok (.iconst 1, 1) := by decide +kernel
theorem dX2_state_21 : decode cX2_state 21 = .ok (.ireturn, 1) := by decide +kernel
theorem dX3_init_0 : decode cX3_init 0 = .ok (.aload_n 0, 1) := by decide +kernel
theorem dX3_init_1 : decode cX3_init 1 = .ok (.invokespecial 3, 3) := by decide +kernel
theorem dX3_init_4 : decode cX3_init 4 = .ok (.aload_n 0, 1) := by decide +kernel
theorem dX3_init_5 : decode cX3_init 5 = .ok (.iconst 3, 1) := by decide +kernel
theorem dX3_init_6 : decode cX3_init 6 = .ok (.sipush 200, 3) := by decide +kernel
theorem dX3_init_9 : decode cX3_init 9 = .ok (.multianewarray 9 2, 4) := by decide +kernel
theorem dX3_init_13 : decode cX3_init 13 = .ok (.putfield 11, 3) := by decide +kernel
theorem dX3_init_16 : decode cX3_init 16 = .ok (.aload_n 0, 1) := by decide +kernel
theorem dX3_init_17 : decode cX3_init 17 = .ok (.sipush 200, 3) := by decide +kernel
theorem dX3_init_20 : decode cX3_init 20 = .ok (.newarray .int, 2) := by decide +kernel
theorem dX3_init_22 : decode cX3_init 22 = .ok (.putfield 16, 3) := by decide +kernel
theorem dX3_init_25 : decode cX3_init 25 = .ok (.aload_n 0, 1) := by decide +kernel
theorem dX3_init_26 : decode cX3_init 26 = .ok (.sipush 200, 3) := by decide +kernel
theorem dX3_init_29 : decode cX3_init 29 = .ok (.newarray .int, 2) := by decide +kernel
theorem dX3_init_31 : decode cX3_init 31 = .ok (.putfield 20, 3) := by decide +kernel
theorem dX3_init_34 : decode cX3_init 34 = .ok (.aload_n 0, 1) := by decide +kernel
theorem dX3_init_35 : decode cX3_init 35 = .ok (.sipush 200, 3) := by decide +kernel
theorem dX3_init_38 : decode cX3_init 38 = .ok (.newarray .int, 2) := by decide +kernel
theorem dX3_init_40 : decode cX3_init 40 = .ok (.putfield 23, 3) := by decide +kernel
theorem dX3_init_43 : decode cX3_init 43 = .ok (.aload_n 0, 1) := by decide +kernel
theorem dX3_init_44 : decode cX3_init 44 = .ok (.aload_n 1, 1) := by decide +kernel
theorem dX3_init_45 : decode cX3_init 45 = .ok (.putfield 26, 3) := by decide +kernel
theorem dX3_init_48 : decode cX3_init 48 = .ok (.aload_n 0, 1) := by decide +kernel
theorem dX3_init_49 : decode cX3_init 49 = .ok (.aload_n 2, 1) := by decide +kernel
theorem dX3_init_50 : decode cX3_init 50 = .ok (.putfield 30, 3) := by decide +kernel
theorem dX3_init_53 : decode cX3_init 53 = .ok (.return_, 1) := by decide +kernel
set_option maxRecDepth 20000 in
theorem ggX3_mostLike_X0_documentAt : GoodIn wsX3_mostLike wsX0_documentAt := goodIn_r _ [7, 8, 9, 81, 82, 83, 84, 85, 86] (by decide +kernel) (by decide +kernel)
set_option maxRecDepth 20000 in
theorem gX3_mostLike_X0_documentAt : GoodIn wsX3_mostLike (wsV RX3 34 RX0 yX0_documentAt wsX0_documentAt) := goodIn_app (goodIn_of _ (by decide +kernel)) ggX3_mostLike_X0_documentAt
set_option maxRecDepth 20000 in
theorem ggX3_mostLike_X3_fillWorths : GoodIn wsX3_mostLike wsX3_fillWorths := goodIn_r _ [14, 15, 16, 17, 18, 19, 20, 21, 22, 23, 24, 25, 26, 27, 28, 13, 29, 30, 31, 1, 32, 33, 34, 35, 36, 37, 38, 39, 40, 41, 42, 43, 44, 45, 46, 47, 48, 49, 50, 51, 52, 53, 54, 55, 56, 75, 76, 77, 78, 79, 80, 87, 88, 89, 90, 91, 92, 93, 94, 95, 96, 81, 82, 83, 84, 85, 86, 97, 98, 99, 100, 101, 102] (by decide +kernel) (by decide +kernel)
set_option maxRecDepth 20000 in
theorem gX3_mostLike_X3_fillWorths : GoodIn wsX3_mostLike (wsV RX3 40 RX3 yX3_fillWorths wsX3_fillWorths) := goodIn_app (goodIn_of _ (by decide +kernel)) ggX3_mostLike_X3_fillWorths
set_option maxRecDepth 20000 in
theorem ggX3_mostLike_X2_canBeFound : GoodIn wsX3_mostLike wsX2_canBeFound := goodIn_r _ [60, 61, 62, 63, 64, 23, 65, 66, 87, 88, 89, 90, 91] (by decide +kernel) (by decide +kernel)
set_option maxRecDepth 20000 in
theorem gX3_mostLike_X2_canBeFound : GoodIn wsX3_mostLike (wsV RX3 48 RX2 yX2_canBeFound wsX2_canBeFound) := goodIn_app (goodIn_of _ (by decide +kernel)) ggX3_mostLike_X2_canBeFound
set_option maxRecDepth 20000 in
theorem ggX3_mostLike_X3_likeness : GoodIn wsX3_mostLike wsX3_likeness := goodIn_r _ [70, 15, 30, 20, 21, 22, 23, 24, 25, 33, 34, 35, 36, 37, 38, 39, 71, 72, 73, 13, 74, 75, 76, 77, 78, 79, 80, 92, 93, 94, 95, 96, 87, 88, 89, 90, 91] (by decide +kernel) (by decide +kernel)
set_option maxRecDepth 20000 in
theorem gX3_mostLike_X3_likeness : GoodIn wsX3_mostLike (wsV RX3 54 RX3 yX3_likeness wsX3_likeness) := goodIn_app (goodIn_of _ (by decide +kernel)) ggX3_mostLike_X3_likeness
theorem dX3_mostLike_0 : decode cX3_mostLike 0 = .ok (.aload_n 0, 1) := by decide +kernel
theorem dX3_mostLike_1 : decode cX3_mostLike 1 = .ok (.getfield 26, 3) := by decide +kernel
theorem dX3_mostLike_4 : decode cX3_mostLike 4 = .ok (.iload_n 1, 1) := by decide +kernel
theorem dX3_mostLike_5 : decode cX3_mostLike 5 = .ok (.invokevirtual 34, 3) := by decide +kernel
theorem dX3_mostLike_8 : decode cX3_mostLike 8 = .ok (.astore_n 2, 1) := by decide +kernel
theorem dX3_mostLike_9 : decode cX3_mostLike 9 = .ok (.aload_n 2, 1) := by decide +kernel
theorem dX3_mostLike_10 : decode cX3_mostLike 10 = .ok (.ifnonnull 5, 3) := by decide +kernel
theorem dX3_mostLike_13 : decode cX3_mostLike 13 = .ok (.iconst (-1), 1) := by decide +kernel
theorem dX3_mostLike_14 : decode cX3_mostLike 14 = .ok (.ireturn, 1) := by decide +kernel
theorem dX3_mostLike_15 : decode cX3_mostLike 15 = .ok (.aload_n 0, 1) := by decide +kernel
theorem dX3_mostLike_16 : decode cX3_mostLike 16 = .ok (.aload_n 2, 1) := by decide +kernel
theorem dX3_mostLike_17 : decode cX3_mostLike 17 = .ok (.invokevirtual 40, 3) := by decide +kernel
theorem dX3_mostLike_20 : decode cX3_mostLike 20 = .ok (.iconst (-1), 1) := by decide +kernel
theorem dX3_mostLike_21 : decode cX3_mostLike 21 = .ok (.istore_n 3, 1) := by decide +kernel
theorem dX3_mostLike_22 : decode cX3_mostLike 22 = .ok (.iconst 0, 1) := by decide +kernel
theorem dX3_mostLike_23 : decode cX3_mostLike 23 = .ok (.istore 4, 2) := by decide +kernel
theorem dX3_mostLike_25 : decode cX3_mostLike 25 = .ok (.iconst 0, 1) := by decide +kernel
theorem dX3_mostLike_26 : decode cX3_mostLike 26 = .ok (.istore 5, 2) := by decide +kernel
theorem dX3_mostLike_28 : decode cX3_mostLike 28 = .ok (.iload 5, 2) := by decide +kernel
theorem dX3_mostLike_30 : decode cX3_mostLike 30 = .ok (.aload_n 0, 1) := by decide +kernel
theorem dX3_mostLike_31 : decode cX3_mostLike 31 = .ok (.getfield 26, 3) := by decide +kernel
theorem dX3_mostLike_34 : decode cX3_mostLike 34 = .ok (.getfield 44, 3) := by decide +kernel
theorem dX3_mostLike_37 : decode cX3_mostLike 37 = .ok (.if_icmp .ge 64, 3) := by decide +kernel
theorem dX3_mostLike_40 : decode cX3_mostLike 40 = .ok (.aload_n 0, 1) := by decide +kernel
theorem dX3_mostLike_41 : decode cX3_mostLike 41 = .ok (.getfield 26, 3) := by decide +kernel
theorem dX3_mostLike_44 : decode cX3_mostLike 44 = .ok (.iload 5, 2) := by decide +kernel
theorem dX3_mostLike_46 : decode cX3_mostLike 46 = .ok (.invokevirtual 34, 3) := by decide +kernel
theorem dX3_mostLike_49 : decode cX3_mostLike 49 = .ok (.astore 6, 2) := by decide +kernel
theorem dX3_mostLike_51 : decode cX3_mostLike 51 = .ok (.aload 6, 2) := by decide +kernel
theorem dX3_mostLike_53 : decode cX3_mostLike 53 = .ok (.ifnull 42, 3) := by decide +kernel
theorem dX3_mostLike_56 : decode cX3_mostLike 56 = .ok (.iload 5, 2) := by decide +kernel
theorem dX3_mostLike_58 : decode cX3_mostLike 58 = .ok (.iload_n 1, 1) := by decide +kernel
theorem dX3_mostLike_59 : decode cX3_mostLike 59 = .ok (.if_icmp .eq 36, 3) := by decide +kernel
theorem dX3_mostLike_62 : decode cX3_mostLike 62 = .ok (.aload 6, 2) := by decide +kernel
theorem dX3_mostLike_64 : decode cX3_mostLike 64 = .ok (.invokevirtual 48, 3) := by decide +kernel
theorem dX3_mostLike_67 : decode cX3_mostLike 67 = .ok (.ifCond .ne 6, 3) := by decide +kernel
theorem dX3_mostLike_70 : decode cX3_mostLike 70 = .ok (.goto 25, 3) := by decide +kernel
theorem dX3_mostLike_73 : decode cX3_mostLike 73 = .ok (.aload_n 0, 1) := by decide +kernel
theorem dX3_mostLike_74 : decode cX3_mostLike 74 = .ok (.aload 6, 2) := by decide +kernel
theorem dX3_mostLike_76 : decode cX3_mostLike 76 = .ok (.invokevirtual 54, 3) := by decide +kernel
theorem dX3_mostLike_79 : decode cX3_mostLike 79 = .ok (.istore 7, 2) := by decide +kernel
theorem dX3_mostLike_81 : decode cX3_mostLike 81 = .ok (.iload 7, 2) := by decide +kernel
theorem dX3_mostLike_83 : decode cX3_mostLike 83 = .ok (.iload 4, 2) := by decide +kernel
theorem dX3_mostLike_85 : decode cX3_mostLike 85 = .ok (.if_icmp .le 10, 3) := by decide +kernel
theorem dX3_mostLike_88 : decode cX3_mostLike 88 = .ok (.iload 7, 2) := by decide +kernel
theorem dX3_mostLike_90 : decode cX3_mostLike 90 = .ok (.istore 4, 2) := by decide +kernel
theorem dX3_mostLike_92 : decode cX3_mostLike 92 = .ok (.iload 5, 2) := by decide +kernel
theorem dX3_mostLike_94 : decode cX3_mostLike 94 = .ok (.istore_n 3, 1) := by decide +kernel
theorem dX3_mostLike_95 : decode cX3_mostLike 95 = .ok (.iinc 5 1, 3) := by decide +kernel
theorem dX3_mostLike_98 : decode cX3_mostLike 98 = .ok (.goto (-70), 3) := by decide +kernel
theorem dX3_mostLike_101 : decode cX3_mostLike 101 = .ok (.iload_n 3, 1) := by decide +kernel
theorem dX3_mostLike_102 : decode cX3_mostLike 102 = .ok (.ireturn, 1) := by decide +kernel
set_option maxRecDepth 20000 in
theorem ggX3_fillWorths_J7_fill_53178 : GoodIn wsX3_fillWorths wsJ7_fill_53178 := goodIn_r _ [5] (by decide +kernel) (by decide +kernel)
set_option maxRecDepth 20000 in
theorem gX3_fillWorths_J7_fill_53178 : GoodIn wsX3_fillWorths (va_wsS RX3 58 yJ7_fill_53178 wsJ7_fill_53178) := goodIn_app (goodIn_of _ (by decide +kernel)) ggX3_fillWorths_J7_fill_53178
set_option maxRecDepth 20000 in
theorem ggX3_fillWorths_X2_rowOf : GoodIn wsX3_fillWorths wsX2_rowOf := goodIn_r _ [10, 11, 51, 52, 53, 54, 55] (by decide +kernel) (by decide +kernel)
set_option maxRecDepth 20000 in
theorem gX3_fillWorths_X2_rowOf : GoodIn wsX3_fillWorths (wsV RX3 64 RX2 yX2_rowOf wsX2_rowOf) := goodIn_app (goodIn_of _ (by decide +kernel)) ggX3_fillWorths_X2_rowOf
set_option maxRecDepth 20000 in
theorem ggX3_fillWorths_X3_fillWorthsOf : GoodIn wsX3_fillWorths wsX3_fillWorthsOf := goodIn_r _ [16, 17, 18, 19, 20, 21, 22, 23, 24, 25, 26, 27, 28, 29, 30, 31, 32, 33, 34, 35, 36, 37, 38, 39, 40, 41, 42, 43, 44, 56, 57, 58, 59, 60, 45, 46, 47, 48, 49, 50, 61, 62, 63, 64, 65, 66, 67, 68, 69, 70, 71, 72] (by decide +kernel) (by decide +kernel)
set_option maxRecDepth 20000 in
theorem gX3_fillWorths_X3_fillWorthsOf : GoodIn wsX3_fillWorths (wsV RX3 68 RX3 yX3_fillWorthsOf wsX3_fillWorthsOf) := goodIn_app (goodIn_of _ (by decide +kernel)) ggX3_fillWorths_X3_fillWorthsOf
theorem dX3_fillWorths_0 : decode cX3_fillWorths 0 = .ok (.iconst 0, 1) := by decide +kernel
theorem dX3_fillWorths_1 : decode cX3_fillWorths 1 = .ok (.istore_n 2, 1) := by decide +kernel
theorem dX3_fillWorths_2 : decode cX3_fillWorths 2 = .ok (.iload_n 2, 1) := by decide +kernel
theorem dX3_fillWorths_3 : decode cX3_fillWorths 3 = .ok (.aload_n 0, 1) := by decide +kernel
theorem dX3_fillWorths_4 : decode cX3_fillWorths 4 = .ok (.getfield 11, 3) := by decide +kernel
theorem dX3_fillWorths_7 : decode cX3_fillWorths 7 = .ok (.arraylength, 1) := by decide +kernel
theorem dX3_fillWorths_8 : decode cX3_fillWorths 8 = .ok (.if_icmp .ge 41, 3) := by decide +kernel
theorem dX3_fillWorths_11 : decode cX3_fillWorths 11 = .ok (.aload_n 0, 1) := by decide +kernel
theorem dX3_fillWorths_12 : decode cX3_fillWorths 12 = .ok (.getfield 11, 3) := by decide +kernel
theorem dX3_fillWorths_15 : decode cX3_fillWorths 15 = .ok (.iload_n 2, 1) := by decide +kernel
theorem dX3_fillWorths_16 : decode cX3_fillWorths 16 = .ok (.aaload, 1) := by decide +kernel
theorem dX3_fillWorths_17 : decode cX3_fillWorths 17 = .ok (.iconst 0, 1) := by decide +kernel
theorem dX3_fillWorths_18 : decode cX3_fillWorths 18 = .ok (.invokestatic 58, 3) := by decide +kernel
theorem dX3_fillWorths_21 : decode cX3_fillWorths 21 = .ok (.aload_n 1, 1) := by decide +kernel
theorem dX3_fillWorths_22 : decode cX3_fillWorths 22 = .ok (.iload_n 2, 1) := by decide +kernel
theorem dX3_fillWorths_23 : decode cX3_fillWorths 23 = .ok (.invokevirtual 64, 3) := by decide +kernel
theorem dX3_fillWorths_26 : decode cX3_fillWorths 26 = .ok (.astore_n 3, 1) := by decide +kernel
theorem dX3_fillWorths_27 : decode cX3_fillWorths 27 = .ok (.aload_n 3, 1) := by decide +kernel
theorem dX3_fillWorths_28 : decode cX3_fillWorths 28 = .ok (.ifnull 15, 3) := by decide +kernel
theorem dX3_fillWorths_31 : decode cX3_fillWorths 31 = .ok (.aload_n 0, 1) := by decide +kernel
theorem dX3_fillWorths_32 : decode cX3_fillWorths 32 = .ok (.aload_n 3, 1) := by decide +kernel
theorem dX3_fillWorths_33 : decode cX3_fillWorths 33 = .ok (.iload_n 2, 1) := by decide +kernel
theorem dX3_fillWorths_34 : decode cX3_fillWorths 34 = .ok (.aload_n 0, 1) := by decide +kernel
theorem dX3_fillWorths_35 : decode cX3_fillWorths 35 = .ok (.getfield 11, 3) := by decide +kernel
theorem dX3_fillWorths_38 : decode cX3_fillWorths 38 = .ok (.iload_n 2, 1) := by decide +kernel
theorem dX3_fillWorths_39 : decode cX3_fillWorths 39 = .ok (.aaload, 1) := by decide +kernel
theorem dX3_fillWorths_40 : decode cX3_fillWorths 40 = .ok (.invokevirtual 68, 3) := by decide +kernel
theorem dX3_fillWorths_43 : decode cX3_fillWorths 43 = .ok (.iinc 2 1, 3) := by decide +kernel
theorem dX3_fillWorths_46 : decode cX3_fillWorths 46 = .ok (.goto (-44), 3) := by decide +kernel
theorem dX3_fillWorths_49 : decode cX3_fillWorths 49 = .ok (.return_, 1) := by decide +kernel
set_option maxRecDepth 20000 in
theorem ggX3_fillWorthsOf_X9_differentTermOn : GoodIn wsX3_fillWorthsOf wsX9_differentTermOn := goodIn_r _ [9, 10, 11, 29, 30, 31, 32, 33] (by decide +kernel) (by decide +kernel)
set_option maxRecDepth 20000 in
theorem gX3_fillWorthsOf_X9_differentTermOn : GoodIn wsX3_fillWorthsOf (wsV RX3 77 RX9 yX9_differentTermOn wsX9_differentTermOn) := goodIn_app (goodIn_of _ (by decide +kernel)) ggX3_fillWorthsOf_X9_differentTermOn
set_option maxRecDepth 20000 in
theorem ggX3_fillWorthsOf_X4_isMuted : GoodIn wsX3_fillWorthsOf wsX4_isMuted := goodIn_r _ [16, 17, 46, 47, 48] (by decide +kernel) (by decide +kernel)
set_option maxRecDepth 20000 in
theorem gX3_fillWorthsOf_X4_isMuted : GoodIn wsX3_fillWorthsOf (wsV RX3 81 RX4 yX4_isMuted wsX4_isMuted) := goodIn_app (goodIn_of _ (by decide +kernel)) ggX3_fillWorthsOf_X4_isMuted
set_option maxRecDepth 20000 in
theorem ggX3_fillWorthsOf_X1_spreadOf : GoodIn wsX3_fillWorthsOf wsX1_spreadOf := goodIn_r _ [22, 23, 49, 50, 51] (by decide +kernel) (by decide +kernel)
set_option maxRecDepth 20000 in
theorem gX3_fillWorthsOf_X1_spreadOf : GoodIn wsX3_fillWorthsOf (wsV RX3 91 RX1 yX1_spreadOf wsX1_spreadOf) := goodIn_app (goodIn_of _ (by decide +kernel)) ggX3_fillWorthsOf_X1_spreadOf
set_option maxRecDepth 20000 in
theorem ggX3_fillWorthsOf_X1_rarityOf : GoodIn wsX3_fillWorthsOf wsX1_rarityOf := goodIn_r _ [27, 28, 49, 50, 51] (by decide +kernel) (by decide +kernel)
set_option maxRecDepth 20000 in
theorem gX3_fillWorthsOf_X1_rarityOf : GoodIn wsX3_fillWorthsOf (wsV RX3 97 RX1 yX1_rarityOf wsX1_rarityOf) := goodIn_app (goodIn_of _ (by decide +kernel)) ggX3_fillWorthsOf_X1_rarityOf
theorem dX3_fillWorthsOf_0 : decode cX3_fillWorthsOf 0 = .ok (.iconst 0, 1) := by decide +kernel
theorem dX3_fillWorthsOf_1 : decode cX3_fillWorthsOf 1 = .ok (.istore 4, 2) := by decide +kernel
theorem dX3_fillWorthsOf_3 : decode cX3_fillWorthsOf 3 = .ok (.iload 4, 2) := by decide +kernel
theorem dX3_fillWorthsOf_5 : decode cX3_fillWorthsOf 5 = .ok (.aload_n 1, 1) := by decide +kernel
theorem dX3_fillWorthsOf_6 : decode cX3_fillWorthsOf 6 = .ok (.getfield 72, 3) := by decide +kernel
theorem dX3_fillWorthsOf_9 : decode cX3_fillWorthsOf 9 = .ok (.if_icmp .ge 68, 3) := by decide +kernel
theorem dX3_fillWorthsOf_12 : decode cX3_fillWorthsOf 12 = .ok (.aload_n 1, 1) := by decide +kernel
theorem dX3_fillWorthsOf_13 : decode cX3_fillWorthsOf 13 = .ok (.iload 4, 2) := by decide +kernel
theorem dX3_fillWorthsOf_15 : decode cX3_fillWorthsOf 15 = .ok (.invokevirtual 77, 3) := by decide +kernel
theorem dX3_fillWorthsOf_18 : decode cX3_fillWorthsOf 18 = .ok (.istore 5, 2) := by decide +kernel
theorem dX3_fillWorthsOf_20 : decode cX3_fillWorthsOf 20 = .ok (.iload 5, 2) := by decide +kernel
theorem dX3_fillWorthsOf_22 : decode cX3_fillWorthsOf 22 = .ok (.ifCond .lt 49, 3) := by decide +kernel
theorem dX3_fillWorthsOf_25 : decode cX3_fillWorthsOf 25 = .ok (.iload 5, 2) := by decide +kernel
theorem dX3_fillWorthsOf_27 : decode cX3_fillWorthsOf 27 = .ok (.aload_n 3, 1) := by decide +kernel
theorem dX3_fillWorthsOf_28 : decode cX3_fillWorthsOf 28 = .ok (.arraylength, 1) := by decide +kernel
theorem dX3_fillWorthsOf_29 : decode cX3_fillWorthsOf 29 = .ok (.if_icmp .ge 42, 3) := by decide +kernel
theorem dX3_fillWorthsOf_32 : decode cX3_fillWorthsOf 32 = .ok (.aload_n 0, 1) := by decide +kernel
theorem dX3_fillWorthsOf_33 : decode cX3_fillWorthsOf 33 = .ok (.getfield 30, 3) := by decide +kernel
theorem dX3_fillWorthsOf_36 : decode cX3_fillWorthsOf 36 = .ok (.iload 5, 2) := by decide +kernel
theorem dX3_fillWorthsOf_38 : decode cX3_fillWorthsOf 38 = .ok (.invokevirtual 81, 3) := by decide +kernel
theorem dX3_fillWorthsOf_41 : decode cX3_fillWorthsOf 41 = .ok (.ifCond .ne 30, 3) := by decide +kernel
theorem dX3_fillWorthsOf_44 : decode cX3_fillWorthsOf 44 = .ok (.aload_n 3, 1) := by decide +kernel
theorem dX3_fillWorthsOf_45 : decode cX3_fillWorthsOf 45 = .ok (.iload 5, 2) := by decide +kernel
theorem dX3_fillWorthsOf_47 : decode cX3_fillWorthsOf 47 = .ok (.aload_n 0, 1) := by decide +kernel
theorem dX3_fillWorthsOf_48 : decode cX3_fillWorthsOf 48 = .ok (.getfield 26, 3) := by decide +kernel
theorem dX3_fillWorthsOf_51 : decode cX3_fillWorthsOf 51 = .ok (.getfield 87, 3) := by decide +kernel
theorem dX3_fillWorthsOf_54 : decode cX3_fillWorthsOf 54 = .ok (.aload_n 0, 1) := by decide +kernel
theorem dX3_fillWorthsOf_55 : decode cX3_fillWorthsOf 55 = .ok (.getfield 26, 3) := by decide +kernel
theorem dX3_fillWorthsOf_58 : decode cX3_fillWorthsOf 58 = .ok (.getfield 87, 3) := by decide +kernel
theorem dX3_fillWorthsOf_61 : decode cX3_fillWorthsOf 61 = .ok (.iload 5, 2) := by decide +kernel
theorem dX3_fillWorthsOf_63 : decode cX3_fillWorthsOf 63 = .ok (.iload_n 2, 1) := by decide +kernel
theorem dX3_fillWorthsOf_64 : decode cX3_fillWorthsOf 64 = .ok (.invokevirtual 91, 3) := by decide +kernel
theorem dX3_fillWorthsOf_67 : decode cX3_fillWorthsOf 67 = .ok (.invokevirtual 97, 3) := by decide +kernel
theorem dX3_fillWorthsOf_70 : decode cX3_fillWorthsOf 70 = .ok (.iastore, 1) := by decide +kernel
theorem dX3_fillWorthsOf_71 : decode cX3_fillWorthsOf 71 = .ok (.iinc 4 1, 3) := by decide +kernel
theorem dX3_fillWorthsOf_74 : decode cX3_fillWorthsOf 74 = .ok (.goto (-71), 3) := by decide +kernel
theorem dX3_fillWorthsOf_77 : decode cX3_fillWorthsOf 77 = .ok (.return_, 1) := by decide +kernel
set_option maxRecDepth 20000 in
theorem ggX3_likeness_X2_rowOf : GoodIn wsX3_likeness wsX2_rowOf := goodIn_r _ [7, 8, 32, 33, 34, 35, 36] (by decide +kernel) (by decide +kernel)
set_option maxRecDepth 20000 in
theorem gX3_likeness_X2_rowOf : GoodIn wsX3_likeness (wsV RX3 64 RX2 yX2_rowOf wsX2_rowOf) := goodIn_app (goodIn_of _ (by decide +kernel)) ggX3_likeness_X2_rowOf
set_option maxRecDepth 20000 in
theorem ggX3_likeness_X9_differentTermOn : GoodIn wsX3_likeness wsX9_differentTermOn := goodIn_r _ [13, 14, 15, 27, 28, 29, 30, 31] (by decide +kernel) (by decide +kernel)
set_option maxRecDepth 20000 in
theorem gX3_likeness_X9_differentTermOn : GoodIn wsX3_likeness (wsV RX3 77 RX9 yX9_differentTermOn wsX9_differentTermOn) := goodIn_app (goodIn_of _ (by decide +kernel)) ggX3_likeness_X9_differentTermOn
set_option maxRecDepth 20000 in
theorem ggX3_likeness_X3_worthOf : GoodIn wsX3_likeness wsX3_worthOf := goodIn_r _ [20, 1, 21, 22, 23, 24, 25, 26] (by decide +kernel) (by decide +kernel)
set_option maxRecDepth 20000 in
theorem gX3_likeness_X3_worthOf : GoodIn wsX3_likeness (wsV RX3 100 RX3 yX3_worthOf wsX3_worthOf) := goodIn_app (goodIn_of _ (by decide +kernel)) ggX3_likeness_X3_worthOf
theorem dX3_likeness_0 : decode cX3_likeness 0 = .ok (.iconst 0, 1) := by decide +kernel
theorem dX3_likeness_1 : decode cX3_likeness 1 = .ok (.istore_n 2, 1) := by decide +kernel
theorem dX3_likeness_2 : decode cX3_likeness 2 = .ok (.iconst 0, 1) := by decide +kernel
theorem dX3_likeness_3 : decode cX3_likeness 3 = .ok (.istore_n 3, 1) := by decide +kernel
theorem dX3_likeness_4 : decode cX3_likeness 4 = .ok (.iload_n 3, 1) := by decide +kernel
theorem dX3_likeness_5 : decode cX3_likeness 5 = .ok (.aload_n 0, 1) := by decide +kernel
theorem dX3_likeness_6 : decode cX3_likeness 6 = .ok (.getfield 11, 3) := by decide +kernel
theorem dX3_likeness_9 : decode cX3_likeness 9 = .ok (.arraylength, 1) := by decide +kernel
theorem dX3_likeness_10 : decode cX3_likeness 10 = .ok (.if_icmp .ge 58, 3) := by decide +kernel
theorem dX3_likeness_13 : decode cX3_likeness 13 = .ok (.aload_n 1, 1) := by decide +kernel
theorem dX3_likeness_14 : decode cX3_likeness 14 = .ok (.iload_n 3, 1) := by decide +kernel
theorem dX3_likeness_15 : decode cX3_likeness 15 = .ok (.invokevirtual 64, 3) := by decide +kernel
theorem dX3_likeness_18 : decode cX3_likeness 18 = .ok (.astore 4, 2) := by decide +kernel
theorem dX3_likeness_20 : decode cX3_likeness 20 = .ok (.aload 4, 2) := by decide +kernel
theorem dX3_likeness_22 : decode cX3_likeness 22 = .ok (.ifnonnull 6, 3) := by decide +kernel
theorem dX3_likeness_25 : decode cX3_likeness 25 = .ok (.goto 37, 3) := by decide +kernel
theorem dX3_likeness_28 : decode cX3_likeness 28 = .ok (.iconst 0, 1) := by decide +kernel
theorem dX3_likeness_29 : decode cX3_likeness 29 = .ok (.istore 5, 2) := by decide +kernel
theorem dX3_likeness_31 : decode cX3_likeness 31 = .ok (.iload 5, 2) := by decide +kernel
theorem dX3_likeness_33 : decode cX3_likeness 33 = .ok (.aload 4, 2) := by decide +kernel
theorem dX3_likeness_35 : decode cX3_likeness 35 = .ok (.getfield 72, 3) := by decide +kernel
theorem dX3_likeness_38 : decode cX3_likeness 38 = .ok (.if_icmp .ge 24, 3) := by decide +kernel
theorem dX3_likeness_41 : decode cX3_likeness 41 = .ok (.iload_n 2, 1) := by decide +kernel
theorem dX3_likeness_42 : decode cX3_likeness 42 = .ok (.aload_n 0, 1) := by decide +kernel
theorem dX3_likeness_43 : decode cX3_likeness 43 = .ok (.aload 4, 2) := by decide +kernel
theorem dX3_likeness_45 : decode cX3_likeness 45 = .ok (.iload 5, 2) := by decide +kernel
theorem dX3_likeness_47 : decode cX3_likeness 47 = .ok (.invokevirtual 77, 3) := by decide +kernel
theorem dX3_likeness_50 : decode cX3_likeness 50 = .ok (.iload_n 3, 1) := by decide +kernel
theorem dX3_likeness_51 : decode cX3_likeness 51 = .ok (.invokevirtual 100, 3) := by decide +kernel
theorem dX3_likeness_54 : decode cX3_likeness 54 = .ok (.iadd, 1) := by decide +kernel
theorem dX3_likeness_55 : decode cX3_likeness 55 = .ok (.istore_n 2, 1) := by decide +kernel
theorem dX3_likeness_56 : decode cX3_likeness 56 = .ok (.iinc 5 1, 3) := by decide +kernel
theorem dX3_likeness_59 : decode cX3_likeness 59 = .ok (.goto (-28), 3) := by decide +kernel
theorem dX3_likeness_62 : decode cX3_likeness 62 = .ok (.iinc 3 1, 3) := by decide +kernel
theorem dX3_likeness_65 : decode cX3_likeness 65 = .ok (.goto (-61), 3) := by decide +kernel
theorem dX3_likeness_68 : decode cX3_likeness 68 = .ok (.iload_n 2, 1) := by decide +kernel
theorem dX3_likeness_69 : decode cX3_likeness 69 = .ok (.ireturn, 1) := by decide +kernel
theorem dX3_worthOf_0 : decode cX3_worthOf 0 = .ok (.iload_n 2, 1) := by decide +kernel
theorem dX3_worthOf_1 : decode cX3_worthOf 1 = .ok (.ifCond .lt 27, 3) := by decide +kernel
theorem dX3_worthOf_4 : decode cX3_worthOf 4 = .ok (.iload_n 2, 1) := by decide +kernel
theorem dX3_worthOf_5 : decode cX3_worthOf 5 = .ok (.aload_n 0, 1) := by decide +kernel
theorem dX3_worthOf_6 : decode cX3_worthOf 6 = .ok (.getfield 11, 3) := by decide +kernel
theorem dX3_worthOf_9 : decode cX3_worthOf 9 = .ok (.arraylength, 1) := by decide +kernel
theorem dX3_worthOf_10 : decode cX3_worthOf 10 = .ok (.if_icmp .ge 18, 3) := by decide +kernel
theorem dX3_worthOf_13 : decode cX3_worthOf 13 = .ok (.iload_n 1, 1) := by decide +kernel
theorem dX3_worthOf_14 : decode cX3_worthOf 14 = .ok (.ifCond .lt 14, 3) := by decide +kernel
theorem dX3_worthOf_17 : decode cX3_worthOf 17 = .ok (.iload_n 1, 1) := by decide +kernel
theorem dX3_worthOf_18 : decode cX3_worthOf 18 = .ok (.aload_n 0, 1) := by decide +kernel
theorem dX3_worthOf_19 : decode cX3_worthOf 19 = .ok (.getfield 11, 3) := by decide +kernel
theorem dX3_worthOf_22 : decode cX3_worthOf 22 = .ok (.iload_n 2, 1) := by decide +kernel
theorem dX3_worthOf_23 : decode cX3_worthOf 23 = .ok (.aaload, 1) := by decide +kernel
theorem dX3_worthOf_24 : decode cX3_worthOf 24 = .ok (.arraylength, 1) := by decide +kernel
theorem dX3_worthOf_25 : decode cX3_worthOf 25 = .ok (.if_icmp .lt 5, 3) := by decide +kernel
theorem dX3_worthOf_28 : decode cX3_worthOf 28 = .ok (.iconst 0, 1) := by decide +kernel
theorem dX3_worthOf_29 : decode cX3_worthOf 29 = .ok (.ireturn, 1) := by decide +kernel
theorem dX3_worthOf_30 : decode cX3_worthOf 30 = .ok (.aload_n 0, 1) := by decide +kernel
theorem dX3_worthOf_31 : decode cX3_worthOf 31 = .ok (.getfield 11, 3) := by decide +kernel
theorem dX3_worthOf_34 : decode cX3_worthOf 34 = .ok (.iload_n 2, 1) := by decide +kernel
theorem dX3_worthOf_35 : decode cX3_worthOf 35 = .ok (.aaload, 1) := by decide +kernel
theorem dX3_worthOf_36 : decode cX3_worthOf 36 = .ok (.iload_n 1, 1) := by decide +kernel
theorem dX3_worthOf_37 : decode cX3_worthOf 37 = .ok (.iaload, 1) := by decide +kernel
theorem dX3_worthOf_38 : decode cX3_worthOf 38 = .ok (.ireturn, 1) := by decide +kernel
set_option maxRecDepth 20000 in
theorem ggX4_init_J7_fill_53178 : GoodIn wsX4_init wsJ7_fill_53178 := goodIn_r _ [12] (by decide +kernel) (by decide +kernel)
set_option maxRecDepth 20000 in
theorem gX4_init_J7_fill_53178 : GoodIn wsX4_init (va_wsS RX4 22 yJ7_fill_53178 wsJ7_fill_53178) := goodIn_app (goodIn_of _ (by decide +kernel)) ggX4_init_J7_fill_53178
theorem dX4_init_0 : decode cX4_init 0 = .ok (.aload_n 0, 1) := by decide +kernel
theorem dX4_init_1 : decode cX4_init 1 = .ok (.invokespecial 3, 3) := by decide +kernel
theorem dX4_init_4 : decode cX4_init 4 = .ok (.aload_n 0, 1) := by decide +kernel
theorem dX4_init_5 : decode cX4_init 5 = .ok (.sipush 200, 3) := by decide +kernel
theorem dX4_init_8 : decode cX4_init 8 = .ok (.newarray .boolean, 2) := by decide +kernel
theorem dX4_init_10 : decode cX4_init 10 = .ok (.putfield 9, 3) := by decide +kernel
theorem dX4_init_13 : decode cX4_init 13 = .ok (.aload_n 0, 1) := by decide +kernel
theorem dX4_init_14 : decode cX4_init 14 = .ok (.sipush 200, 3) := by decide +kernel
theorem dX4_init_17 : decode cX4_init 17 = .ok (.newarray .int, 2) := by decide +kernel
theorem dX4_init_19 : decode cX4_init 19 = .ok (.putfield 15, 3) := by decide +kernel
theorem dX4_init_22 : decode cX4_init 22 = .ok (.aload_n 0, 1) := by decide +kernel
theorem dX4_init_23 : decode cX4_init 23 = .ok (.iconst 3, 1) := by decide +kernel
theorem dX4_init_24 : decode cX4_init 24 = .ok (.newarray .int, 2) := by decide +kernel
theorem dX4_init_26 : decode cX4_init 26 = .ok (.putfield 19, 3) := by decide +kernel
theorem dX4_init_29 : decode cX4_init 29 = .ok (.aload_n 0, 1) := by decide +kernel
theorem dX4_init_30 : decode cX4_init 30 = .ok (.getfield 15, 3) := by decide +kernel
theorem dX4_init_33 : decode cX4_init 33 = .ok (.iconst (-1), 1) := by decide +kernel
theorem dX4_init_34 : decode cX4_init 34 = .ok (.invokestatic 22, 3) := by decide +kernel
theorem dX4_init_37 : decode cX4_init 37 = .ok (.aload_n 0, 1) := by decide +kernel
theorem dX4_init_38 : decode cX4_init 38 = .ok (.getfield 19, 3) := by decide +kernel
theorem dX4_init_41 : decode cX4_init 41 = .ok (.iconst 1, 1) := by decide +kernel
theorem dX4_init_42 : decode cX4_init 42 = .ok (.invokestatic 22, 3) := by decide +kernel
theorem dX4_init_45 : decode cX4_init 45 = .ok (.return_, 1) := by decide +kernel
theorem dX4_isMuted_0 : decode cX4_isMuted 0 = .ok (.iload_n 1, 1) := by decide +kernel
theorem dX4_isMuted_1 : decode cX4_isMuted 1 = .ok (.ifCond .lt 25, 3) := by decide +kernel
theorem dX4_isMuted_4 : decode cX4_isMuted 4 = .ok (.iload_n 1, 1) := by decide +kernel
theorem dX4_isMuted_5 : decode cX4_isMuted 5 = .ok (.aload_n 0, 1) := by decide +kernel
theorem dX4_isMuted_6 : decode cX4_isMuted 6 = .ok (.getfield 9, 3) := by decide +kernel
theorem dX4_isMuted_9 : decode cX4_isMuted 9 = .ok (.arraylength, 1) := by decide +kernel
theorem dX4_isMuted_10 : decode cX4_isMuted 10 = .ok (.if_icmp .ge 16, 3) := by decide +kernel
theorem dX4_isMuted_13 : decode cX4_isMuted 13 = .ok (.aload_n 0, 1) := by decide +kernel
theorem dX4_isMuted_14 : decode cX4_isMuted 14 = .ok (.getfield 9, 3) := by decide +kernel
theorem dX4_isMuted_17 : decode cX4_isMuted 17 = .ok (.iload_n 1, 1) := by decide +kernel
theorem dX4_isMuted_18 : decode cX4_isMuted 18 = .ok (.baload, 1) := by decide +kernel
theorem dX4_isMuted_19 : decode cX4_isMuted 19 = .ok (.ifCond .eq 7, 3) := by decide +kernel
theorem dX4_isMuted_22 : decode cX4_isMuted 22 = .ok (.iconst 1, 1) := by decide +kernel
theorem dX4_isMuted_23 : decode cX4_isMuted 23 = .ok (.goto 4, 3) := by decide +kernel
theorem dX4_isMuted_26 : decode cX4_isMuted 26 = .ok (.iconst 0, 1) := by decide +kernel
theorem dX4_isMuted_27 : decode cX4_isMuted 27 = .ok (.ireturn, 1) := by decide +kernel
theorem dX4_aliasOf_0 : decode cX4_aliasOf 0 = .ok (.iload_n 1, 1) := by decide +kernel
theorem dX4_aliasOf_1 : decode cX4_aliasOf 1 = .ok (.ifCond .lt 12, 3) := by decide +kernel
theorem dX4_aliasOf_4 : decode cX4_aliasOf 4 = .ok (.iload_n 1, 1) := by decide +kernel
theorem dX4_aliasOf_5 : decode cX4_aliasOf 5 = .ok (.aload_n 0, 1) := by decide +kernel
theorem dX4_aliasOf_6 : decode cX4_aliasOf 6 = .ok (.getfield 15, 3) := by decide +kernel
theorem dX4_aliasOf_9 : decode cX4_aliasOf 9 = .ok (.arraylength, 1) := by decide +kernel
theorem dX4_aliasOf_10 : decode cX4_aliasOf 10 = .ok (.if_icmp .lt 7, 3) := by decide +kernel
theorem dX4_aliasOf_13 : decode cX4_aliasOf 13 = .ok (.iconst (-1), 1) := by decide +kernel
theorem dX4_aliasOf_14 : decode cX4_aliasOf 14 = .ok (.goto 9, 3) := by decide +kernel
theorem dX4_aliasOf_17 : decode cX4_aliasOf 17 = .ok (.aload_n 0, 1) := by decide +kernel
theorem dX4_aliasOf_18 : decode cX4_aliasOf 18 = .ok (.getfield 15, 3) := by decide +kernel
theorem dX4_aliasOf_21 : decode cX4_aliasOf 21 = .ok (.iload_n 1, 1) := by decide +kernel
theorem dX4_aliasOf_22 : decode cX4_aliasOf 22 = .ok (.iaload, 1) := by decide +kernel
theorem dX4_aliasOf_23 : decode cX4_aliasOf 23 = .ok (.ireturn, 1) := by decide +kernel
