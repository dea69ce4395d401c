theorem dX4_weightOf_0 : decode cX4_weightOf 0 = .ok (.iload_n 1, 1) := by decide +kernel
theorem dX4_weightOf_1 : decode cX4_weightOf 1 = .ok (.ifCond .lt 12, 3) := by decide +kernel
theorem dX4_weightOf_4 : decode cX4_weightOf 4 = .ok (.iload_n 1, 1) := by decide +kernel
theorem dX4_weightOf_5 : decode cX4_weightOf 5 = .ok (.aload_n 0, 1) := by decide +kernel
theorem dX4_weightOf_6 : decode cX4_weightOf 6 = .ok (.getfield 19, 3) := by decide +kernel
theorem dX4_weightOf_9 : decode cX4_weightOf 9 = .ok (.arraylength, 1) := by decide +kernel
theorem dX4_weightOf_10 : decode cX4_weightOf 10 = .ok (.if_icmp .lt 7, 3) := by decide +kernel
theorem dX4_weightOf_13 : decode cX4_weightOf 13 = .ok (.iconst 0, 1) := by decide +kernel
theorem dX4_weightOf_14 : decode cX4_weightOf 14 = .ok (.goto 9, 3) := by decide +kernel
theorem dX4_weightOf_17 : decode cX4_weightOf 17 = .ok (.aload_n 0, 1) := by decide +kernel
theorem dX4_weightOf_18 : decode cX4_weightOf 18 = .ok (.getfield 19, 3) := by decide +kernel
theorem dX4_weightOf_21 : decode cX4_weightOf 21 = .ok (.iload_n 1, 1) := by decide +kernel
theorem dX4_weightOf_22 : decode cX4_weightOf 22 = .ok (.iaload, 1) := by decide +kernel
theorem dX4_weightOf_23 : decode cX4_weightOf 23 = .ok (.ireturn, 1) := by decide +kernel
set_option maxRecDepth 20000 in
theorem ggX4_unmuted_X4_isMuted : GoodIn wsX4_unmuted wsX4_isMuted := goodIn_r _ [5, 6, 7, 8, 9] (by decide +kernel) (by decide +kernel)
set_option maxRecDepth 20000 in
theorem gX4_unmuted_X4_isMuted : GoodIn wsX4_unmuted (wsV RX4 28 RX4 yX4_isMuted wsX4_isMuted) := goodIn_app (goodIn_of _ (by decide +kernel)) ggX4_unmuted_X4_isMuted
theorem dX4_unmuted_0 : decode cX4_unmuted 0 = .ok (.aload_n 0, 1) := by decide +kernel
theorem dX4_unmuted_1 : decode cX4_unmuted 1 = .ok (.iload_n 1, 1) := by decide +kernel
theorem dX4_unmuted_2 : decode cX4_unmuted 2 = .ok (.invokevirtual 28, 3) := by decide +kernel
theorem dX4_unmuted_5 : decode cX4_unmuted 5 = .ok (.ifCond .eq 7, 3) := by decide +kernel
theorem dX4_unmuted_8 : decode cX4_unmuted 8 = .ok (.iconst (-1), 1) := by decide +kernel
theorem dX4_unmuted_9 : decode cX4_unmuted 9 = .ok (.goto 4, 3) := by decide +kernel
theorem dX4_unmuted_12 : decode cX4_unmuted 12 = .ok (.iload_n 1, 1) := by decide +kernel
theorem dX4_unmuted_13 : decode cX4_unmuted 13 = .ok (.ireturn, 1) := by decide +kernel
theorem dX4_finds_0 : decode cX4_finds 0 = .ok (.iload_n 1, 1) := by decide +kernel
theorem dX4_finds_1 : decode cX4_finds 1 = .ok (.ifCond .lt 34, 3) := by decide +kernel
theorem dX4_finds_4 : decode cX4_finds 4 = .ok (.iload_n 1, 1) := by decide +kernel
theorem dX4_finds_5 : decode cX4_finds 5 = .ok (.aload_n 0, 1) := by decide +kernel
theorem dX4_finds_6 : decode cX4_finds 6 = .ok (.getfield 15, 3) := by decide +kernel
theorem dX4_finds_9 : decode cX4_finds 9 = .ok (.arraylength, 1) := by decide +kernel
theorem dX4_finds_10 : decode cX4_finds 10 = .ok (.if_icmp .ge 25, 3) := by decide +kernel
theorem dX4_finds_13 : decode cX4_finds 13 = .ok (.iload_n 2, 1) := by decide +kernel
theorem dX4_finds_14 : decode cX4_finds 14 = .ok (.ifCond .lt 21, 3) := by decide +kernel
theorem dX4_finds_17 : decode cX4_finds 17 = .ok (.iload_n 2, 1) := by decide +kernel
theorem dX4_finds_18 : decode cX4_finds 18 = .ok (.aload_n 0, 1) := by decide +kernel
theorem dX4_finds_19 : decode cX4_finds 19 = .ok (.getfield 9, 3) := by decide +kernel
theorem dX4_finds_22 : decode cX4_finds 22 = .ok (.arraylength, 1) := by decide +kernel
theorem dX4_finds_23 : decode cX4_finds 23 = .ok (.if_icmp .ge 12, 3) := by decide +kernel
theorem dX4_finds_26 : decode cX4_finds 26 = .ok (.aload_n 0, 1) := by decide +kernel
theorem dX4_finds_27 : decode cX4_finds 27 = .ok (.getfield 9, 3) := by decide +kernel
theorem dX4_finds_30 : decode cX4_finds 30 = .ok (.iload_n 2, 1) := by decide +kernel
theorem dX4_finds_31 : decode cX4_finds 31 = .ok (.baload, 1) := by decide +kernel
theorem dX4_finds_32 : decode cX4_finds 32 = .ok (.ifCond .eq 5, 3) := by decide +kernel
theorem dX4_finds_35 : decode cX4_finds 35 = .ok (.iconst 0, 1) := by decide +kernel
theorem dX4_finds_36 : decode cX4_finds 36 = .ok (.ireturn, 1) := by decide +kernel
theorem dX4_finds_37 : decode cX4_finds 37 = .ok (.iload_n 2, 1) := by decide +kernel
theorem dX4_finds_38 : decode cX4_finds 38 = .ok (.iload_n 1, 1) := by decide +kernel
theorem dX4_finds_39 : decode cX4_finds 39 = .ok (.if_icmp .eq 17, 3) := by decide +kernel
theorem dX4_finds_42 : decode cX4_finds 42 = .ok (.iload_n 3, 1) := by decide +kernel
theorem dX4_finds_43 : decode cX4_finds 43 = .ok (.ifCond .eq 17, 3) := by decide +kernel
theorem dX4_finds_46 : decode cX4_finds 46 = .ok (.iload_n 2, 1) := by decide +kernel
theorem dX4_finds_47 : decode cX4_finds 47 = .ok (.aload_n 0, 1) := by decide +kernel
theorem dX4_finds_48 : decode cX4_finds 48 = .ok (.getfield 15, 3) := by decide +kernel
theorem dX4_finds_51 : decode cX4_finds 51 = .ok (.iload_n 1, 1) := by decide +kernel
theorem dX4_finds_52 : decode cX4_finds 52 = .ok (.iaload, 1) := by decide +kernel
theorem dX4_finds_53 : decode cX4_finds 53 = .ok (.if_icmp .ne 7, 3) := by decide +kernel
theorem dX4_finds_56 : decode cX4_finds 56 = .ok (.iconst 1, 1) := by decide +kernel
theorem dX4_finds_57 : decode cX4_finds 57 = .ok (.goto 4, 3) := by decide +kernel
theorem dX4_finds_60 : decode cX4_finds 60 = .ok (.iconst 0, 1) := by decide +kernel
theorem dX4_finds_61 : decode cX4_finds 61 = .ok (.ireturn, 1) := by decide +kernel
theorem dX5_init_0 : decode cX5_init 0 = .ok (.aload_n 0, 1) := by decide +kernel
theorem dX5_init_1 : decode cX5_init 1 = .ok (.invokespecial 1, 3) := by decide +kernel
theorem dX5_init_4 : decode cX5_init 4 = .ok (.aload_n 0, 1) := by decide +kernel
theorem dX5_init_5 : decode cX5_init 5 = .ok (.iload_n 1, 1) := by decide +kernel
theorem dX5_init_6 : decode cX5_init 6 = .ok (.putfield 7, 3) := by decide +kernel
theorem dX5_init_9 : decode cX5_init 9 = .ok (.return_, 1) := by decide +kernel
theorem dX5_partCount_0 : decode cX5_partCount 0 = .ok (.aload_n 0, 1) := by decide +kernel
theorem dX5_partCount_1 : decode cX5_partCount 1 = .ok (.getfield 7, 3) := by decide +kernel
theorem dX5_partCount_4 : decode cX5_partCount 4 = .ok (.tableswitch 57 1 8 #[48, 48, 48, 48, 57, 57, 50, 52], 48) := by decide +kernel
theorem dX5_partCount_52 : decode cX5_partCount 52 = .ok (.iconst 2, 1) := by decide +kernel
theorem dX5_partCount_53 : decode cX5_partCount 53 = .ok (.ireturn, 1) := by decide +kernel
theorem dX5_partCount_54 : decode cX5_partCount 54 = .ok (.iconst 1, 1) := by decide +kernel
theorem dX5_partCount_55 : decode cX5_partCount 55 = .ok (.ireturn, 1) := by decide +kernel
theorem dX5_partCount_56 : decode cX5_partCount 56 = .ok (.aload_n 0, 1) := by decide +kernel
theorem dX5_partCount_57 : decode cX5_partCount 57 = .ok (.getfield 13, 3) := by decide +kernel
theorem dX5_partCount_60 : decode cX5_partCount 60 = .ok (.ireturn, 1) := by decide +kernel
theorem dX5_partCount_61 : decode cX5_partCount 61 = .ok (.iconst 0, 1) := by decide +kernel
theorem dX5_partCount_62 : decode cX5_partCount 62 = .ok (.ireturn, 1) := by decide +kernel
theorem dX5_partAt_0 : decode cX5_partAt 0 = .ok (.aload_n 0, 1) := by decide +kernel
theorem dX5_partAt_1 : decode cX5_partAt 1 = .ok (.getfield 7, 3) := by decide +kernel
theorem dX5_partAt_4 : decode cX5_partAt 4 = .ok (.bipush 8, 2) := by decide +kernel
theorem dX5_partAt_6 : decode cX5_partAt 6 = .ok (.if_icmp .ne 10, 3) := by decide +kernel
theorem dX5_partAt_9 : decode cX5_partAt 9 = .ok (.aload_n 0, 1) := by decide +kernel
theorem dX5_partAt_10 : decode cX5_partAt 10 = .ok (.getfield 16, 3) := by decide +kernel
theorem dX5_partAt_13 : decode cX5_partAt 13 = .ok (.iload_n 1, 1) := by decide +kernel
theorem dX5_partAt_14 : decode cX5_partAt 14 = .ok (.iadd, 1) := by decide +kernel
theorem dX5_partAt_15 : decode cX5_partAt 15 = .ok (.ireturn, 1) := by decide +kernel
theorem dX5_partAt_16 : decode cX5_partAt 16 = .ok (.iload_n 1, 1) := by decide +kernel
theorem dX5_partAt_17 : decode cX5_partAt 17 = .ok (.ifCond .ne 10, 3) := by decide +kernel
theorem dX5_partAt_20 : decode cX5_partAt 20 = .ok (.aload_n 0, 1) := by decide +kernel
theorem dX5_partAt_21 : decode cX5_partAt 21 = .ok (.getfield 16, 3) := by decide +kernel
theorem dX5_partAt_24 : decode cX5_partAt 24 = .ok (.goto 7, 3) := by decide +kernel
theorem dX5_partAt_27 : decode cX5_partAt 27 = .ok (.aload_n 0, 1) := by decide +kernel
theorem dX5_partAt_28 : decode cX5_partAt 28 = .ok (.getfield 19, 3) := by decide +kernel
theorem dX5_partAt_31 : decode cX5_partAt 31 = .ok (.ireturn, 1) := by decide +kernel
theorem dX5_isFor_0 : decode cX5_isFor 0 = .ok (.aload_n 0, 1) := by decide +kernel
theorem dX5_isFor_1 : decode cX5_isFor 1 = .ok (.getfield 22, 3) := by decide +kernel
theorem dX5_isFor_4 : decode cX5_isFor 4 = .ok (.iload_n 1, 1) := by decide +kernel
theorem dX5_isFor_5 : decode cX5_isFor 5 = .ok (.ishr, 1) := by decide +kernel
theorem dX5_isFor_6 : decode cX5_isFor 6 = .ok (.iconst 1, 1) := by decide +kernel
theorem dX5_isFor_7 : decode cX5_isFor 7 = .ok (.iand, 1) := by decide +kernel
theorem dX5_isFor_8 : decode cX5_isFor 8 = .ok (.iconst 1, 1) := by decide +kernel
theorem dX5_isFor_9 : decode cX5_isFor 9 = .ok (.if_icmp .ne 7, 3) := by decide +kernel
theorem dX5_isFor_12 : decode cX5_isFor 12 = .ok (.iconst 1, 1) := by decide +kernel
theorem dX5_isFor_13 : decode cX5_isFor 13 = .ok (.goto 4, 3) := by decide +kernel
theorem dX5_isFor_16 : decode cX5_isFor 16 = .ok (.iconst 0, 1) := by decide +kernel
theorem dX5_isFor_17 : decode cX5_isFor 17 = .ok (.ireturn, 1) := by decide +kernel
theorem dX5_isApartAsAsked_0 : decode cX5_isApartAsAsked 0 = .ok (.iload_n 1, 1) := by decide +kernel
theorem dX5_isApartAsAsked_1 : decode cX5_isApartAsAsked 1 = .ok (.ifCond .eq 35, 3) := by decide +kernel
theorem dX5_isApartAsAsked_4 : decode cX5_isApartAsAsked 4 = .ok (.iload_n 1, 1) := by decide +kernel
theorem dX5_isApartAsAsked_5 : decode cX5_isApartAsAsked 5 = .ok (.aload_n 0, 1) := by decide +kernel
theorem dX5_isApartAsAsked_6 : decode cX5_isApartAsAsked 6 = .ok (.getfield 25, 3) := by decide +kernel
theorem dX5_isApartAsAsked_9 : decode cX5_isApartAsAsked 9 = .ok (.if_icmp .gt 27, 3) := by decide +kernel
theorem dX5_isApartAsAsked_12 : decode cX5_isApartAsAsked 12 = .ok (.iload_n 1, 1) := by decide +kernel
theorem dX5_isApartAsAsked_13 : decode cX5_isApartAsAsked 13 = .ok (.aload_n 0, 1) := by decide +kernel
theorem dX5_isApartAsAsked_14 : decode cX5_isApartAsAsked 14 = .ok (.getfield 28, 3) := by decide +kernel
theorem dX5_isApartAsAsked_17 : decode cX5_isApartAsAsked 17 = .ok (.ifCond .eq 7, 3) := by decide +kernel
theorem dX5_isApartAsAsked_20 : decode cX5_isApartAsAsked 20 = .ok (.iconst 1, 1) := by decide +kernel
theorem dX5_isApartAsAsked_21 : decode cX5_isApartAsAsked 21 = .ok (.goto 8, 3) := by decide +kernel
theorem dX5_isApartAsAsked_24 : decode cX5_isApartAsAsked 24 = .ok (.aload_n 0, 1) := by decide +kernel
theorem dX5_isApartAsAsked_25 : decode cX5_isApartAsAsked 25 = .ok (.getfield 25, 3) := by decide +kernel
theorem dX5_isApartAsAsked_28 : decode cX5_isApartAsAsked 28 = .ok (.ineg, 1) := by decide +kernel
theorem dX5_isApartAsAsked_29 : decode cX5_isApartAsAsked 29 = .ok (.if_icmp .lt 7, 3) := by decide +kernel
theorem dX5_isApartAsAsked_32 : decode cX5_isApartAsAsked 32 = .ok (.iconst 1, 1) := by decide +kernel
theorem dX5_isApartAsAsked_33 : decode cX5_isApartAsAsked 33 = .ok (.goto 4, 3) := by decide +kernel
theorem dX5_isApartAsAsked_36 : decode cX5_isApartAsAsked 36 = .ok (.iconst 0, 1) := by decide +kernel
theorem dX5_isApartAsAsked_37 : decode cX5_isApartAsAsked 37 = .ok (.ireturn, 1) := by decide +kernel
theorem dX6_init_0 : decode cX6_init 0 = .ok (.aload_n 0, 1) := by decide +kernel
theorem dX6_init_1 : decode cX6_init 1 = .ok (.invokespecial 3, 3) := by decide +kernel
theorem dX6_init_4 : decode cX6_init 4 = .ok (.aload_n 0, 1) := by decide +kernel
theorem dX6_init_5 : decode cX6_init 5 = .ok (.bipush 30, 2) := by decide +kernel
theorem dX6_init_7 : decode cX6_init 7 = .ok (.anewarray 9, 3) := by decide +kernel
theorem dX6_init_10 : decode cX6_init 10 = .ok (.putfield 11, 3) := by decide +kernel
theorem dX6_init_13 : decode cX6_init 13 = .ok (.aload_n 0, 1) := by decide +kernel
theorem dX6_init_14 : decode cX6_init 14 = .ok (.bipush 30, 2) := by decide +kernel
theorem dX6_init_16 : decode cX6_init 16 = .ok (.newarray .boolean, 2) := by decide +kernel
theorem dX6_init_18 : decode cX6_init 18 = .ok (.putfield 17, 3) := by decide +kernel
theorem dX6_init_21 : decode cX6_init 21 = .ok (.aload_n 0, 1) := by decide +kernel
theorem dX6_init_22 : decode cX6_init 22 = .ok (.bipush 12, 2) := by decide +kernel
theorem dX6_init_24 : decode cX6_init 24 = .ok (.newarray .boolean, 2) := by decide +kernel
theorem dX6_init_26 : decode cX6_init 26 = .ok (.putfield 21, 3) := by decide +kernel
theorem dX6_init_29 : decode cX6_init 29 = .ok (.aload_n 0, 1) := by decide +kernel
theorem dX6_init_30 : decode cX6_init 30 = .ok (.aload_n 1, 1) := by decide +kernel
theorem dX6_init_31 : decode cX6_init 31 = .ok (.putfield 24, 3) := by decide +kernel
theorem dX6_init_34 : decode cX6_init 34 = .ok (.return_, 1) := by decide +kernel
theorem dX6_isFull_0 : decode cX6_isFull 0 = .ok (.aload_n 0, 1) := by decide +kernel
theorem dX6_isFull_1 : decode cX6_isFull 1 = .ok (.getfield 28, 3) := by decide +kernel
theorem dX6_isFull_4 : decode cX6_isFull 4 = .ok (.aload_n 0, 1) := by decide +kernel
theorem dX6_isFull_5 : decode cX6_isFull 5 = .ok (.getfield 11, 3) := by decide +kernel
theorem dX6_isFull_8 : decode cX6_isFull 8 = .ok (.arraylength, 1) := by decide +kernel
theorem dX6_isFull_9 : decode cX6_isFull 9 = .ok (.if_icmp .lt 7, 3) := by decide +kernel
theorem dX6_isFull_12 : decode cX6_isFull 12 = .ok (.iconst 1, 1) := by decide +kernel
theorem dX6_isFull_13 : decode cX6_isFull 13 = .ok (.goto 4, 3) := by decide +kernel
theorem dX6_isFull_16 : decode cX6_isFull 16 = .ok (.iconst 0, 1) := by decide +kernel
theorem dX6_isFull_17 : decode cX6_isFull 17 = .ok (.ireturn, 1) := by decide +kernel
set_option maxRecDepth 20000 in
theorem ggX6_hasNode_X6_nodeAt : GoodIn wsX6_hasNode wsX6_nodeAt := goodIn_r _ [5, 6, 7, 8, 9, 10, 11, 12] (by decide +kernel) (by decide +kernel)
set_option maxRecDepth 20000 in
theorem gX6_hasNode_X6_nodeAt : GoodIn wsX6_hasNode (wsV RX6 32 RX6 yX6_nodeAt wsX6_nodeAt) := goodIn_app (goodIn_of _ (by decide +kernel)) ggX6_hasNode_X6_nodeAt
theorem dX6_hasNode_0 : decode cX6_hasNode 0 = .ok (.aload_n 0, 1) := by decide +kernel
theorem dX6_hasNode_1 : decode cX6_hasNode 1 = .ok (.iload_n 1, 1) := by decide +kernel
theorem dX6_hasNode_2 : decode cX6_hasNode 2 = .ok (.invokevirtual 32, 3) := by decide +kernel
theorem dX6_hasNode_5 : decode cX6_hasNode 5 = .ok (.ifnull 7, 3) := by decide +kernel
theorem dX6_hasNode_8 : decode cX6_hasNode 8 = .ok (.iconst 1, 1) := by decide +kernel
theorem dX6_hasNode_9 : decode cX6_hasNode 9 = .ok (.goto 4, 3) := by decide +kernel
theorem dX6_hasNode_12 : decode cX6_hasNode 12 = .ok (.iconst 0, 1) := by decide +kernel
theorem dX6_hasNode_13 : decode cX6_hasNode 13 = .ok (.ireturn, 1) := by decide +kernel
theorem dX6_nodeAt_0 : decode cX6_nodeAt 0 = .ok (.iload_n 1, 1) := by decide +kernel
theorem dX6_nodeAt_1 : decode cX6_nodeAt 1 = .ok (.ifCond .lt 20, 3) := by decide +kernel
theorem dX6_nodeAt_4 : decode cX6_nodeAt 4 = .ok (.iload_n 1, 1) := by decide +kernel
theorem dX6_nodeAt_5 : decode cX6_nodeAt 5 = .ok (.aload_n 0, 1) := by decide +kernel
theorem dX6_nodeAt_6 : decode cX6_nodeAt 6 = .ok (.getfield 28, 3) := by decide +kernel
theorem dX6_nodeAt_9 : decode cX6_nodeAt 9 = .ok (.if_icmp .ge 12, 3) := by decide +kernel
theorem dX6_nodeAt_12 : decode cX6_nodeAt 12 = .ok (.iload_n 1, 1) := by decide +kernel
theorem dX6_nodeAt_13 : decode cX6_nodeAt 13 = .ok (.aload_n 0, 1) := by decide +kernel
theorem dX6_nodeAt_14 : decode cX6_nodeAt 14 = .ok (.getfield 11, 3) := by decide +kernel
theorem dX6_nodeAt_17 : decode cX6_nodeAt 17 = .ok (.arraylength, 1) := by decide +kernel
theorem dX6_nodeAt_18 : decode cX6_nodeAt 18 = .ok (.if_icmp .lt 7, 3) := by decide +kernel
theorem dX6_nodeAt_21 : decode cX6_nodeAt 21 = .ok (.aconst_null, 1) := by decide +kernel
theorem dX6_nodeAt_22 : decode cX6_nodeAt 22 = .ok (.goto 9, 3) := by decide +kernel
theorem dX6_nodeAt_25 : decode cX6_nodeAt 25 = .ok (.aload_n 0, 1) := by decide +kernel
theorem dX6_nodeAt_26 : decode cX6_nodeAt 26 = .ok (.getfield 11, 3) := by decide +kernel
theorem dX6_nodeAt_29 : decode cX6_nodeAt 29 = .ok (.iload_n 1, 1) := by decide +kernel
theorem dX6_nodeAt_30 : decode cX6_nodeAt 30 = .ok (.aaload, 1) := by decide +kernel
theorem dX6_nodeAt_31 : decode cX6_nodeAt 31 = .ok (.areturn, 1) := by decide +kernel
set_option maxRecDepth 20000 in
theorem ggX6_append_X6_isFull : GoodIn wsX6_append wsX6_isFull := goodIn_r _ [7, 1, 2, 8, 9, 10, 11, 12] (by decide +kernel) (by decide +kernel)
set_option maxRecDepth 20000 in
theorem gX6_append_X6_isFull : GoodIn wsX6_append (wsV RX6 36 RX6 yX6_isFull wsX6_isFull) := goodIn_app (goodIn_of _ (by decide +kernel)) ggX6_append_X6_isFull
theorem dX6_append_0 : decode cX6_append 0 = .ok (.aload_n 0, 1) := by decide +kernel
theorem dX6_append_1 : decode cX6_append 1 = .ok (.invokevirtual 36, 3) := by decide +kernel
theorem dX6_append_4 : decode cX6_append 4 = .ok (.ifCond .eq 5, 3) := by decide +kernel
theorem dX6_append_7 : decode cX6_append 7 = .ok (.iconst (-1), 1) := by decide +kernel
theorem dX6_append_8 : decode cX6_append 8 = .ok (.ireturn, 1) := by decide +kernel
theorem dX6_append_9 : decode cX6_append 9 = .ok (.aload_n 0, 1) := by decide +kernel
theorem dX6_append_10 : decode cX6_append 10 = .ok (.getfield 28, 3) := by decide +kernel
theorem dX6_append_13 : decode cX6_append 13 = .ok (.istore_n 2, 1) := by decide +kernel
theorem dX6_append_14 : decode cX6_append 14 = .ok (.aload_n 0, 1) := by decide +kernel
theorem dX6_append_15 : decode cX6_append 15 = .ok (.getfield 11, 3) := by decide +kernel
theorem dX6_append_18 : decode cX6_append 18 = .ok (.iload_n 2, 1) := by decide +kernel
theorem dX6_append_19 : decode cX6_append 19 = .ok (.aload_n 1, 1) := by decide +kernel
theorem dX6_append_20 : decode cX6_append 20 = .ok (.aastore, 1) := by decide +kernel
theorem dX6_append_21 : decode cX6_append 21 = .ok (.aload_n 0, 1) := by decide +kernel
theorem dX6_append_22 : decode cX6_append 22 = .ok (.dup, 1) := by decide +kernel
theorem dX6_append_23 : decode cX6_append 23 = .ok (.getfield 28, 3) := by decide +kernel
theorem dX6_append_26 : decode cX6_append 26 = .ok (.iconst 1, 1) := by decide +kernel
theorem dX6_append_27 : decode cX6_append 27 = .ok (.iadd, 1) := by decide +kernel
theorem dX6_append_28 : decode cX6_append 28 = .ok (.putfield 28, 3) := by decide +kernel
theorem dX6_append_31 : decode cX6_append 31 = .ok (.iload_n 2, 1) := by decide +kernel
theorem dX6_append_32 : decode cX6_append 32 = .ok (.ireturn, 1) := by decide +kernel
set_option maxRecDepth 20000 in
theorem ggX6_markInside_X6_nodeAt : GoodIn wsX6_markInside wsX6_nodeAt := goodIn_r _ [10, 11, 12, 31, 32, 33, 34, 35] (by decide +kernel) (by decide +kernel)
set_option maxRecDepth 20000 in
theorem gX6_markInside_X6_nodeAt : GoodIn wsX6_markInside (wsV RX6 32 RX6 yX6_nodeAt wsX6_nodeAt) := goodIn_app (goodIn_of _ (by decide +kernel)) ggX6_markInside_X6_nodeAt
set_option maxRecDepth 20000 in
theorem ggX6_markInside_X6_markParts : GoodIn wsX6_markInside wsX6_markParts := goodIn_r _ [16, 17, 1, 18, 19, 20, 21, 22, 23, 24, 25, 26, 27, 28, 29, 30, 36, 37, 38, 39, 40, 41, 42, 43, 44, 45, 46, 47, 48, 31, 32, 33, 34, 35] (by decide +kernel) (by decide +kernel)
set_option maxRecDepth 20000 in
theorem gX6_markInside_X6_markParts : GoodIn wsX6_markInside (wsV RX6 46 RX6 yX6_markParts wsX6_markParts) := goodIn_app (goodIn_of _ (by decide +kernel)) ggX6_markInside_X6_markParts
theorem dX6_markInside_0 : decode cX6_markInside 0 = .ok (.iconst 0, 1) := by decide +kernel
theorem dX6_markInside_1 : decode cX6_markInside 1 = .ok (.istore_n 3, 1) := by decide +kernel
theorem dX6_markInside_2 : decode cX6_markInside 2 = .ok (.iload_n 3, 1) := by decide +kernel
theorem dX6_markInside_3 : decode cX6_markInside 3 = .ok (.aload_n 0, 1) := by decide +kernel
theorem dX6_markInside_4 : decode cX6_markInside 4 = .ok (.getfield 17, 3) := by decide +kernel
theorem dX6_markInside_7 : decode cX6_markInside 7 = .ok (.arraylength, 1) := by decide +kernel
theorem dX6_markInside_8 : decode cX6_markInside 8 = .ok (.if_icmp .ge 25, 3) := by decide +kernel
theorem dX6_markInside_11 : decode cX6_markInside 11 = .ok (.aload_n 0, 1) := by decide +kernel
theorem dX6_markInside_12 : decode cX6_markInside 12 = .ok (.getfield 17, 3) := by decide +kernel
theorem dX6_markInside_15 : decode cX6_markInside 15 = .ok (.iload_n 3, 1) := by decide +kernel
theorem dX6_markInside_16 : decode cX6_markInside 16 = .ok (.iload_n 3, 1) := by decide +kernel
theorem dX6_markInside_17 : decode cX6_markInside 17 = .ok (.iload_n 1, 1) := by decide +kernel
theorem dX6_markInside_18 : decode cX6_markInside 18 = .ok (.if_icmp .ne 7, 3) := by decide +kernel
theorem dX6_markInside_21 : decode cX6_markInside 21 = .ok (.iconst 1, 1) := by decide +kernel
theorem dX6_markInside_22 : decode cX6_markInside 22 = .ok (.goto 4, 3) := by decide +kernel
theorem dX6_markInside_25 : decode cX6_markInside 25 = .ok (.iconst 0, 1) := by decide +kernel
theorem dX6_markInside_26 : decode cX6_markInside 26 = .ok (.bastore, 1) := by decide +kernel
theorem dX6_markInside_27 : decode cX6_markInside 27 = .ok (.iinc 3 1, 3) := by decide +kernel
theorem dX6_markInside_30 : decode cX6_markInside 30 = .ok (.goto (-28), 3) := by decide +kernel
theorem dX6_markInside_33 : decode cX6_markInside 33 = .ok (.iload_n 1, 1) := by decide +kernel
theorem dX6_markInside_34 : decode cX6_markInside 34 = .ok (.aload_n 0, 1) := by decide +kernel
theorem dX6_markInside_35 : decode cX6_markInside 35 = .ok (.getfield 17, 3) := by decide +kernel
theorem dX6_markInside_38 : decode cX6_markInside 38 = .ok (.arraylength, 1) := by decide +kernel
theorem dX6_markInside_39 : decode cX6_markInside 39 = .ok (.iconst 1, 1) := by decide +kernel
theorem dX6_markInside_40 : decode cX6_markInside 40 = .ok (.isub, 1) := by decide +kernel
theorem dX6_markInside_41 : decode cX6_markInside 41 = .ok (.invokestatic 40, 3) := by decide +kernel
theorem dX6_markInside_44 : decode cX6_markInside 44 = .ok (.istore_n 3, 1) := by decide +kernel
theorem dX6_markInside_45 : decode cX6_markInside 45 = .ok (.iload_n 3, 1) := by decide +kernel
theorem dX6_markInside_46 : decode cX6_markInside 46 = .ok (.ifCond .lt 37, 3) := by decide +kernel
theorem dX6_markInside_49 : decode cX6_markInside 49 = .ok (.aload_n 0, 1) := by decide +kernel
theorem dX6_markInside_50 : decode cX6_markInside 50 = .ok (.iload_n 3, 1) := by decide +kernel
theorem dX6_markInside_51 : decode cX6_markInside 51 = .ok (.invokevirtual 32, 3) := by decide +kernel
theorem dX6_markInside_54 : decode cX6_markInside 54 = .ok (.astore 4, 2) := by decide +kernel
theorem dX6_markInside_56 : decode cX6_markInside 56 = .ok (.aload 4, 2) := by decide +kernel
theorem dX6_markInside_58 : decode cX6_markInside 58 = .ok (.ifnull 19, 3) := by decide +kernel
theorem dX6_markInside_61 : decode cX6_markInside 61 = .ok (.aload_n 0, 1) := by decide +kernel
theorem dX6_markInside_62 : decode cX6_markInside 62 = .ok (.getfield 17, 3) := by decide +kernel
theorem dX6_markInside_65 : decode cX6_markInside 65 = .ok (.iload_n 3, 1) := by decide +kernel
theorem dX6_markInside_66 : decode cX6_markInside 66 = .ok (.baload, 1) := by decide +kernel
theorem dX6_markInside_67 : decode cX6_markInside 67 = .ok (.ifCond .eq 10, 3) := by decide +kernel
theorem dX6_markInside_70 : decode cX6_markInside 70 = .ok (.aload_n 0, 1) := by decide +kernel
theorem dX6_markInside_71 : decode cX6_markInside 71 = .ok (.aload 4, 2) := by decide +kernel
theorem dX6_markInside_73 : decode cX6_markInside 73 = .ok (.iload_n 2, 1) := by decide +kernel
theorem dX6_markInside_74 : decode cX6_markInside 74 = .ok (.invokevirtual 46, 3) := by decide +kernel
theorem dX6_markInside_77 : decode cX6_markInside 77 = .ok (.iinc 3 (-1), 3) := by decide +kernel
theorem dX6_markInside_80 : decode cX6_markInside 80 = .ok (.goto (-35), 3) := by decide +kernel
theorem dX6_markInside_83 : decode cX6_markInside 83 = .ok (.return_, 1) := by decide +kernel
set_option maxRecDepth 20000 in
theorem ggX6_markParts_X5_partCount : GoodIn wsX6_markParts wsX5_partCount := goodIn_r _ [7, 8, 9, 16, 17, 18, 19, 20, 21, 22, 23, 24, 25, 26, 27, 28] (by decide +kernel) (by decide +kernel)
set_option maxRecDepth 20000 in
theorem gX6_markParts_X5_partCount : GoodIn wsX6_markParts (wsV RX6 53 RX5 yX5_partCount wsX5_partCount) := goodIn_app (goodIn_of _ (by decide +kernel)) ggX6_markParts_X5_partCount
set_option maxRecDepth 20000 in
theorem ggX6_markParts_X5_partAt : GoodIn wsX6_markParts wsX5_partAt := goodIn_r _ [13, 8, 14, 15, 16, 17, 18, 19, 20, 21, 22, 23, 24, 25, 26, 27, 28] (by decide +kernel) (by decide +kernel)
set_option maxRecDepth 20000 in
theorem gX6_markParts_X5_partAt : GoodIn wsX6_markParts (wsV RX6 57 RX5 yX5_partAt wsX5_partAt) := goodIn_app (goodIn_of _ (by decide +kernel)) ggX6_markParts_X5_partAt
theorem dX6_markParts_0 : decode cX6_markParts 0 = .ok (.iload_n 2, 1) := by decide +kernel
theorem dX6_markParts_1 : decode cX6_markParts 1 = .ok (.ifCond .eq 15, 3) := by decide +kernel
theorem dX6_markParts_4 : decode cX6_markParts 4 = .ok (.aload_n 1, 1) := by decide +kernel
theorem dX6_markParts_5 : decode cX6_markParts 5 = .ok (.getfield 50, 3) := by decide +kernel
theorem dX6_markParts_8 : decode cX6_markParts 8 = .ok (.iconst 3, 1) := by decide +kernel
theorem dX6_markParts_9 : decode cX6_markParts 9 = .ok (.if_icmp .ne 7, 3) := by decide +kernel
theorem dX6_markParts_12 : decode cX6_markParts 12 = .ok (.iconst 1, 1) := by decide +kernel
theorem dX6_markParts_13 : decode cX6_markParts 13 = .ok (.goto 7, 3) := by decide +kernel
theorem dX6_markParts_16 : decode cX6_markParts 16 = .ok (.aload_n 1, 1) := by decide +kernel
theorem dX6_markParts_17 : decode cX6_markParts 17 = .ok (.invokevirtual 53, 3) := by decide +kernel
theorem dX6_markParts_20 : decode cX6_markParts 20 = .ok (.istore_n 3, 1) := by decide +kernel
theorem dX6_markParts_21 : decode cX6_markParts 21 = .ok (.iconst 0, 1) := by decide +kernel
theorem dX6_markParts_22 : decode cX6_markParts 22 = .ok (.istore 4, 2) := by decide +kernel
theorem dX6_markParts_24 : decode cX6_markParts 24 = .ok (.iload 4, 2) := by decide +kernel
theorem dX6_markParts_26 : decode cX6_markParts 26 = .ok (.iload_n 3, 1) := by decide +kernel
theorem dX6_markParts_27 : decode cX6_markParts 27 = .ok (.if_icmp .ge 40, 3) := by decide +kernel
theorem dX6_markParts_30 : decode cX6_markParts 30 = .ok (.aload_n 1, 1) := by decide +kernel
theorem dX6_markParts_31 : decode cX6_markParts 31 = .ok (.iload 4, 2) := by decide +kernel
theorem dX6_markParts_33 : decode cX6_markParts 33 = .ok (.invokevirtual 57, 3) := by decide +kernel
theorem dX6_markParts_36 : decode cX6_markParts 36 = .ok (.istore 5, 2) := by decide +kernel
theorem dX6_markParts_38 : decode cX6_markParts 38 = .ok (.iload 5, 2) := by decide +kernel
theorem dX6_markParts_40 : decode cX6_markParts 40 = .ok (.ifCond .lt 21, 3) := by decide +kernel
theorem dX6_markParts_43 : decode cX6_markParts 43 = .ok (.iload 5, 2) := by decide +kernel
theorem dX6_markParts_45 : decode cX6_markParts 45 = .ok (.aload_n 0, 1) := by decide +kernel
theorem dX6_markParts_46 : decode cX6_markParts 46 = .ok (.getfield 17, 3) := by decide +kernel
theorem dX6_markParts_49 : decode cX6_markParts 49 = .ok (.arraylength, 1) := by decide +kernel
theorem dX6_markParts_50 : decode cX6_markParts 50 = .ok (.if_icmp .ge 11, 3) := by decide +kernel
theorem dX6_markParts_53 : decode cX6_markParts 53 = .ok (.aload_n 0, 1) := by decide +kernel
theorem dX6_markParts_54 : decode cX6_markParts 54 = .ok (.getfield 17, 3) := by decide +kernel
theorem dX6_markParts_57 : decode cX6_markParts 57 = .ok (.iload 5, 2) := by decide +kernel
theorem dX6_markParts_59 : decode cX6_markParts 59 = .ok (.iconst 1, 1) := by decide +kernel
theorem dX6_markParts_60 : decode cX6_markParts 60 = .ok (.bastore, 1) := by decide +kernel
theorem dX6_markParts_61 : decode cX6_markParts 61 = .ok (.iinc 4 1, 3) := by decide +kernel
theorem dX6_markParts_64 : decode cX6_markParts 64 = .ok (.goto (-40), 3) := by decide +kernel
theorem dX6_markParts_67 : decode cX6_markParts 67 = .ok (.return_, 1) := by decide +kernel
set_option maxRecDepth 20000 in
theorem ggX6_termNodeInside_X6_nodeAt : GoodIn wsX6_termNodeInside wsX6_nodeAt := goodIn_r _ [7, 8, 9, 23, 24, 25, 26, 27] (by decide +kernel) (by decide +kernel)
set_option maxRecDepth 20000 in
theorem gX6_termNodeInside_X6_nodeAt : GoodIn wsX6_termNodeInside (wsV RX6 32 RX6 yX6_nodeAt wsX6_nodeAt) := goodIn_app (goodIn_of _ (by decide +kernel)) ggX6_termNodeInside_X6_nodeAt
theorem dX6_termNodeInside_0 : decode cX6_termNodeInside 0 = .ok (.aload_n 0, 1) := by decide +kernel
theorem dX6_termNodeInside_1 : decode cX6_termNodeInside 1 = .ok (.iload_n 1, 1) := by decide +kernel
theorem dX6_termNodeInside_2 : decode cX6_termNodeInside 2 = .ok (.invokevirtual 32, 3) := by decide +kernel
theorem dX6_termNodeInside_5 : decode cX6_termNodeInside 5 = .ok (.astore_n 2, 1) := by decide +kernel
theorem dX6_termNodeInside_6 : decode cX6_termNodeInside 6 = .ok (.aload_n 2, 1) := by decide +kernel
theorem dX6_termNodeInside_7 : decode cX6_termNodeInside 7 = .ok (.ifnull 36, 3) := by decide +kernel
theorem dX6_termNodeInside_10 : decode cX6_termNodeInside 10 = .ok (.aload_n 2, 1) := by decide +kernel
theorem dX6_termNodeInside_11 : decode cX6_termNodeInside 11 = .ok (.getfield 50, 3) := by decide +kernel
theorem dX6_termNodeInside_14 : decode cX6_termNodeInside 14 = .ok (.ifCond .ne 29, 3) := by decide +kernel
theorem dX6_termNodeInside_17 : decode cX6_termNodeInside 17 = .ok (.iload_n 1, 1) := by decide +kernel
theorem dX6_termNodeInside_18 : decode cX6_termNodeInside 18 = .ok (.ifCond .lt 25, 3) := by decide +kernel
theorem dX6_termNodeInside_21 : decode cX6_termNodeInside 21 = .ok (.iload_n 1, 1) := by decide +kernel
theorem dX6_termNodeInside_22 : decode cX6_termNodeInside 22 = .ok (.aload_n 0, 1) := by decide +kernel
theorem dX6_termNodeInside_23 : decode cX6_termNodeInside 23 = .ok (.getfield 17, 3) := by decide +kernel
theorem dX6_termNodeInside_26 : decode cX6_termNodeInside 26 = .ok (.arraylength, 1) := by decide +kernel
theorem dX6_termNodeInside_27 : decode cX6_termNodeInside 27 = .ok (.if_icmp .ge 16, 3) := by decide +kernel
theorem dX6_termNodeInside_30 : decode cX6_termNodeInside 30 = .ok (.aload_n 0, 1) := by decide +kernel
theorem dX6_termNodeInside_31 : decode cX6_termNodeInside 31 = .ok (.getfield 17, 3) := by decide +kernel
theorem dX6_termNodeInside_34 : decode cX6_termNodeInside 34 = .ok (.iload_n 1, 1) := by decide +kernel
theorem dX6_termNodeInside_35 : decode cX6_termNodeInside 35 = .ok (.baload, 1) := by decide +kernel
theorem dX6_termNodeInside_36 : decode cX6_termNodeInside 36 = .ok (.ifCond .eq 7, 3) := by decide +kernel
theorem dX6_termNodeInside_39 : decode cX6_termNodeInside 39 = .ok (.iconst 1, 1) := by decide +kernel
theorem dX6_termNodeInside_40 : decode cX6_termNodeInside 40 = .ok (.goto 4, 3) := by decide +kernel
theorem dX6_termNodeInside_43 : decode cX6_termNodeInside 43 = .ok (.iconst 0, 1) := by decide +kernel
theorem dX6_termNodeInside_44 : decode cX6_termNodeInside 44 = .ok (.istore_n 3, 1) := by decide +kernel
theorem dX6_termNodeInside_45 : decode cX6_termNodeInside 45 = .ok (.iload_n 3, 1) := by decide +kernel
theorem dX6_termNodeInside_46 : decode cX6_termNodeInside 46 = .ok (.ifCond .eq 7, 3) := by decide +kernel
theorem dX6_termNodeInside_49 : decode cX6_termNodeInside 49 = .ok (.aload_n 2, 1) := by decide +kernel
theorem dX6_termNodeInside_50 : decode cX6_termNodeInside 50 = .ok (.goto 4, 3) := by decide +kernel
theorem dX6_termNodeInside_53 : decode cX6_termNodeInside 53 = .ok (.aconst_null, 1) := by decide +kernel
theorem dX6_termNodeInside_54 : decode cX6_termNodeInside 54 = .ok (.areturn, 1) := by decide +kernel
set_option maxRecDepth 20000 in
theorem ggX6_entriesOf_X6_markInside : GoodIn wsX6_entriesOf wsX6_markInside := goodIn_r _ [6, 7, 8, 9, 10, 11, 12, 13, 14, 5, 15, 1, 16, 17, 18, 19, 20, 21, 22, 23, 24, 25, 26, 27, 28, 29, 30, 31, 32, 33, 34, 71, 72, 73, 74, 75, 76, 77, 78, 79, 80, 81, 82, 83, 84, 85, 86, 87, 88] (by decide +kernel) (by decide +kernel)
set_option maxRecDepth 20000 in
theorem gX6_entriesOf_X6_markInside : GoodIn wsX6_entriesOf (wsV RX6 61 RX6 yX6_markInside wsX6_markInside) := goodIn_app (goodIn_of _ (by decide +kernel)) ggX6_entriesOf_X6_markInside
set_option maxRecDepth 20000 in
theorem ggX6_entriesOf_X6_termNodeInside : GoodIn wsX6_entriesOf wsX6_termNodeInside := goodIn_r _ [38, 21, 7, 12, 13, 14, 5, 15, 1, 16, 76, 77, 78, 79, 80, 81, 82, 83, 84, 85, 86, 87, 88, 71, 72, 73, 74, 75] (by decide +kernel) (by decide +kernel)
set_option maxRecDepth 20000 in
theorem gX6_entriesOf_X6_termNodeInside : GoodIn wsX6_entriesOf (wsV RX6 65 RX6 yX6_termNodeInside wsX6_termNodeInside) := goodIn_app (goodIn_of _ (by decide +kernel)) ggX6_entriesOf_X6_termNodeInside
set_option maxRecDepth 20000 in
theorem ggX6_entriesOf_X6_entriesOfTerm : GoodIn wsX6_entriesOf wsX6_entriesOfTerm := goodIn_r _ [42, 43, 44, 45, 46, 47, 48, 49, 50, 51, 52, 53, 54, 55, 56, 57, 58, 59, 60, 61, 62, 25, 63, 64, 65, 66, 67, 68, 69, 70, 71, 72, 73, 74, 75, 76, 77, 78, 79, 80, 81, 82, 83, 84, 85, 86, 87, 88, 89, 90, 91, 92, 93, 94] (by decide +kernel) (by decide +kernel)
set_option maxRecDepth 20000 in
theorem gX6_entriesOf_X6_entriesOfTerm : GoodIn wsX6_entriesOf (wsV RX6 68 RX6 yX6_entriesOfTerm wsX6_entriesOfTerm) := goodIn_app (goodIn_of _ (by decide +kernel)) ggX6_entriesOf_X6_entriesOfTerm
theorem dX6_entriesOf_0 : decode cX6_entriesOf 0 = .ok (.aload_n 0, 1) := by decide +kernel
theorem dX6_entriesOf_1 : decode cX6_entriesOf 1 = .ok (.iload_n 1, 1) := by decide +kernel
theorem dX6_entriesOf_2 : decode cX6_entriesOf 2 = .ok (.iconst 0, 1) := by decide +kernel
theorem dX6_entriesOf_3 : decode cX6_entriesOf 3 = .ok (.invokevirtual 61, 3) := by decide +kernel
theorem dX6_entriesOf_6 : decode cX6_entriesOf 6 = .ok (.iconst 0, 1) := by decide +kernel
theorem dX6_entriesOf_7 : decode cX6_entriesOf 7 = .ok (.istore_n 3, 1) := by decide +kernel
theorem dX6_entriesOf_8 : decode cX6_entriesOf 8 = .ok (.iconst 0, 1) := by decide +kernel
theorem dX6_entriesOf_9 : decode cX6_entriesOf 9 = .ok (.istore 4, 2) := by decide +kernel
theorem dX6_entriesOf_11 : decode cX6_entriesOf 11 = .ok (.iload 4, 2) := by decide +kernel
theorem dX6_entriesOf_13 : decode cX6_entriesOf 13 = .ok (.aload_n 0, 1) := by decide +kernel
theorem dX6_entriesOf_14 : decode cX6_entriesOf 14 = .ok (.getfield 28, 3) := by decide +kernel
theorem dX6_entriesOf_17 : decode cX6_entriesOf 17 = .ok (.if_icmp .ge 32, 3) := by decide +kernel
theorem dX6_entriesOf_20 : decode cX6_entriesOf 20 = .ok (.aload_n 0, 1) := by decide +kernel
theorem dX6_entriesOf_21 : decode cX6_entriesOf 21 = .ok (.iload 4, 2) := by decide +kernel
theorem dX6_entriesOf_23 : decode cX6_entriesOf 23 = .ok (.invokevirtual 65, 3) := by decide +kernel
theorem dX6_entriesOf_26 : decode cX6_entriesOf 26 = .ok (.astore 5, 2) := by decide +kernel
theorem dX6_entriesOf_28 : decode cX6_entriesOf 28 = .ok (.aload 5, 2) := by decide +kernel
theorem dX6_entriesOf_30 : decode cX6_entriesOf 30 = .ok (.ifnull 13, 3) := by decide +kernel
theorem dX6_entriesOf_33 : decode cX6_entriesOf 33 = .ok (.iload_n 3, 1) := by decide +kernel
theorem dX6_entriesOf_34 : decode cX6_entriesOf 34 = .ok (.aload_n 0, 1) := by decide +kernel
theorem dX6_entriesOf_35 : decode cX6_entriesOf 35 = .ok (.aload 5, 2) := by decide +kernel
theorem dX6_entriesOf_37 : decode cX6_entriesOf 37 = .ok (.aload_n 2, 1) := by decide +kernel
theorem dX6_entriesOf_38 : decode cX6_entriesOf 38 = .ok (.invokevirtual 68, 3) := by decide +kernel
theorem dX6_entriesOf_41 : decode cX6_entriesOf 41 = .ok (.iadd, 1) := by decide +kernel
theorem dX6_entriesOf_42 : decode cX6_entriesOf 42 = .ok (.istore_n 3, 1) := by decide +kernel
theorem dX6_entriesOf_43 : decode cX6_entriesOf 43 = .ok (.iinc 4 1, 3) := by decide +kernel
theorem dX6_entriesOf_46 : decode cX6_entriesOf 46 = .ok (.goto (-35), 3) := by decide +kernel
theorem dX6_entriesOf_49 : decode cX6_entriesOf 49 = .ok (.iload_n 3, 1) := by decide +kernel
theorem dX6_entriesOf_50 : decode cX6_entriesOf 50 = .ok (.ireturn, 1) := by decide +kernel
set_option maxRecDepth 20000 in
theorem ggX6_entriesOfTerm_X4_unmuted : GoodIn wsX6_entriesOfTerm wsX4_unmuted := goodIn_r _ [7, 8, 9, 10, 6, 11, 12, 48, 49, 50] (by decide +kernel) (by decide +kernel)
set_option maxRecDepth 20000 in
theorem gX6_entriesOfTerm_X4_unmuted : GoodIn wsX6_entriesOfTerm (wsV RX6 75 RX4 yX4_unmuted wsX4_unmuted) := goodIn_app (goodIn_of _ (by decide +kernel)) ggX6_entriesOfTerm_X4_unmuted
set_option maxRecDepth 20000 in
theorem ggX6_entriesOfTerm_X4_aliasOf : GoodIn wsX6_entriesOfTerm wsX4_aliasOf := goodIn_r _ [16, 17, 48, 49, 50] (by decide +kernel) (by decide +kernel)
set_option maxRecDepth 20000 in
theorem gX6_entriesOfTerm_X4_aliasOf : GoodIn wsX6_entriesOfTerm (wsV RX6 80 RX4 yX4_aliasOf wsX4_aliasOf) := goodIn_app (goodIn_of _ (by decide +kernel)) ggX6_entriesOfTerm_X4_aliasOf
set_option maxRecDepth 20000 in
theorem ggX6_entriesOfTerm_X5_isFor : GoodIn wsX6_entriesOfTerm wsX5_isFor := goodIn_r _ [22, 23, 35, 36, 37, 38, 39, 40, 41, 42, 43, 44, 45, 46, 47] (by decide +kernel) (by decide +kernel)
set_option maxRecDepth 20000 in
theorem gX6_entriesOfTerm_X5_isFor : GoodIn wsX6_entriesOfTerm (wsV RX6 83 RX5 yX5_isFor wsX5_isFor) := goodIn_app (goodIn_of _ (by decide +kernel)) ggX6_entriesOfTerm_X5_isFor
set_option maxRecDepth 20000 in
theorem ggX6_entriesOfTerm_X1_spreadOf : GoodIn wsX6_entriesOfTerm wsX1_spreadOf := goodIn_r _ [28, 29, 51, 52, 53] (by decide +kernel) (by decide +kernel)
set_option maxRecDepth 20000 in
theorem gX6_entriesOfTerm_X1_spreadOf : GoodIn wsX6_entriesOfTerm (wsV RX6 87 RX1 yX1_spreadOf wsX1_spreadOf) := goodIn_app (goodIn_of _ (by decide +kernel)) ggX6_entriesOfTerm_X1_spreadOf
theorem dX6_entriesOfTerm_0 : decode cX6_entriesOfTerm 0 = .ok (.aload_n 0, 1) := by decide +kernel
theorem dX6_entriesOfTerm_1 : decode cX6_entriesOfTerm 1 = .ok (.getfield 24, 3) := by decide +kernel
theorem dX6_entriesOfTerm_4 : decode cX6_entriesOfTerm 4 = .ok (.aload_n 1, 1) := by decide +kernel
theorem dX6_entriesOfTerm_5 : decode cX6_entriesOfTerm 5 = .ok (.getfield 72, 3) := by decide +kernel
theorem dX6_entriesOfTerm_8 : decode cX6_entriesOfTerm 8 = .ok (.invokevirtual 75, 3) := by decide +kernel
theorem dX6_entriesOfTerm_11 : decode cX6_entriesOfTerm 11 = .ok (.istore_n 3, 1) := by decide +kernel
theorem dX6_entriesOfTerm_12 : decode cX6_entriesOfTerm 12 = .ok (.aload_n 0, 1) := by decide +kernel
theorem dX6_entriesOfTerm_13 : decode cX6_entriesOfTerm 13 = .ok (.getfield 24, 3) := by decide +kernel
theorem dX6_entriesOfTerm_16 : decode cX6_entriesOfTerm 16 = .ok (.aload_n 0, 1) := by decide +kernel
theorem dX6_entriesOfTerm_17 : decode cX6_entriesOfTerm 17 = .ok (.getfield 24, 3) := by decide +kernel
theorem dX6_entriesOfTerm_20 : decode cX6_entriesOfTerm 20 = .ok (.aload_n 1, 1) := by decide +kernel
theorem dX6_entriesOfTerm_21 : decode cX6_entriesOfTerm 21 = .ok (.getfield 72, 3) := by decide +kernel
theorem dX6_entriesOfTerm_24 : decode cX6_entriesOfTerm 24 = .ok (.invokevirtual 80, 3) := by decide +kernel
theorem dX6_entriesOfTerm_27 : decode cX6_entriesOfTerm 27 = .ok (.invokevirtual 75, 3) := by decide +kernel
theorem dX6_entriesOfTerm_30 : decode cX6_entriesOfTerm 30 = .ok (.istore 4, 2) := by decide +kernel
theorem dX6_entriesOfTerm_32 : decode cX6_entriesOfTerm 32 = .ok (.iconst 0, 1) := by decide +kernel
theorem dX6_entriesOfTerm_33 : decode cX6_entriesOfTerm 33 = .ok (.istore 5, 2) := by decide +kernel
theorem dX6_entriesOfTerm_35 : decode cX6_entriesOfTerm 35 = .ok (.iconst 0, 1) := by decide +kernel
theorem dX6_entriesOfTerm_36 : decode cX6_entriesOfTerm 36 = .ok (.istore 6, 2) := by decide +kernel
theorem dX6_entriesOfTerm_38 : decode cX6_entriesOfTerm 38 = .ok (.iload 6, 2) := by decide +kernel
theorem dX6_entriesOfTerm_40 : decode cX6_entriesOfTerm 40 = .ok (.iconst 3, 1) := by decide +kernel
theorem dX6_entriesOfTerm_41 : decode cX6_entriesOfTerm 41 = .ok (.if_icmp .ge 39, 3) := by decide +kernel
theorem dX6_entriesOfTerm_44 : decode cX6_entriesOfTerm 44 = .ok (.aload_n 1, 1) := by decide +kernel
theorem dX6_entriesOfTerm_45 : decode cX6_entriesOfTerm 45 = .ok (.iload 6, 2) := by decide +kernel
theorem dX6_entriesOfTerm_47 : decode cX6_entriesOfTerm 47 = .ok (.invokevirtual 83, 3) := by decide +kernel
theorem dX6_entriesOfTerm_50 : decode cX6_entriesOfTerm 50 = .ok (.ifCond .eq 24, 3) := by decide +kernel
theorem dX6_entriesOfTerm_53 : decode cX6_entriesOfTerm 53 = .ok (.iload 5, 2) := by decide +kernel
theorem dX6_entriesOfTerm_55 : decode cX6_entriesOfTerm 55 = .ok (.aload_n 2, 1) := by decide +kernel
theorem dX6_entriesOfTerm_56 : decode cX6_entriesOfTerm 56 = .ok (.iload_n 3, 1) := by decide +kernel
theorem dX6_entriesOfTerm_57 : decode cX6_entriesOfTerm 57 = .ok (.iload 6, 2) := by decide +kernel
theorem dX6_entriesOfTerm_59 : decode cX6_entriesOfTerm 59 = .ok (.invokevirtual 87, 3) := by decide +kernel
theorem dX6_entriesOfTerm_62 : decode cX6_entriesOfTerm 62 = .ok (.aload_n 2, 1) := by decide +kernel
theorem dX6_entriesOfTerm_63 : decode cX6_entriesOfTerm 63 = .ok (.iload 4, 2) := by decide +kernel
theorem dX6_entriesOfTerm_65 : decode cX6_entriesOfTerm 65 = .ok (.iload 6, 2) := by decide +kernel
theorem dX6_entriesOfTerm_67 : decode cX6_entriesOfTerm 67 = .ok (.invokevirtual 87, 3) := by decide +kernel
theorem dX6_entriesOfTerm_70 : decode cX6_entriesOfTerm 70 = .ok (.iadd, 1) := by decide +kernel
theorem dX6_entriesOfTerm_71 : decode cX6_entriesOfTerm 71 = .ok (.iadd, 1) := by decide +kernel
theorem dX6_entriesOfTerm_72 : decode cX6_entriesOfTerm 72 = .ok (.istore 5, 2) := by decide +kernel
theorem dX6_entriesOfTerm_74 : decode cX6_entriesOfTerm 74 = .ok (.iinc 6 1, 3) := by decide +kernel
theorem dX6_entriesOfTerm_77 : decode cX6_entriesOfTerm 77 = .ok (.goto (-39), 3) := by decide +kernel
theorem dX6_entriesOfTerm_80 : decode cX6_entriesOfTerm 80 = .ok (.iload 5, 2) := by decide +kernel
theorem dX6_entriesOfTerm_82 : decode cX6_entriesOfTerm 82 = .ok (.ireturn, 1) := by decide +kernel
theorem dX7_init_0 : decode cX7_init 0 = .ok (.aload_n 0, 1) := by decide +kernel
theorem dX7_init_1 : decode cX7_init 1 = .ok (.invokespecial 3, 3) := by decide +kernel
theorem dX7_init_4 : decode cX7_init 4 = .ok (.aload_n 0, 1) := by decide +kernel
theorem dX7_init_5 : decode cX7_init 5 = .ok (.bipush 60, 2) := by decide +kernel
theorem dX7_init_7 : decode cX7_init 7 = .ok (.anewarray 9, 3) := by decide +kernel
theorem dX7_init_10 : decode cX7_init 10 = .ok (.putfield 11, 3) := by decide +kernel
theorem dX7_init_13 : decode cX7_init 13 = .ok (.aload_n 0, 1) := by decide +kernel
theorem dX7_init_14 : decode cX7_init 14 = .ok (.bipush 60, 2) := by decide +kernel
theorem dX7_init_16 : decode cX7_init 16 = .ok (.newarray .int, 2) := by decide +kernel
theorem dX7_init_18 : decode cX7_init 18 = .ok (.putfield 17, 3) := by decide +kernel
theorem dX7_init_21 : decode cX7_init 21 = .ok (.aload_n 0, 1) := by decide +kernel
theorem dX7_init_22 : decode cX7_init 22 = .ok (.bipush 60, 2) := by decide +kernel
theorem dX7_init_24 : decode cX7_init 24 = .ok (.newarray .int, 2) := by decide +kernel
theorem dX7_init_26 : decode cX7_init 26 = .ok (.putfield 21, 3) := by decide +kernel
theorem dX7_init_29 : decode cX7_init 29 = .ok (.return_, 1) := by decide +kernel
theorem dX7_dropAll_0 : decode cX7_dropAll 0 = .ok (.aload_n 0, 1) := by decide +kernel
theorem dX7_dropAll_1 : decode cX7_dropAll 1 = .ok (.iconst 0, 1) := by decide +kernel
theorem dX7_dropAll_2 : decode cX7_dropAll 2 = .ok (.putfield 24, 3) := by decide +kernel
theorem dX7_dropAll_5 : decode cX7_dropAll 5 = .ok (.return_, 1) := by decide +kernel
set_option maxRecDepth 20000 in
theorem ggX7_insert_X7_isBetter : GoodIn wsX7_insert wsX7_isBetter := goodIn_r _ [9, 10, 11, 12, 13, 8, 14, 2, 15, 16, 17, 18, 1, 19, 20, 21, 22, 4, 27, 28, 29, 30, 31, 23, 24, 25, 26] (by decide +kernel) (by decide +kernel)
set_option maxRecDepth 20000 in
theorem gX7_insert_X7_isBetter : GoodIn wsX7_insert (wsV RX7 28 RX7 yX7_isBetter wsX7_isBetter) := goodIn_app (goodIn_of _ (by decide +kernel)) ggX7_insert_X7_isBetter
theorem dX7_insert_0 : decode cX7_insert 0 = .ok (.aload_n 1, 1) := by decide +kernel
theorem dX7_insert_1 : decode cX7_insert 1 = .ok (.ifnull 15, 3) := by decide +kernel
theorem dX7_insert_4 : decode cX7_insert 4 = .ok (.aload_n 0, 1) := by decide +kernel
theorem dX7_insert_5 : decode cX7_insert 5 = .ok (.getfield 24, 3) := by decide +kernel
theorem dX7_insert_8 : decode cX7_insert 8 = .ok (.aload_n 0, 1) := by decide +kernel
theorem dX7_insert_9 : decode cX7_insert 9 = .ok (.getfield 11, 3) := by decide +kernel
theorem dX7_insert_12 : decode cX7_insert 12 = .ok (.arraylength, 1) := by decide +kernel
theorem dX7_insert_13 : decode cX7_insert 13 = .ok (.if_icmp .lt 4, 3) := by decide +kernel
theorem dX7_insert_16 : decode cX7_insert 16 = .ok (.return_, 1) := by decide +kernel
theorem dX7_insert_17 : decode cX7_insert 17 = .ok (.aload_n 0, 1) := by decide +kernel
theorem dX7_insert_18 : decode cX7_insert 18 = .ok (.getfield 24, 3) := by decide +kernel
theorem dX7_insert_21 : decode cX7_insert 21 = .ok (.istore 4, 2) := by decide +kernel
theorem dX7_insert_23 : decode cX7_insert 23 = .ok (.iload 4, 2) := by decide +kernel
theorem dX7_insert_25 : decode cX7_insert 25 = .ok (.ifCond .le 70, 3) := by decide +kernel
theorem dX7_insert_28 : decode cX7_insert 28 = .ok (.aload_n 0, 1) := by decide +kernel
theorem dX7_insert_29 : decode cX7_insert 29 = .ok (.aload_n 1, 1) := by decide +kernel
theorem dX7_insert_30 : decode cX7_insert 30 = .ok (.iload_n 3, 1) := by decide +kernel
theorem dX7_insert_31 : decode cX7_insert 31 = .ok (.iload 4, 2) := by decide +kernel
theorem dX7_insert_33 : decode cX7_insert 33 = .ok (.iconst 1, 1) := by decide +kernel
theorem dX7_insert_34 : decode cX7_insert 34 = .ok (.isub, 1) := by decide +kernel
theorem dX7_insert_35 : decode cX7_insert 35 = .ok (.invokevirtual 28, 3) := by decide +kernel
theorem dX7_insert_38 : decode cX7_insert 38 = .ok (.ifCond .eq 57, 3) := by decide +kernel
theorem dX7_insert_41 : decode cX7_insert 41 = .ok (.aload_n 0, 1) := by decide +kernel
theorem dX7_insert_42 : decode cX7_insert 42 = .ok (.getfield 11, 3) := by decide +kernel
theorem dX7_insert_45 : decode cX7_insert 45 = .ok (.iload 4, 2) := by decide +kernel
theorem dX7_insert_47 : decode cX7_insert 47 = .ok (.aload_n 0, 1) := by decide +kernel
theorem dX7_insert_48 : decode cX7_insert 48 = .ok (.getfield 11, 3) := by decide +kernel
theorem dX7_insert_51 : decode cX7_insert 51 = .ok (.iload 4, 2) := by decide +kernel
theorem dX7_insert_53 : decode cX7_insert 53 = .ok (.iconst 1, 1) := by decide +kernel
theorem dX7_insert_54 : decode cX7_insert 54 = .ok (.isub, 1) := by decide +kernel
theorem dX7_insert_55 : decode cX7_insert 55 = .ok (.aaload, 1) := by decide +kernel
theorem dX7_insert_56 : decode cX7_insert 56 = .ok (.aastore, 1) := by decide +kernel
theorem dX7_insert_57 : decode cX7_insert 57 = .ok (.aload_n 0, 1) := by decide +kernel
theorem dX7_insert_58 : decode cX7_insert 58 = .ok (.getfield 17, 3) := by decide +kernel
theorem dX7_insert_61 : decode cX7_insert 61 = .ok (.iload 4, 2) := by decide +kernel
theorem dX7_insert_63 : decode cX7_insert 63 = .ok (.aload_n 0, 1) := by decide +kernel
theorem dX7_insert_64 : decode cX7_insert 64 = .ok (.getfield 17, 3) := by decide +kernel
theorem dX7_insert_67 : decode cX7_insert 67 = .ok (.iload 4, 2) := by decide +kernel
theorem dX7_insert_69 : decode cX7_insert 69 = .ok (.iconst 1, 1) := by decide +kernel
theorem dX7_insert_70 : decode cX7_insert 70 = .ok (.isub, 1) := by decide +kernel
theorem dX7_insert_71 : decode cX7_insert 71 = .ok (.iaload, 1) := by decide +kernel
theorem dX7_insert_72 : decode cX7_insert 72 = .ok (.iastore, 1) := by decide +kernel
theorem dX7_insert_73 : decode cX7_insert 73 = .ok (.aload_n 0, 1) := by decide +kernel
theorem dX7_insert_74 : decode cX7_insert 74 = .ok (.getfield 21, 3) := by decide +kernel
theorem dX7_insert_77 : decode cX7_insert 77 = .ok (.iload 4, 2) := by decide +kernel
theorem dX7_insert_79 : decode cX7_insert 79 = .ok (.aload_n 0, 1) := by decide +kernel
theorem dX7_insert_80 : decode cX7_insert 80 = .ok (.getfield 21, 3) := by decide +kernel
theorem dX7_insert_83 : decode cX7_insert 83 = .ok (.iload 4, 2) := by decide +kernel
theorem dX7_insert_85 : decode cX7_insert 85 = .ok (.iconst 1, 1) := by decide +kernel
theorem dX7_insert_86 : decode cX7_insert 86 = .ok (.isub, 1) := by decide +kernel
theorem dX7_insert_87 : decode cX7_insert 87 = .ok (.iaload, 1) := by decide +kernel
theorem dX7_insert_88 : decode cX7_insert 88 = .ok (.iastore, 1) := by decide +kernel
theorem dX7_insert_89 : decode cX7_insert 89 = .ok (.iinc 4 (-1), 3) := by decide +kernel
theorem dX7_insert_92 : decode cX7_insert 92 = .ok (.goto (-69), 3) := by decide +kernel
theorem dX7_insert_95 : decode cX7_insert 95 = .ok (.aload_n 0, 1) := by decide +kernel
theorem dX7_insert_96 : decode cX7_insert 96 = .ok (.getfield 11, 3) := by decide +kernel
theorem dX7_insert_99 : decode cX7_insert 99 = .ok (.iload 4, 2) := by decide +kernel
theorem dX7_insert_101 : decode cX7_insert 101 = .ok (.aload_n 1, 1) := by decide +kernel
theorem dX7_insert_102 : decode cX7_insert 102 = .ok (.aastore, 1) := by decide +kernel
theorem dX7_insert_103 : decode cX7_insert 103 = .ok (.aload_n 0, 1) := by decide +kernel
theorem dX7_insert_104 : decode cX7_insert 104 = .ok (.getfield 17, 3) := by decide +kernel
theorem dX7_insert_107 : decode cX7_insert 107 = .ok (.iload 4, 2) := by decide +kernel
theorem dX7_insert_109 : decode cX7_insert 109 = .ok (.iload_n 2, 1) := by decide +kernel
theorem dX7_insert_110 : decode cX7_insert 110 = .ok (.iastore, 1) := by decide +kernel
theorem dX7_insert_111 : decode cX7_insert 111 = .ok (.aload_n 0, 1) := by decide +kernel
theorem dX7_insert_112 : decode cX7_insert 112 = .ok (.getfield 21, 3) := by decide +kernel
theorem dX7_insert_115 : decode cX7_insert 115 = .ok (.iload 4, 2) := by decide +kernel
theorem dX7_insert_117 : decode cX7_insert 117 = .ok (.iload_n 3, 1) := by decide +kernel
theorem dX7_insert_118 : decode cX7_insert 118 = .ok (.iastore, 1) := by decide +kernel
theorem dX7_insert_119 : decode cX7_insert 119 = .ok (.aload_n 0, 1) := by decide +kernel
theorem dX7_insert_120 : decode cX7_insert 120 = .ok (.dup, 1) := by decide +kernel
theorem dX7_insert_121 : decode cX7_insert 121 = .ok (.getfield 24, 3) := by decide +kernel
theorem dX7_insert_124 : decode cX7_insert 124 = .ok (.iconst 1, 1) := by decide +kernel
theorem dX7_insert_125 : decode cX7_insert 125 = .ok (.iadd, 1) := by decide +kernel
theorem dX7_insert_126 : decode cX7_insert 126 = .ok (.putfield 24, 3) := by decide +kernel
theorem dX7_insert_129 : decode cX7_insert 129 = .ok (.return_, 1) := by decide +kernel
set_option maxRecDepth 20000 in
theorem ggX7_isBetter_X7_documentAt : GoodIn wsX7_isBetter wsX7_documentAt := goodIn_r _ [6, 7, 8, 9, 10, 5, 11, 12, 23, 24, 25, 26] (by decide +kernel) (by decide +kernel)
set_option maxRecDepth 20000 in
theorem gX7_isBetter_X7_documentAt : GoodIn wsX7_isBetter (wsV RX7 32 RX7 yX7_documentAt wsX7_documentAt) := goodIn_app (goodIn_of _ (by decide +kernel)) ggX7_isBetter_X7_documentAt
set_option maxRecDepth 20000 in
theorem ggX7_isBetter_X7_valueAt : GoodIn wsX7_isBetter wsX7_valueAt := goodIn_r _ [16, 17, 8, 9, 10, 5, 11, 12, 23, 24, 25, 26] (by decide +kernel) (by decide +kernel)
set_option maxRecDepth 20000 in
theorem gX7_isBetter_X7_valueAt : GoodIn wsX7_isBetter (wsV RX7 36 RX7 yX7_valueAt wsX7_valueAt) := goodIn_app (goodIn_of _ (by decide +kernel)) ggX7_isBetter_X7_valueAt
theorem dX7_isBetter_0 : decode cX7_isBetter 0 = .ok (.aload_n 0, 1) := by decide +kernel
theorem dX7_isBetter_1 : decode cX7_isBetter 1 = .ok (.iload_n 3, 1) := by decide +kernel
theorem dX7_isBetter_2 : decode cX7_isBetter 2 = .ok (.invokevirtual 32, 3) := by decide +kernel
theorem dX7_isBetter_5 : decode cX7_isBetter 5 = .ok (.astore 4, 2) := by decide +kernel
theorem dX7_isBetter_7 : decode cX7_isBetter 7 = .ok (.aload 4, 2) := by decide +kernel
theorem dX7_isBetter_9 : decode cX7_isBetter 9 = .ok (.ifnull 12, 3) := by decide +kernel
theorem dX7_isBetter_12 : decode cX7_isBetter 12 = .ok (.iload_n 2, 1) := by decide +kernel
theorem dX7_isBetter_13 : decode cX7_isBetter 13 = .ok (.aload_n 0, 1) := by decide +kernel
theorem dX7_isBetter_14 : decode cX7_isBetter 14 = .ok (.iload_n 3, 1) := by decide +kernel
theorem dX7_isBetter_15 : decode cX7_isBetter 15 = .ok (.invokevirtual 36, 3) := by decide +kernel
theorem dX7_isBetter_18 : decode cX7_isBetter 18 = .ok (.if_icmp .ge 5, 3) := by decide +kernel
theorem dX7_isBetter_21 : decode cX7_isBetter 21 = .ok (.iconst 0, 1) := by decide +kernel
theorem dX7_isBetter_22 : decode cX7_isBetter 22 = .ok (.ireturn, 1) := by decide +kernel
theorem dX7_isBetter_23 : decode cX7_isBetter 23 = .ok (.iload_n 2, 1) := by decide +kernel
theorem dX7_isBetter_24 : decode cX7_isBetter 24 = .ok (.aload_n 0, 1) := by decide +kernel
theorem dX7_isBetter_25 : decode cX7_isBetter 25 = .ok (.iload_n 3, 1) := by decide +kernel
theorem dX7_isBetter_26 : decode cX7_isBetter 26 = .ok (.invokevirtual 36, 3) := by decide +kernel
theorem dX7_isBetter_29 : decode cX7_isBetter 29 = .ok (.if_icmp .gt 15, 3) := by decide +kernel
theorem dX7_isBetter_32 : decode cX7_isBetter 32 = .ok (.aload_n 1, 1) := by decide +kernel
theorem dX7_isBetter_33 : decode cX7_isBetter 33 = .ok (.getfield 40, 3) := by decide +kernel
theorem dX7_isBetter_36 : decode cX7_isBetter 36 = .ok (.aload 4, 2) := by decide +kernel
theorem dX7_isBetter_38 : decode cX7_isBetter 38 = .ok (.getfield 40, 3) := by decide +kernel
theorem dX7_isBetter_41 : decode cX7_isBetter 41 = .ok (.if_icmp .le 7, 3) := by decide +kernel
theorem dX7_isBetter_44 : decode cX7_isBetter 44 = .ok (.iconst 1, 1) := by decide +kernel
theorem dX7_isBetter_45 : decode cX7_isBetter 45 = .ok (.goto 4, 3) := by decide +kernel
theorem dX7_isBetter_48 : decode cX7_isBetter 48 = .ok (.iconst 0, 1) := by decide +kernel
theorem dX7_isBetter_49 : decode cX7_isBetter 49 = .ok (.ireturn, 1) := by decide +kernel
theorem dX7_hasPlace_0 : decode cX7_hasPlace 0 = .ok (.iload_n 1, 1) := by decide +kernel
theorem dX7_hasPlace_1 : decode cX7_hasPlace 1 = .ok (.ifCond .lt 15, 3) := by decide +kernel
theorem dX7_hasPlace_4 : decode cX7_hasPlace 4 = .ok (.iload_n 1, 1) := by decide +kernel
theorem dX7_hasPlace_5 : decode cX7_hasPlace 5 = .ok (.aload_n 0, 1) := by decide +kernel
theorem dX7_hasPlace_6 : decode cX7_hasPlace 6 = .ok (.getfield 24, 3) := by decide +kernel
theorem dX7_hasPlace_9 : decode cX7_hasPlace 9 = .ok (.if_icmp .ge 7, 3) := by decide +kernel
theorem dX7_hasPlace_12 : decode cX7_hasPlace 12 = .ok (.iconst 1, 1) := by decide +kernel
theorem dX7_hasPlace_13 : decode cX7_hasPlace 13 = .ok (.goto 4, 3) := by decide +kernel
theorem dX7_hasPlace_16 : decode cX7_hasPlace 16 = .ok (.iconst 0, 1) := by decide +kernel
theorem dX7_hasPlace_17 : decode cX7_hasPlace 17 = .ok (.ireturn, 1) := by decide +kernel
set_option maxRecDepth 20000 in
theorem ggX7_documentAt_X7_hasPlace : GoodIn wsX7_documentAt wsX7_hasPlace := goodIn_r _ [6, 7, 8, 9, 10, 11] (by decide +kernel) (by decide +kernel)
set_option maxRecDepth 20000 in
theorem gX7_documentAt_X7_hasPlace : GoodIn wsX7_documentAt (wsV RX7 43 RX7 yX7_hasPlace wsX7_hasPlace) := goodIn_app (goodIn_of _ (by decide +kernel)) ggX7_documentAt_X7_hasPlace
theorem dX7_documentAt_0 : decode cX7_documentAt 0 = .ok (.aload_n 0, 1) := by decide +kernel
theorem dX7_documentAt_1 : decode cX7_documentAt 1 = .ok (.iload_n 1, 1) := by decide +kernel
theorem dX7_documentAt_2 : decode cX7_documentAt 2 = .ok (.invokevirtual 43, 3) := by decide +kernel
theorem dX7_documentAt_5 : decode cX7_documentAt 5 = .ok (.ifCond .eq 12, 3) := by decide +kernel
theorem dX7_documentAt_8 : decode cX7_documentAt 8 = .ok (.iload_n 1, 1) := by decide +kernel
theorem dX7_documentAt_9 : decode cX7_documentAt 9 = .ok (.aload_n 0, 1) := by decide +kernel
theorem dX7_documentAt_10 : decode cX7_documentAt 10 = .ok (.getfield 11, 3) := by decide +kernel
theorem dX7_documentAt_13 : decode cX7_documentAt 13 = .ok (.arraylength, 1) := by decide +kernel
theorem dX7_documentAt_14 : decode cX7_documentAt 14 = .ok (.if_icmp .lt 7, 3) := by decide +kernel
theorem dX7_documentAt_17 : decode cX7_documentAt 17 = .ok (.aconst_null, 1) := by decide +kernel
theorem dX7_documentAt_18 : decode cX7_documentAt 18 = .ok (.goto 9, 3) := by decide +kernel
theorem dX7_documentAt_21 : decode cX7_documentAt 21 = .ok (.aload_n 0, 1) := by decide +kernel
theorem dX7_documentAt_22 : decode cX7_documentAt 22 = .ok (.getfield 11, 3) := by decide +kernel
theorem dX7_documentAt_25 : decode cX7_documentAt 25 = .ok (.iload_n 1, 1) := by decide +kernel
theorem dX7_documentAt_26 : decode cX7_documentAt 26 = .ok (.aaload, 1) := by decide +kernel
theorem dX7_documentAt_27 : decode cX7_documentAt 27 = .ok (.areturn, 1) := by decide +kernel
set_option maxRecDepth 20000 in
theorem ggX7_numberAt_X7_hasPlace : GoodIn wsX7_numberAt wsX7_hasPlace := goodIn_r _ [6, 7, 8, 9, 10, 11] (by decide +kernel) (by decide +kernel)
set_option maxRecDepth 20000 in
theorem gX7_numberAt_X7_hasPlace : GoodIn wsX7_numberAt (wsV RX7 43 RX7 yX7_hasPlace wsX7_hasPlace) := goodIn_app (goodIn_of _ (by decide +kernel)) ggX7_numberAt_X7_hasPlace
theorem dX7_numberAt_0 : decode cX7_numberAt 0 = .ok (.aload_n 0, 1) := by decide +kernel
theorem dX7_numberAt_1 : decode cX7_numberAt 1 = .ok (.iload_n 1, 1) := by decide +kernel
theorem dX7_numberAt_2 : decode cX7_numberAt 2 = .ok (.invokevirtual 43, 3) := by decide +kernel
theorem dX7_numberAt_5 : decode cX7_numberAt 5 = .ok (.ifCond .eq 12, 3) := by decide +kernel
theorem dX7_numberAt_8 : decode cX7_numberAt 8 = .ok (.iload_n 1, 1) := by decide +kernel
theorem dX7_numberAt_9 : decode cX7_numberAt 9 = .ok (.aload_n 0, 1) := by decide +kernel
theorem dX7_numberAt_10 : decode cX7_numberAt 10 = .ok (.getfield 17, 3) := by decide +kernel
theorem dX7_numberAt_13 : decode cX7_numberAt 13 = .ok (.arraylength, 1) := by decide +kernel
theorem dX7_numberAt_14 : decode cX7_numberAt 14 = .ok (.if_icmp .lt 7, 3) := by decide +kernel
theorem dX7_numberAt_17 : decode cX7_numberAt 17 = .ok (.iconst (-1), 1) := by decide +kernel
theorem dX7_numberAt_18 : decode cX7_numberAt 18 = .ok (.goto 9, 3) := by decide +kernel
theorem dX7_numberAt_21 : decode cX7_numberAt 21 = .ok (.aload_n 0, 1) := by decide +kernel
theorem dX7_numberAt_22 : decode cX7_numberAt 22 = .ok (.getfield 17, 3) := by decide +kernel
theorem dX7_numberAt_25 : decode cX7_numberAt 25 = .ok (.iload_n 1, 1) := by decide +kernel
theorem dX7_numberAt_26 : decode cX7_numberAt 26 = .ok (.iaload, 1) := by decide +kernel
theorem dX7_numberAt_27 : decode cX7_numberAt 27 = .ok (.ireturn, 1) := by decide +kernel
set_option maxRecDepth 20000 in
theorem ggX7_valueAt_X7_hasPlace : GoodIn wsX7_valueAt wsX7_hasPlace := goodIn_r _ [6, 7, 8, 9, 10, 11] (by decide +kernel) (by decide +kernel)
set_option maxRecDepth 20000 in
theorem gX7_valueAt_X7_hasPlace : GoodIn wsX7_valueAt (wsV RX7 43 RX7 yX7_hasPlace wsX7_hasPlace) := goodIn_app (goodIn_of _ (by decide +kernel)) ggX7_valueAt_X7_hasPlace
theorem dX7_valueAt_0 : decode cX7_valueAt 0 = .ok (.aload_n 0, 1) := by decide +kernel
theorem dX7_valueAt_1 : decode cX7_valueAt 1 = .ok (.iload_n 1, 1) := by decide +kernel
theorem dX7_valueAt_2 : decode cX7_valueAt 2 = .ok (.invokevirtual 43, 3) := by decide +kernel
theorem dX7_valueAt_5 : decode cX7_valueAt 5 = .ok (.ifCond .eq 12, 3) := by decide +kernel
theorem dX7_valueAt_8 : decode cX7_valueAt 8 = .ok (.iload_n 1, 1) := by decide +kernel
theorem dX7_valueAt_9 : decode cX7_valueAt 9 = .ok (.aload_n 0, 1) := by decide +kernel
theorem dX7_valueAt_10 : decode cX7_valueAt 10 = .ok (.getfield 21, 3) := by decide +kernel
theorem dX7_valueAt_13 : decode cX7_valueAt 13 = .ok (.arraylength, 1) := by decide +kernel
theorem dX7_valueAt_14 : decode cX7_valueAt 14 = .ok (.if_icmp .lt 7, 3) := by decide +kernel
theorem dX7_valueAt_17 : decode cX7_valueAt 17 = .ok (.iconst (-1), 1) := by decide +kernel
theorem dX7_valueAt_18 : decode cX7_valueAt 18 = .ok (.goto 9, 3) := by decide +kernel
theorem dX7_valueAt_21 : decode cX7_valueAt 21 = .ok (.aload_n 0, 1) := by decide +kernel
theorem dX7_valueAt_22 : decode cX7_valueAt 22 = .ok (.getfield 21, 3) := by decide +kernel
theorem dX7_valueAt_25 : decode cX7_valueAt 25 = .ok (.iload_n 1, 1) := by decide +kernel
theorem dX7_valueAt_26 : decode cX7_valueAt 26 = .ok (.iaload, 1) := by decide +kernel
theorem dX7_valueAt_27 : decode cX7_valueAt 27 = .ok (.ireturn, 1) := by decide +kernel
set_option maxRecDepth 20000 in
theorem ggX7_countKind_X7_documentAt : GoodIn wsX7_countKind wsX7_documentAt := goodIn_r _ [7, 8, 9, 10, 11, 6, 12, 1, 13, 14, 15, 16] (by decide +kernel) (by decide +kernel)
set_option maxRecDepth 20000 in
theorem gX7_countKind_X7_documentAt : GoodIn wsX7_countKind (wsV RX7 32 RX7 yX7_documentAt wsX7_documentAt) := goodIn_app (goodIn_of _ (by decide +kernel)) ggX7_countKind_X7_documentAt
theorem dX7_countKind_0 : decode cX7_countKind 0 = .ok (.iconst 0, 1) := by decide +kernel
theorem dX7_countKind_1 : decode cX7_countKind 1 = .ok (.istore_n 2, 1) := by decide +kernel
theorem dX7_countKind_2 : decode cX7_countKind 2 = .ok (.iconst 0, 1) := by decide +kernel
theorem dX7_countKind_3 : decode cX7_countKind 3 = .ok (.istore_n 3, 1) := by decide +kernel
theorem dX7_countKind_4 : decode cX7_countKind 4 = .ok (.iload_n 3, 1) := by decide +kernel
theorem dX7_countKind_5 : decode cX7_countKind 5 = .ok (.aload_n 0, 1) := by decide +kernel
theorem dX7_countKind_6 : decode cX7_countKind 6 = .ok (.getfield 24, 3) := by decide +kernel
theorem dX7_countKind_9 : decode cX7_countKind 9 = .ok (.if_icmp .ge 33, 3) := by decide +kernel
theorem dX7_countKind_12 : decode cX7_countKind 12 = .ok (.aload_n 0, 1) := by decide +kernel
theorem dX7_countKind_13 : decode cX7_countKind 13 = .ok (.iload_n 3, 1) := by decide +kernel
theorem dX7_countKind_14 : decode cX7_countKind 14 = .ok (.invokevirtual 32, 3) := by decide +kernel
theorem dX7_countKind_17 : decode cX7_countKind 17 = .ok (.astore 4, 2) := by decide +kernel
theorem dX7_countKind_19 : decode cX7_countKind 19 = .ok (.aload 4, 2) := by decide +kernel
theorem dX7_countKind_21 : decode cX7_countKind 21 = .ok (.ifnull 15, 3) := by decide +kernel
theorem dX7_countKind_24 : decode cX7_countKind 24 = .ok (.aload 4, 2) := by decide +kernel
theorem dX7_countKind_26 : decode cX7_countKind 26 = .ok (.getfield 47, 3) := by decide +kernel
theorem dX7_countKind_29 : decode cX7_countKind 29 = .ok (.iload_n 1, 1) := by decide +kernel
theorem dX7_countKind_30 : decode cX7_countKind 30 = .ok (.if_icmp .ne 6, 3) := by decide +kernel
theorem dX7_countKind_33 : decode cX7_countKind 33 = .ok (.iinc 2 1, 3) := by decide +kernel
theorem dX7_countKind_36 : decode cX7_countKind 36 = .ok (.iinc 3 1, 3) := by decide +kernel
theorem dX7_countKind_39 : decode cX7_countKind 39 = .ok (.goto (-35), 3) := by decide +kernel
theorem dX7_countKind_42 : decode cX7_countKind 42 = .ok (.iload_n 2, 1) := by decide +kernel
theorem dX7_countKind_43 : decode cX7_countKind 43 = .ok (.ireturn, 1) := by decide +kernel
set_option maxRecDepth 20000 in
theorem ggX7_countDates_X7_documentAt : GoodIn wsX7_countDates wsX7_documentAt := goodIn_r _ [7, 8, 9, 10, 11, 6, 12, 1, 13, 14, 15, 16] (by decide +kernel) (by decide +kernel)
set_option maxRecDepth 20000 in
theorem gX7_countDates_X7_documentAt : GoodIn wsX7_countDates (wsV RX7 32 RX7 yX7_documentAt wsX7_documentAt) := goodIn_app (goodIn_of _ (by decide +kernel)) ggX7_countDates_X7_documentAt
theorem dX7_countDates_0 : decode cX7_countDates 0 = .ok (.iconst 0, 1) := by decide +kernel
theorem dX7_countDates_1 : decode cX7_countDates 1 = .ok (.istore_n 3, 1) := by decide +kernel
theorem dX7_countDates_2 : decode cX7_countDates 2 = .ok (.iconst 0, 1) := by decide +kernel
theorem dX7_countDates_3 : decode cX7_countDates 3 = .ok (.istore 4, 2) := by decide +kernel
theorem dX7_countDates_5 : decode cX7_countDates 5 = .ok (.iload 4, 2) := by decide +kernel
theorem dX7_countDates_7 : decode cX7_countDates 7 = .ok (.aload_n 0, 1) := by decide +kernel
theorem dX7_countDates_8 : decode cX7_countDates 8 = .ok (.getfield 24, 3) := by decide +kernel
theorem dX7_countDates_11 : decode cX7_countDates 11 = .ok (.if_icmp .ge 43, 3) := by decide +kernel
theorem dX7_countDates_14 : decode cX7_countDates 14 = .ok (.aload_n 0, 1) := by decide +kernel
theorem dX7_countDates_15 : decode cX7_countDates 15 = .ok (.iload 4, 2) := by decide +kernel
theorem dX7_countDates_17 : decode cX7_countDates 17 = .ok (.invokevirtual 32, 3) := by decide +kernel
theorem dX7_countDates_20 : decode cX7_countDates 20 = .ok (.astore 5, 2) := by decide +kernel
theorem dX7_countDates_22 : decode cX7_countDates 22 = .ok (.aload 5, 2) := by decide +kernel
theorem dX7_countDates_24 : decode cX7_countDates 24 = .ok (.ifnull 24, 3) := by decide +kernel
theorem dX7_countDates_27 : decode cX7_countDates 27 = .ok (.aload 5, 2) := by decide +kernel
theorem dX7_countDates_29 : decode cX7_countDates 29 = .ok (.getfield 40, 3) := by decide +kernel
theorem dX7_countDates_32 : decode cX7_countDates 32 = .ok (.iload_n 1, 1) := by decide +kernel
theorem dX7_countDates_33 : decode cX7_countDates 33 = .ok (.if_icmp .lt 15, 3) := by decide +kernel
theorem dX7_countDates_36 : decode cX7_countDates 36 = .ok (.aload 5, 2) := by decide +kernel
theorem dX7_countDates_38 : decode cX7_countDates 38 = .ok (.getfield 40, 3) := by decide +kernel
theorem dX7_countDates_41 : decode cX7_countDates 41 = .ok (.iload_n 2, 1) := by decide +kernel
theorem dX7_countDates_42 : decode cX7_countDates 42 = .ok (.if_icmp .gt 6, 3) := by decide +kernel
theorem dX7_countDates_45 : decode cX7_countDates 45 = .ok (.iinc 3 1, 3) := by decide +kernel
theorem dX7_countDates_48 : decode cX7_countDates 48 = .ok (.iinc 4 1, 3) := by decide +kernel
theorem dX7_countDates_51 : decode cX7_countDates 51 = .ok (.goto (-46), 3) := by decide +kernel
theorem dX7_countDates_54 : decode cX7_countDates 54 = .ok (.iload_n 3, 1) := by decide +kernel
theorem dX7_countDates_55 : decode cX7_countDates 55 = .ok (.ireturn, 1) := by decide +kernel
theorem dX8_init_0 : decode cX8_init 0 = .ok (.aload_n 0, 1) := by decide +kernel
theorem dX8_init_1 : decode cX8_init 1 = .ok (.invokespecial 3, 3) := by decide +kernel
theorem dX8_init_4 : decode cX8_init 4 = .ok (.aload_n 0, 1) := by decide +kernel
theorem dX8_init_5 : decode cX8_init 5 = .ok (.bipush 30, 2) := by decide +kernel
theorem dX8_init_7 : decode cX8_init 7 = .ok (.newarray .int, 2) := by decide +kernel
theorem dX8_init_9 : decode cX8_init 9 = .ok (.putfield 9, 3) := by decide +kernel
theorem dX8_init_12 : decode cX8_init 12 = .ok (.aload_n 0, 1) := by decide +kernel
theorem dX8_init_13 : decode cX8_init 13 = .ok (.aload_n 1, 1) := by decide +kernel
theorem dX8_init_14 : decode cX8_init 14 = .ok (.putfield 15, 3) := by decide +kernel
theorem dX8_init_17 : decode cX8_init 17 = .ok (.aload_n 0, 1) := by decide +kernel
theorem dX8_init_18 : decode cX8_init 18 = .ok (.aload_n 2, 1) := by decide +kernel
theorem dX8_init_19 : decode cX8_init 19 = .ok (.putfield 19, 3) := by decide +kernel
theorem dX8_init_22 : decode cX8_init 22 = .ok (.aload_n 0, 1) := by decide +kernel
theorem dX8_init_23 : decode cX8_init 23 = .ok (.aload_n 3, 1) := by decide +kernel
theorem dX8_init_24 : decode cX8_init 24 = .ok (.putfield 23, 3) := by decide +kernel
theorem dX8_init_27 : decode cX8_init 27 = .ok (.aload_n 0, 1) := by decide +kernel
theorem dX8_init_28 : decode cX8_init 28 = .ok (.iload 4, 2) := by decide +kernel
theorem dX8_init_30 : decode cX8_init 30 = .ok (.putfield 27, 3) := by decide +kernel
theorem dX8_init_33 : decode cX8_init 33 = .ok (.return_, 1) := by decide +kernel
set_option maxRecDepth 20000 in
theorem ggX8_scoreOf_X6_nodeAt : GoodIn wsX8_scoreOf wsX6_nodeAt := goodIn_r _ [12, 13, 14, 156, 157, 158, 159, 160] (by decide +kernel) (by decide +kernel)
set_option maxRecDepth 20000 in
theorem gX8_scoreOf_X6_nodeAt : GoodIn wsX8_scoreOf (wsV RX8 31 RX6 yX6_nodeAt wsX6_nodeAt) := goodIn_app (goodIn_of _ (by decide +kernel)) ggX8_scoreOf_X6_nodeAt
set_option maxRecDepth 20000 in
theorem ggX8_scoreOf_X8_valueOf : GoodIn wsX8_scoreOf wsX8_valueOf := goodIn_r _ [19, 20, 21, 22, 23, 24, 25, 26, 27, 28, 29, 30, 31, 32, 18, 33, 34, 35, 36, 37, 38, 39, 40, 41, 42, 43, 44, 45, 46, 47, 48, 49, 50, 51, 52, 53, 54, 55, 56, 57, 58, 59, 60, 61, 62, 63, 64, 65, 66, 67, 68, 69, 70, 71, 72, 73, 74, 75, 76, 77, 78, 79, 80, 81, 82, 83, 84, 85, 86, 87, 88, 89, 90, 91, 92, 93, 94, 95, 96, 97, 98, 99, 100, 101, 102, 103, 104, 105, 106, 107, 108, 109, 110, 111, 112, 113, 114, 115, 116, 117, 118, 119, 120, 121, 122, 123, 1, 124, 125, 126, 127, 2, 8, 9, 10, 11, 12, 13, 14, 128, 129, 130, 131, 132, 133, 134, 135, 136, 137, 138, 139, 140, 141, 142, 143, 144, 145, 146, 147, 148, 149, 150, 161, 162, 163, 164, 165, 166, 167, 168, 169, 170, 171, 172, 173, 174, 175, 176, 177, 178, 151, 152, 153, 154, 155, 179, 180, 181, 182, 183, 184, 185, 186, 187, 188, 189, 156, 157, 158, 159, 160] (by decide +kernel) (by decide +kernel)
set_option maxRecDepth 20000 in
theorem gX8_scoreOf_X8_valueOf : GoodIn wsX8_scoreOf (wsV RX8 37 RX8 yX8_valueOf wsX8_valueOf) := goodIn_app (goodIn_of _ (by decide +kernel)) ggX8_scoreOf_X8_valueOf
set_option maxRecDepth 20000 in
theorem ggX8_scoreOf_X8_valueAt : GoodIn wsX8_scoreOf wsX8_valueAt := goodIn_r _ [123, 1, 151, 152, 153, 154, 155] (by decide +kernel) (by decide +kernel)
set_option maxRecDepth 20000 in
theorem gX8_scoreOf_X8_valueAt : GoodIn wsX8_scoreOf (wsV RX8 48 RX8 yX8_valueAt wsX8_valueAt) := goodIn_app (goodIn_of _ (by decide +kernel)) ggX8_scoreOf_X8_valueAt
theorem dX8_scoreOf_0 : decode cX8_scoreOf 0 = .ok (.iconst 0, 1) := by decide +kernel
theorem dX8_scoreOf_1 : decode cX8_scoreOf 1 = .ok (.istore_n 3, 1) := by decide +kernel
theorem dX8_scoreOf_2 : decode cX8_scoreOf 2 = .ok (.iload_n 3, 1) := by decide +kernel
theorem dX8_scoreOf_3 : decode cX8_scoreOf 3 = .ok (.iload_n 2, 1) := by decide +kernel
theorem dX8_scoreOf_4 : decode cX8_scoreOf 4 = .ok (.if_icmp .gt 42, 3) := by decide +kernel
theorem dX8_scoreOf_7 : decode cX8_scoreOf 7 = .ok (.iload_n 3, 1) := by decide +kernel
theorem dX8_scoreOf_8 : decode cX8_scoreOf 8 = .ok (.aload_n 0, 1) := by decide +kernel
theorem dX8_scoreOf_9 : decode cX8_scoreOf 9 = .ok (.getfield 9, 3) := by decide +kernel
theorem dX8_scoreOf_12 : decode cX8_scoreOf 12 = .ok (.arraylength, 1) := by decide +kernel
theorem dX8_scoreOf_13 : decode cX8_scoreOf 13 = .ok (.if_icmp .ge 33, 3) := by decide +kernel
theorem dX8_scoreOf_16 : decode cX8_scoreOf 16 = .ok (.aload_n 0, 1) := by decide +kernel
theorem dX8_scoreOf_17 : decode cX8_scoreOf 17 = .ok (.getfield 9, 3) := by decide +kernel
theorem dX8_scoreOf_20 : decode cX8_scoreOf 20 = .ok (.iload_n 3, 1) := by decide +kernel
theorem dX8_scoreOf_21 : decode cX8_scoreOf 21 = .ok (.aload_n 0, 1) := by decide +kernel
theorem dX8_scoreOf_22 : decode cX8_scoreOf 22 = .ok (.aload_n 0, 1) := by decide +kernel
theorem dX8_scoreOf_23 : decode cX8_scoreOf 23 = .ok (.getfield 15, 3) := by decide +kernel
theorem dX8_scoreOf_26 : decode cX8_scoreOf 26 = .ok (.iload_n 3, 1) := by decide +kernel
theorem dX8_scoreOf_27 : decode cX8_scoreOf 27 = .ok (.invokevirtual 31, 3) := by decide +kernel
theorem dX8_scoreOf_30 : decode cX8_scoreOf 30 = .ok (.aload_n 1, 1) := by decide +kernel
theorem dX8_scoreOf_31 : decode cX8_scoreOf 31 = .ok (.invokevirtual 37, 3) := by decide +kernel
theorem dX8_scoreOf_34 : decode cX8_scoreOf 34 = .ok (.ldc 41, 2) := by decide +kernel
theorem dX8_scoreOf_36 : decode cX8_scoreOf 36 = .ok (.invokestatic 42, 3) := by decide +kernel
theorem dX8_scoreOf_39 : decode cX8_scoreOf 39 = .ok (.iastore, 1) := by decide +kernel
theorem dX8_scoreOf_40 : decode cX8_scoreOf 40 = .ok (.iinc 3 1, 3) := by decide +kernel
theorem dX8_scoreOf_43 : decode cX8_scoreOf 43 = .ok (.goto (-41), 3) := by decide +kernel
theorem dX8_scoreOf_46 : decode cX8_scoreOf 46 = .ok (.aload_n 0, 1) := by decide +kernel
theorem dX8_scoreOf_47 : decode cX8_scoreOf 47 = .ok (.iload_n 2, 1) := by decide +kernel
theorem dX8_scoreOf_48 : decode cX8_scoreOf 48 = .ok (.invokevirtual 48, 3) := by decide +kernel
theorem dX8_scoreOf_51 : decode cX8_scoreOf 51 = .ok (.ireturn, 1) := by decide +kernel
theorem dX8_valueAt_0 : decode cX8_valueAt 0 = .ok (.iload_n 1, 1) := by decide +kernel
theorem dX8_valueAt_1 : decode cX8_valueAt 1 = .ok (.ifCond .lt 12, 3) := by decide +kernel
theorem dX8_valueAt_4 : decode cX8_valueAt 4 = .ok (.iload_n 1, 1) := by decide +kernel
theorem dX8_valueAt_5 : decode cX8_valueAt 5 = .ok (.aload_n 0, 1) := by decide +kernel
theorem dX8_valueAt_6 : decode cX8_valueAt 6 = .ok (.getfield 9, 3) := by decide +kernel
theorem dX8_valueAt_9 : decode cX8_valueAt 9 = .ok (.arraylength, 1) := by decide +kernel
theorem dX8_valueAt_10 : decode cX8_valueAt 10 = .ok (.if_icmp .lt 7, 3) := by decide +kernel
theorem dX8_valueAt_13 : decode cX8_valueAt 13 = .ok (.iconst (-1), 1) := by decide +kernel
theorem dX8_valueAt_14 : decode cX8_valueAt 14 = .ok (.goto 9, 3) := by decide +kernel
theorem dX8_valueAt_17 : decode cX8_valueAt 17 = .ok (.aload_n 0, 1) := by decide +kernel
theorem dX8_valueAt_18 : decode cX8_valueAt 18 = .ok (.getfield 9, 3) := by decide +kernel
theorem dX8_valueAt_21 : decode cX8_valueAt 21 = .ok (.iload_n 1, 1) := by decide +kernel
theorem dX8_valueAt_22 : decode cX8_valueAt 22 = .ok (.iaload, 1) := by decide +kernel
theorem dX8_valueAt_23 : decode cX8_valueAt 23 = .ok (.ireturn, 1) := by decide +kernel
set_option maxRecDepth 20000 in
theorem ggX8_valueOf_X8_termValue : GoodIn wsX8_valueOf wsX8_termValue := goodIn_r _ [15, 16, 17, 18, 19, 20, 21, 22, 23, 24, 25, 26, 27, 28, 29, 30, 31, 32, 33, 34, 35, 36, 37, 38, 39, 40, 41, 42, 43, 44, 45, 46, 47, 48, 49, 50, 51, 52, 53, 54, 55, 56, 57, 58, 59, 60, 61, 14, 62, 63, 64, 65, 66, 67, 68, 69, 70, 71, 72, 73, 74, 75, 76, 77, 78, 79, 80, 81, 82, 83, 84, 85, 160, 161, 162, 163, 164, 142, 143, 144, 145, 146, 147, 148, 149, 150, 151, 152, 153, 154, 165, 166, 167, 168, 169, 170, 171, 172, 155, 156, 157, 158, 159, 173, 174, 175] (by decide +kernel) (by decide +kernel)
set_option maxRecDepth 20000 in
theorem gX8_valueOf_X8_termValue : GoodIn wsX8_valueOf (wsV RX8 58 RX8 yX8_termValue wsX8_termValue) := goodIn_app (goodIn_of _ (by decide +kernel)) ggX8_valueOf_X8_termValue
set_option maxRecDepth 20000 in
theorem ggX8_valueOf_X8_sumOfAtLeast : GoodIn wsX8_valueOf wsX8_sumOfAtLeast := goodIn_r _ [89, 90, 91, 92, 44, 93, 94, 95, 96, 97, 98, 99, 100, 101, 102, 103, 104, 14, 105, 106, 142, 143, 144, 145, 146, 147, 148, 149, 150, 151, 152, 153, 154, 160, 161, 162, 163, 164] (by decide +kernel) (by decide +kernel)
set_option maxRecDepth 20000 in
theorem gX8_valueOf_X8_sumOfAtLeast : GoodIn wsX8_valueOf (wsV RX8 61 RX8 yX8_sumOfAtLeast wsX8_sumOfAtLeast) := goodIn_app (goodIn_of _ (by decide +kernel)) ggX8_valueOf_X8_sumOfAtLeast
set_option maxRecDepth 20000 in
theorem ggX8_valueOf_X8_valueAt : GoodIn wsX8_valueOf wsX8_valueAt := goodIn_r _ [105, 106, 160, 161, 162, 163, 164] (by decide +kernel) (by decide +kernel)
set_option maxRecDepth 20000 in
theorem gX8_valueOf_X8_valueAt : GoodIn wsX8_valueOf (wsV RX8 48 RX8 yX8_valueAt wsX8_valueAt) := goodIn_app (goodIn_of _ (by decide +kernel)) ggX8_valueOf_X8_valueAt
set_option maxRecDepth 20000 in
theorem ggX8_valueOf_X8_nearValue : GoodIn wsX8_valueOf wsX8_nearValue := goodIn_r _ [110, 111, 4, 3, 17, 112, 113, 114, 115, 116, 117, 118, 86, 87, 88, 14, 89, 90, 91, 92, 44, 93, 94, 95, 96, 97, 98, 99, 100, 101, 102, 103, 104, 105, 106, 35, 36, 37, 38, 39, 40, 41, 42, 43, 45, 46, 119, 120, 121, 122, 19, 16, 18, 123, 124, 125, 50, 126, 127, 128, 129, 130, 131, 23, 132, 34, 29, 133, 134, 135, 136, 137, 138, 160, 161, 162, 163, 164, 142, 143, 144, 145, 146, 147, 148, 149, 150, 151, 152, 153, 154, 176, 177, 178, 179, 180, 155, 156, 157, 158, 159, 165, 166, 167, 168, 169, 170, 171, 172] (by decide +kernel) (by decide +kernel)
set_option maxRecDepth 20000 in
theorem gX8_valueOf_X8_nearValue : GoodIn wsX8_valueOf (wsV RX8 74 RX8 yX8_nearValue wsX8_nearValue) := goodIn_app (goodIn_of _ (by decide +kernel)) ggX8_valueOf_X8_nearValue
set_option maxRecDepth 20000 in
theorem ggX8_valueOf_X8_scaledValue : GoodIn wsX8_valueOf wsX8_scaledValue := goodIn_r _ [141] (by decide +kernel) (by decide +kernel)
set_option maxRecDepth 20000 in
theorem gX8_valueOf_X8_scaledValue : GoodIn wsX8_valueOf (va_wsS RX8 97 yX8_scaledValue wsX8_scaledValue) := goodIn_app (goodIn_of _ (by decide +kernel)) ggX8_valueOf_X8_scaledValue
theorem dX8_valueOf_0 : decode cX8_valueOf 0 = .ok (.aload_n 1, 1) := by decide +kernel
theorem dX8_valueOf_1 : decode cX8_valueOf 1 = .ok (.ifnonnull 5, 3) := by decide +kernel
theorem dX8_valueOf_4 : decode cX8_valueOf 4 = .ok (.iconst (-1), 1) := by decide +kernel
theorem dX8_valueOf_5 : decode cX8_valueOf 5 = .ok (.ireturn, 1) := by decide +kernel
theorem dX8_valueOf_6 : decode cX8_valueOf 6 = .ok (.aload_n 1, 1) := by decide +kernel
theorem dX8_valueOf_7 : decode cX8_valueOf 7 = .ok (.getfield 52, 3) := by decide +kernel
theorem dX8_valueOf_10 : decode cX8_valueOf 10 = .ok (.tableswitch 178 0 8 #[50, 57, 64, 81, 106, 113, 141, 162, 71], 50) := by decide +kernel
theorem dX8_valueOf_60 : decode cX8_valueOf 60 = .ok (.aload_n 0, 1) := by decide +kernel
theorem dX8_valueOf_61 : decode cX8_valueOf 61 = .ok (.aload_n 1, 1) := by decide +kernel
theorem dX8_valueOf_62 : decode cX8_valueOf 62 = .ok (.aload_n 2, 1) := by decide +kernel
theorem dX8_valueOf_63 : decode cX8_valueOf 63 = .ok (.invokevirtual 58, 3) := by decide +kernel
theorem dX8_valueOf_66 : decode cX8_valueOf 66 = .ok (.ireturn, 1) := by decide +kernel
theorem dX8_valueOf_67 : decode cX8_valueOf 67 = .ok (.aload_n 0, 1) := by decide +kernel
theorem dX8_valueOf_68 : decode cX8_valueOf 68 = .ok (.aload_n 1, 1) := by decide +kernel
theorem dX8_valueOf_69 : decode cX8_valueOf 69 = .ok (.iconst 2, 1) := by decide +kernel
theorem dX8_valueOf_70 : decode cX8_valueOf 70 = .ok (.invokevirtual 61, 3) := by decide +kernel
theorem dX8_valueOf_73 : decode cX8_valueOf 73 = .ok (.ireturn, 1) := by decide +kernel
theorem dX8_valueOf_74 : decode cX8_valueOf 74 = .ok (.aload_n 0, 1) := by decide +kernel
theorem dX8_valueOf_75 : decode cX8_valueOf 75 = .ok (.aload_n 1, 1) := by decide +kernel
theorem dX8_valueOf_76 : decode cX8_valueOf 76 = .ok (.iconst 1, 1) := by decide +kernel
theorem dX8_valueOf_77 : decode cX8_valueOf 77 = .ok (.invokevirtual 61, 3) := by decide +kernel
theorem dX8_valueOf_80 : decode cX8_valueOf 80 = .ok (.ireturn, 1) := by decide +kernel
theorem dX8_valueOf_81 : decode cX8_valueOf 81 = .ok (.aload_n 0, 1) := by decide +kernel
theorem dX8_valueOf_82 : decode cX8_valueOf 82 = .ok (.aload_n 1, 1) := by decide +kernel
theorem dX8_valueOf_83 : decode cX8_valueOf 83 = .ok (.aload_n 1, 1) := by decide +kernel
theorem dX8_valueOf_84 : decode cX8_valueOf 84 = .ok (.getfield 65, 3) := by decide +kernel
theorem dX8_valueOf_87 : decode cX8_valueOf 87 = .ok (.invokevirtual 61, 3) := by decide +kernel
theorem dX8_valueOf_90 : decode cX8_valueOf 90 = .ok (.ireturn, 1) := by decide +kernel
theorem dX8_valueOf_91 : decode cX8_valueOf 91 = .ok (.aload_n 0, 1) := by decide +kernel
theorem dX8_valueOf_92 : decode cX8_valueOf 92 = .ok (.aload_n 1, 1) := by decide +kernel
theorem dX8_valueOf_93 : decode cX8_valueOf 93 = .ok (.getfield 68, 3) := by decide +kernel
theorem dX8_valueOf_96 : decode cX8_valueOf 96 = .ok (.invokevirtual 48, 3) := by decide +kernel
theorem dX8_valueOf_99 : decode cX8_valueOf 99 = .ok (.iconst (-1), 1) := by decide +kernel
theorem dX8_valueOf_100 : decode cX8_valueOf 100 = .ok (.if_icmp .ne 14, 3) := by decide +kernel
theorem dX8_valueOf_103 : decode cX8_valueOf 103 = .ok (.aload_n 0, 1) := by decide +kernel
theorem dX8_valueOf_104 : decode cX8_valueOf 104 = .ok (.aload_n 1, 1) := by decide +kernel
theorem dX8_valueOf_105 : decode cX8_valueOf 105 = .ok (.getfield 71, 3) := by decide +kernel
theorem dX8_valueOf_108 : decode cX8_valueOf 108 = .ok (.invokevirtual 48, 3) := by decide +kernel
theorem dX8_valueOf_111 : decode cX8_valueOf 111 = .ok (.goto 4, 3) := by decide +kernel
theorem dX8_valueOf_114 : decode cX8_valueOf 114 = .ok (.iconst (-1), 1) := by decide +kernel
theorem dX8_valueOf_115 : decode cX8_valueOf 115 = .ok (.ireturn, 1) := by decide +kernel
theorem dX8_valueOf_116 : decode cX8_valueOf 116 = .ok (.aload_n 0, 1) := by decide +kernel
theorem dX8_valueOf_117 : decode cX8_valueOf 117 = .ok (.aload_n 1, 1) := by decide +kernel
theorem dX8_valueOf_118 : decode cX8_valueOf 118 = .ok (.aload_n 2, 1) := by decide +kernel
theorem dX8_valueOf_119 : decode cX8_valueOf 119 = .ok (.invokevirtual 74, 3) := by decide +kernel
theorem dX8_valueOf_122 : decode cX8_valueOf 122 = .ok (.ireturn, 1) := by decide +kernel
theorem dX8_valueOf_123 : decode cX8_valueOf 123 = .ok (.aload_n 2, 1) := by decide +kernel
theorem dX8_valueOf_124 : decode cX8_valueOf 124 = .ok (.getfield 77, 3) := by decide +kernel
theorem dX8_valueOf_127 : decode cX8_valueOf 127 = .ok (.aload_n 1, 1) := by decide +kernel
theorem dX8_valueOf_128 : decode cX8_valueOf 128 = .ok (.getfield 82, 3) := by decide +kernel
theorem dX8_valueOf_131 : decode cX8_valueOf 131 = .ok (.if_icmp .lt 18, 3) := by decide +kernel
theorem dX8_valueOf_134 : decode cX8_valueOf 134 = .ok (.aload_n 2, 1) := by decide +kernel
theorem dX8_valueOf_135 : decode cX8_valueOf 135 = .ok (.getfield 77, 3) := by decide +kernel
theorem dX8_valueOf_138 : decode cX8_valueOf 138 = .ok (.aload_n 1, 1) := by decide +kernel
theorem dX8_valueOf_139 : decode cX8_valueOf 139 = .ok (.getfield 85, 3) := by decide +kernel
theorem dX8_valueOf_142 : decode cX8_valueOf 142 = .ok (.if_icmp .gt 7, 3) := by decide +kernel
theorem dX8_valueOf_145 : decode cX8_valueOf 145 = .ok (.iconst 0, 1) := by decide +kernel
theorem dX8_valueOf_146 : decode cX8_valueOf 146 = .ok (.goto 4, 3) := by decide +kernel
theorem dX8_valueOf_149 : decode cX8_valueOf 149 = .ok (.iconst (-1), 1) := by decide +kernel
theorem dX8_valueOf_150 : decode cX8_valueOf 150 = .ok (.ireturn, 1) := by decide +kernel
theorem dX8_valueOf_151 : decode cX8_valueOf 151 = .ok (.aload_n 1, 1) := by decide +kernel
theorem dX8_valueOf_152 : decode cX8_valueOf 152 = .ok (.getfield 88, 3) := by decide +kernel
theorem dX8_valueOf_155 : decode cX8_valueOf 155 = .ok (.aload_n 2, 1) := by decide +kernel
theorem dX8_valueOf_156 : decode cX8_valueOf 156 = .ok (.getfield 91, 3) := by decide +kernel
theorem dX8_valueOf_159 : decode cX8_valueOf 159 = .ok (.ishr, 1) := by decide +kernel
theorem dX8_valueOf_160 : decode cX8_valueOf 160 = .ok (.iconst 1, 1) := by decide +kernel
theorem dX8_valueOf_161 : decode cX8_valueOf 161 = .ok (.iand, 1) := by decide +kernel
theorem dX8_valueOf_162 : decode cX8_valueOf 162 = .ok (.iconst 1, 1) := by decide +kernel
theorem dX8_valueOf_163 : decode cX8_valueOf 163 = .ok (.if_icmp .ne 7, 3) := by decide +kernel
theorem dX8_valueOf_166 : decode cX8_valueOf 166 = .ok (.iconst 0, 1) := by decide +kernel
theorem dX8_valueOf_167 : decode cX8_valueOf 167 = .ok (.goto 4, 3) := by decide +kernel
theorem dX8_valueOf_170 : decode cX8_valueOf 170 = .ok (.iconst (-1), 1) := by decide +kernel
theorem dX8_valueOf_171 : decode cX8_valueOf 171 = .ok (.ireturn, 1) := by decide +kernel
theorem dX8_valueOf_172 : decode cX8_valueOf 172 = .ok (.aload_n 0, 1) := by decide +kernel
theorem dX8_valueOf_173 : decode cX8_valueOf 173 = .ok (.aload_n 1, 1) := by decide +kernel
theorem dX8_valueOf_174 : decode cX8_valueOf 174 = .ok (.getfield 71, 3) := by decide +kernel
theorem dX8_valueOf_177 : decode cX8_valueOf 177 = .ok (.invokevirtual 48, 3) := by decide +kernel
theorem dX8_valueOf_180 : decode cX8_valueOf 180 = .ok (.aload_n 1, 1) := by decide +kernel
theorem dX8_valueOf_181 : decode cX8_valueOf 181 = .ok (.getfield 94, 3) := by decide +kernel
theorem dX8_valueOf_184 : decode cX8_valueOf 184 = .ok (.invokestatic 97, 3) := by decide +kernel
theorem dX8_valueOf_187 : decode cX8_valueOf 187 = .ok (.ireturn, 1) := by decide +kernel
theorem dX8_valueOf_188 : decode cX8_valueOf 188 = .ok (.iconst (-1), 1) := by decide +kernel
theorem dX8_valueOf_189 : decode cX8_valueOf 189 = .ok (.ireturn, 1) := by decide +kernel
set_option maxRecDepth 20000 in
theorem ggX8_termValue_X4_unmuted : GoodIn wsX8_termValue wsX4_unmuted := goodIn_r _ [9, 10, 11, 12, 8, 13, 14, 95, 96, 97] (by decide +kernel) (by decide +kernel)
set_option maxRecDepth 20000 in
theorem gX8_termValue_X4_unmuted : GoodIn wsX8_termValue (wsV RX8 103 RX4 yX4_unmuted wsX4_unmuted) := goodIn_app (goodIn_of _ (by decide +kernel)) ggX8_termValue_X4_unmuted
set_option maxRecDepth 20000 in
theorem ggX8_termValue_X4_aliasOf : GoodIn wsX8_termValue wsX4_aliasOf := goodIn_r _ [18, 19, 95, 96, 97] (by decide +kernel) (by decide +kernel)
set_option maxRecDepth 20000 in
theorem gX8_termValue_X4_aliasOf : GoodIn wsX8_termValue (wsV RX8 108 RX4 yX4_aliasOf wsX4_aliasOf) := goodIn_app (goodIn_of _ (by decide +kernel)) ggX8_termValue_X4_aliasOf
set_option maxRecDepth 20000 in
theorem ggX8_termValue_X2_rowOf : GoodIn wsX8_termValue wsX2_rowOf := goodIn_r _ [24, 25, 98, 99, 100, 101, 102] (by decide +kernel) (by decide +kernel)
set_option maxRecDepth 20000 in
theorem gX8_termValue_X2_rowOf : GoodIn wsX8_termValue (wsV RX8 111 RX2 yX2_rowOf wsX2_rowOf) := goodIn_app (goodIn_of _ (by decide +kernel)) ggX8_termValue_X2_rowOf
set_option maxRecDepth 20000 in
theorem ggX8_termValue_X5_isFor : GoodIn wsX8_termValue wsX5_isFor := goodIn_r _ [30, 31, 77, 78, 79, 80, 81, 82, 83, 84, 85, 86, 87, 88, 89] (by decide +kernel) (by decide +kernel)
set_option maxRecDepth 20000 in
theorem gX8_termValue_X5_isFor : GoodIn wsX8_termValue (wsV RX8 115 RX5 yX5_isFor wsX5_isFor) := goodIn_app (goodIn_of _ (by decide +kernel)) ggX8_termValue_X5_isFor
set_option maxRecDepth 20000 in
theorem ggX8_termValue_X9_countOf : GoodIn wsX8_termValue wsX9_countOf := goodIn_r _ [36, 37, 38, 39, 40, 35, 41, 42, 43, 90, 91, 92, 93, 94] (by decide +kernel) (by decide +kernel)
set_option maxRecDepth 20000 in
theorem gX8_termValue_X9_countOf : GoodIn wsX8_termValue (wsV RX8 119 RX9 yX9_countOf wsX9_countOf) := goodIn_app (goodIn_of _ (by decide +kernel)) ggX8_termValue_X9_countOf
set_option maxRecDepth 20000 in
theorem ggX8_termValue_X8_taste : GoodIn wsX8_termValue wsX8_taste := goodIn_r _ [48, 49, 50, 1, 51, 52, 53, 54, 55, 56, 57, 58, 59, 60, 61, 62, 63, 64, 65, 66, 67, 68, 69, 8, 70, 71, 72, 73, 74, 75, 76, 103, 104, 105, 95, 96, 97] (by decide +kernel) (by decide +kernel)
set_option maxRecDepth 20000 in
theorem gX8_termValue_X8_taste : GoodIn wsX8_termValue (wsV RX8 127 RX8 yX8_taste wsX8_taste) := goodIn_app (goodIn_of _ (by decide +kernel)) ggX8_termValue_X8_taste
theorem dX8_termValue_0 : decode cX8_termValue 0 = .ok (.aload_n 0, 1) := by decide +kernel
theorem dX8_termValue_1 : decode cX8_termValue 1 = .ok (.getfield 19, 3) := by decide +kernel
theorem dX8_termValue_4 : decode cX8_termValue 4 = .ok (.aload_n 1, 1) := by decide +kernel
theorem dX8_termValue_5 : decode cX8_termValue 5 = .ok (.getfield 100, 3) := by decide +kernel
theorem dX8_termValue_8 : decode cX8_termValue 8 = .ok (.invokevirtual 103, 3) := by decide +kernel
theorem dX8_termValue_11 : decode cX8_termValue 11 = .ok (.istore_n 3, 1) := by decide +kernel
theorem dX8_termValue_12 : decode cX8_termValue 12 = .ok (.aload_n 0, 1) := by decide +kernel
theorem dX8_termValue_13 : decode cX8_termValue 13 = .ok (.getfield 27, 3) := by decide +kernel
theorem dX8_termValue_16 : decode cX8_termValue 16 = .ok (.ifCond .eq 24, 3) := by decide +kernel
theorem dX8_termValue_19 : decode cX8_termValue 19 = .ok (.aload_n 0, 1) := by decide +kernel
theorem dX8_termValue_20 : decode cX8_termValue 20 = .ok (.getfield 19, 3) := by decide +kernel
theorem dX8_termValue_23 : decode cX8_termValue 23 = .ok (.aload_n 0, 1) := by decide +kernel
theorem dX8_termValue_24 : decode cX8_termValue 24 = .ok (.getfield 19, 3) := by decide +kernel
theorem dX8_termValue_27 : decode cX8_termValue 27 = .ok (.aload_n 1, 1) := by decide +kernel
theorem dX8_termValue_28 : decode cX8_termValue 28 = .ok (.getfield 100, 3) := by decide +kernel
theorem dX8_termValue_31 : decode cX8_termValue 31 = .ok (.invokevirtual 108, 3) := by decide +kernel
theorem dX8_termValue_34 : decode cX8_termValue 34 = .ok (.invokevirtual 103, 3) := by decide +kernel
theorem dX8_termValue_37 : decode cX8_termValue 37 = .ok (.goto 4, 3) := by decide +kernel
theorem dX8_termValue_40 : decode cX8_termValue 40 = .ok (.iconst (-1), 1) := by decide +kernel
theorem dX8_termValue_41 : decode cX8_termValue 41 = .ok (.istore 4, 2) := by decide +kernel
theorem dX8_termValue_43 : decode cX8_termValue 43 = .ok (.iconst 0, 1) := by decide +kernel
theorem dX8_termValue_44 : decode cX8_termValue 44 = .ok (.istore 5, 2) := by decide +kernel
theorem dX8_termValue_46 : decode cX8_termValue 46 = .ok (.iconst 0, 1) := by decide +kernel
theorem dX8_termValue_47 : decode cX8_termValue 47 = .ok (.istore 6, 2) := by decide +kernel
theorem dX8_termValue_49 : decode cX8_termValue 49 = .ok (.iconst 0, 1) := by decide +kernel
theorem dX8_termValue_50 : decode cX8_termValue 50 = .ok (.istore 7, 2) := by decide +kernel
theorem dX8_termValue_52 : decode cX8_termValue 52 = .ok (.iload 7, 2) := by decide +kernel
theorem dX8_termValue_54 : decode cX8_termValue 54 = .ok (.iconst 3, 1) := by decide +kernel
theorem dX8_termValue_55 : decode cX8_termValue 55 = .ok (.if_icmp .ge 108, 3) := by decide +kernel
theorem dX8_termValue_58 : decode cX8_termValue 58 = .ok (.aload_n 2, 1) := by decide +kernel
theorem dX8_termValue_59 : decode cX8_termValue 59 = .ok (.iload 7, 2) := by decide +kernel
theorem dX8_termValue_61 : decode cX8_termValue 61 = .ok (.invokevirtual 111, 3) := by decide +kernel
theorem dX8_termValue_64 : decode cX8_termValue 64 = .ok (.astore 8, 2) := by decide +kernel
theorem dX8_termValue_66 : decode cX8_termValue 66 = .ok (.aload 8, 2) := by decide +kernel
theorem dX8_termValue_68 : decode cX8_termValue 68 = .ok (.ifnull 89, 3) := by decide +kernel
theorem dX8_termValue_71 : decode cX8_termValue 71 = .ok (.aload_n 1, 1) := by decide +kernel
theorem dX8_termValue_72 : decode cX8_termValue 72 = .ok (.iload 7, 2) := by decide +kernel
theorem dX8_termValue_74 : decode cX8_termValue 74 = .ok (.invokevirtual 115, 3) := by decide +kernel
theorem dX8_termValue_77 : decode cX8_termValue 77 = .ok (.ifCond .ne 6, 3) := by decide +kernel
theorem dX8_termValue_80 : decode cX8_termValue 80 = .ok (.goto 77, 3) := by decide +kernel
theorem dX8_termValue_83 : decode cX8_termValue 83 = .ok (.aload 8, 2) := by decide +kernel
theorem dX8_termValue_85 : decode cX8_termValue 85 = .ok (.iload_n 3, 1) := by decide +kernel
theorem dX8_termValue_86 : decode cX8_termValue 86 = .ok (.invokevirtual 119, 3) := by decide +kernel
theorem dX8_termValue_89 : decode cX8_termValue 89 = .ok (.istore 9, 2) := by decide +kernel
theorem dX8_termValue_91 : decode cX8_termValue 91 = .ok (.aload 8, 2) := by decide +kernel
theorem dX8_termValue_93 : decode cX8_termValue 93 = .ok (.iload 4, 2) := by decide +kernel
theorem dX8_termValue_95 : decode cX8_termValue 95 = .ok (.invokevirtual 119, 3) := by decide +kernel
theorem dX8_termValue_98 : decode cX8_termValue 98 = .ok (.istore 10, 2) := by decide +kernel
theorem dX8_termValue_100 : decode cX8_termValue 100 = .ok (.iload 5, 2) := by decide +kernel
theorem dX8_termValue_102 : decode cX8_termValue 102 = .ok (.ifCond .ne 13, 3) := by decide +kernel
theorem dX8_termValue_105 : decode cX8_termValue 105 = .ok (.iload 9, 2) := by decide +kernel
theorem dX8_termValue_107 : decode cX8_termValue 107 = .ok (.ifCond .gt 8, 3) := by decide +kernel
theorem dX8_termValue_110 : decode cX8_termValue 110 = .ok (.iload 10, 2) := by decide +kernel
theorem dX8_termValue_112 : decode cX8_termValue 112 = .ok (.ifCond .le 7, 3) := by decide +kernel
theorem dX8_termValue_115 : decode cX8_termValue 115 = .ok (.iconst 1, 1) := by decide +kernel
theorem dX8_termValue_116 : decode cX8_termValue 116 = .ok (.goto 4, 3) := by decide +kernel
theorem dX8_termValue_119 : decode cX8_termValue 119 = .ok (.iconst 0, 1) := by decide +kernel
theorem dX8_termValue_120 : decode cX8_termValue 120 = .ok (.istore 5, 2) := by decide +kernel
theorem dX8_termValue_122 : decode cX8_termValue 122 = .ok (.iload 6, 2) := by decide +kernel
theorem dX8_termValue_124 : decode cX8_termValue 124 = .ok (.aload_n 0, 1) := by decide +kernel
theorem dX8_termValue_125 : decode cX8_termValue 125 = .ok (.iload_n 3, 1) := by decide +kernel
theorem dX8_termValue_126 : decode cX8_termValue 126 = .ok (.iload 9, 2) := by decide +kernel
theorem dX8_termValue_128 : decode cX8_termValue 128 = .ok (.aload 8, 2) := by decide +kernel
theorem dX8_termValue_130 : decode cX8_termValue 130 = .ok (.getfield 124, 3) := by decide +kernel
theorem dX8_termValue_133 : decode cX8_termValue 133 = .ok (.iload 7, 2) := by decide +kernel
theorem dX8_termValue_135 : decode cX8_termValue 135 = .ok (.invokevirtual 127, 3) := by decide +kernel
theorem dX8_termValue_138 : decode cX8_termValue 138 = .ok (.aload_n 0, 1) := by decide +kernel
theorem dX8_termValue_139 : decode cX8_termValue 139 = .ok (.iload 4, 2) := by decide +kernel
theorem dX8_termValue_141 : decode cX8_termValue 141 = .ok (.iload 10, 2) := by decide +kernel
theorem dX8_termValue_143 : decode cX8_termValue 143 = .ok (.aload 8, 2) := by decide +kernel
theorem dX8_termValue_145 : decode cX8_termValue 145 = .ok (.getfield 124, 3) := by decide +kernel
theorem dX8_termValue_148 : decode cX8_termValue 148 = .ok (.iload 7, 2) := by decide +kernel
theorem dX8_termValue_150 : decode cX8_termValue 150 = .ok (.invokevirtual 127, 3) := by decide +kernel
theorem dX8_termValue_153 : decode cX8_termValue 153 = .ok (.iadd, 1) := by decide +kernel
theorem dX8_termValue_154 : decode cX8_termValue 154 = .ok (.iadd, 1) := by decide +kernel
theorem dX8_termValue_155 : decode cX8_termValue 155 = .ok (.istore 6, 2) := by decide +kernel
theorem dX8_termValue_157 : decode cX8_termValue 157 = .ok (.iinc 7 1, 3) := by decide +kernel
theorem dX8_termValue_160 : decode cX8_termValue 160 = .ok (.goto (-108), 3) := by decide +kernel
theorem dX8_termValue_163 : decode cX8_termValue 163 = .ok (.iload 5, 2) := by decide +kernel
theorem dX8_termValue_165 : decode cX8_termValue 165 = .ok (.ifCond .eq 8, 3) := by decide +kernel
theorem dX8_termValue_168 : decode cX8_termValue 168 = .ok (.iload 6, 2) := by decide +kernel
theorem dX8_termValue_170 : decode cX8_termValue 170 = .ok (.goto 4, 3) := by decide +kernel
theorem dX8_termValue_173 : decode cX8_termValue 173 = .ok (.iconst (-1), 1) := by decide +kernel
theorem dX8_termValue_174 : decode cX8_termValue 174 = .ok (.ireturn, 1) := by decide +kernel
set_option maxRecDepth 20000 in
theorem ggX8_taste_X1_lengthOf : GoodIn wsX8_taste wsX1_lengthOf := goodIn_r _ [8, 9, 31, 32, 33] (by decide +kernel) (by decide +kernel)
set_option maxRecDepth 20000 in
theorem gX8_taste_X1_lengthOf : GoodIn wsX8_taste (wsV RX8 131 RX1 yX1_lengthOf wsX1_lengthOf) := goodIn_app (goodIn_of _ (by decide +kernel)) ggX8_taste_X1_lengthOf
set_option maxRecDepth 20000 in
theorem ggX8_taste_X1_spreadOf : GoodIn wsX8_taste wsX1_spreadOf := goodIn_r _ [13, 14, 31, 32, 33] (by decide +kernel) (by decide +kernel)
set_option maxRecDepth 20000 in
theorem gX8_taste_X1_spreadOf : GoodIn wsX8_taste (wsV RX8 139 RX1 yX1_spreadOf wsX1_spreadOf) := goodIn_app (goodIn_of _ (by decide +kernel)) ggX8_taste_X1_spreadOf
set_option maxRecDepth 20000 in
theorem ggX8_taste_X1_rarityOf : GoodIn wsX8_taste wsX1_rarityOf := goodIn_r _ [18, 19, 31, 32, 33] (by decide +kernel) (by decide +kernel)
set_option maxRecDepth 20000 in
theorem gX8_taste_X1_rarityOf : GoodIn wsX8_taste (wsV RX8 142 RX1 yX1_rarityOf wsX1_rarityOf) := goodIn_app (goodIn_of _ (by decide +kernel)) ggX8_taste_X1_rarityOf
set_option maxRecDepth 20000 in
theorem ggX8_taste_X4_weightOf : GoodIn wsX8_taste wsX4_weightOf := goodIn_r _ [24, 25, 34, 35, 36] (by decide +kernel) (by decide +kernel)
set_option maxRecDepth 20000 in
theorem gX8_taste_X4_weightOf : GoodIn wsX8_taste (wsV RX8 145 RX4 yX4_weightOf wsX4_weightOf) := goodIn_app (goodIn_of _ (by decide +kernel)) ggX8_taste_X4_weightOf
theorem dX8_taste_0 : decode cX8_taste 0 = .ok (.aload_n 0, 1) := by decide +kernel
theorem dX8_taste_1 : decode cX8_taste 1 = .ok (.getfield 23, 3) := by decide +kernel
theorem dX8_taste_4 : decode cX8_taste 4 = .ok (.iload 4, 2) := by decide +kernel
theorem dX8_taste_6 : decode cX8_taste 6 = .ok (.invokevirtual 131, 3) := by decide +kernel
theorem dX8_taste_9 : decode cX8_taste 9 = .ok (.istore 5, 2) := by decide +kernel
theorem dX8_taste_11 : decode cX8_taste 11 = .ok (.iload_n 2, 1) := by decide +kernel
theorem dX8_taste_12 : decode cX8_taste 12 = .ok (.ifCond .le 8, 3) := by decide +kernel
theorem dX8_taste_15 : decode cX8_taste 15 = .ok (.iload 5, 2) := by decide +kernel
theorem dX8_taste_17 : decode cX8_taste 17 = .ok (.ifCond .gt 5, 3) := by decide +kernel
theorem dX8_taste_20 : decode cX8_taste 20 = .ok (.iconst 0, 1) := by decide +kernel
theorem dX8_taste_21 : decode cX8_taste 21 = .ok (.ireturn, 1) := by decide +kernel
theorem dX8_taste_22 : decode cX8_taste 22 = .ok (.bipush 10, 2) := by decide +kernel
theorem dX8_taste_24 : decode cX8_taste 24 = .ok (.iload_n 2, 1) := by decide +kernel
theorem dX8_taste_25 : decode cX8_taste 25 = .ok (.imul, 1) := by decide +kernel
theorem dX8_taste_26 : decode cX8_taste 26 = .ok (.iconst 3, 1) := by decide +kernel
theorem dX8_taste_27 : decode cX8_taste 27 = .ok (.iadd, 1) := by decide +kernel
theorem dX8_taste_28 : decode cX8_taste 28 = .ok (.bipush 9, 2) := by decide +kernel
theorem dX8_taste_30 : decode cX8_taste 30 = .ok (.iload_n 3, 1) := by decide +kernel
theorem dX8_taste_31 : decode cX8_taste 31 = .ok (.imul, 1) := by decide +kernel
theorem dX8_taste_32 : decode cX8_taste 32 = .ok (.aload_n 0, 1) := by decide +kernel
theorem dX8_taste_33 : decode cX8_taste 33 = .ok (.getfield 23, 3) := by decide +kernel
theorem dX8_taste_36 : decode cX8_taste 36 = .ok (.getfield 136, 3) := by decide +kernel
theorem dX8_taste_39 : decode cX8_taste 39 = .ok (.imul, 1) := by decide +kernel
theorem dX8_taste_40 : decode cX8_taste 40 = .ok (.iload 5, 2) := by decide +kernel
theorem dX8_taste_42 : decode cX8_taste 42 = .ok (.idiv, 1) := by decide +kernel
theorem dX8_taste_43 : decode cX8_taste 43 = .ok (.iadd, 1) := by decide +kernel
theorem dX8_taste_44 : decode cX8_taste 44 = .ok (.istore 6, 2) := by decide +kernel
theorem dX8_taste_46 : decode cX8_taste 46 = .ok (.aload_n 0, 1) := by decide +kernel
theorem dX8_taste_47 : decode cX8_taste 47 = .ok (.getfield 23, 3) := by decide +kernel
theorem dX8_taste_50 : decode cX8_taste 50 = .ok (.aload_n 0, 1) := by decide +kernel
theorem dX8_taste_51 : decode cX8_taste 51 = .ok (.getfield 23, 3) := by decide +kernel
theorem dX8_taste_54 : decode cX8_taste 54 = .ok (.iload_n 1, 1) := by decide +kernel
theorem dX8_taste_55 : decode cX8_taste 55 = .ok (.iload 4, 2) := by decide +kernel
theorem dX8_taste_57 : decode cX8_taste 57 = .ok (.invokevirtual 139, 3) := by decide +kernel
theorem dX8_taste_60 : decode cX8_taste 60 = .ok (.invokevirtual 142, 3) := by decide +kernel
theorem dX8_taste_63 : decode cX8_taste 63 = .ok (.istore 7, 2) := by decide +kernel
theorem dX8_taste_65 : decode cX8_taste 65 = .ok (.iload 6, 2) := by decide +kernel
theorem dX8_taste_67 : decode cX8_taste 67 = .ok (.ifCond .gt 7, 3) := by decide +kernel
theorem dX8_taste_70 : decode cX8_taste 70 = .ok (.iconst 0, 1) := by decide +kernel
theorem dX8_taste_71 : decode cX8_taste 71 = .ok (.goto 23, 3) := by decide +kernel
theorem dX8_taste_74 : decode cX8_taste 74 = .ok (.iload 7, 2) := by decide +kernel
theorem dX8_taste_76 : decode cX8_taste 76 = .ok (.iload_n 2, 1) := by decide +kernel
theorem dX8_taste_77 : decode cX8_taste 77 = .ok (.imul, 1) := by decide +kernel
theorem dX8_taste_78 : decode cX8_taste 78 = .ok (.bipush 20, 2) := by decide +kernel
theorem dX8_taste_80 : decode cX8_taste 80 = .ok (.imul, 1) := by decide +kernel
theorem dX8_taste_81 : decode cX8_taste 81 = .ok (.iload 6, 2) := by decide +kernel
theorem dX8_taste_83 : decode cX8_taste 83 = .ok (.idiv, 1) := by decide +kernel
theorem dX8_taste_84 : decode cX8_taste 84 = .ok (.aload_n 0, 1) := by decide +kernel
theorem dX8_taste_85 : decode cX8_taste 85 = .ok (.getfield 19, 3) := by decide +kernel
theorem dX8_taste_88 : decode cX8_taste 88 = .ok (.iload 4, 2) := by decide +kernel
theorem dX8_taste_90 : decode cX8_taste 90 = .ok (.invokevirtual 145, 3) := by decide +kernel
theorem dX8_taste_93 : decode cX8_taste 93 = .ok (.imul, 1) := by decide +kernel
theorem dX8_taste_94 : decode cX8_taste 94 = .ok (.ireturn, 1) := by decide +kernel
set_option maxRecDepth 20000 in
theorem ggX8_sumOfAtLeast_X5_partCount : GoodIn wsX8_sumOfAtLeast wsX5_partCount := goodIn_r _ [5, 6, 7, 20, 21, 22, 23, 24, 25, 26, 27, 28, 29, 30, 31, 32] (by decide +kernel) (by decide +kernel)
set_option maxRecDepth 20000 in
theorem gX8_sumOfAtLeast_X5_partCount : GoodIn wsX8_sumOfAtLeast (wsV RX8 148 RX5 yX5_partCount wsX5_partCount) := goodIn_app (goodIn_of _ (by decide +kernel)) ggX8_sumOfAtLeast_X5_partCount
set_option maxRecDepth 20000 in
theorem ggX8_sumOfAtLeast_X5_partAt : GoodIn wsX8_sumOfAtLeast wsX5_partAt := goodIn_r _ [11, 6, 12, 13, 20, 21, 22, 23, 24, 25, 26, 27, 28, 29, 30, 31, 32] (by decide +kernel) (by decide +kernel)
set_option maxRecDepth 20000 in
theorem gX8_sumOfAtLeast_X5_partAt : GoodIn wsX8_sumOfAtLeast (wsV RX8 152 RX5 yX5_partAt wsX5_partAt) := goodIn_app (goodIn_of _ (by decide +kernel)) ggX8_sumOfAtLeast_X5_partAt
set_option maxRecDepth 20000 in
theorem ggX8_sumOfAtLeast_X8_valueAt : GoodIn wsX8_sumOfAtLeast wsX8_valueAt := goodIn_r _ [18, 19, 33, 34, 35, 36, 37] (by decide +kernel) (by decide +kernel)
set_option maxRecDepth 20000 in
theorem gX8_sumOfAtLeast_X8_valueAt : GoodIn wsX8_sumOfAtLeast (wsV RX8 48 RX8 yX8_valueAt wsX8_valueAt) := goodIn_app (goodIn_of _ (by decide +kernel)) ggX8_sumOfAtLeast_X8_valueAt
theorem dX8_sumOfAtLeast_0 : decode cX8_sumOfAtLeast 0 = .ok (.iconst 0, 1) := by decide +kernel
theorem dX8_sumOfAtLeast_1 : decode cX8_sumOfAtLeast 1 = .ok (.istore_n 3, 1) := by decide +kernel
theorem dX8_sumOfAtLeast_2 : decode cX8_sumOfAtLeast 2 = .ok (.iconst 0, 1) := by decide +kernel
theorem dX8_sumOfAtLeast_3 : decode cX8_sumOfAtLeast 3 = .ok (.istore 4, 2) := by decide +kernel
theorem dX8_sumOfAtLeast_5 : decode cX8_sumOfAtLeast 5 = .ok (.iconst 0, 1) := by decide +kernel
theorem dX8_sumOfAtLeast_6 : decode cX8_sumOfAtLeast 6 = .ok (.istore 5, 2) := by decide +kernel
theorem dX8_sumOfAtLeast_8 : decode cX8_sumOfAtLeast 8 = .ok (.iload 5, 2) := by decide +kernel
theorem dX8_sumOfAtLeast_10 : decode cX8_sumOfAtLeast 10 = .ok (.aload_n 1, 1) := by decide +kernel
theorem dX8_sumOfAtLeast_11 : decode cX8_sumOfAtLeast 11 = .ok (.invokevirtual 148, 3) := by decide +kernel
theorem dX8_sumOfAtLeast_14 : decode cX8_sumOfAtLeast 14 = .ok (.if_icmp .ge 37, 3) := by decide +kernel
theorem dX8_sumOfAtLeast_17 : decode cX8_sumOfAtLeast 17 = .ok (.aload_n 0, 1) := by decide +kernel
theorem dX8_sumOfAtLeast_18 : decode cX8_sumOfAtLeast 18 = .ok (.aload_n 1, 1) := by decide +kernel
theorem dX8_sumOfAtLeast_19 : decode cX8_sumOfAtLeast 19 = .ok (.iload 5, 2) := by decide +kernel
theorem dX8_sumOfAtLeast_21 : decode cX8_sumOfAtLeast 21 = .ok (.invokevirtual 152, 3) := by decide +kernel
theorem dX8_sumOfAtLeast_24 : decode cX8_sumOfAtLeast 24 = .ok (.invokevirtual 48, 3) := by decide +kernel
theorem dX8_sumOfAtLeast_27 : decode cX8_sumOfAtLeast 27 = .ok (.istore 6, 2) := by decide +kernel
