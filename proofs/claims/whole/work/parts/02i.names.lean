theorem dX10_remove_0 : decode cX10_remove 0 = .ok (.aload_n 0, 1) := by decide +kernel
theorem dX10_remove_1 : decode cX10_remove 1 = .ok (.getfield 10, 3) := by decide +kernel
theorem dX10_remove_4 : decode cX10_remove 4 = .ok (.iload_n 1, 1) := by decide +kernel
theorem dX10_remove_5 : decode cX10_remove 5 = .ok (.invokevirtual 147, 3) := by decide +kernel
theorem dX10_remove_8 : decode cX10_remove 8 = .ok (.astore_n 2, 1) := by decide +kernel
theorem dX10_remove_9 : decode cX10_remove 9 = .ok (.aload_n 2, 1) := by decide +kernel
theorem dX10_remove_10 : decode cX10_remove 10 = .ok (.ifnonnull 13, 3) := by decide +kernel
theorem dX10_remove_13 : decode cX10_remove 13 = .ok (.new 151, 3) := by decide +kernel
theorem dX10_remove_16 : decode cX10_remove 16 = .ok (.dup, 1) := by decide +kernel
theorem dX10_remove_17 : decode cX10_remove 17 = .ok (.ldc 153, 2) := by decide +kernel
theorem dX10_remove_19 : decode cX10_remove 19 = .ok (.invokespecial 155, 3) := by decide +kernel
theorem dX10_remove_22 : decode cX10_remove 22 = .ok (.athrow, 1) := by decide +kernel
theorem dX10_remove_23 : decode cX10_remove 23 = .ok (.aload_n 2, 1) := by decide +kernel
theorem dX10_remove_24 : decode cX10_remove 24 = .ok (.getfield 156, 3) := by decide +kernel
theorem dX10_remove_27 : decode cX10_remove 27 = .ok (.ifCond .ne 7, 3) := by decide +kernel
theorem dX10_remove_30 : decode cX10_remove 30 = .ok (.iconst 1, 1) := by decide +kernel
theorem dX10_remove_31 : decode cX10_remove 31 = .ok (.goto 4, 3) := by decide +kernel
theorem dX10_remove_34 : decode cX10_remove 34 = .ok (.iconst 0, 1) := by decide +kernel
theorem dX10_remove_35 : decode cX10_remove 35 = .ok (.istore_n 3, 1) := by decide +kernel
theorem dX10_remove_36 : decode cX10_remove 36 = .ok (.aload_n 2, 1) := by decide +kernel
theorem dX10_remove_37 : decode cX10_remove 37 = .ok (.iconst 1, 1) := by decide +kernel
theorem dX10_remove_38 : decode cX10_remove 38 = .ok (.putfield 156, 3) := by decide +kernel
theorem dX10_remove_41 : decode cX10_remove 41 = .ok (.iload_n 3, 1) := by decide +kernel
theorem dX10_remove_42 : decode cX10_remove 42 = .ok (.ireturn, 1) := by decide +kernel
set_option maxRecDepth 20000 in
theorem ggX10_setMute_X10_isTerm : GoodIn wsX10_setMute wsX10_isTerm := goodIn_r _ [7] (by decide +kernel) (by decide +kernel)
set_option maxRecDepth 20000 in
theorem gX10_setMute_X10_isTerm : GoodIn wsX10_setMute (va_wsS RX10 117 yX10_isTerm wsX10_isTerm) := goodIn_app (goodIn_of _ (by decide +kernel)) ggX10_setMute_X10_isTerm
set_option maxRecDepth 20000 in
theorem ggX10_setMute_X4_isMuted : GoodIn wsX10_setMute wsX4_isMuted := goodIn_r _ [12, 13, 28, 29, 30] (by decide +kernel) (by decide +kernel)
set_option maxRecDepth 20000 in
theorem gX10_setMute_X4_isMuted : GoodIn wsX10_setMute (wsV RX10 162 RX4 yX4_isMuted wsX4_isMuted) := goodIn_app (goodIn_of _ (by decide +kernel)) ggX10_setMute_X4_isMuted
set_option maxRecDepth 20000 in
theorem ggX10_setMute_X4_putMute : GoodIn wsX10_setMute wsX4_putMute := goodIn_r _ [17, 13, 28, 29, 30] (by decide +kernel) (by decide +kernel)
set_option maxRecDepth 20000 in
theorem gX10_setMute_X4_putMute : GoodIn wsX10_setMute (wsV RX10 165 RX4 yX4_putMute wsX4_putMute) := goodIn_app (goodIn_of _ (by decide +kernel)) ggX10_setMute_X4_putMute
theorem dX10_setMute_0 : decode cX10_setMute 0 = .ok (.iload_n 1, 1) := by decide +kernel
theorem dX10_setMute_1 : decode cX10_setMute 1 = .ok (.invokestatic 117, 3) := by decide +kernel
theorem dX10_setMute_4 : decode cX10_setMute 4 = .ok (.ifCond .ne 13, 3) := by decide +kernel
theorem dX10_setMute_7 : decode cX10_setMute 7 = .ok (.new 85, 3) := by decide +kernel
theorem dX10_setMute_10 : decode cX10_setMute 10 = .ok (.dup, 1) := by decide +kernel
theorem dX10_setMute_11 : decode cX10_setMute 11 = .ok (.ldc 160, 2) := by decide +kernel
theorem dX10_setMute_13 : decode cX10_setMute 13 = .ok (.invokespecial 89, 3) := by decide +kernel
theorem dX10_setMute_16 : decode cX10_setMute 16 = .ok (.athrow, 1) := by decide +kernel
theorem dX10_setMute_17 : decode cX10_setMute 17 = .ok (.aload_n 0, 1) := by decide +kernel
theorem dX10_setMute_18 : decode cX10_setMute 18 = .ok (.getfield 19, 3) := by decide +kernel
theorem dX10_setMute_21 : decode cX10_setMute 21 = .ok (.iload_n 1, 1) := by decide +kernel
theorem dX10_setMute_22 : decode cX10_setMute 22 = .ok (.invokevirtual 162, 3) := by decide +kernel
theorem dX10_setMute_25 : decode cX10_setMute 25 = .ok (.istore_n 3, 1) := by decide +kernel
theorem dX10_setMute_26 : decode cX10_setMute 26 = .ok (.aload_n 0, 1) := by decide +kernel
theorem dX10_setMute_27 : decode cX10_setMute 27 = .ok (.getfield 19, 3) := by decide +kernel
theorem dX10_setMute_30 : decode cX10_setMute 30 = .ok (.iload_n 1, 1) := by decide +kernel
theorem dX10_setMute_31 : decode cX10_setMute 31 = .ok (.iload_n 2, 1) := by decide +kernel
theorem dX10_setMute_32 : decode cX10_setMute 32 = .ok (.invokevirtual 165, 3) := by decide +kernel
theorem dX10_setMute_35 : decode cX10_setMute 35 = .ok (.iload_n 3, 1) := by decide +kernel
theorem dX10_setMute_36 : decode cX10_setMute 36 = .ok (.ireturn, 1) := by decide +kernel
set_option maxRecDepth 20000 in
theorem ggX10_setAlias_X10_isTerm : GoodIn wsX10_setAlias wsX10_isTerm := goodIn_r _ [7] (by decide +kernel) (by decide +kernel)
set_option maxRecDepth 20000 in
theorem gX10_setAlias_X10_isTerm : GoodIn wsX10_setAlias (va_wsS RX10 117 yX10_isTerm wsX10_isTerm) := goodIn_app (goodIn_of _ (by decide +kernel)) ggX10_setAlias_X10_isTerm
set_option maxRecDepth 20000 in
theorem ggX10_setAlias_X4_aliasOf : GoodIn wsX10_setAlias wsX4_aliasOf := goodIn_r _ [12, 13, 28, 29, 30] (by decide +kernel) (by decide +kernel)
set_option maxRecDepth 20000 in
theorem gX10_setAlias_X4_aliasOf : GoodIn wsX10_setAlias (wsV RX10 171 RX4 yX4_aliasOf wsX4_aliasOf) := goodIn_app (goodIn_of _ (by decide +kernel)) ggX10_setAlias_X4_aliasOf
set_option maxRecDepth 20000 in
theorem ggX10_setAlias_X4_putAlias : GoodIn wsX10_setAlias wsX4_putAlias := goodIn_r _ [17, 13, 28, 29, 30] (by decide +kernel) (by decide +kernel)
set_option maxRecDepth 20000 in
theorem gX10_setAlias_X4_putAlias : GoodIn wsX10_setAlias (wsV RX10 175 RX4 yX4_putAlias wsX4_putAlias) := goodIn_app (goodIn_of _ (by decide +kernel)) ggX10_setAlias_X4_putAlias
theorem dX10_setAlias_0 : decode cX10_setAlias 0 = .ok (.iload_n 1, 1) := by decide +kernel
theorem dX10_setAlias_1 : decode cX10_setAlias 1 = .ok (.invokestatic 117, 3) := by decide +kernel
theorem dX10_setAlias_4 : decode cX10_setAlias 4 = .ok (.ifCond .eq 20, 3) := by decide +kernel
theorem dX10_setAlias_7 : decode cX10_setAlias 7 = .ok (.iload_n 2, 1) := by decide +kernel
theorem dX10_setAlias_8 : decode cX10_setAlias 8 = .ok (.iconst (-1), 1) := by decide +kernel
theorem dX10_setAlias_9 : decode cX10_setAlias 9 = .ok (.if_icmp .eq 10, 3) := by decide +kernel
theorem dX10_setAlias_12 : decode cX10_setAlias 12 = .ok (.iload_n 2, 1) := by decide +kernel
theorem dX10_setAlias_13 : decode cX10_setAlias 13 = .ok (.invokestatic 117, 3) := by decide +kernel
theorem dX10_setAlias_16 : decode cX10_setAlias 16 = .ok (.ifCond .eq 8, 3) := by decide +kernel
theorem dX10_setAlias_19 : decode cX10_setAlias 19 = .ok (.iload_n 2, 1) := by decide +kernel
theorem dX10_setAlias_20 : decode cX10_setAlias 20 = .ok (.iload_n 1, 1) := by decide +kernel
theorem dX10_setAlias_21 : decode cX10_setAlias 21 = .ok (.if_icmp .ne 13, 3) := by decide +kernel
theorem dX10_setAlias_24 : decode cX10_setAlias 24 = .ok (.new 85, 3) := by decide +kernel
theorem dX10_setAlias_27 : decode cX10_setAlias 27 = .ok (.dup, 1) := by decide +kernel
theorem dX10_setAlias_28 : decode cX10_setAlias 28 = .ok (.ldc 169, 2) := by decide +kernel
theorem dX10_setAlias_30 : decode cX10_setAlias 30 = .ok (.invokespecial 89, 3) := by decide +kernel
theorem dX10_setAlias_33 : decode cX10_setAlias 33 = .ok (.athrow, 1) := by decide +kernel
theorem dX10_setAlias_34 : decode cX10_setAlias 34 = .ok (.aload_n 0, 1) := by decide +kernel
theorem dX10_setAlias_35 : decode cX10_setAlias 35 = .ok (.getfield 19, 3) := by decide +kernel
theorem dX10_setAlias_38 : decode cX10_setAlias 38 = .ok (.iload_n 1, 1) := by decide +kernel
theorem dX10_setAlias_39 : decode cX10_setAlias 39 = .ok (.invokevirtual 171, 3) := by decide +kernel
theorem dX10_setAlias_42 : decode cX10_setAlias 42 = .ok (.istore_n 3, 1) := by decide +kernel
theorem dX10_setAlias_43 : decode cX10_setAlias 43 = .ok (.aload_n 0, 1) := by decide +kernel
theorem dX10_setAlias_44 : decode cX10_setAlias 44 = .ok (.getfield 19, 3) := by decide +kernel
theorem dX10_setAlias_47 : decode cX10_setAlias 47 = .ok (.iload_n 1, 1) := by decide +kernel
theorem dX10_setAlias_48 : decode cX10_setAlias 48 = .ok (.iload_n 2, 1) := by decide +kernel
theorem dX10_setAlias_49 : decode cX10_setAlias 49 = .ok (.invokevirtual 175, 3) := by decide +kernel
theorem dX10_setAlias_52 : decode cX10_setAlias 52 = .ok (.iload_n 3, 1) := by decide +kernel
theorem dX10_setAlias_53 : decode cX10_setAlias 53 = .ok (.ireturn, 1) := by decide +kernel
set_option maxRecDepth 20000 in
theorem ggX10_setWeight_X10_isField : GoodIn wsX10_setWeight wsX10_isField := goodIn_r _ [7] (by decide +kernel) (by decide +kernel)
set_option maxRecDepth 20000 in
theorem gX10_setWeight_X10_isField : GoodIn wsX10_setWeight (va_wsS RX10 114 yX10_isField wsX10_isField) := goodIn_app (goodIn_of _ (by decide +kernel)) ggX10_setWeight_X10_isField
set_option maxRecDepth 20000 in
theorem ggX10_setWeight_X4_weightOf : GoodIn wsX10_setWeight wsX4_weightOf := goodIn_r _ [12, 13, 28, 29, 30] (by decide +kernel) (by decide +kernel)
set_option maxRecDepth 20000 in
theorem gX10_setWeight_X4_weightOf : GoodIn wsX10_setWeight (wsV RX10 180 RX4 yX4_weightOf wsX4_weightOf) := goodIn_app (goodIn_of _ (by decide +kernel)) ggX10_setWeight_X4_weightOf
set_option maxRecDepth 20000 in
theorem ggX10_setWeight_X4_putWeight : GoodIn wsX10_setWeight wsX4_putWeight := goodIn_r _ [17, 13, 28, 29, 30] (by decide +kernel) (by decide +kernel)
set_option maxRecDepth 20000 in
theorem gX10_setWeight_X4_putWeight : GoodIn wsX10_setWeight (wsV RX10 183 RX4 yX4_putWeight wsX4_putWeight) := goodIn_app (goodIn_of _ (by decide +kernel)) ggX10_setWeight_X4_putWeight
theorem dX10_setWeight_0 : decode cX10_setWeight 0 = .ok (.iload_n 1, 1) := by decide +kernel
theorem dX10_setWeight_1 : decode cX10_setWeight 1 = .ok (.invokestatic 114, 3) := by decide +kernel
theorem dX10_setWeight_4 : decode cX10_setWeight 4 = .ok (.ifCond .eq 14, 3) := by decide +kernel
theorem dX10_setWeight_7 : decode cX10_setWeight 7 = .ok (.iload_n 2, 1) := by decide +kernel
theorem dX10_setWeight_8 : decode cX10_setWeight 8 = .ok (.iconst 1, 1) := by decide +kernel
theorem dX10_setWeight_9 : decode cX10_setWeight 9 = .ok (.if_icmp .lt 9, 3) := by decide +kernel
theorem dX10_setWeight_12 : decode cX10_setWeight 12 = .ok (.iload_n 2, 1) := by decide +kernel
theorem dX10_setWeight_13 : decode cX10_setWeight 13 = .ok (.bipush 9, 2) := by decide +kernel
theorem dX10_setWeight_15 : decode cX10_setWeight 15 = .ok (.if_icmp .le 13, 3) := by decide +kernel
theorem dX10_setWeight_18 : decode cX10_setWeight 18 = .ok (.new 85, 3) := by decide +kernel
theorem dX10_setWeight_21 : decode cX10_setWeight 21 = .ok (.dup, 1) := by decide +kernel
theorem dX10_setWeight_22 : decode cX10_setWeight 22 = .ok (.ldc 178, 2) := by decide +kernel
theorem dX10_setWeight_24 : decode cX10_setWeight 24 = .ok (.invokespecial 89, 3) := by decide +kernel
theorem dX10_setWeight_27 : decode cX10_setWeight 27 = .ok (.athrow, 1) := by decide +kernel
theorem dX10_setWeight_28 : decode cX10_setWeight 28 = .ok (.aload_n 0, 1) := by decide +kernel
theorem dX10_setWeight_29 : decode cX10_setWeight 29 = .ok (.getfield 19, 3) := by decide +kernel
theorem dX10_setWeight_32 : decode cX10_setWeight 32 = .ok (.iload_n 1, 1) := by decide +kernel
theorem dX10_setWeight_33 : decode cX10_setWeight 33 = .ok (.invokevirtual 180, 3) := by decide +kernel
theorem dX10_setWeight_36 : decode cX10_setWeight 36 = .ok (.istore_n 3, 1) := by decide +kernel
theorem dX10_setWeight_37 : decode cX10_setWeight 37 = .ok (.aload_n 0, 1) := by decide +kernel
theorem dX10_setWeight_38 : decode cX10_setWeight 38 = .ok (.getfield 19, 3) := by decide +kernel
theorem dX10_setWeight_41 : decode cX10_setWeight 41 = .ok (.iload_n 1, 1) := by decide +kernel
theorem dX10_setWeight_42 : decode cX10_setWeight 42 = .ok (.iload_n 2, 1) := by decide +kernel
theorem dX10_setWeight_43 : decode cX10_setWeight 43 = .ok (.invokevirtual 183, 3) := by decide +kernel
theorem dX10_setWeight_46 : decode cX10_setWeight 46 = .ok (.iload_n 3, 1) := by decide +kernel
theorem dX10_setWeight_47 : decode cX10_setWeight 47 = .ok (.ireturn, 1) := by decide +kernel
theorem dX10_documents_0 : decode cX10_documents 0 = .ok (.aload_n 0, 1) := by decide +kernel
theorem dX10_documents_1 : decode cX10_documents 1 = .ok (.getfield 10, 3) := by decide +kernel
theorem dX10_documents_4 : decode cX10_documents 4 = .ok (.getfield 110, 3) := by decide +kernel
theorem dX10_documents_7 : decode cX10_documents 7 = .ok (.ireturn, 1) := by decide +kernel
set_option maxRecDepth 20000 in
theorem ggX10_stateOf_X0_documentAt : GoodIn wsX10_stateOf wsX0_documentAt := goodIn_r _ [8, 9, 10, 32, 33, 34, 35, 36, 37] (by decide +kernel) (by decide +kernel)
set_option maxRecDepth 20000 in
theorem gX10_stateOf_X0_documentAt : GoodIn wsX10_stateOf (wsV RX10 147 RX0 yX0_documentAt wsX0_documentAt) := goodIn_app (goodIn_of _ (by decide +kernel)) ggX10_stateOf_X0_documentAt
set_option maxRecDepth 20000 in
theorem ggX10_stateOf_X2_state : GoodIn wsX10_stateOf wsX2_state := goodIn_r _ [15, 16, 17, 18, 19, 14, 20, 21, 38, 39, 40, 41, 42] (by decide +kernel) (by decide +kernel)
set_option maxRecDepth 20000 in
theorem gX10_stateOf_X2_state : GoodIn wsX10_stateOf (wsV RX10 186 RX2 yX2_state wsX2_state) := goodIn_app (goodIn_of _ (by decide +kernel)) ggX10_stateOf_X2_state
theorem dX10_stateOf_0 : decode cX10_stateOf 0 = .ok (.aload_n 0, 1) := by decide +kernel
theorem dX10_stateOf_1 : decode cX10_stateOf 1 = .ok (.getfield 10, 3) := by decide +kernel
theorem dX10_stateOf_4 : decode cX10_stateOf 4 = .ok (.iload_n 1, 1) := by decide +kernel
theorem dX10_stateOf_5 : decode cX10_stateOf 5 = .ok (.invokevirtual 147, 3) := by decide +kernel
theorem dX10_stateOf_8 : decode cX10_stateOf 8 = .ok (.astore_n 2, 1) := by decide +kernel
theorem dX10_stateOf_9 : decode cX10_stateOf 9 = .ok (.aload_n 2, 1) := by decide +kernel
theorem dX10_stateOf_10 : decode cX10_stateOf 10 = .ok (.ifnonnull 13, 3) := by decide +kernel
theorem dX10_stateOf_13 : decode cX10_stateOf 13 = .ok (.new 151, 3) := by decide +kernel
theorem dX10_stateOf_16 : decode cX10_stateOf 16 = .ok (.dup, 1) := by decide +kernel
theorem dX10_stateOf_17 : decode cX10_stateOf 17 = .ok (.ldc 153, 2) := by decide +kernel
theorem dX10_stateOf_19 : decode cX10_stateOf 19 = .ok (.invokespecial 155, 3) := by decide +kernel
theorem dX10_stateOf_22 : decode cX10_stateOf 22 = .ok (.athrow, 1) := by decide +kernel
theorem dX10_stateOf_23 : decode cX10_stateOf 23 = .ok (.aload_n 2, 1) := by decide +kernel
theorem dX10_stateOf_24 : decode cX10_stateOf 24 = .ok (.invokevirtual 186, 3) := by decide +kernel
theorem dX10_stateOf_27 : decode cX10_stateOf 27 = .ok (.ireturn, 1) := by decide +kernel
set_option maxRecDepth 20000 in
theorem ggX10_termAt_X0_documentAt : GoodIn wsX10_termAt wsX0_documentAt := goodIn_r _ [9, 10, 11, 40, 41, 42, 43, 44, 45] (by decide +kernel) (by decide +kernel)
set_option maxRecDepth 20000 in
theorem gX10_termAt_X0_documentAt : GoodIn wsX10_termAt (wsV RX10 147 RX0 yX0_documentAt wsX0_documentAt) := goodIn_app (goodIn_of _ (by decide +kernel)) ggX10_termAt_X0_documentAt
set_option maxRecDepth 20000 in
theorem ggX10_termAt_X2_rowOf : GoodIn wsX10_termAt wsX2_rowOf := goodIn_r _ [16, 17, 46, 47, 48, 49, 50] (by decide +kernel) (by decide +kernel)
set_option maxRecDepth 20000 in
theorem gX10_termAt_X2_rowOf : GoodIn wsX10_termAt (wsV RX10 124 RX2 yX2_rowOf wsX2_rowOf) := goodIn_app (goodIn_of _ (by decide +kernel)) ggX10_termAt_X2_rowOf
set_option maxRecDepth 20000 in
theorem ggX10_termAt_X9_termOn : GoodIn wsX10_termAt wsX9_termOn := goodIn_r _ [22, 23, 24, 35, 36, 37, 38, 39] (by decide +kernel) (by decide +kernel)
set_option maxRecDepth 20000 in
theorem gX10_termAt_X9_termOn : GoodIn wsX10_termAt (wsV RX10 191 RX9 yX9_termOn wsX9_termOn) := goodIn_app (goodIn_of _ (by decide +kernel)) ggX10_termAt_X9_termOn
theorem dX10_termAt_0 : decode cX10_termAt 0 = .ok (.aload_n 0, 1) := by decide +kernel
theorem dX10_termAt_1 : decode cX10_termAt 1 = .ok (.getfield 10, 3) := by decide +kernel
theorem dX10_termAt_4 : decode cX10_termAt 4 = .ok (.iload_n 1, 1) := by decide +kernel
theorem dX10_termAt_5 : decode cX10_termAt 5 = .ok (.invokevirtual 147, 3) := by decide +kernel
theorem dX10_termAt_8 : decode cX10_termAt 8 = .ok (.astore 4, 2) := by decide +kernel
theorem dX10_termAt_10 : decode cX10_termAt 10 = .ok (.aload 4, 2) := by decide +kernel
theorem dX10_termAt_12 : decode cX10_termAt 12 = .ok (.ifnonnull 7, 3) := by decide +kernel
theorem dX10_termAt_15 : decode cX10_termAt 15 = .ok (.aconst_null, 1) := by decide +kernel
theorem dX10_termAt_16 : decode cX10_termAt 16 = .ok (.goto 9, 3) := by decide +kernel
theorem dX10_termAt_19 : decode cX10_termAt 19 = .ok (.aload 4, 2) := by decide +kernel
theorem dX10_termAt_21 : decode cX10_termAt 21 = .ok (.iload_n 2, 1) := by decide +kernel
theorem dX10_termAt_22 : decode cX10_termAt 22 = .ok (.invokevirtual 124, 3) := by decide +kernel
theorem dX10_termAt_25 : decode cX10_termAt 25 = .ok (.astore 5, 2) := by decide +kernel
theorem dX10_termAt_27 : decode cX10_termAt 27 = .ok (.aload 5, 2) := by decide +kernel
theorem dX10_termAt_29 : decode cX10_termAt 29 = .ok (.ifnull 16, 3) := by decide +kernel
theorem dX10_termAt_32 : decode cX10_termAt 32 = .ok (.iload_n 3, 1) := by decide +kernel
theorem dX10_termAt_33 : decode cX10_termAt 33 = .ok (.ifCond .lt 12, 3) := by decide +kernel
theorem dX10_termAt_36 : decode cX10_termAt 36 = .ok (.iload_n 3, 1) := by decide +kernel
theorem dX10_termAt_37 : decode cX10_termAt 37 = .ok (.aload 5, 2) := by decide +kernel
theorem dX10_termAt_39 : decode cX10_termAt 39 = .ok (.getfield 137, 3) := by decide +kernel
theorem dX10_termAt_42 : decode cX10_termAt 42 = .ok (.if_icmp .lt 13, 3) := by decide +kernel
theorem dX10_termAt_45 : decode cX10_termAt 45 = .ok (.new 151, 3) := by decide +kernel
theorem dX10_termAt_48 : decode cX10_termAt 48 = .ok (.dup, 1) := by decide +kernel
theorem dX10_termAt_49 : decode cX10_termAt 49 = .ok (.ldc 189, 2) := by decide +kernel
theorem dX10_termAt_51 : decode cX10_termAt 51 = .ok (.invokespecial 155, 3) := by decide +kernel
theorem dX10_termAt_54 : decode cX10_termAt 54 = .ok (.athrow, 1) := by decide +kernel
theorem dX10_termAt_55 : decode cX10_termAt 55 = .ok (.aload 5, 2) := by decide +kernel
theorem dX10_termAt_57 : decode cX10_termAt 57 = .ok (.iload_n 3, 1) := by decide +kernel
theorem dX10_termAt_58 : decode cX10_termAt 58 = .ok (.invokevirtual 191, 3) := by decide +kernel
theorem dX10_termAt_61 : decode cX10_termAt 61 = .ok (.ireturn, 1) := by decide +kernel
set_option maxRecDepth 20000 in
theorem ggX10_flush_X0_flushBuffer : GoodIn wsX10_flush wsX0_flushBuffer := goodIn_r _ [6, 7, 8, 9, 10, 5, 11, 12, 13, 14, 15, 16, 17, 18, 19, 20, 21, 22, 23, 24, 25, 26, 27, 28, 29, 30, 31, 32, 33, 34, 35, 36, 37, 38, 39, 40, 41, 42, 43, 44, 45, 46, 47, 48, 49, 50, 51, 52, 53, 54, 55, 56, 57, 58, 59, 60, 61, 62, 63, 64, 65, 66, 67, 68, 69, 70, 71, 72, 73, 74, 75, 76, 77, 78, 79, 80, 81, 82, 83, 84, 85, 86, 87, 88, 99, 100, 101, 102, 103, 104, 105, 106, 107, 108, 109, 110, 111, 112, 113, 114, 115, 116, 117] (by decide +kernel) (by decide +kernel)
set_option maxRecDepth 20000 in
theorem gX10_flush_X0_flushBuffer : GoodIn wsX10_flush (wsV RX10 194 RX0 yX0_flushBuffer wsX0_flushBuffer) := goodIn_app (goodIn_of _ (by decide +kernel)) ggX10_flush_X0_flushBuffer
theorem dX10_flush_0 : decode cX10_flush 0 = .ok (.aload_n 0, 1) := by decide +kernel
theorem dX10_flush_1 : decode cX10_flush 1 = .ok (.getfield 10, 3) := by decide +kernel
theorem dX10_flush_4 : decode cX10_flush 4 = .ok (.invokevirtual 194, 3) := by decide +kernel
theorem dX10_flush_7 : decode cX10_flush 7 = .ok (.ireturn, 1) := by decide +kernel
set_option maxRecDepth 20000 in
theorem ggX10_compact_X0_mergeAll : GoodIn wsX10_compact wsX0_mergeAll := goodIn_r _ [6, 7, 8, 9, 10, 11, 12, 13, 14, 5, 15, 16, 17, 18, 19, 20, 21, 22, 23, 24, 25, 26, 27, 28, 29, 30, 31, 32, 33, 34, 35, 36, 37, 38, 39, 40, 41, 42, 43, 44, 45, 46, 47, 48, 49, 50, 51, 52, 53, 54, 55, 56, 57, 58, 59, 60, 61, 62, 63, 64, 65, 66, 67, 68, 69, 70, 71, 72, 73, 74, 75, 76, 87, 88, 89, 90, 91, 92, 93, 94, 95, 96, 97, 98, 99, 100, 101, 102, 103, 104, 105] (by decide +kernel) (by decide +kernel)
set_option maxRecDepth 20000 in
theorem gX10_compact_X0_mergeAll : GoodIn wsX10_compact (wsV RX10 197 RX0 yX0_mergeAll wsX0_mergeAll) := goodIn_app (goodIn_of _ (by decide +kernel)) ggX10_compact_X0_mergeAll
theorem dX10_compact_0 : decode cX10_compact 0 = .ok (.aload_n 0, 1) := by decide +kernel
theorem dX10_compact_1 : decode cX10_compact 1 = .ok (.getfield 10, 3) := by decide +kernel
theorem dX10_compact_4 : decode cX10_compact 4 = .ok (.invokevirtual 197, 3) := by decide +kernel
theorem dX10_compact_7 : decode cX10_compact 7 = .ok (.ireturn, 1) := by decide +kernel
theorem dX10_segments_0 : decode cX10_segments 0 = .ok (.aload_n 0, 1) := by decide +kernel
theorem dX10_segments_1 : decode cX10_segments 1 = .ok (.getfield 10, 3) := by decide +kernel
theorem dX10_segments_4 : decode cX10_segments 4 = .ok (.getfield 200, 3) := by decide +kernel
theorem dX10_segments_7 : decode cX10_segments 7 = .ok (.ireturn, 1) := by decide +kernel
set_option maxRecDepth 20000 in
theorem ggX10_tierOf_X0_hasSegment : GoodIn wsX10_tierOf wsX0_hasSegment := goodIn_r _ [8, 9, 26, 27, 28, 29, 30, 31] (by decide +kernel) (by decide +kernel)
set_option maxRecDepth 20000 in
theorem gX10_tierOf_X0_hasSegment : GoodIn wsX10_tierOf (wsV RX10 203 RX0 yX0_hasSegment wsX0_hasSegment) := goodIn_app (goodIn_of _ (by decide +kernel)) ggX10_tierOf_X0_hasSegment
set_option maxRecDepth 20000 in
theorem ggX10_tierOf_X0_tierAt : GoodIn wsX10_tierOf wsX0_tierAt := goodIn_r _ [13, 14, 15, 5, 6, 7, 8, 9, 26, 27, 28, 29, 30, 31] (by decide +kernel) (by decide +kernel)
set_option maxRecDepth 20000 in
theorem gX10_tierOf_X0_tierAt : GoodIn wsX10_tierOf (wsV RX10 208 RX0 yX0_tierAt wsX0_tierAt) := goodIn_app (goodIn_of _ (by decide +kernel)) ggX10_tierOf_X0_tierAt
theorem dX10_tierOf_0 : decode cX10_tierOf 0 = .ok (.aload_n 0, 1) := by decide +kernel
theorem dX10_tierOf_1 : decode cX10_tierOf 1 = .ok (.getfield 10, 3) := by decide +kernel
theorem dX10_tierOf_4 : decode cX10_tierOf 4 = .ok (.iload_n 1, 1) := by decide +kernel
theorem dX10_tierOf_5 : decode cX10_tierOf 5 = .ok (.invokevirtual 203, 3) := by decide +kernel
theorem dX10_tierOf_8 : decode cX10_tierOf 8 = .ok (.ifCond .ne 13, 3) := by decide +kernel
theorem dX10_tierOf_11 : decode cX10_tierOf 11 = .ok (.new 151, 3) := by decide +kernel
theorem dX10_tierOf_14 : decode cX10_tierOf 14 = .ok (.dup, 1) := by decide +kernel
theorem dX10_tierOf_15 : decode cX10_tierOf 15 = .ok (.ldc 206, 2) := by decide +kernel
theorem dX10_tierOf_17 : decode cX10_tierOf 17 = .ok (.invokespecial 155, 3) := by decide +kernel
theorem dX10_tierOf_20 : decode cX10_tierOf 20 = .ok (.athrow, 1) := by decide +kernel
theorem dX10_tierOf_21 : decode cX10_tierOf 21 = .ok (.aload_n 0, 1) := by decide +kernel
theorem dX10_tierOf_22 : decode cX10_tierOf 22 = .ok (.getfield 10, 3) := by decide +kernel
theorem dX10_tierOf_25 : decode cX10_tierOf 25 = .ok (.iload_n 1, 1) := by decide +kernel
theorem dX10_tierOf_26 : decode cX10_tierOf 26 = .ok (.invokevirtual 208, 3) := by decide +kernel
theorem dX10_tierOf_29 : decode cX10_tierOf 29 = .ok (.ireturn, 1) := by decide +kernel
set_option maxRecDepth 20000 in
theorem ggX10_sizeOf_X0_hasSegment : GoodIn wsX10_sizeOf wsX0_hasSegment := goodIn_r _ [8, 9, 31, 32, 33, 34, 35, 36] (by decide +kernel) (by decide +kernel)
set_option maxRecDepth 20000 in
theorem gX10_sizeOf_X0_hasSegment : GoodIn wsX10_sizeOf (wsV RX10 203 RX0 yX0_hasSegment wsX0_hasSegment) := goodIn_app (goodIn_of _ (by decide +kernel)) ggX10_sizeOf_X0_hasSegment
set_option maxRecDepth 20000 in
theorem ggX10_sizeOf_X0_countAt : GoodIn wsX10_sizeOf wsX0_countAt := goodIn_r _ [13, 14, 15, 16, 17, 18, 7, 19, 20, 31, 32, 33, 34, 35, 36, 37, 38, 39, 40, 41] (by decide +kernel) (by decide +kernel)
set_option maxRecDepth 20000 in
theorem gX10_sizeOf_X0_countAt : GoodIn wsX10_sizeOf (wsV RX10 211 RX0 yX0_countAt wsX0_countAt) := goodIn_app (goodIn_of _ (by decide +kernel)) ggX10_sizeOf_X0_countAt
theorem dX10_sizeOf_0 : decode cX10_sizeOf 0 = .ok (.aload_n 0, 1) := by decide +kernel
theorem dX10_sizeOf_1 : decode cX10_sizeOf 1 = .ok (.getfield 10, 3) := by decide +kernel
theorem dX10_sizeOf_4 : decode cX10_sizeOf 4 = .ok (.iload_n 1, 1) := by decide +kernel
theorem dX10_sizeOf_5 : decode cX10_sizeOf 5 = .ok (.invokevirtual 203, 3) := by decide +kernel
theorem dX10_sizeOf_8 : decode cX10_sizeOf 8 = .ok (.ifCond .ne 13, 3) := by decide +kernel
theorem dX10_sizeOf_11 : decode cX10_sizeOf 11 = .ok (.new 151, 3) := by decide +kernel
theorem dX10_sizeOf_14 : decode cX10_sizeOf 14 = .ok (.dup, 1) := by decide +kernel
theorem dX10_sizeOf_15 : decode cX10_sizeOf 15 = .ok (.ldc 206, 2) := by decide +kernel
theorem dX10_sizeOf_17 : decode cX10_sizeOf 17 = .ok (.invokespecial 155, 3) := by decide +kernel
theorem dX10_sizeOf_20 : decode cX10_sizeOf 20 = .ok (.athrow, 1) := by decide +kernel
theorem dX10_sizeOf_21 : decode cX10_sizeOf 21 = .ok (.aload_n 0, 1) := by decide +kernel
theorem dX10_sizeOf_22 : decode cX10_sizeOf 22 = .ok (.getfield 10, 3) := by decide +kernel
theorem dX10_sizeOf_25 : decode cX10_sizeOf 25 = .ok (.iload_n 1, 1) := by decide +kernel
theorem dX10_sizeOf_26 : decode cX10_sizeOf 26 = .ok (.invokevirtual 211, 3) := by decide +kernel
theorem dX10_sizeOf_29 : decode cX10_sizeOf 29 = .ok (.ireturn, 1) := by decide +kernel
set_option maxRecDepth 20000 in
theorem ggX10_spread_X10_isTerm : GoodIn wsX10_spread wsX10_isTerm := goodIn_r _ [8] (by decide +kernel) (by decide +kernel)
set_option maxRecDepth 20000 in
theorem gX10_spread_X10_isTerm : GoodIn wsX10_spread (va_wsS RX10 117 yX10_isTerm wsX10_isTerm) := goodIn_app (goodIn_of _ (by decide +kernel)) ggX10_spread_X10_isTerm
set_option maxRecDepth 20000 in
theorem ggX10_spread_X10_isField : GoodIn wsX10_spread wsX10_isField := goodIn_r _ [11] (by decide +kernel) (by decide +kernel)
set_option maxRecDepth 20000 in
theorem gX10_spread_X10_isField : GoodIn wsX10_spread (va_wsS RX10 114 yX10_isField wsX10_isField) := goodIn_app (goodIn_of _ (by decide +kernel)) ggX10_spread_X10_isField
set_option maxRecDepth 20000 in
theorem ggX10_spread_X1_spreadOf : GoodIn wsX10_spread wsX1_spreadOf := goodIn_r _ [16, 17, 34, 35, 36] (by decide +kernel) (by decide +kernel)
set_option maxRecDepth 20000 in
theorem gX10_spread_X1_spreadOf : GoodIn wsX10_spread (wsV RX10 216 RX1 yX1_spreadOf wsX1_spreadOf) := goodIn_app (goodIn_of _ (by decide +kernel)) ggX10_spread_X1_spreadOf
theorem dX10_spread_0 : decode cX10_spread 0 = .ok (.iload_n 1, 1) := by decide +kernel
theorem dX10_spread_1 : decode cX10_spread 1 = .ok (.invokestatic 117, 3) := by decide +kernel
theorem dX10_spread_4 : decode cX10_spread 4 = .ok (.ifCond .eq 10, 3) := by decide +kernel
theorem dX10_spread_7 : decode cX10_spread 7 = .ok (.iload_n 2, 1) := by decide +kernel
theorem dX10_spread_8 : decode cX10_spread 8 = .ok (.invokestatic 114, 3) := by decide +kernel
theorem dX10_spread_11 : decode cX10_spread 11 = .ok (.ifCond .ne 13, 3) := by decide +kernel
theorem dX10_spread_14 : decode cX10_spread 14 = .ok (.new 85, 3) := by decide +kernel
theorem dX10_spread_17 : decode cX10_spread 17 = .ok (.dup, 1) := by decide +kernel
theorem dX10_spread_18 : decode cX10_spread 18 = .ok (.ldc 214, 2) := by decide +kernel
theorem dX10_spread_20 : decode cX10_spread 20 = .ok (.invokespecial 89, 3) := by decide +kernel
theorem dX10_spread_23 : decode cX10_spread 23 = .ok (.athrow, 1) := by decide +kernel
theorem dX10_spread_24 : decode cX10_spread 24 = .ok (.aload_n 0, 1) := by decide +kernel
theorem dX10_spread_25 : decode cX10_spread 25 = .ok (.getfield 10, 3) := by decide +kernel
theorem dX10_spread_28 : decode cX10_spread 28 = .ok (.getfield 57, 3) := by decide +kernel
theorem dX10_spread_31 : decode cX10_spread 31 = .ok (.iload_n 1, 1) := by decide +kernel
theorem dX10_spread_32 : decode cX10_spread 32 = .ok (.iload_n 2, 1) := by decide +kernel
theorem dX10_spread_33 : decode cX10_spread 33 = .ok (.invokevirtual 216, 3) := by decide +kernel
theorem dX10_spread_36 : decode cX10_spread 36 = .ok (.ireturn, 1) := by decide +kernel
set_option maxRecDepth 20000 in
theorem ggX10_rare_X10_isTerm : GoodIn wsX10_rare wsX10_isTerm := goodIn_r _ [8] (by decide +kernel) (by decide +kernel)
set_option maxRecDepth 20000 in
theorem gX10_rare_X10_isTerm : GoodIn wsX10_rare (va_wsS RX10 117 yX10_isTerm wsX10_isTerm) := goodIn_app (goodIn_of _ (by decide +kernel)) ggX10_rare_X10_isTerm
set_option maxRecDepth 20000 in
theorem ggX10_rare_X10_isField : GoodIn wsX10_rare wsX10_isField := goodIn_r _ [11] (by decide +kernel) (by decide +kernel)
set_option maxRecDepth 20000 in
theorem gX10_rare_X10_isField : GoodIn wsX10_rare (va_wsS RX10 114 yX10_isField wsX10_isField) := goodIn_app (goodIn_of _ (by decide +kernel)) ggX10_rare_X10_isField
set_option maxRecDepth 20000 in
theorem ggX10_rare_X1_spreadOf : GoodIn wsX10_rare wsX1_spreadOf := goodIn_r _ [16, 17, 39, 40, 41] (by decide +kernel) (by decide +kernel)
set_option maxRecDepth 20000 in
theorem gX10_rare_X1_spreadOf : GoodIn wsX10_rare (wsV RX10 216 RX1 yX1_spreadOf wsX1_spreadOf) := goodIn_app (goodIn_of _ (by decide +kernel)) ggX10_rare_X1_spreadOf
set_option maxRecDepth 20000 in
theorem ggX10_rare_X1_rarityOf : GoodIn wsX10_rare wsX1_rarityOf := goodIn_r _ [21, 22, 39, 40, 41] (by decide +kernel) (by decide +kernel)
set_option maxRecDepth 20000 in
theorem gX10_rare_X1_rarityOf : GoodIn wsX10_rare (wsV RX10 220 RX1 yX1_rarityOf wsX1_rarityOf) := goodIn_app (goodIn_of _ (by decide +kernel)) ggX10_rare_X1_rarityOf
theorem dX10_rare_0 : decode cX10_rare 0 = .ok (.iload_n 1, 1) := by decide +kernel
theorem dX10_rare_1 : decode cX10_rare 1 = .ok (.invokestatic 117, 3) := by decide +kernel
theorem dX10_rare_4 : decode cX10_rare 4 = .ok (.ifCond .eq 10, 3) := by decide +kernel
theorem dX10_rare_7 : decode cX10_rare 7 = .ok (.iload_n 2, 1) := by decide +kernel
theorem dX10_rare_8 : decode cX10_rare 8 = .ok (.invokestatic 114, 3) := by decide +kernel
theorem dX10_rare_11 : decode cX10_rare 11 = .ok (.ifCond .ne 13, 3) := by decide +kernel
theorem dX10_rare_14 : decode cX10_rare 14 = .ok (.new 85, 3) := by decide +kernel
theorem dX10_rare_17 : decode cX10_rare 17 = .ok (.dup, 1) := by decide +kernel
theorem dX10_rare_18 : decode cX10_rare 18 = .ok (.ldc 214, 2) := by decide +kernel
theorem dX10_rare_20 : decode cX10_rare 20 = .ok (.invokespecial 89, 3) := by decide +kernel
theorem dX10_rare_23 : decode cX10_rare 23 = .ok (.athrow, 1) := by decide +kernel
theorem dX10_rare_24 : decode cX10_rare 24 = .ok (.aload_n 0, 1) := by decide +kernel
theorem dX10_rare_25 : decode cX10_rare 25 = .ok (.getfield 10, 3) := by decide +kernel
theorem dX10_rare_28 : decode cX10_rare 28 = .ok (.getfield 57, 3) := by decide +kernel
theorem dX10_rare_31 : decode cX10_rare 31 = .ok (.aload_n 0, 1) := by decide +kernel
theorem dX10_rare_32 : decode cX10_rare 32 = .ok (.getfield 10, 3) := by decide +kernel
theorem dX10_rare_35 : decode cX10_rare 35 = .ok (.getfield 57, 3) := by decide +kernel
theorem dX10_rare_38 : decode cX10_rare 38 = .ok (.iload_n 1, 1) := by decide +kernel
theorem dX10_rare_39 : decode cX10_rare 39 = .ok (.iload_n 2, 1) := by decide +kernel
theorem dX10_rare_40 : decode cX10_rare 40 = .ok (.invokevirtual 216, 3) := by decide +kernel
theorem dX10_rare_43 : decode cX10_rare 43 = .ok (.invokevirtual 220, 3) := by decide +kernel
theorem dX10_rare_46 : decode cX10_rare 46 = .ok (.ireturn, 1) := by decide +kernel
set_option maxRecDepth 20000 in
theorem ggX10_term_X10_isTerm : GoodIn wsX10_term wsX10_isTerm := goodIn_r _ [14] (by decide +kernel) (by decide +kernel)
set_option maxRecDepth 20000 in
theorem gX10_term_X10_isTerm : GoodIn wsX10_term (va_wsS RX10 117 yX10_isTerm wsX10_isTerm) := goodIn_app (goodIn_of _ (by decide +kernel)) ggX10_term_X10_isTerm
set_option maxRecDepth 20000 in
theorem ggX10_term_X10_isSetOf : GoodIn wsX10_term wsX10_isSetOf := goodIn_r _ [17] (by decide +kernel) (by decide +kernel)
set_option maxRecDepth 20000 in
theorem gX10_term_X10_isSetOf : GoodIn wsX10_term (va_wsS RX10 223 yX10_isSetOf wsX10_isSetOf) := goodIn_app (goodIn_of _ (by decide +kernel)) ggX10_term_X10_isSetOf
set_option maxRecDepth 20000 in
theorem ggX10_term_X6_isFull : GoodIn wsX10_term wsX6_isFull := goodIn_r _ [22, 23, 24, 60, 61, 62, 63, 64] (by decide +kernel) (by decide +kernel)
set_option maxRecDepth 20000 in
theorem gX10_term_X6_isFull : GoodIn wsX10_term (wsV RX10 229 RX6 yX6_isFull wsX6_isFull) := goodIn_app (goodIn_of _ (by decide +kernel)) ggX10_term_X6_isFull
set_option maxRecDepth 20000 in
theorem ggX10_term_X5_init : GoodIn wsX10_term wsX5_init := goodIn_r _ [27, 28, 29, 30, 31, 47, 48, 49, 50, 51, 52, 53, 54, 55, 56, 57, 58, 59] (by decide +kernel) (by decide +kernel)
set_option maxRecDepth 20000 in
theorem gX10_term_X5_init : GoodIn wsX10_term (wsX5_init) := ggX10_term_X5_init
set_option maxRecDepth 20000 in
theorem ggX10_term_X6_append : GoodIn wsX10_term wsX6_append := goodIn_r _ [35, 23, 24, 36, 19, 20, 21, 22, 60, 61, 62, 63, 64] (by decide +kernel) (by decide +kernel)
set_option maxRecDepth 20000 in
theorem gX10_term_X6_append : GoodIn wsX10_term (wsV RX10 242 RX6 yX6_append wsX6_append) := goodIn_app (goodIn_of _ (by decide +kernel)) ggX10_term_X6_append
theorem dX10_term_0 : decode cX10_term 0 = .ok (.iload_n 1, 1) := by decide +kernel
theorem dX10_term_1 : decode cX10_term 1 = .ok (.invokestatic 117, 3) := by decide +kernel
theorem dX10_term_4 : decode cX10_term 4 = .ok (.ifCond .eq 11, 3) := by decide +kernel
theorem dX10_term_7 : decode cX10_term 7 = .ok (.iconst 3, 1) := by decide +kernel
theorem dX10_term_8 : decode cX10_term 8 = .ok (.iload_n 2, 1) := by decide +kernel
theorem dX10_term_9 : decode cX10_term 9 = .ok (.invokestatic 223, 3) := by decide +kernel
theorem dX10_term_12 : decode cX10_term 12 = .ok (.ifCond .ne 13, 3) := by decide +kernel
theorem dX10_term_15 : decode cX10_term 15 = .ok (.new 85, 3) := by decide +kernel
theorem dX10_term_18 : decode cX10_term 18 = .ok (.dup, 1) := by decide +kernel
theorem dX10_term_19 : decode cX10_term 19 = .ok (.ldc 227, 2) := by decide +kernel
theorem dX10_term_21 : decode cX10_term 21 = .ok (.invokespecial 89, 3) := by decide +kernel
theorem dX10_term_24 : decode cX10_term 24 = .ok (.athrow, 1) := by decide +kernel
theorem dX10_term_25 : decode cX10_term 25 = .ok (.aload_n 0, 1) := by decide +kernel
theorem dX10_term_26 : decode cX10_term 26 = .ok (.getfield 28, 3) := by decide +kernel
theorem dX10_term_29 : decode cX10_term 29 = .ok (.invokevirtual 229, 3) := by decide +kernel
theorem dX10_term_32 : decode cX10_term 32 = .ok (.ifCond .eq 13, 3) := by decide +kernel
theorem dX10_term_35 : decode cX10_term 35 = .ok (.new 100, 3) := by decide +kernel
theorem dX10_term_38 : decode cX10_term 38 = .ok (.dup, 1) := by decide +kernel
theorem dX10_term_39 : decode cX10_term 39 = .ok (.ldc 230, 2) := by decide +kernel
theorem dX10_term_41 : decode cX10_term 41 = .ok (.invokespecial 104, 3) := by decide +kernel
theorem dX10_term_44 : decode cX10_term 44 = .ok (.athrow, 1) := by decide +kernel
theorem dX10_term_45 : decode cX10_term 45 = .ok (.new 232, 3) := by decide +kernel
theorem dX10_term_48 : decode cX10_term 48 = .ok (.dup, 1) := by decide +kernel
theorem dX10_term_49 : decode cX10_term 49 = .ok (.iconst 0, 1) := by decide +kernel
theorem dX10_term_50 : decode cX10_term 50 = .ok (.invokespecial 234, 3) := by decide +kernel
theorem dX10_term_53 : decode cX10_term 53 = .ok (.astore_n 3, 1) := by decide +kernel
theorem dX10_term_54 : decode cX10_term 54 = .ok (.aload_n 3, 1) := by decide +kernel
theorem dX10_term_55 : decode cX10_term 55 = .ok (.iload_n 1, 1) := by decide +kernel
theorem dX10_term_56 : decode cX10_term 56 = .ok (.putfield 236, 3) := by decide +kernel
theorem dX10_term_59 : decode cX10_term 59 = .ok (.aload_n 3, 1) := by decide +kernel
theorem dX10_term_60 : decode cX10_term 60 = .ok (.iload_n 2, 1) := by decide +kernel
theorem dX10_term_61 : decode cX10_term 61 = .ok (.putfield 239, 3) := by decide +kernel
theorem dX10_term_64 : decode cX10_term 64 = .ok (.aload_n 0, 1) := by decide +kernel
theorem dX10_term_65 : decode cX10_term 65 = .ok (.getfield 28, 3) := by decide +kernel
theorem dX10_term_68 : decode cX10_term 68 = .ok (.aload_n 3, 1) := by decide +kernel
theorem dX10_term_69 : decode cX10_term 69 = .ok (.invokevirtual 242, 3) := by decide +kernel
theorem dX10_term_72 : decode cX10_term 72 = .ok (.ireturn, 1) := by decide +kernel
set_option maxRecDepth 20000 in
theorem ggX10_and_X10_appendPair : GoodIn wsX10_and wsX10_appendPair := goodIn_ca (goodIn_ca (goodIn_r _ [5, 6, 7, 8, 9, 10, 11, 12, 13, 14, 15, 16, 17, 18, 19, 20, 21, 22, 23, 24, 25, 26, 27, 28, 29, 30, 31, 32, 33, 34, 35, 36, 37, 38, 39, 40, 41, 42, 43, 44, 45, 46, 47, 48, 49, 50, 51, 52, 53, 54, 55, 56, 57, 58, 59, 60, 61, 62, 63, 64, 65, 66, 67, 68, 69, 70] (by decide +kernel) (by decide +kernel)) (goodIn_sub (fun _ h => List.mem_cons_of_mem _ (List.mem_append_left _ (List.mem_append_right _ h))) (by decide +kernel))) (goodIn_sub (fun _ h => List.mem_cons_of_mem _ (List.mem_append_right _ h)) (by decide +kernel))
set_option maxRecDepth 20000 in
theorem gX10_and_X10_appendPair : GoodIn wsX10_and (wsV RX10 245 RX10 yX10_appendPair wsX10_appendPair) := goodIn_app (goodIn_of _ (by decide +kernel)) ggX10_and_X10_appendPair
theorem dX10_and_0 : decode cX10_and 0 = .ok (.aload_n 0, 1) := by decide +kernel
theorem dX10_and_1 : decode cX10_and 1 = .ok (.iconst 1, 1) := by decide +kernel
theorem dX10_and_2 : decode cX10_and 2 = .ok (.iload_n 1, 1) := by decide +kernel
theorem dX10_and_3 : decode cX10_and 3 = .ok (.iload_n 2, 1) := by decide +kernel
theorem dX10_and_4 : decode cX10_and 4 = .ok (.invokevirtual 245, 3) := by decide +kernel
theorem dX10_and_7 : decode cX10_and 7 = .ok (.ireturn, 1) := by decide +kernel
set_option maxRecDepth 20000 in
theorem ggX10_or_X10_appendPair : GoodIn wsX10_or wsX10_appendPair := goodIn_ca (goodIn_ca (goodIn_r _ [5, 6, 7, 8, 9, 10, 11, 12, 13, 14, 15, 16, 17, 18, 19, 20, 21, 22, 23, 24, 25, 26, 27, 28, 29, 30, 31, 32, 33, 34, 35, 36, 37, 38, 39, 40, 41, 42, 43, 44, 45, 46, 47, 48, 49, 50, 51, 52, 53, 54, 55, 56, 57, 58, 59, 60, 61, 62, 63, 64, 65, 66, 67, 68, 69, 70] (by decide +kernel) (by decide +kernel)) (goodIn_sub (fun _ h => List.mem_cons_of_mem _ (List.mem_append_left _ (List.mem_append_right _ h))) (by decide +kernel))) (goodIn_sub (fun _ h => List.mem_cons_of_mem _ (List.mem_append_right _ h)) (by decide +kernel))
set_option maxRecDepth 20000 in
theorem gX10_or_X10_appendPair : GoodIn wsX10_or (wsV RX10 245 RX10 yX10_appendPair wsX10_appendPair) := goodIn_app (goodIn_of _ (by decide +kernel)) ggX10_or_X10_appendPair
theorem dX10_or_0 : decode cX10_or 0 = .ok (.aload_n 0, 1) := by decide +kernel
theorem dX10_or_1 : decode cX10_or 1 = .ok (.iconst 2, 1) := by decide +kernel
theorem dX10_or_2 : decode cX10_or 2 = .ok (.iload_n 1, 1) := by decide +kernel
theorem dX10_or_3 : decode cX10_or 3 = .ok (.iload_n 2, 1) := by decide +kernel
theorem dX10_or_4 : decode cX10_or 4 = .ok (.invokevirtual 245, 3) := by decide +kernel
theorem dX10_or_7 : decode cX10_or 7 = .ok (.ireturn, 1) := by decide +kernel
set_option maxRecDepth 20000 in
theorem ggX10_not_X10_appendPair : GoodIn wsX10_not wsX10_appendPair := goodIn_ca (goodIn_ca (goodIn_r _ [5, 6, 7, 8, 9, 10, 11, 12, 13, 14, 15, 16, 17, 18, 19, 20, 21, 22, 23, 24, 25, 26, 27, 28, 29, 30, 31, 32, 33, 34, 35, 36, 37, 38, 39, 40, 41, 42, 43, 44, 45, 46, 47, 48, 49, 50, 51, 52, 53, 54, 55, 56, 57, 58, 59, 60, 61, 62, 63, 64, 65, 66, 67, 68, 69, 70] (by decide +kernel) (by decide +kernel)) (goodIn_sub (fun _ h => List.mem_cons_of_mem _ (List.mem_append_left _ (List.mem_append_right _ h))) (by decide +kernel))) (goodIn_sub (fun _ h => List.mem_cons_of_mem _ (List.mem_append_right _ h)) (by decide +kernel))
set_option maxRecDepth 20000 in
theorem gX10_not_X10_appendPair : GoodIn wsX10_not (wsV RX10 245 RX10 yX10_appendPair wsX10_appendPair) := goodIn_app (goodIn_of _ (by decide +kernel)) ggX10_not_X10_appendPair
theorem dX10_not_0 : decode cX10_not 0 = .ok (.aload_n 0, 1) := by decide +kernel
theorem dX10_not_1 : decode cX10_not 1 = .ok (.iconst 3, 1) := by decide +kernel
theorem dX10_not_2 : decode cX10_not 2 = .ok (.iload_n 1, 1) := by decide +kernel
theorem dX10_not_3 : decode cX10_not 3 = .ok (.iload_n 2, 1) := by decide +kernel
theorem dX10_not_4 : decode cX10_not 4 = .ok (.invokevirtual 245, 3) := by decide +kernel
theorem dX10_not_7 : decode cX10_not 7 = .ok (.ireturn, 1) := by decide +kernel
set_option maxRecDepth 20000 in
theorem ggX10_appendPair_X6_hasNode : GoodIn wsX10_appendPair wsX6_hasNode := goodIn_r _ [15, 16, 17, 18, 14, 19, 20, 21, 61, 62, 63, 64, 65] (by decide +kernel) (by decide +kernel)
set_option maxRecDepth 20000 in
theorem gX10_appendPair_X6_hasNode : GoodIn wsX10_appendPair (wsV RX10 249 RX6 yX6_hasNode wsX6_hasNode) := goodIn_app (goodIn_of _ (by decide +kernel)) ggX10_appendPair_X6_hasNode
set_option maxRecDepth 20000 in
theorem ggX10_appendPair_X6_isFull : GoodIn wsX10_appendPair wsX6_isFull := goodIn_r _ [25, 20, 21, 61, 62, 63, 64, 65] (by decide +kernel) (by decide +kernel)
set_option maxRecDepth 20000 in
theorem gX10_appendPair_X6_isFull : GoodIn wsX10_appendPair (wsV RX10 229 RX6 yX6_isFull wsX6_isFull) := goodIn_app (goodIn_of _ (by decide +kernel)) ggX10_appendPair_X6_isFull
set_option maxRecDepth 20000 in
theorem ggX10_appendPair_X5_init : GoodIn wsX10_appendPair wsX5_init := goodIn_r _ [28, 29, 30, 31, 32, 48, 49, 50, 51, 52, 53, 54, 55, 56, 57, 58, 59, 60] (by decide +kernel) (by decide +kernel)
set_option maxRecDepth 20000 in
theorem gX10_appendPair_X5_init : GoodIn wsX10_appendPair (wsX5_init) := ggX10_appendPair_X5_init
set_option maxRecDepth 20000 in
theorem ggX10_appendPair_X6_append : GoodIn wsX10_appendPair wsX6_append := goodIn_r _ [36, 20, 21, 37, 23, 24, 14, 25, 61, 62, 63, 64, 65] (by decide +kernel) (by decide +kernel)
set_option maxRecDepth 20000 in
theorem gX10_appendPair_X6_append : GoodIn wsX10_appendPair (wsV RX10 242 RX6 yX6_append wsX6_append) := goodIn_app (goodIn_of _ (by decide +kernel)) ggX10_appendPair_X6_append
theorem dX10_appendPair_0 : decode cX10_appendPair 0 = .ok (.aload_n 0, 1) := by decide +kernel
theorem dX10_appendPair_1 : decode cX10_appendPair 1 = .ok (.getfield 28, 3) := by decide +kernel
theorem dX10_appendPair_4 : decode cX10_appendPair 4 = .ok (.iload_n 2, 1) := by decide +kernel
theorem dX10_appendPair_5 : decode cX10_appendPair 5 = .ok (.invokevirtual 249, 3) := by decide +kernel
theorem dX10_appendPair_8 : decode cX10_appendPair 8 = .ok (.ifCond .eq 14, 3) := by decide +kernel
theorem dX10_appendPair_11 : decode cX10_appendPair 11 = .ok (.aload_n 0, 1) := by decide +kernel
theorem dX10_appendPair_12 : decode cX10_appendPair 12 = .ok (.getfield 28, 3) := by decide +kernel
theorem dX10_appendPair_15 : decode cX10_appendPair 15 = .ok (.iload_n 3, 1) := by decide +kernel
theorem dX10_appendPair_16 : decode cX10_appendPair 16 = .ok (.invokevirtual 249, 3) := by decide +kernel
theorem dX10_appendPair_19 : decode cX10_appendPair 19 = .ok (.ifCond .ne 13, 3) := by decide +kernel
theorem dX10_appendPair_22 : decode cX10_appendPair 22 = .ok (.new 151, 3) := by decide +kernel
theorem dX10_appendPair_25 : decode cX10_appendPair 25 = .ok (.dup, 1) := by decide +kernel
theorem dX10_appendPair_26 : decode cX10_appendPair 26 = .ok (.ldc 252, 2) := by decide +kernel
theorem dX10_appendPair_28 : decode cX10_appendPair 28 = .ok (.invokespecial 155, 3) := by decide +kernel
theorem dX10_appendPair_31 : decode cX10_appendPair 31 = .ok (.athrow, 1) := by decide +kernel
theorem dX10_appendPair_32 : decode cX10_appendPair 32 = .ok (.aload_n 0, 1) := by decide +kernel
theorem dX10_appendPair_33 : decode cX10_appendPair 33 = .ok (.getfield 28, 3) := by decide +kernel
theorem dX10_appendPair_36 : decode cX10_appendPair 36 = .ok (.invokevirtual 229, 3) := by decide +kernel
theorem dX10_appendPair_39 : decode cX10_appendPair 39 = .ok (.ifCond .eq 13, 3) := by decide +kernel
theorem dX10_appendPair_42 : decode cX10_appendPair 42 = .ok (.new 100, 3) := by decide +kernel
theorem dX10_appendPair_45 : decode cX10_appendPair 45 = .ok (.dup, 1) := by decide +kernel
theorem dX10_appendPair_46 : decode cX10_appendPair 46 = .ok (.ldc 230, 2) := by decide +kernel
theorem dX10_appendPair_48 : decode cX10_appendPair 48 = .ok (.invokespecial 104, 3) := by decide +kernel
theorem dX10_appendPair_51 : decode cX10_appendPair 51 = .ok (.athrow, 1) := by decide +kernel
theorem dX10_appendPair_52 : decode cX10_appendPair 52 = .ok (.new 232, 3) := by decide +kernel
theorem dX10_appendPair_55 : decode cX10_appendPair 55 = .ok (.dup, 1) := by decide +kernel
theorem dX10_appendPair_56 : decode cX10_appendPair 56 = .ok (.iload_n 1, 1) := by decide +kernel
theorem dX10_appendPair_57 : decode cX10_appendPair 57 = .ok (.invokespecial 234, 3) := by decide +kernel
theorem dX10_appendPair_60 : decode cX10_appendPair 60 = .ok (.astore 4, 2) := by decide +kernel
theorem dX10_appendPair_62 : decode cX10_appendPair 62 = .ok (.aload 4, 2) := by decide +kernel
theorem dX10_appendPair_64 : decode cX10_appendPair 64 = .ok (.iload_n 2, 1) := by decide +kernel
theorem dX10_appendPair_65 : decode cX10_appendPair 65 = .ok (.putfield 254, 3) := by decide +kernel
theorem dX10_appendPair_68 : decode cX10_appendPair 68 = .ok (.aload 4, 2) := by decide +kernel
theorem dX10_appendPair_70 : decode cX10_appendPair 70 = .ok (.iload_n 3, 1) := by decide +kernel
theorem dX10_appendPair_71 : decode cX10_appendPair 71 = .ok (.putfield 257, 3) := by decide +kernel
theorem dX10_appendPair_74 : decode cX10_appendPair 74 = .ok (.aload_n 0, 1) := by decide +kernel
theorem dX10_appendPair_75 : decode cX10_appendPair 75 = .ok (.getfield 28, 3) := by decide +kernel
theorem dX10_appendPair_78 : decode cX10_appendPair 78 = .ok (.aload 4, 2) := by decide +kernel
theorem dX10_appendPair_80 : decode cX10_appendPair 80 = .ok (.invokevirtual 242, 3) := by decide +kernel
theorem dX10_appendPair_83 : decode cX10_appendPair 83 = .ok (.ireturn, 1) := by decide +kernel
set_option maxRecDepth 20000 in
theorem ggX10_near_X6_nodeAt : GoodIn wsX10_near wsX6_nodeAt := goodIn_r _ [20, 21, 22, 62, 63, 64, 65, 66] (by decide +kernel) (by decide +kernel)
set_option maxRecDepth 20000 in
theorem gX10_near_X6_nodeAt : GoodIn wsX10_near (wsV RX10 260 RX6 yX6_nodeAt wsX6_nodeAt) := goodIn_app (goodIn_of _ (by decide +kernel)) ggX10_near_X6_nodeAt
set_option maxRecDepth 20000 in
theorem ggX10_near_X6_isFull : GoodIn wsX10_near wsX6_isFull := goodIn_r _ [26, 21, 22, 62, 63, 64, 65, 66] (by decide +kernel) (by decide +kernel)
set_option maxRecDepth 20000 in
theorem gX10_near_X6_isFull : GoodIn wsX10_near (wsV RX10 229 RX6 yX6_isFull wsX6_isFull) := goodIn_app (goodIn_of _ (by decide +kernel)) ggX10_near_X6_isFull
set_option maxRecDepth 20000 in
theorem ggX10_near_X5_init : GoodIn wsX10_near wsX5_init := goodIn_r _ [29, 30, 31, 32, 33, 49, 50, 51, 52, 53, 54, 55, 56, 57, 58, 59, 60, 61] (by decide +kernel) (by decide +kernel)
set_option maxRecDepth 20000 in
theorem gX10_near_X5_init : GoodIn wsX10_near (wsX5_init) := ggX10_near_X5_init
set_option maxRecDepth 20000 in
theorem ggX10_near_X6_append : GoodIn wsX10_near wsX6_append := goodIn_r _ [37, 21, 22, 38, 24, 25, 19, 26, 62, 63, 64, 65, 66] (by decide +kernel) (by decide +kernel)
set_option maxRecDepth 20000 in
theorem gX10_near_X6_append : GoodIn wsX10_near (wsV RX10 242 RX6 yX6_append wsX6_append) := goodIn_app (goodIn_of _ (by decide +kernel)) ggX10_near_X6_append
theorem dX10_near_0 : decode cX10_near 0 = .ok (.aload_n 0, 1) := by decide +kernel
theorem dX10_near_1 : decode cX10_near 1 = .ok (.getfield 28, 3) := by decide +kernel
theorem dX10_near_4 : decode cX10_near 4 = .ok (.iload_n 1, 1) := by decide +kernel
theorem dX10_near_5 : decode cX10_near 5 = .ok (.invokevirtual 260, 3) := by decide +kernel
theorem dX10_near_8 : decode cX10_near 8 = .ok (.astore 5, 2) := by decide +kernel
theorem dX10_near_10 : decode cX10_near 10 = .ok (.aload_n 0, 1) := by decide +kernel
theorem dX10_near_11 : decode cX10_near 11 = .ok (.getfield 28, 3) := by decide +kernel
theorem dX10_near_14 : decode cX10_near 14 = .ok (.iload_n 2, 1) := by decide +kernel
theorem dX10_near_15 : decode cX10_near 15 = .ok (.invokevirtual 260, 3) := by decide +kernel
theorem dX10_near_18 : decode cX10_near 18 = .ok (.astore 6, 2) := by decide +kernel
theorem dX10_near_20 : decode cX10_near 20 = .ok (.aload 5, 2) := by decide +kernel
theorem dX10_near_22 : decode cX10_near 22 = .ok (.ifnull 8, 3) := by decide +kernel
theorem dX10_near_25 : decode cX10_near 25 = .ok (.aload 6, 2) := by decide +kernel
theorem dX10_near_27 : decode cX10_near 27 = .ok (.ifnonnull 13, 3) := by decide +kernel
theorem dX10_near_30 : decode cX10_near 30 = .ok (.new 151, 3) := by decide +kernel
theorem dX10_near_33 : decode cX10_near 33 = .ok (.dup, 1) := by decide +kernel
theorem dX10_near_34 : decode cX10_near 34 = .ok (.ldc 252, 2) := by decide +kernel
theorem dX10_near_36 : decode cX10_near 36 = .ok (.invokespecial 155, 3) := by decide +kernel
theorem dX10_near_39 : decode cX10_near 39 = .ok (.athrow, 1) := by decide +kernel
theorem dX10_near_40 : decode cX10_near 40 = .ok (.aload 5, 2) := by decide +kernel
theorem dX10_near_42 : decode cX10_near 42 = .ok (.getfield 264, 3) := by decide +kernel
theorem dX10_near_45 : decode cX10_near 45 = .ok (.ifCond .ne 22, 3) := by decide +kernel
theorem dX10_near_48 : decode cX10_near 48 = .ok (.aload 6, 2) := by decide +kernel
theorem dX10_near_50 : decode cX10_near 50 = .ok (.getfield 264, 3) := by decide +kernel
theorem dX10_near_53 : decode cX10_near 53 = .ok (.ifCond .ne 14, 3) := by decide +kernel
theorem dX10_near_56 : decode cX10_near 56 = .ok (.iload_n 3, 1) := by decide +kernel
theorem dX10_near_57 : decode cX10_near 57 = .ok (.iconst 1, 1) := by decide +kernel
theorem dX10_near_58 : decode cX10_near 58 = .ok (.if_icmp .lt 9, 3) := by decide +kernel
theorem dX10_near_61 : decode cX10_near 61 = .ok (.iload_n 3, 1) := by decide +kernel
theorem dX10_near_62 : decode cX10_near 62 = .ok (.bipush 10, 2) := by decide +kernel
theorem dX10_near_64 : decode cX10_near 64 = .ok (.if_icmp .le 14, 3) := by decide +kernel
theorem dX10_near_67 : decode cX10_near 67 = .ok (.new 85, 3) := by decide +kernel
theorem dX10_near_70 : decode cX10_near 70 = .ok (.dup, 1) := by decide +kernel
theorem dX10_near_71 : decode cX10_near 71 = .ok (.ldc_w 267, 3) := by decide +kernel
theorem dX10_near_74 : decode cX10_near 74 = .ok (.invokespecial 89, 3) := by decide +kernel
theorem dX10_near_77 : decode cX10_near 77 = .ok (.athrow, 1) := by decide +kernel
theorem dX10_near_78 : decode cX10_near 78 = .ok (.aload_n 0, 1) := by decide +kernel
theorem dX10_near_79 : decode cX10_near 79 = .ok (.getfield 28, 3) := by decide +kernel
theorem dX10_near_82 : decode cX10_near 82 = .ok (.invokevirtual 229, 3) := by decide +kernel
theorem dX10_near_85 : decode cX10_near 85 = .ok (.ifCond .eq 13, 3) := by decide +kernel
theorem dX10_near_88 : decode cX10_near 88 = .ok (.new 100, 3) := by decide +kernel
theorem dX10_near_91 : decode cX10_near 91 = .ok (.dup, 1) := by decide +kernel
theorem dX10_near_92 : decode cX10_near 92 = .ok (.ldc 230, 2) := by decide +kernel
theorem dX10_near_94 : decode cX10_near 94 = .ok (.invokespecial 104, 3) := by decide +kernel
theorem dX10_near_97 : decode cX10_near 97 = .ok (.athrow, 1) := by decide +kernel
theorem dX10_near_98 : decode cX10_near 98 = .ok (.new 232, 3) := by decide +kernel
theorem dX10_near_101 : decode cX10_near 101 = .ok (.dup, 1) := by decide +kernel
theorem dX10_near_102 : decode cX10_near 102 = .ok (.iconst 4, 1) := by decide +kernel
theorem dX10_near_103 : decode cX10_near 103 = .ok (.invokespecial 234, 3) := by decide +kernel
theorem dX10_near_106 : decode cX10_near 106 = .ok (.astore 7, 2) := by decide +kernel
theorem dX10_near_108 : decode cX10_near 108 = .ok (.aload 7, 2) := by decide +kernel
theorem dX10_near_110 : decode cX10_near 110 = .ok (.iload_n 1, 1) := by decide +kernel
theorem dX10_near_111 : decode cX10_near 111 = .ok (.putfield 254, 3) := by decide +kernel
theorem dX10_near_114 : decode cX10_near 114 = .ok (.aload 7, 2) := by decide +kernel
theorem dX10_near_116 : decode cX10_near 116 = .ok (.iload_n 2, 1) := by decide +kernel
theorem dX10_near_117 : decode cX10_near 117 = .ok (.putfield 257, 3) := by decide +kernel
theorem dX10_near_120 : decode cX10_near 120 = .ok (.aload 7, 2) := by decide +kernel
theorem dX10_near_122 : decode cX10_near 122 = .ok (.iload_n 3, 1) := by decide +kernel
theorem dX10_near_123 : decode cX10_near 123 = .ok (.putfield 269, 3) := by decide +kernel
theorem dX10_near_126 : decode cX10_near 126 = .ok (.aload 7, 2) := by decide +kernel
theorem dX10_near_128 : decode cX10_near 128 = .ok (.iload 4, 2) := by decide +kernel
theorem dX10_near_130 : decode cX10_near 130 = .ok (.putfield 272, 3) := by decide +kernel
theorem dX10_near_133 : decode cX10_near 133 = .ok (.aload_n 0, 1) := by decide +kernel
theorem dX10_near_134 : decode cX10_near 134 = .ok (.getfield 28, 3) := by decide +kernel
theorem dX10_near_137 : decode cX10_near 137 = .ok (.aload 7, 2) := by decide +kernel
theorem dX10_near_139 : decode cX10_near 139 = .ok (.invokevirtual 242, 3) := by decide +kernel
theorem dX10_near_142 : decode cX10_near 142 = .ok (.ireturn, 1) := by decide +kernel
set_option maxRecDepth 20000 in
theorem ggX10_dated_X10_isDate : GoodIn wsX10_dated wsX10_isDate := goodIn_r _ [14] (by decide +kernel) (by decide +kernel)
set_option maxRecDepth 20000 in
theorem gX10_dated_X10_isDate : GoodIn wsX10_dated (va_wsS RX10 78 yX10_isDate wsX10_isDate) := goodIn_app (goodIn_of _ (by decide +kernel)) ggX10_dated_X10_isDate
set_option maxRecDepth 20000 in
theorem ggX10_dated_X6_isFull : GoodIn wsX10_dated wsX6_isFull := goodIn_r _ [19, 20, 21, 57, 58, 59, 60, 61] (by decide +kernel) (by decide +kernel)
set_option maxRecDepth 20000 in
theorem gX10_dated_X6_isFull : GoodIn wsX10_dated (wsV RX10 229 RX6 yX6_isFull wsX6_isFull) := goodIn_app (goodIn_of _ (by decide +kernel)) ggX10_dated_X6_isFull
set_option maxRecDepth 20000 in
theorem ggX10_dated_X5_init : GoodIn wsX10_dated wsX5_init := goodIn_r _ [24, 25, 26, 27, 28, 44, 45, 46, 47, 48, 49, 50, 51, 52, 53, 54, 55, 56] (by decide +kernel) (by decide +kernel)
set_option maxRecDepth 20000 in
theorem gX10_dated_X5_init : GoodIn wsX10_dated (wsX5_init) := ggX10_dated_X5_init
set_option maxRecDepth 20000 in
theorem ggX10_dated_X6_append : GoodIn wsX10_dated wsX6_append := goodIn_r _ [32, 20, 21, 33, 16, 17, 18, 19, 57, 58, 59, 60, 61] (by decide +kernel) (by decide +kernel)
set_option maxRecDepth 20000 in
theorem gX10_dated_X6_append : GoodIn wsX10_dated (wsV RX10 242 RX6 yX6_append wsX6_append) := goodIn_app (goodIn_of _ (by decide +kernel)) ggX10_dated_X6_append
theorem dX10_dated_0 : decode cX10_dated 0 = .ok (.iload_n 1, 1) := by decide +kernel
theorem dX10_dated_1 : decode cX10_dated 1 = .ok (.invokestatic 78, 3) := by decide +kernel
theorem dX10_dated_4 : decode cX10_dated 4 = .ok (.ifCond .eq 10, 3) := by decide +kernel
theorem dX10_dated_7 : decode cX10_dated 7 = .ok (.iload_n 2, 1) := by decide +kernel
theorem dX10_dated_8 : decode cX10_dated 8 = .ok (.invokestatic 78, 3) := by decide +kernel
theorem dX10_dated_11 : decode cX10_dated 11 = .ok (.ifCond .ne 14, 3) := by decide +kernel
theorem dX10_dated_14 : decode cX10_dated 14 = .ok (.new 85, 3) := by decide +kernel
theorem dX10_dated_17 : decode cX10_dated 17 = .ok (.dup, 1) := by decide +kernel
theorem dX10_dated_18 : decode cX10_dated 18 = .ok (.ldc_w 275, 3) := by decide +kernel
theorem dX10_dated_21 : decode cX10_dated 21 = .ok (.invokespecial 89, 3) := by decide +kernel
theorem dX10_dated_24 : decode cX10_dated 24 = .ok (.athrow, 1) := by decide +kernel
theorem dX10_dated_25 : decode cX10_dated 25 = .ok (.aload_n 0, 1) := by decide +kernel
theorem dX10_dated_26 : decode cX10_dated 26 = .ok (.getfield 28, 3) := by decide +kernel
theorem dX10_dated_29 : decode cX10_dated 29 = .ok (.invokevirtual 229, 3) := by decide +kernel
theorem dX10_dated_32 : decode cX10_dated 32 = .ok (.ifCond .eq 13, 3) := by decide +kernel
theorem dX10_dated_35 : decode cX10_dated 35 = .ok (.new 100, 3) := by decide +kernel
theorem dX10_dated_38 : decode cX10_dated 38 = .ok (.dup, 1) := by decide +kernel
theorem dX10_dated_39 : decode cX10_dated 39 = .ok (.ldc 230, 2) := by decide +kernel
theorem dX10_dated_41 : decode cX10_dated 41 = .ok (.invokespecial 104, 3) := by decide +kernel
theorem dX10_dated_44 : decode cX10_dated 44 = .ok (.athrow, 1) := by decide +kernel
theorem dX10_dated_45 : decode cX10_dated 45 = .ok (.new 232, 3) := by decide +kernel
theorem dX10_dated_48 : decode cX10_dated 48 = .ok (.dup, 1) := by decide +kernel
theorem dX10_dated_49 : decode cX10_dated 49 = .ok (.iconst 5, 1) := by decide +kernel
theorem dX10_dated_50 : decode cX10_dated 50 = .ok (.invokespecial 234, 3) := by decide +kernel
theorem dX10_dated_53 : decode cX10_dated 53 = .ok (.astore_n 3, 1) := by decide +kernel
theorem dX10_dated_54 : decode cX10_dated 54 = .ok (.aload_n 3, 1) := by decide +kernel
theorem dX10_dated_55 : decode cX10_dated 55 = .ok (.iload_n 1, 1) := by decide +kernel
theorem dX10_dated_56 : decode cX10_dated 56 = .ok (.putfield 277, 3) := by decide +kernel
theorem dX10_dated_59 : decode cX10_dated 59 = .ok (.aload_n 3, 1) := by decide +kernel
theorem dX10_dated_60 : decode cX10_dated 60 = .ok (.iload_n 2, 1) := by decide +kernel
theorem dX10_dated_61 : decode cX10_dated 61 = .ok (.putfield 280, 3) := by decide +kernel
theorem dX10_dated_64 : decode cX10_dated 64 = .ok (.aload_n 0, 1) := by decide +kernel
theorem dX10_dated_65 : decode cX10_dated 65 = .ok (.getfield 28, 3) := by decide +kernel
theorem dX10_dated_68 : decode cX10_dated 68 = .ok (.aload_n 3, 1) := by decide +kernel
theorem dX10_dated_69 : decode cX10_dated 69 = .ok (.invokevirtual 242, 3) := by decide +kernel
theorem dX10_dated_72 : decode cX10_dated 72 = .ok (.ireturn, 1) := by decide +kernel
set_option maxRecDepth 20000 in
theorem ggX10_kind_X10_isSetOf : GoodIn wsX10_kind wsX10_isSetOf := goodIn_r _ [13] (by decide +kernel) (by decide +kernel)
set_option maxRecDepth 20000 in
theorem gX10_kind_X10_isSetOf : GoodIn wsX10_kind (va_wsS RX10 223 yX10_isSetOf wsX10_isSetOf) := goodIn_app (goodIn_of _ (by decide +kernel)) ggX10_kind_X10_isSetOf
set_option maxRecDepth 20000 in
theorem ggX10_kind_X6_isFull : GoodIn wsX10_kind wsX6_isFull := goodIn_r _ [18, 19, 20, 56, 57, 58, 59, 60] (by decide +kernel) (by decide +kernel)
set_option maxRecDepth 20000 in
theorem gX10_kind_X6_isFull : GoodIn wsX10_kind (wsV RX10 229 RX6 yX6_isFull wsX6_isFull) := goodIn_app (goodIn_of _ (by decide +kernel)) ggX10_kind_X6_isFull
set_option maxRecDepth 20000 in
theorem ggX10_kind_X5_init : GoodIn wsX10_kind wsX5_init := goodIn_r _ [23, 24, 25, 26, 27, 43, 44, 45, 46, 47, 48, 49, 50, 51, 52, 53, 54, 55] (by decide +kernel) (by decide +kernel)
set_option maxRecDepth 20000 in
theorem gX10_kind_X5_init : GoodIn wsX10_kind (wsX5_init) := ggX10_kind_X5_init
set_option maxRecDepth 20000 in
theorem ggX10_kind_X6_append : GoodIn wsX10_kind wsX6_append := goodIn_r _ [31, 19, 20, 32, 15, 16, 17, 18, 56, 57, 58, 59, 60] (by decide +kernel) (by decide +kernel)
set_option maxRecDepth 20000 in
theorem gX10_kind_X6_append : GoodIn wsX10_kind (wsV RX10 242 RX6 yX6_append wsX6_append) := goodIn_app (goodIn_of _ (by decide +kernel)) ggX10_kind_X6_append
theorem dX10_kind_0 : decode cX10_kind 0 = .ok (.bipush 8, 2) := by decide +kernel
theorem dX10_kind_2 : decode cX10_kind 2 = .ok (.iload_n 1, 1) := by decide +kernel
theorem dX10_kind_3 : decode cX10_kind 3 = .ok (.invokestatic 223, 3) := by decide +kernel
theorem dX10_kind_6 : decode cX10_kind 6 = .ok (.ifCond .ne 14, 3) := by decide +kernel
theorem dX10_kind_9 : decode cX10_kind 9 = .ok (.new 85, 3) := by decide +kernel
theorem dX10_kind_12 : decode cX10_kind 12 = .ok (.dup, 1) := by decide +kernel
theorem dX10_kind_13 : decode cX10_kind 13 = .ok (.ldc_w 283, 3) := by decide +kernel
theorem dX10_kind_16 : decode cX10_kind 16 = .ok (.invokespecial 89, 3) := by decide +kernel
theorem dX10_kind_19 : decode cX10_kind 19 = .ok (.athrow, 1) := by decide +kernel
theorem dX10_kind_20 : decode cX10_kind 20 = .ok (.aload_n 0, 1) := by decide +kernel
theorem dX10_kind_21 : decode cX10_kind 21 = .ok (.getfield 28, 3) := by decide +kernel
theorem dX10_kind_24 : decode cX10_kind 24 = .ok (.invokevirtual 229, 3) := by decide +kernel
theorem dX10_kind_27 : decode cX10_kind 27 = .ok (.ifCond .eq 13, 3) := by decide +kernel
theorem dX10_kind_30 : decode cX10_kind 30 = .ok (.new 100, 3) := by decide +kernel
theorem dX10_kind_33 : decode cX10_kind 33 = .ok (.dup, 1) := by decide +kernel
theorem dX10_kind_34 : decode cX10_kind 34 = .ok (.ldc 230, 2) := by decide +kernel
theorem dX10_kind_36 : decode cX10_kind 36 = .ok (.invokespecial 104, 3) := by decide +kernel
theorem dX10_kind_39 : decode cX10_kind 39 = .ok (.athrow, 1) := by decide +kernel
theorem dX10_kind_40 : decode cX10_kind 40 = .ok (.new 232, 3) := by decide +kernel
theorem dX10_kind_43 : decode cX10_kind 43 = .ok (.dup, 1) := by decide +kernel
theorem dX10_kind_44 : decode cX10_kind 44 = .ok (.bipush 6, 2) := by decide +kernel
theorem dX10_kind_46 : decode cX10_kind 46 = .ok (.invokespecial 234, 3) := by decide +kernel
theorem dX10_kind_49 : decode cX10_kind 49 = .ok (.astore_n 2, 1) := by decide +kernel
theorem dX10_kind_50 : decode cX10_kind 50 = .ok (.aload_n 2, 1) := by decide +kernel
theorem dX10_kind_51 : decode cX10_kind 51 = .ok (.iload_n 1, 1) := by decide +kernel
theorem dX10_kind_52 : decode cX10_kind 52 = .ok (.putfield 285, 3) := by decide +kernel
theorem dX10_kind_55 : decode cX10_kind 55 = .ok (.aload_n 0, 1) := by decide +kernel
theorem dX10_kind_56 : decode cX10_kind 56 = .ok (.getfield 28, 3) := by decide +kernel
theorem dX10_kind_59 : decode cX10_kind 59 = .ok (.aload_n 2, 1) := by decide +kernel
theorem dX10_kind_60 : decode cX10_kind 60 = .ok (.invokevirtual 242, 3) := by decide +kernel
theorem dX10_kind_63 : decode cX10_kind 63 = .ok (.ireturn, 1) := by decide +kernel
set_option maxRecDepth 20000 in
theorem ggX10_scaled_X6_hasNode : GoodIn wsX10_scaled wsX6_hasNode := goodIn_r _ [17, 18, 19, 20, 16, 21, 22, 23, 63, 64, 65, 66, 67] (by decide +kernel) (by decide +kernel)
set_option maxRecDepth 20000 in
theorem gX10_scaled_X6_hasNode : GoodIn wsX10_scaled (wsV RX10 249 RX6 yX6_hasNode wsX6_hasNode) := goodIn_app (goodIn_of _ (by decide +kernel)) ggX10_scaled_X6_hasNode
set_option maxRecDepth 20000 in
theorem ggX10_scaled_X6_isFull : GoodIn wsX10_scaled wsX6_isFull := goodIn_r _ [27, 22, 23, 63, 64, 65, 66, 67] (by decide +kernel) (by decide +kernel)
set_option maxRecDepth 20000 in
theorem gX10_scaled_X6_isFull : GoodIn wsX10_scaled (wsV RX10 229 RX6 yX6_isFull wsX6_isFull) := goodIn_app (goodIn_of _ (by decide +kernel)) ggX10_scaled_X6_isFull
set_option maxRecDepth 20000 in
theorem ggX10_scaled_X5_init : GoodIn wsX10_scaled wsX5_init := goodIn_r _ [30, 31, 32, 33, 34, 50, 51, 52, 53, 54, 55, 56, 57, 58, 59, 60, 61, 62] (by decide +kernel) (by decide +kernel)
set_option maxRecDepth 20000 in
theorem gX10_scaled_X5_init : GoodIn wsX10_scaled (wsX5_init) := ggX10_scaled_X5_init
set_option maxRecDepth 20000 in
theorem ggX10_scaled_X6_append : GoodIn wsX10_scaled wsX6_append := goodIn_r _ [38, 22, 23, 39, 25, 26, 16, 27, 63, 64, 65, 66, 67] (by decide +kernel) (by decide +kernel)
set_option maxRecDepth 20000 in
theorem gX10_scaled_X6_append : GoodIn wsX10_scaled (wsV RX10 242 RX6 yX6_append wsX6_append) := goodIn_app (goodIn_of _ (by decide +kernel)) ggX10_scaled_X6_append
theorem dX10_scaled_0 : decode cX10_scaled 0 = .ok (.aload_n 0, 1) := by decide +kernel
theorem dX10_scaled_1 : decode cX10_scaled 1 = .ok (.getfield 28, 3) := by decide +kernel
theorem dX10_scaled_4 : decode cX10_scaled 4 = .ok (.iload_n 1, 1) := by decide +kernel
theorem dX10_scaled_5 : decode cX10_scaled 5 = .ok (.invokevirtual 249, 3) := by decide +kernel
theorem dX10_scaled_8 : decode cX10_scaled 8 = .ok (.ifCond .ne 13, 3) := by decide +kernel
theorem dX10_scaled_11 : decode cX10_scaled 11 = .ok (.new 151, 3) := by decide +kernel
theorem dX10_scaled_14 : decode cX10_scaled 14 = .ok (.dup, 1) := by decide +kernel
theorem dX10_scaled_15 : decode cX10_scaled 15 = .ok (.ldc 252, 2) := by decide +kernel
theorem dX10_scaled_17 : decode cX10_scaled 17 = .ok (.invokespecial 155, 3) := by decide +kernel
theorem dX10_scaled_20 : decode cX10_scaled 20 = .ok (.athrow, 1) := by decide +kernel
theorem dX10_scaled_21 : decode cX10_scaled 21 = .ok (.iload_n 2, 1) := by decide +kernel
theorem dX10_scaled_22 : decode cX10_scaled 22 = .ok (.ifCond .lt 10, 3) := by decide +kernel
theorem dX10_scaled_25 : decode cX10_scaled 25 = .ok (.iload_n 2, 1) := by decide +kernel
theorem dX10_scaled_26 : decode cX10_scaled 26 = .ok (.sipush 500, 3) := by decide +kernel
theorem dX10_scaled_29 : decode cX10_scaled 29 = .ok (.if_icmp .le 14, 3) := by decide +kernel
theorem dX10_scaled_32 : decode cX10_scaled 32 = .ok (.new 85, 3) := by decide +kernel
theorem dX10_scaled_35 : decode cX10_scaled 35 = .ok (.dup, 1) := by decide +kernel
theorem dX10_scaled_36 : decode cX10_scaled 36 = .ok (.ldc_w 288, 3) := by decide +kernel
theorem dX10_scaled_39 : decode cX10_scaled 39 = .ok (.invokespecial 89, 3) := by decide +kernel
theorem dX10_scaled_42 : decode cX10_scaled 42 = .ok (.athrow, 1) := by decide +kernel
theorem dX10_scaled_43 : decode cX10_scaled 43 = .ok (.aload_n 0, 1) := by decide +kernel
theorem dX10_scaled_44 : decode cX10_scaled 44 = .ok (.getfield 28, 3) := by decide +kernel
theorem dX10_scaled_47 : decode cX10_scaled 47 = .ok (.invokevirtual 229, 3) := by decide +kernel
theorem dX10_scaled_50 : decode cX10_scaled 50 = .ok (.ifCond .eq 13, 3) := by decide +kernel
theorem dX10_scaled_53 : decode cX10_scaled 53 = .ok (.new 100, 3) := by decide +kernel
theorem dX10_scaled_56 : decode cX10_scaled 56 = .ok (.dup, 1) := by decide +kernel
theorem dX10_scaled_57 : decode cX10_scaled 57 = .ok (.ldc 230, 2) := by decide +kernel
theorem dX10_scaled_59 : decode cX10_scaled 59 = .ok (.invokespecial 104, 3) := by decide +kernel
theorem dX10_scaled_62 : decode cX10_scaled 62 = .ok (.athrow, 1) := by decide +kernel
theorem dX10_scaled_63 : decode cX10_scaled 63 = .ok (.new 232, 3) := by decide +kernel
theorem dX10_scaled_66 : decode cX10_scaled 66 = .ok (.dup, 1) := by decide +kernel
theorem dX10_scaled_67 : decode cX10_scaled 67 = .ok (.bipush 7, 2) := by decide +kernel
theorem dX10_scaled_69 : decode cX10_scaled 69 = .ok (.invokespecial 234, 3) := by decide +kernel
theorem dX10_scaled_72 : decode cX10_scaled 72 = .ok (.astore_n 3, 1) := by decide +kernel
theorem dX10_scaled_73 : decode cX10_scaled 73 = .ok (.aload_n 3, 1) := by decide +kernel
theorem dX10_scaled_74 : decode cX10_scaled 74 = .ok (.iload_n 1, 1) := by decide +kernel
theorem dX10_scaled_75 : decode cX10_scaled 75 = .ok (.putfield 254, 3) := by decide +kernel
theorem dX10_scaled_78 : decode cX10_scaled 78 = .ok (.aload_n 3, 1) := by decide +kernel
theorem dX10_scaled_79 : decode cX10_scaled 79 = .ok (.iload_n 2, 1) := by decide +kernel
theorem dX10_scaled_80 : decode cX10_scaled 80 = .ok (.putfield 290, 3) := by decide +kernel
theorem dX10_scaled_83 : decode cX10_scaled 83 = .ok (.aload_n 0, 1) := by decide +kernel
theorem dX10_scaled_84 : decode cX10_scaled 84 = .ok (.getfield 28, 3) := by decide +kernel
theorem dX10_scaled_87 : decode cX10_scaled 87 = .ok (.aload_n 3, 1) := by decide +kernel
theorem dX10_scaled_88 : decode cX10_scaled 88 = .ok (.invokevirtual 242, 3) := by decide +kernel
theorem dX10_scaled_91 : decode cX10_scaled 91 = .ok (.ireturn, 1) := by decide +kernel
set_option maxRecDepth 20000 in
theorem ggX10_most_X6_hasNode : GoodIn wsX10_most wsX6_hasNode := goodIn_r _ [19, 20, 21, 22, 18, 23, 24, 25, 52, 53, 54, 55, 56] (by decide +kernel) (by decide +kernel)
set_option maxRecDepth 20000 in
theorem gX10_most_X6_hasNode : GoodIn wsX10_most (wsV RX10 249 RX6 yX6_hasNode wsX6_hasNode) := goodIn_app (goodIn_of _ (by decide +kernel)) ggX10_most_X6_hasNode
set_option maxRecDepth 20000 in
theorem ggX10_most_X6_isFull : GoodIn wsX10_most wsX6_isFull := goodIn_r _ [29, 24, 25, 52, 53, 54, 55, 56] (by decide +kernel) (by decide +kernel)
set_option maxRecDepth 20000 in
theorem gX10_most_X6_isFull : GoodIn wsX10_most (wsV RX10 229 RX6 yX6_isFull wsX6_isFull) := goodIn_app (goodIn_of _ (by decide +kernel)) ggX10_most_X6_isFull
set_option maxRecDepth 20000 in
theorem ggX10_most_X5_init : GoodIn wsX10_most wsX5_init := goodIn_r _ [32, 33, 34, 35, 36, 57, 58, 59, 60, 61, 62, 63, 64, 65, 66, 67, 68, 69] (by decide +kernel) (by decide +kernel)
set_option maxRecDepth 20000 in
theorem gX10_most_X5_init : GoodIn wsX10_most (wsX5_init) := ggX10_most_X5_init
set_option maxRecDepth 20000 in
theorem ggX10_most_X6_append : GoodIn wsX10_most wsX6_append := goodIn_r _ [40, 24, 25, 41, 27, 28, 18, 29, 52, 53, 54, 55, 56] (by decide +kernel) (by decide +kernel)
set_option maxRecDepth 20000 in
theorem gX10_most_X6_append : GoodIn wsX10_most (wsV RX10 242 RX6 yX6_append wsX6_append) := goodIn_app (goodIn_of _ (by decide +kernel)) ggX10_most_X6_append
theorem dX10_most_0 : decode cX10_most 0 = .ok (.aload_n 0, 1) := by decide +kernel
theorem dX10_most_1 : decode cX10_most 1 = .ok (.getfield 28, 3) := by decide +kernel
theorem dX10_most_4 : decode cX10_most 4 = .ok (.iload_n 1, 1) := by decide +kernel
theorem dX10_most_5 : decode cX10_most 5 = .ok (.invokevirtual 249, 3) := by decide +kernel
theorem dX10_most_8 : decode cX10_most 8 = .ok (.ifCond .eq 16, 3) := by decide +kernel
theorem dX10_most_11 : decode cX10_most 11 = .ok (.iload_n 2, 1) := by decide +kernel
theorem dX10_most_12 : decode cX10_most 12 = .ok (.aload_n 0, 1) := by decide +kernel
theorem dX10_most_13 : decode cX10_most 13 = .ok (.getfield 28, 3) := by decide +kernel
theorem dX10_most_16 : decode cX10_most 16 = .ok (.getfield 293, 3) := by decide +kernel
theorem dX10_most_19 : decode cX10_most 19 = .ok (.iload_n 1, 1) := by decide +kernel
theorem dX10_most_20 : decode cX10_most 20 = .ok (.isub, 1) := by decide +kernel
theorem dX10_most_21 : decode cX10_most 21 = .ok (.if_icmp .le 13, 3) := by decide +kernel
theorem dX10_most_24 : decode cX10_most 24 = .ok (.new 151, 3) := by decide +kernel
theorem dX10_most_27 : decode cX10_most 27 = .ok (.dup, 1) := by decide +kernel
theorem dX10_most_28 : decode cX10_most 28 = .ok (.ldc 252, 2) := by decide +kernel
theorem dX10_most_30 : decode cX10_most 30 = .ok (.invokespecial 155, 3) := by decide +kernel
theorem dX10_most_33 : decode cX10_most 33 = .ok (.athrow, 1) := by decide +kernel
theorem dX10_most_34 : decode cX10_most 34 = .ok (.iload_n 2, 1) := by decide +kernel
theorem dX10_most_35 : decode cX10_most 35 = .ok (.iconst 2, 1) := by decide +kernel
theorem dX10_most_36 : decode cX10_most 36 = .ok (.if_icmp .lt 18, 3) := by decide +kernel
theorem dX10_most_39 : decode cX10_most 39 = .ok (.iload_n 2, 1) := by decide +kernel
theorem dX10_most_40 : decode cX10_most 40 = .ok (.iconst 4, 1) := by decide +kernel
theorem dX10_most_41 : decode cX10_most 41 = .ok (.if_icmp .gt 13, 3) := by decide +kernel
theorem dX10_most_44 : decode cX10_most 44 = .ok (.iload_n 3, 1) := by decide +kernel
theorem dX10_most_45 : decode cX10_most 45 = .ok (.iconst 1, 1) := by decide +kernel
theorem dX10_most_46 : decode cX10_most 46 = .ok (.if_icmp .lt 8, 3) := by decide +kernel
theorem dX10_most_49 : decode cX10_most 49 = .ok (.iload_n 3, 1) := by decide +kernel
theorem dX10_most_50 : decode cX10_most 50 = .ok (.iload_n 2, 1) := by decide +kernel
theorem dX10_most_51 : decode cX10_most 51 = .ok (.if_icmp .le 14, 3) := by decide +kernel
theorem dX10_most_54 : decode cX10_most 54 = .ok (.new 85, 3) := by decide +kernel
theorem dX10_most_57 : decode cX10_most 57 = .ok (.dup, 1) := by decide +kernel
theorem dX10_most_58 : decode cX10_most 58 = .ok (.ldc_w 294, 3) := by decide +kernel
theorem dX10_most_61 : decode cX10_most 61 = .ok (.invokespecial 89, 3) := by decide +kernel
theorem dX10_most_64 : decode cX10_most 64 = .ok (.athrow, 1) := by decide +kernel
theorem dX10_most_65 : decode cX10_most 65 = .ok (.aload_n 0, 1) := by decide +kernel
theorem dX10_most_66 : decode cX10_most 66 = .ok (.getfield 28, 3) := by decide +kernel
theorem dX10_most_69 : decode cX10_most 69 = .ok (.invokevirtual 229, 3) := by decide +kernel
theorem dX10_most_72 : decode cX10_most 72 = .ok (.ifCond .eq 13, 3) := by decide +kernel
theorem dX10_most_75 : decode cX10_most 75 = .ok (.new 100, 3) := by decide +kernel
theorem dX10_most_78 : decode cX10_most 78 = .ok (.dup, 1) := by decide +kernel
theorem dX10_most_79 : decode cX10_most 79 = .ok (.ldc 230, 2) := by decide +kernel
theorem dX10_most_81 : decode cX10_most 81 = .ok (.invokespecial 104, 3) := by decide +kernel
theorem dX10_most_84 : decode cX10_most 84 = .ok (.athrow, 1) := by decide +kernel
theorem dX10_most_85 : decode cX10_most 85 = .ok (.new 232, 3) := by decide +kernel
theorem dX10_most_88 : decode cX10_most 88 = .ok (.dup, 1) := by decide +kernel
theorem dX10_most_89 : decode cX10_most 89 = .ok (.bipush 8, 2) := by decide +kernel
theorem dX10_most_91 : decode cX10_most 91 = .ok (.invokespecial 234, 3) := by decide +kernel
theorem dX10_most_94 : decode cX10_most 94 = .ok (.astore 4, 2) := by decide +kernel
theorem dX10_most_96 : decode cX10_most 96 = .ok (.aload 4, 2) := by decide +kernel
theorem dX10_most_98 : decode cX10_most 98 = .ok (.iload_n 1, 1) := by decide +kernel
theorem dX10_most_99 : decode cX10_most 99 = .ok (.putfield 254, 3) := by decide +kernel
theorem dX10_most_102 : decode cX10_most 102 = .ok (.aload 4, 2) := by decide +kernel
theorem dX10_most_104 : decode cX10_most 104 = .ok (.iload_n 2, 1) := by decide +kernel
theorem dX10_most_105 : decode cX10_most 105 = .ok (.putfield 296, 3) := by decide +kernel
theorem dX10_most_108 : decode cX10_most 108 = .ok (.aload 4, 2) := by decide +kernel
theorem dX10_most_110 : decode cX10_most 110 = .ok (.iload_n 3, 1) := by decide +kernel
theorem dX10_most_111 : decode cX10_most 111 = .ok (.putfield 299, 3) := by decide +kernel
theorem dX10_most_114 : decode cX10_most 114 = .ok (.aload_n 0, 1) := by decide +kernel
theorem dX10_most_115 : decode cX10_most 115 = .ok (.getfield 28, 3) := by decide +kernel
theorem dX10_most_118 : decode cX10_most 118 = .ok (.aload 4, 2) := by decide +kernel
theorem dX10_most_120 : decode cX10_most 120 = .ok (.invokevirtual 242, 3) := by decide +kernel
theorem dX10_most_123 : decode cX10_most 123 = .ok (.ireturn, 1) := by decide +kernel
set_option maxRecDepth 20000 in
theorem ggX10_clear_X6_dropAll : GoodIn wsX10_clear wsX6_dropAll := goodIn_r _ [6, 7, 18, 19, 20, 21, 22] (by decide +kernel) (by decide +kernel)
set_option maxRecDepth 20000 in
theorem gX10_clear_X6_dropAll : GoodIn wsX10_clear (wsV RX10 302 RX6 yX6_dropAll wsX6_dropAll) := goodIn_app (goodIn_of _ (by decide +kernel)) ggX10_clear_X6_dropAll
theorem dX10_clear_0 : decode cX10_clear 0 = .ok (.aload_n 0, 1) := by decide +kernel
theorem dX10_clear_1 : decode cX10_clear 1 = .ok (.getfield 28, 3) := by decide +kernel
theorem dX10_clear_4 : decode cX10_clear 4 = .ok (.invokevirtual 302, 3) := by decide +kernel
theorem dX10_clear_7 : decode cX10_clear 7 = .ok (.ireturn, 1) := by decide +kernel
theorem dX10_nodes_0 : decode cX10_nodes 0 = .ok (.aload_n 0, 1) := by decide +kernel
theorem dX10_nodes_1 : decode cX10_nodes 1 = .ok (.getfield 28, 3) := by decide +kernel
theorem dX10_nodes_4 : decode cX10_nodes 4 = .ok (.getfield 293, 3) := by decide +kernel
theorem dX10_nodes_7 : decode cX10_nodes 7 = .ok (.ireturn, 1) := by decide +kernel
set_option maxRecDepth 20000 in
theorem ggX10_score_X0_documentAt : GoodIn wsX10_score wsX0_documentAt := goodIn_r _ [10, 11, 12, 192, 193, 194, 195, 196, 197] (by decide +kernel) (by decide +kernel)
set_option maxRecDepth 20000 in
theorem gX10_score_X0_documentAt : GoodIn wsX10_score (wsV RX10 147 RX0 yX0_documentAt wsX0_documentAt) := goodIn_app (goodIn_of _ (by decide +kernel)) ggX10_score_X0_documentAt
set_option maxRecDepth 20000 in
theorem ggX10_score_X6_hasNode : GoodIn wsX10_score wsX6_hasNode := goodIn_r _ [17, 18, 19, 20, 16, 21, 22, 23, 198, 199, 200, 201, 202] (by decide +kernel) (by decide +kernel)
set_option maxRecDepth 20000 in
theorem gX10_score_X6_hasNode : GoodIn wsX10_score (wsV RX10 249 RX6 yX6_hasNode wsX6_hasNode) := goodIn_app (goodIn_of _ (by decide +kernel)) ggX10_score_X6_hasNode
set_option maxRecDepth 20000 in
theorem ggX10_score_X2_canBeFound : GoodIn wsX10_score wsX2_canBeFound := goodIn_r _ [28, 29, 30, 31, 32, 27, 33, 34, 203, 204, 205, 206, 207] (by decide +kernel) (by decide +kernel)
set_option maxRecDepth 20000 in
theorem gX10_score_X2_canBeFound : GoodIn wsX10_score (wsV RX10 307 RX2 yX2_canBeFound wsX2_canBeFound) := goodIn_app (goodIn_of _ (by decide +kernel)) ggX10_score_X2_canBeFound
set_option maxRecDepth 20000 in
theorem ggX10_score_X8_scoreOf : GoodIn wsX10_score wsX8_scoreOf := goodIn_r _ [39, 40, 41, 42, 43, 44, 45, 46, 47, 19, 20, 16, 21, 22, 23, 48, 49, 50, 38, 51, 52, 53, 54, 55, 56, 57, 58, 59, 60, 61, 62, 63, 64, 65, 66, 67, 68, 69, 70, 71, 72, 73, 74, 75, 76, 77, 78, 79, 80, 81, 82, 83, 84, 85, 86, 87, 27, 88, 89, 90, 91, 92, 93, 94, 95, 96, 97, 98, 99, 100, 101, 102, 103, 104, 105, 106, 107, 108, 109, 110, 111, 112, 113, 114, 115, 116, 117, 118, 119, 120, 121, 122, 123, 124, 125, 126, 127, 128, 129, 130, 131, 132, 133, 134, 135, 136, 137, 138, 139, 140, 141, 142, 143, 144, 145, 146, 147, 148, 149, 150, 151, 152, 153, 154, 155, 156, 157, 158, 159, 160, 161, 162, 163, 164, 165, 166, 167, 168, 169, 170, 171, 172, 173, 174, 175, 176, 177, 178, 179, 180, 181, 208, 209, 210, 211, 212, 198, 199, 200, 201, 202, 213, 214, 215, 216, 217, 218, 219, 220, 221, 222, 223, 224, 225, 203, 204, 205, 206, 207, 226, 227, 228, 229, 230, 231, 232, 233, 234, 235, 236] (by decide +kernel) (by decide +kernel)
set_option maxRecDepth 20000 in
theorem gX10_score_X8_scoreOf : GoodIn wsX10_score (wsV RX10 310 RX8 yX8_scoreOf wsX8_scoreOf) := goodIn_app (goodIn_of _ (by decide +kernel)) ggX10_score_X8_scoreOf
theorem dX10_score_0 : decode cX10_score 0 = .ok (.aload_n 0, 1) := by decide +kernel
theorem dX10_score_1 : decode cX10_score 1 = .ok (.getfield 10, 3) := by decide +kernel
theorem dX10_score_4 : decode cX10_score 4 = .ok (.iload_n 2, 1) := by decide +kernel
theorem dX10_score_5 : decode cX10_score 5 = .ok (.invokevirtual 147, 3) := by decide +kernel
theorem dX10_score_8 : decode cX10_score 8 = .ok (.astore_n 3, 1) := by decide +kernel
theorem dX10_score_9 : decode cX10_score 9 = .ok (.aload_n 0, 1) := by decide +kernel
theorem dX10_score_10 : decode cX10_score 10 = .ok (.getfield 28, 3) := by decide +kernel
theorem dX10_score_13 : decode cX10_score 13 = .ok (.iload_n 1, 1) := by decide +kernel
theorem dX10_score_14 : decode cX10_score 14 = .ok (.invokevirtual 249, 3) := by decide +kernel
theorem dX10_score_17 : decode cX10_score 17 = .ok (.ifCond .eq 7, 3) := by decide +kernel
theorem dX10_score_20 : decode cX10_score 20 = .ok (.aload_n 3, 1) := by decide +kernel
theorem dX10_score_21 : decode cX10_score 21 = .ok (.ifnonnull 14, 3) := by decide +kernel
theorem dX10_score_24 : decode cX10_score 24 = .ok (.new 151, 3) := by decide +kernel
theorem dX10_score_27 : decode cX10_score 27 = .ok (.dup, 1) := by decide +kernel
theorem dX10_score_28 : decode cX10_score 28 = .ok (.ldc_w 305, 3) := by decide +kernel
theorem dX10_score_31 : decode cX10_score 31 = .ok (.invokespecial 155, 3) := by decide +kernel
theorem dX10_score_34 : decode cX10_score 34 = .ok (.athrow, 1) := by decide +kernel
theorem dX10_score_35 : decode cX10_score 35 = .ok (.aload_n 3, 1) := by decide +kernel
theorem dX10_score_36 : decode cX10_score 36 = .ok (.invokevirtual 307, 3) := by decide +kernel
theorem dX10_score_39 : decode cX10_score 39 = .ok (.ifCond .eq 15, 3) := by decide +kernel
theorem dX10_score_42 : decode cX10_score 42 = .ok (.aload_n 0, 1) := by decide +kernel
theorem dX10_score_43 : decode cX10_score 43 = .ok (.getfield 63, 3) := by decide +kernel
theorem dX10_score_46 : decode cX10_score 46 = .ok (.aload_n 3, 1) := by decide +kernel
theorem dX10_score_47 : decode cX10_score 47 = .ok (.iload_n 1, 1) := by decide +kernel
theorem dX10_score_48 : decode cX10_score 48 = .ok (.invokevirtual 310, 3) := by decide +kernel
theorem dX10_score_51 : decode cX10_score 51 = .ok (.goto 4, 3) := by decide +kernel
theorem dX10_score_54 : decode cX10_score 54 = .ok (.iconst (-1), 1) := by decide +kernel
theorem dX10_score_55 : decode cX10_score 55 = .ok (.ireturn, 1) := by decide +kernel
set_option maxRecDepth 20000 in
theorem ggX10_found_X6_hasNode : GoodIn wsX10_found wsX6_hasNode := goodIn_r _ [10, 11, 12, 13, 9, 14, 15, 16, 204, 205, 206, 207, 208] (by decide +kernel) (by decide +kernel)
set_option maxRecDepth 20000 in
theorem gX10_found_X6_hasNode : GoodIn wsX10_found (wsV RX10 249 RX6 yX6_hasNode wsX6_hasNode) := goodIn_app (goodIn_of _ (by decide +kernel)) ggX10_found_X6_hasNode
set_option maxRecDepth 20000 in
theorem ggX10_found_X10_scoreNow : GoodIn wsX10_found wsX10_scoreNow := goodIn_r _ [21, 4, 22, 23, 24, 25, 26, 27, 28, 29, 30, 31, 32, 33, 34, 35, 36, 37, 38, 39, 40, 41, 42, 43, 44, 45, 46, 47, 48, 49, 50, 51, 52, 53, 12, 13, 9, 14, 15, 16, 54, 55, 56, 57, 58, 59, 60, 61, 62, 63, 64, 65, 66, 67, 68, 69, 70, 71, 72, 73, 74, 75, 76, 77, 78, 79, 80, 81, 82, 83, 84, 85, 86, 87, 88, 89, 90, 91, 92, 93, 94, 95, 96, 97, 98, 99, 100, 101, 102, 103, 104, 105, 106, 107, 108, 109, 110, 111, 112, 113, 114, 115, 116, 117, 118, 119, 120, 121, 122, 123, 124, 125, 126, 127, 128, 129, 130, 131, 132, 133, 134, 135, 136, 137, 138, 139, 140, 141, 142, 143, 144, 145, 146, 147, 148, 149, 150, 151, 152, 153, 154, 155, 156, 157, 158, 159, 160, 161, 162, 163, 164, 165, 166, 167, 168, 169, 170, 171, 172, 173, 174, 175, 176, 177, 178, 179, 180, 181, 182, 183, 184, 185, 186, 187, 188, 189, 190, 191, 192, 193, 194, 195, 196, 197, 198, 199, 200, 201, 202, 203, 209, 210, 211, 212, 213, 214, 215, 216, 217, 218, 204, 205, 206, 207, 208, 219, 220, 221, 222, 223, 224, 225, 226, 227, 228, 229, 230, 231, 232, 233, 234, 235, 236, 237, 238, 239, 240, 241, 242] (by decide +kernel) (by decide +kernel)
set_option maxRecDepth 20000 in
theorem gX10_found_X10_scoreNow : GoodIn wsX10_found (wsV RX10 314 RX10 yX10_scoreNow wsX10_scoreNow) := goodIn_app (goodIn_of _ (by decide +kernel)) ggX10_found_X10_scoreNow
theorem dX10_found_0 : decode cX10_found 0 = .ok (.aload_n 0, 1) := by decide +kernel
theorem dX10_found_1 : decode cX10_found 1 = .ok (.getfield 28, 3) := by decide +kernel
theorem dX10_found_4 : decode cX10_found 4 = .ok (.iload_n 1, 1) := by decide +kernel
theorem dX10_found_5 : decode cX10_found 5 = .ok (.invokevirtual 249, 3) := by decide +kernel
theorem dX10_found_8 : decode cX10_found 8 = .ok (.ifCond .ne 13, 3) := by decide +kernel
theorem dX10_found_11 : decode cX10_found 11 = .ok (.new 151, 3) := by decide +kernel
theorem dX10_found_14 : decode cX10_found 14 = .ok (.dup, 1) := by decide +kernel
theorem dX10_found_15 : decode cX10_found 15 = .ok (.ldc 252, 2) := by decide +kernel
theorem dX10_found_17 : decode cX10_found 17 = .ok (.invokespecial 155, 3) := by decide +kernel
theorem dX10_found_20 : decode cX10_found 20 = .ok (.athrow, 1) := by decide +kernel
theorem dX10_found_21 : decode cX10_found 21 = .ok (.iconst 0, 1) := by decide +kernel
theorem dX10_found_22 : decode cX10_found 22 = .ok (.istore_n 2, 1) := by decide +kernel
theorem dX10_found_23 : decode cX10_found 23 = .ok (.iconst 0, 1) := by decide +kernel
theorem dX10_found_24 : decode cX10_found 24 = .ok (.istore_n 3, 1) := by decide +kernel
theorem dX10_found_25 : decode cX10_found 25 = .ok (.iload_n 3, 1) := by decide +kernel
theorem dX10_found_26 : decode cX10_found 26 = .ok (.aload_n 0, 1) := by decide +kernel
theorem dX10_found_27 : decode cX10_found 27 = .ok (.getfield 10, 3) := by decide +kernel
theorem dX10_found_30 : decode cX10_found 30 = .ok (.getfield 110, 3) := by decide +kernel
theorem dX10_found_33 : decode cX10_found 33 = .ok (.if_icmp .ge 22, 3) := by decide +kernel
theorem dX10_found_36 : decode cX10_found 36 = .ok (.aload_n 0, 1) := by decide +kernel
theorem dX10_found_37 : decode cX10_found 37 = .ok (.iload_n 3, 1) := by decide +kernel
theorem dX10_found_38 : decode cX10_found 38 = .ok (.iload_n 1, 1) := by decide +kernel
theorem dX10_found_39 : decode cX10_found 39 = .ok (.invokevirtual 314, 3) := by decide +kernel
theorem dX10_found_42 : decode cX10_found 42 = .ok (.iconst (-1), 1) := by decide +kernel
theorem dX10_found_43 : decode cX10_found 43 = .ok (.if_icmp .eq 6, 3) := by decide +kernel
theorem dX10_found_46 : decode cX10_found 46 = .ok (.iinc 2 1, 3) := by decide +kernel
theorem dX10_found_49 : decode cX10_found 49 = .ok (.iinc 3 1, 3) := by decide +kernel
theorem dX10_found_52 : decode cX10_found 52 = .ok (.goto (-27), 3) := by decide +kernel
theorem dX10_found_55 : decode cX10_found 55 = .ok (.iload_n 2, 1) := by decide +kernel
theorem dX10_found_56 : decode cX10_found 56 = .ok (.ireturn, 1) := by decide +kernel
set_option maxRecDepth 20000 in
theorem ggX10_scoreNow_X0_documentAt : GoodIn wsX10_scoreNow wsX0_documentAt := goodIn_r _ [7, 8, 9, 184, 185, 186, 187, 188, 189] (by decide +kernel) (by decide +kernel)
set_option maxRecDepth 20000 in
theorem gX10_scoreNow_X0_documentAt : GoodIn wsX10_scoreNow (wsV RX10 147 RX0 yX0_documentAt wsX0_documentAt) := goodIn_app (goodIn_of _ (by decide +kernel)) ggX10_scoreNow_X0_documentAt
set_option maxRecDepth 20000 in
theorem ggX10_scoreNow_X2_canBeFound : GoodIn wsX10_scoreNow wsX2_canBeFound := goodIn_r _ [14, 15, 16, 17, 18, 13, 19, 20, 190, 191, 192, 193, 194] (by decide +kernel) (by decide +kernel)
set_option maxRecDepth 20000 in
theorem gX10_scoreNow_X2_canBeFound : GoodIn wsX10_scoreNow (wsV RX10 307 RX2 yX2_canBeFound wsX2_canBeFound) := goodIn_app (goodIn_of _ (by decide +kernel)) ggX10_scoreNow_X2_canBeFound
set_option maxRecDepth 20000 in
theorem ggX10_scoreNow_X8_scoreOf : GoodIn wsX10_scoreNow wsX8_scoreOf := goodIn_r _ [25, 26, 27, 28, 29, 30, 31, 32, 33, 34, 35, 36, 37, 38, 39, 40, 41, 42, 24, 43, 44, 45, 46, 47, 48, 49, 50, 51, 52, 53, 54, 55, 56, 57, 58, 59, 60, 61, 62, 63, 64, 65, 66, 67, 68, 69, 70, 71, 72, 73, 74, 75, 76, 77, 78, 79, 13, 80, 81, 82, 83, 84, 85, 86, 87, 88, 89, 90, 91, 92, 93, 94, 95, 96, 97, 98, 99, 100, 101, 102, 103, 104, 105, 106, 107, 108, 109, 110, 111, 112, 113, 114, 115, 116, 117, 118, 119, 120, 121, 122, 123, 124, 125, 126, 127, 128, 129, 130, 131, 132, 133, 134, 135, 136, 137, 138, 139, 140, 141, 142, 143, 144, 145, 146, 147, 148, 149, 150, 151, 152, 153, 154, 155, 156, 157, 158, 159, 160, 161, 162, 163, 164, 165, 166, 167, 168, 169, 170, 171, 172, 173, 195, 196, 197, 198, 199, 200, 201, 202, 203, 204, 205, 206, 207, 208, 209, 210, 211, 212, 213, 214, 215, 216, 217, 190, 191, 192, 193, 194, 218, 219, 220, 221, 222, 223, 224, 225, 226, 227, 228] (by decide +kernel) (by decide +kernel)
set_option maxRecDepth 20000 in
theorem gX10_scoreNow_X8_scoreOf : GoodIn wsX10_scoreNow (wsV RX10 310 RX8 yX8_scoreOf wsX8_scoreOf) := goodIn_app (goodIn_of _ (by decide +kernel)) ggX10_scoreNow_X8_scoreOf
theorem dX10_scoreNow_0 : decode cX10_scoreNow 0 = .ok (.aload_n 0, 1) := by decide +kernel
theorem dX10_scoreNow_1 : decode cX10_scoreNow 1 = .ok (.getfield 10, 3) := by decide +kernel
theorem dX10_scoreNow_4 : decode cX10_scoreNow 4 = .ok (.iload_n 1, 1) := by decide +kernel
theorem dX10_scoreNow_5 : decode cX10_scoreNow 5 = .ok (.invokevirtual 147, 3) := by decide +kernel
theorem dX10_scoreNow_8 : decode cX10_scoreNow 8 = .ok (.astore_n 3, 1) := by decide +kernel
theorem dX10_scoreNow_9 : decode cX10_scoreNow 9 = .ok (.aload_n 3, 1) := by decide +kernel
theorem dX10_scoreNow_10 : decode cX10_scoreNow 10 = .ok (.ifnull 10, 3) := by decide +kernel
theorem dX10_scoreNow_13 : decode cX10_scoreNow 13 = .ok (.aload_n 3, 1) := by decide +kernel
theorem dX10_scoreNow_14 : decode cX10_scoreNow 14 = .ok (.invokevirtual 307, 3) := by decide +kernel
theorem dX10_scoreNow_17 : decode cX10_scoreNow 17 = .ok (.ifCond .ne 7, 3) := by decide +kernel
theorem dX10_scoreNow_20 : decode cX10_scoreNow 20 = .ok (.iconst (-1), 1) := by decide +kernel
theorem dX10_scoreNow_21 : decode cX10_scoreNow 21 = .ok (.goto 12, 3) := by decide +kernel
theorem dX10_scoreNow_24 : decode cX10_scoreNow 24 = .ok (.aload_n 0, 1) := by decide +kernel
theorem dX10_scoreNow_25 : decode cX10_scoreNow 25 = .ok (.getfield 63, 3) := by decide +kernel
theorem dX10_scoreNow_28 : decode cX10_scoreNow 28 = .ok (.aload_n 3, 1) := by decide +kernel
theorem dX10_scoreNow_29 : decode cX10_scoreNow 29 = .ok (.iload_n 2, 1) := by decide +kernel
theorem dX10_scoreNow_30 : decode cX10_scoreNow 30 = .ok (.invokevirtual 310, 3) := by decide +kernel
theorem dX10_scoreNow_33 : decode cX10_scoreNow 33 = .ok (.ireturn, 1) := by decide +kernel
set_option maxRecDepth 20000 in
theorem ggX10_search_X6_hasNode : GoodIn wsX10_search wsX6_hasNode := goodIn_r _ [12, 13, 14, 15, 11, 16, 17, 18, 240, 241, 242, 243, 244] (by decide +kernel) (by decide +kernel)
set_option maxRecDepth 20000 in
theorem gX10_search_X6_hasNode : GoodIn wsX10_search (wsV RX10 249 RX6 yX6_hasNode wsX6_hasNode) := goodIn_app (goodIn_of _ (by decide +kernel)) ggX10_search_X6_hasNode
set_option maxRecDepth 20000 in
theorem ggX10_search_X7_dropAll : GoodIn wsX10_search wsX7_dropAll := goodIn_r _ [23, 24, 236, 237, 238, 239] (by decide +kernel) (by decide +kernel)
set_option maxRecDepth 20000 in
theorem gX10_search_X7_dropAll : GoodIn wsX10_search (wsV RX10 317 RX7 yX7_dropAll wsX7_dropAll) := goodIn_app (goodIn_of _ (by decide +kernel)) ggX10_search_X7_dropAll
set_option maxRecDepth 20000 in
theorem ggX10_search_X10_scoreNow : GoodIn wsX10_search wsX10_scoreNow := goodIn_r _ [29, 5, 30, 31, 32, 33, 34, 35, 36, 37, 38, 39, 40, 41, 42, 43, 44, 45, 46, 47, 48, 49, 50, 51, 52, 53, 54, 55, 56, 57, 58, 59, 60, 61, 14, 15, 11, 16, 17, 18, 62, 63, 64, 65, 66, 67, 68, 69, 70, 71, 72, 73, 74, 75, 76, 77, 78, 79, 80, 81, 82, 83, 84, 85, 86, 87, 88, 89, 90, 91, 92, 93, 94, 95, 96, 97, 98, 99, 100, 101, 102, 103, 104, 105, 106, 107, 108, 109, 110, 111, 112, 113, 114, 115, 116, 117, 118, 119, 120, 121, 122, 123, 124, 125, 126, 127, 128, 129, 130, 131, 132, 133, 134, 135, 136, 137, 138, 139, 140, 141, 142, 143, 144, 145, 146, 147, 148, 149, 150, 151, 152, 153, 154, 155, 156, 157, 158, 159, 160, 161, 162, 163, 164, 165, 166, 167, 168, 169, 170, 171, 172, 173, 174, 175, 176, 177, 178, 179, 180, 181, 182, 183, 184, 185, 186, 187, 188, 189, 190, 191, 192, 193, 194, 195, 220, 221, 222, 223, 224, 225, 226, 227, 228, 229, 230, 231, 232, 233, 234, 235, 245, 246, 247, 248, 249, 250, 251, 252, 253, 254, 240, 241, 242, 243, 244, 255, 256, 257, 258, 259, 260, 261, 262, 263, 264, 265, 266, 267, 268, 269, 270, 271, 272, 273, 274, 275, 276, 277, 278] (by decide +kernel) (by decide +kernel)
set_option maxRecDepth 20000 in
theorem gX10_search_X10_scoreNow : GoodIn wsX10_search (wsV RX10 314 RX10 yX10_scoreNow wsX10_scoreNow) := goodIn_app (goodIn_of _ (by decide +kernel)) ggX10_search_X10_scoreNow
set_option maxRecDepth 20000 in
theorem ggX10_search_X0_documentAt : GoodIn wsX10_search wsX0_documentAt := goodIn_r _ [35, 36, 37, 230, 231, 232, 233, 234, 235] (by decide +kernel) (by decide +kernel)
set_option maxRecDepth 20000 in
theorem gX10_search_X0_documentAt : GoodIn wsX10_search (wsV RX10 147 RX0 yX0_documentAt wsX0_documentAt) := goodIn_app (goodIn_of _ (by decide +kernel)) ggX10_search_X0_documentAt
set_option maxRecDepth 20000 in
theorem ggX10_search_X7_insert : GoodIn wsX10_search wsX7_insert := goodIn_r _ [199, 24, 200, 201, 202, 203, 204, 205, 22, 206, 207, 208, 209, 210, 211, 212, 213, 214, 215, 216, 217, 218, 219, 236, 237, 238, 239, 245, 246, 247, 248, 249] (by decide +kernel) (by decide +kernel)
set_option maxRecDepth 20000 in
theorem gX10_search_X7_insert : GoodIn wsX10_search (wsV RX10 319 RX7 yX7_insert wsX7_insert) := goodIn_app (goodIn_of _ (by decide +kernel)) ggX10_search_X7_insert
theorem dX10_search_0 : decode cX10_search 0 = .ok (.aload_n 0, 1) := by decide +kernel
theorem dX10_search_1 : decode cX10_search 1 = .ok (.getfield 28, 3) := by decide +kernel
theorem dX10_search_4 : decode cX10_search 4 = .ok (.iload_n 1, 1) := by decide +kernel
theorem dX10_search_5 : decode cX10_search 5 = .ok (.invokevirtual 249, 3) := by decide +kernel
theorem dX10_search_8 : decode cX10_search 8 = .ok (.ifCond .ne 13, 3) := by decide +kernel
theorem dX10_search_11 : decode cX10_search 11 = .ok (.new 151, 3) := by decide +kernel
theorem dX10_search_14 : decode cX10_search 14 = .ok (.dup, 1) := by decide +kernel
theorem dX10_search_15 : decode cX10_search 15 = .ok (.ldc 252, 2) := by decide +kernel
theorem dX10_search_17 : decode cX10_search 17 = .ok (.invokespecial 155, 3) := by decide +kernel
theorem dX10_search_20 : decode cX10_search 20 = .ok (.athrow, 1) := by decide +kernel
theorem dX10_search_21 : decode cX10_search 21 = .ok (.aload_n 0, 1) := by decide +kernel
theorem dX10_search_22 : decode cX10_search 22 = .ok (.getfield 35, 3) := by decide +kernel
theorem dX10_search_25 : decode cX10_search 25 = .ok (.invokevirtual 317, 3) := by decide +kernel
theorem dX10_search_28 : decode cX10_search 28 = .ok (.iconst 0, 1) := by decide +kernel
theorem dX10_search_29 : decode cX10_search 29 = .ok (.istore_n 2, 1) := by decide +kernel
theorem dX10_search_30 : decode cX10_search 30 = .ok (.iload_n 2, 1) := by decide +kernel
theorem dX10_search_31 : decode cX10_search 31 = .ok (.aload_n 0, 1) := by decide +kernel
theorem dX10_search_32 : decode cX10_search 32 = .ok (.getfield 10, 3) := by decide +kernel
theorem dX10_search_35 : decode cX10_search 35 = .ok (.getfield 110, 3) := by decide +kernel
theorem dX10_search_38 : decode cX10_search 38 = .ok (.if_icmp .ge 38, 3) := by decide +kernel
theorem dX10_search_41 : decode cX10_search 41 = .ok (.aload_n 0, 1) := by decide +kernel
theorem dX10_search_42 : decode cX10_search 42 = .ok (.iload_n 2, 1) := by decide +kernel
theorem dX10_search_43 : decode cX10_search 43 = .ok (.iload_n 1, 1) := by decide +kernel
theorem dX10_search_44 : decode cX10_search 44 = .ok (.invokevirtual 314, 3) := by decide +kernel
theorem dX10_search_47 : decode cX10_search 47 = .ok (.istore_n 3, 1) := by decide +kernel
theorem dX10_search_48 : decode cX10_search 48 = .ok (.iload_n 3, 1) := by decide +kernel
theorem dX10_search_49 : decode cX10_search 49 = .ok (.iconst (-1), 1) := by decide +kernel
theorem dX10_search_50 : decode cX10_search 50 = .ok (.if_icmp .eq 20, 3) := by decide +kernel
theorem dX10_search_53 : decode cX10_search 53 = .ok (.aload_n 0, 1) := by decide +kernel
theorem dX10_search_54 : decode cX10_search 54 = .ok (.getfield 35, 3) := by decide +kernel
theorem dX10_search_57 : decode cX10_search 57 = .ok (.aload_n 0, 1) := by decide +kernel
theorem dX10_search_58 : decode cX10_search 58 = .ok (.getfield 10, 3) := by decide +kernel
theorem dX10_search_61 : decode cX10_search 61 = .ok (.iload_n 2, 1) := by decide +kernel
theorem dX10_search_62 : decode cX10_search 62 = .ok (.invokevirtual 147, 3) := by decide +kernel
theorem dX10_search_65 : decode cX10_search 65 = .ok (.iload_n 2, 1) := by decide +kernel
theorem dX10_search_66 : decode cX10_search 66 = .ok (.iload_n 3, 1) := by decide +kernel
theorem dX10_search_67 : decode cX10_search 67 = .ok (.invokevirtual 319, 3) := by decide +kernel
theorem dX10_search_70 : decode cX10_search 70 = .ok (.iinc 2 1, 3) := by decide +kernel
theorem dX10_search_73 : decode cX10_search 73 = .ok (.goto (-43), 3) := by decide +kernel
theorem dX10_search_76 : decode cX10_search 76 = .ok (.aload_n 0, 1) := by decide +kernel
theorem dX10_search_77 : decode cX10_search 77 = .ok (.getfield 35, 3) := by decide +kernel
theorem dX10_search_80 : decode cX10_search 80 = .ok (.getfield 323, 3) := by decide +kernel
theorem dX10_search_83 : decode cX10_search 83 = .ok (.ireturn, 1) := by decide +kernel
theorem dX10_results_0 : decode cX10_results 0 = .ok (.aload_n 0, 1) := by decide +kernel
theorem dX10_results_1 : decode cX10_results 1 = .ok (.getfield 35, 3) := by decide +kernel
theorem dX10_results_4 : decode cX10_results 4 = .ok (.getfield 323, 3) := by decide +kernel
theorem dX10_results_7 : decode cX10_results 7 = .ok (.ireturn, 1) := by decide +kernel
set_option maxRecDepth 20000 in
theorem ggX10_resultAt_X7_hasPlace : GoodIn wsX10_resultAt wsX7_hasPlace := goodIn_r _ [8, 9, 26, 27, 28, 29] (by decide +kernel) (by decide +kernel)
set_option maxRecDepth 20000 in
theorem gX10_resultAt_X7_hasPlace : GoodIn wsX10_resultAt (wsV RX10 324 RX7 yX7_hasPlace wsX7_hasPlace) := goodIn_app (goodIn_of _ (by decide +kernel)) ggX10_resultAt_X7_hasPlace
set_option maxRecDepth 20000 in
theorem ggX10_resultAt_X7_numberAt : GoodIn wsX10_resultAt wsX7_numberAt := goodIn_r _ [13, 14, 15, 5, 6, 7, 8, 9, 26, 27, 28, 29] (by decide +kernel) (by decide +kernel)
set_option maxRecDepth 20000 in
theorem gX10_resultAt_X7_numberAt : GoodIn wsX10_resultAt (wsV RX10 329 RX7 yX7_numberAt wsX7_numberAt) := goodIn_app (goodIn_of _ (by decide +kernel)) ggX10_resultAt_X7_numberAt
theorem dX10_resultAt_0 : decode cX10_resultAt 0 = .ok (.aload_n 0, 1) := by decide +kernel
theorem dX10_resultAt_1 : decode cX10_resultAt 1 = .ok (.getfield 35, 3) := by decide +kernel
theorem dX10_resultAt_4 : decode cX10_resultAt 4 = .ok (.iload_n 1, 1) := by decide +kernel
theorem dX10_resultAt_5 : decode cX10_resultAt 5 = .ok (.invokevirtual 324, 3) := by decide +kernel
theorem dX10_resultAt_8 : decode cX10_resultAt 8 = .ok (.ifCond .ne 14, 3) := by decide +kernel
theorem dX10_resultAt_11 : decode cX10_resultAt 11 = .ok (.new 151, 3) := by decide +kernel
theorem dX10_resultAt_14 : decode cX10_resultAt 14 = .ok (.dup, 1) := by decide +kernel
theorem dX10_resultAt_15 : decode cX10_resultAt 15 = .ok (.ldc_w 327, 3) := by decide +kernel
theorem dX10_resultAt_18 : decode cX10_resultAt 18 = .ok (.invokespecial 155, 3) := by decide +kernel
theorem dX10_resultAt_21 : decode cX10_resultAt 21 = .ok (.athrow, 1) := by decide +kernel
theorem dX10_resultAt_22 : decode cX10_resultAt 22 = .ok (.aload_n 0, 1) := by decide +kernel
theorem dX10_resultAt_23 : decode cX10_resultAt 23 = .ok (.getfield 35, 3) := by decide +kernel
theorem dX10_resultAt_26 : decode cX10_resultAt 26 = .ok (.iload_n 1, 1) := by decide +kernel
theorem dX10_resultAt_27 : decode cX10_resultAt 27 = .ok (.invokevirtual 329, 3) := by decide +kernel
theorem dX10_resultAt_30 : decode cX10_resultAt 30 = .ok (.ireturn, 1) := by decide +kernel
set_option maxRecDepth 20000 in
theorem ggX10_scoreAt_X7_hasPlace : GoodIn wsX10_scoreAt wsX7_hasPlace := goodIn_r _ [8, 9, 26, 27, 28, 29] (by decide +kernel) (by decide +kernel)
set_option maxRecDepth 20000 in
theorem gX10_scoreAt_X7_hasPlace : GoodIn wsX10_scoreAt (wsV RX10 324 RX7 yX7_hasPlace wsX7_hasPlace) := goodIn_app (goodIn_of _ (by decide +kernel)) ggX10_scoreAt_X7_hasPlace
set_option maxRecDepth 20000 in
theorem ggX10_scoreAt_X7_valueAt : GoodIn wsX10_scoreAt wsX7_valueAt := goodIn_r _ [13, 14, 15, 5, 6, 7, 8, 9, 26, 27, 28, 29] (by decide +kernel) (by decide +kernel)
set_option maxRecDepth 20000 in
theorem gX10_scoreAt_X7_valueAt : GoodIn wsX10_scoreAt (wsV RX10 332 RX7 yX7_valueAt wsX7_valueAt) := goodIn_app (goodIn_of _ (by decide +kernel)) ggX10_scoreAt_X7_valueAt
theorem dX10_scoreAt_0 : decode cX10_scoreAt 0 = .ok (.aload_n 0, 1) := by decide +kernel
theorem dX10_scoreAt_1 : decode cX10_scoreAt 1 = .ok (.getfield 35, 3) := by decide +kernel
theorem dX10_scoreAt_4 : decode cX10_scoreAt 4 = .ok (.iload_n 1, 1) := by decide +kernel
theorem dX10_scoreAt_5 : decode cX10_scoreAt 5 = .ok (.invokevirtual 324, 3) := by decide +kernel
theorem dX10_scoreAt_8 : decode cX10_scoreAt 8 = .ok (.ifCond .ne 14, 3) := by decide +kernel
theorem dX10_scoreAt_11 : decode cX10_scoreAt 11 = .ok (.new 151, 3) := by decide +kernel
theorem dX10_scoreAt_14 : decode cX10_scoreAt 14 = .ok (.dup, 1) := by decide +kernel
theorem dX10_scoreAt_15 : decode cX10_scoreAt 15 = .ok (.ldc_w 327, 3) := by decide +kernel
theorem dX10_scoreAt_18 : decode cX10_scoreAt 18 = .ok (.invokespecial 155, 3) := by decide +kernel
theorem dX10_scoreAt_21 : decode cX10_scoreAt 21 = .ok (.athrow, 1) := by decide +kernel
theorem dX10_scoreAt_22 : decode cX10_scoreAt 22 = .ok (.aload_n 0, 1) := by decide +kernel
theorem dX10_scoreAt_23 : decode cX10_scoreAt 23 = .ok (.getfield 35, 3) := by decide +kernel
theorem dX10_scoreAt_26 : decode cX10_scoreAt 26 = .ok (.iload_n 1, 1) := by decide +kernel
theorem dX10_scoreAt_27 : decode cX10_scoreAt 27 = .ok (.invokevirtual 332, 3) := by decide +kernel
theorem dX10_scoreAt_30 : decode cX10_scoreAt 30 = .ok (.ireturn, 1) := by decide +kernel
set_option maxRecDepth 20000 in
theorem ggX10_ofKind_X10_isKind : GoodIn wsX10_ofKind wsX10_isKind := goodIn_r _ [7] (by decide +kernel) (by decide +kernel)
set_option maxRecDepth 20000 in
theorem gX10_ofKind_X10_isKind : GoodIn wsX10_ofKind (va_wsS RX10 82 yX10_isKind wsX10_isKind) := goodIn_app (goodIn_of _ (by decide +kernel)) ggX10_ofKind_X10_isKind
set_option maxRecDepth 20000 in
theorem ggX10_ofKind_X7_countKind : GoodIn wsX10_ofKind wsX7_countKind := goodIn_r _ [12, 13, 14, 15, 16, 17, 11, 18, 19, 20, 21, 22, 23, 34, 35, 36, 37, 38, 39, 40, 41, 42] (by decide +kernel) (by decide +kernel)
set_option maxRecDepth 20000 in
theorem gX10_ofKind_X7_countKind : GoodIn wsX10_ofKind (wsV RX10 337 RX7 yX7_countKind wsX7_countKind) := goodIn_app (goodIn_of _ (by decide +kernel)) ggX10_ofKind_X7_countKind
theorem dX10_ofKind_0 : decode cX10_ofKind 0 = .ok (.iload_n 1, 1) := by decide +kernel
theorem dX10_ofKind_1 : decode cX10_ofKind 1 = .ok (.invokestatic 82, 3) := by decide +kernel
theorem dX10_ofKind_4 : decode cX10_ofKind 4 = .ok (.ifCond .ne 14, 3) := by decide +kernel
theorem dX10_ofKind_7 : decode cX10_ofKind 7 = .ok (.new 85, 3) := by decide +kernel
theorem dX10_ofKind_10 : decode cX10_ofKind 10 = .ok (.dup, 1) := by decide +kernel
theorem dX10_ofKind_11 : decode cX10_ofKind 11 = .ok (.ldc_w 335, 3) := by decide +kernel
theorem dX10_ofKind_14 : decode cX10_ofKind 14 = .ok (.invokespecial 89, 3) := by decide +kernel
theorem dX10_ofKind_17 : decode cX10_ofKind 17 = .ok (.athrow, 1) := by decide +kernel
theorem dX10_ofKind_18 : decode cX10_ofKind 18 = .ok (.aload_n 0, 1) := by decide +kernel
theorem dX10_ofKind_19 : decode cX10_ofKind 19 = .ok (.getfield 35, 3) := by decide +kernel
theorem dX10_ofKind_22 : decode cX10_ofKind 22 = .ok (.iload_n 1, 1) := by decide +kernel
theorem dX10_ofKind_23 : decode cX10_ofKind 23 = .ok (.invokevirtual 337, 3) := by decide +kernel
theorem dX10_ofKind_26 : decode cX10_ofKind 26 = .ok (.ireturn, 1) := by decide +kernel
set_option maxRecDepth 20000 in
theorem ggX10_ofDates_X10_isDate : GoodIn wsX10_ofDates wsX10_isDate := goodIn_r _ [7] (by decide +kernel) (by decide +kernel)
set_option maxRecDepth 20000 in
theorem gX10_ofDates_X10_isDate : GoodIn wsX10_ofDates (va_wsS RX10 78 yX10_isDate wsX10_isDate) := goodIn_app (goodIn_of _ (by decide +kernel)) ggX10_ofDates_X10_isDate
set_option maxRecDepth 20000 in
theorem ggX10_ofDates_X7_countDates : GoodIn wsX10_ofDates wsX7_countDates := goodIn_r _ [12, 13, 14, 15, 16, 17, 11, 18, 19, 20, 21, 22, 23, 34, 35, 36, 37, 38, 39, 40, 41, 42] (by decide +kernel) (by decide +kernel)
set_option maxRecDepth 20000 in
theorem gX10_ofDates_X7_countDates : GoodIn wsX10_ofDates (wsV RX10 342 RX7 yX7_countDates wsX7_countDates) := goodIn_app (goodIn_of _ (by decide +kernel)) ggX10_ofDates_X7_countDates
theorem dX10_ofDates_0 : decode cX10_ofDates 0 = .ok (.iload_n 1, 1) := by decide +kernel
theorem dX10_ofDates_1 : decode cX10_ofDates 1 = .ok (.invokestatic 78, 3) := by decide +kernel
theorem dX10_ofDates_4 : decode cX10_ofDates 4 = .ok (.ifCond .eq 15, 3) := by decide +kernel
theorem dX10_ofDates_7 : decode cX10_ofDates 7 = .ok (.iload_n 2, 1) := by decide +kernel
theorem dX10_ofDates_8 : decode cX10_ofDates 8 = .ok (.iconst 1, 1) := by decide +kernel
theorem dX10_ofDates_9 : decode cX10_ofDates 9 = .ok (.if_icmp .lt 10, 3) := by decide +kernel
theorem dX10_ofDates_12 : decode cX10_ofDates 12 = .ok (.iload_n 2, 1) := by decide +kernel
theorem dX10_ofDates_13 : decode cX10_ofDates 13 = .ok (.sipush 10000, 3) := by decide +kernel
theorem dX10_ofDates_16 : decode cX10_ofDates 16 = .ok (.if_icmp .le 14, 3) := by decide +kernel
theorem dX10_ofDates_19 : decode cX10_ofDates 19 = .ok (.new 85, 3) := by decide +kernel
theorem dX10_ofDates_22 : decode cX10_ofDates 22 = .ok (.dup, 1) := by decide +kernel
theorem dX10_ofDates_23 : decode cX10_ofDates 23 = .ok (.ldc_w 340, 3) := by decide +kernel
theorem dX10_ofDates_26 : decode cX10_ofDates 26 = .ok (.invokespecial 89, 3) := by decide +kernel
theorem dX10_ofDates_29 : decode cX10_ofDates 29 = .ok (.athrow, 1) := by decide +kernel
theorem dX10_ofDates_30 : decode cX10_ofDates 30 = .ok (.aload_n 0, 1) := by decide +kernel
theorem dX10_ofDates_31 : decode cX10_ofDates 31 = .ok (.getfield 35, 3) := by decide +kernel
theorem dX10_ofDates_34 : decode cX10_ofDates 34 = .ok (.iload_n 1, 1) := by decide +kernel
theorem dX10_ofDates_35 : decode cX10_ofDates 35 = .ok (.iload_n 1, 1) := by decide +kernel
theorem dX10_ofDates_36 : decode cX10_ofDates 36 = .ok (.iload_n 2, 1) := by decide +kernel
theorem dX10_ofDates_37 : decode cX10_ofDates 37 = .ok (.iadd, 1) := by decide +kernel
theorem dX10_ofDates_38 : decode cX10_ofDates 38 = .ok (.iconst 1, 1) := by decide +kernel
theorem dX10_ofDates_39 : decode cX10_ofDates 39 = .ok (.isub, 1) := by decide +kernel
theorem dX10_ofDates_40 : decode cX10_ofDates 40 = .ok (.invokevirtual 342, 3) := by decide +kernel
theorem dX10_ofDates_43 : decode cX10_ofDates 43 = .ok (.ireturn, 1) := by decide +kernel
set_option maxRecDepth 20000 in
theorem ggX10_window_X0_documentAt : GoodIn wsX10_window wsX0_documentAt := goodIn_r _ [11, 12, 13, 111, 112, 113, 114, 115, 116] (by decide +kernel) (by decide +kernel)
set_option maxRecDepth 20000 in
theorem gX10_window_X0_documentAt : GoodIn wsX10_window (wsV RX10 147 RX0 yX0_documentAt wsX0_documentAt) := goodIn_app (goodIn_of _ (by decide +kernel)) ggX10_window_X0_documentAt
set_option maxRecDepth 20000 in
theorem ggX10_window_X2_rowOf : GoodIn wsX10_window wsX2_rowOf := goodIn_r _ [18, 19, 117, 118, 119, 120, 121] (by decide +kernel) (by decide +kernel)
set_option maxRecDepth 20000 in
theorem gX10_window_X2_rowOf : GoodIn wsX10_window (wsV RX10 124 RX2 yX2_rowOf wsX2_rowOf) := goodIn_app (goodIn_of _ (by decide +kernel)) ggX10_window_X2_rowOf
