set_option maxRecDepth 20000 in
theorem gX3_closestTerm_X0_documentAt : GoodIn wsX3_closestTerm (wsV RX3 34 RX0 yX0_documentAt wsX0_documentAt) := goodIn_app (goodIn_of _ (by decide +kernel)) ggX3_closestTerm_X0_documentAt
set_option maxRecDepth 20000 in
theorem ggX3_closestTerm_X2_canBeFound : GoodIn wsX3_closestTerm wsX2_canBeFound := goodIn_r _ [22, 23, 24, 25, 26, 21, 27, 28, 89, 90, 91, 92, 93] (by decide +kernel) (by decide +kernel)
set_option maxRecDepth 20000 in
theorem gX3_closestTerm_X2_canBeFound : GoodIn wsX3_closestTerm (wsV RX3 48 RX2 yX2_canBeFound wsX2_canBeFound) := goodIn_app (goodIn_of _ (by decide +kernel)) ggX3_closestTerm_X2_canBeFound
set_option maxRecDepth 20000 in
theorem ggX3_closestTerm_X2_hasAnywhere : GoodIn wsX3_closestTerm wsX2_hasAnywhere := goodIn_r _ [32, 33, 34, 35, 36, 37, 38, 39, 40, 41, 42, 43, 44, 45, 89, 90, 91, 92, 93, 94, 95, 96, 97, 98] (by decide +kernel) (by decide +kernel)
set_option maxRecDepth 20000 in
theorem gX3_closestTerm_X2_hasAnywhere : GoodIn wsX3_closestTerm (wsV RX3 103 RX2 yX2_hasAnywhere wsX2_hasAnywhere) := goodIn_app (goodIn_of _ (by decide +kernel)) ggX3_closestTerm_X2_hasAnywhere
set_option maxRecDepth 20000 in
theorem ggX3_closestTerm_X3_countTerms : GoodIn wsX3_closestTerm wsX3_countTerms := goodIn_r _ [50, 51, 52, 53, 54, 21, 55, 33, 56, 57, 58, 37, 59, 44, 45, 60, 61, 62, 49, 63, 3, 2, 1, 64, 65, 66, 94, 95, 96, 97, 98, 89, 90, 91, 92, 93, 77, 78, 79, 80, 81, 82] (by decide +kernel) (by decide +kernel)
set_option maxRecDepth 20000 in
theorem gX3_closestTerm_X3_countTerms : GoodIn wsX3_closestTerm (wsV RX3 106 RX3 yX3_countTerms wsX3_countTerms) := goodIn_app (goodIn_of _ (by decide +kernel)) ggX3_closestTerm_X3_countTerms
set_option maxRecDepth 20000 in
theorem ggX3_closestTerm_X4_isMuted : GoodIn wsX3_closestTerm wsX4_isMuted := goodIn_r _ [71, 72, 99, 100, 101] (by decide +kernel) (by decide +kernel)
set_option maxRecDepth 20000 in
theorem gX3_closestTerm_X4_isMuted : GoodIn wsX3_closestTerm (wsV RX3 81 RX4 yX4_isMuted wsX4_isMuted) := goodIn_app (goodIn_of _ (by decide +kernel)) ggX3_closestTerm_X4_isMuted
set_option maxRecDepth 20000 in
theorem ggX3_closestTerm_X3_isCloser : GoodIn wsX3_closestTerm wsX3_isCloser := goodIn_r _ [76, 1, 2, 64, 65, 66, 77, 78, 79, 80, 81, 82] (by decide +kernel) (by decide +kernel)
set_option maxRecDepth 20000 in
theorem gX3_closestTerm_X3_isCloser : GoodIn wsX3_closestTerm (wsV RX3 110 RX3 yX3_isCloser wsX3_isCloser) := goodIn_app (goodIn_of _ (by decide +kernel)) ggX3_closestTerm_X3_isCloser
theorem dX3_closestTerm_0 : decode cX3_closestTerm 0 = .ok (.aload_n 0, 1) := by decide +kernel
theorem dX3_closestTerm_1 : decode cX3_closestTerm 1 = .ok (.getfield 16, 3) := by decide +kernel
theorem dX3_closestTerm_4 : decode cX3_closestTerm 4 = .ok (.iconst 0, 1) := by decide +kernel
theorem dX3_closestTerm_5 : decode cX3_closestTerm 5 = .ok (.invokestatic 58, 3) := by decide +kernel
theorem dX3_closestTerm_8 : decode cX3_closestTerm 8 = .ok (.aload_n 0, 1) := by decide +kernel
theorem dX3_closestTerm_9 : decode cX3_closestTerm 9 = .ok (.getfield 20, 3) := by decide +kernel
theorem dX3_closestTerm_12 : decode cX3_closestTerm 12 = .ok (.iconst 0, 1) := by decide +kernel
theorem dX3_closestTerm_13 : decode cX3_closestTerm 13 = .ok (.invokestatic 58, 3) := by decide +kernel
theorem dX3_closestTerm_16 : decode cX3_closestTerm 16 = .ok (.aload_n 0, 1) := by decide +kernel
theorem dX3_closestTerm_17 : decode cX3_closestTerm 17 = .ok (.getfield 23, 3) := by decide +kernel
theorem dX3_closestTerm_20 : decode cX3_closestTerm 20 = .ok (.iconst (-1), 1) := by decide +kernel
theorem dX3_closestTerm_21 : decode cX3_closestTerm 21 = .ok (.invokestatic 58, 3) := by decide +kernel
theorem dX3_closestTerm_24 : decode cX3_closestTerm 24 = .ok (.iconst 0, 1) := by decide +kernel
theorem dX3_closestTerm_25 : decode cX3_closestTerm 25 = .ok (.istore_n 2, 1) := by decide +kernel
theorem dX3_closestTerm_26 : decode cX3_closestTerm 26 = .ok (.iload_n 2, 1) := by decide +kernel
theorem dX3_closestTerm_27 : decode cX3_closestTerm 27 = .ok (.aload_n 0, 1) := by decide +kernel
theorem dX3_closestTerm_28 : decode cX3_closestTerm 28 = .ok (.getfield 26, 3) := by decide +kernel
theorem dX3_closestTerm_31 : decode cX3_closestTerm 31 = .ok (.getfield 44, 3) := by decide +kernel
theorem dX3_closestTerm_34 : decode cX3_closestTerm 34 = .ok (.if_icmp .ge 40, 3) := by decide +kernel
theorem dX3_closestTerm_37 : decode cX3_closestTerm 37 = .ok (.aload_n 0, 1) := by decide +kernel
theorem dX3_closestTerm_38 : decode cX3_closestTerm 38 = .ok (.getfield 26, 3) := by decide +kernel
theorem dX3_closestTerm_41 : decode cX3_closestTerm 41 = .ok (.iload_n 2, 1) := by decide +kernel
theorem dX3_closestTerm_42 : decode cX3_closestTerm 42 = .ok (.invokevirtual 34, 3) := by decide +kernel
theorem dX3_closestTerm_45 : decode cX3_closestTerm 45 = .ok (.astore_n 3, 1) := by decide +kernel
theorem dX3_closestTerm_46 : decode cX3_closestTerm 46 = .ok (.aload_n 3, 1) := by decide +kernel
theorem dX3_closestTerm_47 : decode cX3_closestTerm 47 = .ok (.ifnull 21, 3) := by decide +kernel
theorem dX3_closestTerm_50 : decode cX3_closestTerm 50 = .ok (.aload_n 3, 1) := by decide +kernel
theorem dX3_closestTerm_51 : decode cX3_closestTerm 51 = .ok (.invokevirtual 48, 3) := by decide +kernel
theorem dX3_closestTerm_54 : decode cX3_closestTerm 54 = .ok (.ifCond .eq 14, 3) := by decide +kernel
theorem dX3_closestTerm_57 : decode cX3_closestTerm 57 = .ok (.aload_n 0, 1) := by decide +kernel
theorem dX3_closestTerm_58 : decode cX3_closestTerm 58 = .ok (.aload_n 3, 1) := by decide +kernel
theorem dX3_closestTerm_59 : decode cX3_closestTerm 59 = .ok (.iload_n 2, 1) := by decide +kernel
theorem dX3_closestTerm_60 : decode cX3_closestTerm 60 = .ok (.aload_n 3, 1) := by decide +kernel
theorem dX3_closestTerm_61 : decode cX3_closestTerm 61 = .ok (.iload_n 1, 1) := by decide +kernel
theorem dX3_closestTerm_62 : decode cX3_closestTerm 62 = .ok (.invokevirtual 103, 3) := by decide +kernel
theorem dX3_closestTerm_65 : decode cX3_closestTerm 65 = .ok (.invokevirtual 106, 3) := by decide +kernel
theorem dX3_closestTerm_68 : decode cX3_closestTerm 68 = .ok (.iinc 2 1, 3) := by decide +kernel
theorem dX3_closestTerm_71 : decode cX3_closestTerm 71 = .ok (.goto (-45), 3) := by decide +kernel
theorem dX3_closestTerm_74 : decode cX3_closestTerm 74 = .ok (.iconst (-1), 1) := by decide +kernel
theorem dX3_closestTerm_75 : decode cX3_closestTerm 75 = .ok (.istore_n 2, 1) := by decide +kernel
theorem dX3_closestTerm_76 : decode cX3_closestTerm 76 = .ok (.iconst 0, 1) := by decide +kernel
theorem dX3_closestTerm_77 : decode cX3_closestTerm 77 = .ok (.istore_n 3, 1) := by decide +kernel
theorem dX3_closestTerm_78 : decode cX3_closestTerm 78 = .ok (.iload_n 3, 1) := by decide +kernel
theorem dX3_closestTerm_79 : decode cX3_closestTerm 79 = .ok (.sipush 200, 3) := by decide +kernel
theorem dX3_closestTerm_82 : decode cX3_closestTerm 82 = .ok (.if_icmp .ge 36, 3) := by decide +kernel
theorem dX3_closestTerm_85 : decode cX3_closestTerm 85 = .ok (.iload_n 3, 1) := by decide +kernel
theorem dX3_closestTerm_86 : decode cX3_closestTerm 86 = .ok (.iload_n 1, 1) := by decide +kernel
theorem dX3_closestTerm_87 : decode cX3_closestTerm 87 = .ok (.if_icmp .eq 25, 3) := by decide +kernel
theorem dX3_closestTerm_90 : decode cX3_closestTerm 90 = .ok (.aload_n 0, 1) := by decide +kernel
theorem dX3_closestTerm_91 : decode cX3_closestTerm 91 = .ok (.getfield 30, 3) := by decide +kernel
theorem dX3_closestTerm_94 : decode cX3_closestTerm 94 = .ok (.iload_n 3, 1) := by decide +kernel
theorem dX3_closestTerm_95 : decode cX3_closestTerm 95 = .ok (.invokevirtual 81, 3) := by decide +kernel
theorem dX3_closestTerm_98 : decode cX3_closestTerm 98 = .ok (.ifCond .ne 14, 3) := by decide +kernel
theorem dX3_closestTerm_101 : decode cX3_closestTerm 101 = .ok (.aload_n 0, 1) := by decide +kernel
theorem dX3_closestTerm_102 : decode cX3_closestTerm 102 = .ok (.iload_n 3, 1) := by decide +kernel
theorem dX3_closestTerm_103 : decode cX3_closestTerm 103 = .ok (.iload_n 2, 1) := by decide +kernel
theorem dX3_closestTerm_104 : decode cX3_closestTerm 104 = .ok (.invokevirtual 110, 3) := by decide +kernel
theorem dX3_closestTerm_107 : decode cX3_closestTerm 107 = .ok (.ifCond .eq 5, 3) := by decide +kernel
theorem dX3_closestTerm_110 : decode cX3_closestTerm 110 = .ok (.iload_n 3, 1) := by decide +kernel
theorem dX3_closestTerm_111 : decode cX3_closestTerm 111 = .ok (.istore_n 2, 1) := by decide +kernel
theorem dX3_closestTerm_112 : decode cX3_closestTerm 112 = .ok (.iinc 3 1, 3) := by decide +kernel
theorem dX3_closestTerm_115 : decode cX3_closestTerm 115 = .ok (.goto (-37), 3) := by decide +kernel
theorem dX3_closestTerm_118 : decode cX3_closestTerm 118 = .ok (.iload_n 2, 1) := by decide +kernel
theorem dX3_closestTerm_119 : decode cX3_closestTerm 119 = .ok (.ireturn, 1) := by decide +kernel
set_option maxRecDepth 20000 in
theorem ggX3_countTerms_X2_rowOf : GoodIn wsX3_countTerms wsX2_rowOf := goodIn_r _ [6, 7, 31, 32, 33, 34, 35] (by decide +kernel) (by decide +kernel)
set_option maxRecDepth 20000 in
theorem gX3_countTerms_X2_rowOf : GoodIn wsX3_countTerms (wsV RX3 64 RX2 yX2_rowOf wsX2_rowOf) := goodIn_app (goodIn_of _ (by decide +kernel)) ggX3_countTerms_X2_rowOf
set_option maxRecDepth 20000 in
theorem ggX3_countTerms_X9_differentTermOn : GoodIn wsX3_countTerms wsX9_differentTermOn := goodIn_r _ [12, 13, 14, 26, 27, 28, 29, 30] (by decide +kernel) (by decide +kernel)
set_option maxRecDepth 20000 in
theorem gX3_countTerms_X9_differentTermOn : GoodIn wsX3_countTerms (wsV RX3 77 RX9 yX9_differentTermOn wsX9_differentTermOn) := goodIn_app (goodIn_of _ (by decide +kernel)) ggX3_countTerms_X9_differentTermOn
set_option maxRecDepth 20000 in
theorem ggX3_countTerms_X3_countOnce : GoodIn wsX3_countTerms wsX3_countOnce := goodIn_r _ [19, 20, 21, 22, 23, 24, 25, 36, 37, 38, 39, 40, 41] (by decide +kernel) (by decide +kernel)
set_option maxRecDepth 20000 in
theorem gX3_countTerms_X3_countOnce : GoodIn wsX3_countTerms (wsV RX3 114 RX3 yX3_countOnce wsX3_countOnce) := goodIn_app (goodIn_of _ (by decide +kernel)) ggX3_countTerms_X3_countOnce
theorem dX3_countTerms_0 : decode cX3_countTerms 0 = .ok (.iconst 0, 1) := by decide +kernel
theorem dX3_countTerms_1 : decode cX3_countTerms 1 = .ok (.istore 4, 2) := by decide +kernel
theorem dX3_countTerms_3 : decode cX3_countTerms 3 = .ok (.iload 4, 2) := by decide +kernel
theorem dX3_countTerms_5 : decode cX3_countTerms 5 = .ok (.iconst 3, 1) := by decide +kernel
theorem dX3_countTerms_6 : decode cX3_countTerms 6 = .ok (.if_icmp .ge 57, 3) := by decide +kernel
theorem dX3_countTerms_9 : decode cX3_countTerms 9 = .ok (.aload_n 1, 1) := by decide +kernel
theorem dX3_countTerms_10 : decode cX3_countTerms 10 = .ok (.iload 4, 2) := by decide +kernel
theorem dX3_countTerms_12 : decode cX3_countTerms 12 = .ok (.invokevirtual 64, 3) := by decide +kernel
theorem dX3_countTerms_15 : decode cX3_countTerms 15 = .ok (.astore 5, 2) := by decide +kernel
theorem dX3_countTerms_17 : decode cX3_countTerms 17 = .ok (.aload 5, 2) := by decide +kernel
theorem dX3_countTerms_19 : decode cX3_countTerms 19 = .ok (.ifnonnull 6, 3) := by decide +kernel
theorem dX3_countTerms_22 : decode cX3_countTerms 22 = .ok (.goto 35, 3) := by decide +kernel
theorem dX3_countTerms_25 : decode cX3_countTerms 25 = .ok (.iconst 0, 1) := by decide +kernel
theorem dX3_countTerms_26 : decode cX3_countTerms 26 = .ok (.istore 6, 2) := by decide +kernel
theorem dX3_countTerms_28 : decode cX3_countTerms 28 = .ok (.iload 6, 2) := by decide +kernel
theorem dX3_countTerms_30 : decode cX3_countTerms 30 = .ok (.aload 5, 2) := by decide +kernel
theorem dX3_countTerms_32 : decode cX3_countTerms 32 = .ok (.getfield 72, 3) := by decide +kernel
theorem dX3_countTerms_35 : decode cX3_countTerms 35 = .ok (.if_icmp .ge 22, 3) := by decide +kernel
theorem dX3_countTerms_38 : decode cX3_countTerms 38 = .ok (.aload_n 0, 1) := by decide +kernel
theorem dX3_countTerms_39 : decode cX3_countTerms 39 = .ok (.aload 5, 2) := by decide +kernel
theorem dX3_countTerms_41 : decode cX3_countTerms 41 = .ok (.iload 6, 2) := by decide +kernel
theorem dX3_countTerms_43 : decode cX3_countTerms 43 = .ok (.invokevirtual 77, 3) := by decide +kernel
theorem dX3_countTerms_46 : decode cX3_countTerms 46 = .ok (.iload_n 2, 1) := by decide +kernel
theorem dX3_countTerms_47 : decode cX3_countTerms 47 = .ok (.iload_n 3, 1) := by decide +kernel
theorem dX3_countTerms_48 : decode cX3_countTerms 48 = .ok (.invokevirtual 114, 3) := by decide +kernel
theorem dX3_countTerms_51 : decode cX3_countTerms 51 = .ok (.iinc 6 1, 3) := by decide +kernel
theorem dX3_countTerms_54 : decode cX3_countTerms 54 = .ok (.goto (-26), 3) := by decide +kernel
theorem dX3_countTerms_57 : decode cX3_countTerms 57 = .ok (.iinc 4 1, 3) := by decide +kernel
theorem dX3_countTerms_60 : decode cX3_countTerms 60 = .ok (.goto (-57), 3) := by decide +kernel
theorem dX3_countTerms_63 : decode cX3_countTerms 63 = .ok (.return_, 1) := by decide +kernel
set_option maxRecDepth 20000 in
theorem ggX3_countOnce_X10_isTerm : GoodIn wsX3_countOnce wsX10_isTerm := goodIn_r _ [6] (by decide +kernel) (by decide +kernel)
set_option maxRecDepth 20000 in
theorem gX3_countOnce_X10_isTerm_n118 : GoodIn wsX3_countOnce (wsX10_isTerm) := ggX3_countOnce_X10_isTerm
theorem dX3_countOnce_0 : decode cX3_countOnce 0 = .ok (.iload_n 1, 1) := by decide +kernel
theorem dX3_countOnce_1 : decode cX3_countOnce 1 = .ok (.invokestatic 118, 3) := by decide +kernel
theorem dX3_countOnce_4 : decode cX3_countOnce 4 = .ok (.ifCond .eq 13, 3) := by decide +kernel
theorem dX3_countOnce_7 : decode cX3_countOnce 7 = .ok (.aload_n 0, 1) := by decide +kernel
theorem dX3_countOnce_8 : decode cX3_countOnce 8 = .ok (.getfield 23, 3) := by decide +kernel
theorem dX3_countOnce_11 : decode cX3_countOnce 11 = .ok (.iload_n 1, 1) := by decide +kernel
theorem dX3_countOnce_12 : decode cX3_countOnce 12 = .ok (.iaload, 1) := by decide +kernel
theorem dX3_countOnce_13 : decode cX3_countOnce 13 = .ok (.iload_n 2, 1) := by decide +kernel
theorem dX3_countOnce_14 : decode cX3_countOnce 14 = .ok (.if_icmp .ne 4, 3) := by decide +kernel
theorem dX3_countOnce_17 : decode cX3_countOnce 17 = .ok (.return_, 1) := by decide +kernel
theorem dX3_countOnce_18 : decode cX3_countOnce 18 = .ok (.aload_n 0, 1) := by decide +kernel
theorem dX3_countOnce_19 : decode cX3_countOnce 19 = .ok (.getfield 23, 3) := by decide +kernel
theorem dX3_countOnce_22 : decode cX3_countOnce 22 = .ok (.iload_n 1, 1) := by decide +kernel
theorem dX3_countOnce_23 : decode cX3_countOnce 23 = .ok (.iload_n 2, 1) := by decide +kernel
theorem dX3_countOnce_24 : decode cX3_countOnce 24 = .ok (.iastore, 1) := by decide +kernel
theorem dX3_countOnce_25 : decode cX3_countOnce 25 = .ok (.aload_n 0, 1) := by decide +kernel
theorem dX3_countOnce_26 : decode cX3_countOnce 26 = .ok (.getfield 20, 3) := by decide +kernel
theorem dX3_countOnce_29 : decode cX3_countOnce 29 = .ok (.iload_n 1, 1) := by decide +kernel
theorem dX3_countOnce_30 : decode cX3_countOnce 30 = .ok (.dup2, 1) := by decide +kernel
theorem dX3_countOnce_31 : decode cX3_countOnce 31 = .ok (.iaload, 1) := by decide +kernel
theorem dX3_countOnce_32 : decode cX3_countOnce 32 = .ok (.iconst 1, 1) := by decide +kernel
theorem dX3_countOnce_33 : decode cX3_countOnce 33 = .ok (.iadd, 1) := by decide +kernel
theorem dX3_countOnce_34 : decode cX3_countOnce 34 = .ok (.iastore, 1) := by decide +kernel
theorem dX3_countOnce_35 : decode cX3_countOnce 35 = .ok (.iload_n 3, 1) := by decide +kernel
theorem dX3_countOnce_36 : decode cX3_countOnce 36 = .ok (.ifCond .eq 13, 3) := by decide +kernel
theorem dX3_countOnce_39 : decode cX3_countOnce 39 = .ok (.aload_n 0, 1) := by decide +kernel
theorem dX3_countOnce_40 : decode cX3_countOnce 40 = .ok (.getfield 16, 3) := by decide +kernel
theorem dX3_countOnce_43 : decode cX3_countOnce 43 = .ok (.iload_n 1, 1) := by decide +kernel
theorem dX3_countOnce_44 : decode cX3_countOnce 44 = .ok (.dup2, 1) := by decide +kernel
theorem dX3_countOnce_45 : decode cX3_countOnce 45 = .ok (.iaload, 1) := by decide +kernel
theorem dX3_countOnce_46 : decode cX3_countOnce 46 = .ok (.iconst 1, 1) := by decide +kernel
theorem dX3_countOnce_47 : decode cX3_countOnce 47 = .ok (.iadd, 1) := by decide +kernel
theorem dX3_countOnce_48 : decode cX3_countOnce 48 = .ok (.iastore, 1) := by decide +kernel
theorem dX3_countOnce_49 : decode cX3_countOnce 49 = .ok (.return_, 1) := by decide +kernel
set_option maxRecDepth 20000 in
theorem ggX3_isCloser_X10_isTerm : GoodIn wsX3_isCloser wsX10_isTerm := goodIn_r _ [5] (by decide +kernel) (by decide +kernel)
set_option maxRecDepth 20000 in
theorem gX3_isCloser_X10_isTerm_n118 : GoodIn wsX3_isCloser (wsX10_isTerm) := ggX3_isCloser_X10_isTerm
theorem dX3_isCloser_0 : decode cX3_isCloser 0 = .ok (.iload_n 1, 1) := by decide +kernel
theorem dX3_isCloser_1 : decode cX3_isCloser 1 = .ok (.invokestatic 118, 3) := by decide +kernel
theorem dX3_isCloser_4 : decode cX3_isCloser 4 = .ok (.ifCond .eq 12, 3) := by decide +kernel
theorem dX3_isCloser_7 : decode cX3_isCloser 7 = .ok (.aload_n 0, 1) := by decide +kernel
theorem dX3_isCloser_8 : decode cX3_isCloser 8 = .ok (.getfield 16, 3) := by decide +kernel
theorem dX3_isCloser_11 : decode cX3_isCloser 11 = .ok (.iload_n 1, 1) := by decide +kernel
theorem dX3_isCloser_12 : decode cX3_isCloser 12 = .ok (.iaload, 1) := by decide +kernel
theorem dX3_isCloser_13 : decode cX3_isCloser 13 = .ok (.ifCond .ne 5, 3) := by decide +kernel
theorem dX3_isCloser_16 : decode cX3_isCloser 16 = .ok (.iconst 0, 1) := by decide +kernel
theorem dX3_isCloser_17 : decode cX3_isCloser 17 = .ok (.ireturn, 1) := by decide +kernel
theorem dX3_isCloser_18 : decode cX3_isCloser 18 = .ok (.iload_n 2, 1) := by decide +kernel
theorem dX3_isCloser_19 : decode cX3_isCloser 19 = .ok (.invokestatic 118, 3) := by decide +kernel
theorem dX3_isCloser_22 : decode cX3_isCloser 22 = .ok (.ifCond .eq 18, 3) := by decide +kernel
theorem dX3_isCloser_25 : decode cX3_isCloser 25 = .ok (.aload_n 0, 1) := by decide +kernel
theorem dX3_isCloser_26 : decode cX3_isCloser 26 = .ok (.getfield 16, 3) := by decide +kernel
theorem dX3_isCloser_29 : decode cX3_isCloser 29 = .ok (.iload_n 1, 1) := by decide +kernel
theorem dX3_isCloser_30 : decode cX3_isCloser 30 = .ok (.iaload, 1) := by decide +kernel
theorem dX3_isCloser_31 : decode cX3_isCloser 31 = .ok (.aload_n 0, 1) := by decide +kernel
theorem dX3_isCloser_32 : decode cX3_isCloser 32 = .ok (.getfield 16, 3) := by decide +kernel
theorem dX3_isCloser_35 : decode cX3_isCloser 35 = .ok (.iload_n 2, 1) := by decide +kernel
theorem dX3_isCloser_36 : decode cX3_isCloser 36 = .ok (.iaload, 1) := by decide +kernel
theorem dX3_isCloser_37 : decode cX3_isCloser 37 = .ok (.if_icmp .le 5, 3) := by decide +kernel
theorem dX3_isCloser_40 : decode cX3_isCloser 40 = .ok (.iconst 1, 1) := by decide +kernel
theorem dX3_isCloser_41 : decode cX3_isCloser 41 = .ok (.ireturn, 1) := by decide +kernel
theorem dX3_isCloser_42 : decode cX3_isCloser 42 = .ok (.aload_n 0, 1) := by decide +kernel
theorem dX3_isCloser_43 : decode cX3_isCloser 43 = .ok (.getfield 16, 3) := by decide +kernel
theorem dX3_isCloser_46 : decode cX3_isCloser 46 = .ok (.iload_n 1, 1) := by decide +kernel
theorem dX3_isCloser_47 : decode cX3_isCloser 47 = .ok (.iaload, 1) := by decide +kernel
theorem dX3_isCloser_48 : decode cX3_isCloser 48 = .ok (.aload_n 0, 1) := by decide +kernel
theorem dX3_isCloser_49 : decode cX3_isCloser 49 = .ok (.getfield 16, 3) := by decide +kernel
theorem dX3_isCloser_52 : decode cX3_isCloser 52 = .ok (.iload_n 2, 1) := by decide +kernel
theorem dX3_isCloser_53 : decode cX3_isCloser 53 = .ok (.iaload, 1) := by decide +kernel
theorem dX3_isCloser_54 : decode cX3_isCloser 54 = .ok (.if_icmp .ne 22, 3) := by decide +kernel
theorem dX3_isCloser_57 : decode cX3_isCloser 57 = .ok (.aload_n 0, 1) := by decide +kernel
theorem dX3_isCloser_58 : decode cX3_isCloser 58 = .ok (.getfield 20, 3) := by decide +kernel
theorem dX3_isCloser_61 : decode cX3_isCloser 61 = .ok (.iload_n 1, 1) := by decide +kernel
theorem dX3_isCloser_62 : decode cX3_isCloser 62 = .ok (.iaload, 1) := by decide +kernel
theorem dX3_isCloser_63 : decode cX3_isCloser 63 = .ok (.aload_n 0, 1) := by decide +kernel
theorem dX3_isCloser_64 : decode cX3_isCloser 64 = .ok (.getfield 20, 3) := by decide +kernel
theorem dX3_isCloser_67 : decode cX3_isCloser 67 = .ok (.iload_n 2, 1) := by decide +kernel
theorem dX3_isCloser_68 : decode cX3_isCloser 68 = .ok (.iaload, 1) := by decide +kernel
theorem dX3_isCloser_69 : decode cX3_isCloser 69 = .ok (.if_icmp .ge 7, 3) := by decide +kernel
theorem dX3_isCloser_72 : decode cX3_isCloser 72 = .ok (.iconst 1, 1) := by decide +kernel
theorem dX3_isCloser_73 : decode cX3_isCloser 73 = .ok (.goto 4, 3) := by decide +kernel
theorem dX3_isCloser_76 : decode cX3_isCloser 76 = .ok (.iconst 0, 1) := by decide +kernel
theorem dX3_isCloser_77 : decode cX3_isCloser 77 = .ok (.ireturn, 1) := by decide +kernel
set_option maxRecDepth 20000 in
theorem ggX4_init_J7_fill_53178 : GoodIn wsX4_init wsJ7_fill_53178 := goodIn_r _ [12] (by decide +kernel) (by decide +kernel)
set_option maxRecDepth 20000 in
theorem gX4_init_J7_fill_53178 : GoodIn wsX4_init (va_wsS RX4 22 yJ7_fill_53178 wsJ7_fill_53178) := goodIn_app (goodIn_of _ (by decide +kernel)) ggX4_init_J7_fill_53178
theorem dX4_init_0 : decode cX4_init 0 = .ok (.aload_n 0, 1) := by decide +kernel
theorem dX4_init_1 : decode cX4_init 1 = .ok (.invokespecial 3, 3) := by decide +kernel
theorem dX4_init_4 : decode cX4_init 4 = .ok (.aload_n 0, 1) := by decide +kernel
theorem dX4_init_5 : decode cX4_init 5 = .ok (.sipush 200, 3) := by decide +kernel
theorem dX4_init_8 : decode cX4_init 8 = .ok (.newarray .boolean, 2) := by decide +kernel
theorem dX4_init_10 : decode cX4_init 10 = .ok (.putfield 9, 3) := by decide +kernel
theorem dX4_init_13 : decode cX4_init 13 = .ok (.aload_n 0, 1) := by decide +kernel
theorem dX4_init_14 : decode cX4_init 14 = .ok (.sipush 200, 3) := by decide +kernel
theorem dX4_init_17 : decode cX4_init 17 = .ok (.newarray .int, 2) := by decide +kernel
theorem dX4_init_19 : decode cX4_init 19 = .ok (.putfield 15, 3) := by decide +kernel
theorem dX4_init_22 : decode cX4_init 22 = .ok (.aload_n 0, 1) := by decide +kernel
theorem dX4_init_23 : decode cX4_init 23 = .ok (.iconst 3, 1) := by decide +kernel
theorem dX4_init_24 : decode cX4_init 24 = .ok (.newarray .int, 2) := by decide +kernel
theorem dX4_init_26 : decode cX4_init 26 = .ok (.putfield 19, 3) := by decide +kernel
theorem dX4_init_29 : decode cX4_init 29 = .ok (.aload_n 0, 1) := by decide +kernel
theorem dX4_init_30 : decode cX4_init 30 = .ok (.getfield 15, 3) := by decide +kernel
theorem dX4_init_33 : decode cX4_init 33 = .ok (.iconst (-1), 1) := by decide +kernel
theorem dX4_init_34 : decode cX4_init 34 = .ok (.invokestatic 22, 3) := by decide +kernel
theorem dX4_init_37 : decode cX4_init 37 = .ok (.aload_n 0, 1) := by decide +kernel
theorem dX4_init_38 : decode cX4_init 38 = .ok (.getfield 19, 3) := by decide +kernel
theorem dX4_init_41 : decode cX4_init 41 = .ok (.iconst 1, 1) := by decide +kernel
theorem dX4_init_42 : decode cX4_init 42 = .ok (.invokestatic 22, 3) := by decide +kernel
theorem dX4_init_45 : decode cX4_init 45 = .ok (.return_, 1) := by decide +kernel
theorem dX4_isMuted_0 : decode cX4_isMuted 0 = .ok (.iload_n 1, 1) := by decide +kernel
theorem dX4_isMuted_1 : decode cX4_isMuted 1 = .ok (.ifCond .lt 25, 3) := by decide +kernel
theorem dX4_isMuted_4 : decode cX4_isMuted 4 = .ok (.iload_n 1, 1) := by decide +kernel
theorem dX4_isMuted_5 : decode cX4_isMuted 5 = .ok (.aload_n 0, 1) := by decide +kernel
theorem dX4_isMuted_6 : decode cX4_isMuted 6 = .ok (.getfield 9, 3) := by decide +kernel
theorem dX4_isMuted_9 : decode cX4_isMuted 9 = .ok (.arraylength, 1) := by decide +kernel
theorem dX4_isMuted_10 : decode cX4_isMuted 10 = .ok (.if_icmp .ge 16, 3) := by decide +kernel
theorem dX4_isMuted_13 : decode cX4_isMuted 13 = .ok (.aload_n 0, 1) := by decide +kernel
theorem dX4_isMuted_14 : decode cX4_isMuted 14 = .ok (.getfield 9, 3) := by decide +kernel
theorem dX4_isMuted_17 : decode cX4_isMuted 17 = .ok (.iload_n 1, 1) := by decide +kernel
theorem dX4_isMuted_18 : decode cX4_isMuted 18 = .ok (.baload, 1) := by decide +kernel
theorem dX4_isMuted_19 : decode cX4_isMuted 19 = .ok (.ifCond .eq 7, 3) := by decide +kernel
theorem dX4_isMuted_22 : decode cX4_isMuted 22 = .ok (.iconst 1, 1) := by decide +kernel
theorem dX4_isMuted_23 : decode cX4_isMuted 23 = .ok (.goto 4, 3) := by decide +kernel
theorem dX4_isMuted_26 : decode cX4_isMuted 26 = .ok (.iconst 0, 1) := by decide +kernel
theorem dX4_isMuted_27 : decode cX4_isMuted 27 = .ok (.ireturn, 1) := by decide +kernel
theorem dX4_putMute_0 : decode cX4_putMute 0 = .ok (.iload_n 1, 1) := by decide +kernel
theorem dX4_putMute_1 : decode cX4_putMute 1 = .ok (.ifCond .lt 19, 3) := by decide +kernel
theorem dX4_putMute_4 : decode cX4_putMute 4 = .ok (.iload_n 1, 1) := by decide +kernel
theorem dX4_putMute_5 : decode cX4_putMute 5 = .ok (.aload_n 0, 1) := by decide +kernel
theorem dX4_putMute_6 : decode cX4_putMute 6 = .ok (.getfield 9, 3) := by decide +kernel
theorem dX4_putMute_9 : decode cX4_putMute 9 = .ok (.arraylength, 1) := by decide +kernel
theorem dX4_putMute_10 : decode cX4_putMute 10 = .ok (.if_icmp .ge 10, 3) := by decide +kernel
theorem dX4_putMute_13 : decode cX4_putMute 13 = .ok (.aload_n 0, 1) := by decide +kernel
theorem dX4_putMute_14 : decode cX4_putMute 14 = .ok (.getfield 9, 3) := by decide +kernel
theorem dX4_putMute_17 : decode cX4_putMute 17 = .ok (.iload_n 1, 1) := by decide +kernel
theorem dX4_putMute_18 : decode cX4_putMute 18 = .ok (.iload_n 2, 1) := by decide +kernel
theorem dX4_putMute_19 : decode cX4_putMute 19 = .ok (.bastore, 1) := by decide +kernel
theorem dX4_putMute_20 : decode cX4_putMute 20 = .ok (.return_, 1) := by decide +kernel
theorem dX4_aliasOf_0 : decode cX4_aliasOf 0 = .ok (.iload_n 1, 1) := by decide +kernel
theorem dX4_aliasOf_1 : decode cX4_aliasOf 1 = .ok (.ifCond .lt 12, 3) := by decide +kernel
theorem dX4_aliasOf_4 : decode cX4_aliasOf 4 = .ok (.iload_n 1, 1) := by decide +kernel
theorem dX4_aliasOf_5 : decode cX4_aliasOf 5 = .ok (.aload_n 0, 1) := by decide +kernel
theorem dX4_aliasOf_6 : decode cX4_aliasOf 6 = .ok (.getfield 15, 3) := by decide +kernel
theorem dX4_aliasOf_9 : decode cX4_aliasOf 9 = .ok (.arraylength, 1) := by decide +kernel
theorem dX4_aliasOf_10 : decode cX4_aliasOf 10 = .ok (.if_icmp .lt 7, 3) := by decide +kernel
theorem dX4_aliasOf_13 : decode cX4_aliasOf 13 = .ok (.iconst (-1), 1) := by decide +kernel
theorem dX4_aliasOf_14 : decode cX4_aliasOf 14 = .ok (.goto 9, 3) := by decide +kernel
theorem dX4_aliasOf_17 : decode cX4_aliasOf 17 = .ok (.aload_n 0, 1) := by decide +kernel
theorem dX4_aliasOf_18 : decode cX4_aliasOf 18 = .ok (.getfield 15, 3) := by decide +kernel
theorem dX4_aliasOf_21 : decode cX4_aliasOf 21 = .ok (.iload_n 1, 1) := by decide +kernel
theorem dX4_aliasOf_22 : decode cX4_aliasOf 22 = .ok (.iaload, 1) := by decide +kernel
theorem dX4_aliasOf_23 : decode cX4_aliasOf 23 = .ok (.ireturn, 1) := by decide +kernel
theorem dX4_putAlias_0 : decode cX4_putAlias 0 = .ok (.iload_n 1, 1) := by decide +kernel
theorem dX4_putAlias_1 : decode cX4_putAlias 1 = .ok (.ifCond .lt 19, 3) := by decide +kernel
theorem dX4_putAlias_4 : decode cX4_putAlias 4 = .ok (.iload_n 1, 1) := by decide +kernel
theorem dX4_putAlias_5 : decode cX4_putAlias 5 = .ok (.aload_n 0, 1) := by decide +kernel
theorem dX4_putAlias_6 : decode cX4_putAlias 6 = .ok (.getfield 15, 3) := by decide +kernel
theorem dX4_putAlias_9 : decode cX4_putAlias 9 = .ok (.arraylength, 1) := by decide +kernel
theorem dX4_putAlias_10 : decode cX4_putAlias 10 = .ok (.if_icmp .ge 10, 3) := by decide +kernel
theorem dX4_putAlias_13 : decode cX4_putAlias 13 = .ok (.aload_n 0, 1) := by decide +kernel
theorem dX4_putAlias_14 : decode cX4_putAlias 14 = .ok (.getfield 15, 3) := by decide +kernel
theorem dX4_putAlias_17 : decode cX4_putAlias 17 = .ok (.iload_n 1, 1) := by decide +kernel
theorem dX4_putAlias_18 : decode cX4_putAlias 18 = .ok (.iload_n 2, 1) := by decide +kernel
theorem dX4_putAlias_19 : decode cX4_putAlias 19 = .ok (.iastore, 1) := by decide +kernel
theorem dX4_putAlias_20 : decode cX4_putAlias 20 = .ok (.return_, 1) := by decide +kernel
theorem dX4_weightOf_0 : decode cX4_weightOf 0 = .ok (.iload_n 1, 1) := by decide +kernel
theorem dX4_weightOf_1 : decode cX4_weightOf 1 = .ok (.ifCond .lt 12, 3) := by decide +kernel
theorem dX4_weightOf_4 : decode cX4_weightOf 4 = .ok (.iload_n 1, 1) := by decide +kernel
theorem dX4_weightOf_5 : decode cX4_weightOf 5 = .ok (.aload_n 0, 1) := by decide +kernel
theorem dX4_weightOf_6 : decode cX4_weightOf 6 = .ok (.getfield 19, 3) := by decide +kernel
theorem dX4_weightOf_9 : decode cX4_weightOf 9 = .ok (.arraylength, 1) := by decide +kernel
theorem dX4_weightOf_10 : decode cX4_weightOf 10 = .ok (.if_icmp .lt 7, 3) := by decide +kernel
theorem dX4_weightOf_13 : decode cX4_weightOf 13 = .ok (.iconst 0, 1) := by decide +kernel
theorem dX4_weightOf_14 : decode cX4_weightOf 14 = .ok (.goto 9, 3) := by decide +kernel
theorem dX4_weightOf_17 : decode cX4_weightOf 17 = .ok (.aload_n 0, 1) := by decide +kernel
theorem dX4_weightOf_18 : decode cX4_weightOf 18 = .ok (.getfield 19, 3) := by decide +kernel
theorem dX4_weightOf_21 : decode cX4_weightOf 21 = .ok (.iload_n 1, 1) := by decide +kernel
theorem dX4_weightOf_22 : decode cX4_weightOf 22 = .ok (.iaload, 1) := by decide +kernel
theorem dX4_weightOf_23 : decode cX4_weightOf 23 = .ok (.ireturn, 1) := by decide +kernel
theorem dX4_putWeight_0 : decode cX4_putWeight 0 = .ok (.iload_n 1, 1) := by decide +kernel
theorem dX4_putWeight_1 : decode cX4_putWeight 1 = .ok (.ifCond .lt 19, 3) := by decide +kernel
theorem dX4_putWeight_4 : decode cX4_putWeight 4 = .ok (.iload_n 1, 1) := by decide +kernel
theorem dX4_putWeight_5 : decode cX4_putWeight 5 = .ok (.aload_n 0, 1) := by decide +kernel
theorem dX4_putWeight_6 : decode cX4_putWeight 6 = .ok (.getfield 19, 3) := by decide +kernel
theorem dX4_putWeight_9 : decode cX4_putWeight 9 = .ok (.arraylength, 1) := by decide +kernel
theorem dX4_putWeight_10 : decode cX4_putWeight 10 = .ok (.if_icmp .ge 10, 3) := by decide +kernel
theorem dX4_putWeight_13 : decode cX4_putWeight 13 = .ok (.aload_n 0, 1) := by decide +kernel
theorem dX4_putWeight_14 : decode cX4_putWeight 14 = .ok (.getfield 19, 3) := by decide +kernel
theorem dX4_putWeight_17 : decode cX4_putWeight 17 = .ok (.iload_n 1, 1) := by decide +kernel
theorem dX4_putWeight_18 : decode cX4_putWeight 18 = .ok (.iload_n 2, 1) := by decide +kernel
theorem dX4_putWeight_19 : decode cX4_putWeight 19 = .ok (.iastore, 1) := by decide +kernel
theorem dX4_putWeight_20 : decode cX4_putWeight 20 = .ok (.return_, 1) := by decide +kernel
set_option maxRecDepth 20000 in
theorem ggX4_unmuted_X4_isMuted : GoodIn wsX4_unmuted wsX4_isMuted := goodIn_r _ [5, 6, 7, 8, 9] (by decide +kernel) (by decide +kernel)
set_option maxRecDepth 20000 in
theorem gX4_unmuted_X4_isMuted : GoodIn wsX4_unmuted (wsV RX4 28 RX4 yX4_isMuted wsX4_isMuted) := goodIn_app (goodIn_of _ (by decide +kernel)) ggX4_unmuted_X4_isMuted
theorem dX4_unmuted_0 : decode cX4_unmuted 0 = .ok (.aload_n 0, 1) := by decide +kernel
theorem dX4_unmuted_1 : decode cX4_unmuted 1 = .ok (.iload_n 1, 1) := by decide +kernel
theorem dX4_unmuted_2 : decode cX4_unmuted 2 = .ok (.invokevirtual 28, 3) := by decide +kernel
theorem dX4_unmuted_5 : decode cX4_unmuted 5 = .ok (.ifCond .eq 7, 3) := by decide +kernel
theorem dX4_unmuted_8 : decode cX4_unmuted 8 = .ok (.iconst (-1), 1) := by decide +kernel
theorem dX4_unmuted_9 : decode cX4_unmuted 9 = .ok (.goto 4, 3) := by decide +kernel
theorem dX4_unmuted_12 : decode cX4_unmuted 12 = .ok (.iload_n 1, 1) := by decide +kernel
theorem dX4_unmuted_13 : decode cX4_unmuted 13 = .ok (.ireturn, 1) := by decide +kernel
theorem dX4_finds_0 : decode cX4_finds 0 = .ok (.iload_n 1, 1) := by decide +kernel
theorem dX4_finds_1 : decode cX4_finds 1 = .ok (.ifCond .lt 34, 3) := by decide +kernel
theorem dX4_finds_4 : decode cX4_finds 4 = .ok (.iload_n 1, 1) := by decide +kernel
theorem dX4_finds_5 : decode cX4_finds 5 = .ok (.aload_n 0, 1) := by decide +kernel
theorem dX4_finds_6 : decode cX4_finds 6 = .ok (.getfield 15, 3) := by decide +kernel
theorem dX4_finds_9 : decode cX4_finds 9 = .ok (.arraylength, 1) := by decide +kernel
theorem dX4_finds_10 : decode cX4_finds 10 = .ok (.if_icmp .ge 25, 3) := by decide +kernel
theorem dX4_finds_13 : decode cX4_finds 13 = .ok (.iload_n 2, 1) := by decide +kernel
theorem dX4_finds_14 : decode cX4_finds 14 = .ok (.ifCond .lt 21, 3) := by decide +kernel
theorem dX4_finds_17 : decode cX4_finds 17 = .ok (.iload_n 2, 1) := by decide +kernel
theorem dX4_finds_18 : decode cX4_finds 18 = .ok (.aload_n 0, 1) := by decide +kernel
theorem dX4_finds_19 : decode cX4_finds 19 = .ok (.getfield 9, 3) := by decide +kernel
theorem dX4_finds_22 : decode cX4_finds 22 = .ok (.arraylength, 1) := by decide +kernel
theorem dX4_finds_23 : decode cX4_finds 23 = .ok (.if_icmp .ge 12, 3) := by decide +kernel
theorem dX4_finds_26 : decode cX4_finds 26 = .ok (.aload_n 0, 1) := by decide +kernel
theorem dX4_finds_27 : decode cX4_finds 27 = .ok (.getfield 9, 3) := by decide +kernel
theorem dX4_finds_30 : decode cX4_finds 30 = .ok (.iload_n 2, 1) := by decide +kernel
theorem dX4_finds_31 : decode cX4_finds 31 = .ok (.baload, 1) := by decide +kernel
theorem dX4_finds_32 : decode cX4_finds 32 = .ok (.ifCond .eq 5, 3) := by decide +kernel
theorem dX4_finds_35 : decode cX4_finds 35 = .ok (.iconst 0, 1) := by decide +kernel
theorem dX4_finds_36 : decode cX4_finds 36 = .ok (.ireturn, 1) := by decide +kernel
theorem dX4_finds_37 : decode cX4_finds 37 = .ok (.iload_n 2, 1) := by decide +kernel
theorem dX4_finds_38 : decode cX4_finds 38 = .ok (.iload_n 1, 1) := by decide +kernel
theorem dX4_finds_39 : decode cX4_finds 39 = .ok (.if_icmp .eq 17, 3) := by decide +kernel
theorem dX4_finds_42 : decode cX4_finds 42 = .ok (.iload_n 3, 1) := by decide +kernel
theorem dX4_finds_43 : decode cX4_finds 43 = .ok (.ifCond .eq 17, 3) := by decide +kernel
theorem dX4_finds_46 : decode cX4_finds 46 = .ok (.iload_n 2, 1) := by decide +kernel
theorem dX4_finds_47 : decode cX4_finds 47 = .ok (.aload_n 0, 1) := by decide +kernel
theorem dX4_finds_48 : decode cX4_finds 48 = .ok (.getfield 15, 3) := by decide +kernel
theorem dX4_finds_51 : decode cX4_finds 51 = .ok (.iload_n 1, 1) := by decide +kernel
theorem dX4_finds_52 : decode cX4_finds 52 = .ok (.iaload, 1) := by decide +kernel
theorem dX4_finds_53 : decode cX4_finds 53 = .ok (.if_icmp .ne 7, 3) := by decide +kernel
theorem dX4_finds_56 : decode cX4_finds 56 = .ok (.iconst 1, 1) := by decide +kernel
theorem dX4_finds_57 : decode cX4_finds 57 = .ok (.goto 4, 3) := by decide +kernel
theorem dX4_finds_60 : decode cX4_finds 60 = .ok (.iconst 0, 1) := by decide +kernel
theorem dX4_finds_61 : decode cX4_finds 61 = .ok (.ireturn, 1) := by decide +kernel
theorem dX5_init_0 : decode cX5_init 0 = .ok (.aload_n 0, 1) := by decide +kernel
theorem dX5_init_1 : decode cX5_init 1 = .ok (.invokespecial 1, 3) := by decide +kernel
theorem dX5_init_4 : decode cX5_init 4 = .ok (.aload_n 0, 1) := by decide +kernel
theorem dX5_init_5 : decode cX5_init 5 = .ok (.iload_n 1, 1) := by decide +kernel
theorem dX5_init_6 : decode cX5_init 6 = .ok (.putfield 7, 3) := by decide +kernel
theorem dX5_init_9 : decode cX5_init 9 = .ok (.return_, 1) := by decide +kernel
theorem dX5_partCount_0 : decode cX5_partCount 0 = .ok (.aload_n 0, 1) := by decide +kernel
theorem dX5_partCount_1 : decode cX5_partCount 1 = .ok (.getfield 7, 3) := by decide +kernel
theorem dX5_partCount_4 : decode cX5_partCount 4 = .ok (.tableswitch 57 1 8 #[48, 48, 48, 48, 57, 57, 50, 52], 48) := by decide +kernel
theorem dX5_partCount_52 : decode cX5_partCount 52 = .ok (.iconst 2, 1) := by decide +kernel
theorem dX5_partCount_53 : decode cX5_partCount 53 = .ok (.ireturn, 1) := by decide +kernel
theorem dX5_partCount_54 : decode cX5_partCount 54 = .ok (.iconst 1, 1) := by decide +kernel
theorem dX5_partCount_55 : decode cX5_partCount 55 = .ok (.ireturn, 1) := by decide +kernel
theorem dX5_partCount_56 : decode cX5_partCount 56 = .ok (.aload_n 0, 1) := by decide +kernel
theorem dX5_partCount_57 : decode cX5_partCount 57 = .ok (.getfield 13, 3) := by decide +kernel
theorem dX5_partCount_60 : decode cX5_partCount 60 = .ok (.ireturn, 1) := by decide +kernel
theorem dX5_partCount_61 : decode cX5_partCount 61 = .ok (.iconst 0, 1) := by decide +kernel
theorem dX5_partCount_62 : decode cX5_partCount 62 = .ok (.ireturn, 1) := by decide +kernel
theorem dX5_partAt_0 : decode cX5_partAt 0 = .ok (.aload_n 0, 1) := by decide +kernel
theorem dX5_partAt_1 : decode cX5_partAt 1 = .ok (.getfield 7, 3) := by decide +kernel
theorem dX5_partAt_4 : decode cX5_partAt 4 = .ok (.bipush 8, 2) := by decide +kernel
theorem dX5_partAt_6 : decode cX5_partAt 6 = .ok (.if_icmp .ne 10, 3) := by decide +kernel
theorem dX5_partAt_9 : decode cX5_partAt 9 = .ok (.aload_n 0, 1) := by decide +kernel
theorem dX5_partAt_10 : decode cX5_partAt 10 = .ok (.getfield 16, 3) := by decide +kernel
theorem dX5_partAt_13 : decode cX5_partAt 13 = .ok (.iload_n 1, 1) := by decide +kernel
theorem dX5_partAt_14 : decode cX5_partAt 14 = .ok (.iadd, 1) := by decide +kernel
theorem dX5_partAt_15 : decode cX5_partAt 15 = .ok (.ireturn, 1) := by decide +kernel
theorem dX5_partAt_16 : decode cX5_partAt 16 = .ok (.iload_n 1, 1) := by decide +kernel
theorem dX5_partAt_17 : decode cX5_partAt 17 = .ok (.ifCond .ne 10, 3) := by decide +kernel
theorem dX5_partAt_20 : decode cX5_partAt 20 = .ok (.aload_n 0, 1) := by decide +kernel
theorem dX5_partAt_21 : decode cX5_partAt 21 = .ok (.getfield 16, 3) := by decide +kernel
theorem dX5_partAt_24 : decode cX5_partAt 24 = .ok (.goto 7, 3) := by decide +kernel
theorem dX5_partAt_27 : decode cX5_partAt 27 = .ok (.aload_n 0, 1) := by decide +kernel
theorem dX5_partAt_28 : decode cX5_partAt 28 = .ok (.getfield 19, 3) := by decide +kernel
theorem dX5_partAt_31 : decode cX5_partAt 31 = .ok (.ireturn, 1) := by decide +kernel
theorem dX5_isFor_0 : decode cX5_isFor 0 = .ok (.aload_n 0, 1) := by decide +kernel
theorem dX5_isFor_1 : decode cX5_isFor 1 = .ok (.getfield 22, 3) := by decide +kernel
theorem dX5_isFor_4 : decode cX5_isFor 4 = .ok (.iload_n 1, 1) := by decide +kernel
theorem dX5_isFor_5 : decode cX5_isFor 5 = .ok (.ishr, 1) := by decide +kernel
theorem dX5_isFor_6 : decode cX5_isFor 6 = .ok (.iconst 1, 1) := by decide +kernel
theorem dX5_isFor_7 : decode cX5_isFor 7 = .ok (.iand, 1) := by decide +kernel
theorem dX5_isFor_8 : decode cX5_isFor 8 = .ok (.iconst 1, 1) := by decide +kernel
theorem dX5_isFor_9 : decode cX5_isFor 9 = .ok (.if_icmp .ne 7, 3) := by decide +kernel
theorem dX5_isFor_12 : decode cX5_isFor 12 = .ok (.iconst 1, 1) := by decide +kernel
theorem dX5_isFor_13 : decode cX5_isFor 13 = .ok (.goto 4, 3) := by decide +kernel
theorem dX5_isFor_16 : decode cX5_isFor 16 = .ok (.iconst 0, 1) := by decide +kernel
theorem dX5_isFor_17 : decode cX5_isFor 17 = .ok (.ireturn, 1) := by decide +kernel
theorem dX5_isApartAsAsked_0 : decode cX5_isApartAsAsked 0 = .ok (.iload_n 1, 1) := by decide +kernel
theorem dX5_isApartAsAsked_1 : decode cX5_isApartAsAsked 1 = .ok (.ifCond .eq 35, 3) := by decide +kernel
theorem dX5_isApartAsAsked_4 : decode cX5_isApartAsAsked 4 = .ok (.iload_n 1, 1) := by decide +kernel
theorem dX5_isApartAsAsked_5 : decode cX5_isApartAsAsked 5 = .ok (.aload_n 0, 1) := by decide +kernel
theorem dX5_isApartAsAsked_6 : decode cX5_isApartAsAsked 6 = .ok (.getfield 25, 3) := by decide +kernel
theorem dX5_isApartAsAsked_9 : decode cX5_isApartAsAsked 9 = .ok (.if_icmp .gt 27, 3) := by decide +kernel
theorem dX5_isApartAsAsked_12 : decode cX5_isApartAsAsked 12 = .ok (.iload_n 1, 1) := by decide +kernel
theorem dX5_isApartAsAsked_13 : decode cX5_isApartAsAsked 13 = .ok (.aload_n 0, 1) := by decide +kernel
theorem dX5_isApartAsAsked_14 : decode cX5_isApartAsAsked 14 = .ok (.getfield 28, 3) := by decide +kernel
theorem dX5_isApartAsAsked_17 : decode cX5_isApartAsAsked 17 = .ok (.ifCond .eq 7, 3) := by decide +kernel
theorem dX5_isApartAsAsked_20 : decode cX5_isApartAsAsked 20 = .ok (.iconst 1, 1) := by decide +kernel
theorem dX5_isApartAsAsked_21 : decode cX5_isApartAsAsked 21 = .ok (.goto 8, 3) := by decide +kernel
theorem dX5_isApartAsAsked_24 : decode cX5_isApartAsAsked 24 = .ok (.aload_n 0, 1) := by decide +kernel
theorem dX5_isApartAsAsked_25 : decode cX5_isApartAsAsked 25 = .ok (.getfield 25, 3) := by decide +kernel
theorem dX5_isApartAsAsked_28 : decode cX5_isApartAsAsked 28 = .ok (.ineg, 1) := by decide +kernel
theorem dX5_isApartAsAsked_29 : decode cX5_isApartAsAsked 29 = .ok (.if_icmp .lt 7, 3) := by decide +kernel
theorem dX5_isApartAsAsked_32 : decode cX5_isApartAsAsked 32 = .ok (.iconst 1, 1) := by decide +kernel
theorem dX5_isApartAsAsked_33 : decode cX5_isApartAsAsked 33 = .ok (.goto 4, 3) := by decide +kernel
theorem dX5_isApartAsAsked_36 : decode cX5_isApartAsAsked 36 = .ok (.iconst 0, 1) := by decide +kernel
theorem dX5_isApartAsAsked_37 : decode cX5_isApartAsAsked 37 = .ok (.ireturn, 1) := by decide +kernel
theorem dX6_init_0 : decode cX6_init 0 = .ok (.aload_n 0, 1) := by decide +kernel
theorem dX6_init_1 : decode cX6_init 1 = .ok (.invokespecial 3, 3) := by decide +kernel
theorem dX6_init_4 : decode cX6_init 4 = .ok (.aload_n 0, 1) := by decide +kernel
theorem dX6_init_5 : decode cX6_init 5 = .ok (.bipush 30, 2) := by decide +kernel
theorem dX6_init_7 : decode cX6_init 7 = .ok (.anewarray 9, 3) := by decide +kernel
theorem dX6_init_10 : decode cX6_init 10 = .ok (.putfield 11, 3) := by decide +kernel
theorem dX6_init_13 : decode cX6_init 13 = .ok (.aload_n 0, 1) := by decide +kernel
theorem dX6_init_14 : decode cX6_init 14 = .ok (.bipush 30, 2) := by decide +kernel
theorem dX6_init_16 : decode cX6_init 16 = .ok (.newarray .boolean, 2) := by decide +kernel
theorem dX6_init_18 : decode cX6_init 18 = .ok (.putfield 17, 3) := by decide +kernel
theorem dX6_init_21 : decode cX6_init 21 = .ok (.aload_n 0, 1) := by decide +kernel
theorem dX6_init_22 : decode cX6_init 22 = .ok (.bipush 12, 2) := by decide +kernel
theorem dX6_init_24 : decode cX6_init 24 = .ok (.newarray .boolean, 2) := by decide +kernel
theorem dX6_init_26 : decode cX6_init 26 = .ok (.putfield 21, 3) := by decide +kernel
theorem dX6_init_29 : decode cX6_init 29 = .ok (.aload_n 0, 1) := by decide +kernel
theorem dX6_init_30 : decode cX6_init 30 = .ok (.aload_n 1, 1) := by decide +kernel
theorem dX6_init_31 : decode cX6_init 31 = .ok (.putfield 24, 3) := by decide +kernel
theorem dX6_init_34 : decode cX6_init 34 = .ok (.return_, 1) := by decide +kernel
theorem dX6_isFull_0 : decode cX6_isFull 0 = .ok (.aload_n 0, 1) := by decide +kernel
theorem dX6_isFull_1 : decode cX6_isFull 1 = .ok (.getfield 28, 3) := by decide +kernel
theorem dX6_isFull_4 : decode cX6_isFull 4 = .ok (.aload_n 0, 1) := by decide +kernel
theorem dX6_isFull_5 : decode cX6_isFull 5 = .ok (.getfield 11, 3) := by decide +kernel
theorem dX6_isFull_8 : decode cX6_isFull 8 = .ok (.arraylength, 1) := by decide +kernel
theorem dX6_isFull_9 : decode cX6_isFull 9 = .ok (.if_icmp .lt 7, 3) := by decide +kernel
theorem dX6_isFull_12 : decode cX6_isFull 12 = .ok (.iconst 1, 1) := by decide +kernel
theorem dX6_isFull_13 : decode cX6_isFull 13 = .ok (.goto 4, 3) := by decide +kernel
theorem dX6_isFull_16 : decode cX6_isFull 16 = .ok (.iconst 0, 1) := by decide +kernel
theorem dX6_isFull_17 : decode cX6_isFull 17 = .ok (.ireturn, 1) := by decide +kernel
set_option maxRecDepth 20000 in
theorem ggX6_hasNode_X6_nodeAt : GoodIn wsX6_hasNode wsX6_nodeAt := goodIn_r _ [5, 6, 7, 8, 9, 10, 11, 12] (by decide +kernel) (by decide +kernel)
set_option maxRecDepth 20000 in
theorem gX6_hasNode_X6_nodeAt : GoodIn wsX6_hasNode (wsV RX6 32 RX6 yX6_nodeAt wsX6_nodeAt) := goodIn_app (goodIn_of _ (by decide +kernel)) ggX6_hasNode_X6_nodeAt
theorem dX6_hasNode_0 : decode cX6_hasNode 0 = .ok (.aload_n 0, 1) := by decide +kernel
theorem dX6_hasNode_1 : decode cX6_hasNode 1 = .ok (.iload_n 1, 1) := by decide +kernel
theorem dX6_hasNode_2 : decode cX6_hasNode 2 = .ok (.invokevirtual 32, 3) := by decide +kernel
theorem dX6_hasNode_5 : decode cX6_hasNode 5 = .ok (.ifnull 7, 3) := by decide +kernel
theorem dX6_hasNode_8 : decode cX6_hasNode 8 = .ok (.iconst 1, 1) := by decide +kernel
theorem dX6_hasNode_9 : decode cX6_hasNode 9 = .ok (.goto 4, 3) := by decide +kernel
theorem dX6_hasNode_12 : decode cX6_hasNode 12 = .ok (.iconst 0, 1) := by decide +kernel
theorem dX6_hasNode_13 : decode cX6_hasNode 13 = .ok (.ireturn, 1) := by decide +kernel
theorem dX6_nodeAt_0 : decode cX6_nodeAt 0 = .ok (.iload_n 1, 1) := by decide +kernel
theorem dX6_nodeAt_1 : decode cX6_nodeAt 1 = .ok (.ifCond .lt 20, 3) := by decide +kernel
theorem dX6_nodeAt_4 : decode cX6_nodeAt 4 = .ok (.iload_n 1, 1) := by decide +kernel
theorem dX6_nodeAt_5 : decode cX6_nodeAt 5 = .ok (.aload_n 0, 1) := by decide +kernel
theorem dX6_nodeAt_6 : decode cX6_nodeAt 6 = .ok (.getfield 28, 3) := by decide +kernel
theorem dX6_nodeAt_9 : decode cX6_nodeAt 9 = .ok (.if_icmp .ge 12, 3) := by decide +kernel
theorem dX6_nodeAt_12 : decode cX6_nodeAt 12 = .ok (.iload_n 1, 1) := by decide +kernel
theorem dX6_nodeAt_13 : decode cX6_nodeAt 13 = .ok (.aload_n 0, 1) := by decide +kernel
theorem dX6_nodeAt_14 : decode cX6_nodeAt 14 = .ok (.getfield 11, 3) := by decide +kernel
theorem dX6_nodeAt_17 : decode cX6_nodeAt 17 = .ok (.arraylength, 1) := by decide +kernel
theorem dX6_nodeAt_18 : decode cX6_nodeAt 18 = .ok (.if_icmp .lt 7, 3) := by decide +kernel
theorem dX6_nodeAt_21 : decode cX6_nodeAt 21 = .ok (.aconst_null, 1) := by decide +kernel
theorem dX6_nodeAt_22 : decode cX6_nodeAt 22 = .ok (.goto 9, 3) := by decide +kernel
theorem dX6_nodeAt_25 : decode cX6_nodeAt 25 = .ok (.aload_n 0, 1) := by decide +kernel
theorem dX6_nodeAt_26 : decode cX6_nodeAt 26 = .ok (.getfield 11, 3) := by decide +kernel
theorem dX6_nodeAt_29 : decode cX6_nodeAt 29 = .ok (.iload_n 1, 1) := by decide +kernel
theorem dX6_nodeAt_30 : decode cX6_nodeAt 30 = .ok (.aaload, 1) := by decide +kernel
theorem dX6_nodeAt_31 : decode cX6_nodeAt 31 = .ok (.areturn, 1) := by decide +kernel
set_option maxRecDepth 20000 in
theorem ggX6_append_X6_isFull : GoodIn wsX6_append wsX6_isFull := goodIn_r _ [7, 1, 2, 8, 9, 10, 11, 12] (by decide +kernel) (by decide +kernel)
set_option maxRecDepth 20000 in
theorem gX6_append_X6_isFull : GoodIn wsX6_append (wsV RX6 36 RX6 yX6_isFull wsX6_isFull) := goodIn_app (goodIn_of _ (by decide +kernel)) ggX6_append_X6_isFull
theorem dX6_append_0 : decode cX6_append 0 = .ok (.aload_n 0, 1) := by decide +kernel
theorem dX6_append_1 : decode cX6_append 1 = .ok (.invokevirtual 36, 3) := by decide +kernel
theorem dX6_append_4 : decode cX6_append 4 = .ok (.ifCond .eq 5, 3) := by decide +kernel
theorem dX6_append_7 : decode cX6_append 7 = .ok (.iconst (-1), 1) := by decide +kernel
theorem dX6_append_8 : decode cX6_append 8 = .ok (.ireturn, 1) := by decide +kernel
theorem dX6_append_9 : decode cX6_append 9 = .ok (.aload_n 0, 1) := by decide +kernel
theorem dX6_append_10 : decode cX6_append 10 = .ok (.getfield 28, 3) := by decide +kernel
theorem dX6_append_13 : decode cX6_append 13 = .ok (.istore_n 2, 1) := by decide +kernel
theorem dX6_append_14 : decode cX6_append 14 = .ok (.aload_n 0, 1) := by decide +kernel
theorem dX6_append_15 : decode cX6_append 15 = .ok (.getfield 11, 3) := by decide +kernel
theorem dX6_append_18 : decode cX6_append 18 = .ok (.iload_n 2, 1) := by decide +kernel
theorem dX6_append_19 : decode cX6_append 19 = .ok (.aload_n 1, 1) := by decide +kernel
theorem dX6_append_20 : decode cX6_append 20 = .ok (.aastore, 1) := by decide +kernel
theorem dX6_append_21 : decode cX6_append 21 = .ok (.aload_n 0, 1) := by decide +kernel
theorem dX6_append_22 : decode cX6_append 22 = .ok (.dup, 1) := by decide +kernel
theorem dX6_append_23 : decode cX6_append 23 = .ok (.getfield 28, 3) := by decide +kernel
theorem dX6_append_26 : decode cX6_append 26 = .ok (.iconst 1, 1) := by decide +kernel
theorem dX6_append_27 : decode cX6_append 27 = .ok (.iadd, 1) := by decide +kernel
theorem dX6_append_28 : decode cX6_append 28 = .ok (.putfield 28, 3) := by decide +kernel
theorem dX6_append_31 : decode cX6_append 31 = .ok (.iload_n 2, 1) := by decide +kernel
theorem dX6_append_32 : decode cX6_append 32 = .ok (.ireturn, 1) := by decide +kernel
theorem dX6_dropAll_0 : decode cX6_dropAll 0 = .ok (.aload_n 0, 1) := by decide +kernel
theorem dX6_dropAll_1 : decode cX6_dropAll 1 = .ok (.getfield 28, 3) := by decide +kernel
theorem dX6_dropAll_4 : decode cX6_dropAll 4 = .ok (.istore_n 1, 1) := by decide +kernel
theorem dX6_dropAll_5 : decode cX6_dropAll 5 = .ok (.aload_n 0, 1) := by decide +kernel
theorem dX6_dropAll_6 : decode cX6_dropAll 6 = .ok (.iconst 0, 1) := by decide +kernel
theorem dX6_dropAll_7 : decode cX6_dropAll 7 = .ok (.putfield 28, 3) := by decide +kernel
theorem dX6_dropAll_10 : decode cX6_dropAll 10 = .ok (.iload_n 1, 1) := by decide +kernel
theorem dX6_dropAll_11 : decode cX6_dropAll 11 = .ok (.ireturn, 1) := by decide +kernel
set_option maxRecDepth 20000 in
theorem ggX6_markInside_X6_nodeAt : GoodIn wsX6_markInside wsX6_nodeAt := goodIn_r _ [10, 11, 12, 31, 32, 33, 34, 35] (by decide +kernel) (by decide +kernel)
set_option maxRecDepth 20000 in
theorem gX6_markInside_X6_nodeAt : GoodIn wsX6_markInside (wsV RX6 32 RX6 yX6_nodeAt wsX6_nodeAt) := goodIn_app (goodIn_of _ (by decide +kernel)) ggX6_markInside_X6_nodeAt
set_option maxRecDepth 20000 in
theorem ggX6_markInside_X6_markParts : GoodIn wsX6_markInside wsX6_markParts := goodIn_r _ [16, 17, 1, 18, 19, 20, 21, 22, 23, 24, 25, 26, 27, 28, 29, 30, 36, 37, 38, 39, 40, 41, 42, 43, 44, 45, 46, 47, 48, 31, 32, 33, 34, 35] (by decide +kernel) (by decide +kernel)
set_option maxRecDepth 20000 in
theorem gX6_markInside_X6_markParts : GoodIn wsX6_markInside (wsV RX6 46 RX6 yX6_markParts wsX6_markParts) := goodIn_app (goodIn_of _ (by decide +kernel)) ggX6_markInside_X6_markParts
theorem dX6_markInside_0 : decode cX6_markInside 0 = .ok (.iconst 0, 1) := by decide +kernel
theorem dX6_markInside_1 : decode cX6_markInside 1 = .ok (.istore_n 3, 1) := by decide +kernel
theorem dX6_markInside_2 : decode cX6_markInside 2 = .ok (.iload_n 3, 1) := by decide +kernel
theorem dX6_markInside_3 : decode cX6_markInside 3 = .ok (.aload_n 0, 1) := by decide +kernel
theorem dX6_markInside_4 : decode cX6_markInside 4 = .ok (.getfield 17, 3) := by decide +kernel
theorem dX6_markInside_7 : decode cX6_markInside 7 = .ok (.arraylength, 1) := by decide +kernel
theorem dX6_markInside_8 : decode cX6_markInside 8 = .ok (.if_icmp .ge 25, 3) := by decide +kernel
theorem dX6_markInside_11 : decode cX6_markInside 11 = .ok (.aload_n 0, 1) := by decide +kernel
theorem dX6_markInside_12 : decode cX6_markInside 12 = .ok (.getfield 17, 3) := by decide +kernel
theorem dX6_markInside_15 : decode cX6_markInside 15 = .ok (.iload_n 3, 1) := by decide +kernel
theorem dX6_markInside_16 : decode cX6_markInside 16 = .ok (.iload_n 3, 1) := by decide +kernel
theorem dX6_markInside_17 : decode cX6_markInside 17 = .ok (.iload_n 1, 1) := by decide +kernel
theorem dX6_markInside_18 : decode cX6_markInside 18 = .ok (.if_icmp .ne 7, 3) := by decide +kernel
theorem dX6_markInside_21 : decode cX6_markInside 21 = .ok (.iconst 1, 1) := by decide +kernel
theorem dX6_markInside_22 : decode cX6_markInside 22 = .ok (.goto 4, 3) := by decide +kernel
theorem dX6_markInside_25 : decode cX6_markInside 25 = .ok (.iconst 0, 1) := by decide +kernel
theorem dX6_markInside_26 : decode cX6_markInside 26 = .ok (.bastore, 1) := by decide +kernel
theorem dX6_markInside_27 : decode cX6_markInside 27 = .ok (.iinc 3 1, 3) := by decide +kernel
theorem dX6_markInside_30 : decode cX6_markInside 30 = .ok (.goto (-28), 3) := by decide +kernel
theorem dX6_markInside_33 : decode cX6_markInside 33 = .ok (.iload_n 1, 1) := by decide +kernel
theorem dX6_markInside_34 : decode cX6_markInside 34 = .ok (.aload_n 0, 1) := by decide +kernel
theorem dX6_markInside_35 : decode cX6_markInside 35 = .ok (.getfield 17, 3) := by decide +kernel
theorem dX6_markInside_38 : decode cX6_markInside 38 = .ok (.arraylength, 1) := by decide +kernel
theorem dX6_markInside_39 : decode cX6_markInside 39 = .ok (.iconst 1, 1) := by decide +kernel
theorem dX6_markInside_40 : decode cX6_markInside 40 = .ok (.isub, 1) := by decide +kernel
theorem dX6_markInside_41 : decode cX6_markInside 41 = .ok (.invokestatic 40, 3) := by decide +kernel
theorem dX6_markInside_44 : decode cX6_markInside 44 = .ok (.istore_n 3, 1) := by decide +kernel
theorem dX6_markInside_45 : decode cX6_markInside 45 = .ok (.iload_n 3, 1) := by decide +kernel
theorem dX6_markInside_46 : decode cX6_markInside 46 = .ok (.ifCond .lt 37, 3) := by decide +kernel
theorem dX6_markInside_49 : decode cX6_markInside 49 = .ok (.aload_n 0, 1) := by decide +kernel
theorem dX6_markInside_50 : decode cX6_markInside 50 = .ok (.iload_n 3, 1) := by decide +kernel
theorem dX6_markInside_51 : decode cX6_markInside 51 = .ok (.invokevirtual 32, 3) := by decide +kernel
theorem dX6_markInside_54 : decode cX6_markInside 54 = .ok (.astore 4, 2) := by decide +kernel
theorem dX6_markInside_56 : decode cX6_markInside 56 = .ok (.aload 4, 2) := by decide +kernel
theorem dX6_markInside_58 : decode cX6_markInside 58 = .ok (.ifnull 19, 3) := by decide +kernel
theorem dX6_markInside_61 : decode cX6_markInside 61 = .ok (.aload_n 0, 1) := by decide +kernel
theorem dX6_markInside_62 : decode cX6_markInside 62 = .ok (.getfield 17, 3) := by decide +kernel
theorem dX6_markInside_65 : decode cX6_markInside 65 = .ok (.iload_n 3, 1) := by decide +kernel
theorem dX6_markInside_66 : decode cX6_markInside 66 = .ok (.baload, 1) := by decide +kernel
theorem dX6_markInside_67 : decode cX6_markInside 67 = .ok (.ifCond .eq 10, 3) := by decide +kernel
theorem dX6_markInside_70 : decode cX6_markInside 70 = .ok (.aload_n 0, 1) := by decide +kernel
theorem dX6_markInside_71 : decode cX6_markInside 71 = .ok (.aload 4, 2) := by decide +kernel
theorem dX6_markInside_73 : decode cX6_markInside 73 = .ok (.iload_n 2, 1) := by decide +kernel
theorem dX6_markInside_74 : decode cX6_markInside 74 = .ok (.invokevirtual 46, 3) := by decide +kernel
theorem dX6_markInside_77 : decode cX6_markInside 77 = .ok (.iinc 3 (-1), 3) := by decide +kernel
theorem dX6_markInside_80 : decode cX6_markInside 80 = .ok (.goto (-35), 3) := by decide +kernel
theorem dX6_markInside_83 : decode cX6_markInside 83 = .ok (.return_, 1) := by decide +kernel
set_option maxRecDepth 20000 in
theorem ggX6_markParts_X5_partCount : GoodIn wsX6_markParts wsX5_partCount := goodIn_r _ [7, 8, 9, 16, 17, 18, 19, 20, 21, 22, 23, 24, 25, 26, 27, 28] (by decide +kernel) (by decide +kernel)
set_option maxRecDepth 20000 in
theorem gX6_markParts_X5_partCount : GoodIn wsX6_markParts (wsV RX6 53 RX5 yX5_partCount wsX5_partCount) := goodIn_app (goodIn_of _ (by decide +kernel)) ggX6_markParts_X5_partCount
set_option maxRecDepth 20000 in
theorem ggX6_markParts_X5_partAt : GoodIn wsX6_markParts wsX5_partAt := goodIn_r _ [13, 8, 14, 15, 16, 17, 18, 19, 20, 21, 22, 23, 24, 25, 26, 27, 28] (by decide +kernel) (by decide +kernel)
set_option maxRecDepth 20000 in
theorem gX6_markParts_X5_partAt : GoodIn wsX6_markParts (wsV RX6 57 RX5 yX5_partAt wsX5_partAt) := goodIn_app (goodIn_of _ (by decide +kernel)) ggX6_markParts_X5_partAt
theorem dX6_markParts_0 : decode cX6_markParts 0 = .ok (.iload_n 2, 1) := by decide +kernel
theorem dX6_markParts_1 : decode cX6_markParts 1 = .ok (.ifCond .eq 15, 3) := by decide +kernel
theorem dX6_markParts_4 : decode cX6_markParts 4 = .ok (.aload_n 1, 1) := by decide +kernel
theorem dX6_markParts_5 : decode cX6_markParts 5 = .ok (.getfield 50, 3) := by decide +kernel
theorem dX6_markParts_8 : decode cX6_markParts 8 = .ok (.iconst 3, 1) := by decide +kernel
theorem dX6_markParts_9 : decode cX6_markParts 9 = .ok (.if_icmp .ne 7, 3) := by decide +kernel
theorem dX6_markParts_12 : decode cX6_markParts 12 = .ok (.iconst 1, 1) := by decide +kernel
theorem dX6_markParts_13 : decode cX6_markParts 13 = .ok (.goto 7, 3) := by decide +kernel
theorem dX6_markParts_16 : decode cX6_markParts 16 = .ok (.aload_n 1, 1) := by decide +kernel
theorem dX6_markParts_17 : decode cX6_markParts 17 = .ok (.invokevirtual 53, 3) := by decide +kernel
theorem dX6_markParts_20 : decode cX6_markParts 20 = .ok (.istore_n 3, 1) := by decide +kernel
theorem dX6_markParts_21 : decode cX6_markParts 21 = .ok (.iconst 0, 1) := by decide +kernel
theorem dX6_markParts_22 : decode cX6_markParts 22 = .ok (.istore 4, 2) := by decide +kernel
theorem dX6_markParts_24 : decode cX6_markParts 24 = .ok (.iload 4, 2) := by decide +kernel
theorem dX6_markParts_26 : decode cX6_markParts 26 = .ok (.iload_n 3, 1) := by decide +kernel
theorem dX6_markParts_27 : decode cX6_markParts 27 = .ok (.if_icmp .ge 40, 3) := by decide +kernel
theorem dX6_markParts_30 : decode cX6_markParts 30 = .ok (.aload_n 1, 1) := by decide +kernel
theorem dX6_markParts_31 : decode cX6_markParts 31 = .ok (.iload 4, 2) := by decide +kernel
theorem dX6_markParts_33 : decode cX6_markParts 33 = .ok (.invokevirtual 57, 3) := by decide +kernel
theorem dX6_markParts_36 : decode cX6_markParts 36 = .ok (.istore 5, 2) := by decide +kernel
theorem dX6_markParts_38 : decode cX6_markParts 38 = .ok (.iload 5, 2) := by decide +kernel
theorem dX6_markParts_40 : decode cX6_markParts 40 = .ok (.ifCond .lt 21, 3) := by decide +kernel
theorem dX6_markParts_43 : decode cX6_markParts 43 = .ok (.iload 5, 2) := by decide +kernel
theorem dX6_markParts_45 : decode cX6_markParts 45 = .ok (.aload_n 0, 1) := by decide +kernel
theorem dX6_markParts_46 : decode cX6_markParts 46 = .ok (.getfield 17, 3) := by decide +kernel
theorem dX6_markParts_49 : decode cX6_markParts 49 = .ok (.arraylength, 1) := by decide +kernel
theorem dX6_markParts_50 : decode cX6_markParts 50 = .ok (.if_icmp .ge 11, 3) := by decide +kernel
theorem dX6_markParts_53 : decode cX6_markParts 53 = .ok (.aload_n 0, 1) := by decide +kernel
theorem dX6_markParts_54 : decode cX6_markParts 54 = .ok (.getfield 17, 3) := by decide +kernel
theorem dX6_markParts_57 : decode cX6_markParts 57 = .ok (.iload 5, 2) := by decide +kernel
theorem dX6_markParts_59 : decode cX6_markParts 59 = .ok (.iconst 1, 1) := by decide +kernel
theorem dX6_markParts_60 : decode cX6_markParts 60 = .ok (.bastore, 1) := by decide +kernel
theorem dX6_markParts_61 : decode cX6_markParts 61 = .ok (.iinc 4 1, 3) := by decide +kernel
theorem dX6_markParts_64 : decode cX6_markParts 64 = .ok (.goto (-40), 3) := by decide +kernel
theorem dX6_markParts_67 : decode cX6_markParts 67 = .ok (.return_, 1) := by decide +kernel
set_option maxRecDepth 20000 in
theorem ggX6_termNodeInside_X6_nodeAt : GoodIn wsX6_termNodeInside wsX6_nodeAt := goodIn_r _ [7, 8, 9, 23, 24, 25, 26, 27] (by decide +kernel) (by decide +kernel)
set_option maxRecDepth 20000 in
theorem gX6_termNodeInside_X6_nodeAt : GoodIn wsX6_termNodeInside (wsV RX6 32 RX6 yX6_nodeAt wsX6_nodeAt) := goodIn_app (goodIn_of _ (by decide +kernel)) ggX6_termNodeInside_X6_nodeAt
theorem dX6_termNodeInside_0 : decode cX6_termNodeInside 0 = .ok (.aload_n 0, 1) := by decide +kernel
theorem dX6_termNodeInside_1 : decode cX6_termNodeInside 1 = .ok (.iload_n 1, 1) := by decide +kernel
theorem dX6_termNodeInside_2 : decode cX6_termNodeInside 2 = .ok (.invokevirtual 32, 3) := by decide +kernel
theorem dX6_termNodeInside_5 : decode cX6_termNodeInside 5 = .ok (.astore_n 2, 1) := by decide +kernel
theorem dX6_termNodeInside_6 : decode cX6_termNodeInside 6 = .ok (.aload_n 2, 1) := by decide +kernel
theorem dX6_termNodeInside_7 : decode cX6_termNodeInside 7 = .ok (.ifnull 36, 3) := by decide +kernel
theorem dX6_termNodeInside_10 : decode cX6_termNodeInside 10 = .ok (.aload_n 2, 1) := by decide +kernel
theorem dX6_termNodeInside_11 : decode cX6_termNodeInside 11 = .ok (.getfield 50, 3) := by decide +kernel
theorem dX6_termNodeInside_14 : decode cX6_termNodeInside 14 = .ok (.ifCond .ne 29, 3) := by decide +kernel
theorem dX6_termNodeInside_17 : decode cX6_termNodeInside 17 = .ok (.iload_n 1, 1) := by decide +kernel
theorem dX6_termNodeInside_18 : decode cX6_termNodeInside 18 = .ok (.ifCond .lt 25, 3) := by decide +kernel
theorem dX6_termNodeInside_21 : decode cX6_termNodeInside 21 = .ok (.iload_n 1, 1) := by decide +kernel
theorem dX6_termNodeInside_22 : decode cX6_termNodeInside 22 = .ok (.aload_n 0, 1) := by decide +kernel
theorem dX6_termNodeInside_23 : decode cX6_termNodeInside 23 = .ok (.getfield 17, 3) := by decide +kernel
theorem dX6_termNodeInside_26 : decode cX6_termNodeInside 26 = .ok (.arraylength, 1) := by decide +kernel
theorem dX6_termNodeInside_27 : decode cX6_termNodeInside 27 = .ok (.if_icmp .ge 16, 3) := by decide +kernel
theorem dX6_termNodeInside_30 : decode cX6_termNodeInside 30 = .ok (.aload_n 0, 1) := by decide +kernel
theorem dX6_termNodeInside_31 : decode cX6_termNodeInside 31 = .ok (.getfield 17, 3) := by decide +kernel
theorem dX6_termNodeInside_34 : decode cX6_termNodeInside 34 = .ok (.iload_n 1, 1) := by decide +kernel
theorem dX6_termNodeInside_35 : decode cX6_termNodeInside 35 = .ok (.baload, 1) := by decide +kernel
theorem dX6_termNodeInside_36 : decode cX6_termNodeInside 36 = .ok (.ifCond .eq 7, 3) := by decide +kernel
theorem dX6_termNodeInside_39 : decode cX6_termNodeInside 39 = .ok (.iconst 1, 1) := by decide +kernel
theorem dX6_termNodeInside_40 : decode cX6_termNodeInside 40 = .ok (.goto 4, 3) := by decide +kernel
theorem dX6_termNodeInside_43 : decode cX6_termNodeInside 43 = .ok (.iconst 0, 1) := by decide +kernel
theorem dX6_termNodeInside_44 : decode cX6_termNodeInside 44 = .ok (.istore_n 3, 1) := by decide +kernel
theorem dX6_termNodeInside_45 : decode cX6_termNodeInside 45 = .ok (.iload_n 3, 1) := by decide +kernel
theorem dX6_termNodeInside_46 : decode cX6_termNodeInside 46 = .ok (.ifCond .eq 7, 3) := by decide +kernel
theorem dX6_termNodeInside_49 : decode cX6_termNodeInside 49 = .ok (.aload_n 2, 1) := by decide +kernel
theorem dX6_termNodeInside_50 : decode cX6_termNodeInside 50 = .ok (.goto 4, 3) := by decide +kernel
theorem dX6_termNodeInside_53 : decode cX6_termNodeInside 53 = .ok (.aconst_null, 1) := by decide +kernel
theorem dX6_termNodeInside_54 : decode cX6_termNodeInside 54 = .ok (.areturn, 1) := by decide +kernel
set_option maxRecDepth 20000 in
theorem ggX6_entriesOf_X6_markInside : GoodIn wsX6_entriesOf wsX6_markInside := goodIn_r _ [6, 7, 8, 9, 10, 11, 12, 13, 14, 5, 15, 1, 16, 17, 18, 19, 20, 21, 22, 23, 24, 25, 26, 27, 28, 29, 30, 31, 32, 33, 34, 71, 72, 73, 74, 75, 76, 77, 78, 79, 80, 81, 82, 83, 84, 85, 86, 87, 88] (by decide +kernel) (by decide +kernel)
set_option maxRecDepth 20000 in
theorem gX6_entriesOf_X6_markInside : GoodIn wsX6_entriesOf (wsV RX6 61 RX6 yX6_markInside wsX6_markInside) := goodIn_app (goodIn_of _ (by decide +kernel)) ggX6_entriesOf_X6_markInside
set_option maxRecDepth 20000 in
theorem ggX6_entriesOf_X6_termNodeInside : GoodIn wsX6_entriesOf wsX6_termNodeInside := goodIn_r _ [38, 21, 7, 12, 13, 14, 5, 15, 1, 16, 76, 77, 78, 79, 80, 81, 82, 83, 84, 85, 86, 87, 88, 71, 72, 73, 74, 75] (by decide +kernel) (by decide +kernel)
set_option maxRecDepth 20000 in
theorem gX6_entriesOf_X6_termNodeInside : GoodIn wsX6_entriesOf (wsV RX6 65 RX6 yX6_termNodeInside wsX6_termNodeInside) := goodIn_app (goodIn_of _ (by decide +kernel)) ggX6_entriesOf_X6_termNodeInside
set_option maxRecDepth 20000 in
theorem ggX6_entriesOf_X6_entriesOfTerm : GoodIn wsX6_entriesOf wsX6_entriesOfTerm := goodIn_r _ [42, 43, 44, 45, 46, 47, 48, 49, 50, 51, 52, 53, 54, 55, 56, 57, 58, 59, 60, 61, 62, 25, 63, 64, 65, 66, 67, 68, 69, 70, 71, 72, 73, 74, 75, 76, 77, 78, 79, 80, 81, 82, 83, 84, 85, 86, 87, 88, 89, 90, 91, 92, 93, 94] (by decide +kernel) (by decide +kernel)
set_option maxRecDepth 20000 in
theorem gX6_entriesOf_X6_entriesOfTerm : GoodIn wsX6_entriesOf (wsV RX6 68 RX6 yX6_entriesOfTerm wsX6_entriesOfTerm) := goodIn_app (goodIn_of _ (by decide +kernel)) ggX6_entriesOf_X6_entriesOfTerm
theorem dX6_entriesOf_0 : decode cX6_entriesOf 0 = .ok (.aload_n 0, 1) := by decide +kernel
theorem dX6_entriesOf_1 : decode cX6_entriesOf 1 = .ok (.iload_n 1, 1) := by decide +kernel
theorem dX6_entriesOf_2 : decode cX6_entriesOf 2 = .ok (.iconst 0, 1) := by decide +kernel
theorem dX6_entriesOf_3 : decode cX6_entriesOf 3 = .ok (.invokevirtual 61, 3) := by decide +kernel
theorem dX6_entriesOf_6 : decode cX6_entriesOf 6 = .ok (.iconst 0, 1) := by decide +kernel
theorem dX6_entriesOf_7 : decode cX6_entriesOf 7 = .ok (.istore_n 3, 1) := by decide +kernel
theorem dX6_entriesOf_8 : decode cX6_entriesOf 8 = .ok (.iconst 0, 1) := by decide +kernel
theorem dX6_entriesOf_9 : decode cX6_entriesOf 9 = .ok (.istore 4, 2) := by decide +kernel
theorem dX6_entriesOf_11 : decode cX6_entriesOf 11 = .ok (.iload 4, 2) := by decide +kernel
theorem dX6_entriesOf_13 : decode cX6_entriesOf 13 = .ok (.aload_n 0, 1) := by decide +kernel
theorem dX6_entriesOf_14 : decode cX6_entriesOf 14 = .ok (.getfield 28, 3) := by decide +kernel
theorem dX6_entriesOf_17 : decode cX6_entriesOf 17 = .ok (.if_icmp .ge 32, 3) := by decide +kernel
theorem dX6_entriesOf_20 : decode cX6_entriesOf 20 = .ok (.aload_n 0, 1) := by decide +kernel
theorem dX6_entriesOf_21 : decode cX6_entriesOf 21 = .ok (.iload 4, 2) := by decide +kernel
theorem dX6_entriesOf_23 : decode cX6_entriesOf 23 = .ok (.invokevirtual 65, 3) := by decide +kernel
theorem dX6_entriesOf_26 : decode cX6_entriesOf 26 = .ok (.astore 5, 2) := by decide +kernel
theorem dX6_entriesOf_28 : decode cX6_entriesOf 28 = .ok (.aload 5, 2) := by decide +kernel
theorem dX6_entriesOf_30 : decode cX6_entriesOf 30 = .ok (.ifnull 13, 3) := by decide +kernel
theorem dX6_entriesOf_33 : decode cX6_entriesOf 33 = .ok (.iload_n 3, 1) := by decide +kernel
theorem dX6_entriesOf_34 : decode cX6_entriesOf 34 = .ok (.aload_n 0, 1) := by decide +kernel
theorem dX6_entriesOf_35 : decode cX6_entriesOf 35 = .ok (.aload 5, 2) := by decide +kernel
theorem dX6_entriesOf_37 : decode cX6_entriesOf 37 = .ok (.aload_n 2, 1) := by decide +kernel
theorem dX6_entriesOf_38 : decode cX6_entriesOf 38 = .ok (.invokevirtual 68, 3) := by decide +kernel
theorem dX6_entriesOf_41 : decode cX6_entriesOf 41 = .ok (.iadd, 1) := by decide +kernel
theorem dX6_entriesOf_42 : decode cX6_entriesOf 42 = .ok (.istore_n 3, 1) := by decide +kernel
theorem dX6_entriesOf_43 : decode cX6_entriesOf 43 = .ok (.iinc 4 1, 3) := by decide +kernel
theorem dX6_entriesOf_46 : decode cX6_entriesOf 46 = .ok (.goto (-35), 3) := by decide +kernel
theorem dX6_entriesOf_49 : decode cX6_entriesOf 49 = .ok (.iload_n 3, 1) := by decide +kernel
theorem dX6_entriesOf_50 : decode cX6_entriesOf 50 = .ok (.ireturn, 1) := by decide +kernel
set_option maxRecDepth 20000 in
theorem ggX6_entriesOfTerm_X4_unmuted : GoodIn wsX6_entriesOfTerm wsX4_unmuted := goodIn_r _ [7, 8, 9, 10, 6, 11, 12, 48, 49, 50] (by decide +kernel) (by decide +kernel)
set_option maxRecDepth 20000 in
theorem gX6_entriesOfTerm_X4_unmuted : GoodIn wsX6_entriesOfTerm (wsV RX6 75 RX4 yX4_unmuted wsX4_unmuted) := goodIn_app (goodIn_of _ (by decide +kernel)) ggX6_entriesOfTerm_X4_unmuted
set_option maxRecDepth 20000 in
theorem ggX6_entriesOfTerm_X4_aliasOf : GoodIn wsX6_entriesOfTerm wsX4_aliasOf := goodIn_r _ [16, 17, 48, 49, 50] (by decide +kernel) (by decide +kernel)
set_option maxRecDepth 20000 in
theorem gX6_entriesOfTerm_X4_aliasOf : GoodIn wsX6_entriesOfTerm (wsV RX6 80 RX4 yX4_aliasOf wsX4_aliasOf) := goodIn_app (goodIn_of _ (by decide +kernel)) ggX6_entriesOfTerm_X4_aliasOf
set_option maxRecDepth 20000 in
theorem ggX6_entriesOfTerm_X5_isFor : GoodIn wsX6_entriesOfTerm wsX5_isFor := goodIn_r _ [22, 23, 35, 36, 37, 38, 39, 40, 41, 42, 43, 44, 45, 46, 47] (by decide +kernel) (by decide +kernel)
set_option maxRecDepth 20000 in
theorem gX6_entriesOfTerm_X5_isFor : GoodIn wsX6_entriesOfTerm (wsV RX6 83 RX5 yX5_isFor wsX5_isFor) := goodIn_app (goodIn_of _ (by decide +kernel)) ggX6_entriesOfTerm_X5_isFor
set_option maxRecDepth 20000 in
theorem ggX6_entriesOfTerm_X1_spreadOf : GoodIn wsX6_entriesOfTerm wsX1_spreadOf := goodIn_r _ [28, 29, 51, 52, 53] (by decide +kernel) (by decide +kernel)
set_option maxRecDepth 20000 in
theorem gX6_entriesOfTerm_X1_spreadOf : GoodIn wsX6_entriesOfTerm (wsV RX6 87 RX1 yX1_spreadOf wsX1_spreadOf) := goodIn_app (goodIn_of _ (by decide +kernel)) ggX6_entriesOfTerm_X1_spreadOf
theorem dX6_entriesOfTerm_0 : decode cX6_entriesOfTerm 0 = .ok (.aload_n 0, 1) := by decide +kernel
theorem dX6_entriesOfTerm_1 : decode cX6_entriesOfTerm 1 = .ok (.getfield 24, 3) := by decide +kernel
theorem dX6_entriesOfTerm_4 : decode cX6_entriesOfTerm 4 = .ok (.aload_n 1, 1) := by decide +kernel
theorem dX6_entriesOfTerm_5 : decode cX6_entriesOfTerm 5 = .ok (.getfield 72, 3) := by decide +kernel
theorem dX6_entriesOfTerm_8 : decode cX6_entriesOfTerm 8 = .ok (.invokevirtual 75, 3) := by decide +kernel
theorem dX6_entriesOfTerm_11 : decode cX6_entriesOfTerm 11 = .ok (.istore_n 3, 1) := by decide +kernel
theorem dX6_entriesOfTerm_12 : decode cX6_entriesOfTerm 12 = .ok (.aload_n 0, 1) := by decide +kernel
theorem dX6_entriesOfTerm_13 : decode cX6_entriesOfTerm 13 = .ok (.getfield 24, 3) := by decide +kernel
theorem dX6_entriesOfTerm_16 : decode cX6_entriesOfTerm 16 = .ok (.aload_n 0, 1) := by decide +kernel
theorem dX6_entriesOfTerm_17 : decode cX6_entriesOfTerm 17 = .ok (.getfield 24, 3) := by decide +kernel
theorem dX6_entriesOfTerm_20 : decode cX6_entriesOfTerm 20 = .ok (.aload_n 1, 1) := by decide +kernel
theorem dX6_entriesOfTerm_21 : decode cX6_entriesOfTerm 21 = .ok (.getfield 72, 3) := by decide +kernel
theorem dX6_entriesOfTerm_24 : decode cX6_entriesOfTerm 24 = .ok (.invokevirtual 80, 3) := by decide +kernel
theorem dX6_entriesOfTerm_27 : decode cX6_entriesOfTerm 27 = .ok (.invokevirtual 75, 3) := by decide +kernel
theorem dX6_entriesOfTerm_30 : decode cX6_entriesOfTerm 30 = .ok (.istore 4, 2) := by decide +kernel
theorem dX6_entriesOfTerm_32 : decode cX6_entriesOfTerm 32 = .ok (.iconst 0, 1) := by decide +kernel
theorem dX6_entriesOfTerm_33 : decode cX6_entriesOfTerm 33 = .ok (.istore 5, 2) := by decide +kernel
theorem dX6_entriesOfTerm_35 : decode cX6_entriesOfTerm 35 = .ok (.iconst 0, 1) := by decide +kernel
theorem dX6_entriesOfTerm_36 : decode cX6_entriesOfTerm 36 = .ok (.istore 6, 2) := by decide +kernel
theorem dX6_entriesOfTerm_38 : decode cX6_entriesOfTerm 38 = .ok (.iload 6, 2) := by decide +kernel
theorem dX6_entriesOfTerm_40 : decode cX6_entriesOfTerm 40 = .ok (.iconst 3, 1) := by decide +kernel
theorem dX6_entriesOfTerm_41 : decode cX6_entriesOfTerm 41 = .ok (.if_icmp .ge 39, 3) := by decide +kernel
theorem dX6_entriesOfTerm_44 : decode cX6_entriesOfTerm 44 = .ok (.aload_n 1, 1) := by decide +kernel
theorem dX6_entriesOfTerm_45 : decode cX6_entriesOfTerm 45 = .ok (.iload 6, 2) := by decide +kernel
theorem dX6_entriesOfTerm_47 : decode cX6_entriesOfTerm 47 = .ok (.invokevirtual 83, 3) := by decide +kernel
theorem dX6_entriesOfTerm_50 : decode cX6_entriesOfTerm 50 = .ok (.ifCond .eq 24, 3) := by decide +kernel
theorem dX6_entriesOfTerm_53 : decode cX6_entriesOfTerm 53 = .ok (.iload 5, 2) := by decide +kernel
theorem dX6_entriesOfTerm_55 : decode cX6_entriesOfTerm 55 = .ok (.aload_n 2, 1) := by decide +kernel
theorem dX6_entriesOfTerm_56 : decode cX6_entriesOfTerm 56 = .ok (.iload_n 3, 1) := by decide +kernel
theorem dX6_entriesOfTerm_57 : decode cX6_entriesOfTerm 57 = .ok (.iload 6, 2) := by decide +kernel
theorem dX6_entriesOfTerm_59 : decode cX6_entriesOfTerm 59 = .ok (.invokevirtual 87, 3) := by decide +kernel
theorem dX6_entriesOfTerm_62 : decode cX6_entriesOfTerm 62 = .ok (.aload_n 2, 1) := by decide +kernel
theorem dX6_entriesOfTerm_63 : decode cX6_entriesOfTerm 63 = .ok (.iload 4, 2) := by decide +kernel
theorem dX6_entriesOfTerm_65 : decode cX6_entriesOfTerm 65 = .ok (.iload 6, 2) := by decide +kernel
theorem dX6_entriesOfTerm_67 : decode cX6_entriesOfTerm 67 = .ok (.invokevirtual 87, 3) := by decide +kernel
theorem dX6_entriesOfTerm_70 : decode cX6_entriesOfTerm 70 = .ok (.iadd, 1) := by decide +kernel
theorem dX6_entriesOfTerm_71 : decode cX6_entriesOfTerm 71 = .ok (.iadd, 1) := by decide +kernel
theorem dX6_entriesOfTerm_72 : decode cX6_entriesOfTerm 72 = .ok (.istore 5, 2) := by decide +kernel
theorem dX6_entriesOfTerm_74 : decode cX6_entriesOfTerm 74 = .ok (.iinc 6 1, 3) := by decide +kernel
theorem dX6_entriesOfTerm_77 : decode cX6_entriesOfTerm 77 = .ok (.goto (-39), 3) := by decide +kernel
theorem dX6_entriesOfTerm_80 : decode cX6_entriesOfTerm 80 = .ok (.iload 5, 2) := by decide +kernel
theorem dX6_entriesOfTerm_82 : decode cX6_entriesOfTerm 82 = .ok (.ireturn, 1) := by decide +kernel
set_option maxRecDepth 20000 in
theorem ggX6_bestWindow_X6_markInside : GoodIn wsX6_bestWindow wsX6_markInside := goodIn_r _ [11, 12, 3, 4, 5, 6, 13, 14, 15, 10, 16, 17, 18, 19, 20, 21, 22, 23, 24, 25, 26, 27, 28, 29, 30, 31, 32, 33, 34, 35, 36, 74, 75, 76, 77, 78, 84, 85, 86, 87, 88, 89, 90, 91, 92, 93, 94, 95, 96] (by decide +kernel) (by decide +kernel)
set_option maxRecDepth 20000 in
theorem gX6_bestWindow_X6_markInside : GoodIn wsX6_bestWindow (wsV RX6 61 RX6 yX6_markInside wsX6_markInside) := goodIn_app (goodIn_of _ (by decide +kernel)) ggX6_bestWindow_X6_markInside
set_option maxRecDepth 20000 in
theorem ggX6_bestWindow_X9_termOn : GoodIn wsX6_bestWindow wsX9_termOn := goodIn_r _ [41, 42, 43, 79, 80, 81, 82, 83] (by decide +kernel) (by decide +kernel)
set_option maxRecDepth 20000 in
theorem gX6_bestWindow_X9_termOn : GoodIn wsX6_bestWindow (wsV RX6 97 RX9 yX9_termOn wsX9_termOn) := goodIn_app (goodIn_of _ (by decide +kernel)) ggX6_bestWindow_X9_termOn
set_option maxRecDepth 20000 in
theorem ggX6_bestWindow_X6_isSought : GoodIn wsX6_bestWindow wsX6_isSought := goodIn_r _ [47, 17, 48, 49, 50, 51, 52, 10, 53, 23, 12, 13, 14, 15, 16, 18, 54, 55, 56, 27, 57, 58, 59, 60, 61, 62, 63, 64, 65, 74, 75, 76, 77, 78, 84, 85, 86, 87, 88, 89, 90, 91, 92, 93, 94, 95, 96, 97, 98, 99] (by decide +kernel) (by decide +kernel)
set_option maxRecDepth 20000 in
theorem gX6_bestWindow_X6_isSought : GoodIn wsX6_bestWindow (wsV RX6 100 RX6 yX6_isSought wsX6_isSought) := goodIn_app (goodIn_of _ (by decide +kernel)) ggX6_bestWindow_X6_isSought
set_option maxRecDepth 20000 in
theorem ggX6_bestWindow_X6_countSought : GoodIn wsX6_bestWindow wsX6_countSought := goodIn_r _ [69, 1, 70, 71, 72, 10, 73, 37, 38, 39, 40, 41, 42, 43, 74, 75, 76, 77, 78, 79, 80, 81, 82, 83] (by decide +kernel) (by decide +kernel)
set_option maxRecDepth 20000 in
theorem gX6_bestWindow_X6_countSought : GoodIn wsX6_bestWindow (wsV RX6 104 RX6 yX6_countSought wsX6_countSought) := goodIn_app (goodIn_of _ (by decide +kernel)) ggX6_bestWindow_X6_countSought
theorem dX6_bestWindow_0 : decode cX6_bestWindow 0 = .ok (.aload_n 0, 1) := by decide +kernel
theorem dX6_bestWindow_1 : decode cX6_bestWindow 1 = .ok (.iload_n 1, 1) := by decide +kernel
theorem dX6_bestWindow_2 : decode cX6_bestWindow 2 = .ok (.iconst 1, 1) := by decide +kernel
theorem dX6_bestWindow_3 : decode cX6_bestWindow 3 = .ok (.invokevirtual 61, 3) := by decide +kernel
theorem dX6_bestWindow_6 : decode cX6_bestWindow 6 = .ok (.iconst 0, 1) := by decide +kernel
theorem dX6_bestWindow_7 : decode cX6_bestWindow 7 = .ok (.istore 5, 2) := by decide +kernel
theorem dX6_bestWindow_9 : decode cX6_bestWindow 9 = .ok (.iload 5, 2) := by decide +kernel
theorem dX6_bestWindow_11 : decode cX6_bestWindow 11 = .ok (.aload_n 0, 1) := by decide +kernel
theorem dX6_bestWindow_12 : decode cX6_bestWindow 12 = .ok (.getfield 21, 3) := by decide +kernel
theorem dX6_bestWindow_15 : decode cX6_bestWindow 15 = .ok (.arraylength, 1) := by decide +kernel
theorem dX6_bestWindow_16 : decode cX6_bestWindow 16 = .ok (.if_icmp .ge 44, 3) := by decide +kernel
theorem dX6_bestWindow_19 : decode cX6_bestWindow 19 = .ok (.aload_n 0, 1) := by decide +kernel
theorem dX6_bestWindow_20 : decode cX6_bestWindow 20 = .ok (.getfield 21, 3) := by decide +kernel
theorem dX6_bestWindow_23 : decode cX6_bestWindow 23 = .ok (.iload 5, 2) := by decide +kernel
theorem dX6_bestWindow_25 : decode cX6_bestWindow 25 = .ok (.iload 5, 2) := by decide +kernel
theorem dX6_bestWindow_27 : decode cX6_bestWindow 27 = .ok (.aload_n 2, 1) := by decide +kernel
theorem dX6_bestWindow_28 : decode cX6_bestWindow 28 = .ok (.getfield 92, 3) := by decide +kernel
theorem dX6_bestWindow_31 : decode cX6_bestWindow 31 = .ok (.if_icmp .ge 21, 3) := by decide +kernel
theorem dX6_bestWindow_34 : decode cX6_bestWindow 34 = .ok (.aload_n 0, 1) := by decide +kernel
theorem dX6_bestWindow_35 : decode cX6_bestWindow 35 = .ok (.aload_n 2, 1) := by decide +kernel
theorem dX6_bestWindow_36 : decode cX6_bestWindow 36 = .ok (.iload 5, 2) := by decide +kernel
theorem dX6_bestWindow_38 : decode cX6_bestWindow 38 = .ok (.invokevirtual 97, 3) := by decide +kernel
theorem dX6_bestWindow_41 : decode cX6_bestWindow 41 = .ok (.iload_n 3, 1) := by decide +kernel
theorem dX6_bestWindow_42 : decode cX6_bestWindow 42 = .ok (.invokevirtual 100, 3) := by decide +kernel
theorem dX6_bestWindow_45 : decode cX6_bestWindow 45 = .ok (.ifCond .eq 7, 3) := by decide +kernel
theorem dX6_bestWindow_48 : decode cX6_bestWindow 48 = .ok (.iconst 1, 1) := by decide +kernel
theorem dX6_bestWindow_49 : decode cX6_bestWindow 49 = .ok (.goto 4, 3) := by decide +kernel
theorem dX6_bestWindow_52 : decode cX6_bestWindow 52 = .ok (.iconst 0, 1) := by decide +kernel
theorem dX6_bestWindow_53 : decode cX6_bestWindow 53 = .ok (.bastore, 1) := by decide +kernel
theorem dX6_bestWindow_54 : decode cX6_bestWindow 54 = .ok (.iinc 5 1, 3) := by decide +kernel
theorem dX6_bestWindow_57 : decode cX6_bestWindow 57 = .ok (.goto (-48), 3) := by decide +kernel
theorem dX6_bestWindow_60 : decode cX6_bestWindow 60 = .ok (.iconst (-1), 1) := by decide +kernel
theorem dX6_bestWindow_61 : decode cX6_bestWindow 61 = .ok (.istore 5, 2) := by decide +kernel
theorem dX6_bestWindow_63 : decode cX6_bestWindow 63 = .ok (.iconst 0, 1) := by decide +kernel
theorem dX6_bestWindow_64 : decode cX6_bestWindow 64 = .ok (.istore 6, 2) := by decide +kernel
theorem dX6_bestWindow_66 : decode cX6_bestWindow 66 = .ok (.iconst 0, 1) := by decide +kernel
theorem dX6_bestWindow_67 : decode cX6_bestWindow 67 = .ok (.istore 7, 2) := by decide +kernel
theorem dX6_bestWindow_69 : decode cX6_bestWindow 69 = .ok (.iload 7, 2) := by decide +kernel
theorem dX6_bestWindow_71 : decode cX6_bestWindow 71 = .ok (.aload_n 2, 1) := by decide +kernel
theorem dX6_bestWindow_72 : decode cX6_bestWindow 72 = .ok (.getfield 92, 3) := by decide +kernel
theorem dX6_bestWindow_75 : decode cX6_bestWindow 75 = .ok (.if_icmp .ge 45, 3) := by decide +kernel
theorem dX6_bestWindow_78 : decode cX6_bestWindow 78 = .ok (.aload_n 0, 1) := by decide +kernel
theorem dX6_bestWindow_79 : decode cX6_bestWindow 79 = .ok (.aload_n 2, 1) := by decide +kernel
theorem dX6_bestWindow_80 : decode cX6_bestWindow 80 = .ok (.iload 7, 2) := by decide +kernel
theorem dX6_bestWindow_82 : decode cX6_bestWindow 82 = .ok (.iload 7, 2) := by decide +kernel
theorem dX6_bestWindow_84 : decode cX6_bestWindow 84 = .ok (.iload 4, 2) := by decide +kernel
theorem dX6_bestWindow_86 : decode cX6_bestWindow 86 = .ok (.iadd, 1) := by decide +kernel
theorem dX6_bestWindow_87 : decode cX6_bestWindow 87 = .ok (.aload_n 2, 1) := by decide +kernel
theorem dX6_bestWindow_88 : decode cX6_bestWindow 88 = .ok (.getfield 92, 3) := by decide +kernel
theorem dX6_bestWindow_91 : decode cX6_bestWindow 91 = .ok (.invokestatic 40, 3) := by decide +kernel
theorem dX6_bestWindow_94 : decode cX6_bestWindow 94 = .ok (.invokevirtual 104, 3) := by decide +kernel
theorem dX6_bestWindow_97 : decode cX6_bestWindow 97 = .ok (.istore 8, 2) := by decide +kernel
theorem dX6_bestWindow_99 : decode cX6_bestWindow 99 = .ok (.iload 8, 2) := by decide +kernel
theorem dX6_bestWindow_101 : decode cX6_bestWindow 101 = .ok (.iload 6, 2) := by decide +kernel
theorem dX6_bestWindow_103 : decode cX6_bestWindow 103 = .ok (.if_icmp .le 11, 3) := by decide +kernel
theorem dX6_bestWindow_106 : decode cX6_bestWindow 106 = .ok (.iload 8, 2) := by decide +kernel
theorem dX6_bestWindow_108 : decode cX6_bestWindow 108 = .ok (.istore 6, 2) := by decide +kernel
theorem dX6_bestWindow_110 : decode cX6_bestWindow 110 = .ok (.iload 7, 2) := by decide +kernel
theorem dX6_bestWindow_112 : decode cX6_bestWindow 112 = .ok (.istore 5, 2) := by decide +kernel
theorem dX6_bestWindow_114 : decode cX6_bestWindow 114 = .ok (.iinc 7 1, 3) := by decide +kernel
theorem dX6_bestWindow_117 : decode cX6_bestWindow 117 = .ok (.goto (-48), 3) := by decide +kernel
theorem dX6_bestWindow_120 : decode cX6_bestWindow 120 = .ok (.iload 5, 2) := by decide +kernel
theorem dX6_bestWindow_122 : decode cX6_bestWindow 122 = .ok (.ireturn, 1) := by decide +kernel
set_option maxRecDepth 20000 in
theorem ggX6_isSought_X6_termNodeInside : GoodIn wsX6_isSought wsX6_termNodeInside := goodIn_r _ [8, 9, 10, 11, 12, 13, 7, 14, 1, 15, 34, 35, 36, 37, 38, 39, 40, 41, 42, 43, 44, 45, 46, 29, 30, 31, 32, 33] (by decide +kernel) (by decide +kernel)
set_option maxRecDepth 20000 in
theorem gX6_isSought_X6_termNodeInside : GoodIn wsX6_isSought (wsV RX6 65 RX6 yX6_termNodeInside wsX6_termNodeInside) := goodIn_app (goodIn_of _ (by decide +kernel)) ggX6_isSought_X6_termNodeInside
set_option maxRecDepth 20000 in
theorem ggX6_isSought_X5_isFor : GoodIn wsX6_isSought wsX5_isFor := goodIn_r _ [20, 21, 34, 35, 36, 37, 38, 39, 40, 41, 42, 43, 44, 45, 46] (by decide +kernel) (by decide +kernel)
set_option maxRecDepth 20000 in
theorem gX6_isSought_X5_isFor : GoodIn wsX6_isSought (wsV RX6 83 RX5 yX5_isFor wsX5_isFor) := goodIn_app (goodIn_of _ (by decide +kernel)) ggX6_isSought_X5_isFor
set_option maxRecDepth 20000 in
theorem ggX6_isSought_X4_finds : GoodIn wsX6_isSought wsX4_finds := goodIn_r _ [26, 27, 28, 47, 48, 49] (by decide +kernel) (by decide +kernel)
set_option maxRecDepth 20000 in
theorem gX6_isSought_X4_finds : GoodIn wsX6_isSought (wsV RX6 108 RX4 yX4_finds wsX4_finds) := goodIn_app (goodIn_of _ (by decide +kernel)) ggX6_isSought_X4_finds
theorem dX6_isSought_0 : decode cX6_isSought 0 = .ok (.iconst 0, 1) := by decide +kernel
theorem dX6_isSought_1 : decode cX6_isSought 1 = .ok (.istore_n 3, 1) := by decide +kernel
theorem dX6_isSought_2 : decode cX6_isSought 2 = .ok (.iload_n 3, 1) := by decide +kernel
theorem dX6_isSought_3 : decode cX6_isSought 3 = .ok (.aload_n 0, 1) := by decide +kernel
theorem dX6_isSought_4 : decode cX6_isSought 4 = .ok (.getfield 28, 3) := by decide +kernel
theorem dX6_isSought_7 : decode cX6_isSought 7 = .ok (.if_icmp .ge 49, 3) := by decide +kernel
theorem dX6_isSought_10 : decode cX6_isSought 10 = .ok (.aload_n 0, 1) := by decide +kernel
theorem dX6_isSought_11 : decode cX6_isSought 11 = .ok (.iload_n 3, 1) := by decide +kernel
theorem dX6_isSought_12 : decode cX6_isSought 12 = .ok (.invokevirtual 65, 3) := by decide +kernel
theorem dX6_isSought_15 : decode cX6_isSought 15 = .ok (.astore 4, 2) := by decide +kernel
theorem dX6_isSought_17 : decode cX6_isSought 17 = .ok (.aload 4, 2) := by decide +kernel
theorem dX6_isSought_19 : decode cX6_isSought 19 = .ok (.ifnull 31, 3) := by decide +kernel
theorem dX6_isSought_22 : decode cX6_isSought 22 = .ok (.aload 4, 2) := by decide +kernel
theorem dX6_isSought_24 : decode cX6_isSought 24 = .ok (.iload_n 2, 1) := by decide +kernel
theorem dX6_isSought_25 : decode cX6_isSought 25 = .ok (.invokevirtual 83, 3) := by decide +kernel
theorem dX6_isSought_28 : decode cX6_isSought 28 = .ok (.ifCond .eq 22, 3) := by decide +kernel
theorem dX6_isSought_31 : decode cX6_isSought 31 = .ok (.aload_n 0, 1) := by decide +kernel
theorem dX6_isSought_32 : decode cX6_isSought 32 = .ok (.getfield 24, 3) := by decide +kernel
theorem dX6_isSought_35 : decode cX6_isSought 35 = .ok (.aload 4, 2) := by decide +kernel
theorem dX6_isSought_37 : decode cX6_isSought 37 = .ok (.getfield 72, 3) := by decide +kernel
theorem dX6_isSought_40 : decode cX6_isSought 40 = .ok (.iload_n 1, 1) := by decide +kernel
theorem dX6_isSought_41 : decode cX6_isSought 41 = .ok (.iconst 1, 1) := by decide +kernel
theorem dX6_isSought_42 : decode cX6_isSought 42 = .ok (.invokevirtual 108, 3) := by decide +kernel
theorem dX6_isSought_45 : decode cX6_isSought 45 = .ok (.ifCond .eq 5, 3) := by decide +kernel
theorem dX6_isSought_48 : decode cX6_isSought 48 = .ok (.iconst 1, 1) := by decide +kernel
theorem dX6_isSought_49 : decode cX6_isSought 49 = .ok (.ireturn, 1) := by decide +kernel
theorem dX6_isSought_50 : decode cX6_isSought 50 = .ok (.iinc 3 1, 3) := by decide +kernel
theorem dX6_isSought_53 : decode cX6_isSought 53 = .ok (.goto (-51), 3) := by decide +kernel
theorem dX6_isSought_56 : decode cX6_isSought 56 = .ok (.iconst 0, 1) := by decide +kernel
theorem dX6_isSought_57 : decode cX6_isSought 57 = .ok (.ireturn, 1) := by decide +kernel
set_option maxRecDepth 20000 in
theorem ggX6_countSought_X6_isRepeated : GoodIn wsX6_countSought wsX6_isRepeated := goodIn_r _ [6, 7, 8, 9, 10, 11, 12, 13, 19, 20, 21, 22, 23] (by decide +kernel) (by decide +kernel)
set_option maxRecDepth 20000 in
theorem gX6_countSought_X6_isRepeated : GoodIn wsX6_countSought (wsV RX6 112 RX6 yX6_isRepeated wsX6_isRepeated) := goodIn_app (goodIn_of _ (by decide +kernel)) ggX6_countSought_X6_isRepeated
theorem dX6_countSought_0 : decode cX6_countSought 0 = .ok (.iconst 0, 1) := by decide +kernel
theorem dX6_countSought_1 : decode cX6_countSought 1 = .ok (.istore 4, 2) := by decide +kernel
theorem dX6_countSought_3 : decode cX6_countSought 3 = .ok (.iload_n 2, 1) := by decide +kernel
theorem dX6_countSought_4 : decode cX6_countSought 4 = .ok (.istore 5, 2) := by decide +kernel
theorem dX6_countSought_6 : decode cX6_countSought 6 = .ok (.iload 5, 2) := by decide +kernel
theorem dX6_countSought_8 : decode cX6_countSought 8 = .ok (.iload_n 3, 1) := by decide +kernel
theorem dX6_countSought_9 : decode cX6_countSought 9 = .ok (.if_icmp .ge 60, 3) := by decide +kernel
theorem dX6_countSought_12 : decode cX6_countSought 12 = .ok (.iload 5, 2) := by decide +kernel
theorem dX6_countSought_14 : decode cX6_countSought 14 = .ok (.ifCond .lt 27, 3) := by decide +kernel
theorem dX6_countSought_17 : decode cX6_countSought 17 = .ok (.iload 5, 2) := by decide +kernel
theorem dX6_countSought_19 : decode cX6_countSought 19 = .ok (.aload_n 0, 1) := by decide +kernel
theorem dX6_countSought_20 : decode cX6_countSought 20 = .ok (.getfield 21, 3) := by decide +kernel
theorem dX6_countSought_23 : decode cX6_countSought 23 = .ok (.arraylength, 1) := by decide +kernel
theorem dX6_countSought_24 : decode cX6_countSought 24 = .ok (.if_icmp .ge 17, 3) := by decide +kernel
theorem dX6_countSought_27 : decode cX6_countSought 27 = .ok (.aload_n 0, 1) := by decide +kernel
theorem dX6_countSought_28 : decode cX6_countSought 28 = .ok (.getfield 21, 3) := by decide +kernel
theorem dX6_countSought_31 : decode cX6_countSought 31 = .ok (.iload 5, 2) := by decide +kernel
theorem dX6_countSought_33 : decode cX6_countSought 33 = .ok (.baload, 1) := by decide +kernel
theorem dX6_countSought_34 : decode cX6_countSought 34 = .ok (.ifCond .eq 7, 3) := by decide +kernel
theorem dX6_countSought_37 : decode cX6_countSought 37 = .ok (.iconst 1, 1) := by decide +kernel
theorem dX6_countSought_38 : decode cX6_countSought 38 = .ok (.goto 4, 3) := by decide +kernel
theorem dX6_countSought_41 : decode cX6_countSought 41 = .ok (.iconst 0, 1) := by decide +kernel
theorem dX6_countSought_42 : decode cX6_countSought 42 = .ok (.istore 6, 2) := by decide +kernel
theorem dX6_countSought_44 : decode cX6_countSought 44 = .ok (.iload 6, 2) := by decide +kernel
theorem dX6_countSought_46 : decode cX6_countSought 46 = .ok (.ifCond .eq 17, 3) := by decide +kernel
theorem dX6_countSought_49 : decode cX6_countSought 49 = .ok (.aload_n 0, 1) := by decide +kernel
theorem dX6_countSought_50 : decode cX6_countSought 50 = .ok (.aload_n 1, 1) := by decide +kernel
theorem dX6_countSought_51 : decode cX6_countSought 51 = .ok (.iload_n 2, 1) := by decide +kernel
theorem dX6_countSought_52 : decode cX6_countSought 52 = .ok (.iload 5, 2) := by decide +kernel
theorem dX6_countSought_54 : decode cX6_countSought 54 = .ok (.invokevirtual 112, 3) := by decide +kernel
theorem dX6_countSought_57 : decode cX6_countSought 57 = .ok (.ifCond .ne 6, 3) := by decide +kernel
theorem dX6_countSought_60 : decode cX6_countSought 60 = .ok (.iinc 4 1, 3) := by decide +kernel
theorem dX6_countSought_63 : decode cX6_countSought 63 = .ok (.iinc 5 1, 3) := by decide +kernel
theorem dX6_countSought_66 : decode cX6_countSought 66 = .ok (.goto (-60), 3) := by decide +kernel
theorem dX6_countSought_69 : decode cX6_countSought 69 = .ok (.iload 4, 2) := by decide +kernel
theorem dX6_countSought_71 : decode cX6_countSought 71 = .ok (.ireturn, 1) := by decide +kernel
set_option maxRecDepth 20000 in
theorem ggX6_isRepeated_X9_termOn : GoodIn wsX6_isRepeated wsX9_termOn := goodIn_r _ [5, 6, 7, 8, 9, 10, 11, 12] (by decide +kernel) (by decide +kernel)
set_option maxRecDepth 20000 in
theorem gX6_isRepeated_X9_termOn : GoodIn wsX6_isRepeated (wsV RX6 97 RX9 yX9_termOn wsX9_termOn) := goodIn_app (goodIn_of _ (by decide +kernel)) ggX6_isRepeated_X9_termOn
theorem dX6_isRepeated_0 : decode cX6_isRepeated 0 = .ok (.iload_n 2, 1) := by decide +kernel
theorem dX6_isRepeated_1 : decode cX6_isRepeated 1 = .ok (.istore 4, 2) := by decide +kernel
theorem dX6_isRepeated_3 : decode cX6_isRepeated 3 = .ok (.iload 4, 2) := by decide +kernel
theorem dX6_isRepeated_5 : decode cX6_isRepeated 5 = .ok (.iload_n 3, 1) := by decide +kernel
theorem dX6_isRepeated_6 : decode cX6_isRepeated 6 = .ok (.if_icmp .ge 25, 3) := by decide +kernel
theorem dX6_isRepeated_9 : decode cX6_isRepeated 9 = .ok (.aload_n 1, 1) := by decide +kernel
theorem dX6_isRepeated_10 : decode cX6_isRepeated 10 = .ok (.iload 4, 2) := by decide +kernel
theorem dX6_isRepeated_12 : decode cX6_isRepeated 12 = .ok (.invokevirtual 97, 3) := by decide +kernel
theorem dX6_isRepeated_15 : decode cX6_isRepeated 15 = .ok (.aload_n 1, 1) := by decide +kernel
theorem dX6_isRepeated_16 : decode cX6_isRepeated 16 = .ok (.iload_n 3, 1) := by decide +kernel
theorem dX6_isRepeated_17 : decode cX6_isRepeated 17 = .ok (.invokevirtual 97, 3) := by decide +kernel
theorem dX6_isRepeated_20 : decode cX6_isRepeated 20 = .ok (.if_icmp .ne 5, 3) := by decide +kernel
theorem dX6_isRepeated_23 : decode cX6_isRepeated 23 = .ok (.iconst 1, 1) := by decide +kernel
theorem dX6_isRepeated_24 : decode cX6_isRepeated 24 = .ok (.ireturn, 1) := by decide +kernel
theorem dX6_isRepeated_25 : decode cX6_isRepeated 25 = .ok (.iinc 4 1, 3) := by decide +kernel
theorem dX6_isRepeated_28 : decode cX6_isRepeated 28 = .ok (.goto (-25), 3) := by decide +kernel
theorem dX6_isRepeated_31 : decode cX6_isRepeated 31 = .ok (.iconst 0, 1) := by decide +kernel
theorem dX6_isRepeated_32 : decode cX6_isRepeated 32 = .ok (.ireturn, 1) := by decide +kernel
theorem dX7_init_0 : decode cX7_init 0 = .ok (.aload_n 0, 1) := by decide +kernel
theorem dX7_init_1 : decode cX7_init 1 = .ok (.invokespecial 3, 3) := by decide +kernel
theorem dX7_init_4 : decode cX7_init 4 = .ok (.aload_n 0, 1) := by decide +kernel
theorem dX7_init_5 : decode cX7_init 5 = .ok (.bipush 60, 2) := by decide +kernel
theorem dX7_init_7 : decode cX7_init 7 = .ok (.anewarray 9, 3) := by decide +kernel
theorem dX7_init_10 : decode cX7_init 10 = .ok (.putfield 11, 3) := by decide +kernel
theorem dX7_init_13 : decode cX7_init 13 = .ok (.aload_n 0, 1) := by decide +kernel
theorem dX7_init_14 : decode cX7_init 14 = .ok (.bipush 60, 2) := by decide +kernel
theorem dX7_init_16 : decode cX7_init 16 = .ok (.newarray .int, 2) := by decide +kernel
theorem dX7_init_18 : decode cX7_init 18 = .ok (.putfield 17, 3) := by decide +kernel
theorem dX7_init_21 : decode cX7_init 21 = .ok (.aload_n 0, 1) := by decide +kernel
theorem dX7_init_22 : decode cX7_init 22 = .ok (.bipush 60, 2) := by decide +kernel
theorem dX7_init_24 : decode cX7_init 24 = .ok (.newarray .int, 2) := by decide +kernel
theorem dX7_init_26 : decode cX7_init 26 = .ok (.putfield 21, 3) := by decide +kernel
theorem dX7_init_29 : decode cX7_init 29 = .ok (.return_, 1) := by decide +kernel
theorem dX7_dropAll_0 : decode cX7_dropAll 0 = .ok (.aload_n 0, 1) := by decide +kernel
theorem dX7_dropAll_1 : decode cX7_dropAll 1 = .ok (.iconst 0, 1) := by decide +kernel
theorem dX7_dropAll_2 : decode cX7_dropAll 2 = .ok (.putfield 24, 3) := by decide +kernel
theorem dX7_dropAll_5 : decode cX7_dropAll 5 = .ok (.return_, 1) := by decide +kernel
set_option maxRecDepth 20000 in
theorem ggX7_insert_X7_isBetter : GoodIn wsX7_insert wsX7_isBetter := goodIn_r _ [9, 10, 11, 12, 13, 8, 14, 2, 15, 16, 17, 18, 1, 19, 20, 21, 22, 4, 27, 28, 29, 30, 31, 23, 24, 25, 26] (by decide +kernel) (by decide +kernel)
set_option maxRecDepth 20000 in
theorem gX7_insert_X7_isBetter : GoodIn wsX7_insert (wsV RX7 28 RX7 yX7_isBetter wsX7_isBetter) := goodIn_app (goodIn_of _ (by decide +kernel)) ggX7_insert_X7_isBetter
theorem dX7_insert_0 : decode cX7_insert 0 = .ok (.aload_n 1, 1) := by decide +kernel
theorem dX7_insert_1 : decode cX7_insert 1 = .ok (.ifnull 15, 3) := by decide +kernel
theorem dX7_insert_4 : decode cX7_insert 4 = .ok (.aload_n 0, 1) := by decide +kernel
theorem dX7_insert_5 : decode cX7_insert 5 = .ok (.getfield 24, 3) := by decide +kernel
theorem dX7_insert_8 : decode cX7_insert 8 = .ok (.aload_n 0, 1) := by decide +kernel
theorem dX7_insert_9 : decode cX7_insert 9 = .ok (.getfield 11, 3) := by decide +kernel
theorem dX7_insert_12 : decode cX7_insert 12 = .ok (.arraylength, 1) := by decide +kernel
theorem dX7_insert_13 : decode cX7_insert 13 = .ok (.if_icmp .lt 4, 3) := by decide +kernel
theorem dX7_insert_16 : decode cX7_insert 16 = .ok (.return_, 1) := by decide +kernel
theorem dX7_insert_17 : decode cX7_insert 17 = .ok (.aload_n 0, 1) := by decide +kernel
theorem dX7_insert_18 : decode cX7_insert 18 = .ok (.getfield 24, 3) := by decide +kernel
theorem dX7_insert_21 : decode cX7_insert 21 = .ok (.istore 4, 2) := by decide +kernel
theorem dX7_insert_23 : decode cX7_insert 23 = .ok (.iload 4, 2) := by decide +kernel
theorem dX7_insert_25 : decode cX7_insert 25 = .ok (.ifCond .le 70, 3) := by decide +kernel
theorem dX7_insert_28 : decode cX7_insert 28 = .ok (.aload_n 0, 1) := by decide +kernel
theorem dX7_insert_29 : decode cX7_insert 29 = .ok (.aload_n 1, 1) := by decide +kernel
theorem dX7_insert_30 : decode cX7_insert 30 = .ok (.iload_n 3, 1) := by decide +kernel
theorem dX7_insert_31 : decode cX7_insert 31 = .ok (.iload 4, 2) := by decide +kernel
theorem dX7_insert_33 : decode cX7_insert 33 = .ok (.iconst 1, 1) := by decide +kernel
theorem dX7_insert_34 : decode cX7_insert 34 = .ok (.isub, 1) := by decide +kernel
theorem dX7_insert_35 : decode cX7_insert 35 = .ok (.invokevirtual 28, 3) := by decide +kernel
theorem dX7_insert_38 : decode cX7_insert 38 = .ok (.ifCond .eq 57, 3) := by decide +kernel
theorem dX7_insert_41 : decode cX7_insert 41 = .ok (.aload_n 0, 1) := by decide +kernel
theorem dX7_insert_42 : decode cX7_insert 42 = .ok (.getfield 11, 3) := by decide +kernel
theorem dX7_insert_45 : decode cX7_insert 45 = .ok (.iload 4, 2) := by decide +kernel
theorem dX7_insert_47 : decode cX7_insert 47 = .ok (.aload_n 0, 1) := by decide +kernel
theorem dX7_insert_48 : decode cX7_insert 48 = .ok (.getfield 11, 3) := by decide +kernel
theorem dX7_insert_51 : decode cX7_insert 51 = .ok (.iload 4, 2) := by decide +kernel
theorem dX7_insert_53 : decode cX7_insert 53 = .ok (.iconst 1, 1) := by decide +kernel
theorem dX7_insert_54 : decode cX7_insert 54 = .ok (.isub, 1) := by decide +kernel
theorem dX7_insert_55 : decode cX7_insert 55 = .ok (.aaload, 1) := by decide +kernel
theorem dX7_insert_56 : decode cX7_insert 56 = .ok (.aastore, 1) := by decide +kernel
theorem dX7_insert_57 : decode cX7_insert 57 = .ok (.aload_n 0, 1) := by decide +kernel
theorem dX7_insert_58 : decode cX7_insert 58 = .ok (.getfield 17, 3) := by decide +kernel
theorem dX7_insert_61 : decode cX7_insert 61 = .ok (.iload 4, 2) := by decide +kernel
theorem dX7_insert_63 : decode cX7_insert 63 = .ok (.aload_n 0, 1) := by decide +kernel
theorem dX7_insert_64 : decode cX7_insert 64 = .ok (.getfield 17, 3) := by decide +kernel
theorem dX7_insert_67 : decode cX7_insert 67 = .ok (.iload 4, 2) := by decide +kernel
theorem dX7_insert_69 : decode cX7_insert 69 = .ok (.iconst 1, 1) := by decide +kernel
theorem dX7_insert_70 : decode cX7_insert 70 = .ok (.isub, 1) := by decide +kernel
theorem dX7_insert_71 : decode cX7_insert 71 = .ok (.iaload, 1) := by decide +kernel
theorem dX7_insert_72 : decode cX7_insert 72 = .ok (.iastore, 1) := by decide +kernel
theorem dX7_insert_73 : decode cX7_insert 73 = .ok (.aload_n 0, 1) := by decide +kernel
theorem dX7_insert_74 : decode cX7_insert 74 = .ok (.getfield 21, 3) := by decide +kernel
theorem dX7_insert_77 : decode cX7_insert 77 = .ok (.iload 4, 2) := by decide +kernel
theorem dX7_insert_79 : decode cX7_insert 79 = .ok (.aload_n 0, 1) := by decide +kernel
theorem dX7_insert_80 : decode cX7_insert 80 = .ok (.getfield 21, 3) := by decide +kernel
theorem dX7_insert_83 : decode cX7_insert 83 = .ok (.iload 4, 2) := by decide +kernel
theorem dX7_insert_85 : decode cX7_insert 85 = .ok (.iconst 1, 1) := by decide +kernel
theorem dX7_insert_86 : decode cX7_insert 86 = .ok (.isub, 1) := by decide +kernel
theorem dX7_insert_87 : decode cX7_insert 87 = .ok (.iaload, 1) := by decide +kernel
theorem dX7_insert_88 : decode cX7_insert 88 = .ok (.iastore, 1) := by decide +kernel
theorem dX7_insert_89 : decode cX7_insert 89 = .ok (.iinc 4 (-1), 3) := by decide +kernel
theorem dX7_insert_92 : decode cX7_insert 92 = .ok (.goto (-69), 3) := by decide +kernel
theorem dX7_insert_95 : decode cX7_insert 95 = .ok (.aload_n 0, 1) := by decide +kernel
theorem dX7_insert_96 : decode cX7_insert 96 = .ok (.getfield 11, 3) := by decide +kernel
theorem dX7_insert_99 : decode cX7_insert 99 = .ok (.iload 4, 2) := by decide +kernel
theorem dX7_insert_101 : decode cX7_insert 101 = .ok (.aload_n 1, 1) := by decide +kernel
theorem dX7_insert_102 : decode cX7_insert 102 = .ok (.aastore, 1) := by decide +kernel
theorem dX7_insert_103 : decode cX7_insert 103 = .ok (.aload_n 0, 1) := by decide +kernel
theorem dX7_insert_104 : decode cX7_insert 104 = .ok (.getfield 17, 3) := by decide +kernel
theorem dX7_insert_107 : decode cX7_insert 107 = .ok (.iload 4, 2) := by decide +kernel
theorem dX7_insert_109 : decode cX7_insert 109 = .ok (.iload_n 2, 1) := by decide +kernel
theorem dX7_insert_110 : decode cX7_insert 110 = .ok (.iastore, 1) := by decide +kernel
theorem dX7_insert_111 : decode cX7_insert 111 = .ok (.aload_n 0, 1) := by decide +kernel
theorem dX7_insert_112 : decode cX7_insert 112 = .ok (.getfield 21, 3) := by decide +kernel
theorem dX7_insert_115 : decode cX7_insert 115 = .ok (.iload 4, 2) := by decide +kernel
theorem dX7_insert_117 : decode cX7_insert 117 = .ok (.iload_n 3, 1) := by decide +kernel
theorem dX7_insert_118 : decode cX7_insert 118 = .ok (.iastore, 1) := by decide +kernel
theorem dX7_insert_119 : decode cX7_insert 119 = .ok (.aload_n 0, 1) := by decide +kernel
theorem dX7_insert_120 : decode cX7_insert 120 = .ok (.dup, 1) := by decide +kernel
theorem dX7_insert_121 : decode cX7_insert 121 = .ok (.getfield 24, 3) := by decide +kernel
theorem dX7_insert_124 : decode cX7_insert 124 = .ok (.iconst 1, 1) := by decide +kernel
theorem dX7_insert_125 : decode cX7_insert 125 = .ok (.iadd, 1) := by decide +kernel
theorem dX7_insert_126 : decode cX7_insert 126 = .ok (.putfield 24, 3) := by decide +kernel
theorem dX7_insert_129 : decode cX7_insert 129 = .ok (.return_, 1) := by decide +kernel
set_option maxRecDepth 20000 in
theorem ggX7_isBetter_X7_documentAt : GoodIn wsX7_isBetter wsX7_documentAt := goodIn_r _ [6, 7, 8, 9, 10, 5, 11, 12, 23, 24, 25, 26] (by decide +kernel) (by decide +kernel)
set_option maxRecDepth 20000 in
theorem gX7_isBetter_X7_documentAt : GoodIn wsX7_isBetter (wsV RX7 32 RX7 yX7_documentAt wsX7_documentAt) := goodIn_app (goodIn_of _ (by decide +kernel)) ggX7_isBetter_X7_documentAt
set_option maxRecDepth 20000 in
theorem ggX7_isBetter_X7_valueAt : GoodIn wsX7_isBetter wsX7_valueAt := goodIn_r _ [16, 17, 8, 9, 10, 5, 11, 12, 23, 24, 25, 26] (by decide +kernel) (by decide +kernel)
set_option maxRecDepth 20000 in
theorem gX7_isBetter_X7_valueAt : GoodIn wsX7_isBetter (wsV RX7 36 RX7 yX7_valueAt wsX7_valueAt) := goodIn_app (goodIn_of _ (by decide +kernel)) ggX7_isBetter_X7_valueAt
theorem dX7_isBetter_0 : decode cX7_isBetter 0 = .ok (.aload_n 0, 1) := by decide +kernel
theorem dX7_isBetter_1 : decode cX7_isBetter 1 = .ok (.iload_n 3, 1) := by decide +kernel
theorem dX7_isBetter_2 : decode cX7_isBetter 2 = .ok (.invokevirtual 32, 3) := by decide +kernel
theorem dX7_isBetter_5 : decode cX7_isBetter 5 = .ok (.astore 4, 2) := by decide +kernel
theorem dX7_isBetter_7 : decode cX7_isBetter 7 = .ok (.aload 4, 2) := by decide +kernel
theorem dX7_isBetter_9 : decode cX7_isBetter 9 = .ok (.ifnull 12, 3) := by decide +kernel
theorem dX7_isBetter_12 : decode cX7_isBetter 12 = .ok (.iload_n 2, 1) := by decide +kernel
theorem dX7_isBetter_13 : decode cX7_isBetter 13 = .ok (.aload_n 0, 1) := by decide +kernel
theorem dX7_isBetter_14 : decode cX7_isBetter 14 = .ok (.iload_n 3, 1) := by decide +kernel
theorem dX7_isBetter_15 : decode cX7_isBetter 15 = .ok (.invokevirtual 36, 3) := by decide +kernel
theorem dX7_isBetter_18 : decode cX7_isBetter 18 = .ok (.if_icmp .ge 5, 3) := by decide +kernel
theorem dX7_isBetter_21 : decode cX7_isBetter 21 = .ok (.iconst 0, 1) := by decide +kernel
theorem dX7_isBetter_22 : decode cX7_isBetter 22 = .ok (.ireturn, 1) := by decide +kernel
theorem dX7_isBetter_23 : decode cX7_isBetter 23 = .ok (.iload_n 2, 1) := by decide +kernel
theorem dX7_isBetter_24 : decode cX7_isBetter 24 = .ok (.aload_n 0, 1) := by decide +kernel
theorem dX7_isBetter_25 : decode cX7_isBetter 25 = .ok (.iload_n 3, 1) := by decide +kernel
theorem dX7_isBetter_26 : decode cX7_isBetter 26 = .ok (.invokevirtual 36, 3) := by decide +kernel
theorem dX7_isBetter_29 : decode cX7_isBetter 29 = .ok (.if_icmp .gt 15, 3) := by decide +kernel
theorem dX7_isBetter_32 : decode cX7_isBetter 32 = .ok (.aload_n 1, 1) := by decide +kernel
theorem dX7_isBetter_33 : decode cX7_isBetter 33 = .ok (.getfield 40, 3) := by decide +kernel
theorem dX7_isBetter_36 : decode cX7_isBetter 36 = .ok (.aload 4, 2) := by decide +kernel
theorem dX7_isBetter_38 : decode cX7_isBetter 38 = .ok (.getfield 40, 3) := by decide +kernel
theorem dX7_isBetter_41 : decode cX7_isBetter 41 = .ok (.if_icmp .le 7, 3) := by decide +kernel
theorem dX7_isBetter_44 : decode cX7_isBetter 44 = .ok (.iconst 1, 1) := by decide +kernel
theorem dX7_isBetter_45 : decode cX7_isBetter 45 = .ok (.goto 4, 3) := by decide +kernel
theorem dX7_isBetter_48 : decode cX7_isBetter 48 = .ok (.iconst 0, 1) := by decide +kernel
theorem dX7_isBetter_49 : decode cX7_isBetter 49 = .ok (.ireturn, 1) := by decide +kernel
theorem dX7_hasPlace_0 : decode cX7_hasPlace 0 = .ok (.iload_n 1, 1) := by decide +kernel
theorem dX7_hasPlace_1 : decode cX7_hasPlace 1 = .ok (.ifCond .lt 15, 3) := by decide +kernel
theorem dX7_hasPlace_4 : decode cX7_hasPlace 4 = .ok (.iload_n 1, 1) := by decide +kernel
theorem dX7_hasPlace_5 : decode cX7_hasPlace 5 = .ok (.aload_n 0, 1) := by decide +kernel
theorem dX7_hasPlace_6 : decode cX7_hasPlace 6 = .ok (.getfield 24, 3) := by decide +kernel
theorem dX7_hasPlace_9 : decode cX7_hasPlace 9 = .ok (.if_icmp .ge 7, 3) := by decide +kernel
theorem dX7_hasPlace_12 : decode cX7_hasPlace 12 = .ok (.iconst 1, 1) := by decide +kernel
theorem dX7_hasPlace_13 : decode cX7_hasPlace 13 = .ok (.goto 4, 3) := by decide +kernel
theorem dX7_hasPlace_16 : decode cX7_hasPlace 16 = .ok (.iconst 0, 1) := by decide +kernel
theorem dX7_hasPlace_17 : decode cX7_hasPlace 17 = .ok (.ireturn, 1) := by decide +kernel
set_option maxRecDepth 20000 in
theorem ggX7_documentAt_X7_hasPlace : GoodIn wsX7_documentAt wsX7_hasPlace := goodIn_r _ [6, 7, 8, 9, 10, 11] (by decide +kernel) (by decide +kernel)
set_option maxRecDepth 20000 in
theorem gX7_documentAt_X7_hasPlace : GoodIn wsX7_documentAt (wsV RX7 43 RX7 yX7_hasPlace wsX7_hasPlace) := goodIn_app (goodIn_of _ (by decide +kernel)) ggX7_documentAt_X7_hasPlace
theorem dX7_documentAt_0 : decode cX7_documentAt 0 = .ok (.aload_n 0, 1) := by decide +kernel
theorem dX7_documentAt_1 : decode cX7_documentAt 1 = .ok (.iload_n 1, 1) := by decide +kernel
theorem dX7_documentAt_2 : decode cX7_documentAt 2 = .ok (.invokevirtual 43, 3) := by decide +kernel
theorem dX7_documentAt_5 : decode cX7_documentAt 5 = .ok (.ifCond .eq 12, 3) := by decide +kernel
theorem dX7_documentAt_8 : decode cX7_documentAt 8 = .ok (.iload_n 1, 1) := by decide +kernel
