theorem dX8_sumOfAtLeast_29 : decode cX8_sumOfAtLeast 29 = .ok (.iload 6, 2) := by decide +kernel
theorem dX8_sumOfAtLeast_31 : decode cX8_sumOfAtLeast 31 = .ok (.iconst (-1), 1) := by decide +kernel
theorem dX8_sumOfAtLeast_32 : decode cX8_sumOfAtLeast 32 = .ok (.if_icmp .eq 13, 3) := by decide +kernel
theorem dX8_sumOfAtLeast_35 : decode cX8_sumOfAtLeast 35 = .ok (.iinc 3 1, 3) := by decide +kernel
theorem dX8_sumOfAtLeast_38 : decode cX8_sumOfAtLeast 38 = .ok (.iload 4, 2) := by decide +kernel
theorem dX8_sumOfAtLeast_40 : decode cX8_sumOfAtLeast 40 = .ok (.iload 6, 2) := by decide +kernel
theorem dX8_sumOfAtLeast_42 : decode cX8_sumOfAtLeast 42 = .ok (.iadd, 1) := by decide +kernel
theorem dX8_sumOfAtLeast_43 : decode cX8_sumOfAtLeast 43 = .ok (.istore 4, 2) := by decide +kernel
theorem dX8_sumOfAtLeast_45 : decode cX8_sumOfAtLeast 45 = .ok (.iinc 5 1, 3) := by decide +kernel
theorem dX8_sumOfAtLeast_48 : decode cX8_sumOfAtLeast 48 = .ok (.goto (-40), 3) := by decide +kernel
theorem dX8_sumOfAtLeast_51 : decode cX8_sumOfAtLeast 51 = .ok (.iload_n 3, 1) := by decide +kernel
theorem dX8_sumOfAtLeast_52 : decode cX8_sumOfAtLeast 52 = .ok (.iload_n 2, 1) := by decide +kernel
theorem dX8_sumOfAtLeast_53 : decode cX8_sumOfAtLeast 53 = .ok (.if_icmp .lt 8, 3) := by decide +kernel
theorem dX8_sumOfAtLeast_56 : decode cX8_sumOfAtLeast 56 = .ok (.iload 4, 2) := by decide +kernel
theorem dX8_sumOfAtLeast_58 : decode cX8_sumOfAtLeast 58 = .ok (.goto 4, 3) := by decide +kernel
theorem dX8_sumOfAtLeast_61 : decode cX8_sumOfAtLeast 61 = .ok (.iconst (-1), 1) := by decide +kernel
theorem dX8_sumOfAtLeast_62 : decode cX8_sumOfAtLeast 62 = .ok (.ireturn, 1) := by decide +kernel
set_option maxRecDepth 20000 in
theorem ggX8_nearValue_X6_nodeAt : GoodIn wsX8_nearValue wsX6_nodeAt := goodIn_r _ [9, 10, 11, 91, 92, 93, 94, 95] (by decide +kernel) (by decide +kernel)
set_option maxRecDepth 20000 in
theorem gX8_nearValue_X6_nodeAt : GoodIn wsX8_nearValue (wsV RX8 31 RX6 yX6_nodeAt wsX6_nodeAt) := goodIn_app (goodIn_of _ (by decide +kernel)) ggX8_nearValue_X6_nodeAt
set_option maxRecDepth 20000 in
theorem ggX8_nearValue_X8_sumOfAtLeast : GoodIn wsX8_nearValue wsX8_sumOfAtLeast := goodIn_r _ [16, 17, 18, 19, 20, 21, 22, 23, 24, 25, 26, 27, 28, 29, 30, 31, 32, 15, 33, 34, 78, 79, 80, 81, 82, 83, 84, 85, 86, 87, 88, 89, 90, 73, 74, 75, 76, 77] (by decide +kernel) (by decide +kernel)
set_option maxRecDepth 20000 in
theorem gX8_nearValue_X8_sumOfAtLeast : GoodIn wsX8_nearValue (wsV RX8 61 RX8 yX8_sumOfAtLeast wsX8_sumOfAtLeast) := goodIn_app (goodIn_of _ (by decide +kernel)) ggX8_nearValue_X8_sumOfAtLeast
set_option maxRecDepth 20000 in
theorem ggX8_nearValue_X2_rowOf : GoodIn wsX8_nearValue wsX2_rowOf := goodIn_r _ [39, 40, 96, 97, 98, 99, 100] (by decide +kernel) (by decide +kernel)
set_option maxRecDepth 20000 in
theorem gX8_nearValue_X2_rowOf : GoodIn wsX8_nearValue (wsV RX8 111 RX2 yX2_rowOf wsX2_rowOf) := goodIn_app (goodIn_of _ (by decide +kernel)) ggX8_nearValue_X2_rowOf
set_option maxRecDepth 20000 in
theorem ggX8_nearValue_X5_isFor : GoodIn wsX8_nearValue wsX5_isFor := goodIn_r _ [44, 45, 78, 79, 80, 81, 82, 83, 84, 85, 86, 87, 88, 89, 90] (by decide +kernel) (by decide +kernel)
set_option maxRecDepth 20000 in
theorem gX8_nearValue_X5_isFor : GoodIn wsX8_nearValue (wsV RX8 115 RX5 yX5_isFor wsX5_isFor) := goodIn_app (goodIn_of _ (by decide +kernel)) ggX8_nearValue_X5_isFor
set_option maxRecDepth 20000 in
theorem ggX8_nearValue_X8_isNearIn : GoodIn wsX8_nearValue wsX8_isNearIn := goodIn_r _ [49, 50, 51, 52, 53, 54, 55, 56, 57, 58, 59, 60, 61, 62, 63, 64, 65, 66, 67, 68, 69, 20, 70, 71, 72, 101, 102, 103, 104, 105, 73, 74, 75, 76, 77, 106, 107, 108, 78, 79, 80, 81, 82, 83, 84, 85, 86, 87, 88, 89, 90] (by decide +kernel) (by decide +kernel)
set_option maxRecDepth 20000 in
theorem gX8_nearValue_X8_isNearIn : GoodIn wsX8_nearValue (wsV RX8 155 RX8 yX8_isNearIn wsX8_isNearIn) := goodIn_app (goodIn_of _ (by decide +kernel)) ggX8_nearValue_X8_isNearIn
theorem dX8_nearValue_0 : decode cX8_nearValue 0 = .ok (.aload_n 0, 1) := by decide +kernel
theorem dX8_nearValue_1 : decode cX8_nearValue 1 = .ok (.getfield 15, 3) := by decide +kernel
theorem dX8_nearValue_4 : decode cX8_nearValue 4 = .ok (.aload_n 1, 1) := by decide +kernel
theorem dX8_nearValue_5 : decode cX8_nearValue 5 = .ok (.getfield 71, 3) := by decide +kernel
theorem dX8_nearValue_8 : decode cX8_nearValue 8 = .ok (.invokevirtual 31, 3) := by decide +kernel
theorem dX8_nearValue_11 : decode cX8_nearValue 11 = .ok (.astore_n 3, 1) := by decide +kernel
theorem dX8_nearValue_12 : decode cX8_nearValue 12 = .ok (.aload_n 0, 1) := by decide +kernel
theorem dX8_nearValue_13 : decode cX8_nearValue 13 = .ok (.getfield 15, 3) := by decide +kernel
theorem dX8_nearValue_16 : decode cX8_nearValue 16 = .ok (.aload_n 1, 1) := by decide +kernel
theorem dX8_nearValue_17 : decode cX8_nearValue 17 = .ok (.getfield 68, 3) := by decide +kernel
theorem dX8_nearValue_20 : decode cX8_nearValue 20 = .ok (.invokevirtual 31, 3) := by decide +kernel
theorem dX8_nearValue_23 : decode cX8_nearValue 23 = .ok (.astore 4, 2) := by decide +kernel
theorem dX8_nearValue_25 : decode cX8_nearValue 25 = .ok (.aload_n 0, 1) := by decide +kernel
theorem dX8_nearValue_26 : decode cX8_nearValue 26 = .ok (.aload_n 1, 1) := by decide +kernel
theorem dX8_nearValue_27 : decode cX8_nearValue 27 = .ok (.iconst 2, 1) := by decide +kernel
theorem dX8_nearValue_28 : decode cX8_nearValue 28 = .ok (.invokevirtual 61, 3) := by decide +kernel
theorem dX8_nearValue_31 : decode cX8_nearValue 31 = .ok (.istore 5, 2) := by decide +kernel
theorem dX8_nearValue_33 : decode cX8_nearValue 33 = .ok (.aload_n 3, 1) := by decide +kernel
theorem dX8_nearValue_34 : decode cX8_nearValue 34 = .ok (.ifnull 14, 3) := by decide +kernel
theorem dX8_nearValue_37 : decode cX8_nearValue 37 = .ok (.aload 4, 2) := by decide +kernel
theorem dX8_nearValue_39 : decode cX8_nearValue 39 = .ok (.ifnull 9, 3) := by decide +kernel
theorem dX8_nearValue_42 : decode cX8_nearValue 42 = .ok (.iload 5, 2) := by decide +kernel
theorem dX8_nearValue_44 : decode cX8_nearValue 44 = .ok (.iconst (-1), 1) := by decide +kernel
theorem dX8_nearValue_45 : decode cX8_nearValue 45 = .ok (.if_icmp .ne 5, 3) := by decide +kernel
theorem dX8_nearValue_48 : decode cX8_nearValue 48 = .ok (.iconst (-1), 1) := by decide +kernel
theorem dX8_nearValue_49 : decode cX8_nearValue 49 = .ok (.ireturn, 1) := by decide +kernel
theorem dX8_nearValue_50 : decode cX8_nearValue 50 = .ok (.iconst 0, 1) := by decide +kernel
theorem dX8_nearValue_51 : decode cX8_nearValue 51 = .ok (.istore 6, 2) := by decide +kernel
theorem dX8_nearValue_53 : decode cX8_nearValue 53 = .ok (.iconst 0, 1) := by decide +kernel
theorem dX8_nearValue_54 : decode cX8_nearValue 54 = .ok (.istore 7, 2) := by decide +kernel
theorem dX8_nearValue_56 : decode cX8_nearValue 56 = .ok (.iload 7, 2) := by decide +kernel
theorem dX8_nearValue_58 : decode cX8_nearValue 58 = .ok (.iconst 3, 1) := by decide +kernel
theorem dX8_nearValue_59 : decode cX8_nearValue 59 = .ok (.if_icmp .ge 75, 3) := by decide +kernel
theorem dX8_nearValue_62 : decode cX8_nearValue 62 = .ok (.aload_n 2, 1) := by decide +kernel
theorem dX8_nearValue_63 : decode cX8_nearValue 63 = .ok (.iload 7, 2) := by decide +kernel
theorem dX8_nearValue_65 : decode cX8_nearValue 65 = .ok (.invokevirtual 111, 3) := by decide +kernel
theorem dX8_nearValue_68 : decode cX8_nearValue 68 = .ok (.astore 8, 2) := by decide +kernel
theorem dX8_nearValue_70 : decode cX8_nearValue 70 = .ok (.aload_n 3, 1) := by decide +kernel
theorem dX8_nearValue_71 : decode cX8_nearValue 71 = .ok (.iload 7, 2) := by decide +kernel
theorem dX8_nearValue_73 : decode cX8_nearValue 73 = .ok (.invokevirtual 115, 3) := by decide +kernel
theorem dX8_nearValue_76 : decode cX8_nearValue 76 = .ok (.ifCond .eq 17, 3) := by decide +kernel
theorem dX8_nearValue_79 : decode cX8_nearValue 79 = .ok (.aload 4, 2) := by decide +kernel
theorem dX8_nearValue_81 : decode cX8_nearValue 81 = .ok (.iload 7, 2) := by decide +kernel
theorem dX8_nearValue_83 : decode cX8_nearValue 83 = .ok (.invokevirtual 115, 3) := by decide +kernel
theorem dX8_nearValue_86 : decode cX8_nearValue 86 = .ok (.ifCond .eq 7, 3) := by decide +kernel
theorem dX8_nearValue_89 : decode cX8_nearValue 89 = .ok (.iconst 1, 1) := by decide +kernel
theorem dX8_nearValue_90 : decode cX8_nearValue 90 = .ok (.goto 4, 3) := by decide +kernel
theorem dX8_nearValue_93 : decode cX8_nearValue 93 = .ok (.iconst 0, 1) := by decide +kernel
theorem dX8_nearValue_94 : decode cX8_nearValue 94 = .ok (.istore 9, 2) := by decide +kernel
theorem dX8_nearValue_96 : decode cX8_nearValue 96 = .ok (.aload 8, 2) := by decide +kernel
theorem dX8_nearValue_98 : decode cX8_nearValue 98 = .ok (.ifnull 30, 3) := by decide +kernel
theorem dX8_nearValue_101 : decode cX8_nearValue 101 = .ok (.iload 9, 2) := by decide +kernel
theorem dX8_nearValue_103 : decode cX8_nearValue 103 = .ok (.ifCond .eq 25, 3) := by decide +kernel
theorem dX8_nearValue_106 : decode cX8_nearValue 106 = .ok (.aload_n 0, 1) := by decide +kernel
theorem dX8_nearValue_107 : decode cX8_nearValue 107 = .ok (.aload 8, 2) := by decide +kernel
theorem dX8_nearValue_109 : decode cX8_nearValue 109 = .ok (.aload_n 1, 1) := by decide +kernel
theorem dX8_nearValue_110 : decode cX8_nearValue 110 = .ok (.aload_n 3, 1) := by decide +kernel
theorem dX8_nearValue_111 : decode cX8_nearValue 111 = .ok (.getfield 100, 3) := by decide +kernel
theorem dX8_nearValue_114 : decode cX8_nearValue 114 = .ok (.aload 4, 2) := by decide +kernel
theorem dX8_nearValue_116 : decode cX8_nearValue 116 = .ok (.getfield 100, 3) := by decide +kernel
theorem dX8_nearValue_119 : decode cX8_nearValue 119 = .ok (.invokevirtual 155, 3) := by decide +kernel
theorem dX8_nearValue_122 : decode cX8_nearValue 122 = .ok (.ifCond .eq 6, 3) := by decide +kernel
theorem dX8_nearValue_125 : decode cX8_nearValue 125 = .ok (.iinc 6 1, 3) := by decide +kernel
theorem dX8_nearValue_128 : decode cX8_nearValue 128 = .ok (.iinc 7 1, 3) := by decide +kernel
theorem dX8_nearValue_131 : decode cX8_nearValue 131 = .ok (.goto (-75), 3) := by decide +kernel
theorem dX8_nearValue_134 : decode cX8_nearValue 134 = .ok (.iload 6, 2) := by decide +kernel
theorem dX8_nearValue_136 : decode cX8_nearValue 136 = .ok (.ifCond .ne 7, 3) := by decide +kernel
theorem dX8_nearValue_139 : decode cX8_nearValue 139 = .ok (.iconst (-1), 1) := by decide +kernel
theorem dX8_nearValue_140 : decode cX8_nearValue 140 = .ok (.goto 11, 3) := by decide +kernel
theorem dX8_nearValue_143 : decode cX8_nearValue 143 = .ok (.iload 5, 2) := by decide +kernel
theorem dX8_nearValue_145 : decode cX8_nearValue 145 = .ok (.bipush 100, 2) := by decide +kernel
theorem dX8_nearValue_147 : decode cX8_nearValue 147 = .ok (.iload 6, 2) := by decide +kernel
theorem dX8_nearValue_149 : decode cX8_nearValue 149 = .ok (.imul, 1) := by decide +kernel
theorem dX8_nearValue_150 : decode cX8_nearValue 150 = .ok (.iadd, 1) := by decide +kernel
theorem dX8_nearValue_151 : decode cX8_nearValue 151 = .ok (.ireturn, 1) := by decide +kernel
set_option maxRecDepth 20000 in
theorem ggX8_isNearIn_X9_termOn : GoodIn wsX8_isNearIn wsX9_termOn := goodIn_r _ [8, 9, 10, 25, 26, 27, 28, 29] (by decide +kernel) (by decide +kernel)
set_option maxRecDepth 20000 in
theorem gX8_isNearIn_X9_termOn : GoodIn wsX8_isNearIn (wsV RX8 159 RX9 yX9_termOn wsX9_termOn) := goodIn_app (goodIn_of _ (by decide +kernel)) ggX8_isNearIn_X9_termOn
set_option maxRecDepth 20000 in
theorem ggX8_isNearIn_X4_finds : GoodIn wsX8_isNearIn wsX4_finds := goodIn_r _ [15, 16, 17, 35, 36, 37] (by decide +kernel) (by decide +kernel)
set_option maxRecDepth 20000 in
theorem gX8_isNearIn_X4_finds : GoodIn wsX8_isNearIn (wsV RX8 162 RX4 yX4_finds wsX4_finds) := goodIn_app (goodIn_of _ (by decide +kernel)) ggX8_isNearIn_X4_finds
set_option maxRecDepth 20000 in
theorem ggX8_isNearIn_X5_isApartAsAsked : GoodIn wsX8_isNearIn wsX5_isApartAsAsked := goodIn_r _ [22, 23, 24, 38, 39, 40, 41, 42, 43, 44, 45, 46, 47, 48, 49, 50] (by decide +kernel) (by decide +kernel)
set_option maxRecDepth 20000 in
theorem gX8_isNearIn_X5_isApartAsAsked : GoodIn wsX8_isNearIn (wsV RX8 166 RX5 yX5_isApartAsAsked wsX5_isApartAsAsked) := goodIn_app (goodIn_of _ (by decide +kernel)) ggX8_isNearIn_X5_isApartAsAsked
theorem dX8_isNearIn_0 : decode cX8_isNearIn 0 = .ok (.iconst 0, 1) := by decide +kernel
theorem dX8_isNearIn_1 : decode cX8_isNearIn 1 = .ok (.istore 5, 2) := by decide +kernel
theorem dX8_isNearIn_3 : decode cX8_isNearIn 3 = .ok (.iload 5, 2) := by decide +kernel
theorem dX8_isNearIn_5 : decode cX8_isNearIn 5 = .ok (.aload_n 1, 1) := by decide +kernel
theorem dX8_isNearIn_6 : decode cX8_isNearIn 6 = .ok (.getfield 124, 3) := by decide +kernel
theorem dX8_isNearIn_9 : decode cX8_isNearIn 9 = .ok (.if_icmp .ge 87, 3) := by decide +kernel
theorem dX8_isNearIn_12 : decode cX8_isNearIn 12 = .ok (.aload_n 0, 1) := by decide +kernel
theorem dX8_isNearIn_13 : decode cX8_isNearIn 13 = .ok (.getfield 19, 3) := by decide +kernel
theorem dX8_isNearIn_16 : decode cX8_isNearIn 16 = .ok (.iload_n 3, 1) := by decide +kernel
theorem dX8_isNearIn_17 : decode cX8_isNearIn 17 = .ok (.aload_n 1, 1) := by decide +kernel
theorem dX8_isNearIn_18 : decode cX8_isNearIn 18 = .ok (.iload 5, 2) := by decide +kernel
theorem dX8_isNearIn_20 : decode cX8_isNearIn 20 = .ok (.invokevirtual 159, 3) := by decide +kernel
theorem dX8_isNearIn_23 : decode cX8_isNearIn 23 = .ok (.aload_n 0, 1) := by decide +kernel
theorem dX8_isNearIn_24 : decode cX8_isNearIn 24 = .ok (.getfield 27, 3) := by decide +kernel
theorem dX8_isNearIn_27 : decode cX8_isNearIn 27 = .ok (.invokevirtual 162, 3) := by decide +kernel
theorem dX8_isNearIn_30 : decode cX8_isNearIn 30 = .ok (.ifCond .ne 6, 3) := by decide +kernel
theorem dX8_isNearIn_33 : decode cX8_isNearIn 33 = .ok (.goto 57, 3) := by decide +kernel
theorem dX8_isNearIn_36 : decode cX8_isNearIn 36 = .ok (.iconst 0, 1) := by decide +kernel
theorem dX8_isNearIn_37 : decode cX8_isNearIn 37 = .ok (.istore 6, 2) := by decide +kernel
theorem dX8_isNearIn_39 : decode cX8_isNearIn 39 = .ok (.iload 6, 2) := by decide +kernel
theorem dX8_isNearIn_41 : decode cX8_isNearIn 41 = .ok (.aload_n 1, 1) := by decide +kernel
theorem dX8_isNearIn_42 : decode cX8_isNearIn 42 = .ok (.getfield 124, 3) := by decide +kernel
theorem dX8_isNearIn_45 : decode cX8_isNearIn 45 = .ok (.if_icmp .ge 45, 3) := by decide +kernel
theorem dX8_isNearIn_48 : decode cX8_isNearIn 48 = .ok (.aload_n 2, 1) := by decide +kernel
theorem dX8_isNearIn_49 : decode cX8_isNearIn 49 = .ok (.iload 6, 2) := by decide +kernel
theorem dX8_isNearIn_51 : decode cX8_isNearIn 51 = .ok (.iload 5, 2) := by decide +kernel
theorem dX8_isNearIn_53 : decode cX8_isNearIn 53 = .ok (.isub, 1) := by decide +kernel
theorem dX8_isNearIn_54 : decode cX8_isNearIn 54 = .ok (.invokevirtual 166, 3) := by decide +kernel
theorem dX8_isNearIn_57 : decode cX8_isNearIn 57 = .ok (.ifCond .eq 27, 3) := by decide +kernel
theorem dX8_isNearIn_60 : decode cX8_isNearIn 60 = .ok (.aload_n 0, 1) := by decide +kernel
theorem dX8_isNearIn_61 : decode cX8_isNearIn 61 = .ok (.getfield 19, 3) := by decide +kernel
theorem dX8_isNearIn_64 : decode cX8_isNearIn 64 = .ok (.iload 4, 2) := by decide +kernel
theorem dX8_isNearIn_66 : decode cX8_isNearIn 66 = .ok (.aload_n 1, 1) := by decide +kernel
theorem dX8_isNearIn_67 : decode cX8_isNearIn 67 = .ok (.iload 6, 2) := by decide +kernel
theorem dX8_isNearIn_69 : decode cX8_isNearIn 69 = .ok (.invokevirtual 159, 3) := by decide +kernel
theorem dX8_isNearIn_72 : decode cX8_isNearIn 72 = .ok (.aload_n 0, 1) := by decide +kernel
theorem dX8_isNearIn_73 : decode cX8_isNearIn 73 = .ok (.getfield 27, 3) := by decide +kernel
theorem dX8_isNearIn_76 : decode cX8_isNearIn 76 = .ok (.invokevirtual 162, 3) := by decide +kernel
theorem dX8_isNearIn_79 : decode cX8_isNearIn 79 = .ok (.ifCond .eq 5, 3) := by decide +kernel
theorem dX8_isNearIn_82 : decode cX8_isNearIn 82 = .ok (.iconst 1, 1) := by decide +kernel
theorem dX8_isNearIn_83 : decode cX8_isNearIn 83 = .ok (.ireturn, 1) := by decide +kernel
theorem dX8_isNearIn_84 : decode cX8_isNearIn 84 = .ok (.iinc 6 1, 3) := by decide +kernel
theorem dX8_isNearIn_87 : decode cX8_isNearIn 87 = .ok (.goto (-48), 3) := by decide +kernel
theorem dX8_isNearIn_90 : decode cX8_isNearIn 90 = .ok (.iinc 5 1, 3) := by decide +kernel
theorem dX8_isNearIn_93 : decode cX8_isNearIn 93 = .ok (.goto (-90), 3) := by decide +kernel
theorem dX8_isNearIn_96 : decode cX8_isNearIn 96 = .ok (.iconst 0, 1) := by decide +kernel
theorem dX8_isNearIn_97 : decode cX8_isNearIn 97 = .ok (.ireturn, 1) := by decide +kernel
theorem dX8_scaledValue_0 : decode cX8_scaledValue 0 = .ok (.iload_n 0, 1) := by decide +kernel
theorem dX8_scaledValue_1 : decode cX8_scaledValue 1 = .ok (.iconst (-1), 1) := by decide +kernel
theorem dX8_scaledValue_2 : decode cX8_scaledValue 2 = .ok (.if_icmp .ne 7, 3) := by decide +kernel
theorem dX8_scaledValue_5 : decode cX8_scaledValue 5 = .ok (.iconst (-1), 1) := by decide +kernel
theorem dX8_scaledValue_6 : decode cX8_scaledValue 6 = .ok (.goto 9, 3) := by decide +kernel
theorem dX8_scaledValue_9 : decode cX8_scaledValue 9 = .ok (.iload_n 0, 1) := by decide +kernel
theorem dX8_scaledValue_10 : decode cX8_scaledValue 10 = .ok (.iload_n 1, 1) := by decide +kernel
theorem dX8_scaledValue_11 : decode cX8_scaledValue 11 = .ok (.imul, 1) := by decide +kernel
theorem dX8_scaledValue_12 : decode cX8_scaledValue 12 = .ok (.bipush 100, 2) := by decide +kernel
theorem dX8_scaledValue_14 : decode cX8_scaledValue 14 = .ok (.idiv, 1) := by decide +kernel
theorem dX8_scaledValue_15 : decode cX8_scaledValue 15 = .ok (.ireturn, 1) := by decide +kernel
theorem dX9_init_0 : decode cX9_init 0 = .ok (.aload_n 0, 1) := by decide +kernel
theorem dX9_init_1 : decode cX9_init 1 = .ok (.invokespecial 3, 3) := by decide +kernel
theorem dX9_init_4 : decode cX9_init 4 = .ok (.aload_n 0, 1) := by decide +kernel
theorem dX9_init_5 : decode cX9_init 5 = .ok (.bipush 12, 2) := by decide +kernel
theorem dX9_init_7 : decode cX9_init 7 = .ok (.newarray .int, 2) := by decide +kernel
theorem dX9_init_9 : decode cX9_init 9 = .ok (.putfield 9, 3) := by decide +kernel
theorem dX9_init_12 : decode cX9_init 12 = .ok (.aload_n 0, 1) := by decide +kernel
theorem dX9_init_13 : decode cX9_init 13 = .ok (.bipush 12, 2) := by decide +kernel
theorem dX9_init_15 : decode cX9_init 15 = .ok (.newarray .int, 2) := by decide +kernel
theorem dX9_init_17 : decode cX9_init 17 = .ok (.putfield 15, 3) := by decide +kernel
theorem dX9_init_20 : decode cX9_init 20 = .ok (.aload_n 0, 1) := by decide +kernel
theorem dX9_init_21 : decode cX9_init 21 = .ok (.bipush 12, 2) := by decide +kernel
theorem dX9_init_23 : decode cX9_init 23 = .ok (.newarray .int, 2) := by decide +kernel
theorem dX9_init_25 : decode cX9_init 25 = .ok (.putfield 18, 3) := by decide +kernel
theorem dX9_init_28 : decode cX9_init 28 = .ok (.return_, 1) := by decide +kernel
theorem dX9_isFull_0 : decode cX9_isFull 0 = .ok (.aload_n 0, 1) := by decide +kernel
theorem dX9_isFull_1 : decode cX9_isFull 1 = .ok (.getfield 21, 3) := by decide +kernel
theorem dX9_isFull_4 : decode cX9_isFull 4 = .ok (.aload_n 0, 1) := by decide +kernel
theorem dX9_isFull_5 : decode cX9_isFull 5 = .ok (.getfield 9, 3) := by decide +kernel
theorem dX9_isFull_8 : decode cX9_isFull 8 = .ok (.arraylength, 1) := by decide +kernel
theorem dX9_isFull_9 : decode cX9_isFull 9 = .ok (.if_icmp .lt 7, 3) := by decide +kernel
theorem dX9_isFull_12 : decode cX9_isFull 12 = .ok (.iconst 1, 1) := by decide +kernel
theorem dX9_isFull_13 : decode cX9_isFull 13 = .ok (.goto 4, 3) := by decide +kernel
theorem dX9_isFull_16 : decode cX9_isFull 16 = .ok (.iconst 0, 1) := by decide +kernel
theorem dX9_isFull_17 : decode cX9_isFull 17 = .ok (.ireturn, 1) := by decide +kernel
set_option maxRecDepth 20000 in
theorem ggX9_append_X9_isFull : GoodIn wsX9_append wsX9_isFull := goodIn_r _ [10, 2, 1, 15, 16, 17, 18, 19] (by decide +kernel) (by decide +kernel)
set_option maxRecDepth 20000 in
theorem gX9_append_X9_isFull : GoodIn wsX9_append (wsV RX9 25 RX9 yX9_isFull wsX9_isFull) := goodIn_app (goodIn_of _ (by decide +kernel)) ggX9_append_X9_isFull
set_option maxRecDepth 20000 in
theorem ggX9_append_X9_indexOf : GoodIn wsX9_append wsX9_indexOf := goodIn_r _ [14, 4, 5, 15, 16, 17, 18, 19] (by decide +kernel) (by decide +kernel)
set_option maxRecDepth 20000 in
theorem gX9_append_X9_indexOf : GoodIn wsX9_append (wsV RX9 29 RX9 yX9_indexOf wsX9_indexOf) := goodIn_app (goodIn_of _ (by decide +kernel)) ggX9_append_X9_indexOf
theorem dX9_append_0 : decode cX9_append 0 = .ok (.aload_n 0, 1) := by decide +kernel
theorem dX9_append_1 : decode cX9_append 1 = .ok (.invokevirtual 25, 3) := by decide +kernel
theorem dX9_append_4 : decode cX9_append 4 = .ok (.ifCond .eq 4, 3) := by decide +kernel
theorem dX9_append_7 : decode cX9_append 7 = .ok (.return_, 1) := by decide +kernel
theorem dX9_append_8 : decode cX9_append 8 = .ok (.aload_n 0, 1) := by decide +kernel
theorem dX9_append_9 : decode cX9_append 9 = .ok (.getfield 9, 3) := by decide +kernel
theorem dX9_append_12 : decode cX9_append 12 = .ok (.aload_n 0, 1) := by decide +kernel
theorem dX9_append_13 : decode cX9_append 13 = .ok (.getfield 21, 3) := by decide +kernel
theorem dX9_append_16 : decode cX9_append 16 = .ok (.iload_n 1, 1) := by decide +kernel
theorem dX9_append_17 : decode cX9_append 17 = .ok (.iastore, 1) := by decide +kernel
theorem dX9_append_18 : decode cX9_append 18 = .ok (.aload_n 0, 1) := by decide +kernel
theorem dX9_append_19 : decode cX9_append 19 = .ok (.dup, 1) := by decide +kernel
theorem dX9_append_20 : decode cX9_append 20 = .ok (.getfield 21, 3) := by decide +kernel
theorem dX9_append_23 : decode cX9_append 23 = .ok (.iconst 1, 1) := by decide +kernel
theorem dX9_append_24 : decode cX9_append 24 = .ok (.iadd, 1) := by decide +kernel
theorem dX9_append_25 : decode cX9_append 25 = .ok (.putfield 21, 3) := by decide +kernel
theorem dX9_append_28 : decode cX9_append 28 = .ok (.aload_n 0, 1) := by decide +kernel
theorem dX9_append_29 : decode cX9_append 29 = .ok (.iload_n 1, 1) := by decide +kernel
theorem dX9_append_30 : decode cX9_append 30 = .ok (.invokevirtual 29, 3) := by decide +kernel
theorem dX9_append_33 : decode cX9_append 33 = .ok (.istore_n 2, 1) := by decide +kernel
theorem dX9_append_34 : decode cX9_append 34 = .ok (.iload_n 2, 1) := by decide +kernel
theorem dX9_append_35 : decode cX9_append 35 = .ok (.ifCond .lt 25, 3) := by decide +kernel
theorem dX9_append_38 : decode cX9_append 38 = .ok (.iload_n 2, 1) := by decide +kernel
theorem dX9_append_39 : decode cX9_append 39 = .ok (.aload_n 0, 1) := by decide +kernel
theorem dX9_append_40 : decode cX9_append 40 = .ok (.getfield 18, 3) := by decide +kernel
theorem dX9_append_43 : decode cX9_append 43 = .ok (.arraylength, 1) := by decide +kernel
theorem dX9_append_44 : decode cX9_append 44 = .ok (.if_icmp .ge 16, 3) := by decide +kernel
theorem dX9_append_47 : decode cX9_append 47 = .ok (.aload_n 0, 1) := by decide +kernel
theorem dX9_append_48 : decode cX9_append 48 = .ok (.getfield 18, 3) := by decide +kernel
theorem dX9_append_51 : decode cX9_append 51 = .ok (.iload_n 2, 1) := by decide +kernel
theorem dX9_append_52 : decode cX9_append 52 = .ok (.dup2, 1) := by decide +kernel
theorem dX9_append_53 : decode cX9_append 53 = .ok (.iaload, 1) := by decide +kernel
theorem dX9_append_54 : decode cX9_append 54 = .ok (.iconst 1, 1) := by decide +kernel
theorem dX9_append_55 : decode cX9_append 55 = .ok (.iadd, 1) := by decide +kernel
theorem dX9_append_56 : decode cX9_append 56 = .ok (.iastore, 1) := by decide +kernel
theorem dX9_append_57 : decode cX9_append 57 = .ok (.goto 45, 3) := by decide +kernel
theorem dX9_append_60 : decode cX9_append 60 = .ok (.aload_n 0, 1) := by decide +kernel
theorem dX9_append_61 : decode cX9_append 61 = .ok (.getfield 33, 3) := by decide +kernel
theorem dX9_append_64 : decode cX9_append 64 = .ok (.aload_n 0, 1) := by decide +kernel
theorem dX9_append_65 : decode cX9_append 65 = .ok (.getfield 15, 3) := by decide +kernel
theorem dX9_append_68 : decode cX9_append 68 = .ok (.arraylength, 1) := by decide +kernel
theorem dX9_append_69 : decode cX9_append 69 = .ok (.if_icmp .ge 33, 3) := by decide +kernel
theorem dX9_append_72 : decode cX9_append 72 = .ok (.aload_n 0, 1) := by decide +kernel
theorem dX9_append_73 : decode cX9_append 73 = .ok (.getfield 15, 3) := by decide +kernel
theorem dX9_append_76 : decode cX9_append 76 = .ok (.aload_n 0, 1) := by decide +kernel
theorem dX9_append_77 : decode cX9_append 77 = .ok (.getfield 33, 3) := by decide +kernel
theorem dX9_append_80 : decode cX9_append 80 = .ok (.iload_n 1, 1) := by decide +kernel
theorem dX9_append_81 : decode cX9_append 81 = .ok (.iastore, 1) := by decide +kernel
theorem dX9_append_82 : decode cX9_append 82 = .ok (.aload_n 0, 1) := by decide +kernel
theorem dX9_append_83 : decode cX9_append 83 = .ok (.getfield 18, 3) := by decide +kernel
theorem dX9_append_86 : decode cX9_append 86 = .ok (.aload_n 0, 1) := by decide +kernel
theorem dX9_append_87 : decode cX9_append 87 = .ok (.getfield 33, 3) := by decide +kernel
theorem dX9_append_90 : decode cX9_append 90 = .ok (.iconst 1, 1) := by decide +kernel
theorem dX9_append_91 : decode cX9_append 91 = .ok (.iastore, 1) := by decide +kernel
theorem dX9_append_92 : decode cX9_append 92 = .ok (.aload_n 0, 1) := by decide +kernel
theorem dX9_append_93 : decode cX9_append 93 = .ok (.dup, 1) := by decide +kernel
theorem dX9_append_94 : decode cX9_append 94 = .ok (.getfield 33, 3) := by decide +kernel
theorem dX9_append_97 : decode cX9_append 97 = .ok (.iconst 1, 1) := by decide +kernel
theorem dX9_append_98 : decode cX9_append 98 = .ok (.iadd, 1) := by decide +kernel
theorem dX9_append_99 : decode cX9_append 99 = .ok (.putfield 33, 3) := by decide +kernel
theorem dX9_append_102 : decode cX9_append 102 = .ok (.return_, 1) := by decide +kernel
theorem dX9_termOn_0 : decode cX9_termOn 0 = .ok (.iload_n 1, 1) := by decide +kernel
theorem dX9_termOn_1 : decode cX9_termOn 1 = .ok (.ifCond .lt 20, 3) := by decide +kernel
theorem dX9_termOn_4 : decode cX9_termOn 4 = .ok (.iload_n 1, 1) := by decide +kernel
theorem dX9_termOn_5 : decode cX9_termOn 5 = .ok (.aload_n 0, 1) := by decide +kernel
theorem dX9_termOn_6 : decode cX9_termOn 6 = .ok (.getfield 21, 3) := by decide +kernel
theorem dX9_termOn_9 : decode cX9_termOn 9 = .ok (.if_icmp .ge 12, 3) := by decide +kernel
theorem dX9_termOn_12 : decode cX9_termOn 12 = .ok (.iload_n 1, 1) := by decide +kernel
theorem dX9_termOn_13 : decode cX9_termOn 13 = .ok (.aload_n 0, 1) := by decide +kernel
theorem dX9_termOn_14 : decode cX9_termOn 14 = .ok (.getfield 9, 3) := by decide +kernel
theorem dX9_termOn_17 : decode cX9_termOn 17 = .ok (.arraylength, 1) := by decide +kernel
theorem dX9_termOn_18 : decode cX9_termOn 18 = .ok (.if_icmp .lt 7, 3) := by decide +kernel
theorem dX9_termOn_21 : decode cX9_termOn 21 = .ok (.iconst (-1), 1) := by decide +kernel
theorem dX9_termOn_22 : decode cX9_termOn 22 = .ok (.goto 9, 3) := by decide +kernel
theorem dX9_termOn_25 : decode cX9_termOn 25 = .ok (.aload_n 0, 1) := by decide +kernel
theorem dX9_termOn_26 : decode cX9_termOn 26 = .ok (.getfield 9, 3) := by decide +kernel
theorem dX9_termOn_29 : decode cX9_termOn 29 = .ok (.iload_n 1, 1) := by decide +kernel
theorem dX9_termOn_30 : decode cX9_termOn 30 = .ok (.iaload, 1) := by decide +kernel
theorem dX9_termOn_31 : decode cX9_termOn 31 = .ok (.ireturn, 1) := by decide +kernel
theorem dX9_differentTermOn_0 : decode cX9_differentTermOn 0 = .ok (.iload_n 1, 1) := by decide +kernel
theorem dX9_differentTermOn_1 : decode cX9_differentTermOn 1 = .ok (.ifCond .lt 20, 3) := by decide +kernel
theorem dX9_differentTermOn_4 : decode cX9_differentTermOn 4 = .ok (.iload_n 1, 1) := by decide +kernel
theorem dX9_differentTermOn_5 : decode cX9_differentTermOn 5 = .ok (.aload_n 0, 1) := by decide +kernel
theorem dX9_differentTermOn_6 : decode cX9_differentTermOn 6 = .ok (.getfield 33, 3) := by decide +kernel
theorem dX9_differentTermOn_9 : decode cX9_differentTermOn 9 = .ok (.if_icmp .ge 12, 3) := by decide +kernel
theorem dX9_differentTermOn_12 : decode cX9_differentTermOn 12 = .ok (.iload_n 1, 1) := by decide +kernel
theorem dX9_differentTermOn_13 : decode cX9_differentTermOn 13 = .ok (.aload_n 0, 1) := by decide +kernel
theorem dX9_differentTermOn_14 : decode cX9_differentTermOn 14 = .ok (.getfield 15, 3) := by decide +kernel
theorem dX9_differentTermOn_17 : decode cX9_differentTermOn 17 = .ok (.arraylength, 1) := by decide +kernel
theorem dX9_differentTermOn_18 : decode cX9_differentTermOn 18 = .ok (.if_icmp .lt 7, 3) := by decide +kernel
theorem dX9_differentTermOn_21 : decode cX9_differentTermOn 21 = .ok (.iconst (-1), 1) := by decide +kernel
theorem dX9_differentTermOn_22 : decode cX9_differentTermOn 22 = .ok (.goto 9, 3) := by decide +kernel
theorem dX9_differentTermOn_25 : decode cX9_differentTermOn 25 = .ok (.aload_n 0, 1) := by decide +kernel
theorem dX9_differentTermOn_26 : decode cX9_differentTermOn 26 = .ok (.getfield 15, 3) := by decide +kernel
theorem dX9_differentTermOn_29 : decode cX9_differentTermOn 29 = .ok (.iload_n 1, 1) := by decide +kernel
theorem dX9_differentTermOn_30 : decode cX9_differentTermOn 30 = .ok (.iaload, 1) := by decide +kernel
theorem dX9_differentTermOn_31 : decode cX9_differentTermOn 31 = .ok (.ireturn, 1) := by decide +kernel
set_option maxRecDepth 20000 in
theorem ggX9_countOf_X9_indexOf : GoodIn wsX9_countOf wsX9_indexOf := goodIn_r _ [6, 7, 8, 9, 10, 11, 12, 13] (by decide +kernel) (by decide +kernel)
set_option maxRecDepth 20000 in
theorem gX9_countOf_X9_indexOf : GoodIn wsX9_countOf (wsV RX9 29 RX9 yX9_indexOf wsX9_indexOf) := goodIn_app (goodIn_of _ (by decide +kernel)) ggX9_countOf_X9_indexOf
theorem dX9_countOf_0 : decode cX9_countOf 0 = .ok (.aload_n 0, 1) := by decide +kernel
theorem dX9_countOf_1 : decode cX9_countOf 1 = .ok (.iload_n 1, 1) := by decide +kernel
theorem dX9_countOf_2 : decode cX9_countOf 2 = .ok (.invokevirtual 29, 3) := by decide +kernel
theorem dX9_countOf_5 : decode cX9_countOf 5 = .ok (.istore_n 2, 1) := by decide +kernel
theorem dX9_countOf_6 : decode cX9_countOf 6 = .ok (.iload_n 2, 1) := by decide +kernel
theorem dX9_countOf_7 : decode cX9_countOf 7 = .ok (.ifCond .lt 12, 3) := by decide +kernel
theorem dX9_countOf_10 : decode cX9_countOf 10 = .ok (.iload_n 2, 1) := by decide +kernel
theorem dX9_countOf_11 : decode cX9_countOf 11 = .ok (.aload_n 0, 1) := by decide +kernel
theorem dX9_countOf_12 : decode cX9_countOf 12 = .ok (.getfield 18, 3) := by decide +kernel
theorem dX9_countOf_15 : decode cX9_countOf 15 = .ok (.arraylength, 1) := by decide +kernel
theorem dX9_countOf_16 : decode cX9_countOf 16 = .ok (.if_icmp .lt 7, 3) := by decide +kernel
theorem dX9_countOf_19 : decode cX9_countOf 19 = .ok (.iconst 0, 1) := by decide +kernel
theorem dX9_countOf_20 : decode cX9_countOf 20 = .ok (.goto 9, 3) := by decide +kernel
theorem dX9_countOf_23 : decode cX9_countOf 23 = .ok (.aload_n 0, 1) := by decide +kernel
theorem dX9_countOf_24 : decode cX9_countOf 24 = .ok (.getfield 18, 3) := by decide +kernel
theorem dX9_countOf_27 : decode cX9_countOf 27 = .ok (.iload_n 2, 1) := by decide +kernel
theorem dX9_countOf_28 : decode cX9_countOf 28 = .ok (.iaload, 1) := by decide +kernel
theorem dX9_countOf_29 : decode cX9_countOf 29 = .ok (.ireturn, 1) := by decide +kernel
theorem dX9_indexOf_0 : decode cX9_indexOf 0 = .ok (.iconst 0, 1) := by decide +kernel
theorem dX9_indexOf_1 : decode cX9_indexOf 1 = .ok (.istore_n 2, 1) := by decide +kernel
theorem dX9_indexOf_2 : decode cX9_indexOf 2 = .ok (.iload_n 2, 1) := by decide +kernel
theorem dX9_indexOf_3 : decode cX9_indexOf 3 = .ok (.aload_n 0, 1) := by decide +kernel
theorem dX9_indexOf_4 : decode cX9_indexOf 4 = .ok (.getfield 33, 3) := by decide +kernel
theorem dX9_indexOf_7 : decode cX9_indexOf 7 = .ok (.if_icmp .ge 30, 3) := by decide +kernel
theorem dX9_indexOf_10 : decode cX9_indexOf 10 = .ok (.iload_n 2, 1) := by decide +kernel
theorem dX9_indexOf_11 : decode cX9_indexOf 11 = .ok (.aload_n 0, 1) := by decide +kernel
theorem dX9_indexOf_12 : decode cX9_indexOf 12 = .ok (.getfield 15, 3) := by decide +kernel
theorem dX9_indexOf_15 : decode cX9_indexOf 15 = .ok (.arraylength, 1) := by decide +kernel
theorem dX9_indexOf_16 : decode cX9_indexOf 16 = .ok (.if_icmp .ge 21, 3) := by decide +kernel
theorem dX9_indexOf_19 : decode cX9_indexOf 19 = .ok (.aload_n 0, 1) := by decide +kernel
theorem dX9_indexOf_20 : decode cX9_indexOf 20 = .ok (.getfield 15, 3) := by decide +kernel
theorem dX9_indexOf_23 : decode cX9_indexOf 23 = .ok (.iload_n 2, 1) := by decide +kernel
theorem dX9_indexOf_24 : decode cX9_indexOf 24 = .ok (.iaload, 1) := by decide +kernel
theorem dX9_indexOf_25 : decode cX9_indexOf 25 = .ok (.iload_n 1, 1) := by decide +kernel
theorem dX9_indexOf_26 : decode cX9_indexOf 26 = .ok (.if_icmp .ne 5, 3) := by decide +kernel
theorem dX9_indexOf_29 : decode cX9_indexOf 29 = .ok (.iload_n 2, 1) := by decide +kernel
theorem dX9_indexOf_30 : decode cX9_indexOf 30 = .ok (.ireturn, 1) := by decide +kernel
theorem dX9_indexOf_31 : decode cX9_indexOf 31 = .ok (.iinc 2 1, 3) := by decide +kernel
theorem dX9_indexOf_34 : decode cX9_indexOf 34 = .ok (.goto (-32), 3) := by decide +kernel
theorem dX9_indexOf_37 : decode cX9_indexOf 37 = .ok (.iconst (-1), 1) := by decide +kernel
theorem dX9_indexOf_38 : decode cX9_indexOf 38 = .ok (.ireturn, 1) := by decide +kernel
set_option maxRecDepth 20000 in
theorem ggX10_init_X0_init : GoodIn wsX10_init wsX0_init := goodIn_r _ [39, 40, 2, 3, 41, 42, 36, 43, 44, 25, 26, 45, 46, 47, 48, 49, 50, 51, 100, 101, 102, 103, 104, 105, 134, 135, 136] (by decide +kernel) (by decide +kernel)
set_option maxRecDepth 20000 in
theorem gX10_init_X0_init_n9 : GoodIn wsX10_init (wsX0_init) := ggX10_init_X0_init
set_option maxRecDepth 20000 in
theorem ggX10_init_X4_init : GoodIn wsX10_init wsX4_init := goodIn_r _ [54, 55, 2, 3, 56, 57, 36, 58, 59, 60, 61, 62, 63, 116, 117, 118] (by decide +kernel) (by decide +kernel)
set_option maxRecDepth 20000 in
theorem gX10_init_X4_init : GoodIn wsX10_init (wsX4_init) := ggX10_init_X4_init
set_option maxRecDepth 20000 in
theorem ggX10_init_X6_init : GoodIn wsX10_init wsX6_init := goodIn_r _ [66, 67, 2, 3, 68, 69, 56, 70, 71, 72, 119, 120, 121, 122, 123] (by decide +kernel) (by decide +kernel)
set_option maxRecDepth 20000 in
theorem gX10_init_X6_init : GoodIn wsX10_init (wsX6_init) := ggX10_init_X6_init
set_option maxRecDepth 20000 in
theorem ggX10_init_X7_init : GoodIn wsX10_init wsX7_init := goodIn_r _ [74, 75, 2, 3, 76, 77, 36, 78, 79, 124, 125, 126, 127] (by decide +kernel) (by decide +kernel)
set_option maxRecDepth 20000 in
theorem gX10_init_X7_init_n34 : GoodIn wsX10_init (wsX7_init) := ggX10_init_X7_init
set_option maxRecDepth 20000 in
theorem ggX10_init_X3_init : GoodIn wsX10_init wsX3_init := goodIn_r _ [82, 83, 2, 3, 84, 36, 85, 86, 87, 88, 89, 90, 128, 129, 130, 131, 132, 133] (by decide +kernel) (by decide +kernel)
set_option maxRecDepth 20000 in
theorem gX10_init_X3_init : GoodIn wsX10_init (wsX3_init) := ggX10_init_X3_init
set_option maxRecDepth 20000 in
theorem ggX10_init_X1_init : GoodIn wsX10_init wsX1_init := goodIn_r _ [47, 48, 2, 3, 49, 36, 50, 51, 134, 135, 136] (by decide +kernel) (by decide +kernel)
set_option maxRecDepth 20000 in
theorem gX10_init_X1_init_n50 : GoodIn wsX10_init (wsX1_init) := ggX10_init_X1_init
set_option maxRecDepth 20000 in
theorem ggX10_init_X8_init : GoodIn wsX10_init wsX8_init := goodIn_r _ [93, 94, 2, 3, 36, 95, 96, 97, 98, 99, 137, 138, 139, 140, 141] (by decide +kernel) (by decide +kernel)
set_option maxRecDepth 20000 in
theorem gX10_init_X8_init : GoodIn wsX10_init (wsX8_init) := ggX10_init_X8_init
theorem dX10_init_0 : decode cX10_init 0 = .ok (.aload_n 0, 1) := by decide +kernel
theorem dX10_init_1 : decode cX10_init 1 = .ok (.invokespecial 1, 3) := by decide +kernel
theorem dX10_init_4 : decode cX10_init 4 = .ok (.aload_n 0, 1) := by decide +kernel
theorem dX10_init_5 : decode cX10_init 5 = .ok (.new 7, 3) := by decide +kernel
theorem dX10_init_8 : decode cX10_init 8 = .ok (.dup, 1) := by decide +kernel
theorem dX10_init_9 : decode cX10_init 9 = .ok (.invokespecial 9, 3) := by decide +kernel
theorem dX10_init_12 : decode cX10_init 12 = .ok (.putfield 10, 3) := by decide +kernel
theorem dX10_init_15 : decode cX10_init 15 = .ok (.aload_n 0, 1) := by decide +kernel
theorem dX10_init_16 : decode cX10_init 16 = .ok (.new 16, 3) := by decide +kernel
theorem dX10_init_19 : decode cX10_init 19 = .ok (.dup, 1) := by decide +kernel
theorem dX10_init_20 : decode cX10_init 20 = .ok (.invokespecial 18, 3) := by decide +kernel
theorem dX10_init_23 : decode cX10_init 23 = .ok (.putfield 19, 3) := by decide +kernel
theorem dX10_init_26 : decode cX10_init 26 = .ok (.aload_n 0, 1) := by decide +kernel
theorem dX10_init_27 : decode cX10_init 27 = .ok (.new 23, 3) := by decide +kernel
theorem dX10_init_30 : decode cX10_init 30 = .ok (.dup, 1) := by decide +kernel
theorem dX10_init_31 : decode cX10_init 31 = .ok (.aload_n 0, 1) := by decide +kernel
theorem dX10_init_32 : decode cX10_init 32 = .ok (.getfield 19, 3) := by decide +kernel
theorem dX10_init_35 : decode cX10_init 35 = .ok (.invokespecial 25, 3) := by decide +kernel
theorem dX10_init_38 : decode cX10_init 38 = .ok (.putfield 28, 3) := by decide +kernel
theorem dX10_init_41 : decode cX10_init 41 = .ok (.aload_n 0, 1) := by decide +kernel
theorem dX10_init_42 : decode cX10_init 42 = .ok (.new 32, 3) := by decide +kernel
theorem dX10_init_45 : decode cX10_init 45 = .ok (.dup, 1) := by decide +kernel
theorem dX10_init_46 : decode cX10_init 46 = .ok (.invokespecial 34, 3) := by decide +kernel
theorem dX10_init_49 : decode cX10_init 49 = .ok (.putfield 35, 3) := by decide +kernel
theorem dX10_init_52 : decode cX10_init 52 = .ok (.aload_n 0, 1) := by decide +kernel
theorem dX10_init_53 : decode cX10_init 53 = .ok (.new 39, 3) := by decide +kernel
theorem dX10_init_56 : decode cX10_init 56 = .ok (.dup, 1) := by decide +kernel
theorem dX10_init_57 : decode cX10_init 57 = .ok (.aload_n 0, 1) := by decide +kernel
theorem dX10_init_58 : decode cX10_init 58 = .ok (.getfield 10, 3) := by decide +kernel
theorem dX10_init_61 : decode cX10_init 61 = .ok (.aload_n 0, 1) := by decide +kernel
theorem dX10_init_62 : decode cX10_init 62 = .ok (.getfield 19, 3) := by decide +kernel
theorem dX10_init_65 : decode cX10_init 65 = .ok (.invokespecial 41, 3) := by decide +kernel
theorem dX10_init_68 : decode cX10_init 68 = .ok (.putfield 44, 3) := by decide +kernel
theorem dX10_init_71 : decode cX10_init 71 = .ok (.aload_n 0, 1) := by decide +kernel
theorem dX10_init_72 : decode cX10_init 72 = .ok (.new 48, 3) := by decide +kernel
theorem dX10_init_75 : decode cX10_init 75 = .ok (.dup, 1) := by decide +kernel
theorem dX10_init_76 : decode cX10_init 76 = .ok (.invokespecial 50, 3) := by decide +kernel
theorem dX10_init_79 : decode cX10_init 79 = .ok (.putfield 51, 3) := by decide +kernel
theorem dX10_init_82 : decode cX10_init 82 = .ok (.aload_n 0, 1) := by decide +kernel
theorem dX10_init_83 : decode cX10_init 83 = .ok (.new 55, 3) := by decide +kernel
theorem dX10_init_86 : decode cX10_init 86 = .ok (.dup, 1) := by decide +kernel
theorem dX10_init_87 : decode cX10_init 87 = .ok (.aload_n 0, 1) := by decide +kernel
theorem dX10_init_88 : decode cX10_init 88 = .ok (.getfield 28, 3) := by decide +kernel
theorem dX10_init_91 : decode cX10_init 91 = .ok (.aload_n 0, 1) := by decide +kernel
theorem dX10_init_92 : decode cX10_init 92 = .ok (.getfield 19, 3) := by decide +kernel
theorem dX10_init_95 : decode cX10_init 95 = .ok (.aload_n 0, 1) := by decide +kernel
theorem dX10_init_96 : decode cX10_init 96 = .ok (.getfield 10, 3) := by decide +kernel
theorem dX10_init_99 : decode cX10_init 99 = .ok (.getfield 57, 3) := by decide +kernel
theorem dX10_init_102 : decode cX10_init 102 = .ok (.iconst 1, 1) := by decide +kernel
theorem dX10_init_103 : decode cX10_init 103 = .ok (.invokespecial 60, 3) := by decide +kernel
theorem dX10_init_106 : decode cX10_init 106 = .ok (.putfield 63, 3) := by decide +kernel
theorem dX10_init_109 : decode cX10_init 109 = .ok (.aload_n 0, 1) := by decide +kernel
theorem dX10_init_110 : decode cX10_init 110 = .ok (.new 55, 3) := by decide +kernel
theorem dX10_init_113 : decode cX10_init 113 = .ok (.dup, 1) := by decide +kernel
theorem dX10_init_114 : decode cX10_init 114 = .ok (.aload_n 0, 1) := by decide +kernel
theorem dX10_init_115 : decode cX10_init 115 = .ok (.getfield 28, 3) := by decide +kernel
theorem dX10_init_118 : decode cX10_init 118 = .ok (.aload_n 0, 1) := by decide +kernel
theorem dX10_init_119 : decode cX10_init 119 = .ok (.getfield 19, 3) := by decide +kernel
theorem dX10_init_122 : decode cX10_init 122 = .ok (.aload_n 0, 1) := by decide +kernel
theorem dX10_init_123 : decode cX10_init 123 = .ok (.getfield 10, 3) := by decide +kernel
theorem dX10_init_126 : decode cX10_init 126 = .ok (.getfield 57, 3) := by decide +kernel
theorem dX10_init_129 : decode cX10_init 129 = .ok (.iconst 0, 1) := by decide +kernel
theorem dX10_init_130 : decode cX10_init 130 = .ok (.invokespecial 60, 3) := by decide +kernel
theorem dX10_init_133 : decode cX10_init 133 = .ok (.putfield 67, 3) := by decide +kernel
theorem dX10_init_136 : decode cX10_init 136 = .ok (.aload_n 0, 1) := by decide +kernel
theorem dX10_init_137 : decode cX10_init 137 = .ok (.new 55, 3) := by decide +kernel
theorem dX10_init_140 : decode cX10_init 140 = .ok (.dup, 1) := by decide +kernel
theorem dX10_init_141 : decode cX10_init 141 = .ok (.aload_n 0, 1) := by decide +kernel
theorem dX10_init_142 : decode cX10_init 142 = .ok (.getfield 28, 3) := by decide +kernel
theorem dX10_init_145 : decode cX10_init 145 = .ok (.aload_n 0, 1) := by decide +kernel
theorem dX10_init_146 : decode cX10_init 146 = .ok (.getfield 19, 3) := by decide +kernel
theorem dX10_init_149 : decode cX10_init 149 = .ok (.aload_n 0, 1) := by decide +kernel
theorem dX10_init_150 : decode cX10_init 150 = .ok (.getfield 51, 3) := by decide +kernel
theorem dX10_init_153 : decode cX10_init 153 = .ok (.iconst 1, 1) := by decide +kernel
theorem dX10_init_154 : decode cX10_init 154 = .ok (.invokespecial 60, 3) := by decide +kernel
theorem dX10_init_157 : decode cX10_init 157 = .ok (.putfield 70, 3) := by decide +kernel
theorem dX10_init_160 : decode cX10_init 160 = .ok (.aload_n 0, 1) := by decide +kernel
theorem dX10_init_161 : decode cX10_init 161 = .ok (.bipush 30, 2) := by decide +kernel
theorem dX10_init_163 : decode cX10_init 163 = .ok (.bipush 60, 2) := by decide +kernel
theorem dX10_init_165 : decode cX10_init 165 = .ok (.multianewarray 73 2, 4) := by decide +kernel
theorem dX10_init_169 : decode cX10_init 169 = .ok (.putfield 75, 3) := by decide +kernel
theorem dX10_init_172 : decode cX10_init 172 = .ok (.return_, 1) := by decide +kernel
set_option maxRecDepth 20000 in
theorem ggX10_open_X10_isDate : GoodIn wsX10_open wsX10_isDate := goodIn_r _ [14] (by decide +kernel) (by decide +kernel)
set_option maxRecDepth 20000 in
theorem gX10_open_X10_isDate : GoodIn wsX10_open (va_wsS RX10 78 yX10_isDate wsX10_isDate) := goodIn_app (goodIn_of _ (by decide +kernel)) ggX10_open_X10_isDate
set_option maxRecDepth 20000 in
theorem ggX10_open_X10_isKind : GoodIn wsX10_open wsX10_isKind := goodIn_r _ [17] (by decide +kernel) (by decide +kernel)
set_option maxRecDepth 20000 in
theorem gX10_open_X10_isKind : GoodIn wsX10_open (va_wsS RX10 82 yX10_isKind wsX10_isKind) := goodIn_app (goodIn_of _ (by decide +kernel)) ggX10_open_X10_isKind
set_option maxRecDepth 20000 in
theorem ggX10_open_X0_isFull : GoodIn wsX10_open wsX0_isFull := goodIn_r _ [22, 23, 24, 55, 56, 57, 58, 59, 60] (by decide +kernel) (by decide +kernel)
set_option maxRecDepth 20000 in
theorem gX10_open_X0_isFull : GoodIn wsX10_open (wsV RX10 96 RX0 yX0_isFull wsX0_isFull) := goodIn_app (goodIn_of _ (by decide +kernel)) ggX10_open_X0_isFull
set_option maxRecDepth 20000 in
theorem ggX10_open_X2_init : GoodIn wsX10_open wsX2_init := goodIn_r _ [27, 28, 29, 30, 31, 32, 33, 34, 35, 36, 37, 38, 39, 40, 41, 42, 43, 44, 61, 62, 63, 64, 65, 66, 67, 68, 69, 70] (by decide +kernel) (by decide +kernel)
set_option maxRecDepth 20000 in
theorem gX10_open_X2_init : GoodIn wsX10_open (wsX2_init) := ggX10_open_X2_init
theorem dX10_open_0 : decode cX10_open 0 = .ok (.iload_n 1, 1) := by decide +kernel
theorem dX10_open_1 : decode cX10_open 1 = .ok (.invokestatic 78, 3) := by decide +kernel
theorem dX10_open_4 : decode cX10_open 4 = .ok (.ifCond .eq 10, 3) := by decide +kernel
theorem dX10_open_7 : decode cX10_open 7 = .ok (.iload_n 2, 1) := by decide +kernel
theorem dX10_open_8 : decode cX10_open 8 = .ok (.invokestatic 82, 3) := by decide +kernel
theorem dX10_open_11 : decode cX10_open 11 = .ok (.ifCond .ne 13, 3) := by decide +kernel
theorem dX10_open_14 : decode cX10_open 14 = .ok (.new 85, 3) := by decide +kernel
theorem dX10_open_17 : decode cX10_open 17 = .ok (.dup, 1) := by decide +kernel
theorem dX10_open_18 : decode cX10_open 18 = .ok (.ldc 87, 2) := by decide +kernel
theorem dX10_open_20 : decode cX10_open 20 = .ok (.invokespecial 89, 3) := by decide +kernel
theorem dX10_open_23 : decode cX10_open 23 = .ok (.athrow, 1) := by decide +kernel
theorem dX10_open_24 : decode cX10_open 24 = .ok (.aload_n 0, 1) := by decide +kernel
theorem dX10_open_25 : decode cX10_open 25 = .ok (.getfield 10, 3) := by decide +kernel
theorem dX10_open_28 : decode cX10_open 28 = .ok (.getfield 92, 3) := by decide +kernel
theorem dX10_open_31 : decode cX10_open 31 = .ok (.ifnonnull 13, 3) := by decide +kernel
theorem dX10_open_34 : decode cX10_open 34 = .ok (.aload_n 0, 1) := by decide +kernel
theorem dX10_open_35 : decode cX10_open 35 = .ok (.getfield 10, 3) := by decide +kernel
theorem dX10_open_38 : decode cX10_open 38 = .ok (.invokevirtual 96, 3) := by decide +kernel
theorem dX10_open_41 : decode cX10_open 41 = .ok (.ifCond .eq 13, 3) := by decide +kernel
theorem dX10_open_44 : decode cX10_open 44 = .ok (.new 100, 3) := by decide +kernel
theorem dX10_open_47 : decode cX10_open 47 = .ok (.dup, 1) := by decide +kernel
theorem dX10_open_48 : decode cX10_open 48 = .ok (.ldc 102, 2) := by decide +kernel
theorem dX10_open_50 : decode cX10_open 50 = .ok (.invokespecial 104, 3) := by decide +kernel
theorem dX10_open_53 : decode cX10_open 53 = .ok (.athrow, 1) := by decide +kernel
theorem dX10_open_54 : decode cX10_open 54 = .ok (.aload_n 0, 1) := by decide +kernel
theorem dX10_open_55 : decode cX10_open 55 = .ok (.getfield 10, 3) := by decide +kernel
theorem dX10_open_58 : decode cX10_open 58 = .ok (.new 105, 3) := by decide +kernel
theorem dX10_open_61 : decode cX10_open 61 = .ok (.dup, 1) := by decide +kernel
theorem dX10_open_62 : decode cX10_open 62 = .ok (.iload_n 1, 1) := by decide +kernel
theorem dX10_open_63 : decode cX10_open 63 = .ok (.iload_n 2, 1) := by decide +kernel
theorem dX10_open_64 : decode cX10_open 64 = .ok (.invokespecial 107, 3) := by decide +kernel
theorem dX10_open_67 : decode cX10_open 67 = .ok (.putfield 92, 3) := by decide +kernel
theorem dX10_open_70 : decode cX10_open 70 = .ok (.aload_n 0, 1) := by decide +kernel
theorem dX10_open_71 : decode cX10_open 71 = .ok (.getfield 10, 3) := by decide +kernel
theorem dX10_open_74 : decode cX10_open 74 = .ok (.getfield 110, 3) := by decide +kernel
theorem dX10_open_77 : decode cX10_open 77 = .ok (.ireturn, 1) := by decide +kernel
set_option maxRecDepth 20000 in
theorem ggX10_write_X10_isField : GoodIn wsX10_write wsX10_isField := goodIn_r _ [11] (by decide +kernel) (by decide +kernel)
set_option maxRecDepth 20000 in
theorem gX10_write_X10_isField : GoodIn wsX10_write (va_wsS RX10 114 yX10_isField wsX10_isField) := goodIn_app (goodIn_of _ (by decide +kernel)) ggX10_write_X10_isField
set_option maxRecDepth 20000 in
theorem ggX10_write_X10_isTerm : GoodIn wsX10_write wsX10_isTerm := goodIn_r _ [14] (by decide +kernel) (by decide +kernel)
set_option maxRecDepth 20000 in
theorem gX10_write_X10_isTerm : GoodIn wsX10_write (va_wsS RX10 117 yX10_isTerm wsX10_isTerm) := goodIn_app (goodIn_of _ (by decide +kernel)) ggX10_write_X10_isTerm
set_option maxRecDepth 20000 in
theorem ggX10_write_X2_rowOf : GoodIn wsX10_write wsX2_rowOf := goodIn_r _ [19, 20, 61, 62, 63, 64, 65] (by decide +kernel) (by decide +kernel)
set_option maxRecDepth 20000 in
theorem gX10_write_X2_rowOf : GoodIn wsX10_write (wsV RX10 124 RX2 yX2_rowOf wsX2_rowOf) := goodIn_app (goodIn_of _ (by decide +kernel)) ggX10_write_X2_rowOf
set_option maxRecDepth 20000 in
theorem ggX10_write_X9_isFull : GoodIn wsX10_write wsX9_isFull := goodIn_r _ [25, 26, 27, 56, 57, 58, 59, 60] (by decide +kernel) (by decide +kernel)
set_option maxRecDepth 20000 in
theorem gX10_write_X9_isFull : GoodIn wsX10_write (wsV RX10 128 RX9 yX9_isFull wsX9_isFull) := goodIn_app (goodIn_of _ (by decide +kernel)) ggX10_write_X9_isFull
set_option maxRecDepth 20000 in
theorem ggX10_write_X9_append : GoodIn wsX10_write wsX9_append := goodIn_r _ [31, 27, 26, 32, 33, 34, 35, 22, 23, 24, 25, 36, 37, 38, 39, 56, 57, 58, 59, 60] (by decide +kernel) (by decide +kernel)
set_option maxRecDepth 20000 in
theorem gX10_write_X9_append : GoodIn wsX10_write (wsV RX10 133 RX9 yX9_append wsX9_append) := goodIn_app (goodIn_of _ (by decide +kernel)) ggX10_write_X9_append
theorem dX10_write_0 : decode cX10_write 0 = .ok (.iload_n 1, 1) := by decide +kernel
theorem dX10_write_1 : decode cX10_write 1 = .ok (.invokestatic 114, 3) := by decide +kernel
theorem dX10_write_4 : decode cX10_write 4 = .ok (.ifCond .eq 10, 3) := by decide +kernel
theorem dX10_write_7 : decode cX10_write 7 = .ok (.iload_n 2, 1) := by decide +kernel
theorem dX10_write_8 : decode cX10_write 8 = .ok (.invokestatic 117, 3) := by decide +kernel
theorem dX10_write_11 : decode cX10_write 11 = .ok (.ifCond .ne 13, 3) := by decide +kernel
theorem dX10_write_14 : decode cX10_write 14 = .ok (.new 85, 3) := by decide +kernel
theorem dX10_write_17 : decode cX10_write 17 = .ok (.dup, 1) := by decide +kernel
theorem dX10_write_18 : decode cX10_write 18 = .ok (.ldc 120, 2) := by decide +kernel
theorem dX10_write_20 : decode cX10_write 20 = .ok (.invokespecial 89, 3) := by decide +kernel
theorem dX10_write_23 : decode cX10_write 23 = .ok (.athrow, 1) := by decide +kernel
theorem dX10_write_24 : decode cX10_write 24 = .ok (.aload_n 0, 1) := by decide +kernel
theorem dX10_write_25 : decode cX10_write 25 = .ok (.getfield 10, 3) := by decide +kernel
theorem dX10_write_28 : decode cX10_write 28 = .ok (.getfield 92, 3) := by decide +kernel
theorem dX10_write_31 : decode cX10_write 31 = .ok (.astore_n 3, 1) := by decide +kernel
theorem dX10_write_32 : decode cX10_write 32 = .ok (.aload_n 3, 1) := by decide +kernel
theorem dX10_write_33 : decode cX10_write 33 = .ok (.ifnonnull 13, 3) := by decide +kernel
theorem dX10_write_36 : decode cX10_write 36 = .ok (.new 100, 3) := by decide +kernel
theorem dX10_write_39 : decode cX10_write 39 = .ok (.dup, 1) := by decide +kernel
theorem dX10_write_40 : decode cX10_write 40 = .ok (.ldc 122, 2) := by decide +kernel
theorem dX10_write_42 : decode cX10_write 42 = .ok (.invokespecial 104, 3) := by decide +kernel
theorem dX10_write_45 : decode cX10_write 45 = .ok (.athrow, 1) := by decide +kernel
theorem dX10_write_46 : decode cX10_write 46 = .ok (.aload_n 3, 1) := by decide +kernel
theorem dX10_write_47 : decode cX10_write 47 = .ok (.iload_n 1, 1) := by decide +kernel
theorem dX10_write_48 : decode cX10_write 48 = .ok (.invokevirtual 124, 3) := by decide +kernel
theorem dX10_write_51 : decode cX10_write 51 = .ok (.astore 4, 2) := by decide +kernel
theorem dX10_write_53 : decode cX10_write 53 = .ok (.aload 4, 2) := by decide +kernel
theorem dX10_write_55 : decode cX10_write 55 = .ok (.ifnull 11, 3) := by decide +kernel
theorem dX10_write_58 : decode cX10_write 58 = .ok (.aload 4, 2) := by decide +kernel
theorem dX10_write_60 : decode cX10_write 60 = .ok (.invokevirtual 128, 3) := by decide +kernel
theorem dX10_write_63 : decode cX10_write 63 = .ok (.ifCond .eq 13, 3) := by decide +kernel
theorem dX10_write_66 : decode cX10_write 66 = .ok (.new 100, 3) := by decide +kernel
theorem dX10_write_69 : decode cX10_write 69 = .ok (.dup, 1) := by decide +kernel
theorem dX10_write_70 : decode cX10_write 70 = .ok (.ldc 131, 2) := by decide +kernel
theorem dX10_write_72 : decode cX10_write 72 = .ok (.invokespecial 104, 3) := by decide +kernel
theorem dX10_write_75 : decode cX10_write 75 = .ok (.athrow, 1) := by decide +kernel
theorem dX10_write_76 : decode cX10_write 76 = .ok (.aload 4, 2) := by decide +kernel
theorem dX10_write_78 : decode cX10_write 78 = .ok (.iload_n 2, 1) := by decide +kernel
theorem dX10_write_79 : decode cX10_write 79 = .ok (.invokevirtual 133, 3) := by decide +kernel
theorem dX10_write_82 : decode cX10_write 82 = .ok (.aload 4, 2) := by decide +kernel
theorem dX10_write_84 : decode cX10_write 84 = .ok (.getfield 137, 3) := by decide +kernel
theorem dX10_write_87 : decode cX10_write 87 = .ok (.ireturn, 1) := by decide +kernel
set_option maxRecDepth 20000 in
theorem ggX10_close_X0_takeIn : GoodIn wsX10_close wsX0_takeIn := goodIn_r _ [9, 10, 11, 12, 13, 14, 15, 8, 16, 40, 41, 42, 43, 44, 45] (by decide +kernel) (by decide +kernel)
set_option maxRecDepth 20000 in
theorem gX10_close_X0_takeIn : GoodIn wsX10_close (wsV RX10 140 RX0 yX0_takeIn wsX0_takeIn) := goodIn_app (goodIn_of _ (by decide +kernel)) ggX10_close_X0_takeIn
set_option maxRecDepth 20000 in
theorem ggX10_close_X0_bufferSize : GoodIn wsX10_close wsX0_bufferSize := goodIn_r _ [20, 21, 22, 23, 8, 24, 11, 25, 26, 27, 28, 29, 10, 40, 41, 42, 43, 44, 45, 46, 47, 48, 49, 50] (by decide +kernel) (by decide +kernel)
set_option maxRecDepth 20000 in
theorem gX10_close_X0_bufferSize : GoodIn wsX10_close (wsV RX10 143 RX0 yX0_bufferSize wsX0_bufferSize) := goodIn_app (goodIn_of _ (by decide +kernel)) ggX10_close_X0_bufferSize
theorem dX10_close_0 : decode cX10_close 0 = .ok (.aload_n 0, 1) := by decide +kernel
theorem dX10_close_1 : decode cX10_close 1 = .ok (.getfield 10, 3) := by decide +kernel
theorem dX10_close_4 : decode cX10_close 4 = .ok (.getfield 92, 3) := by decide +kernel
theorem dX10_close_7 : decode cX10_close 7 = .ok (.ifnonnull 13, 3) := by decide +kernel
theorem dX10_close_10 : decode cX10_close 10 = .ok (.new 100, 3) := by decide +kernel
theorem dX10_close_13 : decode cX10_close 13 = .ok (.dup, 1) := by decide +kernel
theorem dX10_close_14 : decode cX10_close 14 = .ok (.ldc 122, 2) := by decide +kernel
theorem dX10_close_16 : decode cX10_close 16 = .ok (.invokespecial 104, 3) := by decide +kernel
theorem dX10_close_19 : decode cX10_close 19 = .ok (.athrow, 1) := by decide +kernel
theorem dX10_close_20 : decode cX10_close 20 = .ok (.aload_n 0, 1) := by decide +kernel
theorem dX10_close_21 : decode cX10_close 21 = .ok (.getfield 10, 3) := by decide +kernel
theorem dX10_close_24 : decode cX10_close 24 = .ok (.invokevirtual 140, 3) := by decide +kernel
theorem dX10_close_27 : decode cX10_close 27 = .ok (.aload_n 0, 1) := by decide +kernel
theorem dX10_close_28 : decode cX10_close 28 = .ok (.getfield 10, 3) := by decide +kernel
theorem dX10_close_31 : decode cX10_close 31 = .ok (.invokevirtual 143, 3) := by decide +kernel
theorem dX10_close_34 : decode cX10_close 34 = .ok (.ireturn, 1) := by decide +kernel
set_option maxRecDepth 20000 in
theorem ggX10_remove_X0_documentAt : GoodIn wsX10_remove wsX0_documentAt := goodIn_r _ [9, 10, 11, 27, 28, 29, 30, 31, 32] (by decide +kernel) (by decide +kernel)
set_option maxRecDepth 20000 in
theorem gX10_remove_X0_documentAt : GoodIn wsX10_remove (wsV RX10 147 RX0 yX0_documentAt wsX0_documentAt) := goodIn_app (goodIn_of _ (by decide +kernel)) ggX10_remove_X0_documentAt
theorem dX10_remove_0 : decode cX10_remove 0 = .ok (.aload_n 0, 1) := by decide +kernel
theorem dX10_remove_1 : decode cX10_remove 1 = .ok (.getfield 10, 3) := by decide +kernel
theorem dX10_remove_4 : decode cX10_remove 4 = .ok (.iload_n 1, 1) := by decide +kernel
theorem dX10_remove_5 : decode cX10_remove 5 = .ok (.invokevirtual 147, 3) := by decide +kernel
theorem dX10_remove_8 : decode cX10_remove 8 = .ok (.astore_n 2, 1) := by decide +kernel
theorem dX10_remove_9 : decode cX10_remove 9 = .ok (.aload_n 2, 1) := by decide +kernel
theorem dX10_remove_10 : decode cX10_remove 10 = .ok (.ifnonnull 13, 3) := by decide +kernel
theorem dX10_remove_13 : decode cX10_remove 13 = .ok (.new 151, 3) := by decide +kernel
theorem dX10_remove_16 : decode cX10_remove 16 = .ok (.dup, 1) := by decide +kernel
theorem dX10_remove_17 : decode cX10_remove 17 = .ok (.ldc 153, 2) := by decide +kernel
theorem dX10_remove_19 : decode cX10_remove 19 = .ok (.invokespecial 155, 3) := by decide +kernel
theorem dX10_remove_22 : decode cX10_remove 22 = .ok (.athrow, 1) := by decide +kernel
theorem dX10_remove_23 : decode cX10_remove 23 = .ok (.aload_n 2, 1) := by decide +kernel
theorem dX10_remove_24 : decode cX10_remove 24 = .ok (.getfield 156, 3) := by decide +kernel
theorem dX10_remove_27 : decode cX10_remove 27 = .ok (.ifCond .ne 7, 3) := by decide +kernel
theorem dX10_remove_30 : decode cX10_remove 30 = .ok (.iconst 1, 1) := by decide +kernel
theorem dX10_remove_31 : decode cX10_remove 31 = .ok (.goto 4, 3) := by decide +kernel
theorem dX10_remove_34 : decode cX10_remove 34 = .ok (.iconst 0, 1) := by decide +kernel
theorem dX10_remove_35 : decode cX10_remove 35 = .ok (.istore_n 3, 1) := by decide +kernel
theorem dX10_remove_36 : decode cX10_remove 36 = .ok (.aload_n 2, 1) := by decide +kernel
theorem dX10_remove_37 : decode cX10_remove 37 = .ok (.iconst 1, 1) := by decide +kernel
theorem dX10_remove_38 : decode cX10_remove 38 = .ok (.putfield 156, 3) := by decide +kernel
theorem dX10_remove_41 : decode cX10_remove 41 = .ok (.iload_n 3, 1) := by decide +kernel
theorem dX10_remove_42 : decode cX10_remove 42 = .ok (.ireturn, 1) := by decide +kernel
theorem dX10_documents_0 : decode cX10_documents 0 = .ok (.aload_n 0, 1) := by decide +kernel
theorem dX10_documents_1 : decode cX10_documents 1 = .ok (.getfield 10, 3) := by decide +kernel
theorem dX10_documents_4 : decode cX10_documents 4 = .ok (.getfield 110, 3) := by decide +kernel
theorem dX10_documents_7 : decode cX10_documents 7 = .ok (.ireturn, 1) := by decide +kernel
set_option maxRecDepth 20000 in
theorem ggX10_stateOf_X0_documentAt : GoodIn wsX10_stateOf wsX0_documentAt := goodIn_r _ [8, 9, 10, 32, 33, 34, 35, 36, 37] (by decide +kernel) (by decide +kernel)
set_option maxRecDepth 20000 in
theorem gX10_stateOf_X0_documentAt : GoodIn wsX10_stateOf (wsV RX10 147 RX0 yX0_documentAt wsX0_documentAt) := goodIn_app (goodIn_of _ (by decide +kernel)) ggX10_stateOf_X0_documentAt
set_option maxRecDepth 20000 in
theorem ggX10_stateOf_X2_state : GoodIn wsX10_stateOf wsX2_state := goodIn_r _ [15, 16, 17, 18, 19, 14, 20, 21, 38, 39, 40, 41, 42] (by decide +kernel) (by decide +kernel)
set_option maxRecDepth 20000 in
theorem gX10_stateOf_X2_state : GoodIn wsX10_stateOf (wsV RX10 186 RX2 yX2_state wsX2_state) := goodIn_app (goodIn_of _ (by decide +kernel)) ggX10_stateOf_X2_state
theorem dX10_stateOf_0 : decode cX10_stateOf 0 = .ok (.aload_n 0, 1) := by decide +kernel
theorem dX10_stateOf_1 : decode cX10_stateOf 1 = .ok (.getfield 10, 3) := by decide +kernel
theorem dX10_stateOf_4 : decode cX10_stateOf 4 = .ok (.iload_n 1, 1) := by decide +kernel
theorem dX10_stateOf_5 : decode cX10_stateOf 5 = .ok (.invokevirtual 147, 3) := by decide +kernel
theorem dX10_stateOf_8 : decode cX10_stateOf 8 = .ok (.astore_n 2, 1) := by decide +kernel
theorem dX10_stateOf_9 : decode cX10_stateOf 9 = .ok (.aload_n 2, 1) := by decide +kernel
theorem dX10_stateOf_10 : decode cX10_stateOf 10 = .ok (.ifnonnull 13, 3) := by decide +kernel
theorem dX10_stateOf_13 : decode cX10_stateOf 13 = .ok (.new 151, 3) := by decide +kernel
theorem dX10_stateOf_16 : decode cX10_stateOf 16 = .ok (.dup, 1) := by decide +kernel
theorem dX10_stateOf_17 : decode cX10_stateOf 17 = .ok (.ldc 153, 2) := by decide +kernel
theorem dX10_stateOf_19 : decode cX10_stateOf 19 = .ok (.invokespecial 155, 3) := by decide +kernel
theorem dX10_stateOf_22 : decode cX10_stateOf 22 = .ok (.athrow, 1) := by decide +kernel
theorem dX10_stateOf_23 : decode cX10_stateOf 23 = .ok (.aload_n 2, 1) := by decide +kernel
theorem dX10_stateOf_24 : decode cX10_stateOf 24 = .ok (.invokevirtual 186, 3) := by decide +kernel
theorem dX10_stateOf_27 : decode cX10_stateOf 27 = .ok (.ireturn, 1) := by decide +kernel
set_option maxRecDepth 20000 in
theorem ggX10_flush_X0_flushBuffer : GoodIn wsX10_flush wsX0_flushBuffer := goodIn_r _ [6, 7, 8, 9, 10, 5, 11, 12, 13, 14, 15, 16, 17, 18, 19, 20, 21, 22, 23, 24, 25, 26, 27, 28, 29, 30, 31, 32, 33, 34, 35, 36, 37, 38, 39, 40, 41, 42, 43, 44, 45, 46, 47, 48, 49, 50, 51, 52, 53, 54, 55, 56, 57, 58, 59, 60, 61, 62, 63, 64, 65, 66, 67, 68, 69, 70, 71, 72, 73, 74, 75, 76, 77, 78, 79, 80, 81, 82, 83, 84, 85, 86, 87, 88, 99, 100, 101, 102, 103, 104, 105, 106, 107, 108, 109, 110, 111, 112, 113, 114, 115, 116, 117] (by decide +kernel) (by decide +kernel)
set_option maxRecDepth 20000 in
theorem gX10_flush_X0_flushBuffer : GoodIn wsX10_flush (wsV RX10 194 RX0 yX0_flushBuffer wsX0_flushBuffer) := goodIn_app (goodIn_of _ (by decide +kernel)) ggX10_flush_X0_flushBuffer
theorem dX10_flush_0 : decode cX10_flush 0 = .ok (.aload_n 0, 1) := by decide +kernel
theorem dX10_flush_1 : decode cX10_flush 1 = .ok (.getfield 10, 3) := by decide +kernel
theorem dX10_flush_4 : decode cX10_flush 4 = .ok (.invokevirtual 194, 3) := by decide +kernel
theorem dX10_flush_7 : decode cX10_flush 7 = .ok (.ireturn, 1) := by decide +kernel
set_option maxRecDepth 20000 in
theorem ggX10_compact_X0_mergeAll : GoodIn wsX10_compact wsX0_mergeAll := goodIn_r _ [6, 7, 8, 9, 10, 11, 12, 13, 14, 5, 15, 16, 17, 18, 19, 20, 21, 22, 23, 24, 25, 26, 27, 28, 29, 30, 31, 32, 33, 34, 35, 36, 37, 38, 39, 40, 41, 42, 43, 44, 45, 46, 47, 48, 49, 50, 51, 52, 53, 54, 55, 56, 57, 58, 59, 60, 61, 62, 63, 64, 65, 66, 67, 68, 69, 70, 71, 72, 73, 74, 75, 76, 87, 88, 89, 90, 91, 92, 93, 94, 95, 96, 97, 98, 99, 100, 101, 102, 103, 104, 105] (by decide +kernel) (by decide +kernel)
set_option maxRecDepth 20000 in
theorem gX10_compact_X0_mergeAll : GoodIn wsX10_compact (wsV RX10 197 RX0 yX0_mergeAll wsX0_mergeAll) := goodIn_app (goodIn_of _ (by decide +kernel)) ggX10_compact_X0_mergeAll
theorem dX10_compact_0 : decode cX10_compact 0 = .ok (.aload_n 0, 1) := by decide +kernel
theorem dX10_compact_1 : decode cX10_compact 1 = .ok (.getfield 10, 3) := by decide +kernel
theorem dX10_compact_4 : decode cX10_compact 4 = .ok (.invokevirtual 197, 3) := by decide +kernel
theorem dX10_compact_7 : decode cX10_compact 7 = .ok (.ireturn, 1) := by decide +kernel
theorem dX10_segments_0 : decode cX10_segments 0 = .ok (.aload_n 0, 1) := by decide +kernel
theorem dX10_segments_1 : decode cX10_segments 1 = .ok (.getfield 10, 3) := by decide +kernel
theorem dX10_segments_4 : decode cX10_segments 4 = .ok (.getfield 200, 3) := by decide +kernel
theorem dX10_segments_7 : decode cX10_segments 7 = .ok (.ireturn, 1) := by decide +kernel
set_option maxRecDepth 20000 in
theorem ggX10_tierOf_X0_hasSegment : GoodIn wsX10_tierOf wsX0_hasSegment := goodIn_r _ [8, 9, 26, 27, 28, 29, 30, 31] (by decide +kernel) (by decide +kernel)
set_option maxRecDepth 20000 in
theorem gX10_tierOf_X0_hasSegment : GoodIn wsX10_tierOf (wsV RX10 203 RX0 yX0_hasSegment wsX0_hasSegment) := goodIn_app (goodIn_of _ (by decide +kernel)) ggX10_tierOf_X0_hasSegment
set_option maxRecDepth 20000 in
theorem ggX10_tierOf_X0_tierAt : GoodIn wsX10_tierOf wsX0_tierAt := goodIn_r _ [13, 14, 15, 5, 6, 7, 8, 9, 26, 27, 28, 29, 30, 31] (by decide +kernel) (by decide +kernel)
set_option maxRecDepth 20000 in
theorem gX10_tierOf_X0_tierAt : GoodIn wsX10_tierOf (wsV RX10 208 RX0 yX0_tierAt wsX0_tierAt) := goodIn_app (goodIn_of _ (by decide +kernel)) ggX10_tierOf_X0_tierAt
theorem dX10_tierOf_0 : decode cX10_tierOf 0 = .ok (.aload_n 0, 1) := by decide +kernel
theorem dX10_tierOf_1 : decode cX10_tierOf 1 = .ok (.getfield 10, 3) := by decide +kernel
theorem dX10_tierOf_4 : decode cX10_tierOf 4 = .ok (.iload_n 1, 1) := by decide +kernel
theorem dX10_tierOf_5 : decode cX10_tierOf 5 = .ok (.invokevirtual 203, 3) := by decide +kernel
theorem dX10_tierOf_8 : decode cX10_tierOf 8 = .ok (.ifCond .ne 13, 3) := by decide +kernel
theorem dX10_tierOf_11 : decode cX10_tierOf 11 = .ok (.new 151, 3) := by decide +kernel
theorem dX10_tierOf_14 : decode cX10_tierOf 14 = .ok (.dup, 1) := by decide +kernel
theorem dX10_tierOf_15 : decode cX10_tierOf 15 = .ok (.ldc 206, 2) := by decide +kernel
theorem dX10_tierOf_17 : decode cX10_tierOf 17 = .ok (.invokespecial 155, 3) := by decide +kernel
theorem dX10_tierOf_20 : decode cX10_tierOf 20 = .ok (.athrow, 1) := by decide +kernel
theorem dX10_tierOf_21 : decode cX10_tierOf 21 = .ok (.aload_n 0, 1) := by decide +kernel
theorem dX10_tierOf_22 : decode cX10_tierOf 22 = .ok (.getfield 10, 3) := by decide +kernel
theorem dX10_tierOf_25 : decode cX10_tierOf 25 = .ok (.iload_n 1, 1) := by decide +kernel
theorem dX10_tierOf_26 : decode cX10_tierOf 26 = .ok (.invokevirtual 208, 3) := by decide +kernel
theorem dX10_tierOf_29 : decode cX10_tierOf 29 = .ok (.ireturn, 1) := by decide +kernel
set_option maxRecDepth 20000 in
theorem ggX10_sizeOf_X0_hasSegment : GoodIn wsX10_sizeOf wsX0_hasSegment := goodIn_r _ [8, 9, 31, 32, 33, 34, 35, 36] (by decide +kernel) (by decide +kernel)
set_option maxRecDepth 20000 in
theorem gX10_sizeOf_X0_hasSegment : GoodIn wsX10_sizeOf (wsV RX10 203 RX0 yX0_hasSegment wsX0_hasSegment) := goodIn_app (goodIn_of _ (by decide +kernel)) ggX10_sizeOf_X0_hasSegment
set_option maxRecDepth 20000 in
theorem ggX10_sizeOf_X0_countAt : GoodIn wsX10_sizeOf wsX0_countAt := goodIn_r _ [13, 14, 15, 16, 17, 18, 7, 19, 20, 31, 32, 33, 34, 35, 36, 37, 38, 39, 40, 41] (by decide +kernel) (by decide +kernel)
set_option maxRecDepth 20000 in
theorem gX10_sizeOf_X0_countAt : GoodIn wsX10_sizeOf (wsV RX10 211 RX0 yX0_countAt wsX0_countAt) := goodIn_app (goodIn_of _ (by decide +kernel)) ggX10_sizeOf_X0_countAt
theorem dX10_sizeOf_0 : decode cX10_sizeOf 0 = .ok (.aload_n 0, 1) := by decide +kernel
theorem dX10_sizeOf_1 : decode cX10_sizeOf 1 = .ok (.getfield 10, 3) := by decide +kernel
theorem dX10_sizeOf_4 : decode cX10_sizeOf 4 = .ok (.iload_n 1, 1) := by decide +kernel
theorem dX10_sizeOf_5 : decode cX10_sizeOf 5 = .ok (.invokevirtual 203, 3) := by decide +kernel
theorem dX10_sizeOf_8 : decode cX10_sizeOf 8 = .ok (.ifCond .ne 13, 3) := by decide +kernel
theorem dX10_sizeOf_11 : decode cX10_sizeOf 11 = .ok (.new 151, 3) := by decide +kernel
theorem dX10_sizeOf_14 : decode cX10_sizeOf 14 = .ok (.dup, 1) := by decide +kernel
theorem dX10_sizeOf_15 : decode cX10_sizeOf 15 = .ok (.ldc 206, 2) := by decide +kernel
theorem dX10_sizeOf_17 : decode cX10_sizeOf 17 = .ok (.invokespecial 155, 3) := by decide +kernel
theorem dX10_sizeOf_20 : decode cX10_sizeOf 20 = .ok (.athrow, 1) := by decide +kernel
theorem dX10_sizeOf_21 : decode cX10_sizeOf 21 = .ok (.aload_n 0, 1) := by decide +kernel
theorem dX10_sizeOf_22 : decode cX10_sizeOf 22 = .ok (.getfield 10, 3) := by decide +kernel
theorem dX10_sizeOf_25 : decode cX10_sizeOf 25 = .ok (.iload_n 1, 1) := by decide +kernel
theorem dX10_sizeOf_26 : decode cX10_sizeOf 26 = .ok (.invokevirtual 211, 3) := by decide +kernel
theorem dX10_sizeOf_29 : decode cX10_sizeOf 29 = .ok (.ireturn, 1) := by decide +kernel
set_option maxRecDepth 20000 in
theorem ggX10_term_X10_isTerm : GoodIn wsX10_term wsX10_isTerm := goodIn_r _ [14] (by decide +kernel) (by decide +kernel)
set_option maxRecDepth 20000 in
theorem gX10_term_X10_isTerm : GoodIn wsX10_term (va_wsS RX10 117 yX10_isTerm wsX10_isTerm) := goodIn_app (goodIn_of _ (by decide +kernel)) ggX10_term_X10_isTerm
set_option maxRecDepth 20000 in
theorem ggX10_term_X10_isSetOf : GoodIn wsX10_term wsX10_isSetOf := goodIn_r _ [17] (by decide +kernel) (by decide +kernel)
set_option maxRecDepth 20000 in
theorem gX10_term_X10_isSetOf : GoodIn wsX10_term (va_wsS RX10 223 yX10_isSetOf wsX10_isSetOf) := goodIn_app (goodIn_of _ (by decide +kernel)) ggX10_term_X10_isSetOf
set_option maxRecDepth 20000 in
theorem ggX10_term_X6_isFull : GoodIn wsX10_term wsX6_isFull := goodIn_r _ [22, 23, 24, 60, 61, 62, 63, 64] (by decide +kernel) (by decide +kernel)
set_option maxRecDepth 20000 in
theorem gX10_term_X6_isFull : GoodIn wsX10_term (wsV RX10 229 RX6 yX6_isFull wsX6_isFull) := goodIn_app (goodIn_of _ (by decide +kernel)) ggX10_term_X6_isFull
set_option maxRecDepth 20000 in
theorem ggX10_term_X5_init : GoodIn wsX10_term wsX5_init := goodIn_r _ [27, 28, 29, 30, 31, 47, 48, 49, 50, 51, 52, 53, 54, 55, 56, 57, 58, 59] (by decide +kernel) (by decide +kernel)
set_option maxRecDepth 20000 in
theorem gX10_term_X5_init : GoodIn wsX10_term (wsX5_init) := ggX10_term_X5_init
set_option maxRecDepth 20000 in
theorem ggX10_term_X6_append : GoodIn wsX10_term wsX6_append := goodIn_r _ [35, 23, 24, 36, 19, 20, 21, 22, 60, 61, 62, 63, 64] (by decide +kernel) (by decide +kernel)
set_option maxRecDepth 20000 in
theorem gX10_term_X6_append : GoodIn wsX10_term (wsV RX10 242 RX6 yX6_append wsX6_append) := goodIn_app (goodIn_of _ (by decide +kernel)) ggX10_term_X6_append
theorem dX10_term_0 : decode cX10_term 0 = .ok (.iload_n 1, 1) := by decide +kernel
theorem dX10_term_1 : decode cX10_term 1 = .ok (.invokestatic 117, 3) := by decide +kernel
theorem dX10_term_4 : decode cX10_term 4 = .ok (.ifCond .eq 11, 3) := by decide +kernel
theorem dX10_term_7 : decode cX10_term 7 = .ok (.iconst 3, 1) := by decide +kernel
theorem dX10_term_8 : decode cX10_term 8 = .ok (.iload_n 2, 1) := by decide +kernel
theorem dX10_term_9 : decode cX10_term 9 = .ok (.invokestatic 223, 3) := by decide +kernel
theorem dX10_term_12 : decode cX10_term 12 = .ok (.ifCond .ne 13, 3) := by decide +kernel
theorem dX10_term_15 : decode cX10_term 15 = .ok (.new 85, 3) := by decide +kernel
theorem dX10_term_18 : decode cX10_term 18 = .ok (.dup, 1) := by decide +kernel
theorem dX10_term_19 : decode cX10_term 19 = .ok (.ldc 227, 2) := by decide +kernel
theorem dX10_term_21 : decode cX10_term 21 = .ok (.invokespecial 89, 3) := by decide +kernel
theorem dX10_term_24 : decode cX10_term 24 = .ok (.athrow, 1) := by decide +kernel
theorem dX10_term_25 : decode cX10_term 25 = .ok (.aload_n 0, 1) := by decide +kernel
theorem dX10_term_26 : decode cX10_term 26 = .ok (.getfield 28, 3) := by decide +kernel
theorem dX10_term_29 : decode cX10_term 29 = .ok (.invokevirtual 229, 3) := by decide +kernel
theorem dX10_term_32 : decode cX10_term 32 = .ok (.ifCond .eq 13, 3) := by decide +kernel
theorem dX10_term_35 : decode cX10_term 35 = .ok (.new 100, 3) := by decide +kernel
theorem dX10_term_38 : decode cX10_term 38 = .ok (.dup, 1) := by decide +kernel
theorem dX10_term_39 : decode cX10_term 39 = .ok (.ldc 230, 2) := by decide +kernel
theorem dX10_term_41 : decode cX10_term 41 = .ok (.invokespecial 104, 3) := by decide +kernel
theorem dX10_term_44 : decode cX10_term 44 = .ok (.athrow, 1) := by decide +kernel
theorem dX10_term_45 : decode cX10_term 45 = .ok (.new 232, 3) := by decide +kernel
theorem dX10_term_48 : decode cX10_term 48 = .ok (.dup, 1) := by decide +kernel
theorem dX10_term_49 : decode cX10_term 49 = .ok (.iconst 0, 1) := by decide +kernel
theorem dX10_term_50 : decode cX10_term 50 = .ok (.invokespecial 234, 3) := by decide +kernel
theorem dX10_term_53 : decode cX10_term 53 = .ok (.astore_n 3, 1) := by decide +kernel
theorem dX10_term_54 : decode cX10_term 54 = .ok (.aload_n 3, 1) := by decide +kernel
theorem dX10_term_55 : decode cX10_term 55 = .ok (.iload_n 1, 1) := by decide +kernel
theorem dX10_term_56 : decode cX10_term 56 = .ok (.putfield 236, 3) := by decide +kernel
theorem dX10_term_59 : decode cX10_term 59 = .ok (.aload_n 3, 1) := by decide +kernel
theorem dX10_term_60 : decode cX10_term 60 = .ok (.iload_n 2, 1) := by decide +kernel
theorem dX10_term_61 : decode cX10_term 61 = .ok (.putfield 239, 3) := by decide +kernel
theorem dX10_term_64 : decode cX10_term 64 = .ok (.aload_n 0, 1) := by decide +kernel
theorem dX10_term_65 : decode cX10_term 65 = .ok (.getfield 28, 3) := by decide +kernel
theorem dX10_term_68 : decode cX10_term 68 = .ok (.aload_n 3, 1) := by decide +kernel
theorem dX10_term_69 : decode cX10_term 69 = .ok (.invokevirtual 242, 3) := by decide +kernel
theorem dX10_term_72 : decode cX10_term 72 = .ok (.ireturn, 1) := by decide +kernel
set_option maxRecDepth 20000 in
theorem ggX10_and_X10_appendPair : GoodIn wsX10_and wsX10_appendPair := goodIn_ca (goodIn_ca (goodIn_r _ [5, 6, 7, 8, 9, 10, 11, 12, 13, 14, 15, 16, 17, 18, 19, 20, 21, 22, 23, 24, 25, 26, 27, 28, 29, 30, 31, 32, 33, 34, 35, 36, 37, 38, 39, 40, 41, 42, 43, 44, 45, 46, 47, 48, 49, 50, 51, 52, 53, 54, 55, 56, 57, 58, 59, 60, 61, 62, 63, 64, 65, 66, 67, 68, 69, 70] (by decide +kernel) (by decide +kernel)) (goodIn_sub (fun _ h => List.mem_cons_of_mem _ (List.mem_append_left _ (List.mem_append_right _ h))) (by decide +kernel))) (goodIn_sub (fun _ h => List.mem_cons_of_mem _ (List.mem_append_right _ h)) (by decide +kernel))
set_option maxRecDepth 20000 in
theorem gX10_and_X10_appendPair : GoodIn wsX10_and (wsV RX10 245 RX10 yX10_appendPair wsX10_appendPair) := goodIn_app (goodIn_of _ (by decide +kernel)) ggX10_and_X10_appendPair
theorem dX10_and_0 : decode cX10_and 0 = .ok (.aload_n 0, 1) := by decide +kernel
theorem dX10_and_1 : decode cX10_and 1 = .ok (.iconst 1, 1) := by decide +kernel
theorem dX10_and_2 : decode cX10_and 2 = .ok (.iload_n 1, 1) := by decide +kernel
theorem dX10_and_3 : decode cX10_and 3 = .ok (.iload_n 2, 1) := by decide +kernel
theorem dX10_and_4 : decode cX10_and 4 = .ok (.invokevirtual 245, 3) := by decide +kernel
theorem dX10_and_7 : decode cX10_and 7 = .ok (.ireturn, 1) := by decide +kernel
set_option maxRecDepth 20000 in
theorem ggX10_or_X10_appendPair : GoodIn wsX10_or wsX10_appendPair := goodIn_ca (goodIn_ca (goodIn_r _ [5, 6, 7, 8, 9, 10, 11, 12, 13, 14, 15, 16, 17, 18, 19, 20, 21, 22, 23, 24, 25, 26, 27, 28, 29, 30, 31, 32, 33, 34, 35, 36, 37, 38, 39, 40, 41, 42, 43, 44, 45, 46, 47, 48, 49, 50, 51, 52, 53, 54, 55, 56, 57, 58, 59, 60, 61, 62, 63, 64, 65, 66, 67, 68, 69, 70] (by decide +kernel) (by decide +kernel)) (goodIn_sub (fun _ h => List.mem_cons_of_mem _ (List.mem_append_left _ (List.mem_append_right _ h))) (by decide +kernel))) (goodIn_sub (fun _ h => List.mem_cons_of_mem _ (List.mem_append_right _ h)) (by decide +kernel))
set_option maxRecDepth 20000 in
theorem gX10_or_X10_appendPair : GoodIn wsX10_or (wsV RX10 245 RX10 yX10_appendPair wsX10_appendPair) := goodIn_app (goodIn_of _ (by decide +kernel)) ggX10_or_X10_appendPair
theorem dX10_or_0 : decode cX10_or 0 = .ok (.aload_n 0, 1) := by decide +kernel
theorem dX10_or_1 : decode cX10_or 1 = .ok (.iconst 2, 1) := by decide +kernel
theorem dX10_or_2 : decode cX10_or 2 = .ok (.iload_n 1, 1) := by decide +kernel
theorem dX10_or_3 : decode cX10_or 3 = .ok (.iload_n 2, 1) := by decide +kernel
theorem dX10_or_4 : decode cX10_or 4 = .ok (.invokevirtual 245, 3) := by decide +kernel
theorem dX10_or_7 : decode cX10_or 7 = .ok (.ireturn, 1) := by decide +kernel
set_option maxRecDepth 20000 in
theorem ggX10_not_X10_appendPair : GoodIn wsX10_not wsX10_appendPair := goodIn_ca (goodIn_ca (goodIn_r _ [5, 6, 7, 8, 9, 10, 11, 12, 13, 14, 15, 16, 17, 18, 19, 20, 21, 22, 23, 24, 25, 26, 27, 28, 29, 30, 31, 32, 33, 34, 35, 36, 37, 38, 39, 40, 41, 42, 43, 44, 45, 46, 47, 48, 49, 50, 51, 52, 53, 54, 55, 56, 57, 58, 59, 60, 61, 62, 63, 64, 65, 66, 67, 68, 69, 70] (by decide +kernel) (by decide +kernel)) (goodIn_sub (fun _ h => List.mem_cons_of_mem _ (List.mem_append_left _ (List.mem_append_right _ h))) (by decide +kernel))) (goodIn_sub (fun _ h => List.mem_cons_of_mem _ (List.mem_append_right _ h)) (by decide +kernel))
set_option maxRecDepth 20000 in
theorem gX10_not_X10_appendPair : GoodIn wsX10_not (wsV RX10 245 RX10 yX10_appendPair wsX10_appendPair) := goodIn_app (goodIn_of _ (by decide +kernel)) ggX10_not_X10_appendPair
theorem dX10_not_0 : decode cX10_not 0 = .ok (.aload_n 0, 1) := by decide +kernel
theorem dX10_not_1 : decode cX10_not 1 = .ok (.iconst 3, 1) := by decide +kernel
theorem dX10_not_2 : decode cX10_not 2 = .ok (.iload_n 1, 1) := by decide +kernel
theorem dX10_not_3 : decode cX10_not 3 = .ok (.iload_n 2, 1) := by decide +kernel
theorem dX10_not_4 : decode cX10_not 4 = .ok (.invokevirtual 245, 3) := by decide +kernel
theorem dX10_not_7 : decode cX10_not 7 = .ok (.ireturn, 1) := by decide +kernel
set_option maxRecDepth 20000 in
theorem ggX10_appendPair_X6_hasNode : GoodIn wsX10_appendPair wsX6_hasNode := goodIn_r _ [15, 16, 17, 18, 14, 19, 20, 21, 61, 62, 63, 64, 65] (by decide +kernel) (by decide +kernel)
set_option maxRecDepth 20000 in
theorem gX10_appendPair_X6_hasNode : GoodIn wsX10_appendPair (wsV RX10 249 RX6 yX6_hasNode wsX6_hasNode) := goodIn_app (goodIn_of _ (by decide +kernel)) ggX10_appendPair_X6_hasNode
set_option maxRecDepth 20000 in
theorem ggX10_appendPair_X6_isFull : GoodIn wsX10_appendPair wsX6_isFull := goodIn_r _ [25, 20, 21, 61, 62, 63, 64, 65] (by decide +kernel) (by decide +kernel)
set_option maxRecDepth 20000 in
theorem gX10_appendPair_X6_isFull : GoodIn wsX10_appendPair (wsV RX10 229 RX6 yX6_isFull wsX6_isFull) := goodIn_app (goodIn_of _ (by decide +kernel)) ggX10_appendPair_X6_isFull
set_option maxRecDepth 20000 in
theorem ggX10_appendPair_X5_init : GoodIn wsX10_appendPair wsX5_init := goodIn_r _ [28, 29, 30, 31, 32, 48, 49, 50, 51, 52, 53, 54, 55, 56, 57, 58, 59, 60] (by decide +kernel) (by decide +kernel)
set_option maxRecDepth 20000 in
theorem gX10_appendPair_X5_init : GoodIn wsX10_appendPair (wsX5_init) := ggX10_appendPair_X5_init
set_option maxRecDepth 20000 in
theorem ggX10_appendPair_X6_append : GoodIn wsX10_appendPair wsX6_append := goodIn_r _ [36, 20, 21, 37, 23, 24, 14, 25, 61, 62, 63, 64, 65] (by decide +kernel) (by decide +kernel)
set_option maxRecDepth 20000 in
theorem gX10_appendPair_X6_append : GoodIn wsX10_appendPair (wsV RX10 242 RX6 yX6_append wsX6_append) := goodIn_app (goodIn_of _ (by decide +kernel)) ggX10_appendPair_X6_append
theorem dX10_appendPair_0 : decode cX10_appendPair 0 = .ok (.aload_n 0, 1) := by decide +kernel
theorem dX10_appendPair_1 : decode cX10_appendPair 1 = .ok (.getfield 28, 3) := by decide +kernel
theorem dX10_appendPair_4 : decode cX10_appendPair 4 = .ok (.iload_n 2, 1) := by decide +kernel
theorem dX10_appendPair_5 : decode cX10_appendPair 5 = .ok (.invokevirtual 249, 3) := by decide +kernel
theorem dX10_appendPair_8 : decode cX10_appendPair 8 = .ok (.ifCond .eq 14, 3) := by decide +kernel
theorem dX10_appendPair_11 : decode cX10_appendPair 11 = .ok (.aload_n 0, 1) := by decide +kernel
theorem dX10_appendPair_12 : decode cX10_appendPair 12 = .ok (.getfield 28, 3) := by decide +kernel
theorem dX10_appendPair_15 : decode cX10_appendPair 15 = .ok (.iload_n 3, 1) := by decide +kernel
theorem dX10_appendPair_16 : decode cX10_appendPair 16 = .ok (.invokevirtual 249, 3) := by decide +kernel
theorem dX10_appendPair_19 : decode cX10_appendPair 19 = .ok (.ifCond .ne 13, 3) := by decide +kernel
theorem dX10_appendPair_22 : decode cX10_appendPair 22 = .ok (.new 151, 3) := by decide +kernel
theorem dX10_appendPair_25 : decode cX10_appendPair 25 = .ok (.dup, 1) := by decide +kernel
theorem dX10_appendPair_26 : decode cX10_appendPair 26 = .ok (.ldc 252, 2) := by decide +kernel
theorem dX10_appendPair_28 : decode cX10_appendPair 28 = .ok (.invokespecial 155, 3) := by decide +kernel
theorem dX10_appendPair_31 : decode cX10_appendPair 31 = .ok (.athrow, 1) := by decide +kernel
theorem dX10_appendPair_32 : decode cX10_appendPair 32 = .ok (.aload_n 0, 1) := by decide +kernel
theorem dX10_appendPair_33 : decode cX10_appendPair 33 = .ok (.getfield 28, 3) := by decide +kernel
theorem dX10_appendPair_36 : decode cX10_appendPair 36 = .ok (.invokevirtual 229, 3) := by decide +kernel
theorem dX10_appendPair_39 : decode cX10_appendPair 39 = .ok (.ifCond .eq 13, 3) := by decide +kernel
theorem dX10_appendPair_42 : decode cX10_appendPair 42 = .ok (.new 100, 3) := by decide +kernel
theorem dX10_appendPair_45 : decode cX10_appendPair 45 = .ok (.dup, 1) := by decide +kernel
theorem dX10_appendPair_46 : decode cX10_appendPair 46 = .ok (.ldc 230, 2) := by decide +kernel
theorem dX10_appendPair_48 : decode cX10_appendPair 48 = .ok (.invokespecial 104, 3) := by decide +kernel
theorem dX10_appendPair_51 : decode cX10_appendPair 51 = .ok (.athrow, 1) := by decide +kernel
theorem dX10_appendPair_52 : decode cX10_appendPair 52 = .ok (.new 232, 3) := by decide +kernel
theorem dX10_appendPair_55 : decode cX10_appendPair 55 = .ok (.dup, 1) := by decide +kernel
theorem dX10_appendPair_56 : decode cX10_appendPair 56 = .ok (.iload_n 1, 1) := by decide +kernel
theorem dX10_appendPair_57 : decode cX10_appendPair 57 = .ok (.invokespecial 234, 3) := by decide +kernel
theorem dX10_appendPair_60 : decode cX10_appendPair 60 = .ok (.astore 4, 2) := by decide +kernel
theorem dX10_appendPair_62 : decode cX10_appendPair 62 = .ok (.aload 4, 2) := by decide +kernel
theorem dX10_appendPair_64 : decode cX10_appendPair 64 = .ok (.iload_n 2, 1) := by decide +kernel
theorem dX10_appendPair_65 : decode cX10_appendPair 65 = .ok (.putfield 254, 3) := by decide +kernel
theorem dX10_appendPair_68 : decode cX10_appendPair 68 = .ok (.aload 4, 2) := by decide +kernel
theorem dX10_appendPair_70 : decode cX10_appendPair 70 = .ok (.iload_n 3, 1) := by decide +kernel
theorem dX10_appendPair_71 : decode cX10_appendPair 71 = .ok (.putfield 257, 3) := by decide +kernel
theorem dX10_appendPair_74 : decode cX10_appendPair 74 = .ok (.aload_n 0, 1) := by decide +kernel
theorem dX10_appendPair_75 : decode cX10_appendPair 75 = .ok (.getfield 28, 3) := by decide +kernel
theorem dX10_appendPair_78 : decode cX10_appendPair 78 = .ok (.aload 4, 2) := by decide +kernel
theorem dX10_appendPair_80 : decode cX10_appendPair 80 = .ok (.invokevirtual 242, 3) := by decide +kernel
theorem dX10_appendPair_83 : decode cX10_appendPair 83 = .ok (.ireturn, 1) := by decide +kernel
set_option maxRecDepth 20000 in
theorem ggX10_near_X6_nodeAt : GoodIn wsX10_near wsX6_nodeAt := goodIn_r _ [20, 21, 22, 62, 63, 64, 65, 66] (by decide +kernel) (by decide +kernel)
set_option maxRecDepth 20000 in
theorem gX10_near_X6_nodeAt : GoodIn wsX10_near (wsV RX10 260 RX6 yX6_nodeAt wsX6_nodeAt) := goodIn_app (goodIn_of _ (by decide +kernel)) ggX10_near_X6_nodeAt
set_option maxRecDepth 20000 in
theorem ggX10_near_X6_isFull : GoodIn wsX10_near wsX6_isFull := goodIn_r _ [26, 21, 22, 62, 63, 64, 65, 66] (by decide +kernel) (by decide +kernel)
set_option maxRecDepth 20000 in
theorem gX10_near_X6_isFull : GoodIn wsX10_near (wsV RX10 229 RX6 yX6_isFull wsX6_isFull) := goodIn_app (goodIn_of _ (by decide +kernel)) ggX10_near_X6_isFull
set_option maxRecDepth 20000 in
theorem ggX10_near_X5_init : GoodIn wsX10_near wsX5_init := goodIn_r _ [29, 30, 31, 32, 33, 49, 50, 51, 52, 53, 54, 55, 56, 57, 58, 59, 60, 61] (by decide +kernel) (by decide +kernel)
set_option maxRecDepth 20000 in
theorem gX10_near_X5_init : GoodIn wsX10_near (wsX5_init) := ggX10_near_X5_init
set_option maxRecDepth 20000 in
theorem ggX10_near_X6_append : GoodIn wsX10_near wsX6_append := goodIn_r _ [37, 21, 22, 38, 24, 25, 19, 26, 62, 63, 64, 65, 66] (by decide +kernel) (by decide +kernel)
set_option maxRecDepth 20000 in
theorem gX10_near_X6_append : GoodIn wsX10_near (wsV RX10 242 RX6 yX6_append wsX6_append) := goodIn_app (goodIn_of _ (by decide +kernel)) ggX10_near_X6_append
theorem dX10_near_0 : decode cX10_near 0 = .ok (.aload_n 0, 1) := by decide +kernel
theorem dX10_near_1 : decode cX10_near 1 = .ok (.getfield 28, 3) := by decide +kernel
theorem dX10_near_4 : decode cX10_near 4 = .ok (.iload_n 1, 1) := by decide +kernel
theorem dX10_near_5 : decode cX10_near 5 = .ok (.invokevirtual 260, 3) := by decide +kernel
theorem dX10_near_8 : decode cX10_near 8 = .ok (.astore 5, 2) := by decide +kernel
theorem dX10_near_10 : decode cX10_near 10 = .ok (.aload_n 0, 1) := by decide +kernel
theorem dX10_near_11 : decode cX10_near 11 = .ok (.getfield 28, 3) := by decide +kernel
theorem dX10_near_14 : decode cX10_near 14 = .ok (.iload_n 2, 1) := by decide +kernel
theorem dX10_near_15 : decode cX10_near 15 = .ok (.invokevirtual 260, 3) := by decide +kernel
theorem dX10_near_18 : decode cX10_near 18 = .ok (.astore 6, 2) := by decide +kernel
theorem dX10_near_20 : decode cX10_near 20 = .ok (.aload 5, 2) := by decide +kernel
theorem dX10_near_22 : decode cX10_near 22 = .ok (.ifnull 8, 3) := by decide +kernel
theorem dX10_near_25 : decode cX10_near 25 = .ok (.aload 6, 2) := by decide +kernel
theorem dX10_near_27 : decode cX10_near 27 = .ok (.ifnonnull 13, 3) := by decide +kernel
theorem dX10_near_30 : decode cX10_near 30 = .ok (.new 151, 3) := by decide +kernel
theorem dX10_near_33 : decode cX10_near 33 = .ok (.dup, 1) := by decide +kernel
theorem dX10_near_34 : decode cX10_near 34 = .ok (.ldc 252, 2) := by decide +kernel
theorem dX10_near_36 : decode cX10_near 36 = .ok (.invokespecial 155, 3) := by decide +kernel
theorem dX10_near_39 : decode cX10_near 39 = .ok (.athrow, 1) := by decide +kernel
theorem dX10_near_40 : decode cX10_near 40 = .ok (.aload 5, 2) := by decide +kernel
theorem dX10_near_42 : decode cX10_near 42 = .ok (.getfield 264, 3) := by decide +kernel
theorem dX10_near_45 : decode cX10_near 45 = .ok (.ifCond .ne 22, 3) := by decide +kernel
theorem dX10_near_48 : decode cX10_near 48 = .ok (.aload 6, 2) := by decide +kernel
theorem dX10_near_50 : decode cX10_near 50 = .ok (.getfield 264, 3) := by decide +kernel
theorem dX10_near_53 : decode cX10_near 53 = .ok (.ifCond .ne 14, 3) := by decide +kernel
theorem dX10_near_56 : decode cX10_near 56 = .ok (.iload_n 3, 1) := by decide +kernel
theorem dX10_near_57 : decode cX10_near 57 = .ok (.iconst 1, 1) := by decide +kernel
theorem dX10_near_58 : decode cX10_near 58 = .ok (.if_icmp .lt 9, 3) := by decide +kernel
theorem dX10_near_61 : decode cX10_near 61 = .ok (.iload_n 3, 1) := by decide +kernel
theorem dX10_near_62 : decode cX10_near 62 = .ok (.bipush 10, 2) := by decide +kernel
theorem dX10_near_64 : decode cX10_near 64 = .ok (.if_icmp .le 14, 3) := by decide +kernel
theorem dX10_near_67 : decode cX10_near 67 = .ok (.new 85, 3) := by decide +kernel
theorem dX10_near_70 : decode cX10_near 70 = .ok (.dup, 1) := by decide +kernel
theorem dX10_near_71 : decode cX10_near 71 = .ok (.ldc_w 267, 3) := by decide +kernel
theorem dX10_near_74 : decode cX10_near 74 = .ok (.invokespecial 89, 3) := by decide +kernel
theorem dX10_near_77 : decode cX10_near 77 = .ok (.athrow, 1) := by decide +kernel
theorem dX10_near_78 : decode cX10_near 78 = .ok (.aload_n 0, 1) := by decide +kernel
theorem dX10_near_79 : decode cX10_near 79 = .ok (.getfield 28, 3) := by decide +kernel
theorem dX10_near_82 : decode cX10_near 82 = .ok (.invokevirtual 229, 3) := by decide +kernel
theorem dX10_near_85 : decode cX10_near 85 = .ok (.ifCond .eq 13, 3) := by decide +kernel
theorem dX10_near_88 : decode cX10_near 88 = .ok (.new 100, 3) := by decide +kernel
theorem dX10_near_91 : decode cX10_near 91 = .ok (.dup, 1) := by decide +kernel
theorem dX10_near_92 : decode cX10_near 92 = .ok (.ldc 230, 2) := by decide +kernel
theorem dX10_near_94 : decode cX10_near 94 = .ok (.invokespecial 104, 3) := by decide +kernel
theorem dX10_near_97 : decode cX10_near 97 = .ok (.athrow, 1) := by decide +kernel
theorem dX10_near_98 : decode cX10_near 98 = .ok (.new 232, 3) := by decide +kernel
theorem dX10_near_101 : decode cX10_near 101 = .ok (.dup, 1) := by decide +kernel
theorem dX10_near_102 : decode cX10_near 102 = .ok (.iconst 4, 1) := by decide +kernel
theorem dX10_near_103 : decode cX10_near 103 = .ok (.invokespecial 234, 3) := by decide +kernel
theorem dX10_near_106 : decode cX10_near 106 = .ok (.astore 7, 2) := by decide +kernel
theorem dX10_near_108 : decode cX10_near 108 = .ok (.aload 7, 2) := by decide +kernel
theorem dX10_near_110 : decode cX10_near 110 = .ok (.iload_n 1, 1) := by decide +kernel
theorem dX10_near_111 : decode cX10_near 111 = .ok (.putfield 254, 3) := by decide +kernel
theorem dX10_near_114 : decode cX10_near 114 = .ok (.aload 7, 2) := by decide +kernel
theorem dX10_near_116 : decode cX10_near 116 = .ok (.iload_n 2, 1) := by decide +kernel
theorem dX10_near_117 : decode cX10_near 117 = .ok (.putfield 257, 3) := by decide +kernel
theorem dX10_near_120 : decode cX10_near 120 = .ok (.aload 7, 2) := by decide +kernel
theorem dX10_near_122 : decode cX10_near 122 = .ok (.iload_n 3, 1) := by decide +kernel
theorem dX10_near_123 : decode cX10_near 123 = .ok (.putfield 269, 3) := by decide +kernel
theorem dX10_near_126 : decode cX10_near 126 = .ok (.aload 7, 2) := by decide +kernel
theorem dX10_near_128 : decode cX10_near 128 = .ok (.iload 4, 2) := by decide +kernel
theorem dX10_near_130 : decode cX10_near 130 = .ok (.putfield 272, 3) := by decide +kernel
theorem dX10_near_133 : decode cX10_near 133 = .ok (.aload_n 0, 1) := by decide +kernel
theorem dX10_near_134 : decode cX10_near 134 = .ok (.getfield 28, 3) := by decide +kernel
theorem dX10_near_137 : decode cX10_near 137 = .ok (.aload 7, 2) := by decide +kernel
theorem dX10_near_139 : decode cX10_near 139 = .ok (.invokevirtual 242, 3) := by decide +kernel
theorem dX10_near_142 : decode cX10_near 142 = .ok (.ireturn, 1) := by decide +kernel
set_option maxRecDepth 20000 in
theorem ggX10_dated_X10_isDate : GoodIn wsX10_dated wsX10_isDate := goodIn_r _ [14] (by decide +kernel) (by decide +kernel)
set_option maxRecDepth 20000 in
theorem gX10_dated_X10_isDate : GoodIn wsX10_dated (va_wsS RX10 78 yX10_isDate wsX10_isDate) := goodIn_app (goodIn_of _ (by decide +kernel)) ggX10_dated_X10_isDate
set_option maxRecDepth 20000 in
theorem ggX10_dated_X6_isFull : GoodIn wsX10_dated wsX6_isFull := goodIn_r _ [19, 20, 21, 57, 58, 59, 60, 61] (by decide +kernel) (by decide +kernel)
set_option maxRecDepth 20000 in
theorem gX10_dated_X6_isFull : GoodIn wsX10_dated (wsV RX10 229 RX6 yX6_isFull wsX6_isFull) := goodIn_app (goodIn_of _ (by decide +kernel)) ggX10_dated_X6_isFull
set_option maxRecDepth 20000 in
theorem ggX10_dated_X5_init : GoodIn wsX10_dated wsX5_init := goodIn_r _ [24, 25, 26, 27, 28, 44, 45, 46, 47, 48, 49, 50, 51, 52, 53, 54, 55, 56] (by decide +kernel) (by decide +kernel)
set_option maxRecDepth 20000 in
theorem gX10_dated_X5_init : GoodIn wsX10_dated (wsX5_init) := ggX10_dated_X5_init
set_option maxRecDepth 20000 in
theorem ggX10_dated_X6_append : GoodIn wsX10_dated wsX6_append := goodIn_r _ [32, 20, 21, 33, 16, 17, 18, 19, 57, 58, 59, 60, 61] (by decide +kernel) (by decide +kernel)
set_option maxRecDepth 20000 in
theorem gX10_dated_X6_append : GoodIn wsX10_dated (wsV RX10 242 RX6 yX6_append wsX6_append) := goodIn_app (goodIn_of _ (by decide +kernel)) ggX10_dated_X6_append
theorem dX10_dated_0 : decode cX10_dated 0 = .ok (.iload_n 1, 1) := by decide +kernel
theorem dX10_dated_1 : decode cX10_dated 1 = .ok (.invokestatic 78, 3) := by decide +kernel
theorem dX10_dated_4 : decode cX10_dated 4 = .ok (.ifCond .eq 10, 3) := by decide +kernel
theorem dX10_dated_7 : decode cX10_dated 7 = .ok (.iload_n 2, 1) := by decide +kernel
theorem dX10_dated_8 : decode cX10_dated 8 = .ok (.invokestatic 78, 3) := by decide +kernel
theorem dX10_dated_11 : decode cX10_dated 11 = .ok (.ifCond .ne 14, 3) := by decide +kernel
theorem dX10_dated_14 : decode cX10_dated 14 = .ok (.new 85, 3) := by decide +kernel
theorem dX10_dated_17 : decode cX10_dated 17 = .ok (.dup, 1) := by decide +kernel
theorem dX10_dated_18 : decode cX10_dated 18 = .ok (.ldc_w 275, 3) := by decide +kernel
theorem dX10_dated_21 : decode cX10_dated 21 = .ok (.invokespecial 89, 3) := by decide +kernel
theorem dX10_dated_24 : decode cX10_dated 24 = .ok (.athrow, 1) := by decide +kernel
theorem dX10_dated_25 : decode cX10_dated 25 = .ok (.aload_n 0, 1) := by decide +kernel
theorem dX10_dated_26 : decode cX10_dated 26 = .ok (.getfield 28, 3) := by decide +kernel
theorem dX10_dated_29 : decode cX10_dated 29 = .ok (.invokevirtual 229, 3) := by decide +kernel
theorem dX10_dated_32 : decode cX10_dated 32 = .ok (.ifCond .eq 13, 3) := by decide +kernel
theorem dX10_dated_35 : decode cX10_dated 35 = .ok (.new 100, 3) := by decide +kernel
theorem dX10_dated_38 : decode cX10_dated 38 = .ok (.dup, 1) := by decide +kernel
theorem dX10_dated_39 : decode cX10_dated 39 = .ok (.ldc 230, 2) := by decide +kernel
theorem dX10_dated_41 : decode cX10_dated 41 = .ok (.invokespecial 104, 3) := by decide +kernel
theorem dX10_dated_44 : decode cX10_dated 44 = .ok (.athrow, 1) := by decide +kernel
theorem dX10_dated_45 : decode cX10_dated 45 = .ok (.new 232, 3) := by decide +kernel
theorem dX10_dated_48 : decode cX10_dated 48 = .ok (.dup, 1) := by decide +kernel
theorem dX10_dated_49 : decode cX10_dated 49 = .ok (.iconst 5, 1) := by decide +kernel
theorem dX10_dated_50 : decode cX10_dated 50 = .ok (.invokespecial 234, 3) := by decide +kernel
theorem dX10_dated_53 : decode cX10_dated 53 = .ok (.astore_n 3, 1) := by decide +kernel
theorem dX10_dated_54 : decode cX10_dated 54 = .ok (.aload_n 3, 1) := by decide +kernel
theorem dX10_dated_55 : decode cX10_dated 55 = .ok (.iload_n 1, 1) := by decide +kernel
theorem dX10_dated_56 : decode cX10_dated 56 = .ok (.putfield 277, 3) := by decide +kernel
theorem dX10_dated_59 : decode cX10_dated 59 = .ok (.aload_n 3, 1) := by decide +kernel
theorem dX10_dated_60 : decode cX10_dated 60 = .ok (.iload_n 2, 1) := by decide +kernel
theorem dX10_dated_61 : decode cX10_dated 61 = .ok (.putfield 280, 3) := by decide +kernel
theorem dX10_dated_64 : decode cX10_dated 64 = .ok (.aload_n 0, 1) := by decide +kernel
theorem dX10_dated_65 : decode cX10_dated 65 = .ok (.getfield 28, 3) := by decide +kernel
theorem dX10_dated_68 : decode cX10_dated 68 = .ok (.aload_n 3, 1) := by decide +kernel
theorem dX10_dated_69 : decode cX10_dated 69 = .ok (.invokevirtual 242, 3) := by decide +kernel
theorem dX10_dated_72 : decode cX10_dated 72 = .ok (.ireturn, 1) := by decide +kernel
set_option maxRecDepth 20000 in
theorem ggX10_kind_X10_isSetOf : GoodIn wsX10_kind wsX10_isSetOf := goodIn_r _ [13] (by decide +kernel) (by decide +kernel)
set_option maxRecDepth 20000 in
theorem gX10_kind_X10_isSetOf : GoodIn wsX10_kind (va_wsS RX10 223 yX10_isSetOf wsX10_isSetOf) := goodIn_app (goodIn_of _ (by decide +kernel)) ggX10_kind_X10_isSetOf
set_option maxRecDepth 20000 in
theorem ggX10_kind_X6_isFull : GoodIn wsX10_kind wsX6_isFull := goodIn_r _ [18, 19, 20, 56, 57, 58, 59, 60] (by decide +kernel) (by decide +kernel)
set_option maxRecDepth 20000 in
theorem gX10_kind_X6_isFull : GoodIn wsX10_kind (wsV RX10 229 RX6 yX6_isFull wsX6_isFull) := goodIn_app (goodIn_of _ (by decide +kernel)) ggX10_kind_X6_isFull
set_option maxRecDepth 20000 in
theorem ggX10_kind_X5_init : GoodIn wsX10_kind wsX5_init := goodIn_r _ [23, 24, 25, 26, 27, 43, 44, 45, 46, 47, 48, 49, 50, 51, 52, 53, 54, 55] (by decide +kernel) (by decide +kernel)
set_option maxRecDepth 20000 in
theorem gX10_kind_X5_init : GoodIn wsX10_kind (wsX5_init) := ggX10_kind_X5_init
set_option maxRecDepth 20000 in
theorem ggX10_kind_X6_append : GoodIn wsX10_kind wsX6_append := goodIn_r _ [31, 19, 20, 32, 15, 16, 17, 18, 56, 57, 58, 59, 60] (by decide +kernel) (by decide +kernel)
set_option maxRecDepth 20000 in
theorem gX10_kind_X6_append : GoodIn wsX10_kind (wsV RX10 242 RX6 yX6_append wsX6_append) := goodIn_app (goodIn_of _ (by decide +kernel)) ggX10_kind_X6_append
theorem dX10_kind_0 : decode cX10_kind 0 = .ok (.bipush 8, 2) := by decide +kernel
theorem dX10_kind_2 : decode cX10_kind 2 = .ok (.iload_n 1, 1) := by decide +kernel
theorem dX10_kind_3 : decode cX10_kind 3 = .ok (.invokestatic 223, 3) := by decide +kernel
theorem dX10_kind_6 : decode cX10_kind 6 = .ok (.ifCond .ne 14, 3) := by decide +kernel
theorem dX10_kind_9 : decode cX10_kind 9 = .ok (.new 85, 3) := by decide +kernel
theorem dX10_kind_12 : decode cX10_kind 12 = .ok (.dup, 1) := by decide +kernel
theorem dX10_kind_13 : decode cX10_kind 13 = .ok (.ldc_w 283, 3) := by decide +kernel
theorem dX10_kind_16 : decode cX10_kind 16 = .ok (.invokespecial 89, 3) := by decide +kernel
theorem dX10_kind_19 : decode cX10_kind 19 = .ok (.athrow, 1) := by decide +kernel
theorem dX10_kind_20 : decode cX10_kind 20 = .ok (.aload_n 0, 1) := by decide +kernel
theorem dX10_kind_21 : decode cX10_kind 21 = .ok (.getfield 28, 3) := by decide +kernel
theorem dX10_kind_24 : decode cX10_kind 24 = .ok (.invokevirtual 229, 3) := by decide +kernel
theorem dX10_kind_27 : decode cX10_kind 27 = .ok (.ifCond .eq 13, 3) := by decide +kernel
theorem dX10_kind_30 : decode cX10_kind 30 = .ok (.new 100, 3) := by decide +kernel
theorem dX10_kind_33 : decode cX10_kind 33 = .ok (.dup, 1) := by decide +kernel
theorem dX10_kind_34 : decode cX10_kind 34 = .ok (.ldc 230, 2) := by decide +kernel
theorem dX10_kind_36 : decode cX10_kind 36 = .ok (.invokespecial 104, 3) := by decide +kernel
theorem dX10_kind_39 : decode cX10_kind 39 = .ok (.athrow, 1) := by decide +kernel
theorem dX10_kind_40 : decode cX10_kind 40 = .ok (.new 232, 3) := by decide +kernel
theorem dX10_kind_43 : decode cX10_kind 43 = .ok (.dup, 1) := by decide +kernel
theorem dX10_kind_44 : decode cX10_kind 44 = .ok (.bipush 6, 2) := by decide +kernel
theorem dX10_kind_46 : decode cX10_kind 46 = .ok (.invokespecial 234, 3) := by decide +kernel
theorem dX10_kind_49 : decode cX10_kind 49 = .ok (.astore_n 2, 1) := by decide +kernel
theorem dX10_kind_50 : decode cX10_kind 50 = .ok (.aload_n 2, 1) := by decide +kernel
theorem dX10_kind_51 : decode cX10_kind 51 = .ok (.iload_n 1, 1) := by decide +kernel
theorem dX10_kind_52 : decode cX10_kind 52 = .ok (.putfield 285, 3) := by decide +kernel
theorem dX10_kind_55 : decode cX10_kind 55 = .ok (.aload_n 0, 1) := by decide +kernel
theorem dX10_kind_56 : decode cX10_kind 56 = .ok (.getfield 28, 3) := by decide +kernel
theorem dX10_kind_59 : decode cX10_kind 59 = .ok (.aload_n 2, 1) := by decide +kernel
theorem dX10_kind_60 : decode cX10_kind 60 = .ok (.invokevirtual 242, 3) := by decide +kernel
theorem dX10_kind_63 : decode cX10_kind 63 = .ok (.ireturn, 1) := by decide +kernel
set_option maxRecDepth 20000 in
theorem ggX10_scaled_X6_hasNode : GoodIn wsX10_scaled wsX6_hasNode := goodIn_r _ [17, 18, 19, 20, 16, 21, 22, 23, 63, 64, 65, 66, 67] (by decide +kernel) (by decide +kernel)
set_option maxRecDepth 20000 in
theorem gX10_scaled_X6_hasNode : GoodIn wsX10_scaled (wsV RX10 249 RX6 yX6_hasNode wsX6_hasNode) := goodIn_app (goodIn_of _ (by decide +kernel)) ggX10_scaled_X6_hasNode
set_option maxRecDepth 20000 in
theorem ggX10_scaled_X6_isFull : GoodIn wsX10_scaled wsX6_isFull := goodIn_r _ [27, 22, 23, 63, 64, 65, 66, 67] (by decide +kernel) (by decide +kernel)
set_option maxRecDepth 20000 in
theorem gX10_scaled_X6_isFull : GoodIn wsX10_scaled (wsV RX10 229 RX6 yX6_isFull wsX6_isFull) := goodIn_app (goodIn_of _ (by decide +kernel)) ggX10_scaled_X6_isFull
set_option maxRecDepth 20000 in
theorem ggX10_scaled_X5_init : GoodIn wsX10_scaled wsX5_init := goodIn_r _ [30, 31, 32, 33, 34, 50, 51, 52, 53, 54, 55, 56, 57, 58, 59, 60, 61, 62] (by decide +kernel) (by decide +kernel)
set_option maxRecDepth 20000 in
theorem gX10_scaled_X5_init : GoodIn wsX10_scaled (wsX5_init) := ggX10_scaled_X5_init
set_option maxRecDepth 20000 in
theorem ggX10_scaled_X6_append : GoodIn wsX10_scaled wsX6_append := goodIn_r _ [38, 22, 23, 39, 25, 26, 16, 27, 63, 64, 65, 66, 67] (by decide +kernel) (by decide +kernel)
set_option maxRecDepth 20000 in
theorem gX10_scaled_X6_append : GoodIn wsX10_scaled (wsV RX10 242 RX6 yX6_append wsX6_append) := goodIn_app (goodIn_of _ (by decide +kernel)) ggX10_scaled_X6_append
theorem dX10_scaled_0 : decode cX10_scaled 0 = .ok (.aload_n 0, 1) := by decide +kernel
theorem dX10_scaled_1 : decode cX10_scaled 1 = .ok (.getfield 28, 3) := by decide +kernel
theorem dX10_scaled_4 : decode cX10_scaled 4 = .ok (.iload_n 1, 1) := by decide +kernel
theorem dX10_scaled_5 : decode cX10_scaled 5 = .ok (.invokevirtual 249, 3) := by decide +kernel
theorem dX10_scaled_8 : decode cX10_scaled 8 = .ok (.ifCond .ne 13, 3) := by decide +kernel
theorem dX10_scaled_11 : decode cX10_scaled 11 = .ok (.new 151, 3) := by decide +kernel
theorem dX10_scaled_14 : decode cX10_scaled 14 = .ok (.dup, 1) := by decide +kernel
theorem dX10_scaled_15 : decode cX10_scaled 15 = .ok (.ldc 252, 2) := by decide +kernel
theorem dX10_scaled_17 : decode cX10_scaled 17 = .ok (.invokespecial 155, 3) := by decide +kernel
theorem dX10_scaled_20 : decode cX10_scaled 20 = .ok (.athrow, 1) := by decide +kernel
theorem dX10_scaled_21 : decode cX10_scaled 21 = .ok (.iload_n 2, 1) := by decide +kernel
theorem dX10_scaled_22 : decode cX10_scaled 22 = .ok (.ifCond .lt 10, 3) := by decide +kernel
theorem dX10_scaled_25 : decode cX10_scaled 25 = .ok (.iload_n 2, 1) := by decide +kernel
theorem dX10_scaled_26 : decode cX10_scaled 26 = .ok (.sipush 500, 3) := by decide +kernel
theorem dX10_scaled_29 : decode cX10_scaled 29 = .ok (.if_icmp .le 14, 3) := by decide +kernel
theorem dX10_scaled_32 : decode cX10_scaled 32 = .ok (.new 85, 3) := by decide +kernel
theorem dX10_scaled_35 : decode cX10_scaled 35 = .ok (.dup, 1) := by decide +kernel
theorem dX10_scaled_36 : decode cX10_scaled 36 = .ok (.ldc_w 288, 3) := by decide +kernel
theorem dX10_scaled_39 : decode cX10_scaled 39 = .ok (.invokespecial 89, 3) := by decide +kernel
theorem dX10_scaled_42 : decode cX10_scaled 42 = .ok (.athrow, 1) := by decide +kernel
theorem dX10_scaled_43 : decode cX10_scaled 43 = .ok (.aload_n 0, 1) := by decide +kernel
theorem dX10_scaled_44 : decode cX10_scaled 44 = .ok (.getfield 28, 3) := by decide +kernel
theorem dX10_scaled_47 : decode cX10_scaled 47 = .ok (.invokevirtual 229, 3) := by decide +kernel
theorem dX10_scaled_50 : decode cX10_scaled 50 = .ok (.ifCond .eq 13, 3) := by decide +kernel
theorem dX10_scaled_53 : decode cX10_scaled 53 = .ok (.new 100, 3) := by decide +kernel
theorem dX10_scaled_56 : decode cX10_scaled 56 = .ok (.dup, 1) := by decide +kernel
theorem dX10_scaled_57 : decode cX10_scaled 57 = .ok (.ldc 230, 2) := by decide +kernel
theorem dX10_scaled_59 : decode cX10_scaled 59 = .ok (.invokespecial 104, 3) := by decide +kernel
theorem dX10_scaled_62 : decode cX10_scaled 62 = .ok (.athrow, 1) := by decide +kernel
theorem dX10_scaled_63 : decode cX10_scaled 63 = .ok (.new 232, 3) := by decide +kernel
theorem dX10_scaled_66 : decode cX10_scaled 66 = .ok (.dup, 1) := by decide +kernel
theorem dX10_scaled_67 : decode cX10_scaled 67 = .ok (.bipush 7, 2) := by decide +kernel
theorem dX10_scaled_69 : decode cX10_scaled 69 = .ok (.invokespecial 234, 3) := by decide +kernel
theorem dX10_scaled_72 : decode cX10_scaled 72 = .ok (.astore_n 3, 1) := by decide +kernel
theorem dX10_scaled_73 : decode cX10_scaled 73 = .ok (.aload_n 3, 1) := by decide +kernel
theorem dX10_scaled_74 : decode cX10_scaled 74 = .ok (.iload_n 1, 1) := by decide +kernel
theorem dX10_scaled_75 : decode cX10_scaled 75 = .ok (.putfield 254, 3) := by decide +kernel
theorem dX10_scaled_78 : decode cX10_scaled 78 = .ok (.aload_n 3, 1) := by decide +kernel
theorem dX10_scaled_79 : decode cX10_scaled 79 = .ok (.iload_n 2, 1) := by decide +kernel
theorem dX10_scaled_80 : decode cX10_scaled 80 = .ok (.putfield 290, 3) := by decide +kernel
theorem dX10_scaled_83 : decode cX10_scaled 83 = .ok (.aload_n 0, 1) := by decide +kernel
theorem dX10_scaled_84 : decode cX10_scaled 84 = .ok (.getfield 28, 3) := by decide +kernel
theorem dX10_scaled_87 : decode cX10_scaled 87 = .ok (.aload_n 3, 1) := by decide +kernel
theorem dX10_scaled_88 : decode cX10_scaled 88 = .ok (.invokevirtual 242, 3) := by decide +kernel
theorem dX10_scaled_91 : decode cX10_scaled 91 = .ok (.ireturn, 1) := by decide +kernel
set_option maxRecDepth 20000 in
theorem ggX10_most_X6_hasNode : GoodIn wsX10_most wsX6_hasNode := goodIn_r _ [19, 20, 21, 22, 18, 23, 24, 25, 52, 53, 54, 55, 56] (by decide +kernel) (by decide +kernel)
set_option maxRecDepth 20000 in
theorem gX10_most_X6_hasNode : GoodIn wsX10_most (wsV RX10 249 RX6 yX6_hasNode wsX6_hasNode) := goodIn_app (goodIn_of _ (by decide +kernel)) ggX10_most_X6_hasNode
set_option maxRecDepth 20000 in
theorem ggX10_most_X6_isFull : GoodIn wsX10_most wsX6_isFull := goodIn_r _ [29, 24, 25, 52, 53, 54, 55, 56] (by decide +kernel) (by decide +kernel)
set_option maxRecDepth 20000 in
theorem gX10_most_X6_isFull : GoodIn wsX10_most (wsV RX10 229 RX6 yX6_isFull wsX6_isFull) := goodIn_app (goodIn_of _ (by decide +kernel)) ggX10_most_X6_isFull
set_option maxRecDepth 20000 in
theorem ggX10_most_X5_init : GoodIn wsX10_most wsX5_init := goodIn_r _ [32, 33, 34, 35, 36, 57, 58, 59, 60, 61, 62, 63, 64, 65, 66, 67, 68, 69] (by decide +kernel) (by decide +kernel)
set_option maxRecDepth 20000 in
theorem gX10_most_X5_init : GoodIn wsX10_most (wsX5_init) := ggX10_most_X5_init
set_option maxRecDepth 20000 in
theorem ggX10_most_X6_append : GoodIn wsX10_most wsX6_append := goodIn_r _ [40, 24, 25, 41, 27, 28, 18, 29, 52, 53, 54, 55, 56] (by decide +kernel) (by decide +kernel)
set_option maxRecDepth 20000 in
theorem gX10_most_X6_append : GoodIn wsX10_most (wsV RX10 242 RX6 yX6_append wsX6_append) := goodIn_app (goodIn_of _ (by decide +kernel)) ggX10_most_X6_append
theorem dX10_most_0 : decode cX10_most 0 = .ok (.aload_n 0, 1) := by decide +kernel
theorem dX10_most_1 : decode cX10_most 1 = .ok (.getfield 28, 3) := by decide +kernel
theorem dX10_most_4 : decode cX10_most 4 = .ok (.iload_n 1, 1) := by decide +kernel
theorem dX10_most_5 : decode cX10_most 5 = .ok (.invokevirtual 249, 3) := by decide +kernel
theorem dX10_most_8 : decode cX10_most 8 = .ok (.ifCond .eq 16, 3) := by decide +kernel
theorem dX10_most_11 : decode cX10_most 11 = .ok (.iload_n 2, 1) := by decide +kernel
theorem dX10_most_12 : decode cX10_most 12 = .ok (.aload_n 0, 1) := by decide +kernel
theorem dX10_most_13 : decode cX10_most 13 = .ok (.getfield 28, 3) := by decide +kernel
theorem dX10_most_16 : decode cX10_most 16 = .ok (.getfield 293, 3) := by decide +kernel
theorem dX10_most_19 : decode cX10_most 19 = .ok (.iload_n 1, 1) := by decide +kernel
theorem dX10_most_20 : decode cX10_most 20 = .ok (.isub, 1) := by decide +kernel
theorem dX10_most_21 : decode cX10_most 21 = .ok (.if_icmp .le 13, 3) := by decide +kernel
