theorem dX11_near_41 : decode cX11_near 41 = .ok (.iaload, 1) := by decide +kernel
theorem dX11_near_42 : decode cX11_near 42 = .ok (.ifCond .ne 13, 3) := by decide +kernel
theorem dX11_near_45 : decode cX11_near 45 = .ok (.iload_n 3, 1) := by decide +kernel
theorem dX11_near_46 : decode cX11_near 46 = .ok (.iconst 1, 1) := by decide +kernel
theorem dX11_near_47 : decode cX11_near 47 = .ok (.bipush 10, 2) := by decide +kernel
theorem dX11_near_49 : decode cX11_near 49 = .ok (.invokestatic 78, 3) := by decide +kernel
theorem dX11_near_52 : decode cX11_near 52 = .ok (.ifCond .ne 9, 3) := by decide +kernel
theorem dX11_near_55 : decode cX11_near 55 = .ok (.aload_n 0, 1) := by decide +kernel
theorem dX11_near_56 : decode cX11_near 56 = .ok (.iconst 2, 1) := by decide +kernel
theorem dX11_near_57 : decode cX11_near 57 = .ok (.invokevirtual 88, 3) := by decide +kernel
theorem dX11_near_60 : decode cX11_near 60 = .ok (.ireturn, 1) := by decide +kernel
theorem dX11_near_61 : decode cX11_near 61 = .ok (.aload_n 0, 1) := by decide +kernel
theorem dX11_near_62 : decode cX11_near 62 = .ok (.getfield 85, 3) := by decide +kernel
theorem dX11_near_65 : decode cX11_near 65 = .ok (.bipush 30, 2) := by decide +kernel
theorem dX11_near_67 : decode cX11_near 67 = .ok (.if_icmp .ne 9, 3) := by decide +kernel
theorem dX11_near_70 : decode cX11_near 70 = .ok (.aload_n 0, 1) := by decide +kernel
theorem dX11_near_71 : decode cX11_near 71 = .ok (.iconst 3, 1) := by decide +kernel
theorem dX11_near_72 : decode cX11_near 72 = .ok (.invokevirtual 88, 3) := by decide +kernel
theorem dX11_near_75 : decode cX11_near 75 = .ok (.ireturn, 1) := by decide +kernel
theorem dX11_near_76 : decode cX11_near 76 = .ok (.aload_n 0, 1) := by decide +kernel
theorem dX11_near_77 : decode cX11_near 77 = .ok (.getfield 56, 3) := by decide +kernel
theorem dX11_near_80 : decode cX11_near 80 = .ok (.aload_n 0, 1) := by decide +kernel
theorem dX11_near_81 : decode cX11_near 81 = .ok (.getfield 85, 3) := by decide +kernel
theorem dX11_near_84 : decode cX11_near 84 = .ok (.iload 4, 2) := by decide +kernel
theorem dX11_near_86 : decode cX11_near 86 = .ok (.bastore, 1) := by decide +kernel
theorem dX11_near_87 : decode cX11_near 87 = .ok (.aload_n 0, 1) := by decide +kernel
theorem dX11_near_88 : decode cX11_near 88 = .ok (.iconst 4, 1) := by decide +kernel
theorem dX11_near_89 : decode cX11_near 89 = .ok (.iload_n 1, 1) := by decide +kernel
theorem dX11_near_90 : decode cX11_near 90 = .ok (.iload_n 2, 1) := by decide +kernel
theorem dX11_near_91 : decode cX11_near 91 = .ok (.iload_n 3, 1) := by decide +kernel
theorem dX11_near_92 : decode cX11_near 92 = .ok (.invokevirtual 161, 3) := by decide +kernel
theorem dX11_near_95 : decode cX11_near 95 = .ok (.ireturn, 1) := by decide +kernel
set_option maxRecDepth 20000 in
theorem ggX11_dated_X11_isIn : GoodIn wsX11_dated wsX11_isIn := goodIn_r _ [6] (by decide +kernel) (by decide +kernel)
set_option maxRecDepth 20000 in
theorem gX11_dated_X11_isIn : GoodIn wsX11_dated (va_wsS RX11 78 yX11_isIn wsX11_isIn) := goodIn_app (goodIn_of _ (by decide +kernel)) ggX11_dated_X11_isIn
set_option maxRecDepth 20000 in
theorem ggX11_dated_X11_no : GoodIn wsX11_dated wsX11_no := goodIn_r _ [10, 1, 19, 20, 21, 22, 23, 24, 25, 26, 27, 28, 29, 30, 31, 32, 33, 34, 35, 36, 37, 38, 39, 40, 41, 42, 43, 44, 45, 46, 47, 48] (by decide +kernel) (by decide +kernel)
set_option maxRecDepth 20000 in
theorem gX11_dated_X11_no : GoodIn wsX11_dated (wsV RX11 88 RX11 yX11_no wsX11_no) := goodIn_app (goodIn_of _ (by decide +kernel)) ggX11_dated_X11_no
set_option maxRecDepth 20000 in
theorem ggX11_dated_X11_add : GoodIn wsX11_dated wsX11_add := goodIn_r _ [14, 15, 2, 16, 17, 18, 19, 20, 21, 22, 23, 24, 25, 26, 27, 28, 29, 30, 31, 32, 33, 34, 35, 36, 37, 38, 39, 40, 41, 42, 43, 44, 45, 46, 47, 48] (by decide +kernel) (by decide +kernel)
set_option maxRecDepth 20000 in
theorem gX11_dated_X11_add : GoodIn wsX11_dated (wsV RX11 161 RX11 yX11_add wsX11_add) := goodIn_app (goodIn_of _ (by decide +kernel)) ggX11_dated_X11_add
theorem dX11_dated_0 : decode cX11_dated 0 = .ok (.aload_n 0, 1) := by decide +kernel
theorem dX11_dated_1 : decode cX11_dated 1 = .ok (.iconst 0, 1) := by decide +kernel
theorem dX11_dated_2 : decode cX11_dated 2 = .ok (.putfield 74, 3) := by decide +kernel
theorem dX11_dated_5 : decode cX11_dated 5 = .ok (.iload_n 1, 1) := by decide +kernel
theorem dX11_dated_6 : decode cX11_dated 6 = .ok (.iconst 0, 1) := by decide +kernel
theorem dX11_dated_7 : decode cX11_dated 7 = .ok (.sipush 9999, 3) := by decide +kernel
theorem dX11_dated_10 : decode cX11_dated 10 = .ok (.invokestatic 78, 3) := by decide +kernel
theorem dX11_dated_13 : decode cX11_dated 13 = .ok (.ifCond .eq 14, 3) := by decide +kernel
theorem dX11_dated_16 : decode cX11_dated 16 = .ok (.iload_n 2, 1) := by decide +kernel
theorem dX11_dated_17 : decode cX11_dated 17 = .ok (.iconst 0, 1) := by decide +kernel
theorem dX11_dated_18 : decode cX11_dated 18 = .ok (.sipush 9999, 3) := by decide +kernel
theorem dX11_dated_21 : decode cX11_dated 21 = .ok (.invokestatic 78, 3) := by decide +kernel
theorem dX11_dated_24 : decode cX11_dated 24 = .ok (.ifCond .ne 9, 3) := by decide +kernel
theorem dX11_dated_27 : decode cX11_dated 27 = .ok (.aload_n 0, 1) := by decide +kernel
theorem dX11_dated_28 : decode cX11_dated 28 = .ok (.iconst 1, 1) := by decide +kernel
theorem dX11_dated_29 : decode cX11_dated 29 = .ok (.invokevirtual 88, 3) := by decide +kernel
theorem dX11_dated_32 : decode cX11_dated 32 = .ok (.ireturn, 1) := by decide +kernel
theorem dX11_dated_33 : decode cX11_dated 33 = .ok (.aload_n 0, 1) := by decide +kernel
theorem dX11_dated_34 : decode cX11_dated 34 = .ok (.getfield 85, 3) := by decide +kernel
theorem dX11_dated_37 : decode cX11_dated 37 = .ok (.bipush 30, 2) := by decide +kernel
theorem dX11_dated_39 : decode cX11_dated 39 = .ok (.if_icmp .ne 11, 3) := by decide +kernel
theorem dX11_dated_42 : decode cX11_dated 42 = .ok (.aload_n 0, 1) := by decide +kernel
theorem dX11_dated_43 : decode cX11_dated 43 = .ok (.iconst 2, 1) := by decide +kernel
theorem dX11_dated_44 : decode cX11_dated 44 = .ok (.invokevirtual 88, 3) := by decide +kernel
theorem dX11_dated_47 : decode cX11_dated 47 = .ok (.goto 11, 3) := by decide +kernel
theorem dX11_dated_50 : decode cX11_dated 50 = .ok (.aload_n 0, 1) := by decide +kernel
theorem dX11_dated_51 : decode cX11_dated 51 = .ok (.iconst 5, 1) := by decide +kernel
theorem dX11_dated_52 : decode cX11_dated 52 = .ok (.iload_n 1, 1) := by decide +kernel
theorem dX11_dated_53 : decode cX11_dated 53 = .ok (.iload_n 2, 1) := by decide +kernel
theorem dX11_dated_54 : decode cX11_dated 54 = .ok (.iconst 0, 1) := by decide +kernel
theorem dX11_dated_55 : decode cX11_dated 55 = .ok (.invokevirtual 161, 3) := by decide +kernel
theorem dX11_dated_58 : decode cX11_dated 58 = .ok (.ireturn, 1) := by decide +kernel
set_option maxRecDepth 20000 in
theorem ggX11_kind_X11_isIn : GoodIn wsX11_kind wsX11_isIn := goodIn_r _ [6] (by decide +kernel) (by decide +kernel)
set_option maxRecDepth 20000 in
theorem gX11_kind_X11_isIn : GoodIn wsX11_kind (va_wsS RX11 78 yX11_isIn wsX11_isIn) := goodIn_app (goodIn_of _ (by decide +kernel)) ggX11_kind_X11_isIn
set_option maxRecDepth 20000 in
theorem ggX11_kind_X11_no : GoodIn wsX11_kind wsX11_no := goodIn_r _ [10, 1, 19, 20, 21, 22, 23, 24, 25, 26, 27, 28, 29, 30, 31, 32, 33, 34, 35, 36, 37, 38, 39, 40, 41, 42, 43, 44, 45, 46, 47, 48] (by decide +kernel) (by decide +kernel)
set_option maxRecDepth 20000 in
theorem gX11_kind_X11_no : GoodIn wsX11_kind (wsV RX11 88 RX11 yX11_no wsX11_no) := goodIn_app (goodIn_of _ (by decide +kernel)) ggX11_kind_X11_no
set_option maxRecDepth 20000 in
theorem ggX11_kind_X11_add : GoodIn wsX11_kind wsX11_add := goodIn_r _ [14, 15, 2, 16, 17, 18, 19, 20, 21, 22, 23, 24, 25, 26, 27, 28, 29, 30, 31, 32, 33, 34, 35, 36, 37, 38, 39, 40, 41, 42, 43, 44, 45, 46, 47, 48] (by decide +kernel) (by decide +kernel)
set_option maxRecDepth 20000 in
theorem gX11_kind_X11_add : GoodIn wsX11_kind (wsV RX11 161 RX11 yX11_add wsX11_add) := goodIn_app (goodIn_of _ (by decide +kernel)) ggX11_kind_X11_add
theorem dX11_kind_0 : decode cX11_kind 0 = .ok (.aload_n 0, 1) := by decide +kernel
theorem dX11_kind_1 : decode cX11_kind 1 = .ok (.iconst 0, 1) := by decide +kernel
theorem dX11_kind_2 : decode cX11_kind 2 = .ok (.putfield 74, 3) := by decide +kernel
theorem dX11_kind_5 : decode cX11_kind 5 = .ok (.iload_n 1, 1) := by decide +kernel
theorem dX11_kind_6 : decode cX11_kind 6 = .ok (.iconst 1, 1) := by decide +kernel
theorem dX11_kind_7 : decode cX11_kind 7 = .ok (.sipush 255, 3) := by decide +kernel
theorem dX11_kind_10 : decode cX11_kind 10 = .ok (.invokestatic 78, 3) := by decide +kernel
theorem dX11_kind_13 : decode cX11_kind 13 = .ok (.ifCond .ne 9, 3) := by decide +kernel
theorem dX11_kind_16 : decode cX11_kind 16 = .ok (.aload_n 0, 1) := by decide +kernel
theorem dX11_kind_17 : decode cX11_kind 17 = .ok (.iconst 1, 1) := by decide +kernel
theorem dX11_kind_18 : decode cX11_kind 18 = .ok (.invokevirtual 88, 3) := by decide +kernel
theorem dX11_kind_21 : decode cX11_kind 21 = .ok (.ireturn, 1) := by decide +kernel
theorem dX11_kind_22 : decode cX11_kind 22 = .ok (.aload_n 0, 1) := by decide +kernel
theorem dX11_kind_23 : decode cX11_kind 23 = .ok (.getfield 85, 3) := by decide +kernel
theorem dX11_kind_26 : decode cX11_kind 26 = .ok (.bipush 30, 2) := by decide +kernel
theorem dX11_kind_28 : decode cX11_kind 28 = .ok (.if_icmp .ne 11, 3) := by decide +kernel
theorem dX11_kind_31 : decode cX11_kind 31 = .ok (.aload_n 0, 1) := by decide +kernel
theorem dX11_kind_32 : decode cX11_kind 32 = .ok (.iconst 2, 1) := by decide +kernel
theorem dX11_kind_33 : decode cX11_kind 33 = .ok (.invokevirtual 88, 3) := by decide +kernel
theorem dX11_kind_36 : decode cX11_kind 36 = .ok (.goto 12, 3) := by decide +kernel
theorem dX11_kind_39 : decode cX11_kind 39 = .ok (.aload_n 0, 1) := by decide +kernel
theorem dX11_kind_40 : decode cX11_kind 40 = .ok (.bipush 6, 2) := by decide +kernel
theorem dX11_kind_42 : decode cX11_kind 42 = .ok (.iload_n 1, 1) := by decide +kernel
theorem dX11_kind_43 : decode cX11_kind 43 = .ok (.iconst 0, 1) := by decide +kernel
theorem dX11_kind_44 : decode cX11_kind 44 = .ok (.iconst 0, 1) := by decide +kernel
theorem dX11_kind_45 : decode cX11_kind 45 = .ok (.invokevirtual 161, 3) := by decide +kernel
theorem dX11_kind_48 : decode cX11_kind 48 = .ok (.ireturn, 1) := by decide +kernel
set_option maxRecDepth 20000 in
theorem ggX11_scaled_X11_isNode : GoodIn wsX11_scaled wsX11_isNode := goodIn_r _ [7, 2, 8, 9, 6, 10, 23, 24, 25, 26, 27, 28, 29, 30, 31, 32, 33, 34, 35, 36, 37, 38, 39, 40, 41, 42, 43, 44, 45, 46, 47, 48, 49, 50, 51, 52] (by decide +kernel) (by decide +kernel)
set_option maxRecDepth 20000 in
theorem gX11_scaled_X11_isNode : GoodIn wsX11_scaled (wsV RX11 165 RX11 yX11_isNode wsX11_isNode) := goodIn_app (goodIn_of _ (by decide +kernel)) ggX11_scaled_X11_isNode
set_option maxRecDepth 20000 in
theorem ggX11_scaled_X11_no : GoodIn wsX11_scaled wsX11_no := goodIn_r _ [14, 1, 23, 24, 25, 26, 27, 28, 29, 30, 31, 32, 33, 34, 35, 36, 37, 38, 39, 40, 41, 42, 43, 44, 45, 46, 47, 48, 49, 50, 51, 52] (by decide +kernel) (by decide +kernel)
set_option maxRecDepth 20000 in
theorem gX11_scaled_X11_no : GoodIn wsX11_scaled (wsV RX11 88 RX11 yX11_no wsX11_no) := goodIn_app (goodIn_of _ (by decide +kernel)) ggX11_scaled_X11_no
set_option maxRecDepth 20000 in
theorem ggX11_scaled_X11_isIn : GoodIn wsX11_scaled wsX11_isIn := goodIn_r _ [10] (by decide +kernel) (by decide +kernel)
set_option maxRecDepth 20000 in
theorem gX11_scaled_X11_isIn : GoodIn wsX11_scaled (va_wsS RX11 78 yX11_isIn wsX11_isIn) := goodIn_app (goodIn_of _ (by decide +kernel)) ggX11_scaled_X11_isIn
set_option maxRecDepth 20000 in
theorem ggX11_scaled_X11_add : GoodIn wsX11_scaled wsX11_add := goodIn_r _ [18, 19, 2, 20, 21, 22, 23, 24, 25, 26, 27, 28, 29, 30, 31, 32, 33, 34, 35, 36, 37, 38, 39, 40, 41, 42, 43, 44, 45, 46, 47, 48, 49, 50, 51, 52] (by decide +kernel) (by decide +kernel)
set_option maxRecDepth 20000 in
theorem gX11_scaled_X11_add : GoodIn wsX11_scaled (wsV RX11 161 RX11 yX11_add wsX11_add) := goodIn_app (goodIn_of _ (by decide +kernel)) ggX11_scaled_X11_add
theorem dX11_scaled_0 : decode cX11_scaled 0 = .ok (.aload_n 0, 1) := by decide +kernel
theorem dX11_scaled_1 : decode cX11_scaled 1 = .ok (.iconst 0, 1) := by decide +kernel
theorem dX11_scaled_2 : decode cX11_scaled 2 = .ok (.putfield 74, 3) := by decide +kernel
theorem dX11_scaled_5 : decode cX11_scaled 5 = .ok (.aload_n 0, 1) := by decide +kernel
theorem dX11_scaled_6 : decode cX11_scaled 6 = .ok (.iload_n 1, 1) := by decide +kernel
theorem dX11_scaled_7 : decode cX11_scaled 7 = .ok (.invokevirtual 165, 3) := by decide +kernel
theorem dX11_scaled_10 : decode cX11_scaled 10 = .ok (.ifCond .ne 9, 3) := by decide +kernel
theorem dX11_scaled_13 : decode cX11_scaled 13 = .ok (.aload_n 0, 1) := by decide +kernel
theorem dX11_scaled_14 : decode cX11_scaled 14 = .ok (.iconst 1, 1) := by decide +kernel
theorem dX11_scaled_15 : decode cX11_scaled 15 = .ok (.invokevirtual 88, 3) := by decide +kernel
theorem dX11_scaled_18 : decode cX11_scaled 18 = .ok (.ireturn, 1) := by decide +kernel
theorem dX11_scaled_19 : decode cX11_scaled 19 = .ok (.iload_n 2, 1) := by decide +kernel
theorem dX11_scaled_20 : decode cX11_scaled 20 = .ok (.iconst 0, 1) := by decide +kernel
theorem dX11_scaled_21 : decode cX11_scaled 21 = .ok (.sipush 500, 3) := by decide +kernel
theorem dX11_scaled_24 : decode cX11_scaled 24 = .ok (.invokestatic 78, 3) := by decide +kernel
theorem dX11_scaled_27 : decode cX11_scaled 27 = .ok (.ifCond .ne 9, 3) := by decide +kernel
theorem dX11_scaled_30 : decode cX11_scaled 30 = .ok (.aload_n 0, 1) := by decide +kernel
theorem dX11_scaled_31 : decode cX11_scaled 31 = .ok (.iconst 2, 1) := by decide +kernel
theorem dX11_scaled_32 : decode cX11_scaled 32 = .ok (.invokevirtual 88, 3) := by decide +kernel
theorem dX11_scaled_35 : decode cX11_scaled 35 = .ok (.ireturn, 1) := by decide +kernel
theorem dX11_scaled_36 : decode cX11_scaled 36 = .ok (.aload_n 0, 1) := by decide +kernel
theorem dX11_scaled_37 : decode cX11_scaled 37 = .ok (.getfield 85, 3) := by decide +kernel
theorem dX11_scaled_40 : decode cX11_scaled 40 = .ok (.bipush 30, 2) := by decide +kernel
theorem dX11_scaled_42 : decode cX11_scaled 42 = .ok (.if_icmp .ne 11, 3) := by decide +kernel
theorem dX11_scaled_45 : decode cX11_scaled 45 = .ok (.aload_n 0, 1) := by decide +kernel
theorem dX11_scaled_46 : decode cX11_scaled 46 = .ok (.iconst 3, 1) := by decide +kernel
theorem dX11_scaled_47 : decode cX11_scaled 47 = .ok (.invokevirtual 88, 3) := by decide +kernel
theorem dX11_scaled_50 : decode cX11_scaled 50 = .ok (.goto 12, 3) := by decide +kernel
theorem dX11_scaled_53 : decode cX11_scaled 53 = .ok (.aload_n 0, 1) := by decide +kernel
theorem dX11_scaled_54 : decode cX11_scaled 54 = .ok (.bipush 7, 2) := by decide +kernel
theorem dX11_scaled_56 : decode cX11_scaled 56 = .ok (.iload_n 1, 1) := by decide +kernel
theorem dX11_scaled_57 : decode cX11_scaled 57 = .ok (.iload_n 2, 1) := by decide +kernel
theorem dX11_scaled_58 : decode cX11_scaled 58 = .ok (.iconst 0, 1) := by decide +kernel
theorem dX11_scaled_59 : decode cX11_scaled 59 = .ok (.invokevirtual 161, 3) := by decide +kernel
theorem dX11_scaled_62 : decode cX11_scaled 62 = .ok (.ireturn, 1) := by decide +kernel
set_option maxRecDepth 20000 in
theorem ggX11_most_X11_isNode : GoodIn wsX11_most wsX11_isNode := goodIn_r _ [7, 2, 8, 9, 6, 10, 23, 24, 25, 26, 27, 28, 29, 30, 31, 32, 33, 34, 35, 36, 37, 38, 39, 40, 41, 42, 43, 44, 45, 46, 47, 48, 49, 50, 51, 52] (by decide +kernel) (by decide +kernel)
set_option maxRecDepth 20000 in
theorem gX11_most_X11_isNode : GoodIn wsX11_most (wsV RX11 165 RX11 yX11_isNode wsX11_isNode) := goodIn_app (goodIn_of _ (by decide +kernel)) ggX11_most_X11_isNode
set_option maxRecDepth 20000 in
theorem ggX11_most_X11_no : GoodIn wsX11_most wsX11_no := goodIn_r _ [14, 1, 23, 24, 25, 26, 27, 28, 29, 30, 31, 32, 33, 34, 35, 36, 37, 38, 39, 40, 41, 42, 43, 44, 45, 46, 47, 48, 49, 50, 51, 52] (by decide +kernel) (by decide +kernel)
set_option maxRecDepth 20000 in
theorem gX11_most_X11_no : GoodIn wsX11_most (wsV RX11 88 RX11 yX11_no wsX11_no) := goodIn_app (goodIn_of _ (by decide +kernel)) ggX11_most_X11_no
set_option maxRecDepth 20000 in
theorem ggX11_most_X11_isIn : GoodIn wsX11_most wsX11_isIn := goodIn_r _ [10] (by decide +kernel) (by decide +kernel)
set_option maxRecDepth 20000 in
theorem gX11_most_X11_isIn : GoodIn wsX11_most (va_wsS RX11 78 yX11_isIn wsX11_isIn) := goodIn_app (goodIn_of _ (by decide +kernel)) ggX11_most_X11_isIn
set_option maxRecDepth 20000 in
theorem ggX11_most_X11_add : GoodIn wsX11_most wsX11_add := goodIn_r _ [18, 19, 2, 20, 21, 22, 23, 24, 25, 26, 27, 28, 29, 30, 31, 32, 33, 34, 35, 36, 37, 38, 39, 40, 41, 42, 43, 44, 45, 46, 47, 48, 49, 50, 51, 52] (by decide +kernel) (by decide +kernel)
set_option maxRecDepth 20000 in
theorem gX11_most_X11_add : GoodIn wsX11_most (wsV RX11 161 RX11 yX11_add wsX11_add) := goodIn_app (goodIn_of _ (by decide +kernel)) ggX11_most_X11_add
theorem dX11_most_0 : decode cX11_most 0 = .ok (.aload_n 0, 1) := by decide +kernel
theorem dX11_most_1 : decode cX11_most 1 = .ok (.iconst 0, 1) := by decide +kernel
theorem dX11_most_2 : decode cX11_most 2 = .ok (.putfield 74, 3) := by decide +kernel
theorem dX11_most_5 : decode cX11_most 5 = .ok (.aload_n 0, 1) := by decide +kernel
theorem dX11_most_6 : decode cX11_most 6 = .ok (.iload_n 1, 1) := by decide +kernel
theorem dX11_most_7 : decode cX11_most 7 = .ok (.invokevirtual 165, 3) := by decide +kernel
theorem dX11_most_10 : decode cX11_most 10 = .ok (.istore 4, 2) := by decide +kernel
theorem dX11_most_12 : decode cX11_most 12 = .ok (.iconst 1, 1) := by decide +kernel
theorem dX11_most_13 : decode cX11_most 13 = .ok (.istore 5, 2) := by decide +kernel
theorem dX11_most_15 : decode cX11_most 15 = .ok (.iload 4, 2) := by decide +kernel
theorem dX11_most_17 : decode cX11_most 17 = .ok (.ifCond .eq 25, 3) := by decide +kernel
theorem dX11_most_20 : decode cX11_most 20 = .ok (.iload 5, 2) := by decide +kernel
theorem dX11_most_22 : decode cX11_most 22 = .ok (.iload_n 2, 1) := by decide +kernel
theorem dX11_most_23 : decode cX11_most 23 = .ok (.if_icmp .ge 19, 3) := by decide +kernel
theorem dX11_most_26 : decode cX11_most 26 = .ok (.aload_n 0, 1) := by decide +kernel
theorem dX11_most_27 : decode cX11_most 27 = .ok (.iload_n 1, 1) := by decide +kernel
theorem dX11_most_28 : decode cX11_most 28 = .ok (.iload 5, 2) := by decide +kernel
theorem dX11_most_30 : decode cX11_most 30 = .ok (.iadd, 1) := by decide +kernel
theorem dX11_most_31 : decode cX11_most 31 = .ok (.invokevirtual 165, 3) := by decide +kernel
theorem dX11_most_34 : decode cX11_most 34 = .ok (.istore 4, 2) := by decide +kernel
theorem dX11_most_36 : decode cX11_most 36 = .ok (.iinc 5 1, 3) := by decide +kernel
theorem dX11_most_39 : decode cX11_most 39 = .ok (.goto (-24), 3) := by decide +kernel
theorem dX11_most_42 : decode cX11_most 42 = .ok (.iload 4, 2) := by decide +kernel
theorem dX11_most_44 : decode cX11_most 44 = .ok (.ifCond .ne 9, 3) := by decide +kernel
theorem dX11_most_47 : decode cX11_most 47 = .ok (.aload_n 0, 1) := by decide +kernel
theorem dX11_most_48 : decode cX11_most 48 = .ok (.iconst 1, 1) := by decide +kernel
theorem dX11_most_49 : decode cX11_most 49 = .ok (.invokevirtual 88, 3) := by decide +kernel
theorem dX11_most_52 : decode cX11_most 52 = .ok (.ireturn, 1) := by decide +kernel
theorem dX11_most_53 : decode cX11_most 53 = .ok (.iload_n 2, 1) := by decide +kernel
theorem dX11_most_54 : decode cX11_most 54 = .ok (.iconst 2, 1) := by decide +kernel
theorem dX11_most_55 : decode cX11_most 55 = .ok (.iconst 4, 1) := by decide +kernel
theorem dX11_most_56 : decode cX11_most 56 = .ok (.invokestatic 78, 3) := by decide +kernel
theorem dX11_most_59 : decode cX11_most 59 = .ok (.ifCond .eq 12, 3) := by decide +kernel
theorem dX11_most_62 : decode cX11_most 62 = .ok (.iload_n 3, 1) := by decide +kernel
theorem dX11_most_63 : decode cX11_most 63 = .ok (.iconst 1, 1) := by decide +kernel
theorem dX11_most_64 : decode cX11_most 64 = .ok (.iload_n 2, 1) := by decide +kernel
theorem dX11_most_65 : decode cX11_most 65 = .ok (.invokestatic 78, 3) := by decide +kernel
theorem dX11_most_68 : decode cX11_most 68 = .ok (.ifCond .ne 9, 3) := by decide +kernel
theorem dX11_most_71 : decode cX11_most 71 = .ok (.aload_n 0, 1) := by decide +kernel
theorem dX11_most_72 : decode cX11_most 72 = .ok (.iconst 2, 1) := by decide +kernel
theorem dX11_most_73 : decode cX11_most 73 = .ok (.invokevirtual 88, 3) := by decide +kernel
theorem dX11_most_76 : decode cX11_most 76 = .ok (.ireturn, 1) := by decide +kernel
theorem dX11_most_77 : decode cX11_most 77 = .ok (.aload_n 0, 1) := by decide +kernel
theorem dX11_most_78 : decode cX11_most 78 = .ok (.getfield 85, 3) := by decide +kernel
theorem dX11_most_81 : decode cX11_most 81 = .ok (.bipush 30, 2) := by decide +kernel
theorem dX11_most_83 : decode cX11_most 83 = .ok (.if_icmp .ne 11, 3) := by decide +kernel
theorem dX11_most_86 : decode cX11_most 86 = .ok (.aload_n 0, 1) := by decide +kernel
theorem dX11_most_87 : decode cX11_most 87 = .ok (.iconst 3, 1) := by decide +kernel
theorem dX11_most_88 : decode cX11_most 88 = .ok (.invokevirtual 88, 3) := by decide +kernel
theorem dX11_most_91 : decode cX11_most 91 = .ok (.goto 12, 3) := by decide +kernel
theorem dX11_most_94 : decode cX11_most 94 = .ok (.aload_n 0, 1) := by decide +kernel
theorem dX11_most_95 : decode cX11_most 95 = .ok (.bipush 8, 2) := by decide +kernel
theorem dX11_most_97 : decode cX11_most 97 = .ok (.iload_n 1, 1) := by decide +kernel
theorem dX11_most_98 : decode cX11_most 98 = .ok (.iload_n 2, 1) := by decide +kernel
theorem dX11_most_99 : decode cX11_most 99 = .ok (.iload_n 3, 1) := by decide +kernel
theorem dX11_most_100 : decode cX11_most 100 = .ok (.invokevirtual 161, 3) := by decide +kernel
theorem dX11_most_103 : decode cX11_most 103 = .ok (.ireturn, 1) := by decide +kernel
theorem dX11_clear_0 : decode cX11_clear 0 = .ok (.aload_n 0, 1) := by decide +kernel
theorem dX11_clear_1 : decode cX11_clear 1 = .ok (.iconst 0, 1) := by decide +kernel
theorem dX11_clear_2 : decode cX11_clear 2 = .ok (.putfield 74, 3) := by decide +kernel
theorem dX11_clear_5 : decode cX11_clear 5 = .ok (.aload_n 0, 1) := by decide +kernel
theorem dX11_clear_6 : decode cX11_clear 6 = .ok (.getfield 85, 3) := by decide +kernel
theorem dX11_clear_9 : decode cX11_clear 9 = .ok (.istore_n 1, 1) := by decide +kernel
theorem dX11_clear_10 : decode cX11_clear 10 = .ok (.aload_n 0, 1) := by decide +kernel
theorem dX11_clear_11 : decode cX11_clear 11 = .ok (.iconst 0, 1) := by decide +kernel
theorem dX11_clear_12 : decode cX11_clear 12 = .ok (.putfield 85, 3) := by decide +kernel
theorem dX11_clear_15 : decode cX11_clear 15 = .ok (.iload_n 1, 1) := by decide +kernel
theorem dX11_clear_16 : decode cX11_clear 16 = .ok (.ireturn, 1) := by decide +kernel
set_option maxRecDepth 20000 in
theorem ggX11_nodes_X11_ok : GoodIn wsX11_nodes wsX11_ok := goodIn_r _ [6, 7, 8, 9, 10, 11, 12, 13, 14, 15, 16, 17, 18, 19, 20, 21, 22, 23, 24, 25, 26, 27, 28, 29, 30, 31, 32, 33, 34, 35, 36, 37] (by decide +kernel) (by decide +kernel)
set_option maxRecDepth 20000 in
theorem gX11_nodes_X11_ok : GoodIn wsX11_nodes (wsV RX11 109 RX11 yX11_ok wsX11_ok) := goodIn_app (goodIn_of _ (by decide +kernel)) ggX11_nodes_X11_ok
theorem dX11_nodes_0 : decode cX11_nodes 0 = .ok (.aload_n 0, 1) := by decide +kernel
theorem dX11_nodes_1 : decode cX11_nodes 1 = .ok (.aload_n 0, 1) := by decide +kernel
theorem dX11_nodes_2 : decode cX11_nodes 2 = .ok (.getfield 85, 3) := by decide +kernel
theorem dX11_nodes_5 : decode cX11_nodes 5 = .ok (.invokevirtual 109, 3) := by decide +kernel
theorem dX11_nodes_8 : decode cX11_nodes 8 = .ok (.ireturn, 1) := by decide +kernel
theorem dX11_least_0 : decode cX11_least 0 = .ok (.ldc 171, 2) := by decide +kernel
theorem dX11_least_2 : decode cX11_least 2 = .ok (.iload_n 0, 1) := by decide +kernel
theorem dX11_least_3 : decode cX11_least 3 = .ok (.invokestatic 172, 3) := by decide +kernel
theorem dX11_least_6 : decode cX11_least 6 = .ok (.ireturn, 1) := by decide +kernel
theorem dX11_looksFor_0 : decode cX11_looksFor 0 = .ok (.aload_n 0, 1) := by decide +kernel
theorem dX11_looksFor_1 : decode cX11_looksFor 1 = .ok (.getfield 29, 3) := by decide +kernel
theorem dX11_looksFor_4 : decode cX11_looksFor 4 = .ok (.iload_n 2, 1) := by decide +kernel
theorem dX11_looksFor_5 : decode cX11_looksFor 5 = .ok (.baload, 1) := by decide +kernel
theorem dX11_looksFor_6 : decode cX11_looksFor 6 = .ok (.ifCond .ne 32, 3) := by decide +kernel
theorem dX11_looksFor_9 : decode cX11_looksFor 9 = .ok (.aload_n 0, 1) := by decide +kernel
theorem dX11_looksFor_10 : decode cX11_looksFor 10 = .ok (.getfield 47, 3) := by decide +kernel
theorem dX11_looksFor_13 : decode cX11_looksFor 13 = .ok (.iload_n 1, 1) := by decide +kernel
theorem dX11_looksFor_14 : decode cX11_looksFor 14 = .ok (.iaload, 1) := by decide +kernel
theorem dX11_looksFor_15 : decode cX11_looksFor 15 = .ok (.iload_n 2, 1) := by decide +kernel
theorem dX11_looksFor_16 : decode cX11_looksFor 16 = .ok (.if_icmp .eq 18, 3) := by decide +kernel
theorem dX11_looksFor_19 : decode cX11_looksFor 19 = .ok (.aload_n 0, 1) := by decide +kernel
theorem dX11_looksFor_20 : decode cX11_looksFor 20 = .ok (.getfield 32, 3) := by decide +kernel
theorem dX11_looksFor_23 : decode cX11_looksFor 23 = .ok (.aload_n 0, 1) := by decide +kernel
theorem dX11_looksFor_24 : decode cX11_looksFor 24 = .ok (.getfield 47, 3) := by decide +kernel
theorem dX11_looksFor_27 : decode cX11_looksFor 27 = .ok (.iload_n 1, 1) := by decide +kernel
theorem dX11_looksFor_28 : decode cX11_looksFor 28 = .ok (.iaload, 1) := by decide +kernel
theorem dX11_looksFor_29 : decode cX11_looksFor 29 = .ok (.iaload, 1) := by decide +kernel
theorem dX11_looksFor_30 : decode cX11_looksFor 30 = .ok (.iload_n 2, 1) := by decide +kernel
theorem dX11_looksFor_31 : decode cX11_looksFor 31 = .ok (.if_icmp .ne 7, 3) := by decide +kernel
theorem dX11_looksFor_34 : decode cX11_looksFor 34 = .ok (.iconst 1, 1) := by decide +kernel
theorem dX11_looksFor_35 : decode cX11_looksFor 35 = .ok (.goto 4, 3) := by decide +kernel
theorem dX11_looksFor_38 : decode cX11_looksFor 38 = .ok (.iconst 0, 1) := by decide +kernel
theorem dX11_looksFor_39 : decode cX11_looksFor 39 = .ok (.ireturn, 1) := by decide +kernel
set_option maxRecDepth 20000 in
theorem ggX11_scoreNow_X11_scoreOf : GoodIn wsX11_scoreNow wsX11_scoreOf := goodIn_r _ [8, 9, 3, 10, 11, 12, 13, 14, 15, 16, 7, 17, 18, 19, 20, 21, 22, 23, 24, 25, 26, 27, 28, 29, 30, 31, 32, 33, 34, 35, 36, 37, 38, 39, 40, 41, 42, 43, 44, 45, 46, 47, 48, 49, 50, 51, 52, 53, 54, 55, 56, 57, 58, 59, 1, 60, 61, 62, 63, 64, 65, 66, 67, 68, 69, 70, 71, 72, 73, 74, 75, 76, 77, 78, 79, 80, 81, 82, 83, 84, 85, 86, 87, 88, 89, 90, 91, 92, 93, 94, 95, 96, 97, 98, 99, 100, 101, 102, 103, 104, 105, 106, 107, 108, 109, 110, 111, 112, 113, 114, 115, 116, 117, 118, 119, 120] (by decide +kernel) (by decide +kernel)
set_option maxRecDepth 20000 in
theorem gX11_scoreNow_X11_scoreOf : GoodIn wsX11_scoreNow (wsV RX11 175 RX11 yX11_scoreOf wsX11_scoreOf) := goodIn_app (goodIn_of _ (by decide +kernel)) ggX11_scoreNow_X11_scoreOf
theorem dX11_scoreNow_0 : decode cX11_scoreNow 0 = .ok (.aload_n 0, 1) := by decide +kernel
theorem dX11_scoreNow_1 : decode cX11_scoreNow 1 = .ok (.getfield 20, 3) := by decide +kernel
theorem dX11_scoreNow_4 : decode cX11_scoreNow 4 = .ok (.iload_n 2, 1) := by decide +kernel
theorem dX11_scoreNow_5 : decode cX11_scoreNow 5 = .ok (.baload, 1) := by decide +kernel
theorem dX11_scoreNow_6 : decode cX11_scoreNow 6 = .ok (.ifCond .eq 12, 3) := by decide +kernel
theorem dX11_scoreNow_9 : decode cX11_scoreNow 9 = .ok (.aload_n 0, 1) := by decide +kernel
theorem dX11_scoreNow_10 : decode cX11_scoreNow 10 = .ok (.getfield 16, 3) := by decide +kernel
theorem dX11_scoreNow_13 : decode cX11_scoreNow 13 = .ok (.iload_n 2, 1) := by decide +kernel
theorem dX11_scoreNow_14 : decode cX11_scoreNow 14 = .ok (.baload, 1) := by decide +kernel
theorem dX11_scoreNow_15 : decode cX11_scoreNow 15 = .ok (.ifCond .eq 5, 3) := by decide +kernel
theorem dX11_scoreNow_18 : decode cX11_scoreNow 18 = .ok (.iconst (-1), 1) := by decide +kernel
theorem dX11_scoreNow_19 : decode cX11_scoreNow 19 = .ok (.ireturn, 1) := by decide +kernel
theorem dX11_scoreNow_20 : decode cX11_scoreNow 20 = .ok (.iconst 0, 1) := by decide +kernel
theorem dX11_scoreNow_21 : decode cX11_scoreNow 21 = .ok (.istore_n 3, 1) := by decide +kernel
theorem dX11_scoreNow_22 : decode cX11_scoreNow 22 = .ok (.iload_n 3, 1) := by decide +kernel
theorem dX11_scoreNow_23 : decode cX11_scoreNow 23 = .ok (.iload_n 1, 1) := by decide +kernel
theorem dX11_scoreNow_24 : decode cX11_scoreNow 24 = .ok (.if_icmp .gt 21, 3) := by decide +kernel
theorem dX11_scoreNow_27 : decode cX11_scoreNow 27 = .ok (.aload_n 0, 1) := by decide +kernel
theorem dX11_scoreNow_28 : decode cX11_scoreNow 28 = .ok (.getfield 71, 3) := by decide +kernel
theorem dX11_scoreNow_31 : decode cX11_scoreNow 31 = .ok (.iload_n 3, 1) := by decide +kernel
theorem dX11_scoreNow_32 : decode cX11_scoreNow 32 = .ok (.aload_n 0, 1) := by decide +kernel
theorem dX11_scoreNow_33 : decode cX11_scoreNow 33 = .ok (.iload_n 3, 1) := by decide +kernel
theorem dX11_scoreNow_34 : decode cX11_scoreNow 34 = .ok (.iload_n 2, 1) := by decide +kernel
theorem dX11_scoreNow_35 : decode cX11_scoreNow 35 = .ok (.invokevirtual 175, 3) := by decide +kernel
theorem dX11_scoreNow_38 : decode cX11_scoreNow 38 = .ok (.iastore, 1) := by decide +kernel
theorem dX11_scoreNow_39 : decode cX11_scoreNow 39 = .ok (.iinc 3 1, 3) := by decide +kernel
theorem dX11_scoreNow_42 : decode cX11_scoreNow 42 = .ok (.goto (-20), 3) := by decide +kernel
theorem dX11_scoreNow_45 : decode cX11_scoreNow 45 = .ok (.aload_n 0, 1) := by decide +kernel
theorem dX11_scoreNow_46 : decode cX11_scoreNow 46 = .ok (.getfield 71, 3) := by decide +kernel
theorem dX11_scoreNow_49 : decode cX11_scoreNow 49 = .ok (.iload_n 1, 1) := by decide +kernel
theorem dX11_scoreNow_50 : decode cX11_scoreNow 50 = .ok (.iaload, 1) := by decide +kernel
theorem dX11_scoreNow_51 : decode cX11_scoreNow 51 = .ok (.ireturn, 1) := by decide +kernel
set_option maxRecDepth 20000 in
theorem ggX11_scoreOf_X11_termScore : GoodIn wsX11_scoreOf wsX11_termScore := goodIn_r _ [11, 4, 3, 12, 13, 14, 15, 10, 16, 17, 18, 19, 20, 21, 22, 23, 24, 25, 26, 27, 28, 29, 30, 31, 32, 33, 34, 35, 36, 37, 38, 39, 40, 41, 42, 43, 44, 45, 46, 47, 48, 49, 50, 51, 52, 53, 54, 55, 56, 57, 58, 59, 60, 61, 62, 63, 64, 65, 66, 67, 68, 69, 86, 87, 88, 89, 90, 91, 92, 93, 94, 95, 96, 97, 98, 99, 100, 101, 102, 103, 104, 105, 106, 107, 108, 109, 110, 111, 112, 113, 114, 115] (by decide +kernel) (by decide +kernel)
set_option maxRecDepth 20000 in
theorem gX11_scoreOf_X11_termScore : GoodIn wsX11_scoreOf (wsV RX11 178 RX11 yX11_termScore wsX11_termScore) := goodIn_app (goodIn_of _ (by decide +kernel)) ggX11_scoreOf_X11_termScore
set_option maxRecDepth 20000 in
theorem ggX11_scoreOf_X11_least : GoodIn wsX11_scoreOf wsX11_least := goodIn_r _ [64, 65, 66, 67, 68, 69] (by decide +kernel) (by decide +kernel)
set_option maxRecDepth 20000 in
theorem gX11_scoreOf_X11_least : GoodIn wsX11_scoreOf (va_wsS RX11 181 yX11_least wsX11_least) := goodIn_app (goodIn_of _ (by decide +kernel)) ggX11_scoreOf_X11_least
set_option maxRecDepth 20000 in
theorem ggX11_scoreOf_X11_nearFields : GoodIn wsX11_scoreOf wsX11_nearFields := goodIn_r _ [73, 4, 3, 74, 75, 68, 76, 77, 78, 13, 14, 15, 10, 16, 17, 18, 19, 20, 21, 22, 23, 24, 25, 26, 27, 12, 86, 87, 88, 89, 90, 91, 92, 93, 94, 95, 96, 97, 98, 99, 100, 101, 102, 103, 104, 105, 106, 107, 108, 109, 110, 111, 112, 113, 114, 115] (by decide +kernel) (by decide +kernel)
set_option maxRecDepth 20000 in
theorem gX11_scoreOf_X11_nearFields : GoodIn wsX11_scoreOf (wsV RX11 184 RX11 yX11_nearFields wsX11_nearFields) := goodIn_app (goodIn_of _ (by decide +kernel)) ggX11_scoreOf_X11_nearFields
set_option maxRecDepth 20000 in
theorem ggX11_scoreOf_X11_isIn : GoodIn wsX11_scoreOf wsX11_isIn := goodIn_r _ [81] (by decide +kernel) (by decide +kernel)
set_option maxRecDepth 20000 in
theorem gX11_scoreOf_X11_isIn : GoodIn wsX11_scoreOf (va_wsS RX11 78 yX11_isIn wsX11_isIn) := goodIn_app (goodIn_of _ (by decide +kernel)) ggX11_scoreOf_X11_isIn
set_option maxRecDepth 20000 in
theorem ggX11_scoreOf_X11_mostScore : GoodIn wsX11_scoreOf wsX11_mostScore := goodIn_r _ [85, 3, 4, 2, 77, 62, 63, 10, 64, 65, 66, 67, 68, 69, 86, 87, 88, 89, 90, 91, 92, 93, 94, 95, 96, 97, 98, 99, 100, 101, 102, 103, 104, 105, 106, 107, 108, 109, 110, 111, 112, 113, 114, 115] (by decide +kernel) (by decide +kernel)
set_option maxRecDepth 20000 in
theorem gX11_scoreOf_X11_mostScore : GoodIn wsX11_scoreOf (wsV RX11 187 RX11 yX11_mostScore wsX11_mostScore) := goodIn_app (goodIn_of _ (by decide +kernel)) ggX11_scoreOf_X11_mostScore
theorem dX11_scoreOf_0 : decode cX11_scoreOf 0 = .ok (.aload_n 0, 1) := by decide +kernel
theorem dX11_scoreOf_1 : decode cX11_scoreOf 1 = .ok (.getfield 44, 3) := by decide +kernel
theorem dX11_scoreOf_4 : decode cX11_scoreOf 4 = .ok (.iload_n 1, 1) := by decide +kernel
theorem dX11_scoreOf_5 : decode cX11_scoreOf 5 = .ok (.iaload, 1) := by decide +kernel
theorem dX11_scoreOf_6 : decode cX11_scoreOf 6 = .ok (.tableswitch 316 0 7 #[46, 53, 99, 150, 180, 227, 257, 281], 46) := by decide +kernel
theorem dX11_scoreOf_52 : decode cX11_scoreOf 52 = .ok (.aload_n 0, 1) := by decide +kernel
theorem dX11_scoreOf_53 : decode cX11_scoreOf 53 = .ok (.iload_n 1, 1) := by decide +kernel
theorem dX11_scoreOf_54 : decode cX11_scoreOf 54 = .ok (.iload_n 2, 1) := by decide +kernel
theorem dX11_scoreOf_55 : decode cX11_scoreOf 55 = .ok (.invokevirtual 178, 3) := by decide +kernel
theorem dX11_scoreOf_58 : decode cX11_scoreOf 58 = .ok (.ireturn, 1) := by decide +kernel
theorem dX11_scoreOf_59 : decode cX11_scoreOf 59 = .ok (.aload_n 0, 1) := by decide +kernel
theorem dX11_scoreOf_60 : decode cX11_scoreOf 60 = .ok (.getfield 71, 3) := by decide +kernel
theorem dX11_scoreOf_63 : decode cX11_scoreOf 63 = .ok (.aload_n 0, 1) := by decide +kernel
theorem dX11_scoreOf_64 : decode cX11_scoreOf 64 = .ok (.getfield 47, 3) := by decide +kernel
theorem dX11_scoreOf_67 : decode cX11_scoreOf 67 = .ok (.iload_n 1, 1) := by decide +kernel
theorem dX11_scoreOf_68 : decode cX11_scoreOf 68 = .ok (.iaload, 1) := by decide +kernel
theorem dX11_scoreOf_69 : decode cX11_scoreOf 69 = .ok (.iaload, 1) := by decide +kernel
theorem dX11_scoreOf_70 : decode cX11_scoreOf 70 = .ok (.istore_n 3, 1) := by decide +kernel
theorem dX11_scoreOf_71 : decode cX11_scoreOf 71 = .ok (.aload_n 0, 1) := by decide +kernel
theorem dX11_scoreOf_72 : decode cX11_scoreOf 72 = .ok (.getfield 71, 3) := by decide +kernel
theorem dX11_scoreOf_75 : decode cX11_scoreOf 75 = .ok (.aload_n 0, 1) := by decide +kernel
theorem dX11_scoreOf_76 : decode cX11_scoreOf 76 = .ok (.getfield 50, 3) := by decide +kernel
theorem dX11_scoreOf_79 : decode cX11_scoreOf 79 = .ok (.iload_n 1, 1) := by decide +kernel
theorem dX11_scoreOf_80 : decode cX11_scoreOf 80 = .ok (.iaload, 1) := by decide +kernel
theorem dX11_scoreOf_81 : decode cX11_scoreOf 81 = .ok (.iaload, 1) := by decide +kernel
theorem dX11_scoreOf_82 : decode cX11_scoreOf 82 = .ok (.istore 4, 2) := by decide +kernel
theorem dX11_scoreOf_84 : decode cX11_scoreOf 84 = .ok (.iload_n 3, 1) := by decide +kernel
theorem dX11_scoreOf_85 : decode cX11_scoreOf 85 = .ok (.ifCond .lt 8, 3) := by decide +kernel
theorem dX11_scoreOf_88 : decode cX11_scoreOf 88 = .ok (.iload 4, 2) := by decide +kernel
theorem dX11_scoreOf_90 : decode cX11_scoreOf 90 = .ok (.ifCond .ge 7, 3) := by decide +kernel
theorem dX11_scoreOf_93 : decode cX11_scoreOf 93 = .ok (.iconst (-1), 1) := by decide +kernel
theorem dX11_scoreOf_94 : decode cX11_scoreOf 94 = .ok (.goto 10, 3) := by decide +kernel
theorem dX11_scoreOf_97 : decode cX11_scoreOf 97 = .ok (.iload_n 3, 1) := by decide +kernel
theorem dX11_scoreOf_98 : decode cX11_scoreOf 98 = .ok (.iload 4, 2) := by decide +kernel
theorem dX11_scoreOf_100 : decode cX11_scoreOf 100 = .ok (.iadd, 1) := by decide +kernel
theorem dX11_scoreOf_101 : decode cX11_scoreOf 101 = .ok (.invokestatic 181, 3) := by decide +kernel
theorem dX11_scoreOf_104 : decode cX11_scoreOf 104 = .ok (.ireturn, 1) := by decide +kernel
theorem dX11_scoreOf_105 : decode cX11_scoreOf 105 = .ok (.aload_n 0, 1) := by decide +kernel
theorem dX11_scoreOf_106 : decode cX11_scoreOf 106 = .ok (.getfield 71, 3) := by decide +kernel
theorem dX11_scoreOf_109 : decode cX11_scoreOf 109 = .ok (.aload_n 0, 1) := by decide +kernel
theorem dX11_scoreOf_110 : decode cX11_scoreOf 110 = .ok (.getfield 47, 3) := by decide +kernel
theorem dX11_scoreOf_113 : decode cX11_scoreOf 113 = .ok (.iload_n 1, 1) := by decide +kernel
theorem dX11_scoreOf_114 : decode cX11_scoreOf 114 = .ok (.iaload, 1) := by decide +kernel
theorem dX11_scoreOf_115 : decode cX11_scoreOf 115 = .ok (.iaload, 1) := by decide +kernel
theorem dX11_scoreOf_116 : decode cX11_scoreOf 116 = .ok (.istore_n 3, 1) := by decide +kernel
theorem dX11_scoreOf_117 : decode cX11_scoreOf 117 = .ok (.aload_n 0, 1) := by decide +kernel
theorem dX11_scoreOf_118 : decode cX11_scoreOf 118 = .ok (.getfield 71, 3) := by decide +kernel
theorem dX11_scoreOf_121 : decode cX11_scoreOf 121 = .ok (.aload_n 0, 1) := by decide +kernel
theorem dX11_scoreOf_122 : decode cX11_scoreOf 122 = .ok (.getfield 50, 3) := by decide +kernel
theorem dX11_scoreOf_125 : decode cX11_scoreOf 125 = .ok (.iload_n 1, 1) := by decide +kernel
theorem dX11_scoreOf_126 : decode cX11_scoreOf 126 = .ok (.iaload, 1) := by decide +kernel
theorem dX11_scoreOf_127 : decode cX11_scoreOf 127 = .ok (.iaload, 1) := by decide +kernel
theorem dX11_scoreOf_128 : decode cX11_scoreOf 128 = .ok (.istore 4, 2) := by decide +kernel
theorem dX11_scoreOf_130 : decode cX11_scoreOf 130 = .ok (.iload_n 3, 1) := by decide +kernel
theorem dX11_scoreOf_131 : decode cX11_scoreOf 131 = .ok (.ifCond .ge 8, 3) := by decide +kernel
theorem dX11_scoreOf_134 : decode cX11_scoreOf 134 = .ok (.iload 4, 2) := by decide +kernel
theorem dX11_scoreOf_136 : decode cX11_scoreOf 136 = .ok (.goto 19, 3) := by decide +kernel
theorem dX11_scoreOf_139 : decode cX11_scoreOf 139 = .ok (.iload 4, 2) := by decide +kernel
theorem dX11_scoreOf_141 : decode cX11_scoreOf 141 = .ok (.ifCond .ge 7, 3) := by decide +kernel
theorem dX11_scoreOf_144 : decode cX11_scoreOf 144 = .ok (.iload_n 3, 1) := by decide +kernel
theorem dX11_scoreOf_145 : decode cX11_scoreOf 145 = .ok (.goto 10, 3) := by decide +kernel
theorem dX11_scoreOf_148 : decode cX11_scoreOf 148 = .ok (.iload_n 3, 1) := by decide +kernel
theorem dX11_scoreOf_149 : decode cX11_scoreOf 149 = .ok (.iload 4, 2) := by decide +kernel
theorem dX11_scoreOf_151 : decode cX11_scoreOf 151 = .ok (.iadd, 1) := by decide +kernel
theorem dX11_scoreOf_152 : decode cX11_scoreOf 152 = .ok (.invokestatic 181, 3) := by decide +kernel
theorem dX11_scoreOf_155 : decode cX11_scoreOf 155 = .ok (.ireturn, 1) := by decide +kernel
theorem dX11_scoreOf_156 : decode cX11_scoreOf 156 = .ok (.aload_n 0, 1) := by decide +kernel
theorem dX11_scoreOf_157 : decode cX11_scoreOf 157 = .ok (.getfield 71, 3) := by decide +kernel
theorem dX11_scoreOf_160 : decode cX11_scoreOf 160 = .ok (.aload_n 0, 1) := by decide +kernel
theorem dX11_scoreOf_161 : decode cX11_scoreOf 161 = .ok (.getfield 50, 3) := by decide +kernel
theorem dX11_scoreOf_164 : decode cX11_scoreOf 164 = .ok (.iload_n 1, 1) := by decide +kernel
theorem dX11_scoreOf_165 : decode cX11_scoreOf 165 = .ok (.iaload, 1) := by decide +kernel
theorem dX11_scoreOf_166 : decode cX11_scoreOf 166 = .ok (.iaload, 1) := by decide +kernel
theorem dX11_scoreOf_167 : decode cX11_scoreOf 167 = .ok (.ifCond .ge 17, 3) := by decide +kernel
theorem dX11_scoreOf_170 : decode cX11_scoreOf 170 = .ok (.aload_n 0, 1) := by decide +kernel
theorem dX11_scoreOf_171 : decode cX11_scoreOf 171 = .ok (.getfield 71, 3) := by decide +kernel
theorem dX11_scoreOf_174 : decode cX11_scoreOf 174 = .ok (.aload_n 0, 1) := by decide +kernel
theorem dX11_scoreOf_175 : decode cX11_scoreOf 175 = .ok (.getfield 47, 3) := by decide +kernel
theorem dX11_scoreOf_178 : decode cX11_scoreOf 178 = .ok (.iload_n 1, 1) := by decide +kernel
theorem dX11_scoreOf_179 : decode cX11_scoreOf 179 = .ok (.iaload, 1) := by decide +kernel
theorem dX11_scoreOf_180 : decode cX11_scoreOf 180 = .ok (.iaload, 1) := by decide +kernel
theorem dX11_scoreOf_181 : decode cX11_scoreOf 181 = .ok (.goto 4, 3) := by decide +kernel
theorem dX11_scoreOf_184 : decode cX11_scoreOf 184 = .ok (.iconst (-1), 1) := by decide +kernel
theorem dX11_scoreOf_185 : decode cX11_scoreOf 185 = .ok (.ireturn, 1) := by decide +kernel
theorem dX11_scoreOf_186 : decode cX11_scoreOf 186 = .ok (.aload_n 0, 1) := by decide +kernel
theorem dX11_scoreOf_187 : decode cX11_scoreOf 187 = .ok (.iload_n 1, 1) := by decide +kernel
theorem dX11_scoreOf_188 : decode cX11_scoreOf 188 = .ok (.iload_n 2, 1) := by decide +kernel
theorem dX11_scoreOf_189 : decode cX11_scoreOf 189 = .ok (.invokevirtual 184, 3) := by decide +kernel
theorem dX11_scoreOf_192 : decode cX11_scoreOf 192 = .ok (.istore_n 3, 1) := by decide +kernel
theorem dX11_scoreOf_193 : decode cX11_scoreOf 193 = .ok (.iload_n 3, 1) := by decide +kernel
theorem dX11_scoreOf_194 : decode cX11_scoreOf 194 = .ok (.ifCond .ne 7, 3) := by decide +kernel
theorem dX11_scoreOf_197 : decode cX11_scoreOf 197 = .ok (.iconst (-1), 1) := by decide +kernel
theorem dX11_scoreOf_198 : decode cX11_scoreOf 198 = .ok (.goto 34, 3) := by decide +kernel
theorem dX11_scoreOf_201 : decode cX11_scoreOf 201 = .ok (.aload_n 0, 1) := by decide +kernel
theorem dX11_scoreOf_202 : decode cX11_scoreOf 202 = .ok (.getfield 71, 3) := by decide +kernel
theorem dX11_scoreOf_205 : decode cX11_scoreOf 205 = .ok (.aload_n 0, 1) := by decide +kernel
theorem dX11_scoreOf_206 : decode cX11_scoreOf 206 = .ok (.getfield 47, 3) := by decide +kernel
theorem dX11_scoreOf_209 : decode cX11_scoreOf 209 = .ok (.iload_n 1, 1) := by decide +kernel
theorem dX11_scoreOf_210 : decode cX11_scoreOf 210 = .ok (.iaload, 1) := by decide +kernel
theorem dX11_scoreOf_211 : decode cX11_scoreOf 211 = .ok (.iaload, 1) := by decide +kernel
theorem dX11_scoreOf_212 : decode cX11_scoreOf 212 = .ok (.aload_n 0, 1) := by decide +kernel
theorem dX11_scoreOf_213 : decode cX11_scoreOf 213 = .ok (.getfield 71, 3) := by decide +kernel
theorem dX11_scoreOf_216 : decode cX11_scoreOf 216 = .ok (.aload_n 0, 1) := by decide +kernel
theorem dX11_scoreOf_217 : decode cX11_scoreOf 217 = .ok (.getfield 50, 3) := by decide +kernel
theorem dX11_scoreOf_220 : decode cX11_scoreOf 220 = .ok (.iload_n 1, 1) := by decide +kernel
theorem dX11_scoreOf_221 : decode cX11_scoreOf 221 = .ok (.iaload, 1) := by decide +kernel
theorem dX11_scoreOf_222 : decode cX11_scoreOf 222 = .ok (.iaload, 1) := by decide +kernel
theorem dX11_scoreOf_223 : decode cX11_scoreOf 223 = .ok (.iadd, 1) := by decide +kernel
theorem dX11_scoreOf_224 : decode cX11_scoreOf 224 = .ok (.bipush 100, 2) := by decide +kernel
theorem dX11_scoreOf_226 : decode cX11_scoreOf 226 = .ok (.iload_n 3, 1) := by decide +kernel
theorem dX11_scoreOf_227 : decode cX11_scoreOf 227 = .ok (.imul, 1) := by decide +kernel
theorem dX11_scoreOf_228 : decode cX11_scoreOf 228 = .ok (.iadd, 1) := by decide +kernel
theorem dX11_scoreOf_229 : decode cX11_scoreOf 229 = .ok (.invokestatic 181, 3) := by decide +kernel
theorem dX11_scoreOf_232 : decode cX11_scoreOf 232 = .ok (.ireturn, 1) := by decide +kernel
theorem dX11_scoreOf_233 : decode cX11_scoreOf 233 = .ok (.aload_n 0, 1) := by decide +kernel
theorem dX11_scoreOf_234 : decode cX11_scoreOf 234 = .ok (.getfield 9, 3) := by decide +kernel
theorem dX11_scoreOf_237 : decode cX11_scoreOf 237 = .ok (.iload_n 2, 1) := by decide +kernel
theorem dX11_scoreOf_238 : decode cX11_scoreOf 238 = .ok (.iaload, 1) := by decide +kernel
theorem dX11_scoreOf_239 : decode cX11_scoreOf 239 = .ok (.aload_n 0, 1) := by decide +kernel
theorem dX11_scoreOf_240 : decode cX11_scoreOf 240 = .ok (.getfield 47, 3) := by decide +kernel
theorem dX11_scoreOf_243 : decode cX11_scoreOf 243 = .ok (.iload_n 1, 1) := by decide +kernel
theorem dX11_scoreOf_244 : decode cX11_scoreOf 244 = .ok (.iaload, 1) := by decide +kernel
theorem dX11_scoreOf_245 : decode cX11_scoreOf 245 = .ok (.aload_n 0, 1) := by decide +kernel
theorem dX11_scoreOf_246 : decode cX11_scoreOf 246 = .ok (.getfield 50, 3) := by decide +kernel
theorem dX11_scoreOf_249 : decode cX11_scoreOf 249 = .ok (.iload_n 1, 1) := by decide +kernel
theorem dX11_scoreOf_250 : decode cX11_scoreOf 250 = .ok (.iaload, 1) := by decide +kernel
theorem dX11_scoreOf_251 : decode cX11_scoreOf 251 = .ok (.invokestatic 78, 3) := by decide +kernel
theorem dX11_scoreOf_254 : decode cX11_scoreOf 254 = .ok (.ifCond .eq 7, 3) := by decide +kernel
theorem dX11_scoreOf_257 : decode cX11_scoreOf 257 = .ok (.iconst 0, 1) := by decide +kernel
theorem dX11_scoreOf_258 : decode cX11_scoreOf 258 = .ok (.goto 4, 3) := by decide +kernel
theorem dX11_scoreOf_261 : decode cX11_scoreOf 261 = .ok (.iconst (-1), 1) := by decide +kernel
theorem dX11_scoreOf_262 : decode cX11_scoreOf 262 = .ok (.ireturn, 1) := by decide +kernel
theorem dX11_scoreOf_263 : decode cX11_scoreOf 263 = .ok (.aload_n 0, 1) := by decide +kernel
theorem dX11_scoreOf_264 : decode cX11_scoreOf 264 = .ok (.getfield 47, 3) := by decide +kernel
theorem dX11_scoreOf_267 : decode cX11_scoreOf 267 = .ok (.iload_n 1, 1) := by decide +kernel
theorem dX11_scoreOf_268 : decode cX11_scoreOf 268 = .ok (.iaload, 1) := by decide +kernel
theorem dX11_scoreOf_269 : decode cX11_scoreOf 269 = .ok (.aload_n 0, 1) := by decide +kernel
theorem dX11_scoreOf_270 : decode cX11_scoreOf 270 = .ok (.getfield 13, 3) := by decide +kernel
theorem dX11_scoreOf_273 : decode cX11_scoreOf 273 = .ok (.iload_n 2, 1) := by decide +kernel
theorem dX11_scoreOf_274 : decode cX11_scoreOf 274 = .ok (.iaload, 1) := by decide +kernel
theorem dX11_scoreOf_275 : decode cX11_scoreOf 275 = .ok (.ishr, 1) := by decide +kernel
theorem dX11_scoreOf_276 : decode cX11_scoreOf 276 = .ok (.iconst 1, 1) := by decide +kernel
theorem dX11_scoreOf_277 : decode cX11_scoreOf 277 = .ok (.iand, 1) := by decide +kernel
theorem dX11_scoreOf_278 : decode cX11_scoreOf 278 = .ok (.ifCond .eq 7, 3) := by decide +kernel
theorem dX11_scoreOf_281 : decode cX11_scoreOf 281 = .ok (.iconst 0, 1) := by decide +kernel
theorem dX11_scoreOf_282 : decode cX11_scoreOf 282 = .ok (.goto 4, 3) := by decide +kernel
theorem dX11_scoreOf_285 : decode cX11_scoreOf 285 = .ok (.iconst (-1), 1) := by decide +kernel
theorem dX11_scoreOf_286 : decode cX11_scoreOf 286 = .ok (.ireturn, 1) := by decide +kernel
theorem dX11_scoreOf_287 : decode cX11_scoreOf 287 = .ok (.aload_n 0, 1) := by decide +kernel
theorem dX11_scoreOf_288 : decode cX11_scoreOf 288 = .ok (.getfield 71, 3) := by decide +kernel
theorem dX11_scoreOf_291 : decode cX11_scoreOf 291 = .ok (.aload_n 0, 1) := by decide +kernel
theorem dX11_scoreOf_292 : decode cX11_scoreOf 292 = .ok (.getfield 47, 3) := by decide +kernel
theorem dX11_scoreOf_295 : decode cX11_scoreOf 295 = .ok (.iload_n 1, 1) := by decide +kernel
theorem dX11_scoreOf_296 : decode cX11_scoreOf 296 = .ok (.iaload, 1) := by decide +kernel
theorem dX11_scoreOf_297 : decode cX11_scoreOf 297 = .ok (.iaload, 1) := by decide +kernel
theorem dX11_scoreOf_298 : decode cX11_scoreOf 298 = .ok (.istore_n 3, 1) := by decide +kernel
theorem dX11_scoreOf_299 : decode cX11_scoreOf 299 = .ok (.iload_n 3, 1) := by decide +kernel
theorem dX11_scoreOf_300 : decode cX11_scoreOf 300 = .ok (.ifCond .ge 7, 3) := by decide +kernel
theorem dX11_scoreOf_303 : decode cX11_scoreOf 303 = .ok (.iconst (-1), 1) := by decide +kernel
theorem dX11_scoreOf_304 : decode cX11_scoreOf 304 = .ok (.goto 17, 3) := by decide +kernel
theorem dX11_scoreOf_307 : decode cX11_scoreOf 307 = .ok (.iload_n 3, 1) := by decide +kernel
theorem dX11_scoreOf_308 : decode cX11_scoreOf 308 = .ok (.aload_n 0, 1) := by decide +kernel
theorem dX11_scoreOf_309 : decode cX11_scoreOf 309 = .ok (.getfield 50, 3) := by decide +kernel
theorem dX11_scoreOf_312 : decode cX11_scoreOf 312 = .ok (.iload_n 1, 1) := by decide +kernel
theorem dX11_scoreOf_313 : decode cX11_scoreOf 313 = .ok (.iaload, 1) := by decide +kernel
theorem dX11_scoreOf_314 : decode cX11_scoreOf 314 = .ok (.imul, 1) := by decide +kernel
theorem dX11_scoreOf_315 : decode cX11_scoreOf 315 = .ok (.bipush 100, 2) := by decide +kernel
theorem dX11_scoreOf_317 : decode cX11_scoreOf 317 = .ok (.idiv, 1) := by decide +kernel
theorem dX11_scoreOf_318 : decode cX11_scoreOf 318 = .ok (.invokestatic 181, 3) := by decide +kernel
theorem dX11_scoreOf_321 : decode cX11_scoreOf 321 = .ok (.ireturn, 1) := by decide +kernel
theorem dX11_scoreOf_322 : decode cX11_scoreOf 322 = .ok (.aload_n 0, 1) := by decide +kernel
theorem dX11_scoreOf_323 : decode cX11_scoreOf 323 = .ok (.iload_n 1, 1) := by decide +kernel
theorem dX11_scoreOf_324 : decode cX11_scoreOf 324 = .ok (.invokevirtual 187, 3) := by decide +kernel
theorem dX11_scoreOf_327 : decode cX11_scoreOf 327 = .ok (.ireturn, 1) := by decide +kernel
set_option maxRecDepth 20000 in
theorem ggX11_termScore_X11_many : GoodIn wsX11_termScore wsX11_many := goodIn_r _ [8, 9, 62, 63, 64, 65, 66, 67, 68, 69, 70, 71, 72, 73, 74, 75, 76, 77, 78, 79, 80, 81, 82, 83, 84, 85, 86, 87, 88, 89, 90, 91] (by decide +kernel) (by decide +kernel)
set_option maxRecDepth 20000 in
theorem gX11_termScore_X11_many : GoodIn wsX11_termScore (wsV RX11 115 RX11 yX11_many wsX11_many) := goodIn_app (goodIn_of _ (by decide +kernel)) ggX11_termScore_X11_many
set_option maxRecDepth 20000 in
theorem ggX11_termScore_X11_at : GoodIn wsX11_termScore wsX11_at := goodIn_r _ [13, 14, 62, 63, 64, 65, 66, 67, 68, 69, 70, 71, 72, 73, 74, 75, 76, 77, 78, 79, 80, 81, 82, 83, 84, 85, 86, 87, 88, 89, 90, 91] (by decide +kernel) (by decide +kernel)
set_option maxRecDepth 20000 in
theorem gX11_termScore_X11_at : GoodIn wsX11_termScore (wsV RX11 119 RX11 yX11_at wsX11_at) := goodIn_app (goodIn_of _ (by decide +kernel)) ggX11_termScore_X11_at
set_option maxRecDepth 20000 in
theorem ggX11_termScore_X11_looksFor : GoodIn wsX11_termScore wsX11_looksFor := goodIn_r _ [18, 19, 2, 3, 62, 63, 64, 65, 66, 67, 68, 69, 70, 71, 72, 73, 74, 75, 76, 77, 78, 79, 80, 81, 82, 83, 84, 85, 86, 87, 88, 89, 90, 91] (by decide +kernel) (by decide +kernel)
set_option maxRecDepth 20000 in
theorem gX11_termScore_X11_looksFor : GoodIn wsX11_termScore (wsV RX11 190 RX11 yX11_looksFor wsX11_looksFor) := goodIn_app (goodIn_of _ (by decide +kernel)) ggX11_termScore_X11_looksFor
set_option maxRecDepth 20000 in
theorem ggX11_termScore_X11_taste : GoodIn wsX11_termScore wsX11_taste := goodIn_r _ [23, 24, 25, 26, 27, 28, 7, 29, 19, 4, 5, 6, 8, 9, 10, 11, 12, 13, 14, 30, 31, 32, 33, 34, 35, 36, 37, 38, 39, 40, 41, 42, 43, 44, 45, 46, 47, 48, 49, 50, 51, 52, 53, 62, 63, 64, 65, 66, 67, 68, 69, 70, 71, 72, 73, 74, 75, 76, 77, 78, 79, 80, 81, 82, 83, 84, 85, 86, 87, 88, 89, 90, 91] (by decide +kernel) (by decide +kernel)
set_option maxRecDepth 20000 in
theorem gX11_termScore_X11_taste : GoodIn wsX11_termScore (wsV RX11 194 RX11 yX11_taste wsX11_taste) := goodIn_app (goodIn_of _ (by decide +kernel)) ggX11_termScore_X11_taste
set_option maxRecDepth 20000 in
theorem ggX11_termScore_X11_least : GoodIn wsX11_termScore wsX11_least := goodIn_r _ [56, 57, 58, 59, 60, 61] (by decide +kernel) (by decide +kernel)
set_option maxRecDepth 20000 in
theorem gX11_termScore_X11_least : GoodIn wsX11_termScore (va_wsS RX11 181 yX11_least wsX11_least) := goodIn_app (goodIn_of _ (by decide +kernel)) ggX11_termScore_X11_least
theorem dX11_termScore_0 : decode cX11_termScore 0 = .ok (.iconst 0, 1) := by decide +kernel
theorem dX11_termScore_1 : decode cX11_termScore 1 = .ok (.istore_n 3, 1) := by decide +kernel
theorem dX11_termScore_2 : decode cX11_termScore 2 = .ok (.iconst 0, 1) := by decide +kernel
theorem dX11_termScore_3 : decode cX11_termScore 3 = .ok (.istore 4, 2) := by decide +kernel
theorem dX11_termScore_5 : decode cX11_termScore 5 = .ok (.iconst 0, 1) := by decide +kernel
theorem dX11_termScore_6 : decode cX11_termScore 6 = .ok (.istore 5, 2) := by decide +kernel
theorem dX11_termScore_8 : decode cX11_termScore 8 = .ok (.iload 5, 2) := by decide +kernel
theorem dX11_termScore_10 : decode cX11_termScore 10 = .ok (.iconst 3, 1) := by decide +kernel
theorem dX11_termScore_11 : decode cX11_termScore 11 = .ok (.if_icmp .ge 120, 3) := by decide +kernel
theorem dX11_termScore_14 : decode cX11_termScore 14 = .ok (.aload_n 0, 1) := by decide +kernel
theorem dX11_termScore_15 : decode cX11_termScore 15 = .ok (.getfield 50, 3) := by decide +kernel
theorem dX11_termScore_18 : decode cX11_termScore 18 = .ok (.iload_n 1, 1) := by decide +kernel
theorem dX11_termScore_19 : decode cX11_termScore 19 = .ok (.iaload, 1) := by decide +kernel
theorem dX11_termScore_20 : decode cX11_termScore 20 = .ok (.iload 5, 2) := by decide +kernel
theorem dX11_termScore_22 : decode cX11_termScore 22 = .ok (.ishr, 1) := by decide +kernel
theorem dX11_termScore_23 : decode cX11_termScore 23 = .ok (.iconst 1, 1) := by decide +kernel
theorem dX11_termScore_24 : decode cX11_termScore 24 = .ok (.iand, 1) := by decide +kernel
theorem dX11_termScore_25 : decode cX11_termScore 25 = .ok (.ifCond .ne 6, 3) := by decide +kernel
theorem dX11_termScore_28 : decode cX11_termScore 28 = .ok (.goto 97, 3) := by decide +kernel
theorem dX11_termScore_31 : decode cX11_termScore 31 = .ok (.iconst 0, 1) := by decide +kernel
theorem dX11_termScore_32 : decode cX11_termScore 32 = .ok (.istore 6, 2) := by decide +kernel
theorem dX11_termScore_34 : decode cX11_termScore 34 = .ok (.iload 6, 2) := by decide +kernel
theorem dX11_termScore_36 : decode cX11_termScore 36 = .ok (.aload_n 0, 1) := by decide +kernel
theorem dX11_termScore_37 : decode cX11_termScore 37 = .ok (.iload_n 2, 1) := by decide +kernel
theorem dX11_termScore_38 : decode cX11_termScore 38 = .ok (.iload 5, 2) := by decide +kernel
theorem dX11_termScore_40 : decode cX11_termScore 40 = .ok (.invokevirtual 115, 3) := by decide +kernel
theorem dX11_termScore_43 : decode cX11_termScore 43 = .ok (.if_icmp .ge 28, 3) := by decide +kernel
theorem dX11_termScore_46 : decode cX11_termScore 46 = .ok (.iload 4, 2) := by decide +kernel
theorem dX11_termScore_48 : decode cX11_termScore 48 = .ok (.aload_n 0, 1) := by decide +kernel
theorem dX11_termScore_49 : decode cX11_termScore 49 = .ok (.iload_n 1, 1) := by decide +kernel
theorem dX11_termScore_50 : decode cX11_termScore 50 = .ok (.aload_n 0, 1) := by decide +kernel
theorem dX11_termScore_51 : decode cX11_termScore 51 = .ok (.iload_n 2, 1) := by decide +kernel
theorem dX11_termScore_52 : decode cX11_termScore 52 = .ok (.iload 5, 2) := by decide +kernel
theorem dX11_termScore_54 : decode cX11_termScore 54 = .ok (.iload 6, 2) := by decide +kernel
theorem dX11_termScore_56 : decode cX11_termScore 56 = .ok (.invokevirtual 119, 3) := by decide +kernel
theorem dX11_termScore_59 : decode cX11_termScore 59 = .ok (.invokevirtual 190, 3) := by decide +kernel
theorem dX11_termScore_62 : decode cX11_termScore 62 = .ok (.ior, 1) := by decide +kernel
theorem dX11_termScore_63 : decode cX11_termScore 63 = .ok (.istore 4, 2) := by decide +kernel
theorem dX11_termScore_65 : decode cX11_termScore 65 = .ok (.iinc 6 1, 3) := by decide +kernel
theorem dX11_termScore_68 : decode cX11_termScore 68 = .ok (.goto (-34), 3) := by decide +kernel
theorem dX11_termScore_71 : decode cX11_termScore 71 = .ok (.iload_n 3, 1) := by decide +kernel
theorem dX11_termScore_72 : decode cX11_termScore 72 = .ok (.aload_n 0, 1) := by decide +kernel
theorem dX11_termScore_73 : decode cX11_termScore 73 = .ok (.iload_n 2, 1) := by decide +kernel
theorem dX11_termScore_74 : decode cX11_termScore 74 = .ok (.iload 5, 2) := by decide +kernel
theorem dX11_termScore_76 : decode cX11_termScore 76 = .ok (.aload_n 0, 1) := by decide +kernel
theorem dX11_termScore_77 : decode cX11_termScore 77 = .ok (.getfield 47, 3) := by decide +kernel
theorem dX11_termScore_80 : decode cX11_termScore 80 = .ok (.iload_n 1, 1) := by decide +kernel
theorem dX11_termScore_81 : decode cX11_termScore 81 = .ok (.iaload, 1) := by decide +kernel
theorem dX11_termScore_82 : decode cX11_termScore 82 = .ok (.invokevirtual 194, 3) := by decide +kernel
theorem dX11_termScore_85 : decode cX11_termScore 85 = .ok (.aload_n 0, 1) := by decide +kernel
theorem dX11_termScore_86 : decode cX11_termScore 86 = .ok (.getfield 32, 3) := by decide +kernel
theorem dX11_termScore_89 : decode cX11_termScore 89 = .ok (.aload_n 0, 1) := by decide +kernel
theorem dX11_termScore_90 : decode cX11_termScore 90 = .ok (.getfield 47, 3) := by decide +kernel
theorem dX11_termScore_93 : decode cX11_termScore 93 = .ok (.iload_n 1, 1) := by decide +kernel
theorem dX11_termScore_94 : decode cX11_termScore 94 = .ok (.iaload, 1) := by decide +kernel
theorem dX11_termScore_95 : decode cX11_termScore 95 = .ok (.iaload, 1) := by decide +kernel
theorem dX11_termScore_96 : decode cX11_termScore 96 = .ok (.iconst (-1), 1) := by decide +kernel
theorem dX11_termScore_97 : decode cX11_termScore 97 = .ok (.if_icmp .ne 7, 3) := by decide +kernel
theorem dX11_termScore_100 : decode cX11_termScore 100 = .ok (.iconst 0, 1) := by decide +kernel
theorem dX11_termScore_101 : decode cX11_termScore 101 = .ok (.goto 21, 3) := by decide +kernel
theorem dX11_termScore_104 : decode cX11_termScore 104 = .ok (.aload_n 0, 1) := by decide +kernel
theorem dX11_termScore_105 : decode cX11_termScore 105 = .ok (.iload_n 2, 1) := by decide +kernel
theorem dX11_termScore_106 : decode cX11_termScore 106 = .ok (.iload 5, 2) := by decide +kernel
theorem dX11_termScore_108 : decode cX11_termScore 108 = .ok (.aload_n 0, 1) := by decide +kernel
theorem dX11_termScore_109 : decode cX11_termScore 109 = .ok (.getfield 32, 3) := by decide +kernel
theorem dX11_termScore_112 : decode cX11_termScore 112 = .ok (.aload_n 0, 1) := by decide +kernel
theorem dX11_termScore_113 : decode cX11_termScore 113 = .ok (.getfield 47, 3) := by decide +kernel
theorem dX11_termScore_116 : decode cX11_termScore 116 = .ok (.iload_n 1, 1) := by decide +kernel
theorem dX11_termScore_117 : decode cX11_termScore 117 = .ok (.iaload, 1) := by decide +kernel
theorem dX11_termScore_118 : decode cX11_termScore 118 = .ok (.iaload, 1) := by decide +kernel
theorem dX11_termScore_119 : decode cX11_termScore 119 = .ok (.invokevirtual 194, 3) := by decide +kernel
theorem dX11_termScore_122 : decode cX11_termScore 122 = .ok (.iadd, 1) := by decide +kernel
theorem dX11_termScore_123 : decode cX11_termScore 123 = .ok (.iadd, 1) := by decide +kernel
theorem dX11_termScore_124 : decode cX11_termScore 124 = .ok (.istore_n 3, 1) := by decide +kernel
theorem dX11_termScore_125 : decode cX11_termScore 125 = .ok (.iinc 5 1, 3) := by decide +kernel
theorem dX11_termScore_128 : decode cX11_termScore 128 = .ok (.goto (-120), 3) := by decide +kernel
theorem dX11_termScore_131 : decode cX11_termScore 131 = .ok (.iload 4, 2) := by decide +kernel
theorem dX11_termScore_133 : decode cX11_termScore 133 = .ok (.ifCond .eq 10, 3) := by decide +kernel
theorem dX11_termScore_136 : decode cX11_termScore 136 = .ok (.iload_n 3, 1) := by decide +kernel
theorem dX11_termScore_137 : decode cX11_termScore 137 = .ok (.invokestatic 181, 3) := by decide +kernel
theorem dX11_termScore_140 : decode cX11_termScore 140 = .ok (.goto 4, 3) := by decide +kernel
theorem dX11_termScore_143 : decode cX11_termScore 143 = .ok (.iconst (-1), 1) := by decide +kernel
theorem dX11_termScore_144 : decode cX11_termScore 144 = .ok (.ireturn, 1) := by decide +kernel
set_option maxRecDepth 20000 in
theorem ggX11_nearFields_X11_many : GoodIn wsX11_nearFields wsX11_many := goodIn_r _ [13, 14, 26, 27, 28, 29, 30, 31, 32, 33, 34, 35, 36, 37, 38, 39, 40, 41, 42, 43, 44, 45, 46, 47, 48, 49, 50, 51, 52, 53, 54, 55] (by decide +kernel) (by decide +kernel)
set_option maxRecDepth 20000 in
theorem gX11_nearFields_X11_many : GoodIn wsX11_nearFields (wsV RX11 115 RX11 yX11_many wsX11_many) := goodIn_app (goodIn_of _ (by decide +kernel)) ggX11_nearFields_X11_many
set_option maxRecDepth 20000 in
theorem ggX11_nearFields_X11_at : GoodIn wsX11_nearFields wsX11_at := goodIn_r _ [18, 19, 26, 27, 28, 29, 30, 31, 32, 33, 34, 35, 36, 37, 38, 39, 40, 41, 42, 43, 44, 45, 46, 47, 48, 49, 50, 51, 52, 53, 54, 55] (by decide +kernel) (by decide +kernel)
set_option maxRecDepth 20000 in
theorem gX11_nearFields_X11_at : GoodIn wsX11_nearFields (wsV RX11 119 RX11 yX11_at wsX11_at) := goodIn_app (goodIn_of _ (by decide +kernel)) ggX11_nearFields_X11_at
set_option maxRecDepth 20000 in
theorem ggX11_nearFields_X11_looksFor : GoodIn wsX11_nearFields wsX11_looksFor := goodIn_r _ [23, 24, 2, 25, 26, 27, 28, 29, 30, 31, 32, 33, 34, 35, 36, 37, 38, 39, 40, 41, 42, 43, 44, 45, 46, 47, 48, 49, 50, 51, 52, 53, 54, 55] (by decide +kernel) (by decide +kernel)
set_option maxRecDepth 20000 in
theorem gX11_nearFields_X11_looksFor : GoodIn wsX11_nearFields (wsV RX11 190 RX11 yX11_looksFor wsX11_looksFor) := goodIn_app (goodIn_of _ (by decide +kernel)) ggX11_nearFields_X11_looksFor
theorem dX11_nearFields_0 : decode cX11_nearFields 0 = .ok (.iconst 0, 1) := by decide +kernel
theorem dX11_nearFields_1 : decode cX11_nearFields 1 = .ok (.istore_n 3, 1) := by decide +kernel
theorem dX11_nearFields_2 : decode cX11_nearFields 2 = .ok (.iconst 0, 1) := by decide +kernel
theorem dX11_nearFields_3 : decode cX11_nearFields 3 = .ok (.istore 4, 2) := by decide +kernel
theorem dX11_nearFields_5 : decode cX11_nearFields 5 = .ok (.iload 4, 2) := by decide +kernel
theorem dX11_nearFields_7 : decode cX11_nearFields 7 = .ok (.iconst 3, 1) := by decide +kernel
theorem dX11_nearFields_8 : decode cX11_nearFields 8 = .ok (.if_icmp .ge 214, 3) := by decide +kernel
theorem dX11_nearFields_11 : decode cX11_nearFields 11 = .ok (.aload_n 0, 1) := by decide +kernel
theorem dX11_nearFields_12 : decode cX11_nearFields 12 = .ok (.getfield 50, 3) := by decide +kernel
theorem dX11_nearFields_15 : decode cX11_nearFields 15 = .ok (.aload_n 0, 1) := by decide +kernel
theorem dX11_nearFields_16 : decode cX11_nearFields 16 = .ok (.getfield 47, 3) := by decide +kernel
theorem dX11_nearFields_19 : decode cX11_nearFields 19 = .ok (.iload_n 1, 1) := by decide +kernel
theorem dX11_nearFields_20 : decode cX11_nearFields 20 = .ok (.iaload, 1) := by decide +kernel
theorem dX11_nearFields_21 : decode cX11_nearFields 21 = .ok (.iaload, 1) := by decide +kernel
theorem dX11_nearFields_22 : decode cX11_nearFields 22 = .ok (.iload 4, 2) := by decide +kernel
theorem dX11_nearFields_24 : decode cX11_nearFields 24 = .ok (.ishr, 1) := by decide +kernel
theorem dX11_nearFields_25 : decode cX11_nearFields 25 = .ok (.iconst 1, 1) := by decide +kernel
theorem dX11_nearFields_26 : decode cX11_nearFields 26 = .ok (.iand, 1) := by decide +kernel
theorem dX11_nearFields_27 : decode cX11_nearFields 27 = .ok (.ifCond .eq 189, 3) := by decide +kernel
theorem dX11_nearFields_30 : decode cX11_nearFields 30 = .ok (.aload_n 0, 1) := by decide +kernel
theorem dX11_nearFields_31 : decode cX11_nearFields 31 = .ok (.getfield 50, 3) := by decide +kernel
theorem dX11_nearFields_34 : decode cX11_nearFields 34 = .ok (.aload_n 0, 1) := by decide +kernel
theorem dX11_nearFields_35 : decode cX11_nearFields 35 = .ok (.getfield 50, 3) := by decide +kernel
theorem dX11_nearFields_38 : decode cX11_nearFields 38 = .ok (.iload_n 1, 1) := by decide +kernel
theorem dX11_nearFields_39 : decode cX11_nearFields 39 = .ok (.iaload, 1) := by decide +kernel
theorem dX11_nearFields_40 : decode cX11_nearFields 40 = .ok (.iaload, 1) := by decide +kernel
theorem dX11_nearFields_41 : decode cX11_nearFields 41 = .ok (.iload 4, 2) := by decide +kernel
theorem dX11_nearFields_43 : decode cX11_nearFields 43 = .ok (.ishr, 1) := by decide +kernel
theorem dX11_nearFields_44 : decode cX11_nearFields 44 = .ok (.iconst 1, 1) := by decide +kernel
theorem dX11_nearFields_45 : decode cX11_nearFields 45 = .ok (.iand, 1) := by decide +kernel
theorem dX11_nearFields_46 : decode cX11_nearFields 46 = .ok (.ifCond .ne 6, 3) := by decide +kernel
theorem dX11_nearFields_49 : decode cX11_nearFields 49 = .ok (.goto 167, 3) := by decide +kernel
theorem dX11_nearFields_52 : decode cX11_nearFields 52 = .ok (.iconst 0, 1) := by decide +kernel
theorem dX11_nearFields_53 : decode cX11_nearFields 53 = .ok (.istore 5, 2) := by decide +kernel
theorem dX11_nearFields_55 : decode cX11_nearFields 55 = .ok (.iconst 0, 1) := by decide +kernel
theorem dX11_nearFields_56 : decode cX11_nearFields 56 = .ok (.istore 6, 2) := by decide +kernel
theorem dX11_nearFields_58 : decode cX11_nearFields 58 = .ok (.iload 6, 2) := by decide +kernel
theorem dX11_nearFields_60 : decode cX11_nearFields 60 = .ok (.aload_n 0, 1) := by decide +kernel
theorem dX11_nearFields_61 : decode cX11_nearFields 61 = .ok (.iload_n 2, 1) := by decide +kernel
theorem dX11_nearFields_62 : decode cX11_nearFields 62 = .ok (.iload 4, 2) := by decide +kernel
theorem dX11_nearFields_64 : decode cX11_nearFields 64 = .ok (.invokevirtual 115, 3) := by decide +kernel
theorem dX11_nearFields_67 : decode cX11_nearFields 67 = .ok (.if_icmp .ge 136, 3) := by decide +kernel
theorem dX11_nearFields_70 : decode cX11_nearFields 70 = .ok (.iconst 0, 1) := by decide +kernel
theorem dX11_nearFields_71 : decode cX11_nearFields 71 = .ok (.istore 7, 2) := by decide +kernel
theorem dX11_nearFields_73 : decode cX11_nearFields 73 = .ok (.iload 7, 2) := by decide +kernel
theorem dX11_nearFields_75 : decode cX11_nearFields 75 = .ok (.aload_n 0, 1) := by decide +kernel
theorem dX11_nearFields_76 : decode cX11_nearFields 76 = .ok (.iload_n 2, 1) := by decide +kernel
theorem dX11_nearFields_77 : decode cX11_nearFields 77 = .ok (.iload 4, 2) := by decide +kernel
theorem dX11_nearFields_79 : decode cX11_nearFields 79 = .ok (.invokevirtual 115, 3) := by decide +kernel
theorem dX11_nearFields_82 : decode cX11_nearFields 82 = .ok (.if_icmp .ge 115, 3) := by decide +kernel
theorem dX11_nearFields_85 : decode cX11_nearFields 85 = .ok (.iload 6, 2) := by decide +kernel
theorem dX11_nearFields_87 : decode cX11_nearFields 87 = .ok (.iload 7, 2) := by decide +kernel
theorem dX11_nearFields_89 : decode cX11_nearFields 89 = .ok (.if_icmp .eq 40, 3) := by decide +kernel
theorem dX11_nearFields_92 : decode cX11_nearFields 92 = .ok (.iload 6, 2) := by decide +kernel
theorem dX11_nearFields_94 : decode cX11_nearFields 94 = .ok (.iload 7, 2) := by decide +kernel
theorem dX11_nearFields_96 : decode cX11_nearFields 96 = .ok (.isub, 1) := by decide +kernel
theorem dX11_nearFields_97 : decode cX11_nearFields 97 = .ok (.invokestatic 197, 3) := by decide +kernel
theorem dX11_nearFields_100 : decode cX11_nearFields 100 = .ok (.aload_n 0, 1) := by decide +kernel
theorem dX11_nearFields_101 : decode cX11_nearFields 101 = .ok (.getfield 53, 3) := by decide +kernel
theorem dX11_nearFields_104 : decode cX11_nearFields 104 = .ok (.iload_n 1, 1) := by decide +kernel
theorem dX11_nearFields_105 : decode cX11_nearFields 105 = .ok (.iaload, 1) := by decide +kernel
theorem dX11_nearFields_106 : decode cX11_nearFields 106 = .ok (.if_icmp .gt 23, 3) := by decide +kernel
theorem dX11_nearFields_109 : decode cX11_nearFields 109 = .ok (.aload_n 0, 1) := by decide +kernel
theorem dX11_nearFields_110 : decode cX11_nearFields 110 = .ok (.getfield 56, 3) := by decide +kernel
theorem dX11_nearFields_113 : decode cX11_nearFields 113 = .ok (.iload_n 1, 1) := by decide +kernel
theorem dX11_nearFields_114 : decode cX11_nearFields 114 = .ok (.baload, 1) := by decide +kernel
theorem dX11_nearFields_115 : decode cX11_nearFields 115 = .ok (.ifCond .eq 10, 3) := by decide +kernel
theorem dX11_nearFields_118 : decode cX11_nearFields 118 = .ok (.iload 6, 2) := by decide +kernel
theorem dX11_nearFields_120 : decode cX11_nearFields 120 = .ok (.iload 7, 2) := by decide +kernel
theorem dX11_nearFields_122 : decode cX11_nearFields 122 = .ok (.if_icmp .ge 7, 3) := by decide +kernel
theorem dX11_nearFields_125 : decode cX11_nearFields 125 = .ok (.iconst 1, 1) := by decide +kernel
theorem dX11_nearFields_126 : decode cX11_nearFields 126 = .ok (.goto 4, 3) := by decide +kernel
theorem dX11_nearFields_129 : decode cX11_nearFields 129 = .ok (.iconst 0, 1) := by decide +kernel
theorem dX11_nearFields_130 : decode cX11_nearFields 130 = .ok (.istore 8, 2) := by decide +kernel
theorem dX11_nearFields_132 : decode cX11_nearFields 132 = .ok (.iload 5, 2) := by decide +kernel
theorem dX11_nearFields_134 : decode cX11_nearFields 134 = .ok (.iload 8, 2) := by decide +kernel
theorem dX11_nearFields_136 : decode cX11_nearFields 136 = .ok (.ifCond .eq 51, 3) := by decide +kernel
theorem dX11_nearFields_139 : decode cX11_nearFields 139 = .ok (.aload_n 0, 1) := by decide +kernel
theorem dX11_nearFields_140 : decode cX11_nearFields 140 = .ok (.aload_n 0, 1) := by decide +kernel
theorem dX11_nearFields_141 : decode cX11_nearFields 141 = .ok (.getfield 47, 3) := by decide +kernel
theorem dX11_nearFields_144 : decode cX11_nearFields 144 = .ok (.iload_n 1, 1) := by decide +kernel
theorem dX11_nearFields_145 : decode cX11_nearFields 145 = .ok (.iaload, 1) := by decide +kernel
theorem dX11_nearFields_146 : decode cX11_nearFields 146 = .ok (.aload_n 0, 1) := by decide +kernel
theorem dX11_nearFields_147 : decode cX11_nearFields 147 = .ok (.iload_n 2, 1) := by decide +kernel
theorem dX11_nearFields_148 : decode cX11_nearFields 148 = .ok (.iload 4, 2) := by decide +kernel
theorem dX11_nearFields_150 : decode cX11_nearFields 150 = .ok (.iload 6, 2) := by decide +kernel
theorem dX11_nearFields_152 : decode cX11_nearFields 152 = .ok (.invokevirtual 119, 3) := by decide +kernel
theorem dX11_nearFields_155 : decode cX11_nearFields 155 = .ok (.invokevirtual 190, 3) := by decide +kernel
theorem dX11_nearFields_158 : decode cX11_nearFields 158 = .ok (.ifCond .eq 29, 3) := by decide +kernel
theorem dX11_nearFields_161 : decode cX11_nearFields 161 = .ok (.aload_n 0, 1) := by decide +kernel
theorem dX11_nearFields_162 : decode cX11_nearFields 162 = .ok (.aload_n 0, 1) := by decide +kernel
theorem dX11_nearFields_163 : decode cX11_nearFields 163 = .ok (.getfield 50, 3) := by decide +kernel
theorem dX11_nearFields_166 : decode cX11_nearFields 166 = .ok (.iload_n 1, 1) := by decide +kernel
theorem dX11_nearFields_167 : decode cX11_nearFields 167 = .ok (.iaload, 1) := by decide +kernel
theorem dX11_nearFields_168 : decode cX11_nearFields 168 = .ok (.aload_n 0, 1) := by decide +kernel
theorem dX11_nearFields_169 : decode cX11_nearFields 169 = .ok (.iload_n 2, 1) := by decide +kernel
theorem dX11_nearFields_170 : decode cX11_nearFields 170 = .ok (.iload 4, 2) := by decide +kernel
theorem dX11_nearFields_172 : decode cX11_nearFields 172 = .ok (.iload 7, 2) := by decide +kernel
theorem dX11_nearFields_174 : decode cX11_nearFields 174 = .ok (.invokevirtual 119, 3) := by decide +kernel
theorem dX11_nearFields_177 : decode cX11_nearFields 177 = .ok (.invokevirtual 190, 3) := by decide +kernel
theorem dX11_nearFields_180 : decode cX11_nearFields 180 = .ok (.ifCond .eq 7, 3) := by decide +kernel
theorem dX11_nearFields_183 : decode cX11_nearFields 183 = .ok (.iconst 1, 1) := by decide +kernel
theorem dX11_nearFields_184 : decode cX11_nearFields 184 = .ok (.goto 4, 3) := by decide +kernel
theorem dX11_nearFields_187 : decode cX11_nearFields 187 = .ok (.iconst 0, 1) := by decide +kernel
theorem dX11_nearFields_188 : decode cX11_nearFields 188 = .ok (.ior, 1) := by decide +kernel
theorem dX11_nearFields_189 : decode cX11_nearFields 189 = .ok (.istore 5, 2) := by decide +kernel
theorem dX11_nearFields_191 : decode cX11_nearFields 191 = .ok (.iinc 7 1, 3) := by decide +kernel
theorem dX11_nearFields_194 : decode cX11_nearFields 194 = .ok (.goto (-121), 3) := by decide +kernel
theorem dX11_nearFields_197 : decode cX11_nearFields 197 = .ok (.iinc 6 1, 3) := by decide +kernel
theorem dX11_nearFields_200 : decode cX11_nearFields 200 = .ok (.goto (-142), 3) := by decide +kernel
theorem dX11_nearFields_203 : decode cX11_nearFields 203 = .ok (.iload_n 3, 1) := by decide +kernel
theorem dX11_nearFields_204 : decode cX11_nearFields 204 = .ok (.iload 5, 2) := by decide +kernel
theorem dX11_nearFields_206 : decode cX11_nearFields 206 = .ok (.ifCond .eq 7, 3) := by decide +kernel
theorem dX11_nearFields_209 : decode cX11_nearFields 209 = .ok (.iconst 1, 1) := by decide +kernel
theorem dX11_nearFields_210 : decode cX11_nearFields 210 = .ok (.goto 4, 3) := by decide +kernel
theorem dX11_nearFields_213 : decode cX11_nearFields 213 = .ok (.iconst 0, 1) := by decide +kernel
theorem dX11_nearFields_214 : decode cX11_nearFields 214 = .ok (.iadd, 1) := by decide +kernel
theorem dX11_nearFields_215 : decode cX11_nearFields 215 = .ok (.istore_n 3, 1) := by decide +kernel
theorem dX11_nearFields_216 : decode cX11_nearFields 216 = .ok (.iinc 4 1, 3) := by decide +kernel
theorem dX11_nearFields_219 : decode cX11_nearFields 219 = .ok (.goto (-214), 3) := by decide +kernel
theorem dX11_nearFields_222 : decode cX11_nearFields 222 = .ok (.iload_n 3, 1) := by decide +kernel
theorem dX11_nearFields_223 : decode cX11_nearFields 223 = .ok (.ireturn, 1) := by decide +kernel
set_option maxRecDepth 20000 in
theorem ggX11_mostScore_X11_least : GoodIn wsX11_mostScore wsX11_least := goodIn_r _ [8, 9, 10, 11, 12, 13] (by decide +kernel) (by decide +kernel)
set_option maxRecDepth 20000 in
theorem gX11_mostScore_X11_least : GoodIn wsX11_mostScore (va_wsS RX11 181 yX11_least wsX11_least) := goodIn_app (goodIn_of _ (by decide +kernel)) ggX11_mostScore_X11_least
theorem dX11_mostScore_0 : decode cX11_mostScore 0 = .ok (.iconst 0, 1) := by decide +kernel
theorem dX11_mostScore_1 : decode cX11_mostScore 1 = .ok (.istore_n 2, 1) := by decide +kernel
theorem dX11_mostScore_2 : decode cX11_mostScore 2 = .ok (.iconst 0, 1) := by decide +kernel
theorem dX11_mostScore_3 : decode cX11_mostScore 3 = .ok (.istore_n 3, 1) := by decide +kernel
theorem dX11_mostScore_4 : decode cX11_mostScore 4 = .ok (.aload_n 0, 1) := by decide +kernel
theorem dX11_mostScore_5 : decode cX11_mostScore 5 = .ok (.getfield 47, 3) := by decide +kernel
theorem dX11_mostScore_8 : decode cX11_mostScore 8 = .ok (.iload_n 1, 1) := by decide +kernel
theorem dX11_mostScore_9 : decode cX11_mostScore 9 = .ok (.iaload, 1) := by decide +kernel
theorem dX11_mostScore_10 : decode cX11_mostScore 10 = .ok (.istore 4, 2) := by decide +kernel
theorem dX11_mostScore_12 : decode cX11_mostScore 12 = .ok (.iload 4, 2) := by decide +kernel
theorem dX11_mostScore_14 : decode cX11_mostScore 14 = .ok (.aload_n 0, 1) := by decide +kernel
theorem dX11_mostScore_15 : decode cX11_mostScore 15 = .ok (.getfield 47, 3) := by decide +kernel
theorem dX11_mostScore_18 : decode cX11_mostScore 18 = .ok (.iload_n 1, 1) := by decide +kernel
theorem dX11_mostScore_19 : decode cX11_mostScore 19 = .ok (.iaload, 1) := by decide +kernel
theorem dX11_mostScore_20 : decode cX11_mostScore 20 = .ok (.aload_n 0, 1) := by decide +kernel
theorem dX11_mostScore_21 : decode cX11_mostScore 21 = .ok (.getfield 50, 3) := by decide +kernel
theorem dX11_mostScore_24 : decode cX11_mostScore 24 = .ok (.iload_n 1, 1) := by decide +kernel
theorem dX11_mostScore_25 : decode cX11_mostScore 25 = .ok (.iaload, 1) := by decide +kernel
theorem dX11_mostScore_26 : decode cX11_mostScore 26 = .ok (.iadd, 1) := by decide +kernel
theorem dX11_mostScore_27 : decode cX11_mostScore 27 = .ok (.if_icmp .ge 34, 3) := by decide +kernel
theorem dX11_mostScore_30 : decode cX11_mostScore 30 = .ok (.aload_n 0, 1) := by decide +kernel
theorem dX11_mostScore_31 : decode cX11_mostScore 31 = .ok (.getfield 71, 3) := by decide +kernel
theorem dX11_mostScore_34 : decode cX11_mostScore 34 = .ok (.iload 4, 2) := by decide +kernel
theorem dX11_mostScore_36 : decode cX11_mostScore 36 = .ok (.iaload, 1) := by decide +kernel
theorem dX11_mostScore_37 : decode cX11_mostScore 37 = .ok (.istore 5, 2) := by decide +kernel
theorem dX11_mostScore_39 : decode cX11_mostScore 39 = .ok (.iload 5, 2) := by decide +kernel
theorem dX11_mostScore_41 : decode cX11_mostScore 41 = .ok (.ifCond .ge 6, 3) := by decide +kernel
theorem dX11_mostScore_44 : decode cX11_mostScore 44 = .ok (.goto 11, 3) := by decide +kernel
theorem dX11_mostScore_47 : decode cX11_mostScore 47 = .ok (.iinc 3 1, 3) := by decide +kernel
theorem dX11_mostScore_50 : decode cX11_mostScore 50 = .ok (.iload_n 2, 1) := by decide +kernel
theorem dX11_mostScore_51 : decode cX11_mostScore 51 = .ok (.iload 5, 2) := by decide +kernel
theorem dX11_mostScore_53 : decode cX11_mostScore 53 = .ok (.iadd, 1) := by decide +kernel
theorem dX11_mostScore_54 : decode cX11_mostScore 54 = .ok (.istore_n 2, 1) := by decide +kernel
theorem dX11_mostScore_55 : decode cX11_mostScore 55 = .ok (.iinc 4 1, 3) := by decide +kernel
theorem dX11_mostScore_58 : decode cX11_mostScore 58 = .ok (.goto (-46), 3) := by decide +kernel
theorem dX11_mostScore_61 : decode cX11_mostScore 61 = .ok (.iload_n 3, 1) := by decide +kernel
theorem dX11_mostScore_62 : decode cX11_mostScore 62 = .ok (.aload_n 0, 1) := by decide +kernel
theorem dX11_mostScore_63 : decode cX11_mostScore 63 = .ok (.getfield 53, 3) := by decide +kernel
theorem dX11_mostScore_66 : decode cX11_mostScore 66 = .ok (.iload_n 1, 1) := by decide +kernel
theorem dX11_mostScore_67 : decode cX11_mostScore 67 = .ok (.iaload, 1) := by decide +kernel
theorem dX11_mostScore_68 : decode cX11_mostScore 68 = .ok (.if_icmp .ge 7, 3) := by decide +kernel
theorem dX11_mostScore_71 : decode cX11_mostScore 71 = .ok (.iconst (-1), 1) := by decide +kernel
theorem dX11_mostScore_72 : decode cX11_mostScore 72 = .ok (.goto 7, 3) := by decide +kernel
theorem dX11_mostScore_75 : decode cX11_mostScore 75 = .ok (.iload_n 2, 1) := by decide +kernel
theorem dX11_mostScore_76 : decode cX11_mostScore 76 = .ok (.invokestatic 181, 3) := by decide +kernel
theorem dX11_mostScore_79 : decode cX11_mostScore 79 = .ok (.ireturn, 1) := by decide +kernel
set_option maxRecDepth 20000 in
theorem ggX11_score_X11_isNode : GoodIn wsX11_score wsX11_isNode := goodIn_r _ [6, 7, 8, 9, 5, 10, 109, 110, 111, 112, 113, 114, 115, 116, 117, 118, 119, 120, 121, 122, 123, 124, 125, 126, 127, 128, 129, 130, 131, 132, 133, 134, 135, 136, 137, 138] (by decide +kernel) (by decide +kernel)
set_option maxRecDepth 20000 in
theorem gX11_score_X11_isNode : GoodIn wsX11_score (wsV RX11 165 RX11 yX11_isNode wsX11_isNode) := goodIn_app (goodIn_of _ (by decide +kernel)) ggX11_score_X11_isNode
set_option maxRecDepth 20000 in
theorem ggX11_score_X11_isDocument : GoodIn wsX11_score wsX11_isDocument := goodIn_r _ [14, 15, 8, 9, 5, 10, 109, 110, 111, 112, 113, 114, 115, 116, 117, 118, 119, 120, 121, 122, 123, 124, 125, 126, 127, 128, 129, 130, 131, 132, 133, 134, 135, 136, 137, 138] (by decide +kernel) (by decide +kernel)
set_option maxRecDepth 20000 in
theorem gX11_score_X11_isDocument : GoodIn wsX11_score (wsV RX11 106 RX11 yX11_isDocument wsX11_isDocument) := goodIn_app (goodIn_of _ (by decide +kernel)) ggX11_score_X11_isDocument
set_option maxRecDepth 20000 in
theorem ggX11_score_X11_scoreNow : GoodIn wsX11_score wsX11_scoreNow := goodIn_r _ [19, 20, 21, 22, 23, 24, 25, 5, 26, 27, 28, 29, 30, 31, 32, 33, 34, 35, 36, 37, 38, 39, 40, 41, 42, 43, 44, 45, 46, 47, 48, 49, 50, 51, 52, 53, 54, 55, 56, 57, 58, 59, 60, 61, 62, 63, 64, 65, 66, 67, 68, 69, 70, 71, 72, 73, 74, 75, 76, 15, 77, 78, 79, 80, 81, 82, 83, 84, 85, 86, 87, 88, 89, 90, 91, 92, 93, 94, 95, 96, 97, 98, 99, 100, 8, 9, 10, 101, 102, 103, 104, 109, 110, 111, 112, 113, 114, 115, 116, 117, 118, 119, 120, 121, 122, 123, 124, 125, 126, 127, 128, 129, 130, 131, 132, 133, 134, 135, 136, 137, 138] (by decide +kernel) (by decide +kernel)
set_option maxRecDepth 20000 in
theorem gX11_score_X11_scoreNow : GoodIn wsX11_score (wsV RX11 200 RX11 yX11_scoreNow wsX11_scoreNow) := goodIn_app (goodIn_of _ (by decide +kernel)) ggX11_score_X11_scoreNow
set_option maxRecDepth 20000 in
theorem ggX11_score_X11_no : GoodIn wsX11_score wsX11_no := goodIn_r _ [108, 1, 109, 110, 111, 112, 113, 114, 115, 116, 117, 118, 119, 120, 121, 122, 123, 124, 125, 126, 127, 128, 129, 130, 131, 132, 133, 134, 135, 136, 137, 138] (by decide +kernel) (by decide +kernel)
set_option maxRecDepth 20000 in
theorem gX11_score_X11_no : GoodIn wsX11_score (wsV RX11 88 RX11 yX11_no wsX11_no) := goodIn_app (goodIn_of _ (by decide +kernel)) ggX11_score_X11_no
theorem dX11_score_0 : decode cX11_score 0 = .ok (.aload_n 0, 1) := by decide +kernel
theorem dX11_score_1 : decode cX11_score 1 = .ok (.iconst 0, 1) := by decide +kernel
theorem dX11_score_2 : decode cX11_score 2 = .ok (.putfield 74, 3) := by decide +kernel
theorem dX11_score_5 : decode cX11_score 5 = .ok (.aload_n 0, 1) := by decide +kernel
theorem dX11_score_6 : decode cX11_score 6 = .ok (.iload_n 1, 1) := by decide +kernel
theorem dX11_score_7 : decode cX11_score 7 = .ok (.invokevirtual 165, 3) := by decide +kernel
theorem dX11_score_10 : decode cX11_score 10 = .ok (.ifCond .eq 20, 3) := by decide +kernel
theorem dX11_score_13 : decode cX11_score 13 = .ok (.aload_n 0, 1) := by decide +kernel
theorem dX11_score_14 : decode cX11_score 14 = .ok (.iload_n 2, 1) := by decide +kernel
theorem dX11_score_15 : decode cX11_score 15 = .ok (.invokevirtual 106, 3) := by decide +kernel
theorem dX11_score_18 : decode cX11_score 18 = .ok (.ifCond .eq 12, 3) := by decide +kernel
theorem dX11_score_21 : decode cX11_score 21 = .ok (.aload_n 0, 1) := by decide +kernel
theorem dX11_score_22 : decode cX11_score 22 = .ok (.iload_n 1, 1) := by decide +kernel
theorem dX11_score_23 : decode cX11_score 23 = .ok (.iload_n 2, 1) := by decide +kernel
theorem dX11_score_24 : decode cX11_score 24 = .ok (.invokevirtual 200, 3) := by decide +kernel
theorem dX11_score_27 : decode cX11_score 27 = .ok (.goto 8, 3) := by decide +kernel
theorem dX11_score_30 : decode cX11_score 30 = .ok (.aload_n 0, 1) := by decide +kernel
theorem dX11_score_31 : decode cX11_score 31 = .ok (.iconst 1, 1) := by decide +kernel
theorem dX11_score_32 : decode cX11_score 32 = .ok (.invokevirtual 88, 3) := by decide +kernel
theorem dX11_score_35 : decode cX11_score 35 = .ok (.ireturn, 1) := by decide +kernel
set_option maxRecDepth 20000 in
theorem ggX11_foundNow_X11_scoreNow : GoodIn wsX11_foundNow wsX11_scoreNow := goodIn_r _ [6, 7, 8, 9, 10, 11, 12, 5, 13, 14, 15, 16, 17, 18, 19, 20, 21, 22, 23, 24, 25, 26, 27, 28, 29, 30, 31, 32, 33, 34, 35, 36, 37, 38, 39, 40, 41, 42, 43, 44, 45, 46, 47, 48, 49, 50, 51, 52, 53, 54, 55, 56, 57, 58, 59, 60, 61, 62, 63, 1, 64, 65, 66, 67, 68, 69, 70, 71, 72, 73, 74, 75, 76, 77, 78, 79, 80, 81, 82, 83, 84, 85, 86, 87, 88, 89, 90, 91, 92, 93, 94, 95, 96, 97, 98, 99, 100, 101, 102, 103, 104, 105, 106, 107, 108, 109, 110, 111, 112, 113, 114, 115, 116, 117, 118, 119, 120, 121, 122, 123, 124] (by decide +kernel) (by decide +kernel)
set_option maxRecDepth 20000 in
theorem gX11_foundNow_X11_scoreNow : GoodIn wsX11_foundNow (wsV RX11 200 RX11 yX11_scoreNow wsX11_scoreNow) := goodIn_app (goodIn_of _ (by decide +kernel)) ggX11_foundNow_X11_scoreNow
theorem dX11_foundNow_0 : decode cX11_foundNow 0 = .ok (.iconst 0, 1) := by decide +kernel
theorem dX11_foundNow_1 : decode cX11_foundNow 1 = .ok (.istore_n 2, 1) := by decide +kernel
theorem dX11_foundNow_2 : decode cX11_foundNow 2 = .ok (.iconst 0, 1) := by decide +kernel
theorem dX11_foundNow_3 : decode cX11_foundNow 3 = .ok (.istore_n 3, 1) := by decide +kernel
theorem dX11_foundNow_4 : decode cX11_foundNow 4 = .ok (.iload_n 3, 1) := by decide +kernel
theorem dX11_foundNow_5 : decode cX11_foundNow 5 = .ok (.aload_n 0, 1) := by decide +kernel
theorem dX11_foundNow_6 : decode cX11_foundNow 6 = .ok (.getfield 82, 3) := by decide +kernel
theorem dX11_foundNow_9 : decode cX11_foundNow 9 = .ok (.if_icmp .ge 26, 3) := by decide +kernel
theorem dX11_foundNow_12 : decode cX11_foundNow 12 = .ok (.iload_n 2, 1) := by decide +kernel
theorem dX11_foundNow_13 : decode cX11_foundNow 13 = .ok (.aload_n 0, 1) := by decide +kernel
theorem dX11_foundNow_14 : decode cX11_foundNow 14 = .ok (.iload_n 1, 1) := by decide +kernel
theorem dX11_foundNow_15 : decode cX11_foundNow 15 = .ok (.iload_n 3, 1) := by decide +kernel
theorem dX11_foundNow_16 : decode cX11_foundNow 16 = .ok (.invokevirtual 200, 3) := by decide +kernel
theorem dX11_foundNow_19 : decode cX11_foundNow 19 = .ok (.ifCond .ge 7, 3) := by decide +kernel
theorem dX11_foundNow_22 : decode cX11_foundNow 22 = .ok (.iconst 0, 1) := by decide +kernel
theorem dX11_foundNow_23 : decode cX11_foundNow 23 = .ok (.goto 4, 3) := by decide +kernel
theorem dX11_foundNow_26 : decode cX11_foundNow 26 = .ok (.iconst 1, 1) := by decide +kernel
theorem dX11_foundNow_27 : decode cX11_foundNow 27 = .ok (.iadd, 1) := by decide +kernel
theorem dX11_foundNow_28 : decode cX11_foundNow 28 = .ok (.istore_n 2, 1) := by decide +kernel
theorem dX11_foundNow_29 : decode cX11_foundNow 29 = .ok (.iinc 3 1, 3) := by decide +kernel
theorem dX11_foundNow_32 : decode cX11_foundNow 32 = .ok (.goto (-28), 3) := by decide +kernel
theorem dX11_foundNow_35 : decode cX11_foundNow 35 = .ok (.iload_n 2, 1) := by decide +kernel
theorem dX11_foundNow_36 : decode cX11_foundNow 36 = .ok (.ireturn, 1) := by decide +kernel
set_option maxRecDepth 20000 in
theorem ggX11_found_X11_isNode : GoodIn wsX11_found wsX11_isNode := goodIn_r _ [6, 7, 8, 9, 5, 10, 109, 110, 111, 112, 113, 114, 115, 116, 117, 118, 119, 120, 121, 122, 123, 124, 125, 126, 127, 128, 129, 130, 131, 132, 133, 134, 135, 136, 137, 138] (by decide +kernel) (by decide +kernel)
set_option maxRecDepth 20000 in
theorem gX11_found_X11_isNode : GoodIn wsX11_found (wsV RX11 165 RX11 yX11_isNode wsX11_isNode) := goodIn_app (goodIn_of _ (by decide +kernel)) ggX11_found_X11_isNode
set_option maxRecDepth 20000 in
theorem ggX11_found_X11_foundNow : GoodIn wsX11_found wsX11_foundNow := goodIn_r _ [14, 15, 16, 17, 18, 5, 19, 20, 21, 22, 23, 24, 25, 26, 27, 28, 29, 30, 31, 32, 33, 34, 35, 36, 37, 38, 39, 40, 41, 42, 43, 44, 45, 46, 47, 48, 49, 50, 51, 52, 53, 54, 55, 56, 57, 58, 59, 60, 61, 62, 63, 64, 65, 66, 67, 68, 69, 70, 71, 72, 73, 74, 75, 76, 77, 78, 79, 80, 81, 82, 83, 84, 85, 86, 87, 88, 89, 90, 91, 92, 93, 94, 95, 96, 97, 98, 99, 100, 8, 9, 10, 101, 102, 103, 104, 109, 110, 111, 112, 113, 114, 115, 116, 117, 118, 119, 120, 121, 122, 123, 124, 125, 126, 127, 128, 129, 130, 131, 132, 133, 134, 135, 136, 137, 138] (by decide +kernel) (by decide +kernel)
set_option maxRecDepth 20000 in
theorem gX11_found_X11_foundNow : GoodIn wsX11_found (wsV RX11 203 RX11 yX11_foundNow wsX11_foundNow) := goodIn_app (goodIn_of _ (by decide +kernel)) ggX11_found_X11_foundNow
set_option maxRecDepth 20000 in
theorem ggX11_found_X11_no : GoodIn wsX11_found wsX11_no := goodIn_r _ [108, 1, 109, 110, 111, 112, 113, 114, 115, 116, 117, 118, 119, 120, 121, 122, 123, 124, 125, 126, 127, 128, 129, 130, 131, 132, 133, 134, 135, 136, 137, 138] (by decide +kernel) (by decide +kernel)
set_option maxRecDepth 20000 in
theorem gX11_found_X11_no : GoodIn wsX11_found (wsV RX11 88 RX11 yX11_no wsX11_no) := goodIn_app (goodIn_of _ (by decide +kernel)) ggX11_found_X11_no
theorem dX11_found_0 : decode cX11_found 0 = .ok (.aload_n 0, 1) := by decide +kernel
theorem dX11_found_1 : decode cX11_found 1 = .ok (.iconst 0, 1) := by decide +kernel
theorem dX11_found_2 : decode cX11_found 2 = .ok (.putfield 74, 3) := by decide +kernel
theorem dX11_found_5 : decode cX11_found 5 = .ok (.aload_n 0, 1) := by decide +kernel
theorem dX11_found_6 : decode cX11_found 6 = .ok (.iload_n 1, 1) := by decide +kernel
theorem dX11_found_7 : decode cX11_found 7 = .ok (.invokevirtual 165, 3) := by decide +kernel
theorem dX11_found_10 : decode cX11_found 10 = .ok (.ifCond .eq 11, 3) := by decide +kernel
theorem dX11_found_13 : decode cX11_found 13 = .ok (.aload_n 0, 1) := by decide +kernel
theorem dX11_found_14 : decode cX11_found 14 = .ok (.iload_n 1, 1) := by decide +kernel
theorem dX11_found_15 : decode cX11_found 15 = .ok (.invokevirtual 203, 3) := by decide +kernel
theorem dX11_found_18 : decode cX11_found 18 = .ok (.goto 8, 3) := by decide +kernel
theorem dX11_found_21 : decode cX11_found 21 = .ok (.aload_n 0, 1) := by decide +kernel
theorem dX11_found_22 : decode cX11_found 22 = .ok (.iconst 1, 1) := by decide +kernel
theorem dX11_found_23 : decode cX11_found 23 = .ok (.invokevirtual 88, 3) := by decide +kernel
theorem dX11_found_26 : decode cX11_found 26 = .ok (.ireturn, 1) := by decide +kernel
set_option maxRecDepth 20000 in
theorem ggX11_search_X11_isNode : GoodIn wsX11_search wsX11_isNode := goodIn_r _ [11, 12, 13, 14, 10, 15, 108, 109, 110, 111, 112, 113, 114, 115, 116, 117, 118, 119, 120, 121, 122, 123, 124, 125, 126, 127, 128, 129, 130, 131, 132, 133, 134, 135, 136, 137] (by decide +kernel) (by decide +kernel)
set_option maxRecDepth 20000 in
theorem gX11_search_X11_isNode : GoodIn wsX11_search (wsV RX11 165 RX11 yX11_isNode wsX11_isNode) := goodIn_app (goodIn_of _ (by decide +kernel)) ggX11_search_X11_isNode
set_option maxRecDepth 20000 in
theorem ggX11_search_X11_no : GoodIn wsX11_search wsX11_no := goodIn_r _ [19, 1, 108, 109, 110, 111, 112, 113, 114, 115, 116, 117, 118, 119, 120, 121, 122, 123, 124, 125, 126, 127, 128, 129, 130, 131, 132, 133, 134, 135, 136, 137] (by decide +kernel) (by decide +kernel)
set_option maxRecDepth 20000 in
theorem gX11_search_X11_no : GoodIn wsX11_search (wsV RX11 88 RX11 yX11_no wsX11_no) := goodIn_app (goodIn_of _ (by decide +kernel)) ggX11_search_X11_no
set_option maxRecDepth 20000 in
theorem ggX11_search_X11_scoreNow : GoodIn wsX11_search wsX11_scoreNow := goodIn_r _ [23, 24, 25, 26, 27, 28, 29, 10, 30, 31, 32, 33, 5, 34, 35, 36, 37, 38, 39, 40, 41, 42, 43, 44, 45, 46, 47, 48, 49, 50, 51, 52, 53, 54, 55, 56, 57, 58, 59, 60, 61, 62, 63, 64, 65, 66, 67, 68, 69, 70, 71, 72, 73, 74, 75, 76, 77, 78, 79, 3, 80, 81, 82, 83, 84, 85, 86, 87, 88, 89, 90, 91, 92, 93, 94, 95, 96, 97, 98, 99, 100, 101, 102, 103, 13, 14, 15, 104, 105, 106, 107, 108, 109, 110, 111, 112, 113, 114, 115, 116, 117, 118, 119, 120, 121, 122, 123, 124, 125, 126, 127, 128, 129, 130, 131, 132, 133, 134, 135, 136, 137] (by decide +kernel) (by decide +kernel)
set_option maxRecDepth 20000 in
theorem gX11_search_X11_scoreNow : GoodIn wsX11_search (wsV RX11 200 RX11 yX11_scoreNow wsX11_scoreNow) := goodIn_app (goodIn_of _ (by decide +kernel)) ggX11_search_X11_scoreNow
theorem dX11_search_0 : decode cX11_search 0 = .ok (.aload_n 0, 1) := by decide +kernel
theorem dX11_search_1 : decode cX11_search 1 = .ok (.iconst 0, 1) := by decide +kernel
theorem dX11_search_2 : decode cX11_search 2 = .ok (.putfield 74, 3) := by decide +kernel
theorem dX11_search_5 : decode cX11_search 5 = .ok (.aload_n 0, 1) := by decide +kernel
theorem dX11_search_6 : decode cX11_search 6 = .ok (.iload_n 1, 1) := by decide +kernel
theorem dX11_search_7 : decode cX11_search 7 = .ok (.invokevirtual 165, 3) := by decide +kernel
theorem dX11_search_10 : decode cX11_search 10 = .ok (.ifCond .ne 9, 3) := by decide +kernel
theorem dX11_search_13 : decode cX11_search 13 = .ok (.aload_n 0, 1) := by decide +kernel
theorem dX11_search_14 : decode cX11_search 14 = .ok (.iconst 1, 1) := by decide +kernel
theorem dX11_search_15 : decode cX11_search 15 = .ok (.invokevirtual 88, 3) := by decide +kernel
theorem dX11_search_18 : decode cX11_search 18 = .ok (.ireturn, 1) := by decide +kernel
theorem dX11_search_19 : decode cX11_search 19 = .ok (.aload_n 0, 1) := by decide +kernel
theorem dX11_search_20 : decode cX11_search 20 = .ok (.iconst 0, 1) := by decide +kernel
theorem dX11_search_21 : decode cX11_search 21 = .ok (.putfield 206, 3) := by decide +kernel
theorem dX11_search_24 : decode cX11_search 24 = .ok (.iconst 0, 1) := by decide +kernel
theorem dX11_search_25 : decode cX11_search 25 = .ok (.istore_n 2, 1) := by decide +kernel
theorem dX11_search_26 : decode cX11_search 26 = .ok (.iload_n 2, 1) := by decide +kernel
theorem dX11_search_27 : decode cX11_search 27 = .ok (.aload_n 0, 1) := by decide +kernel
theorem dX11_search_28 : decode cX11_search 28 = .ok (.getfield 82, 3) := by decide +kernel
theorem dX11_search_31 : decode cX11_search 31 = .ok (.if_icmp .ge 144, 3) := by decide +kernel
theorem dX11_search_34 : decode cX11_search 34 = .ok (.aload_n 0, 1) := by decide +kernel
theorem dX11_search_35 : decode cX11_search 35 = .ok (.iload_n 1, 1) := by decide +kernel
theorem dX11_search_36 : decode cX11_search 36 = .ok (.iload_n 2, 1) := by decide +kernel
theorem dX11_search_37 : decode cX11_search 37 = .ok (.invokevirtual 200, 3) := by decide +kernel
theorem dX11_search_40 : decode cX11_search 40 = .ok (.istore_n 3, 1) := by decide +kernel
theorem dX11_search_41 : decode cX11_search 41 = .ok (.iload_n 3, 1) := by decide +kernel
theorem dX11_search_42 : decode cX11_search 42 = .ok (.ifCond .ge 6, 3) := by decide +kernel
theorem dX11_search_45 : decode cX11_search 45 = .ok (.goto 124, 3) := by decide +kernel
theorem dX11_search_48 : decode cX11_search 48 = .ok (.aload_n 0, 1) := by decide +kernel
theorem dX11_search_49 : decode cX11_search 49 = .ok (.dup, 1) := by decide +kernel
theorem dX11_search_50 : decode cX11_search 50 = .ok (.getfield 206, 3) := by decide +kernel
theorem dX11_search_53 : decode cX11_search 53 = .ok (.dup_x1, 1) := by decide +kernel
theorem dX11_search_54 : decode cX11_search 54 = .ok (.iconst 1, 1) := by decide +kernel
theorem dX11_search_55 : decode cX11_search 55 = .ok (.iadd, 1) := by decide +kernel
theorem dX11_search_56 : decode cX11_search 56 = .ok (.putfield 206, 3) := by decide +kernel
theorem dX11_search_59 : decode cX11_search 59 = .ok (.istore 4, 2) := by decide +kernel
theorem dX11_search_61 : decode cX11_search 61 = .ok (.iload 4, 2) := by decide +kernel
theorem dX11_search_63 : decode cX11_search 63 = .ok (.ifCond .le 90, 3) := by decide +kernel
theorem dX11_search_66 : decode cX11_search 66 = .ok (.iload_n 3, 1) := by decide +kernel
theorem dX11_search_67 : decode cX11_search 67 = .ok (.aload_n 0, 1) := by decide +kernel
theorem dX11_search_68 : decode cX11_search 68 = .ok (.getfield 62, 3) := by decide +kernel
theorem dX11_search_71 : decode cX11_search 71 = .ok (.iload 4, 2) := by decide +kernel
theorem dX11_search_73 : decode cX11_search 73 = .ok (.iconst 1, 1) := by decide +kernel
theorem dX11_search_74 : decode cX11_search 74 = .ok (.isub, 1) := by decide +kernel
theorem dX11_search_75 : decode cX11_search 75 = .ok (.iaload, 1) := by decide +kernel
theorem dX11_search_76 : decode cX11_search 76 = .ok (.if_icmp .gt 39, 3) := by decide +kernel
theorem dX11_search_79 : decode cX11_search 79 = .ok (.iload_n 3, 1) := by decide +kernel
theorem dX11_search_80 : decode cX11_search 80 = .ok (.aload_n 0, 1) := by decide +kernel
theorem dX11_search_81 : decode cX11_search 81 = .ok (.getfield 62, 3) := by decide +kernel
theorem dX11_search_84 : decode cX11_search 84 = .ok (.iload 4, 2) := by decide +kernel
theorem dX11_search_86 : decode cX11_search 86 = .ok (.iconst 1, 1) := by decide +kernel
theorem dX11_search_87 : decode cX11_search 87 = .ok (.isub, 1) := by decide +kernel
theorem dX11_search_88 : decode cX11_search 88 = .ok (.iaload, 1) := by decide +kernel
theorem dX11_search_89 : decode cX11_search 89 = .ok (.if_icmp .ne 64, 3) := by decide +kernel
theorem dX11_search_92 : decode cX11_search 92 = .ok (.aload_n 0, 1) := by decide +kernel
theorem dX11_search_93 : decode cX11_search 93 = .ok (.getfield 9, 3) := by decide +kernel
theorem dX11_search_96 : decode cX11_search 96 = .ok (.iload_n 2, 1) := by decide +kernel
theorem dX11_search_97 : decode cX11_search 97 = .ok (.iaload, 1) := by decide +kernel
theorem dX11_search_98 : decode cX11_search 98 = .ok (.aload_n 0, 1) := by decide +kernel
theorem dX11_search_99 : decode cX11_search 99 = .ok (.getfield 9, 3) := by decide +kernel
theorem dX11_search_102 : decode cX11_search 102 = .ok (.aload_n 0, 1) := by decide +kernel
theorem dX11_search_103 : decode cX11_search 103 = .ok (.getfield 59, 3) := by decide +kernel
theorem dX11_search_106 : decode cX11_search 106 = .ok (.iload 4, 2) := by decide +kernel
theorem dX11_search_108 : decode cX11_search 108 = .ok (.iconst 1, 1) := by decide +kernel
theorem dX11_search_109 : decode cX11_search 109 = .ok (.isub, 1) := by decide +kernel
theorem dX11_search_110 : decode cX11_search 110 = .ok (.iaload, 1) := by decide +kernel
theorem dX11_search_111 : decode cX11_search 111 = .ok (.iaload, 1) := by decide +kernel
theorem dX11_search_112 : decode cX11_search 112 = .ok (.if_icmp .le 41, 3) := by decide +kernel
theorem dX11_search_115 : decode cX11_search 115 = .ok (.aload_n 0, 1) := by decide +kernel
theorem dX11_search_116 : decode cX11_search 116 = .ok (.getfield 59, 3) := by decide +kernel
theorem dX11_search_119 : decode cX11_search 119 = .ok (.iload 4, 2) := by decide +kernel
theorem dX11_search_121 : decode cX11_search 121 = .ok (.aload_n 0, 1) := by decide +kernel
theorem dX11_search_122 : decode cX11_search 122 = .ok (.getfield 59, 3) := by decide +kernel
theorem dX11_search_125 : decode cX11_search 125 = .ok (.iload 4, 2) := by decide +kernel
theorem dX11_search_127 : decode cX11_search 127 = .ok (.iconst 1, 1) := by decide +kernel
theorem dX11_search_128 : decode cX11_search 128 = .ok (.isub, 1) := by decide +kernel
theorem dX11_search_129 : decode cX11_search 129 = .ok (.iaload, 1) := by decide +kernel
theorem dX11_search_130 : decode cX11_search 130 = .ok (.iastore, 1) := by decide +kernel
theorem dX11_search_131 : decode cX11_search 131 = .ok (.aload_n 0, 1) := by decide +kernel
theorem dX11_search_132 : decode cX11_search 132 = .ok (.getfield 62, 3) := by decide +kernel
theorem dX11_search_135 : decode cX11_search 135 = .ok (.iload 4, 2) := by decide +kernel
theorem dX11_search_137 : decode cX11_search 137 = .ok (.aload_n 0, 1) := by decide +kernel
theorem dX11_search_138 : decode cX11_search 138 = .ok (.getfield 62, 3) := by decide +kernel
theorem dX11_search_141 : decode cX11_search 141 = .ok (.iload 4, 2) := by decide +kernel
theorem dX11_search_143 : decode cX11_search 143 = .ok (.iconst 1, 1) := by decide +kernel
theorem dX11_search_144 : decode cX11_search 144 = .ok (.isub, 1) := by decide +kernel
theorem dX11_search_145 : decode cX11_search 145 = .ok (.iaload, 1) := by decide +kernel
theorem dX11_search_146 : decode cX11_search 146 = .ok (.iastore, 1) := by decide +kernel
theorem dX11_search_147 : decode cX11_search 147 = .ok (.iinc 4 (-1), 3) := by decide +kernel
theorem dX11_search_150 : decode cX11_search 150 = .ok (.goto (-89), 3) := by decide +kernel
theorem dX11_search_153 : decode cX11_search 153 = .ok (.aload_n 0, 1) := by decide +kernel
theorem dX11_search_154 : decode cX11_search 154 = .ok (.getfield 59, 3) := by decide +kernel
theorem dX11_search_157 : decode cX11_search 157 = .ok (.iload 4, 2) := by decide +kernel
theorem dX11_search_159 : decode cX11_search 159 = .ok (.iload_n 2, 1) := by decide +kernel
theorem dX11_search_160 : decode cX11_search 160 = .ok (.iastore, 1) := by decide +kernel
theorem dX11_search_161 : decode cX11_search 161 = .ok (.aload_n 0, 1) := by decide +kernel
theorem dX11_search_162 : decode cX11_search 162 = .ok (.getfield 62, 3) := by decide +kernel
theorem dX11_search_165 : decode cX11_search 165 = .ok (.iload 4, 2) := by decide +kernel
theorem dX11_search_167 : decode cX11_search 167 = .ok (.iload_n 3, 1) := by decide +kernel
theorem dX11_search_168 : decode cX11_search 168 = .ok (.iastore, 1) := by decide +kernel
theorem dX11_search_169 : decode cX11_search 169 = .ok (.iinc 2 1, 3) := by decide +kernel
theorem dX11_search_172 : decode cX11_search 172 = .ok (.goto (-146), 3) := by decide +kernel
theorem dX11_search_175 : decode cX11_search 175 = .ok (.aload_n 0, 1) := by decide +kernel
theorem dX11_search_176 : decode cX11_search 176 = .ok (.getfield 206, 3) := by decide +kernel
theorem dX11_search_179 : decode cX11_search 179 = .ok (.ireturn, 1) := by decide +kernel
set_option maxRecDepth 20000 in
theorem ggX11_results_X11_ok : GoodIn wsX11_results wsX11_ok := goodIn_r _ [6, 7, 8, 9, 10, 11, 12, 13, 14, 15, 16, 17, 18, 19, 20, 21, 22, 23, 24, 25, 26, 27, 28, 29, 30, 31, 32, 33, 34, 35, 36, 37] (by decide +kernel) (by decide +kernel)
set_option maxRecDepth 20000 in
theorem gX11_results_X11_ok : GoodIn wsX11_results (wsV RX11 109 RX11 yX11_ok wsX11_ok) := goodIn_app (goodIn_of _ (by decide +kernel)) ggX11_results_X11_ok
theorem dX11_results_0 : decode cX11_results 0 = .ok (.aload_n 0, 1) := by decide +kernel
theorem dX11_results_1 : decode cX11_results 1 = .ok (.aload_n 0, 1) := by decide +kernel
theorem dX11_results_2 : decode cX11_results 2 = .ok (.getfield 206, 3) := by decide +kernel
theorem dX11_results_5 : decode cX11_results 5 = .ok (.invokevirtual 109, 3) := by decide +kernel
theorem dX11_results_8 : decode cX11_results 8 = .ok (.ireturn, 1) := by decide +kernel
set_option maxRecDepth 20000 in
theorem ggX11_resultAt_X11_isIn : GoodIn wsX11_resultAt wsX11_isIn := goodIn_r _ [7] (by decide +kernel) (by decide +kernel)
set_option maxRecDepth 20000 in
theorem gX11_resultAt_X11_isIn : GoodIn wsX11_resultAt (va_wsS RX11 78 yX11_isIn wsX11_isIn) := goodIn_app (goodIn_of _ (by decide +kernel)) ggX11_resultAt_X11_isIn
set_option maxRecDepth 20000 in
theorem ggX11_resultAt_X11_no : GoodIn wsX11_resultAt wsX11_no := goodIn_r _ [11, 1, 12, 13, 14, 15, 16, 17, 18, 19, 20, 21, 22, 23, 24, 25, 26, 27, 28, 29, 30, 31, 32, 33, 34, 35, 36, 37, 38, 39, 40, 41] (by decide +kernel) (by decide +kernel)
set_option maxRecDepth 20000 in
theorem gX11_resultAt_X11_no : GoodIn wsX11_resultAt (wsV RX11 88 RX11 yX11_no wsX11_no) := goodIn_app (goodIn_of _ (by decide +kernel)) ggX11_resultAt_X11_no
theorem dX11_resultAt_0 : decode cX11_resultAt 0 = .ok (.aload_n 0, 1) := by decide +kernel
theorem dX11_resultAt_1 : decode cX11_resultAt 1 = .ok (.iconst 0, 1) := by decide +kernel
theorem dX11_resultAt_2 : decode cX11_resultAt 2 = .ok (.putfield 74, 3) := by decide +kernel
theorem dX11_resultAt_5 : decode cX11_resultAt 5 = .ok (.iload_n 1, 1) := by decide +kernel
theorem dX11_resultAt_6 : decode cX11_resultAt 6 = .ok (.iconst 0, 1) := by decide +kernel
theorem dX11_resultAt_7 : decode cX11_resultAt 7 = .ok (.aload_n 0, 1) := by decide +kernel
theorem dX11_resultAt_8 : decode cX11_resultAt 8 = .ok (.getfield 206, 3) := by decide +kernel
theorem dX11_resultAt_11 : decode cX11_resultAt 11 = .ok (.iconst 1, 1) := by decide +kernel
theorem dX11_resultAt_12 : decode cX11_resultAt 12 = .ok (.isub, 1) := by decide +kernel
theorem dX11_resultAt_13 : decode cX11_resultAt 13 = .ok (.invokestatic 78, 3) := by decide +kernel
theorem dX11_resultAt_16 : decode cX11_resultAt 16 = .ok (.ifCond .eq 12, 3) := by decide +kernel
theorem dX11_resultAt_19 : decode cX11_resultAt 19 = .ok (.aload_n 0, 1) := by decide +kernel
theorem dX11_resultAt_20 : decode cX11_resultAt 20 = .ok (.getfield 59, 3) := by decide +kernel
theorem dX11_resultAt_23 : decode cX11_resultAt 23 = .ok (.iload_n 1, 1) := by decide +kernel
theorem dX11_resultAt_24 : decode cX11_resultAt 24 = .ok (.iaload, 1) := by decide +kernel
theorem dX11_resultAt_25 : decode cX11_resultAt 25 = .ok (.goto 8, 3) := by decide +kernel
theorem dX11_resultAt_28 : decode cX11_resultAt 28 = .ok (.aload_n 0, 1) := by decide +kernel
theorem dX11_resultAt_29 : decode cX11_resultAt 29 = .ok (.iconst 1, 1) := by decide +kernel
theorem dX11_resultAt_30 : decode cX11_resultAt 30 = .ok (.invokevirtual 88, 3) := by decide +kernel
theorem dX11_resultAt_33 : decode cX11_resultAt 33 = .ok (.ireturn, 1) := by decide +kernel
set_option maxRecDepth 20000 in
theorem ggX11_scoreAt_X11_isIn : GoodIn wsX11_scoreAt wsX11_isIn := goodIn_r _ [7] (by decide +kernel) (by decide +kernel)
set_option maxRecDepth 20000 in
theorem gX11_scoreAt_X11_isIn : GoodIn wsX11_scoreAt (va_wsS RX11 78 yX11_isIn wsX11_isIn) := goodIn_app (goodIn_of _ (by decide +kernel)) ggX11_scoreAt_X11_isIn
set_option maxRecDepth 20000 in
theorem ggX11_scoreAt_X11_no : GoodIn wsX11_scoreAt wsX11_no := goodIn_r _ [11, 1, 12, 13, 14, 15, 16, 17, 18, 19, 20, 21, 22, 23, 24, 25, 26, 27, 28, 29, 30, 31, 32, 33, 34, 35, 36, 37, 38, 39, 40, 41] (by decide +kernel) (by decide +kernel)
set_option maxRecDepth 20000 in
theorem gX11_scoreAt_X11_no : GoodIn wsX11_scoreAt (wsV RX11 88 RX11 yX11_no wsX11_no) := goodIn_app (goodIn_of _ (by decide +kernel)) ggX11_scoreAt_X11_no
theorem dX11_scoreAt_0 : decode cX11_scoreAt 0 = .ok (.aload_n 0, 1) := by decide +kernel
theorem dX11_scoreAt_1 : decode cX11_scoreAt 1 = .ok (.iconst 0, 1) := by decide +kernel
theorem dX11_scoreAt_2 : decode cX11_scoreAt 2 = .ok (.putfield 74, 3) := by decide +kernel
theorem dX11_scoreAt_5 : decode cX11_scoreAt 5 = .ok (.iload_n 1, 1) := by decide +kernel
theorem dX11_scoreAt_6 : decode cX11_scoreAt 6 = .ok (.iconst 0, 1) := by decide +kernel
theorem dX11_scoreAt_7 : decode cX11_scoreAt 7 = .ok (.aload_n 0, 1) := by decide +kernel
theorem dX11_scoreAt_8 : decode cX11_scoreAt 8 = .ok (.getfield 206, 3) := by decide +kernel
theorem dX11_scoreAt_11 : decode cX11_scoreAt 11 = .ok (.iconst 1, 1) := by decide +kernel
theorem dX11_scoreAt_12 : decode cX11_scoreAt 12 = .ok (.isub, 1) := by decide +kernel
theorem dX11_scoreAt_13 : decode cX11_scoreAt 13 = .ok (.invokestatic 78, 3) := by decide +kernel
theorem dX11_scoreAt_16 : decode cX11_scoreAt 16 = .ok (.ifCond .eq 12, 3) := by decide +kernel
theorem dX11_scoreAt_19 : decode cX11_scoreAt 19 = .ok (.aload_n 0, 1) := by decide +kernel
theorem dX11_scoreAt_20 : decode cX11_scoreAt 20 = .ok (.getfield 62, 3) := by decide +kernel
theorem dX11_scoreAt_23 : decode cX11_scoreAt 23 = .ok (.iload_n 1, 1) := by decide +kernel
theorem dX11_scoreAt_24 : decode cX11_scoreAt 24 = .ok (.iaload, 1) := by decide +kernel
theorem dX11_scoreAt_25 : decode cX11_scoreAt 25 = .ok (.goto 8, 3) := by decide +kernel
theorem dX11_scoreAt_28 : decode cX11_scoreAt 28 = .ok (.aload_n 0, 1) := by decide +kernel
theorem dX11_scoreAt_29 : decode cX11_scoreAt 29 = .ok (.iconst 1, 1) := by decide +kernel
theorem dX11_scoreAt_30 : decode cX11_scoreAt 30 = .ok (.invokevirtual 88, 3) := by decide +kernel
theorem dX11_scoreAt_33 : decode cX11_scoreAt 33 = .ok (.ireturn, 1) := by decide +kernel
theorem dX11_kindNow_0 : decode cX11_kindNow 0 = .ok (.iconst 0, 1) := by decide +kernel
theorem dX11_kindNow_1 : decode cX11_kindNow 1 = .ok (.istore_n 2, 1) := by decide +kernel
theorem dX11_kindNow_2 : decode cX11_kindNow 2 = .ok (.iconst 0, 1) := by decide +kernel
theorem dX11_kindNow_3 : decode cX11_kindNow 3 = .ok (.istore_n 3, 1) := by decide +kernel
theorem dX11_kindNow_4 : decode cX11_kindNow 4 = .ok (.iload_n 3, 1) := by decide +kernel
theorem dX11_kindNow_5 : decode cX11_kindNow 5 = .ok (.aload_n 0, 1) := by decide +kernel
theorem dX11_kindNow_6 : decode cX11_kindNow 6 = .ok (.getfield 206, 3) := by decide +kernel
theorem dX11_kindNow_9 : decode cX11_kindNow 9 = .ok (.if_icmp .ge 32, 3) := by decide +kernel
theorem dX11_kindNow_12 : decode cX11_kindNow 12 = .ok (.iload_n 2, 1) := by decide +kernel
theorem dX11_kindNow_13 : decode cX11_kindNow 13 = .ok (.aload_n 0, 1) := by decide +kernel
theorem dX11_kindNow_14 : decode cX11_kindNow 14 = .ok (.getfield 13, 3) := by decide +kernel
theorem dX11_kindNow_17 : decode cX11_kindNow 17 = .ok (.aload_n 0, 1) := by decide +kernel
theorem dX11_kindNow_18 : decode cX11_kindNow 18 = .ok (.getfield 59, 3) := by decide +kernel
theorem dX11_kindNow_21 : decode cX11_kindNow 21 = .ok (.iload_n 3, 1) := by decide +kernel
theorem dX11_kindNow_22 : decode cX11_kindNow 22 = .ok (.iaload, 1) := by decide +kernel
theorem dX11_kindNow_23 : decode cX11_kindNow 23 = .ok (.iaload, 1) := by decide +kernel
theorem dX11_kindNow_24 : decode cX11_kindNow 24 = .ok (.iload_n 1, 1) := by decide +kernel
theorem dX11_kindNow_25 : decode cX11_kindNow 25 = .ok (.if_icmp .ne 7, 3) := by decide +kernel
theorem dX11_kindNow_28 : decode cX11_kindNow 28 = .ok (.iconst 1, 1) := by decide +kernel
theorem dX11_kindNow_29 : decode cX11_kindNow 29 = .ok (.goto 4, 3) := by decide +kernel
theorem dX11_kindNow_32 : decode cX11_kindNow 32 = .ok (.iconst 0, 1) := by decide +kernel
theorem dX11_kindNow_33 : decode cX11_kindNow 33 = .ok (.iadd, 1) := by decide +kernel
theorem dX11_kindNow_34 : decode cX11_kindNow 34 = .ok (.istore_n 2, 1) := by decide +kernel
theorem dX11_kindNow_35 : decode cX11_kindNow 35 = .ok (.iinc 3 1, 3) := by decide +kernel
