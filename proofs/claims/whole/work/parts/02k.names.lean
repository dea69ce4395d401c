theorem dX11_setMute_0 : decode cX11_setMute 0 = .ok (.aload_n 0, 1) := by decide +kernel
theorem dX11_setMute_1 : decode cX11_setMute 1 = .ok (.iload_n 1, 1) := by decide +kernel
theorem dX11_setMute_2 : decode cX11_setMute 2 = .ok (.invokestatic 100, 3) := by decide +kernel
theorem dX11_setMute_5 : decode cX11_setMute 5 = .ok (.ifCond .eq 7, 3) := by decide +kernel
theorem dX11_setMute_8 : decode cX11_setMute 8 = .ok (.iconst 0, 1) := by decide +kernel
theorem dX11_setMute_9 : decode cX11_setMute 9 = .ok (.goto 4, 3) := by decide +kernel
theorem dX11_setMute_12 : decode cX11_setMute 12 = .ok (.iconst 1, 1) := by decide +kernel
theorem dX11_setMute_13 : decode cX11_setMute 13 = .ok (.putfield 74, 3) := by decide +kernel
theorem dX11_setMute_16 : decode cX11_setMute 16 = .ok (.aload_n 0, 1) := by decide +kernel
theorem dX11_setMute_17 : decode cX11_setMute 17 = .ok (.getfield 74, 3) := by decide +kernel
theorem dX11_setMute_20 : decode cX11_setMute 20 = .ok (.ifCond .eq 5, 3) := by decide +kernel
theorem dX11_setMute_23 : decode cX11_setMute 23 = .ok (.iconst 0, 1) := by decide +kernel
theorem dX11_setMute_24 : decode cX11_setMute 24 = .ok (.ireturn, 1) := by decide +kernel
theorem dX11_setMute_25 : decode cX11_setMute 25 = .ok (.aload_n 0, 1) := by decide +kernel
theorem dX11_setMute_26 : decode cX11_setMute 26 = .ok (.getfield 29, 3) := by decide +kernel
theorem dX11_setMute_29 : decode cX11_setMute 29 = .ok (.iload_n 1, 1) := by decide +kernel
theorem dX11_setMute_30 : decode cX11_setMute 30 = .ok (.baload, 1) := by decide +kernel
theorem dX11_setMute_31 : decode cX11_setMute 31 = .ok (.istore_n 3, 1) := by decide +kernel
theorem dX11_setMute_32 : decode cX11_setMute 32 = .ok (.aload_n 0, 1) := by decide +kernel
theorem dX11_setMute_33 : decode cX11_setMute 33 = .ok (.getfield 29, 3) := by decide +kernel
theorem dX11_setMute_36 : decode cX11_setMute 36 = .ok (.iload_n 1, 1) := by decide +kernel
theorem dX11_setMute_37 : decode cX11_setMute 37 = .ok (.iload_n 2, 1) := by decide +kernel
theorem dX11_setMute_38 : decode cX11_setMute 38 = .ok (.bastore, 1) := by decide +kernel
theorem dX11_setMute_39 : decode cX11_setMute 39 = .ok (.iload_n 3, 1) := by decide +kernel
theorem dX11_setMute_40 : decode cX11_setMute 40 = .ok (.ireturn, 1) := by decide +kernel
set_option maxRecDepth 20000 in
theorem ggX11_setAlias_X11_isTerm : GoodIn wsX11_setAlias wsX11_isTerm := goodIn_r _ [6, 7, 8, 5, 9] (by decide +kernel) (by decide +kernel)
set_option maxRecDepth 20000 in
theorem gX11_setAlias_X11_isTerm : GoodIn wsX11_setAlias (va_wsS RX11 100 yX11_isTerm wsX11_isTerm) := goodIn_app (goodIn_of _ (by decide +kernel)) ggX11_setAlias_X11_isTerm
set_option maxRecDepth 20000 in
theorem ggX11_setAlias_X11_isIn : GoodIn wsX11_setAlias wsX11_isIn := goodIn_r _ [9] (by decide +kernel) (by decide +kernel)
set_option maxRecDepth 20000 in
theorem gX11_setAlias_X11_isIn : GoodIn wsX11_setAlias (va_wsS RX11 78 yX11_isIn wsX11_isIn) := goodIn_app (goodIn_of _ (by decide +kernel)) ggX11_setAlias_X11_isIn
set_option maxRecDepth 20000 in
theorem ggX11_setAlias_X11_no : GoodIn wsX11_setAlias wsX11_no := goodIn_r _ [13, 1, 14, 15, 16, 17, 18, 19, 20, 21, 22, 23, 24, 25, 26, 27, 28, 29, 30, 31, 32, 33, 34, 35, 36, 37, 38, 39, 40, 41, 42, 43] (by decide +kernel) (by decide +kernel)
set_option maxRecDepth 20000 in
theorem gX11_setAlias_X11_no : GoodIn wsX11_setAlias (wsV RX11 88 RX11 yX11_no wsX11_no) := goodIn_app (goodIn_of _ (by decide +kernel)) ggX11_setAlias_X11_no
theorem dX11_setAlias_0 : decode cX11_setAlias 0 = .ok (.aload_n 0, 1) := by decide +kernel
theorem dX11_setAlias_1 : decode cX11_setAlias 1 = .ok (.iconst 0, 1) := by decide +kernel
theorem dX11_setAlias_2 : decode cX11_setAlias 2 = .ok (.putfield 74, 3) := by decide +kernel
theorem dX11_setAlias_5 : decode cX11_setAlias 5 = .ok (.iload_n 1, 1) := by decide +kernel
theorem dX11_setAlias_6 : decode cX11_setAlias 6 = .ok (.invokestatic 100, 3) := by decide +kernel
theorem dX11_setAlias_9 : decode cX11_setAlias 9 = .ok (.ifCond .eq 19, 3) := by decide +kernel
theorem dX11_setAlias_12 : decode cX11_setAlias 12 = .ok (.iload_n 2, 1) := by decide +kernel
theorem dX11_setAlias_13 : decode cX11_setAlias 13 = .ok (.iconst (-1), 1) := by decide +kernel
theorem dX11_setAlias_14 : decode cX11_setAlias 14 = .ok (.sipush 199, 3) := by decide +kernel
theorem dX11_setAlias_17 : decode cX11_setAlias 17 = .ok (.invokestatic 78, 3) := by decide +kernel
theorem dX11_setAlias_20 : decode cX11_setAlias 20 = .ok (.ifCond .eq 8, 3) := by decide +kernel
theorem dX11_setAlias_23 : decode cX11_setAlias 23 = .ok (.iload_n 2, 1) := by decide +kernel
theorem dX11_setAlias_24 : decode cX11_setAlias 24 = .ok (.iload_n 1, 1) := by decide +kernel
theorem dX11_setAlias_25 : decode cX11_setAlias 25 = .ok (.if_icmp .ne 9, 3) := by decide +kernel
theorem dX11_setAlias_28 : decode cX11_setAlias 28 = .ok (.aload_n 0, 1) := by decide +kernel
theorem dX11_setAlias_29 : decode cX11_setAlias 29 = .ok (.iconst 1, 1) := by decide +kernel
theorem dX11_setAlias_30 : decode cX11_setAlias 30 = .ok (.invokevirtual 88, 3) := by decide +kernel
theorem dX11_setAlias_33 : decode cX11_setAlias 33 = .ok (.ireturn, 1) := by decide +kernel
theorem dX11_setAlias_34 : decode cX11_setAlias 34 = .ok (.aload_n 0, 1) := by decide +kernel
theorem dX11_setAlias_35 : decode cX11_setAlias 35 = .ok (.getfield 32, 3) := by decide +kernel
theorem dX11_setAlias_38 : decode cX11_setAlias 38 = .ok (.iload_n 1, 1) := by decide +kernel
theorem dX11_setAlias_39 : decode cX11_setAlias 39 = .ok (.iaload, 1) := by decide +kernel
theorem dX11_setAlias_40 : decode cX11_setAlias 40 = .ok (.istore_n 3, 1) := by decide +kernel
theorem dX11_setAlias_41 : decode cX11_setAlias 41 = .ok (.aload_n 0, 1) := by decide +kernel
theorem dX11_setAlias_42 : decode cX11_setAlias 42 = .ok (.getfield 32, 3) := by decide +kernel
theorem dX11_setAlias_45 : decode cX11_setAlias 45 = .ok (.iload_n 1, 1) := by decide +kernel
theorem dX11_setAlias_46 : decode cX11_setAlias 46 = .ok (.iload_n 2, 1) := by decide +kernel
theorem dX11_setAlias_47 : decode cX11_setAlias 47 = .ok (.iastore, 1) := by decide +kernel
theorem dX11_setAlias_48 : decode cX11_setAlias 48 = .ok (.iload_n 3, 1) := by decide +kernel
theorem dX11_setAlias_49 : decode cX11_setAlias 49 = .ok (.ireturn, 1) := by decide +kernel
set_option maxRecDepth 20000 in
theorem ggX11_setWeight_X11_isField : GoodIn wsX11_setWeight wsX11_isField := goodIn_r _ [6, 7, 8, 5, 9] (by decide +kernel) (by decide +kernel)
set_option maxRecDepth 20000 in
theorem gX11_setWeight_X11_isField : GoodIn wsX11_setWeight (va_wsS RX11 96 yX11_isField wsX11_isField) := goodIn_app (goodIn_of _ (by decide +kernel)) ggX11_setWeight_X11_isField
set_option maxRecDepth 20000 in
theorem ggX11_setWeight_X11_isIn : GoodIn wsX11_setWeight wsX11_isIn := goodIn_r _ [9] (by decide +kernel) (by decide +kernel)
set_option maxRecDepth 20000 in
theorem gX11_setWeight_X11_isIn : GoodIn wsX11_setWeight (va_wsS RX11 78 yX11_isIn wsX11_isIn) := goodIn_app (goodIn_of _ (by decide +kernel)) ggX11_setWeight_X11_isIn
set_option maxRecDepth 20000 in
theorem ggX11_setWeight_X11_no : GoodIn wsX11_setWeight wsX11_no := goodIn_r _ [13, 1, 14, 15, 16, 17, 18, 19, 20, 21, 22, 23, 24, 25, 26, 27, 28, 29, 30, 31, 32, 33, 34, 35, 36, 37, 38, 39, 40, 41, 42, 43] (by decide +kernel) (by decide +kernel)
set_option maxRecDepth 20000 in
theorem gX11_setWeight_X11_no : GoodIn wsX11_setWeight (wsV RX11 88 RX11 yX11_no wsX11_no) := goodIn_app (goodIn_of _ (by decide +kernel)) ggX11_setWeight_X11_no
theorem dX11_setWeight_0 : decode cX11_setWeight 0 = .ok (.aload_n 0, 1) := by decide +kernel
theorem dX11_setWeight_1 : decode cX11_setWeight 1 = .ok (.iconst 0, 1) := by decide +kernel
theorem dX11_setWeight_2 : decode cX11_setWeight 2 = .ok (.putfield 74, 3) := by decide +kernel
theorem dX11_setWeight_5 : decode cX11_setWeight 5 = .ok (.iload_n 1, 1) := by decide +kernel
theorem dX11_setWeight_6 : decode cX11_setWeight 6 = .ok (.invokestatic 96, 3) := by decide +kernel
theorem dX11_setWeight_9 : decode cX11_setWeight 9 = .ok (.ifCond .eq 13, 3) := by decide +kernel
theorem dX11_setWeight_12 : decode cX11_setWeight 12 = .ok (.iload_n 2, 1) := by decide +kernel
theorem dX11_setWeight_13 : decode cX11_setWeight 13 = .ok (.iconst 1, 1) := by decide +kernel
theorem dX11_setWeight_14 : decode cX11_setWeight 14 = .ok (.bipush 9, 2) := by decide +kernel
theorem dX11_setWeight_16 : decode cX11_setWeight 16 = .ok (.invokestatic 78, 3) := by decide +kernel
theorem dX11_setWeight_19 : decode cX11_setWeight 19 = .ok (.ifCond .ne 9, 3) := by decide +kernel
theorem dX11_setWeight_22 : decode cX11_setWeight 22 = .ok (.aload_n 0, 1) := by decide +kernel
theorem dX11_setWeight_23 : decode cX11_setWeight 23 = .ok (.iconst 1, 1) := by decide +kernel
theorem dX11_setWeight_24 : decode cX11_setWeight 24 = .ok (.invokevirtual 88, 3) := by decide +kernel
theorem dX11_setWeight_27 : decode cX11_setWeight 27 = .ok (.ireturn, 1) := by decide +kernel
theorem dX11_setWeight_28 : decode cX11_setWeight 28 = .ok (.aload_n 0, 1) := by decide +kernel
theorem dX11_setWeight_29 : decode cX11_setWeight 29 = .ok (.getfield 35, 3) := by decide +kernel
theorem dX11_setWeight_32 : decode cX11_setWeight 32 = .ok (.iload_n 1, 1) := by decide +kernel
theorem dX11_setWeight_33 : decode cX11_setWeight 33 = .ok (.iaload, 1) := by decide +kernel
theorem dX11_setWeight_34 : decode cX11_setWeight 34 = .ok (.istore_n 3, 1) := by decide +kernel
theorem dX11_setWeight_35 : decode cX11_setWeight 35 = .ok (.aload_n 0, 1) := by decide +kernel
theorem dX11_setWeight_36 : decode cX11_setWeight 36 = .ok (.getfield 35, 3) := by decide +kernel
theorem dX11_setWeight_39 : decode cX11_setWeight 39 = .ok (.iload_n 1, 1) := by decide +kernel
theorem dX11_setWeight_40 : decode cX11_setWeight 40 = .ok (.iload_n 2, 1) := by decide +kernel
theorem dX11_setWeight_41 : decode cX11_setWeight 41 = .ok (.iastore, 1) := by decide +kernel
theorem dX11_setWeight_42 : decode cX11_setWeight 42 = .ok (.iload_n 3, 1) := by decide +kernel
theorem dX11_setWeight_43 : decode cX11_setWeight 43 = .ok (.ireturn, 1) := by decide +kernel
set_option maxRecDepth 20000 in
theorem ggX11_documents_X11_ok : GoodIn wsX11_documents wsX11_ok := goodIn_r _ [6, 7, 8, 9, 10, 11, 12, 13, 14, 15, 16, 17, 18, 19, 20, 21, 22, 23, 24, 25, 26, 27, 28, 29, 30, 31, 32, 33, 34, 35, 36, 37] (by decide +kernel) (by decide +kernel)
set_option maxRecDepth 20000 in
theorem gX11_documents_X11_ok : GoodIn wsX11_documents (wsV RX11 109 RX11 yX11_ok wsX11_ok) := goodIn_app (goodIn_of _ (by decide +kernel)) ggX11_documents_X11_ok
theorem dX11_documents_0 : decode cX11_documents 0 = .ok (.aload_n 0, 1) := by decide +kernel
theorem dX11_documents_1 : decode cX11_documents 1 = .ok (.aload_n 0, 1) := by decide +kernel
theorem dX11_documents_2 : decode cX11_documents 2 = .ok (.getfield 82, 3) := by decide +kernel
theorem dX11_documents_5 : decode cX11_documents 5 = .ok (.invokevirtual 109, 3) := by decide +kernel
theorem dX11_documents_8 : decode cX11_documents 8 = .ok (.ireturn, 1) := by decide +kernel
theorem dX11_stateNow_0 : decode cX11_stateNow 0 = .ok (.aload_n 0, 1) := by decide +kernel
theorem dX11_stateNow_1 : decode cX11_stateNow 1 = .ok (.getfield 16, 3) := by decide +kernel
theorem dX11_stateNow_4 : decode cX11_stateNow 4 = .ok (.iload_n 1, 1) := by decide +kernel
theorem dX11_stateNow_5 : decode cX11_stateNow 5 = .ok (.baload, 1) := by decide +kernel
theorem dX11_stateNow_6 : decode cX11_stateNow 6 = .ok (.ifCond .eq 7, 3) := by decide +kernel
theorem dX11_stateNow_9 : decode cX11_stateNow 9 = .ok (.iconst 0, 1) := by decide +kernel
theorem dX11_stateNow_10 : decode cX11_stateNow 10 = .ok (.goto 16, 3) := by decide +kernel
theorem dX11_stateNow_13 : decode cX11_stateNow 13 = .ok (.iload_n 1, 1) := by decide +kernel
theorem dX11_stateNow_14 : decode cX11_stateNow 14 = .ok (.aload_n 0, 1) := by decide +kernel
theorem dX11_stateNow_15 : decode cX11_stateNow 15 = .ok (.getfield 103, 3) := by decide +kernel
theorem dX11_stateNow_18 : decode cX11_stateNow 18 = .ok (.if_icmp .lt 7, 3) := by decide +kernel
theorem dX11_stateNow_21 : decode cX11_stateNow 21 = .ok (.iconst 1, 1) := by decide +kernel
theorem dX11_stateNow_22 : decode cX11_stateNow 22 = .ok (.goto 4, 3) := by decide +kernel
theorem dX11_stateNow_25 : decode cX11_stateNow 25 = .ok (.iconst 2, 1) := by decide +kernel
theorem dX11_stateNow_26 : decode cX11_stateNow 26 = .ok (.ireturn, 1) := by decide +kernel
set_option maxRecDepth 20000 in
theorem ggX11_stateOf_X11_isDocument : GoodIn wsX11_stateOf wsX11_isDocument := goodIn_r _ [6, 7, 8, 9, 5, 10, 21, 22, 23, 24, 25, 26, 27, 28, 29, 30, 31, 32, 33, 34, 35, 36, 37, 38, 39, 40, 41, 42, 43, 44, 45, 46, 47, 48, 49, 50] (by decide +kernel) (by decide +kernel)
set_option maxRecDepth 20000 in
theorem gX11_stateOf_X11_isDocument : GoodIn wsX11_stateOf (wsV RX11 106 RX11 yX11_isDocument wsX11_isDocument) := goodIn_app (goodIn_of _ (by decide +kernel)) ggX11_stateOf_X11_isDocument
set_option maxRecDepth 20000 in
theorem ggX11_stateOf_X11_stateNow : GoodIn wsX11_stateOf wsX11_stateNow := goodIn_r _ [14, 15, 16, 21, 22, 23, 24, 25, 26, 27, 28, 29, 30, 31, 32, 33, 34, 35, 36, 37, 38, 39, 40, 41, 42, 43, 44, 45, 46, 47, 48, 49, 50] (by decide +kernel) (by decide +kernel)
set_option maxRecDepth 20000 in
theorem gX11_stateOf_X11_stateNow : GoodIn wsX11_stateOf (wsV RX11 112 RX11 yX11_stateNow wsX11_stateNow) := goodIn_app (goodIn_of _ (by decide +kernel)) ggX11_stateOf_X11_stateNow
set_option maxRecDepth 20000 in
theorem ggX11_stateOf_X11_no : GoodIn wsX11_stateOf wsX11_no := goodIn_r _ [20, 1, 21, 22, 23, 24, 25, 26, 27, 28, 29, 30, 31, 32, 33, 34, 35, 36, 37, 38, 39, 40, 41, 42, 43, 44, 45, 46, 47, 48, 49, 50] (by decide +kernel) (by decide +kernel)
set_option maxRecDepth 20000 in
theorem gX11_stateOf_X11_no : GoodIn wsX11_stateOf (wsV RX11 88 RX11 yX11_no wsX11_no) := goodIn_app (goodIn_of _ (by decide +kernel)) ggX11_stateOf_X11_no
theorem dX11_stateOf_0 : decode cX11_stateOf 0 = .ok (.aload_n 0, 1) := by decide +kernel
theorem dX11_stateOf_1 : decode cX11_stateOf 1 = .ok (.iconst 0, 1) := by decide +kernel
theorem dX11_stateOf_2 : decode cX11_stateOf 2 = .ok (.putfield 74, 3) := by decide +kernel
theorem dX11_stateOf_5 : decode cX11_stateOf 5 = .ok (.aload_n 0, 1) := by decide +kernel
theorem dX11_stateOf_6 : decode cX11_stateOf 6 = .ok (.iload_n 1, 1) := by decide +kernel
theorem dX11_stateOf_7 : decode cX11_stateOf 7 = .ok (.invokevirtual 106, 3) := by decide +kernel
theorem dX11_stateOf_10 : decode cX11_stateOf 10 = .ok (.ifCond .eq 11, 3) := by decide +kernel
theorem dX11_stateOf_13 : decode cX11_stateOf 13 = .ok (.aload_n 0, 1) := by decide +kernel
theorem dX11_stateOf_14 : decode cX11_stateOf 14 = .ok (.iload_n 1, 1) := by decide +kernel
theorem dX11_stateOf_15 : decode cX11_stateOf 15 = .ok (.invokevirtual 112, 3) := by decide +kernel
theorem dX11_stateOf_18 : decode cX11_stateOf 18 = .ok (.goto 8, 3) := by decide +kernel
theorem dX11_stateOf_21 : decode cX11_stateOf 21 = .ok (.aload_n 0, 1) := by decide +kernel
theorem dX11_stateOf_22 : decode cX11_stateOf 22 = .ok (.iconst 1, 1) := by decide +kernel
theorem dX11_stateOf_23 : decode cX11_stateOf 23 = .ok (.invokevirtual 88, 3) := by decide +kernel
theorem dX11_stateOf_26 : decode cX11_stateOf 26 = .ok (.ireturn, 1) := by decide +kernel
theorem dX11_at_0 : decode cX11_at 0 = .ok (.aload_n 0, 1) := by decide +kernel
theorem dX11_at_1 : decode cX11_at 1 = .ok (.getfield 26, 3) := by decide +kernel
theorem dX11_at_4 : decode cX11_at 4 = .ok (.iload_n 1, 1) := by decide +kernel
theorem dX11_at_5 : decode cX11_at 5 = .ok (.iconst 3, 1) := by decide +kernel
theorem dX11_at_6 : decode cX11_at 6 = .ok (.imul, 1) := by decide +kernel
theorem dX11_at_7 : decode cX11_at 7 = .ok (.iload_n 2, 1) := by decide +kernel
theorem dX11_at_8 : decode cX11_at 8 = .ok (.iadd, 1) := by decide +kernel
theorem dX11_at_9 : decode cX11_at 9 = .ok (.bipush 12, 2) := by decide +kernel
theorem dX11_at_11 : decode cX11_at 11 = .ok (.imul, 1) := by decide +kernel
theorem dX11_at_12 : decode cX11_at 12 = .ok (.iload_n 3, 1) := by decide +kernel
theorem dX11_at_13 : decode cX11_at 13 = .ok (.iadd, 1) := by decide +kernel
theorem dX11_at_14 : decode cX11_at 14 = .ok (.iaload, 1) := by decide +kernel
theorem dX11_at_15 : decode cX11_at 15 = .ok (.ireturn, 1) := by decide +kernel
theorem dX11_many_0 : decode cX11_many 0 = .ok (.aload_n 0, 1) := by decide +kernel
theorem dX11_many_1 : decode cX11_many 1 = .ok (.getfield 23, 3) := by decide +kernel
theorem dX11_many_4 : decode cX11_many 4 = .ok (.iload_n 1, 1) := by decide +kernel
theorem dX11_many_5 : decode cX11_many 5 = .ok (.iconst 3, 1) := by decide +kernel
theorem dX11_many_6 : decode cX11_many 6 = .ok (.imul, 1) := by decide +kernel
theorem dX11_many_7 : decode cX11_many 7 = .ok (.iload_n 2, 1) := by decide +kernel
theorem dX11_many_8 : decode cX11_many 8 = .ok (.iadd, 1) := by decide +kernel
theorem dX11_many_9 : decode cX11_many 9 = .ok (.iaload, 1) := by decide +kernel
theorem dX11_many_10 : decode cX11_many 10 = .ok (.ireturn, 1) := by decide +kernel
set_option maxRecDepth 20000 in
theorem ggX11_termAt_X11_isDocument : GoodIn wsX11_termAt wsX11_isDocument := goodIn_r _ [6, 7, 8, 9, 5, 10, 28, 29, 30, 31, 32, 33, 34, 35, 36, 37, 38, 39, 40, 41, 42, 43, 44, 45, 46, 47, 48, 49, 50, 51, 52, 53, 54, 55, 56, 57] (by decide +kernel) (by decide +kernel)
set_option maxRecDepth 20000 in
theorem gX11_termAt_X11_isDocument : GoodIn wsX11_termAt (wsV RX11 106 RX11 yX11_isDocument wsX11_isDocument) := goodIn_app (goodIn_of _ (by decide +kernel)) ggX11_termAt_X11_isDocument
set_option maxRecDepth 20000 in
theorem ggX11_termAt_X11_isField : GoodIn wsX11_termAt wsX11_isField := goodIn_r _ [13, 8, 9, 5, 10] (by decide +kernel) (by decide +kernel)
set_option maxRecDepth 20000 in
theorem gX11_termAt_X11_isField : GoodIn wsX11_termAt (va_wsS RX11 96 yX11_isField wsX11_isField) := goodIn_app (goodIn_of _ (by decide +kernel)) ggX11_termAt_X11_isField
set_option maxRecDepth 20000 in
theorem ggX11_termAt_X11_many : GoodIn wsX11_termAt wsX11_many := goodIn_r _ [17, 18, 28, 29, 30, 31, 32, 33, 34, 35, 36, 37, 38, 39, 40, 41, 42, 43, 44, 45, 46, 47, 48, 49, 50, 51, 52, 53, 54, 55, 56, 57] (by decide +kernel) (by decide +kernel)
set_option maxRecDepth 20000 in
theorem gX11_termAt_X11_many : GoodIn wsX11_termAt (wsV RX11 115 RX11 yX11_many wsX11_many) := goodIn_app (goodIn_of _ (by decide +kernel)) ggX11_termAt_X11_many
set_option maxRecDepth 20000 in
theorem ggX11_termAt_X11_isIn : GoodIn wsX11_termAt wsX11_isIn := goodIn_r _ [10] (by decide +kernel) (by decide +kernel)
set_option maxRecDepth 20000 in
theorem gX11_termAt_X11_isIn : GoodIn wsX11_termAt (va_wsS RX11 78 yX11_isIn wsX11_isIn) := goodIn_app (goodIn_of _ (by decide +kernel)) ggX11_termAt_X11_isIn
set_option maxRecDepth 20000 in
theorem ggX11_termAt_X11_at : GoodIn wsX11_termAt wsX11_at := goodIn_r _ [22, 23, 28, 29, 30, 31, 32, 33, 34, 35, 36, 37, 38, 39, 40, 41, 42, 43, 44, 45, 46, 47, 48, 49, 50, 51, 52, 53, 54, 55, 56, 57] (by decide +kernel) (by decide +kernel)
set_option maxRecDepth 20000 in
theorem gX11_termAt_X11_at : GoodIn wsX11_termAt (wsV RX11 119 RX11 yX11_at wsX11_at) := goodIn_app (goodIn_of _ (by decide +kernel)) ggX11_termAt_X11_at
set_option maxRecDepth 20000 in
theorem ggX11_termAt_X11_no : GoodIn wsX11_termAt wsX11_no := goodIn_r _ [27, 1, 28, 29, 30, 31, 32, 33, 34, 35, 36, 37, 38, 39, 40, 41, 42, 43, 44, 45, 46, 47, 48, 49, 50, 51, 52, 53, 54, 55, 56, 57] (by decide +kernel) (by decide +kernel)
set_option maxRecDepth 20000 in
theorem gX11_termAt_X11_no : GoodIn wsX11_termAt (wsV RX11 88 RX11 yX11_no wsX11_no) := goodIn_app (goodIn_of _ (by decide +kernel)) ggX11_termAt_X11_no
theorem dX11_termAt_0 : decode cX11_termAt 0 = .ok (.aload_n 0, 1) := by decide +kernel
theorem dX11_termAt_1 : decode cX11_termAt 1 = .ok (.iconst 0, 1) := by decide +kernel
theorem dX11_termAt_2 : decode cX11_termAt 2 = .ok (.putfield 74, 3) := by decide +kernel
theorem dX11_termAt_5 : decode cX11_termAt 5 = .ok (.aload_n 0, 1) := by decide +kernel
theorem dX11_termAt_6 : decode cX11_termAt 6 = .ok (.iload_n 1, 1) := by decide +kernel
theorem dX11_termAt_7 : decode cX11_termAt 7 = .ok (.invokevirtual 106, 3) := by decide +kernel
theorem dX11_termAt_10 : decode cX11_termAt 10 = .ok (.ifCond .eq 36, 3) := by decide +kernel
theorem dX11_termAt_13 : decode cX11_termAt 13 = .ok (.iload_n 2, 1) := by decide +kernel
theorem dX11_termAt_14 : decode cX11_termAt 14 = .ok (.invokestatic 96, 3) := by decide +kernel
theorem dX11_termAt_17 : decode cX11_termAt 17 = .ok (.ifCond .eq 29, 3) := by decide +kernel
theorem dX11_termAt_20 : decode cX11_termAt 20 = .ok (.iload_n 3, 1) := by decide +kernel
theorem dX11_termAt_21 : decode cX11_termAt 21 = .ok (.iconst 0, 1) := by decide +kernel
theorem dX11_termAt_22 : decode cX11_termAt 22 = .ok (.aload_n 0, 1) := by decide +kernel
theorem dX11_termAt_23 : decode cX11_termAt 23 = .ok (.iload_n 1, 1) := by decide +kernel
theorem dX11_termAt_24 : decode cX11_termAt 24 = .ok (.iload_n 2, 1) := by decide +kernel
theorem dX11_termAt_25 : decode cX11_termAt 25 = .ok (.invokevirtual 115, 3) := by decide +kernel
theorem dX11_termAt_28 : decode cX11_termAt 28 = .ok (.iconst 1, 1) := by decide +kernel
theorem dX11_termAt_29 : decode cX11_termAt 29 = .ok (.isub, 1) := by decide +kernel
theorem dX11_termAt_30 : decode cX11_termAt 30 = .ok (.invokestatic 78, 3) := by decide +kernel
theorem dX11_termAt_33 : decode cX11_termAt 33 = .ok (.ifCond .eq 13, 3) := by decide +kernel
theorem dX11_termAt_36 : decode cX11_termAt 36 = .ok (.aload_n 0, 1) := by decide +kernel
theorem dX11_termAt_37 : decode cX11_termAt 37 = .ok (.iload_n 1, 1) := by decide +kernel
theorem dX11_termAt_38 : decode cX11_termAt 38 = .ok (.iload_n 2, 1) := by decide +kernel
theorem dX11_termAt_39 : decode cX11_termAt 39 = .ok (.iload_n 3, 1) := by decide +kernel
theorem dX11_termAt_40 : decode cX11_termAt 40 = .ok (.invokevirtual 119, 3) := by decide +kernel
theorem dX11_termAt_43 : decode cX11_termAt 43 = .ok (.goto 8, 3) := by decide +kernel
theorem dX11_termAt_46 : decode cX11_termAt 46 = .ok (.aload_n 0, 1) := by decide +kernel
theorem dX11_termAt_47 : decode cX11_termAt 47 = .ok (.iconst 1, 1) := by decide +kernel
theorem dX11_termAt_48 : decode cX11_termAt 48 = .ok (.invokevirtual 88, 3) := by decide +kernel
theorem dX11_termAt_51 : decode cX11_termAt 51 = .ok (.ireturn, 1) := by decide +kernel
theorem dX11_sizeNow_0 : decode cX11_sizeNow 0 = .ok (.iconst 0, 1) := by decide +kernel
theorem dX11_sizeNow_1 : decode cX11_sizeNow 1 = .ok (.istore_n 2, 1) := by decide +kernel
theorem dX11_sizeNow_2 : decode cX11_sizeNow 2 = .ok (.iconst 0, 1) := by decide +kernel
theorem dX11_sizeNow_3 : decode cX11_sizeNow 3 = .ok (.istore_n 3, 1) := by decide +kernel
theorem dX11_sizeNow_4 : decode cX11_sizeNow 4 = .ok (.iload_n 3, 1) := by decide +kernel
theorem dX11_sizeNow_5 : decode cX11_sizeNow 5 = .ok (.aload_n 0, 1) := by decide +kernel
theorem dX11_sizeNow_6 : decode cX11_sizeNow 6 = .ok (.getfield 82, 3) := by decide +kernel
theorem dX11_sizeNow_9 : decode cX11_sizeNow 9 = .ok (.if_icmp .ge 27, 3) := by decide +kernel
theorem dX11_sizeNow_12 : decode cX11_sizeNow 12 = .ok (.iload_n 2, 1) := by decide +kernel
theorem dX11_sizeNow_13 : decode cX11_sizeNow 13 = .ok (.aload_n 0, 1) := by decide +kernel
theorem dX11_sizeNow_14 : decode cX11_sizeNow 14 = .ok (.getfield 41, 3) := by decide +kernel
theorem dX11_sizeNow_17 : decode cX11_sizeNow 17 = .ok (.iload_n 3, 1) := by decide +kernel
theorem dX11_sizeNow_18 : decode cX11_sizeNow 18 = .ok (.iaload, 1) := by decide +kernel
theorem dX11_sizeNow_19 : decode cX11_sizeNow 19 = .ok (.iload_n 1, 1) := by decide +kernel
theorem dX11_sizeNow_20 : decode cX11_sizeNow 20 = .ok (.if_icmp .ne 7, 3) := by decide +kernel
theorem dX11_sizeNow_23 : decode cX11_sizeNow 23 = .ok (.iconst 1, 1) := by decide +kernel
theorem dX11_sizeNow_24 : decode cX11_sizeNow 24 = .ok (.goto 4, 3) := by decide +kernel
theorem dX11_sizeNow_27 : decode cX11_sizeNow 27 = .ok (.iconst 0, 1) := by decide +kernel
theorem dX11_sizeNow_28 : decode cX11_sizeNow 28 = .ok (.iadd, 1) := by decide +kernel
theorem dX11_sizeNow_29 : decode cX11_sizeNow 29 = .ok (.istore_n 2, 1) := by decide +kernel
theorem dX11_sizeNow_30 : decode cX11_sizeNow 30 = .ok (.iinc 3 1, 3) := by decide +kernel
theorem dX11_sizeNow_33 : decode cX11_sizeNow 33 = .ok (.goto (-29), 3) := by decide +kernel
theorem dX11_sizeNow_36 : decode cX11_sizeNow 36 = .ok (.iload_n 2, 1) := by decide +kernel
theorem dX11_sizeNow_37 : decode cX11_sizeNow 37 = .ok (.ireturn, 1) := by decide +kernel
theorem dX11_merge_0 : decode cX11_merge 0 = .ok (.aload_n 0, 1) := by decide +kernel
theorem dX11_merge_1 : decode cX11_merge 1 = .ok (.iconst 0, 1) := by decide +kernel
theorem dX11_merge_2 : decode cX11_merge 2 = .ok (.putfield 123, 3) := by decide +kernel
theorem dX11_merge_5 : decode cX11_merge 5 = .ok (.iconst 0, 1) := by decide +kernel
theorem dX11_merge_6 : decode cX11_merge 6 = .ok (.istore_n 3, 1) := by decide +kernel
theorem dX11_merge_7 : decode cX11_merge 7 = .ok (.iconst 0, 1) := by decide +kernel
theorem dX11_merge_8 : decode cX11_merge 8 = .ok (.istore 4, 2) := by decide +kernel
theorem dX11_merge_10 : decode cX11_merge 10 = .ok (.iconst 0, 1) := by decide +kernel
theorem dX11_merge_11 : decode cX11_merge 11 = .ok (.istore 5, 2) := by decide +kernel
theorem dX11_merge_13 : decode cX11_merge 13 = .ok (.iload 5, 2) := by decide +kernel
theorem dX11_merge_15 : decode cX11_merge 15 = .ok (.aload_n 0, 1) := by decide +kernel
theorem dX11_merge_16 : decode cX11_merge 16 = .ok (.getfield 82, 3) := by decide +kernel
theorem dX11_merge_19 : decode cX11_merge 19 = .ok (.if_icmp .ge 66, 3) := by decide +kernel
theorem dX11_merge_22 : decode cX11_merge 22 = .ok (.aload_n 0, 1) := by decide +kernel
theorem dX11_merge_23 : decode cX11_merge 23 = .ok (.getfield 41, 3) := by decide +kernel
theorem dX11_merge_26 : decode cX11_merge 26 = .ok (.iload 5, 2) := by decide +kernel
theorem dX11_merge_28 : decode cX11_merge 28 = .ok (.iaload, 1) := by decide +kernel
theorem dX11_merge_29 : decode cX11_merge 29 = .ok (.iload_n 1, 1) := by decide +kernel
theorem dX11_merge_30 : decode cX11_merge 30 = .ok (.if_icmp .ge 6, 3) := by decide +kernel
theorem dX11_merge_33 : decode cX11_merge 33 = .ok (.goto 46, 3) := by decide +kernel
theorem dX11_merge_36 : decode cX11_merge 36 = .ok (.aload_n 0, 1) := by decide +kernel
theorem dX11_merge_37 : decode cX11_merge 37 = .ok (.getfield 16, 3) := by decide +kernel
theorem dX11_merge_40 : decode cX11_merge 40 = .ok (.iload 5, 2) := by decide +kernel
theorem dX11_merge_42 : decode cX11_merge 42 = .ok (.baload, 1) := by decide +kernel
theorem dX11_merge_43 : decode cX11_merge 43 = .ok (.ifCond .eq 25, 3) := by decide +kernel
theorem dX11_merge_46 : decode cX11_merge 46 = .ok (.aload_n 0, 1) := by decide +kernel
theorem dX11_merge_47 : decode cX11_merge 47 = .ok (.getfield 41, 3) := by decide +kernel
theorem dX11_merge_50 : decode cX11_merge 50 = .ok (.iload 5, 2) := by decide +kernel
theorem dX11_merge_52 : decode cX11_merge 52 = .ok (.iconst (-1), 1) := by decide +kernel
theorem dX11_merge_53 : decode cX11_merge 53 = .ok (.iastore, 1) := by decide +kernel
theorem dX11_merge_54 : decode cX11_merge 54 = .ok (.aload_n 0, 1) := by decide +kernel
theorem dX11_merge_55 : decode cX11_merge 55 = .ok (.getfield 20, 3) := by decide +kernel
theorem dX11_merge_58 : decode cX11_merge 58 = .ok (.iload 5, 2) := by decide +kernel
theorem dX11_merge_60 : decode cX11_merge 60 = .ok (.iconst 0, 1) := by decide +kernel
theorem dX11_merge_61 : decode cX11_merge 61 = .ok (.bastore, 1) := by decide +kernel
theorem dX11_merge_62 : decode cX11_merge 62 = .ok (.iinc 3 1, 3) := by decide +kernel
theorem dX11_merge_65 : decode cX11_merge 65 = .ok (.goto 14, 3) := by decide +kernel
theorem dX11_merge_68 : decode cX11_merge 68 = .ok (.aload_n 0, 1) := by decide +kernel
theorem dX11_merge_69 : decode cX11_merge 69 = .ok (.getfield 41, 3) := by decide +kernel
theorem dX11_merge_72 : decode cX11_merge 72 = .ok (.iload 5, 2) := by decide +kernel
theorem dX11_merge_74 : decode cX11_merge 74 = .ok (.iload_n 1, 1) := by decide +kernel
theorem dX11_merge_75 : decode cX11_merge 75 = .ok (.iastore, 1) := by decide +kernel
theorem dX11_merge_76 : decode cX11_merge 76 = .ok (.iinc 4 1, 3) := by decide +kernel
theorem dX11_merge_79 : decode cX11_merge 79 = .ok (.iinc 5 1, 3) := by decide +kernel
theorem dX11_merge_82 : decode cX11_merge 82 = .ok (.goto (-69), 3) := by decide +kernel
theorem dX11_merge_85 : decode cX11_merge 85 = .ok (.aload_n 0, 1) := by decide +kernel
theorem dX11_merge_86 : decode cX11_merge 86 = .ok (.iload 4, 2) := by decide +kernel
theorem dX11_merge_88 : decode cX11_merge 88 = .ok (.ifCond .ne 7, 3) := by decide +kernel
theorem dX11_merge_91 : decode cX11_merge 91 = .ok (.iload_n 1, 1) := by decide +kernel
theorem dX11_merge_92 : decode cX11_merge 92 = .ok (.goto 6, 3) := by decide +kernel
theorem dX11_merge_95 : decode cX11_merge 95 = .ok (.iload_n 1, 1) := by decide +kernel
theorem dX11_merge_96 : decode cX11_merge 96 = .ok (.iconst 1, 1) := by decide +kernel
theorem dX11_merge_97 : decode cX11_merge 97 = .ok (.iadd, 1) := by decide +kernel
theorem dX11_merge_98 : decode cX11_merge 98 = .ok (.putfield 126, 3) := by decide +kernel
theorem dX11_merge_101 : decode cX11_merge 101 = .ok (.aload_n 0, 1) := by decide +kernel
theorem dX11_merge_102 : decode cX11_merge 102 = .ok (.getfield 38, 3) := by decide +kernel
theorem dX11_merge_105 : decode cX11_merge 105 = .ok (.iload_n 1, 1) := by decide +kernel
theorem dX11_merge_106 : decode cX11_merge 106 = .ok (.iload_n 2, 1) := by decide +kernel
theorem dX11_merge_107 : decode cX11_merge 107 = .ok (.iastore, 1) := by decide +kernel
theorem dX11_merge_108 : decode cX11_merge 108 = .ok (.iload_n 3, 1) := by decide +kernel
theorem dX11_merge_109 : decode cX11_merge 109 = .ok (.ireturn, 1) := by decide +kernel
set_option maxRecDepth 20000 in
theorem ggX11_flush_X11_merge : GoodIn wsX11_flush wsX11_merge := goodIn_r _ [13, 4, 2, 5, 14, 7, 6, 8, 15, 16, 17, 18, 19, 20, 21, 22, 23, 24, 25, 26, 27, 28, 29, 30, 31, 32, 33, 34, 35, 36, 37, 38, 39, 40, 41, 42, 43, 44] (by decide +kernel) (by decide +kernel)
set_option maxRecDepth 20000 in
theorem gX11_flush_X11_merge : GoodIn wsX11_flush (wsV RX11 129 RX11 yX11_merge wsX11_merge) := goodIn_app (goodIn_of _ (by decide +kernel)) ggX11_flush_X11_merge
theorem dX11_flush_0 : decode cX11_flush 0 = .ok (.aload_n 0, 1) := by decide +kernel
theorem dX11_flush_1 : decode cX11_flush 1 = .ok (.iconst 0, 1) := by decide +kernel
theorem dX11_flush_2 : decode cX11_flush 2 = .ok (.putfield 74, 3) := by decide +kernel
theorem dX11_flush_5 : decode cX11_flush 5 = .ok (.aload_n 0, 1) := by decide +kernel
theorem dX11_flush_6 : decode cX11_flush 6 = .ok (.getfield 82, 3) := by decide +kernel
theorem dX11_flush_9 : decode cX11_flush 9 = .ok (.aload_n 0, 1) := by decide +kernel
theorem dX11_flush_10 : decode cX11_flush 10 = .ok (.getfield 103, 3) := by decide +kernel
theorem dX11_flush_13 : decode cX11_flush 13 = .ok (.isub, 1) := by decide +kernel
theorem dX11_flush_14 : decode cX11_flush 14 = .ok (.istore_n 1, 1) := by decide +kernel
theorem dX11_flush_15 : decode cX11_flush 15 = .ok (.aload_n 0, 1) := by decide +kernel
theorem dX11_flush_16 : decode cX11_flush 16 = .ok (.iconst 0, 1) := by decide +kernel
theorem dX11_flush_17 : decode cX11_flush 17 = .ok (.putfield 123, 3) := by decide +kernel
theorem dX11_flush_20 : decode cX11_flush 20 = .ok (.iload_n 1, 1) := by decide +kernel
theorem dX11_flush_21 : decode cX11_flush 21 = .ok (.ifCond .le 56, 3) := by decide +kernel
theorem dX11_flush_24 : decode cX11_flush 24 = .ok (.aload_n 0, 1) := by decide +kernel
theorem dX11_flush_25 : decode cX11_flush 25 = .ok (.getfield 103, 3) := by decide +kernel
theorem dX11_flush_28 : decode cX11_flush 28 = .ok (.istore_n 2, 1) := by decide +kernel
theorem dX11_flush_29 : decode cX11_flush 29 = .ok (.iload_n 2, 1) := by decide +kernel
theorem dX11_flush_30 : decode cX11_flush 30 = .ok (.aload_n 0, 1) := by decide +kernel
theorem dX11_flush_31 : decode cX11_flush 31 = .ok (.getfield 82, 3) := by decide +kernel
theorem dX11_flush_34 : decode cX11_flush 34 = .ok (.if_icmp .ge 26, 3) := by decide +kernel
theorem dX11_flush_37 : decode cX11_flush 37 = .ok (.aload_n 0, 1) := by decide +kernel
theorem dX11_flush_38 : decode cX11_flush 38 = .ok (.getfield 41, 3) := by decide +kernel
theorem dX11_flush_41 : decode cX11_flush 41 = .ok (.iload_n 2, 1) := by decide +kernel
theorem dX11_flush_42 : decode cX11_flush 42 = .ok (.aload_n 0, 1) := by decide +kernel
theorem dX11_flush_43 : decode cX11_flush 43 = .ok (.getfield 126, 3) := by decide +kernel
theorem dX11_flush_46 : decode cX11_flush 46 = .ok (.iastore, 1) := by decide +kernel
theorem dX11_flush_47 : decode cX11_flush 47 = .ok (.aload_n 0, 1) := by decide +kernel
theorem dX11_flush_48 : decode cX11_flush 48 = .ok (.getfield 20, 3) := by decide +kernel
theorem dX11_flush_51 : decode cX11_flush 51 = .ok (.iload_n 2, 1) := by decide +kernel
theorem dX11_flush_52 : decode cX11_flush 52 = .ok (.iconst 1, 1) := by decide +kernel
theorem dX11_flush_53 : decode cX11_flush 53 = .ok (.bastore, 1) := by decide +kernel
theorem dX11_flush_54 : decode cX11_flush 54 = .ok (.iinc 2 1, 3) := by decide +kernel
theorem dX11_flush_57 : decode cX11_flush 57 = .ok (.goto (-28), 3) := by decide +kernel
theorem dX11_flush_60 : decode cX11_flush 60 = .ok (.aload_n 0, 1) := by decide +kernel
theorem dX11_flush_61 : decode cX11_flush 61 = .ok (.getfield 38, 3) := by decide +kernel
theorem dX11_flush_64 : decode cX11_flush 64 = .ok (.aload_n 0, 1) := by decide +kernel
theorem dX11_flush_65 : decode cX11_flush 65 = .ok (.dup, 1) := by decide +kernel
theorem dX11_flush_66 : decode cX11_flush 66 = .ok (.getfield 126, 3) := by decide +kernel
theorem dX11_flush_69 : decode cX11_flush 69 = .ok (.dup_x1, 1) := by decide +kernel
theorem dX11_flush_70 : decode cX11_flush 70 = .ok (.iconst 1, 1) := by decide +kernel
theorem dX11_flush_71 : decode cX11_flush 71 = .ok (.iadd, 1) := by decide +kernel
theorem dX11_flush_72 : decode cX11_flush 72 = .ok (.putfield 126, 3) := by decide +kernel
theorem dX11_flush_75 : decode cX11_flush 75 = .ok (.iconst 0, 1) := by decide +kernel
theorem dX11_flush_76 : decode cX11_flush 76 = .ok (.iastore, 1) := by decide +kernel
theorem dX11_flush_77 : decode cX11_flush 77 = .ok (.aload_n 0, 1) := by decide +kernel
theorem dX11_flush_78 : decode cX11_flush 78 = .ok (.aload_n 0, 1) := by decide +kernel
theorem dX11_flush_79 : decode cX11_flush 79 = .ok (.getfield 82, 3) := by decide +kernel
theorem dX11_flush_82 : decode cX11_flush 82 = .ok (.putfield 103, 3) := by decide +kernel
theorem dX11_flush_85 : decode cX11_flush 85 = .ok (.aload_n 0, 1) := by decide +kernel
theorem dX11_flush_86 : decode cX11_flush 86 = .ok (.getfield 126, 3) := by decide +kernel
theorem dX11_flush_89 : decode cX11_flush 89 = .ok (.iconst 2, 1) := by decide +kernel
theorem dX11_flush_90 : decode cX11_flush 90 = .ok (.if_icmp .le 80, 3) := by decide +kernel
theorem dX11_flush_93 : decode cX11_flush 93 = .ok (.aload_n 0, 1) := by decide +kernel
theorem dX11_flush_94 : decode cX11_flush 94 = .ok (.getfield 38, 3) := by decide +kernel
theorem dX11_flush_97 : decode cX11_flush 97 = .ok (.aload_n 0, 1) := by decide +kernel
theorem dX11_flush_98 : decode cX11_flush 98 = .ok (.getfield 126, 3) := by decide +kernel
theorem dX11_flush_101 : decode cX11_flush 101 = .ok (.iconst 1, 1) := by decide +kernel
theorem dX11_flush_102 : decode cX11_flush 102 = .ok (.isub, 1) := by decide +kernel
theorem dX11_flush_103 : decode cX11_flush 103 = .ok (.iaload, 1) := by decide +kernel
theorem dX11_flush_104 : decode cX11_flush 104 = .ok (.aload_n 0, 1) := by decide +kernel
theorem dX11_flush_105 : decode cX11_flush 105 = .ok (.getfield 38, 3) := by decide +kernel
theorem dX11_flush_108 : decode cX11_flush 108 = .ok (.aload_n 0, 1) := by decide +kernel
theorem dX11_flush_109 : decode cX11_flush 109 = .ok (.getfield 126, 3) := by decide +kernel
theorem dX11_flush_112 : decode cX11_flush 112 = .ok (.iconst 2, 1) := by decide +kernel
theorem dX11_flush_113 : decode cX11_flush 113 = .ok (.isub, 1) := by decide +kernel
theorem dX11_flush_114 : decode cX11_flush 114 = .ok (.iaload, 1) := by decide +kernel
theorem dX11_flush_115 : decode cX11_flush 115 = .ok (.if_icmp .ne 55, 3) := by decide +kernel
theorem dX11_flush_118 : decode cX11_flush 118 = .ok (.aload_n 0, 1) := by decide +kernel
theorem dX11_flush_119 : decode cX11_flush 119 = .ok (.getfield 38, 3) := by decide +kernel
theorem dX11_flush_122 : decode cX11_flush 122 = .ok (.aload_n 0, 1) := by decide +kernel
theorem dX11_flush_123 : decode cX11_flush 123 = .ok (.getfield 126, 3) := by decide +kernel
theorem dX11_flush_126 : decode cX11_flush 126 = .ok (.iconst 2, 1) := by decide +kernel
theorem dX11_flush_127 : decode cX11_flush 127 = .ok (.isub, 1) := by decide +kernel
theorem dX11_flush_128 : decode cX11_flush 128 = .ok (.iaload, 1) := by decide +kernel
theorem dX11_flush_129 : decode cX11_flush 129 = .ok (.aload_n 0, 1) := by decide +kernel
theorem dX11_flush_130 : decode cX11_flush 130 = .ok (.getfield 38, 3) := by decide +kernel
theorem dX11_flush_133 : decode cX11_flush 133 = .ok (.aload_n 0, 1) := by decide +kernel
theorem dX11_flush_134 : decode cX11_flush 134 = .ok (.getfield 126, 3) := by decide +kernel
theorem dX11_flush_137 : decode cX11_flush 137 = .ok (.iconst 3, 1) := by decide +kernel
theorem dX11_flush_138 : decode cX11_flush 138 = .ok (.isub, 1) := by decide +kernel
theorem dX11_flush_139 : decode cX11_flush 139 = .ok (.iaload, 1) := by decide +kernel
theorem dX11_flush_140 : decode cX11_flush 140 = .ok (.if_icmp .ne 30, 3) := by decide +kernel
theorem dX11_flush_143 : decode cX11_flush 143 = .ok (.aload_n 0, 1) := by decide +kernel
theorem dX11_flush_144 : decode cX11_flush 144 = .ok (.aload_n 0, 1) := by decide +kernel
theorem dX11_flush_145 : decode cX11_flush 145 = .ok (.getfield 126, 3) := by decide +kernel
theorem dX11_flush_148 : decode cX11_flush 148 = .ok (.iconst 3, 1) := by decide +kernel
theorem dX11_flush_149 : decode cX11_flush 149 = .ok (.isub, 1) := by decide +kernel
theorem dX11_flush_150 : decode cX11_flush 150 = .ok (.aload_n 0, 1) := by decide +kernel
theorem dX11_flush_151 : decode cX11_flush 151 = .ok (.getfield 38, 3) := by decide +kernel
theorem dX11_flush_154 : decode cX11_flush 154 = .ok (.aload_n 0, 1) := by decide +kernel
theorem dX11_flush_155 : decode cX11_flush 155 = .ok (.getfield 126, 3) := by decide +kernel
theorem dX11_flush_158 : decode cX11_flush 158 = .ok (.iconst 1, 1) := by decide +kernel
theorem dX11_flush_159 : decode cX11_flush 159 = .ok (.isub, 1) := by decide +kernel
theorem dX11_flush_160 : decode cX11_flush 160 = .ok (.iaload, 1) := by decide +kernel
theorem dX11_flush_161 : decode cX11_flush 161 = .ok (.iconst 1, 1) := by decide +kernel
theorem dX11_flush_162 : decode cX11_flush 162 = .ok (.iadd, 1) := by decide +kernel
theorem dX11_flush_163 : decode cX11_flush 163 = .ok (.invokevirtual 129, 3) := by decide +kernel
theorem dX11_flush_166 : decode cX11_flush 166 = .ok (.pop, 1) := by decide +kernel
theorem dX11_flush_167 : decode cX11_flush 167 = .ok (.goto (-82), 3) := by decide +kernel
theorem dX11_flush_170 : decode cX11_flush 170 = .ok (.iload_n 1, 1) := by decide +kernel
theorem dX11_flush_171 : decode cX11_flush 171 = .ok (.ireturn, 1) := by decide +kernel
set_option maxRecDepth 20000 in
theorem ggX11_compact_X11_merge : GoodIn wsX11_compact wsX11_merge := goodIn_r _ [12, 13, 14, 15, 16, 17, 2, 3, 18, 19, 20, 21, 22, 23, 24, 25, 26, 27, 28, 29, 30, 31, 32, 33, 34, 35, 36, 37, 38, 39, 40, 41, 42, 43, 44, 45, 46, 47] (by decide +kernel) (by decide +kernel)
set_option maxRecDepth 20000 in
theorem gX11_compact_X11_merge : GoodIn wsX11_compact (wsV RX11 129 RX11 yX11_merge wsX11_merge) := goodIn_app (goodIn_of _ (by decide +kernel)) ggX11_compact_X11_merge
theorem dX11_compact_0 : decode cX11_compact 0 = .ok (.aload_n 0, 1) := by decide +kernel
theorem dX11_compact_1 : decode cX11_compact 1 = .ok (.iconst 0, 1) := by decide +kernel
theorem dX11_compact_2 : decode cX11_compact 2 = .ok (.putfield 74, 3) := by decide +kernel
theorem dX11_compact_5 : decode cX11_compact 5 = .ok (.aload_n 0, 1) := by decide +kernel
theorem dX11_compact_6 : decode cX11_compact 6 = .ok (.getfield 126, 3) := by decide +kernel
theorem dX11_compact_9 : decode cX11_compact 9 = .ok (.ifCond .ne 5, 3) := by decide +kernel
theorem dX11_compact_12 : decode cX11_compact 12 = .ok (.iconst 0, 1) := by decide +kernel
theorem dX11_compact_13 : decode cX11_compact 13 = .ok (.ireturn, 1) := by decide +kernel
theorem dX11_compact_14 : decode cX11_compact 14 = .ok (.iconst 0, 1) := by decide +kernel
theorem dX11_compact_15 : decode cX11_compact 15 = .ok (.istore_n 1, 1) := by decide +kernel
theorem dX11_compact_16 : decode cX11_compact 16 = .ok (.iconst 0, 1) := by decide +kernel
theorem dX11_compact_17 : decode cX11_compact 17 = .ok (.istore_n 2, 1) := by decide +kernel
theorem dX11_compact_18 : decode cX11_compact 18 = .ok (.iload_n 2, 1) := by decide +kernel
theorem dX11_compact_19 : decode cX11_compact 19 = .ok (.aload_n 0, 1) := by decide +kernel
theorem dX11_compact_20 : decode cX11_compact 20 = .ok (.getfield 126, 3) := by decide +kernel
theorem dX11_compact_23 : decode cX11_compact 23 = .ok (.if_icmp .ge 20, 3) := by decide +kernel
theorem dX11_compact_26 : decode cX11_compact 26 = .ok (.iload_n 1, 1) := by decide +kernel
theorem dX11_compact_27 : decode cX11_compact 27 = .ok (.aload_n 0, 1) := by decide +kernel
theorem dX11_compact_28 : decode cX11_compact 28 = .ok (.getfield 38, 3) := by decide +kernel
theorem dX11_compact_31 : decode cX11_compact 31 = .ok (.iload_n 2, 1) := by decide +kernel
theorem dX11_compact_32 : decode cX11_compact 32 = .ok (.iaload, 1) := by decide +kernel
theorem dX11_compact_33 : decode cX11_compact 33 = .ok (.invokestatic 132, 3) := by decide +kernel
theorem dX11_compact_36 : decode cX11_compact 36 = .ok (.istore_n 1, 1) := by decide +kernel
theorem dX11_compact_37 : decode cX11_compact 37 = .ok (.iinc 2 1, 3) := by decide +kernel
theorem dX11_compact_40 : decode cX11_compact 40 = .ok (.goto (-22), 3) := by decide +kernel
theorem dX11_compact_43 : decode cX11_compact 43 = .ok (.aload_n 0, 1) := by decide +kernel
theorem dX11_compact_44 : decode cX11_compact 44 = .ok (.iconst 0, 1) := by decide +kernel
theorem dX11_compact_45 : decode cX11_compact 45 = .ok (.iload_n 1, 1) := by decide +kernel
theorem dX11_compact_46 : decode cX11_compact 46 = .ok (.invokevirtual 129, 3) := by decide +kernel
theorem dX11_compact_49 : decode cX11_compact 49 = .ok (.ireturn, 1) := by decide +kernel
set_option maxRecDepth 20000 in
theorem ggX11_segments_X11_ok : GoodIn wsX11_segments wsX11_ok := goodIn_r _ [6, 7, 8, 9, 10, 11, 12, 13, 14, 15, 16, 17, 18, 19, 20, 21, 22, 23, 24, 25, 26, 27, 28, 29, 30, 31, 32, 33, 34, 35, 36, 37] (by decide +kernel) (by decide +kernel)
set_option maxRecDepth 20000 in
theorem gX11_segments_X11_ok : GoodIn wsX11_segments (wsV RX11 109 RX11 yX11_ok wsX11_ok) := goodIn_app (goodIn_of _ (by decide +kernel)) ggX11_segments_X11_ok
theorem dX11_segments_0 : decode cX11_segments 0 = .ok (.aload_n 0, 1) := by decide +kernel
theorem dX11_segments_1 : decode cX11_segments 1 = .ok (.aload_n 0, 1) := by decide +kernel
theorem dX11_segments_2 : decode cX11_segments 2 = .ok (.getfield 126, 3) := by decide +kernel
theorem dX11_segments_5 : decode cX11_segments 5 = .ok (.invokevirtual 109, 3) := by decide +kernel
theorem dX11_segments_8 : decode cX11_segments 8 = .ok (.ireturn, 1) := by decide +kernel
set_option maxRecDepth 20000 in
theorem ggX11_tierOf_X11_isIn : GoodIn wsX11_tierOf wsX11_isIn := goodIn_r _ [7] (by decide +kernel) (by decide +kernel)
set_option maxRecDepth 20000 in
theorem gX11_tierOf_X11_isIn : GoodIn wsX11_tierOf (va_wsS RX11 78 yX11_isIn wsX11_isIn) := goodIn_app (goodIn_of _ (by decide +kernel)) ggX11_tierOf_X11_isIn
set_option maxRecDepth 20000 in
theorem ggX11_tierOf_X11_no : GoodIn wsX11_tierOf wsX11_no := goodIn_r _ [11, 1, 12, 13, 14, 15, 16, 17, 18, 19, 20, 21, 22, 23, 24, 25, 26, 27, 28, 29, 30, 31, 32, 33, 34, 35, 36, 37, 38, 39, 40, 41] (by decide +kernel) (by decide +kernel)
set_option maxRecDepth 20000 in
theorem gX11_tierOf_X11_no : GoodIn wsX11_tierOf (wsV RX11 88 RX11 yX11_no wsX11_no) := goodIn_app (goodIn_of _ (by decide +kernel)) ggX11_tierOf_X11_no
theorem dX11_tierOf_0 : decode cX11_tierOf 0 = .ok (.aload_n 0, 1) := by decide +kernel
theorem dX11_tierOf_1 : decode cX11_tierOf 1 = .ok (.iconst 0, 1) := by decide +kernel
theorem dX11_tierOf_2 : decode cX11_tierOf 2 = .ok (.putfield 74, 3) := by decide +kernel
theorem dX11_tierOf_5 : decode cX11_tierOf 5 = .ok (.iload_n 1, 1) := by decide +kernel
theorem dX11_tierOf_6 : decode cX11_tierOf 6 = .ok (.iconst 0, 1) := by decide +kernel
theorem dX11_tierOf_7 : decode cX11_tierOf 7 = .ok (.aload_n 0, 1) := by decide +kernel
theorem dX11_tierOf_8 : decode cX11_tierOf 8 = .ok (.getfield 126, 3) := by decide +kernel
theorem dX11_tierOf_11 : decode cX11_tierOf 11 = .ok (.iconst 1, 1) := by decide +kernel
theorem dX11_tierOf_12 : decode cX11_tierOf 12 = .ok (.isub, 1) := by decide +kernel
theorem dX11_tierOf_13 : decode cX11_tierOf 13 = .ok (.invokestatic 78, 3) := by decide +kernel
theorem dX11_tierOf_16 : decode cX11_tierOf 16 = .ok (.ifCond .eq 12, 3) := by decide +kernel
theorem dX11_tierOf_19 : decode cX11_tierOf 19 = .ok (.aload_n 0, 1) := by decide +kernel
theorem dX11_tierOf_20 : decode cX11_tierOf 20 = .ok (.getfield 38, 3) := by decide +kernel
theorem dX11_tierOf_23 : decode cX11_tierOf 23 = .ok (.iload_n 1, 1) := by decide +kernel
theorem dX11_tierOf_24 : decode cX11_tierOf 24 = .ok (.iaload, 1) := by decide +kernel
theorem dX11_tierOf_25 : decode cX11_tierOf 25 = .ok (.goto 8, 3) := by decide +kernel
theorem dX11_tierOf_28 : decode cX11_tierOf 28 = .ok (.aload_n 0, 1) := by decide +kernel
theorem dX11_tierOf_29 : decode cX11_tierOf 29 = .ok (.iconst 1, 1) := by decide +kernel
theorem dX11_tierOf_30 : decode cX11_tierOf 30 = .ok (.invokevirtual 88, 3) := by decide +kernel
theorem dX11_tierOf_33 : decode cX11_tierOf 33 = .ok (.ireturn, 1) := by decide +kernel
set_option maxRecDepth 20000 in
theorem ggX11_sizeOf_X11_isIn : GoodIn wsX11_sizeOf wsX11_isIn := goodIn_r _ [6] (by decide +kernel) (by decide +kernel)
set_option maxRecDepth 20000 in
theorem gX11_sizeOf_X11_isIn : GoodIn wsX11_sizeOf (va_wsS RX11 78 yX11_isIn wsX11_isIn) := goodIn_app (goodIn_of _ (by decide +kernel)) ggX11_sizeOf_X11_isIn
set_option maxRecDepth 20000 in
theorem ggX11_sizeOf_X11_sizeNow : GoodIn wsX11_sizeOf wsX11_sizeNow := goodIn_r _ [10, 11, 12, 17, 18, 19, 20, 21, 22, 23, 24, 25, 26, 27, 28, 29, 30, 31, 32, 33, 34, 35, 36, 37, 38, 39, 40, 41, 42, 43, 44, 45, 46] (by decide +kernel) (by decide +kernel)
set_option maxRecDepth 20000 in
theorem gX11_sizeOf_X11_sizeNow : GoodIn wsX11_sizeOf (wsV RX11 137 RX11 yX11_sizeNow wsX11_sizeNow) := goodIn_app (goodIn_of _ (by decide +kernel)) ggX11_sizeOf_X11_sizeNow
set_option maxRecDepth 20000 in
theorem ggX11_sizeOf_X11_no : GoodIn wsX11_sizeOf wsX11_no := goodIn_r _ [16, 1, 17, 18, 19, 20, 21, 22, 23, 24, 25, 26, 27, 28, 29, 30, 31, 32, 33, 34, 35, 36, 37, 38, 39, 40, 41, 42, 43, 44, 45, 46] (by decide +kernel) (by decide +kernel)
set_option maxRecDepth 20000 in
theorem gX11_sizeOf_X11_no : GoodIn wsX11_sizeOf (wsV RX11 88 RX11 yX11_no wsX11_no) := goodIn_app (goodIn_of _ (by decide +kernel)) ggX11_sizeOf_X11_no
theorem dX11_sizeOf_0 : decode cX11_sizeOf 0 = .ok (.aload_n 0, 1) := by decide +kernel
theorem dX11_sizeOf_1 : decode cX11_sizeOf 1 = .ok (.iconst 0, 1) := by decide +kernel
theorem dX11_sizeOf_2 : decode cX11_sizeOf 2 = .ok (.putfield 74, 3) := by decide +kernel
theorem dX11_sizeOf_5 : decode cX11_sizeOf 5 = .ok (.iload_n 1, 1) := by decide +kernel
theorem dX11_sizeOf_6 : decode cX11_sizeOf 6 = .ok (.iconst 0, 1) := by decide +kernel
theorem dX11_sizeOf_7 : decode cX11_sizeOf 7 = .ok (.aload_n 0, 1) := by decide +kernel
theorem dX11_sizeOf_8 : decode cX11_sizeOf 8 = .ok (.getfield 126, 3) := by decide +kernel
theorem dX11_sizeOf_11 : decode cX11_sizeOf 11 = .ok (.iconst 1, 1) := by decide +kernel
theorem dX11_sizeOf_12 : decode cX11_sizeOf 12 = .ok (.isub, 1) := by decide +kernel
theorem dX11_sizeOf_13 : decode cX11_sizeOf 13 = .ok (.invokestatic 78, 3) := by decide +kernel
theorem dX11_sizeOf_16 : decode cX11_sizeOf 16 = .ok (.ifCond .eq 11, 3) := by decide +kernel
theorem dX11_sizeOf_19 : decode cX11_sizeOf 19 = .ok (.aload_n 0, 1) := by decide +kernel
theorem dX11_sizeOf_20 : decode cX11_sizeOf 20 = .ok (.iload_n 1, 1) := by decide +kernel
theorem dX11_sizeOf_21 : decode cX11_sizeOf 21 = .ok (.invokevirtual 137, 3) := by decide +kernel
theorem dX11_sizeOf_24 : decode cX11_sizeOf 24 = .ok (.goto 8, 3) := by decide +kernel
theorem dX11_sizeOf_27 : decode cX11_sizeOf 27 = .ok (.aload_n 0, 1) := by decide +kernel
theorem dX11_sizeOf_28 : decode cX11_sizeOf 28 = .ok (.iconst 1, 1) := by decide +kernel
theorem dX11_sizeOf_29 : decode cX11_sizeOf 29 = .ok (.invokevirtual 88, 3) := by decide +kernel
theorem dX11_sizeOf_32 : decode cX11_sizeOf 32 = .ok (.ireturn, 1) := by decide +kernel
set_option maxRecDepth 20000 in
theorem ggX11_countAll_X11_many : GoodIn wsX11_countAll wsX11_many := goodIn_r _ [11, 12, 18, 19, 20, 21, 22, 23, 24, 25, 26, 27, 28, 29, 30, 31, 32, 33, 34, 35, 36, 37, 38, 39, 40, 41, 42, 43, 44, 45, 46, 47] (by decide +kernel) (by decide +kernel)
set_option maxRecDepth 20000 in
theorem gX11_countAll_X11_many : GoodIn wsX11_countAll (wsV RX11 115 RX11 yX11_many wsX11_many) := goodIn_app (goodIn_of _ (by decide +kernel)) ggX11_countAll_X11_many
set_option maxRecDepth 20000 in
theorem ggX11_countAll_X11_at : GoodIn wsX11_countAll wsX11_at := goodIn_r _ [16, 17, 18, 19, 20, 21, 22, 23, 24, 25, 26, 27, 28, 29, 30, 31, 32, 33, 34, 35, 36, 37, 38, 39, 40, 41, 42, 43, 44, 45, 46, 47] (by decide +kernel) (by decide +kernel)
set_option maxRecDepth 20000 in
theorem gX11_countAll_X11_at : GoodIn wsX11_countAll (wsV RX11 119 RX11 yX11_at wsX11_at) := goodIn_app (goodIn_of _ (by decide +kernel)) ggX11_countAll_X11_at
theorem dX11_countAll_0 : decode cX11_countAll 0 = .ok (.aload_n 0, 1) := by decide +kernel
theorem dX11_countAll_1 : decode cX11_countAll 1 = .ok (.getfield 123, 3) := by decide +kernel
theorem dX11_countAll_4 : decode cX11_countAll 4 = .ok (.ifCond .eq 4, 3) := by decide +kernel
theorem dX11_countAll_7 : decode cX11_countAll 7 = .ok (.return_, 1) := by decide +kernel
theorem dX11_countAll_8 : decode cX11_countAll 8 = .ok (.aload_n 0, 1) := by decide +kernel
theorem dX11_countAll_9 : decode cX11_countAll 9 = .ok (.iconst 1, 1) := by decide +kernel
theorem dX11_countAll_10 : decode cX11_countAll 10 = .ok (.putfield 123, 3) := by decide +kernel
theorem dX11_countAll_13 : decode cX11_countAll 13 = .ok (.aload_n 0, 1) := by decide +kernel
theorem dX11_countAll_14 : decode cX11_countAll 14 = .ok (.iconst 0, 1) := by decide +kernel
theorem dX11_countAll_15 : decode cX11_countAll 15 = .ok (.putfield 140, 3) := by decide +kernel
theorem dX11_countAll_18 : decode cX11_countAll 18 = .ok (.iconst 0, 1) := by decide +kernel
theorem dX11_countAll_19 : decode cX11_countAll 19 = .ok (.istore_n 1, 1) := by decide +kernel
theorem dX11_countAll_20 : decode cX11_countAll 20 = .ok (.iload_n 1, 1) := by decide +kernel
theorem dX11_countAll_21 : decode cX11_countAll 21 = .ok (.aload_n 0, 1) := by decide +kernel
theorem dX11_countAll_22 : decode cX11_countAll 22 = .ok (.getfield 68, 3) := by decide +kernel
theorem dX11_countAll_25 : decode cX11_countAll 25 = .ok (.arraylength, 1) := by decide +kernel
theorem dX11_countAll_26 : decode cX11_countAll 26 = .ok (.if_icmp .ge 16, 3) := by decide +kernel
theorem dX11_countAll_29 : decode cX11_countAll 29 = .ok (.aload_n 0, 1) := by decide +kernel
theorem dX11_countAll_30 : decode cX11_countAll 30 = .ok (.getfield 68, 3) := by decide +kernel
theorem dX11_countAll_33 : decode cX11_countAll 33 = .ok (.iload_n 1, 1) := by decide +kernel
theorem dX11_countAll_34 : decode cX11_countAll 34 = .ok (.iconst 0, 1) := by decide +kernel
theorem dX11_countAll_35 : decode cX11_countAll 35 = .ok (.iastore, 1) := by decide +kernel
theorem dX11_countAll_36 : decode cX11_countAll 36 = .ok (.iinc 1 1, 3) := by decide +kernel
theorem dX11_countAll_39 : decode cX11_countAll 39 = .ok (.goto (-19), 3) := by decide +kernel
theorem dX11_countAll_42 : decode cX11_countAll 42 = .ok (.iconst 0, 1) := by decide +kernel
theorem dX11_countAll_43 : decode cX11_countAll 43 = .ok (.istore_n 1, 1) := by decide +kernel
theorem dX11_countAll_44 : decode cX11_countAll 44 = .ok (.iload_n 1, 1) := by decide +kernel
theorem dX11_countAll_45 : decode cX11_countAll 45 = .ok (.iconst 3, 1) := by decide +kernel
theorem dX11_countAll_46 : decode cX11_countAll 46 = .ok (.if_icmp .ge 16, 3) := by decide +kernel
theorem dX11_countAll_49 : decode cX11_countAll 49 = .ok (.aload_n 0, 1) := by decide +kernel
theorem dX11_countAll_50 : decode cX11_countAll 50 = .ok (.getfield 65, 3) := by decide +kernel
theorem dX11_countAll_53 : decode cX11_countAll 53 = .ok (.iload_n 1, 1) := by decide +kernel
theorem dX11_countAll_54 : decode cX11_countAll 54 = .ok (.iconst 0, 1) := by decide +kernel
theorem dX11_countAll_55 : decode cX11_countAll 55 = .ok (.iastore, 1) := by decide +kernel
theorem dX11_countAll_56 : decode cX11_countAll 56 = .ok (.iinc 1 1, 3) := by decide +kernel
theorem dX11_countAll_59 : decode cX11_countAll 59 = .ok (.goto (-15), 3) := by decide +kernel
theorem dX11_countAll_62 : decode cX11_countAll 62 = .ok (.iconst 0, 1) := by decide +kernel
theorem dX11_countAll_63 : decode cX11_countAll 63 = .ok (.istore_n 1, 1) := by decide +kernel
theorem dX11_countAll_64 : decode cX11_countAll 64 = .ok (.iload_n 1, 1) := by decide +kernel
theorem dX11_countAll_65 : decode cX11_countAll 65 = .ok (.aload_n 0, 1) := by decide +kernel
theorem dX11_countAll_66 : decode cX11_countAll 66 = .ok (.getfield 82, 3) := by decide +kernel
theorem dX11_countAll_69 : decode cX11_countAll 69 = .ok (.if_icmp .ge 151, 3) := by decide +kernel
theorem dX11_countAll_72 : decode cX11_countAll 72 = .ok (.aload_n 0, 1) := by decide +kernel
theorem dX11_countAll_73 : decode cX11_countAll 73 = .ok (.getfield 20, 3) := by decide +kernel
theorem dX11_countAll_76 : decode cX11_countAll 76 = .ok (.iload_n 1, 1) := by decide +kernel
theorem dX11_countAll_77 : decode cX11_countAll 77 = .ok (.baload, 1) := by decide +kernel
theorem dX11_countAll_78 : decode cX11_countAll 78 = .ok (.ifCond .ne 6, 3) := by decide +kernel
theorem dX11_countAll_81 : decode cX11_countAll 81 = .ok (.goto 133, 3) := by decide +kernel
theorem dX11_countAll_84 : decode cX11_countAll 84 = .ok (.aload_n 0, 1) := by decide +kernel
theorem dX11_countAll_85 : decode cX11_countAll 85 = .ok (.dup, 1) := by decide +kernel
theorem dX11_countAll_86 : decode cX11_countAll 86 = .ok (.getfield 140, 3) := by decide +kernel
theorem dX11_countAll_89 : decode cX11_countAll 89 = .ok (.iconst 1, 1) := by decide +kernel
theorem dX11_countAll_90 : decode cX11_countAll 90 = .ok (.iadd, 1) := by decide +kernel
theorem dX11_countAll_91 : decode cX11_countAll 91 = .ok (.putfield 140, 3) := by decide +kernel
theorem dX11_countAll_94 : decode cX11_countAll 94 = .ok (.iconst 0, 1) := by decide +kernel
theorem dX11_countAll_95 : decode cX11_countAll 95 = .ok (.istore_n 2, 1) := by decide +kernel
theorem dX11_countAll_96 : decode cX11_countAll 96 = .ok (.iload_n 2, 1) := by decide +kernel
theorem dX11_countAll_97 : decode cX11_countAll 97 = .ok (.iconst 3, 1) := by decide +kernel
theorem dX11_countAll_98 : decode cX11_countAll 98 = .ok (.if_icmp .ge 116, 3) := by decide +kernel
theorem dX11_countAll_101 : decode cX11_countAll 101 = .ok (.aload_n 0, 1) := by decide +kernel
theorem dX11_countAll_102 : decode cX11_countAll 102 = .ok (.getfield 65, 3) := by decide +kernel
theorem dX11_countAll_105 : decode cX11_countAll 105 = .ok (.iload_n 2, 1) := by decide +kernel
theorem dX11_countAll_106 : decode cX11_countAll 106 = .ok (.dup2, 1) := by decide +kernel
theorem dX11_countAll_107 : decode cX11_countAll 107 = .ok (.iaload, 1) := by decide +kernel
theorem dX11_countAll_108 : decode cX11_countAll 108 = .ok (.aload_n 0, 1) := by decide +kernel
theorem dX11_countAll_109 : decode cX11_countAll 109 = .ok (.iload_n 1, 1) := by decide +kernel
theorem dX11_countAll_110 : decode cX11_countAll 110 = .ok (.iload_n 2, 1) := by decide +kernel
theorem dX11_countAll_111 : decode cX11_countAll 111 = .ok (.invokevirtual 115, 3) := by decide +kernel
theorem dX11_countAll_114 : decode cX11_countAll 114 = .ok (.iadd, 1) := by decide +kernel
theorem dX11_countAll_115 : decode cX11_countAll 115 = .ok (.iastore, 1) := by decide +kernel
theorem dX11_countAll_116 : decode cX11_countAll 116 = .ok (.iconst 0, 1) := by decide +kernel
theorem dX11_countAll_117 : decode cX11_countAll 117 = .ok (.istore_n 3, 1) := by decide +kernel
theorem dX11_countAll_118 : decode cX11_countAll 118 = .ok (.iload_n 3, 1) := by decide +kernel
theorem dX11_countAll_119 : decode cX11_countAll 119 = .ok (.aload_n 0, 1) := by decide +kernel
theorem dX11_countAll_120 : decode cX11_countAll 120 = .ok (.iload_n 1, 1) := by decide +kernel
theorem dX11_countAll_121 : decode cX11_countAll 121 = .ok (.iload_n 2, 1) := by decide +kernel
theorem dX11_countAll_122 : decode cX11_countAll 122 = .ok (.invokevirtual 115, 3) := by decide +kernel
theorem dX11_countAll_125 : decode cX11_countAll 125 = .ok (.if_icmp .ge 83, 3) := by decide +kernel
theorem dX11_countAll_128 : decode cX11_countAll 128 = .ok (.aload_n 0, 1) := by decide +kernel
theorem dX11_countAll_129 : decode cX11_countAll 129 = .ok (.iload_n 1, 1) := by decide +kernel
theorem dX11_countAll_130 : decode cX11_countAll 130 = .ok (.iload_n 2, 1) := by decide +kernel
theorem dX11_countAll_131 : decode cX11_countAll 131 = .ok (.iload_n 3, 1) := by decide +kernel
theorem dX11_countAll_132 : decode cX11_countAll 132 = .ok (.invokevirtual 119, 3) := by decide +kernel
theorem dX11_countAll_135 : decode cX11_countAll 135 = .ok (.istore 4, 2) := by decide +kernel
theorem dX11_countAll_137 : decode cX11_countAll 137 = .ok (.iconst 1, 1) := by decide +kernel
theorem dX11_countAll_138 : decode cX11_countAll 138 = .ok (.istore 5, 2) := by decide +kernel
theorem dX11_countAll_140 : decode cX11_countAll 140 = .ok (.iconst 0, 1) := by decide +kernel
theorem dX11_countAll_141 : decode cX11_countAll 141 = .ok (.istore 6, 2) := by decide +kernel
theorem dX11_countAll_143 : decode cX11_countAll 143 = .ok (.iload 6, 2) := by decide +kernel
theorem dX11_countAll_145 : decode cX11_countAll 145 = .ok (.iload_n 3, 1) := by decide +kernel
theorem dX11_countAll_146 : decode cX11_countAll 146 = .ok (.if_icmp .ge 32, 3) := by decide +kernel
theorem dX11_countAll_149 : decode cX11_countAll 149 = .ok (.iload 5, 2) := by decide +kernel
theorem dX11_countAll_151 : decode cX11_countAll 151 = .ok (.aload_n 0, 1) := by decide +kernel
theorem dX11_countAll_152 : decode cX11_countAll 152 = .ok (.iload_n 1, 1) := by decide +kernel
theorem dX11_countAll_153 : decode cX11_countAll 153 = .ok (.iload_n 2, 1) := by decide +kernel
theorem dX11_countAll_154 : decode cX11_countAll 154 = .ok (.iload 6, 2) := by decide +kernel
theorem dX11_countAll_156 : decode cX11_countAll 156 = .ok (.invokevirtual 119, 3) := by decide +kernel
theorem dX11_countAll_159 : decode cX11_countAll 159 = .ok (.iload 4, 2) := by decide +kernel
theorem dX11_countAll_161 : decode cX11_countAll 161 = .ok (.if_icmp .eq 7, 3) := by decide +kernel
theorem dX11_countAll_164 : decode cX11_countAll 164 = .ok (.iconst 1, 1) := by decide +kernel
theorem dX11_countAll_165 : decode cX11_countAll 165 = .ok (.goto 4, 3) := by decide +kernel
theorem dX11_countAll_168 : decode cX11_countAll 168 = .ok (.iconst 0, 1) := by decide +kernel
theorem dX11_countAll_169 : decode cX11_countAll 169 = .ok (.iand, 1) := by decide +kernel
theorem dX11_countAll_170 : decode cX11_countAll 170 = .ok (.istore 5, 2) := by decide +kernel
theorem dX11_countAll_172 : decode cX11_countAll 172 = .ok (.iinc 6 1, 3) := by decide +kernel
theorem dX11_countAll_175 : decode cX11_countAll 175 = .ok (.goto (-32), 3) := by decide +kernel
theorem dX11_countAll_178 : decode cX11_countAll 178 = .ok (.aload_n 0, 1) := by decide +kernel
theorem dX11_countAll_179 : decode cX11_countAll 179 = .ok (.getfield 68, 3) := by decide +kernel
theorem dX11_countAll_182 : decode cX11_countAll 182 = .ok (.iload 4, 2) := by decide +kernel
theorem dX11_countAll_184 : decode cX11_countAll 184 = .ok (.iconst 3, 1) := by decide +kernel
theorem dX11_countAll_185 : decode cX11_countAll 185 = .ok (.imul, 1) := by decide +kernel
theorem dX11_countAll_186 : decode cX11_countAll 186 = .ok (.iload_n 2, 1) := by decide +kernel
theorem dX11_countAll_187 : decode cX11_countAll 187 = .ok (.iadd, 1) := by decide +kernel
theorem dX11_countAll_188 : decode cX11_countAll 188 = .ok (.dup2, 1) := by decide +kernel
theorem dX11_countAll_189 : decode cX11_countAll 189 = .ok (.iaload, 1) := by decide +kernel
theorem dX11_countAll_190 : decode cX11_countAll 190 = .ok (.iload 5, 2) := by decide +kernel
theorem dX11_countAll_192 : decode cX11_countAll 192 = .ok (.ifCond .eq 7, 3) := by decide +kernel
theorem dX11_countAll_195 : decode cX11_countAll 195 = .ok (.iconst 1, 1) := by decide +kernel
theorem dX11_countAll_196 : decode cX11_countAll 196 = .ok (.goto 4, 3) := by decide +kernel
theorem dX11_countAll_199 : decode cX11_countAll 199 = .ok (.iconst 0, 1) := by decide +kernel
theorem dX11_countAll_200 : decode cX11_countAll 200 = .ok (.iadd, 1) := by decide +kernel
theorem dX11_countAll_201 : decode cX11_countAll 201 = .ok (.iastore, 1) := by decide +kernel
theorem dX11_countAll_202 : decode cX11_countAll 202 = .ok (.iinc 3 1, 3) := by decide +kernel
theorem dX11_countAll_205 : decode cX11_countAll 205 = .ok (.goto (-87), 3) := by decide +kernel
theorem dX11_countAll_208 : decode cX11_countAll 208 = .ok (.iinc 2 1, 3) := by decide +kernel
theorem dX11_countAll_211 : decode cX11_countAll 211 = .ok (.goto (-115), 3) := by decide +kernel
theorem dX11_countAll_214 : decode cX11_countAll 214 = .ok (.iinc 1 1, 3) := by decide +kernel
theorem dX11_countAll_217 : decode cX11_countAll 217 = .ok (.goto (-153), 3) := by decide +kernel
theorem dX11_countAll_220 : decode cX11_countAll 220 = .ok (.return_, 1) := by decide +kernel
set_option maxRecDepth 20000 in
theorem ggX11_lying_X11_countAll : GoodIn wsX11_lying wsX11_countAll := goodIn_r _ [6, 7, 1, 8, 9, 10, 11, 12, 13, 14, 5, 15, 16, 17, 18, 19, 20, 21, 22, 23, 24, 25, 26, 27, 28, 29, 30, 31, 32, 33, 34, 35, 36, 37, 38, 39, 40, 41, 42, 43, 44, 45, 46, 47, 48, 49, 50, 51] (by decide +kernel) (by decide +kernel)
set_option maxRecDepth 20000 in
theorem gX11_lying_X11_countAll : GoodIn wsX11_lying (wsV RX11 143 RX11 yX11_countAll wsX11_countAll) := goodIn_app (goodIn_of _ (by decide +kernel)) ggX11_lying_X11_countAll
theorem dX11_lying_0 : decode cX11_lying 0 = .ok (.aload_n 0, 1) := by decide +kernel
theorem dX11_lying_1 : decode cX11_lying 1 = .ok (.invokevirtual 143, 3) := by decide +kernel
theorem dX11_lying_4 : decode cX11_lying 4 = .ok (.aload_n 0, 1) := by decide +kernel
theorem dX11_lying_5 : decode cX11_lying 5 = .ok (.getfield 140, 3) := by decide +kernel
theorem dX11_lying_8 : decode cX11_lying 8 = .ok (.ireturn, 1) := by decide +kernel
set_option maxRecDepth 20000 in
theorem ggX11_count_X11_many : GoodIn wsX11_count wsX11_many := goodIn_r _ [6, 7, 13, 14, 15, 16, 17, 18, 19, 20, 21, 22, 23, 24, 25, 26, 27, 28, 29, 30, 31, 32, 33, 34, 35, 36, 37, 38, 39, 40, 41, 42] (by decide +kernel) (by decide +kernel)
set_option maxRecDepth 20000 in
theorem gX11_count_X11_many : GoodIn wsX11_count (wsV RX11 115 RX11 yX11_many wsX11_many) := goodIn_app (goodIn_of _ (by decide +kernel)) ggX11_count_X11_many
set_option maxRecDepth 20000 in
theorem ggX11_count_X11_at : GoodIn wsX11_count wsX11_at := goodIn_r _ [11, 12, 13, 14, 15, 16, 17, 18, 19, 20, 21, 22, 23, 24, 25, 26, 27, 28, 29, 30, 31, 32, 33, 34, 35, 36, 37, 38, 39, 40, 41, 42] (by decide +kernel) (by decide +kernel)
set_option maxRecDepth 20000 in
theorem gX11_count_X11_at : GoodIn wsX11_count (wsV RX11 119 RX11 yX11_at wsX11_at) := goodIn_app (goodIn_of _ (by decide +kernel)) ggX11_count_X11_at
theorem dX11_count_0 : decode cX11_count 0 = .ok (.iconst 0, 1) := by decide +kernel
theorem dX11_count_1 : decode cX11_count 1 = .ok (.istore 4, 2) := by decide +kernel
theorem dX11_count_3 : decode cX11_count 3 = .ok (.iconst 0, 1) := by decide +kernel
theorem dX11_count_4 : decode cX11_count 4 = .ok (.istore 5, 2) := by decide +kernel
theorem dX11_count_6 : decode cX11_count 6 = .ok (.iload 5, 2) := by decide +kernel
theorem dX11_count_8 : decode cX11_count 8 = .ok (.aload_n 0, 1) := by decide +kernel
theorem dX11_count_9 : decode cX11_count 9 = .ok (.iload_n 1, 1) := by decide +kernel
theorem dX11_count_10 : decode cX11_count 10 = .ok (.iload_n 2, 1) := by decide +kernel
theorem dX11_count_11 : decode cX11_count 11 = .ok (.invokevirtual 115, 3) := by decide +kernel
theorem dX11_count_14 : decode cX11_count 14 = .ok (.if_icmp .ge 31, 3) := by decide +kernel
theorem dX11_count_17 : decode cX11_count 17 = .ok (.iload 4, 2) := by decide +kernel
theorem dX11_count_19 : decode cX11_count 19 = .ok (.aload_n 0, 1) := by decide +kernel
theorem dX11_count_20 : decode cX11_count 20 = .ok (.iload_n 1, 1) := by decide +kernel
theorem dX11_count_21 : decode cX11_count 21 = .ok (.iload_n 2, 1) := by decide +kernel
theorem dX11_count_22 : decode cX11_count 22 = .ok (.iload 5, 2) := by decide +kernel
theorem dX11_count_24 : decode cX11_count 24 = .ok (.invokevirtual 119, 3) := by decide +kernel
theorem dX11_count_27 : decode cX11_count 27 = .ok (.iload_n 3, 1) := by decide +kernel
theorem dX11_count_28 : decode cX11_count 28 = .ok (.if_icmp .ne 7, 3) := by decide +kernel
theorem dX11_count_31 : decode cX11_count 31 = .ok (.iconst 1, 1) := by decide +kernel
theorem dX11_count_32 : decode cX11_count 32 = .ok (.goto 4, 3) := by decide +kernel
theorem dX11_count_35 : decode cX11_count 35 = .ok (.iconst 0, 1) := by decide +kernel
theorem dX11_count_36 : decode cX11_count 36 = .ok (.iadd, 1) := by decide +kernel
theorem dX11_count_37 : decode cX11_count 37 = .ok (.istore 4, 2) := by decide +kernel
theorem dX11_count_39 : decode cX11_count 39 = .ok (.iinc 5 1, 3) := by decide +kernel
theorem dX11_count_42 : decode cX11_count 42 = .ok (.goto (-36), 3) := by decide +kernel
theorem dX11_count_45 : decode cX11_count 45 = .ok (.aload_n 0, 1) := by decide +kernel
theorem dX11_count_46 : decode cX11_count 46 = .ok (.getfield 29, 3) := by decide +kernel
theorem dX11_count_49 : decode cX11_count 49 = .ok (.iload_n 3, 1) := by decide +kernel
theorem dX11_count_50 : decode cX11_count 50 = .ok (.baload, 1) := by decide +kernel
theorem dX11_count_51 : decode cX11_count 51 = .ok (.ifCond .eq 7, 3) := by decide +kernel
theorem dX11_count_54 : decode cX11_count 54 = .ok (.iconst 0, 1) := by decide +kernel
theorem dX11_count_55 : decode cX11_count 55 = .ok (.goto 5, 3) := by decide +kernel
theorem dX11_count_58 : decode cX11_count 58 = .ok (.iload 4, 2) := by decide +kernel
theorem dX11_count_60 : decode cX11_count 60 = .ok (.ireturn, 1) := by decide +kernel
set_option maxRecDepth 20000 in
theorem ggX11_spreadNow_X11_countAll : GoodIn wsX11_spreadNow wsX11_countAll := goodIn_r _ [6, 7, 8, 1, 9, 10, 11, 12, 13, 14, 5, 15, 16, 17, 18, 19, 20, 21, 22, 23, 24, 25, 26, 27, 28, 29, 30, 31, 32, 33, 34, 35, 36, 37, 38, 39, 40, 41, 42, 43, 44, 45, 46, 47, 48, 49, 50, 51] (by decide +kernel) (by decide +kernel)
set_option maxRecDepth 20000 in
theorem gX11_spreadNow_X11_countAll : GoodIn wsX11_spreadNow (wsV RX11 143 RX11 yX11_countAll wsX11_countAll) := goodIn_app (goodIn_of _ (by decide +kernel)) ggX11_spreadNow_X11_countAll
theorem dX11_spreadNow_0 : decode cX11_spreadNow 0 = .ok (.aload_n 0, 1) := by decide +kernel
theorem dX11_spreadNow_1 : decode cX11_spreadNow 1 = .ok (.invokevirtual 143, 3) := by decide +kernel
theorem dX11_spreadNow_4 : decode cX11_spreadNow 4 = .ok (.aload_n 0, 1) := by decide +kernel
theorem dX11_spreadNow_5 : decode cX11_spreadNow 5 = .ok (.getfield 68, 3) := by decide +kernel
theorem dX11_spreadNow_8 : decode cX11_spreadNow 8 = .ok (.iload_n 1, 1) := by decide +kernel
theorem dX11_spreadNow_9 : decode cX11_spreadNow 9 = .ok (.iconst 3, 1) := by decide +kernel
theorem dX11_spreadNow_10 : decode cX11_spreadNow 10 = .ok (.imul, 1) := by decide +kernel
theorem dX11_spreadNow_11 : decode cX11_spreadNow 11 = .ok (.iload_n 2, 1) := by decide +kernel
theorem dX11_spreadNow_12 : decode cX11_spreadNow 12 = .ok (.iadd, 1) := by decide +kernel
theorem dX11_spreadNow_13 : decode cX11_spreadNow 13 = .ok (.iaload, 1) := by decide +kernel
theorem dX11_spreadNow_14 : decode cX11_spreadNow 14 = .ok (.ireturn, 1) := by decide +kernel
theorem dX11_root_0 : decode cX11_root 0 = .ok (.iconst 0, 1) := by decide +kernel
theorem dX11_root_1 : decode cX11_root 1 = .ok (.istore_n 1, 1) := by decide +kernel
theorem dX11_root_2 : decode cX11_root 2 = .ok (.sipush 16384, 3) := by decide +kernel
theorem dX11_root_5 : decode cX11_root 5 = .ok (.istore_n 2, 1) := by decide +kernel
theorem dX11_root_6 : decode cX11_root 6 = .ok (.iload_n 2, 1) := by decide +kernel
theorem dX11_root_7 : decode cX11_root 7 = .ok (.ifCond .le 25, 3) := by decide +kernel
theorem dX11_root_10 : decode cX11_root 10 = .ok (.iload_n 1, 1) := by decide +kernel
theorem dX11_root_11 : decode cX11_root 11 = .ok (.iload_n 2, 1) := by decide +kernel
theorem dX11_root_12 : decode cX11_root 12 = .ok (.iadd, 1) := by decide +kernel
theorem dX11_root_13 : decode cX11_root 13 = .ok (.iload_n 1, 1) := by decide +kernel
theorem dX11_root_14 : decode cX11_root 14 = .ok (.iload_n 2, 1) := by decide +kernel
theorem dX11_root_15 : decode cX11_root 15 = .ok (.iadd, 1) := by decide +kernel
theorem dX11_root_16 : decode cX11_root 16 = .ok (.imul, 1) := by decide +kernel
theorem dX11_root_17 : decode cX11_root 17 = .ok (.iload_n 0, 1) := by decide +kernel
theorem dX11_root_18 : decode cX11_root 18 = .ok (.if_icmp .gt 7, 3) := by decide +kernel
theorem dX11_root_21 : decode cX11_root 21 = .ok (.iload_n 1, 1) := by decide +kernel
theorem dX11_root_22 : decode cX11_root 22 = .ok (.iload_n 2, 1) := by decide +kernel
theorem dX11_root_23 : decode cX11_root 23 = .ok (.iadd, 1) := by decide +kernel
theorem dX11_root_24 : decode cX11_root 24 = .ok (.istore_n 1, 1) := by decide +kernel
theorem dX11_root_25 : decode cX11_root 25 = .ok (.iload_n 2, 1) := by decide +kernel
theorem dX11_root_26 : decode cX11_root 26 = .ok (.iconst 2, 1) := by decide +kernel
theorem dX11_root_27 : decode cX11_root 27 = .ok (.idiv, 1) := by decide +kernel
theorem dX11_root_28 : decode cX11_root 28 = .ok (.istore_n 2, 1) := by decide +kernel
theorem dX11_root_29 : decode cX11_root 29 = .ok (.goto (-23), 3) := by decide +kernel
theorem dX11_root_32 : decode cX11_root 32 = .ok (.iload_n 1, 1) := by decide +kernel
theorem dX11_root_33 : decode cX11_root 33 = .ok (.ireturn, 1) := by decide +kernel
set_option maxRecDepth 20000 in
theorem ggX11_rareNow_X11_lying : GoodIn wsX11_rareNow wsX11_lying := goodIn_r _ [5, 6, 7, 8, 9, 4, 10, 11, 12, 13, 14, 15, 16, 17, 18, 19, 20, 21, 22, 23, 24, 25, 33, 34, 35, 36, 37, 38, 39, 40, 41, 42, 43, 44, 45, 46, 47, 48, 49, 50, 51, 52, 53, 54, 55, 56, 57, 58, 59, 60, 61, 62] (by decide +kernel) (by decide +kernel)
set_option maxRecDepth 20000 in
theorem gX11_rareNow_X11_lying : GoodIn wsX11_rareNow (wsV RX11 146 RX11 yX11_lying wsX11_lying) := goodIn_app (goodIn_of _ (by decide +kernel)) ggX11_rareNow_X11_lying
set_option maxRecDepth 20000 in
theorem ggX11_rareNow_X11_spreadNow : GoodIn wsX11_rareNow wsX11_spreadNow := goodIn_r _ [29, 12, 7, 8, 9, 4, 10, 11, 6, 13, 14, 15, 16, 17, 18, 19, 20, 21, 22, 23, 24, 25, 33, 34, 35, 36, 37, 38, 39, 40, 41, 42, 43, 44, 45, 46, 47, 48, 49, 50, 51, 52, 53, 54, 55, 56, 57, 58, 59, 60, 61, 62] (by decide +kernel) (by decide +kernel)
set_option maxRecDepth 20000 in
theorem gX11_rareNow_X11_spreadNow : GoodIn wsX11_rareNow (wsV RX11 149 RX11 yX11_spreadNow wsX11_spreadNow) := goodIn_app (goodIn_of _ (by decide +kernel)) ggX11_rareNow_X11_spreadNow
set_option maxRecDepth 20000 in
theorem ggX11_rareNow_X11_root : GoodIn wsX11_rareNow wsX11_root := goodIn_r _ [32] (by decide +kernel) (by decide +kernel)
set_option maxRecDepth 20000 in
theorem gX11_rareNow_X11_root : GoodIn wsX11_rareNow (va_wsS RX11 152 yX11_root wsX11_root) := goodIn_app (goodIn_of _ (by decide +kernel)) ggX11_rareNow_X11_root
theorem dX11_rareNow_0 : decode cX11_rareNow 0 = .ok (.sipush 10000, 3) := by decide +kernel
theorem dX11_rareNow_3 : decode cX11_rareNow 3 = .ok (.aload_n 0, 1) := by decide +kernel
theorem dX11_rareNow_4 : decode cX11_rareNow 4 = .ok (.invokevirtual 146, 3) := by decide +kernel
theorem dX11_rareNow_7 : decode cX11_rareNow 7 = .ok (.iconst 1, 1) := by decide +kernel
theorem dX11_rareNow_8 : decode cX11_rareNow 8 = .ok (.iadd, 1) := by decide +kernel
theorem dX11_rareNow_9 : decode cX11_rareNow 9 = .ok (.imul, 1) := by decide +kernel
theorem dX11_rareNow_10 : decode cX11_rareNow 10 = .ok (.aload_n 0, 1) := by decide +kernel
theorem dX11_rareNow_11 : decode cX11_rareNow 11 = .ok (.iload_n 1, 1) := by decide +kernel
theorem dX11_rareNow_12 : decode cX11_rareNow 12 = .ok (.iload_n 2, 1) := by decide +kernel
theorem dX11_rareNow_13 : decode cX11_rareNow 13 = .ok (.invokevirtual 149, 3) := by decide +kernel
theorem dX11_rareNow_16 : decode cX11_rareNow 16 = .ok (.iconst 1, 1) := by decide +kernel
theorem dX11_rareNow_17 : decode cX11_rareNow 17 = .ok (.iadd, 1) := by decide +kernel
theorem dX11_rareNow_18 : decode cX11_rareNow 18 = .ok (.idiv, 1) := by decide +kernel
theorem dX11_rareNow_19 : decode cX11_rareNow 19 = .ok (.invokestatic 152, 3) := by decide +kernel
theorem dX11_rareNow_22 : decode cX11_rareNow 22 = .ok (.ireturn, 1) := by decide +kernel
set_option maxRecDepth 20000 in
theorem ggX11_spread_X11_isTerm : GoodIn wsX11_spread wsX11_isTerm := goodIn_r _ [5, 6, 7, 4, 8] (by decide +kernel) (by decide +kernel)
set_option maxRecDepth 20000 in
theorem gX11_spread_X11_isTerm : GoodIn wsX11_spread (va_wsS RX11 100 yX11_isTerm wsX11_isTerm) := goodIn_app (goodIn_of _ (by decide +kernel)) ggX11_spread_X11_isTerm
set_option maxRecDepth 20000 in
theorem ggX11_spread_X11_isField : GoodIn wsX11_spread wsX11_isField := goodIn_r _ [11, 6, 7, 4, 8] (by decide +kernel) (by decide +kernel)
set_option maxRecDepth 20000 in
theorem gX11_spread_X11_isField : GoodIn wsX11_spread (va_wsS RX11 96 yX11_isField wsX11_isField) := goodIn_app (goodIn_of _ (by decide +kernel)) ggX11_spread_X11_isField
set_option maxRecDepth 20000 in
theorem ggX11_spread_X11_spreadNow : GoodIn wsX11_spread wsX11_spreadNow := goodIn_r _ [15, 16, 17, 18, 19, 4, 20, 21, 22, 23, 24, 25, 26, 27, 28, 29, 30, 31, 32, 33, 34, 35, 40, 41, 42, 43, 44, 45, 46, 47, 48, 49, 50, 51, 52, 53, 54, 55, 56, 57, 58, 59, 60, 61, 62, 63, 64, 65, 66, 67, 68, 69] (by decide +kernel) (by decide +kernel)
set_option maxRecDepth 20000 in
theorem gX11_spread_X11_spreadNow : GoodIn wsX11_spread (wsV RX11 149 RX11 yX11_spreadNow wsX11_spreadNow) := goodIn_app (goodIn_of _ (by decide +kernel)) ggX11_spread_X11_spreadNow
set_option maxRecDepth 20000 in
theorem ggX11_spread_X11_no : GoodIn wsX11_spread wsX11_no := goodIn_r _ [39, 1, 40, 41, 42, 43, 44, 45, 46, 47, 48, 49, 50, 51, 52, 53, 54, 55, 56, 57, 58, 59, 60, 61, 62, 63, 64, 65, 66, 67, 68, 69] (by decide +kernel) (by decide +kernel)
set_option maxRecDepth 20000 in
theorem gX11_spread_X11_no : GoodIn wsX11_spread (wsV RX11 88 RX11 yX11_no wsX11_no) := goodIn_app (goodIn_of _ (by decide +kernel)) ggX11_spread_X11_no
theorem dX11_spread_0 : decode cX11_spread 0 = .ok (.aload_n 0, 1) := by decide +kernel
theorem dX11_spread_1 : decode cX11_spread 1 = .ok (.iconst 0, 1) := by decide +kernel
theorem dX11_spread_2 : decode cX11_spread 2 = .ok (.putfield 74, 3) := by decide +kernel
theorem dX11_spread_5 : decode cX11_spread 5 = .ok (.iload_n 1, 1) := by decide +kernel
theorem dX11_spread_6 : decode cX11_spread 6 = .ok (.invokestatic 100, 3) := by decide +kernel
theorem dX11_spread_9 : decode cX11_spread 9 = .ok (.ifCond .eq 19, 3) := by decide +kernel
theorem dX11_spread_12 : decode cX11_spread 12 = .ok (.iload_n 2, 1) := by decide +kernel
theorem dX11_spread_13 : decode cX11_spread 13 = .ok (.invokestatic 96, 3) := by decide +kernel
theorem dX11_spread_16 : decode cX11_spread 16 = .ok (.ifCond .eq 12, 3) := by decide +kernel
theorem dX11_spread_19 : decode cX11_spread 19 = .ok (.aload_n 0, 1) := by decide +kernel
theorem dX11_spread_20 : decode cX11_spread 20 = .ok (.iload_n 1, 1) := by decide +kernel
theorem dX11_spread_21 : decode cX11_spread 21 = .ok (.iload_n 2, 1) := by decide +kernel
theorem dX11_spread_22 : decode cX11_spread 22 = .ok (.invokevirtual 149, 3) := by decide +kernel
theorem dX11_spread_25 : decode cX11_spread 25 = .ok (.goto 8, 3) := by decide +kernel
theorem dX11_spread_28 : decode cX11_spread 28 = .ok (.aload_n 0, 1) := by decide +kernel
theorem dX11_spread_29 : decode cX11_spread 29 = .ok (.iconst 1, 1) := by decide +kernel
theorem dX11_spread_30 : decode cX11_spread 30 = .ok (.invokevirtual 88, 3) := by decide +kernel
theorem dX11_spread_33 : decode cX11_spread 33 = .ok (.ireturn, 1) := by decide +kernel
set_option maxRecDepth 20000 in
theorem ggX11_rare_X11_isTerm : GoodIn wsX11_rare wsX11_isTerm := goodIn_r _ [5, 6, 7, 4, 8] (by decide +kernel) (by decide +kernel)
set_option maxRecDepth 20000 in
theorem gX11_rare_X11_isTerm : GoodIn wsX11_rare (va_wsS RX11 100 yX11_isTerm wsX11_isTerm) := goodIn_app (goodIn_of _ (by decide +kernel)) ggX11_rare_X11_isTerm
set_option maxRecDepth 20000 in
theorem ggX11_rare_X11_isField : GoodIn wsX11_rare wsX11_isField := goodIn_r _ [11, 6, 7, 4, 8] (by decide +kernel) (by decide +kernel)
set_option maxRecDepth 20000 in
theorem gX11_rare_X11_isField : GoodIn wsX11_rare (va_wsS RX11 96 yX11_isField wsX11_isField) := goodIn_app (goodIn_of _ (by decide +kernel)) ggX11_rare_X11_isField
set_option maxRecDepth 20000 in
theorem ggX11_rare_X11_rareNow : GoodIn wsX11_rare wsX11_rareNow := goodIn_r _ [15, 16, 17, 18, 4, 19, 20, 21, 22, 23, 24, 25, 26, 27, 28, 29, 30, 31, 32, 33, 34, 35, 36, 37, 38, 39, 40, 41, 42, 43, 44, 45, 46, 51, 52, 53, 54, 55, 56, 57, 58, 59, 60, 61, 62, 63, 64, 65, 66, 67, 68, 69, 70, 71, 72, 73, 74, 75, 76, 77, 78, 79, 80] (by decide +kernel) (by decide +kernel)
set_option maxRecDepth 20000 in
theorem gX11_rare_X11_rareNow : GoodIn wsX11_rare (wsV RX11 155 RX11 yX11_rareNow wsX11_rareNow) := goodIn_app (goodIn_of _ (by decide +kernel)) ggX11_rare_X11_rareNow
set_option maxRecDepth 20000 in
theorem ggX11_rare_X11_no : GoodIn wsX11_rare wsX11_no := goodIn_r _ [50, 1, 51, 52, 53, 54, 55, 56, 57, 58, 59, 60, 61, 62, 63, 64, 65, 66, 67, 68, 69, 70, 71, 72, 73, 74, 75, 76, 77, 78, 79, 80] (by decide +kernel) (by decide +kernel)
set_option maxRecDepth 20000 in
theorem gX11_rare_X11_no : GoodIn wsX11_rare (wsV RX11 88 RX11 yX11_no wsX11_no) := goodIn_app (goodIn_of _ (by decide +kernel)) ggX11_rare_X11_no
theorem dX11_rare_0 : decode cX11_rare 0 = .ok (.aload_n 0, 1) := by decide +kernel
theorem dX11_rare_1 : decode cX11_rare 1 = .ok (.iconst 0, 1) := by decide +kernel
theorem dX11_rare_2 : decode cX11_rare 2 = .ok (.putfield 74, 3) := by decide +kernel
theorem dX11_rare_5 : decode cX11_rare 5 = .ok (.iload_n 1, 1) := by decide +kernel
theorem dX11_rare_6 : decode cX11_rare 6 = .ok (.invokestatic 100, 3) := by decide +kernel
theorem dX11_rare_9 : decode cX11_rare 9 = .ok (.ifCond .eq 19, 3) := by decide +kernel
theorem dX11_rare_12 : decode cX11_rare 12 = .ok (.iload_n 2, 1) := by decide +kernel
theorem dX11_rare_13 : decode cX11_rare 13 = .ok (.invokestatic 96, 3) := by decide +kernel
theorem dX11_rare_16 : decode cX11_rare 16 = .ok (.ifCond .eq 12, 3) := by decide +kernel
theorem dX11_rare_19 : decode cX11_rare 19 = .ok (.aload_n 0, 1) := by decide +kernel
theorem dX11_rare_20 : decode cX11_rare 20 = .ok (.iload_n 1, 1) := by decide +kernel
theorem dX11_rare_21 : decode cX11_rare 21 = .ok (.iload_n 2, 1) := by decide +kernel
theorem dX11_rare_22 : decode cX11_rare 22 = .ok (.invokevirtual 155, 3) := by decide +kernel
theorem dX11_rare_25 : decode cX11_rare 25 = .ok (.goto 8, 3) := by decide +kernel
theorem dX11_rare_28 : decode cX11_rare 28 = .ok (.aload_n 0, 1) := by decide +kernel
theorem dX11_rare_29 : decode cX11_rare 29 = .ok (.iconst 1, 1) := by decide +kernel
theorem dX11_rare_30 : decode cX11_rare 30 = .ok (.invokevirtual 88, 3) := by decide +kernel
theorem dX11_rare_33 : decode cX11_rare 33 = .ok (.ireturn, 1) := by decide +kernel
set_option maxRecDepth 20000 in
theorem ggX11_taste_X11_count : GoodIn wsX11_taste wsX11_count := goodIn_r _ [7, 8, 9, 10, 11, 6, 12, 13, 14, 15, 16, 17, 18, 43, 44, 45, 46, 47, 48, 49, 50, 51, 52, 53, 54, 55, 56, 57, 58, 59, 60, 61, 62, 63, 64, 65, 66, 67, 68, 69, 70, 71, 72] (by decide +kernel) (by decide +kernel)
set_option maxRecDepth 20000 in
theorem gX11_taste_X11_count : GoodIn wsX11_taste (wsV RX11 158 RX11 yX11_count wsX11_count) := goodIn_app (goodIn_of _ (by decide +kernel)) ggX11_taste_X11_count
set_option maxRecDepth 20000 in
theorem ggX11_taste_X11_rareNow : GoodIn wsX11_taste wsX11_rareNow := goodIn_r _ [22, 23, 24, 25, 6, 26, 27, 28, 29, 30, 31, 32, 33, 1, 34, 35, 9, 10, 11, 12, 13, 14, 15, 16, 17, 18, 36, 37, 38, 39, 40, 41, 42, 43, 44, 45, 46, 47, 48, 49, 50, 51, 52, 53, 54, 55, 56, 57, 58, 59, 60, 61, 62, 63, 64, 65, 66, 67, 68, 69, 70, 71, 72] (by decide +kernel) (by decide +kernel)
set_option maxRecDepth 20000 in
theorem gX11_taste_X11_rareNow : GoodIn wsX11_taste (wsV RX11 155 RX11 yX11_rareNow wsX11_rareNow) := goodIn_app (goodIn_of _ (by decide +kernel)) ggX11_taste_X11_rareNow
set_option maxRecDepth 20000 in
theorem ggX11_taste_X11_many : GoodIn wsX11_taste wsX11_many := goodIn_r _ [12, 13, 43, 44, 45, 46, 47, 48, 49, 50, 51, 52, 53, 54, 55, 56, 57, 58, 59, 60, 61, 62, 63, 64, 65, 66, 67, 68, 69, 70, 71, 72] (by decide +kernel) (by decide +kernel)
set_option maxRecDepth 20000 in
theorem gX11_taste_X11_many : GoodIn wsX11_taste (wsV RX11 115 RX11 yX11_many wsX11_many) := goodIn_app (goodIn_of _ (by decide +kernel)) ggX11_taste_X11_many
set_option maxRecDepth 20000 in
theorem ggX11_taste_X11_lying : GoodIn wsX11_taste wsX11_lying := goodIn_r _ [26, 27, 28, 29, 30, 6, 31, 32, 33, 1, 34, 35, 9, 10, 11, 12, 13, 14, 15, 16, 17, 18, 43, 44, 45, 46, 47, 48, 49, 50, 51, 52, 53, 54, 55, 56, 57, 58, 59, 60, 61, 62, 63, 64, 65, 66, 67, 68, 69, 70, 71, 72] (by decide +kernel) (by decide +kernel)
set_option maxRecDepth 20000 in
theorem gX11_taste_X11_lying : GoodIn wsX11_taste (wsV RX11 146 RX11 yX11_lying wsX11_lying) := goodIn_app (goodIn_of _ (by decide +kernel)) ggX11_taste_X11_lying
theorem dX11_taste_0 : decode cX11_taste 0 = .ok (.aload_n 0, 1) := by decide +kernel
theorem dX11_taste_1 : decode cX11_taste 1 = .ok (.iload_n 1, 1) := by decide +kernel
theorem dX11_taste_2 : decode cX11_taste 2 = .ok (.iload_n 2, 1) := by decide +kernel
theorem dX11_taste_3 : decode cX11_taste 3 = .ok (.iload_n 3, 1) := by decide +kernel
theorem dX11_taste_4 : decode cX11_taste 4 = .ok (.invokevirtual 158, 3) := by decide +kernel
theorem dX11_taste_7 : decode cX11_taste 7 = .ok (.istore 4, 2) := by decide +kernel
theorem dX11_taste_9 : decode cX11_taste 9 = .ok (.iload 4, 2) := by decide +kernel
theorem dX11_taste_11 : decode cX11_taste 11 = .ok (.ifCond .ne 5, 3) := by decide +kernel
theorem dX11_taste_14 : decode cX11_taste 14 = .ok (.iconst 0, 1) := by decide +kernel
theorem dX11_taste_15 : decode cX11_taste 15 = .ok (.ireturn, 1) := by decide +kernel
theorem dX11_taste_16 : decode cX11_taste 16 = .ok (.aload_n 0, 1) := by decide +kernel
theorem dX11_taste_17 : decode cX11_taste 17 = .ok (.iload_n 3, 1) := by decide +kernel
theorem dX11_taste_18 : decode cX11_taste 18 = .ok (.iload_n 2, 1) := by decide +kernel
theorem dX11_taste_19 : decode cX11_taste 19 = .ok (.invokevirtual 155, 3) := by decide +kernel
theorem dX11_taste_22 : decode cX11_taste 22 = .ok (.iload 4, 2) := by decide +kernel
theorem dX11_taste_24 : decode cX11_taste 24 = .ok (.imul, 1) := by decide +kernel
theorem dX11_taste_25 : decode cX11_taste 25 = .ok (.bipush 20, 2) := by decide +kernel
theorem dX11_taste_27 : decode cX11_taste 27 = .ok (.imul, 1) := by decide +kernel
theorem dX11_taste_28 : decode cX11_taste 28 = .ok (.bipush 10, 2) := by decide +kernel
theorem dX11_taste_30 : decode cX11_taste 30 = .ok (.iload 4, 2) := by decide +kernel
theorem dX11_taste_32 : decode cX11_taste 32 = .ok (.imul, 1) := by decide +kernel
theorem dX11_taste_33 : decode cX11_taste 33 = .ok (.iconst 3, 1) := by decide +kernel
theorem dX11_taste_34 : decode cX11_taste 34 = .ok (.iadd, 1) := by decide +kernel
theorem dX11_taste_35 : decode cX11_taste 35 = .ok (.bipush 9, 2) := by decide +kernel
theorem dX11_taste_37 : decode cX11_taste 37 = .ok (.aload_n 0, 1) := by decide +kernel
theorem dX11_taste_38 : decode cX11_taste 38 = .ok (.iload_n 1, 1) := by decide +kernel
theorem dX11_taste_39 : decode cX11_taste 39 = .ok (.iload_n 2, 1) := by decide +kernel
theorem dX11_taste_40 : decode cX11_taste 40 = .ok (.invokevirtual 115, 3) := by decide +kernel
theorem dX11_taste_43 : decode cX11_taste 43 = .ok (.imul, 1) := by decide +kernel
theorem dX11_taste_44 : decode cX11_taste 44 = .ok (.aload_n 0, 1) := by decide +kernel
theorem dX11_taste_45 : decode cX11_taste 45 = .ok (.invokevirtual 146, 3) := by decide +kernel
theorem dX11_taste_48 : decode cX11_taste 48 = .ok (.imul, 1) := by decide +kernel
theorem dX11_taste_49 : decode cX11_taste 49 = .ok (.aload_n 0, 1) := by decide +kernel
theorem dX11_taste_50 : decode cX11_taste 50 = .ok (.getfield 65, 3) := by decide +kernel
theorem dX11_taste_53 : decode cX11_taste 53 = .ok (.iload_n 2, 1) := by decide +kernel
theorem dX11_taste_54 : decode cX11_taste 54 = .ok (.iaload, 1) := by decide +kernel
theorem dX11_taste_55 : decode cX11_taste 55 = .ok (.idiv, 1) := by decide +kernel
theorem dX11_taste_56 : decode cX11_taste 56 = .ok (.iadd, 1) := by decide +kernel
theorem dX11_taste_57 : decode cX11_taste 57 = .ok (.idiv, 1) := by decide +kernel
theorem dX11_taste_58 : decode cX11_taste 58 = .ok (.aload_n 0, 1) := by decide +kernel
theorem dX11_taste_59 : decode cX11_taste 59 = .ok (.getfield 35, 3) := by decide +kernel
theorem dX11_taste_62 : decode cX11_taste 62 = .ok (.iload_n 2, 1) := by decide +kernel
theorem dX11_taste_63 : decode cX11_taste 63 = .ok (.iaload, 1) := by decide +kernel
theorem dX11_taste_64 : decode cX11_taste 64 = .ok (.imul, 1) := by decide +kernel
theorem dX11_taste_65 : decode cX11_taste 65 = .ok (.ireturn, 1) := by decide +kernel
theorem dX11_add_0 : decode cX11_add 0 = .ok (.aload_n 0, 1) := by decide +kernel
theorem dX11_add_1 : decode cX11_add 1 = .ok (.getfield 44, 3) := by decide +kernel
theorem dX11_add_4 : decode cX11_add 4 = .ok (.aload_n 0, 1) := by decide +kernel
theorem dX11_add_5 : decode cX11_add 5 = .ok (.getfield 85, 3) := by decide +kernel
theorem dX11_add_8 : decode cX11_add 8 = .ok (.iload_n 1, 1) := by decide +kernel
theorem dX11_add_9 : decode cX11_add 9 = .ok (.iastore, 1) := by decide +kernel
theorem dX11_add_10 : decode cX11_add 10 = .ok (.aload_n 0, 1) := by decide +kernel
theorem dX11_add_11 : decode cX11_add 11 = .ok (.getfield 47, 3) := by decide +kernel
theorem dX11_add_14 : decode cX11_add 14 = .ok (.aload_n 0, 1) := by decide +kernel
theorem dX11_add_15 : decode cX11_add 15 = .ok (.getfield 85, 3) := by decide +kernel
theorem dX11_add_18 : decode cX11_add 18 = .ok (.iload_n 2, 1) := by decide +kernel
theorem dX11_add_19 : decode cX11_add 19 = .ok (.iastore, 1) := by decide +kernel
theorem dX11_add_20 : decode cX11_add 20 = .ok (.aload_n 0, 1) := by decide +kernel
theorem dX11_add_21 : decode cX11_add 21 = .ok (.getfield 50, 3) := by decide +kernel
theorem dX11_add_24 : decode cX11_add 24 = .ok (.aload_n 0, 1) := by decide +kernel
theorem dX11_add_25 : decode cX11_add 25 = .ok (.getfield 85, 3) := by decide +kernel
theorem dX11_add_28 : decode cX11_add 28 = .ok (.iload_n 3, 1) := by decide +kernel
theorem dX11_add_29 : decode cX11_add 29 = .ok (.iastore, 1) := by decide +kernel
theorem dX11_add_30 : decode cX11_add 30 = .ok (.aload_n 0, 1) := by decide +kernel
theorem dX11_add_31 : decode cX11_add 31 = .ok (.getfield 53, 3) := by decide +kernel
theorem dX11_add_34 : decode cX11_add 34 = .ok (.aload_n 0, 1) := by decide +kernel
theorem dX11_add_35 : decode cX11_add 35 = .ok (.getfield 85, 3) := by decide +kernel
theorem dX11_add_38 : decode cX11_add 38 = .ok (.iload 4, 2) := by decide +kernel
theorem dX11_add_40 : decode cX11_add 40 = .ok (.iastore, 1) := by decide +kernel
theorem dX11_add_41 : decode cX11_add 41 = .ok (.aload_n 0, 1) := by decide +kernel
theorem dX11_add_42 : decode cX11_add 42 = .ok (.dup, 1) := by decide +kernel
theorem dX11_add_43 : decode cX11_add 43 = .ok (.getfield 85, 3) := by decide +kernel
theorem dX11_add_46 : decode cX11_add 46 = .ok (.dup_x1, 1) := by decide +kernel
theorem dX11_add_47 : decode cX11_add 47 = .ok (.iconst 1, 1) := by decide +kernel
theorem dX11_add_48 : decode cX11_add 48 = .ok (.iadd, 1) := by decide +kernel
theorem dX11_add_49 : decode cX11_add 49 = .ok (.putfield 85, 3) := by decide +kernel
theorem dX11_add_52 : decode cX11_add 52 = .ok (.ireturn, 1) := by decide +kernel
set_option maxRecDepth 20000 in
theorem ggX11_term_X11_isTerm : GoodIn wsX11_term wsX11_isTerm := goodIn_r _ [6, 7, 8, 5, 9] (by decide +kernel) (by decide +kernel)
set_option maxRecDepth 20000 in
theorem gX11_term_X11_isTerm : GoodIn wsX11_term (va_wsS RX11 100 yX11_isTerm wsX11_isTerm) := goodIn_app (goodIn_of _ (by decide +kernel)) ggX11_term_X11_isTerm
set_option maxRecDepth 20000 in
theorem ggX11_term_X11_isIn : GoodIn wsX11_term wsX11_isIn := goodIn_r _ [9] (by decide +kernel) (by decide +kernel)
set_option maxRecDepth 20000 in
theorem gX11_term_X11_isIn : GoodIn wsX11_term (va_wsS RX11 78 yX11_isIn wsX11_isIn) := goodIn_app (goodIn_of _ (by decide +kernel)) ggX11_term_X11_isIn
set_option maxRecDepth 20000 in
theorem ggX11_term_X11_no : GoodIn wsX11_term wsX11_no := goodIn_r _ [13, 1, 22, 23, 24, 25, 26, 27, 28, 29, 30, 31, 32, 33, 34, 35, 36, 37, 38, 39, 40, 41, 42, 43, 44, 45, 46, 47, 48, 49, 50, 51] (by decide +kernel) (by decide +kernel)
set_option maxRecDepth 20000 in
theorem gX11_term_X11_no : GoodIn wsX11_term (wsV RX11 88 RX11 yX11_no wsX11_no) := goodIn_app (goodIn_of _ (by decide +kernel)) ggX11_term_X11_no
set_option maxRecDepth 20000 in
theorem ggX11_term_X11_add : GoodIn wsX11_term wsX11_add := goodIn_r _ [17, 18, 2, 19, 20, 21, 22, 23, 24, 25, 26, 27, 28, 29, 30, 31, 32, 33, 34, 35, 36, 37, 38, 39, 40, 41, 42, 43, 44, 45, 46, 47, 48, 49, 50, 51] (by decide +kernel) (by decide +kernel)
set_option maxRecDepth 20000 in
theorem gX11_term_X11_add : GoodIn wsX11_term (wsV RX11 161 RX11 yX11_add wsX11_add) := goodIn_app (goodIn_of _ (by decide +kernel)) ggX11_term_X11_add
theorem dX11_term_0 : decode cX11_term 0 = .ok (.aload_n 0, 1) := by decide +kernel
theorem dX11_term_1 : decode cX11_term 1 = .ok (.iconst 0, 1) := by decide +kernel
theorem dX11_term_2 : decode cX11_term 2 = .ok (.putfield 74, 3) := by decide +kernel
theorem dX11_term_5 : decode cX11_term 5 = .ok (.iload_n 1, 1) := by decide +kernel
theorem dX11_term_6 : decode cX11_term 6 = .ok (.invokestatic 100, 3) := by decide +kernel
theorem dX11_term_9 : decode cX11_term 9 = .ok (.ifCond .eq 13, 3) := by decide +kernel
theorem dX11_term_12 : decode cX11_term 12 = .ok (.iload_n 2, 1) := by decide +kernel
theorem dX11_term_13 : decode cX11_term 13 = .ok (.iconst 1, 1) := by decide +kernel
theorem dX11_term_14 : decode cX11_term 14 = .ok (.bipush 7, 2) := by decide +kernel
theorem dX11_term_16 : decode cX11_term 16 = .ok (.invokestatic 78, 3) := by decide +kernel
theorem dX11_term_19 : decode cX11_term 19 = .ok (.ifCond .ne 9, 3) := by decide +kernel
theorem dX11_term_22 : decode cX11_term 22 = .ok (.aload_n 0, 1) := by decide +kernel
theorem dX11_term_23 : decode cX11_term 23 = .ok (.iconst 1, 1) := by decide +kernel
theorem dX11_term_24 : decode cX11_term 24 = .ok (.invokevirtual 88, 3) := by decide +kernel
theorem dX11_term_27 : decode cX11_term 27 = .ok (.ireturn, 1) := by decide +kernel
theorem dX11_term_28 : decode cX11_term 28 = .ok (.aload_n 0, 1) := by decide +kernel
theorem dX11_term_29 : decode cX11_term 29 = .ok (.getfield 85, 3) := by decide +kernel
theorem dX11_term_32 : decode cX11_term 32 = .ok (.bipush 30, 2) := by decide +kernel
theorem dX11_term_34 : decode cX11_term 34 = .ok (.if_icmp .ne 11, 3) := by decide +kernel
theorem dX11_term_37 : decode cX11_term 37 = .ok (.aload_n 0, 1) := by decide +kernel
theorem dX11_term_38 : decode cX11_term 38 = .ok (.iconst 2, 1) := by decide +kernel
theorem dX11_term_39 : decode cX11_term 39 = .ok (.invokevirtual 88, 3) := by decide +kernel
theorem dX11_term_42 : decode cX11_term 42 = .ok (.goto 11, 3) := by decide +kernel
theorem dX11_term_45 : decode cX11_term 45 = .ok (.aload_n 0, 1) := by decide +kernel
theorem dX11_term_46 : decode cX11_term 46 = .ok (.iconst 0, 1) := by decide +kernel
theorem dX11_term_47 : decode cX11_term 47 = .ok (.iload_n 1, 1) := by decide +kernel
theorem dX11_term_48 : decode cX11_term 48 = .ok (.iload_n 2, 1) := by decide +kernel
theorem dX11_term_49 : decode cX11_term 49 = .ok (.iconst 0, 1) := by decide +kernel
theorem dX11_term_50 : decode cX11_term 50 = .ok (.invokevirtual 161, 3) := by decide +kernel
theorem dX11_term_53 : decode cX11_term 53 = .ok (.ireturn, 1) := by decide +kernel
set_option maxRecDepth 20000 in
theorem ggX11_pair_X11_isNode : GoodIn wsX11_pair wsX11_isNode := goodIn_r _ [7, 2, 8, 9, 6, 10, 23, 24, 25, 26, 27, 28, 29, 30, 31, 32, 33, 34, 35, 36, 37, 38, 39, 40, 41, 42, 43, 44, 45, 46, 47, 48, 49, 50, 51, 52] (by decide +kernel) (by decide +kernel)
set_option maxRecDepth 20000 in
theorem gX11_pair_X11_isNode : GoodIn wsX11_pair (wsV RX11 165 RX11 yX11_isNode wsX11_isNode) := goodIn_app (goodIn_of _ (by decide +kernel)) ggX11_pair_X11_isNode
set_option maxRecDepth 20000 in
theorem ggX11_pair_X11_no : GoodIn wsX11_pair wsX11_no := goodIn_r _ [14, 1, 23, 24, 25, 26, 27, 28, 29, 30, 31, 32, 33, 34, 35, 36, 37, 38, 39, 40, 41, 42, 43, 44, 45, 46, 47, 48, 49, 50, 51, 52] (by decide +kernel) (by decide +kernel)
set_option maxRecDepth 20000 in
theorem gX11_pair_X11_no : GoodIn wsX11_pair (wsV RX11 88 RX11 yX11_no wsX11_no) := goodIn_app (goodIn_of _ (by decide +kernel)) ggX11_pair_X11_no
set_option maxRecDepth 20000 in
theorem ggX11_pair_X11_add : GoodIn wsX11_pair wsX11_add := goodIn_r _ [18, 19, 2, 20, 21, 22, 23, 24, 25, 26, 27, 28, 29, 30, 31, 32, 33, 34, 35, 36, 37, 38, 39, 40, 41, 42, 43, 44, 45, 46, 47, 48, 49, 50, 51, 52] (by decide +kernel) (by decide +kernel)
set_option maxRecDepth 20000 in
theorem gX11_pair_X11_add : GoodIn wsX11_pair (wsV RX11 161 RX11 yX11_add wsX11_add) := goodIn_app (goodIn_of _ (by decide +kernel)) ggX11_pair_X11_add
theorem dX11_pair_0 : decode cX11_pair 0 = .ok (.aload_n 0, 1) := by decide +kernel
theorem dX11_pair_1 : decode cX11_pair 1 = .ok (.iconst 0, 1) := by decide +kernel
theorem dX11_pair_2 : decode cX11_pair 2 = .ok (.putfield 74, 3) := by decide +kernel
theorem dX11_pair_5 : decode cX11_pair 5 = .ok (.aload_n 0, 1) := by decide +kernel
theorem dX11_pair_6 : decode cX11_pair 6 = .ok (.iload_n 2, 1) := by decide +kernel
theorem dX11_pair_7 : decode cX11_pair 7 = .ok (.invokevirtual 165, 3) := by decide +kernel
theorem dX11_pair_10 : decode cX11_pair 10 = .ok (.ifCond .eq 11, 3) := by decide +kernel
theorem dX11_pair_13 : decode cX11_pair 13 = .ok (.aload_n 0, 1) := by decide +kernel
theorem dX11_pair_14 : decode cX11_pair 14 = .ok (.iload_n 3, 1) := by decide +kernel
theorem dX11_pair_15 : decode cX11_pair 15 = .ok (.invokevirtual 165, 3) := by decide +kernel
theorem dX11_pair_18 : decode cX11_pair 18 = .ok (.ifCond .ne 9, 3) := by decide +kernel
theorem dX11_pair_21 : decode cX11_pair 21 = .ok (.aload_n 0, 1) := by decide +kernel
theorem dX11_pair_22 : decode cX11_pair 22 = .ok (.iconst 1, 1) := by decide +kernel
theorem dX11_pair_23 : decode cX11_pair 23 = .ok (.invokevirtual 88, 3) := by decide +kernel
theorem dX11_pair_26 : decode cX11_pair 26 = .ok (.ireturn, 1) := by decide +kernel
theorem dX11_pair_27 : decode cX11_pair 27 = .ok (.aload_n 0, 1) := by decide +kernel
theorem dX11_pair_28 : decode cX11_pair 28 = .ok (.getfield 85, 3) := by decide +kernel
theorem dX11_pair_31 : decode cX11_pair 31 = .ok (.bipush 30, 2) := by decide +kernel
theorem dX11_pair_33 : decode cX11_pair 33 = .ok (.if_icmp .ne 11, 3) := by decide +kernel
theorem dX11_pair_36 : decode cX11_pair 36 = .ok (.aload_n 0, 1) := by decide +kernel
theorem dX11_pair_37 : decode cX11_pair 37 = .ok (.iconst 2, 1) := by decide +kernel
theorem dX11_pair_38 : decode cX11_pair 38 = .ok (.invokevirtual 88, 3) := by decide +kernel
theorem dX11_pair_41 : decode cX11_pair 41 = .ok (.goto 11, 3) := by decide +kernel
theorem dX11_pair_44 : decode cX11_pair 44 = .ok (.aload_n 0, 1) := by decide +kernel
theorem dX11_pair_45 : decode cX11_pair 45 = .ok (.iload_n 1, 1) := by decide +kernel
theorem dX11_pair_46 : decode cX11_pair 46 = .ok (.iload_n 2, 1) := by decide +kernel
theorem dX11_pair_47 : decode cX11_pair 47 = .ok (.iload_n 3, 1) := by decide +kernel
theorem dX11_pair_48 : decode cX11_pair 48 = .ok (.iconst 0, 1) := by decide +kernel
theorem dX11_pair_49 : decode cX11_pair 49 = .ok (.invokevirtual 161, 3) := by decide +kernel
theorem dX11_pair_52 : decode cX11_pair 52 = .ok (.ireturn, 1) := by decide +kernel
set_option maxRecDepth 20000 in
theorem ggX11_and_X11_pair : GoodIn wsX11_and wsX11_pair := goodIn_r _ [5, 6, 7, 8, 9, 10, 4, 11, 12, 13, 14, 15, 16, 17, 18, 19, 20, 21, 22, 23, 24, 25, 26, 27, 28, 29, 30, 31, 32, 33, 34, 35, 36, 37, 38, 39, 40, 41, 42, 43, 44, 45, 46, 47, 48, 49, 50, 51, 52, 53, 54, 55, 56] (by decide +kernel) (by decide +kernel)
set_option maxRecDepth 20000 in
theorem gX11_and_X11_pair : GoodIn wsX11_and (wsV RX11 168 RX11 yX11_pair wsX11_pair) := goodIn_app (goodIn_of _ (by decide +kernel)) ggX11_and_X11_pair
theorem dX11_and_0 : decode cX11_and 0 = .ok (.aload_n 0, 1) := by decide +kernel
theorem dX11_and_1 : decode cX11_and 1 = .ok (.iconst 1, 1) := by decide +kernel
theorem dX11_and_2 : decode cX11_and 2 = .ok (.iload_n 1, 1) := by decide +kernel
theorem dX11_and_3 : decode cX11_and 3 = .ok (.iload_n 2, 1) := by decide +kernel
theorem dX11_and_4 : decode cX11_and 4 = .ok (.invokevirtual 168, 3) := by decide +kernel
theorem dX11_and_7 : decode cX11_and 7 = .ok (.ireturn, 1) := by decide +kernel
set_option maxRecDepth 20000 in
theorem ggX11_or_X11_pair : GoodIn wsX11_or wsX11_pair := goodIn_r _ [5, 6, 7, 8, 9, 10, 4, 11, 12, 13, 14, 15, 16, 17, 18, 19, 20, 21, 22, 23, 24, 25, 26, 27, 28, 29, 30, 31, 32, 33, 34, 35, 36, 37, 38, 39, 40, 41, 42, 43, 44, 45, 46, 47, 48, 49, 50, 51, 52, 53, 54, 55, 56] (by decide +kernel) (by decide +kernel)
set_option maxRecDepth 20000 in
theorem gX11_or_X11_pair : GoodIn wsX11_or (wsV RX11 168 RX11 yX11_pair wsX11_pair) := goodIn_app (goodIn_of _ (by decide +kernel)) ggX11_or_X11_pair
theorem dX11_or_0 : decode cX11_or 0 = .ok (.aload_n 0, 1) := by decide +kernel
theorem dX11_or_1 : decode cX11_or 1 = .ok (.iconst 2, 1) := by decide +kernel
theorem dX11_or_2 : decode cX11_or 2 = .ok (.iload_n 1, 1) := by decide +kernel
theorem dX11_or_3 : decode cX11_or 3 = .ok (.iload_n 2, 1) := by decide +kernel
theorem dX11_or_4 : decode cX11_or 4 = .ok (.invokevirtual 168, 3) := by decide +kernel
theorem dX11_or_7 : decode cX11_or 7 = .ok (.ireturn, 1) := by decide +kernel
set_option maxRecDepth 20000 in
theorem ggX11_not_X11_pair : GoodIn wsX11_not wsX11_pair := goodIn_r _ [5, 6, 7, 8, 9, 10, 4, 11, 12, 13, 14, 15, 16, 17, 18, 19, 20, 21, 22, 23, 24, 25, 26, 27, 28, 29, 30, 31, 32, 33, 34, 35, 36, 37, 38, 39, 40, 41, 42, 43, 44, 45, 46, 47, 48, 49, 50, 51, 52, 53, 54, 55, 56] (by decide +kernel) (by decide +kernel)
set_option maxRecDepth 20000 in
theorem gX11_not_X11_pair : GoodIn wsX11_not (wsV RX11 168 RX11 yX11_pair wsX11_pair) := goodIn_app (goodIn_of _ (by decide +kernel)) ggX11_not_X11_pair
theorem dX11_not_0 : decode cX11_not 0 = .ok (.aload_n 0, 1) := by decide +kernel
theorem dX11_not_1 : decode cX11_not 1 = .ok (.iconst 3, 1) := by decide +kernel
theorem dX11_not_2 : decode cX11_not 2 = .ok (.iload_n 1, 1) := by decide +kernel
theorem dX11_not_3 : decode cX11_not 3 = .ok (.iload_n 2, 1) := by decide +kernel
theorem dX11_not_4 : decode cX11_not 4 = .ok (.invokevirtual 168, 3) := by decide +kernel
theorem dX11_not_7 : decode cX11_not 7 = .ok (.ireturn, 1) := by decide +kernel
set_option maxRecDepth 20000 in
theorem ggX11_near_X11_isNode : GoodIn wsX11_near wsX11_isNode := goodIn_r _ [9, 3, 10, 11, 8, 12, 24, 25, 26, 27, 28, 29, 30, 31, 32, 33, 34, 35, 36, 37, 38, 39, 40, 41, 42, 43, 44, 45, 46, 47, 48, 49, 50, 51, 52, 53] (by decide +kernel) (by decide +kernel)
set_option maxRecDepth 20000 in
theorem gX11_near_X11_isNode : GoodIn wsX11_near (wsV RX11 165 RX11 yX11_isNode wsX11_isNode) := goodIn_app (goodIn_of _ (by decide +kernel)) ggX11_near_X11_isNode
set_option maxRecDepth 20000 in
theorem ggX11_near_X11_no : GoodIn wsX11_near wsX11_no := goodIn_r _ [16, 1, 24, 25, 26, 27, 28, 29, 30, 31, 32, 33, 34, 35, 36, 37, 38, 39, 40, 41, 42, 43, 44, 45, 46, 47, 48, 49, 50, 51, 52, 53] (by decide +kernel) (by decide +kernel)
set_option maxRecDepth 20000 in
theorem gX11_near_X11_no : GoodIn wsX11_near (wsV RX11 88 RX11 yX11_no wsX11_no) := goodIn_app (goodIn_of _ (by decide +kernel)) ggX11_near_X11_no
set_option maxRecDepth 20000 in
theorem ggX11_near_X11_isIn : GoodIn wsX11_near wsX11_isIn := goodIn_r _ [12] (by decide +kernel) (by decide +kernel)
set_option maxRecDepth 20000 in
theorem gX11_near_X11_isIn : GoodIn wsX11_near (va_wsS RX11 78 yX11_isIn wsX11_isIn) := goodIn_app (goodIn_of _ (by decide +kernel)) ggX11_near_X11_isIn
set_option maxRecDepth 20000 in
theorem ggX11_near_X11_add : GoodIn wsX11_near wsX11_add := goodIn_r _ [20, 2, 3, 21, 22, 23, 24, 25, 26, 27, 28, 29, 30, 31, 32, 33, 34, 35, 36, 37, 38, 39, 40, 41, 42, 43, 44, 45, 46, 47, 48, 49, 50, 51, 52, 53] (by decide +kernel) (by decide +kernel)
set_option maxRecDepth 20000 in
theorem gX11_near_X11_add : GoodIn wsX11_near (wsV RX11 161 RX11 yX11_add wsX11_add) := goodIn_app (goodIn_of _ (by decide +kernel)) ggX11_near_X11_add
theorem dX11_near_0 : decode cX11_near 0 = .ok (.aload_n 0, 1) := by decide +kernel
theorem dX11_near_1 : decode cX11_near 1 = .ok (.iconst 0, 1) := by decide +kernel
theorem dX11_near_2 : decode cX11_near 2 = .ok (.putfield 74, 3) := by decide +kernel
theorem dX11_near_5 : decode cX11_near 5 = .ok (.aload_n 0, 1) := by decide +kernel
theorem dX11_near_6 : decode cX11_near 6 = .ok (.iload_n 1, 1) := by decide +kernel
theorem dX11_near_7 : decode cX11_near 7 = .ok (.invokevirtual 165, 3) := by decide +kernel
theorem dX11_near_10 : decode cX11_near 10 = .ok (.ifCond .eq 11, 3) := by decide +kernel
theorem dX11_near_13 : decode cX11_near 13 = .ok (.aload_n 0, 1) := by decide +kernel
theorem dX11_near_14 : decode cX11_near 14 = .ok (.iload_n 2, 1) := by decide +kernel
theorem dX11_near_15 : decode cX11_near 15 = .ok (.invokevirtual 165, 3) := by decide +kernel
theorem dX11_near_18 : decode cX11_near 18 = .ok (.ifCond .ne 9, 3) := by decide +kernel
theorem dX11_near_21 : decode cX11_near 21 = .ok (.aload_n 0, 1) := by decide +kernel
theorem dX11_near_22 : decode cX11_near 22 = .ok (.iconst 1, 1) := by decide +kernel
theorem dX11_near_23 : decode cX11_near 23 = .ok (.invokevirtual 88, 3) := by decide +kernel
theorem dX11_near_26 : decode cX11_near 26 = .ok (.ireturn, 1) := by decide +kernel
theorem dX11_near_27 : decode cX11_near 27 = .ok (.aload_n 0, 1) := by decide +kernel
theorem dX11_near_28 : decode cX11_near 28 = .ok (.getfield 44, 3) := by decide +kernel
theorem dX11_near_31 : decode cX11_near 31 = .ok (.iload_n 1, 1) := by decide +kernel
theorem dX11_near_32 : decode cX11_near 32 = .ok (.iaload, 1) := by decide +kernel
theorem dX11_near_33 : decode cX11_near 33 = .ok (.ifCond .ne 22, 3) := by decide +kernel
theorem dX11_near_36 : decode cX11_near 36 = .ok (.aload_n 0, 1) := by decide +kernel
theorem dX11_near_37 : decode cX11_near 37 = .ok (.getfield 44, 3) := by decide +kernel
theorem dX11_near_40 : decode cX11_near 40 = .ok (.iload_n 2, 1) := by decide +kernel
