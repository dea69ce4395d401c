set_option maxRecDepth 20000 in
theorem ggX11_init_X10_init : GoodIn wsX11_init wsX10_init := goodIn_r _ [25, 26, 2, 3, 27, 28, 29, 30, 31, 32, 33, 34, 35, 36, 37, 38, 39, 40, 41, 42, 43, 44, 45, 46, 47, 48, 49, 50, 51, 52, 53, 54, 55, 56, 57, 58, 9, 59, 60, 61, 62, 63, 64, 65, 66, 67, 68, 69, 70, 71, 72, 73, 74, 75, 76, 77, 12, 78, 79, 80, 81, 82, 83, 84, 85, 86, 87, 88, 89, 90, 91, 92, 93, 94, 95, 96, 97, 98, 99, 100, 101, 102, 103, 104, 105, 106, 107, 108, 109, 110, 111, 112, 113, 114, 115, 116, 117, 118, 119, 120, 146, 147, 148, 149, 150, 151, 121, 122, 123, 124, 125, 126, 127, 128, 129, 130, 152, 153, 154, 155, 156, 157, 158, 159, 160, 161, 162, 163, 164, 165, 166, 167, 168, 169, 170, 171, 172, 173, 174, 175, 176, 177] (by first | exact rfl | decide +kernel) (by decide +kernel)
set_option maxRecDepth 20000 in
theorem gX11_init_X10_init : GoodIn wsX11_init (wsX10_init) := ggX11_init_X10_init
theorem dX11_init_0 : decode cX11_init 0 = .ok (.aload_n 0, 1) := by decide +kernel
theorem dX11_init_1 : decode cX11_init 1 = .ok (.invokespecial 1, 3) := by decide +kernel
theorem dX11_init_4 : decode cX11_init 4 = .ok (.aload_n 0, 1) := by decide +kernel
theorem dX11_init_5 : decode cX11_init 5 = .ok (.new 7, 3) := by decide +kernel
theorem dX11_init_8 : decode cX11_init 8 = .ok (.dup, 1) := by decide +kernel
theorem dX11_init_9 : decode cX11_init 9 = .ok (.invokespecial 9, 3) := by decide +kernel
theorem dX11_init_12 : decode cX11_init 12 = .ok (.putfield 10, 3) := by decide +kernel
theorem dX11_init_15 : decode cX11_init 15 = .ok (.aload_n 0, 1) := by decide +kernel
theorem dX11_init_16 : decode cX11_init 16 = .ok (.bipush 40, 2) := by decide +kernel
theorem dX11_init_18 : decode cX11_init 18 = .ok (.iconst 3, 1) := by decide +kernel
theorem dX11_init_19 : decode cX11_init 19 = .ok (.iconst 0, 1) := by decide +kernel
theorem dX11_init_20 : decode cX11_init 20 = .ok (.multianewarray 16 3, 4) := by decide +kernel
theorem dX11_init_24 : decode cX11_init 24 = .ok (.putfield 18, 3) := by decide +kernel
theorem dX11_init_27 : decode cX11_init 27 = .ok (.aload_n 0, 1) := by decide +kernel
theorem dX11_init_28 : decode cX11_init 28 = .ok (.bipush 40, 2) := by decide +kernel
theorem dX11_init_30 : decode cX11_init 30 = .ok (.newarray .int, 2) := by decide +kernel
theorem dX11_init_32 : decode cX11_init 32 = .ok (.putfield 21, 3) := by decide +kernel
theorem dX11_init_35 : decode cX11_init 35 = .ok (.aload_n 0, 1) := by decide +kernel
theorem dX11_init_36 : decode cX11_init 36 = .ok (.bipush 40, 2) := by decide +kernel
theorem dX11_init_38 : decode cX11_init 38 = .ok (.newarray .int, 2) := by decide +kernel
theorem dX11_init_40 : decode cX11_init 40 = .ok (.putfield 25, 3) := by decide +kernel
theorem dX11_init_43 : decode cX11_init 43 = .ok (.aload_n 0, 1) := by decide +kernel
theorem dX11_init_44 : decode cX11_init 44 = .ok (.bipush 40, 2) := by decide +kernel
theorem dX11_init_46 : decode cX11_init 46 = .ok (.newarray .boolean, 2) := by decide +kernel
theorem dX11_init_48 : decode cX11_init 48 = .ok (.putfield 28, 3) := by decide +kernel
theorem dX11_init_51 : decode cX11_init 51 = .ok (.aload_n 0, 1) := by decide +kernel
theorem dX11_init_52 : decode cX11_init 52 = .ok (.bipush 40, 2) := by decide +kernel
theorem dX11_init_54 : decode cX11_init 54 = .ok (.newarray .int, 2) := by decide +kernel
theorem dX11_init_56 : decode cX11_init 56 = .ok (.putfield 32, 3) := by decide +kernel
theorem dX11_init_59 : decode cX11_init 59 = .ok (.aload_n 0, 1) := by decide +kernel
theorem dX11_init_60 : decode cX11_init 60 = .ok (.bipush 12, 2) := by decide +kernel
theorem dX11_init_62 : decode cX11_init 62 = .ok (.newarray .boolean, 2) := by decide +kernel
theorem dX11_init_64 : decode cX11_init 64 = .ok (.putfield 35, 3) := by decide +kernel
theorem dX11_init_67 : decode cX11_init 67 = .ok (.aload_n 0, 1) := by decide +kernel
theorem dX11_init_68 : decode cX11_init 68 = .ok (.bipush 12, 2) := by decide +kernel
theorem dX11_init_70 : decode cX11_init 70 = .ok (.newarray .int, 2) := by decide +kernel
theorem dX11_init_72 : decode cX11_init 72 = .ok (.putfield 38, 3) := by decide +kernel
theorem dX11_init_75 : decode cX11_init 75 = .ok (.aload_n 0, 1) := by decide +kernel
theorem dX11_init_76 : decode cX11_init 76 = .ok (.iconst 3, 1) := by decide +kernel
theorem dX11_init_77 : decode cX11_init 77 = .ok (.newarray .int, 2) := by decide +kernel
theorem dX11_init_79 : decode cX11_init 79 = .ok (.dup, 1) := by decide +kernel
theorem dX11_init_80 : decode cX11_init 80 = .ok (.iconst 0, 1) := by decide +kernel
theorem dX11_init_81 : decode cX11_init 81 = .ok (.iconst 1, 1) := by decide +kernel
theorem dX11_init_82 : decode cX11_init 82 = .ok (.iastore, 1) := by decide +kernel
theorem dX11_init_83 : decode cX11_init 83 = .ok (.dup, 1) := by decide +kernel
theorem dX11_init_84 : decode cX11_init 84 = .ok (.iconst 1, 1) := by decide +kernel
theorem dX11_init_85 : decode cX11_init 85 = .ok (.iconst 1, 1) := by decide +kernel
theorem dX11_init_86 : decode cX11_init 86 = .ok (.iastore, 1) := by decide +kernel
theorem dX11_init_87 : decode cX11_init 87 = .ok (.dup, 1) := by decide +kernel
theorem dX11_init_88 : decode cX11_init 88 = .ok (.iconst 2, 1) := by decide +kernel
theorem dX11_init_89 : decode cX11_init 89 = .ok (.iconst 1, 1) := by decide +kernel
theorem dX11_init_90 : decode cX11_init 90 = .ok (.iastore, 1) := by decide +kernel
theorem dX11_init_91 : decode cX11_init 91 = .ok (.putfield 41, 3) := by decide +kernel
theorem dX11_init_94 : decode cX11_init 94 = .ok (.aload_n 0, 1) := by decide +kernel
theorem dX11_init_95 : decode cX11_init 95 = .ok (.iconst 0, 1) := by decide +kernel
theorem dX11_init_96 : decode cX11_init 96 = .ok (.anewarray 44, 3) := by decide +kernel
theorem dX11_init_99 : decode cX11_init 99 = .ok (.putfield 45, 3) := by decide +kernel
theorem dX11_init_102 : decode cX11_init 102 = .ok (.aload_n 0, 1) := by decide +kernel
theorem dX11_init_103 : decode cX11_init 103 = .ok (.bipush 30, 2) := by decide +kernel
theorem dX11_init_105 : decode cX11_init 105 = .ok (.anewarray 44, 3) := by decide +kernel
theorem dX11_init_108 : decode cX11_init 108 = .ok (.putfield 49, 3) := by decide +kernel
theorem dX11_init_111 : decode cX11_init 111 = .ok (.aload_n 0, 1) := by decide +kernel
theorem dX11_init_112 : decode cX11_init 112 = .ok (.aload_n 1, 1) := by decide +kernel
theorem dX11_init_113 : decode cX11_init 113 = .ok (.putfield 52, 3) := by decide +kernel
theorem dX11_init_116 : decode cX11_init 116 = .ok (.aload_n 0, 1) := by decide +kernel
theorem dX11_init_117 : decode cX11_init 117 = .ok (.iload_n 2, 1) := by decide +kernel
theorem dX11_init_118 : decode cX11_init 118 = .ok (.putfield 55, 3) := by decide +kernel
theorem dX11_init_121 : decode cX11_init 121 = .ok (.iconst 0, 1) := by decide +kernel
theorem dX11_init_122 : decode cX11_init 122 = .ok (.istore_n 3, 1) := by decide +kernel
theorem dX11_init_123 : decode cX11_init 123 = .ok (.iload_n 3, 1) := by decide +kernel
theorem dX11_init_124 : decode cX11_init 124 = .ok (.bipush 12, 2) := by decide +kernel
theorem dX11_init_126 : decode cX11_init 126 = .ok (.if_icmp .ge 16, 3) := by decide +kernel
theorem dX11_init_129 : decode cX11_init 129 = .ok (.aload_n 0, 1) := by decide +kernel
theorem dX11_init_130 : decode cX11_init 130 = .ok (.getfield 38, 3) := by decide +kernel
theorem dX11_init_133 : decode cX11_init 133 = .ok (.iload_n 3, 1) := by decide +kernel
theorem dX11_init_134 : decode cX11_init 134 = .ok (.iconst (-1), 1) := by decide +kernel
theorem dX11_init_135 : decode cX11_init 135 = .ok (.iastore, 1) := by decide +kernel
theorem dX11_init_136 : decode cX11_init 136 = .ok (.iinc 3 1, 3) := by decide +kernel
theorem dX11_init_139 : decode cX11_init 139 = .ok (.goto (-16), 3) := by decide +kernel
theorem dX11_init_142 : decode cX11_init 142 = .ok (.return_, 1) := by decide +kernel
set_option maxRecDepth 20000 in
theorem ggX11_draw_L_cell : GoodIn wsX11_draw wsL_cell := goodIn_r _ [5, 6] (by decide +kernel) (by decide +kernel)
set_option maxRecDepth 20000 in
theorem gX11_draw_L_cell_n59 : GoodIn wsX11_draw (wsL_cell) := ggX11_draw_L_cell
set_option maxRecDepth 20000 in
theorem ggX11_draw_L_below : GoodIn wsX11_draw wsL_below := goodIn_r _ [8, 9] (by decide +kernel) (by decide +kernel)
set_option maxRecDepth 20000 in
theorem gX11_draw_L_below_n65 : GoodIn wsX11_draw (wsL_below) := ggX11_draw_L_below
theorem dX11_draw_0 : decode cX11_draw 0 = .ok (.aload_n 0, 1) := by decide +kernel
theorem dX11_draw_1 : decode cX11_draw 1 = .ok (.getfield 52, 3) := by decide +kernel
theorem dX11_draw_4 : decode cX11_draw 4 = .ok (.aload_n 0, 1) := by decide +kernel
theorem dX11_draw_5 : decode cX11_draw 5 = .ok (.getfield 55, 3) := by decide +kernel
theorem dX11_draw_8 : decode cX11_draw 8 = .ok (.bipush 24, 2) := by decide +kernel
theorem dX11_draw_10 : decode cX11_draw 10 = .ok (.irem, 1) := by decide +kernel
theorem dX11_draw_11 : decode cX11_draw 11 = .ok (.invokestatic 59, 3) := by decide +kernel
theorem dX11_draw_14 : decode cX11_draw 14 = .ok (.aload_n 0, 1) := by decide +kernel
theorem dX11_draw_15 : decode cX11_draw 15 = .ok (.getfield 55, 3) := by decide +kernel
theorem dX11_draw_18 : decode cX11_draw 18 = .ok (.bipush 24, 2) := by decide +kernel
theorem dX11_draw_20 : decode cX11_draw 20 = .ok (.idiv, 1) := by decide +kernel
theorem dX11_draw_21 : decode cX11_draw 21 = .ok (.bipush 8, 2) := by decide +kernel
theorem dX11_draw_23 : decode cX11_draw 23 = .ok (.irem, 1) := by decide +kernel
theorem dX11_draw_24 : decode cX11_draw 24 = .ok (.ishr, 1) := by decide +kernel
theorem dX11_draw_25 : decode cX11_draw 25 = .ok (.bipush 79, 2) := by decide +kernel
theorem dX11_draw_27 : decode cX11_draw 27 = .ok (.aload_n 0, 1) := by decide +kernel
theorem dX11_draw_28 : decode cX11_draw 28 = .ok (.getfield 55, 3) := by decide +kernel
theorem dX11_draw_31 : decode cX11_draw 31 = .ok (.imul, 1) := by decide +kernel
theorem dX11_draw_32 : decode cX11_draw 32 = .ok (.iadd, 1) := by decide +kernel
theorem dX11_draw_33 : decode cX11_draw 33 = .ok (.iload_n 1, 1) := by decide +kernel
theorem dX11_draw_34 : decode cX11_draw 34 = .ok (.invokestatic 65, 3) := by decide +kernel
theorem dX11_draw_37 : decode cX11_draw 37 = .ok (.istore_n 2, 1) := by decide +kernel
theorem dX11_draw_38 : decode cX11_draw 38 = .ok (.aload_n 0, 1) := by decide +kernel
theorem dX11_draw_39 : decode cX11_draw 39 = .ok (.dup, 1) := by decide +kernel
theorem dX11_draw_40 : decode cX11_draw 40 = .ok (.getfield 55, 3) := by decide +kernel
theorem dX11_draw_43 : decode cX11_draw 43 = .ok (.iconst 1, 1) := by decide +kernel
theorem dX11_draw_44 : decode cX11_draw 44 = .ok (.iadd, 1) := by decide +kernel
theorem dX11_draw_45 : decode cX11_draw 45 = .ok (.putfield 55, 3) := by decide +kernel
theorem dX11_draw_48 : decode cX11_draw 48 = .ok (.iload_n 2, 1) := by decide +kernel
theorem dX11_draw_49 : decode cX11_draw 49 = .ok (.ireturn, 1) := by decide +kernel
theorem dX11_with_0 : decode cX11_with 0 = .ok (.aload_n 0, 1) := by decide +kernel
theorem dX11_with_1 : decode cX11_with 1 = .ok (.arraylength, 1) := by decide +kernel
theorem dX11_with_2 : decode cX11_with 2 = .ok (.iconst 1, 1) := by decide +kernel
theorem dX11_with_3 : decode cX11_with 3 = .ok (.iadd, 1) := by decide +kernel
theorem dX11_with_4 : decode cX11_with 4 = .ok (.newarray .int, 2) := by decide +kernel
theorem dX11_with_6 : decode cX11_with 6 = .ok (.astore_n 2, 1) := by decide +kernel
theorem dX11_with_7 : decode cX11_with 7 = .ok (.aload_n 0, 1) := by decide +kernel
theorem dX11_with_8 : decode cX11_with 8 = .ok (.iconst 0, 1) := by decide +kernel
theorem dX11_with_9 : decode cX11_with 9 = .ok (.aload_n 2, 1) := by decide +kernel
theorem dX11_with_10 : decode cX11_with 10 = .ok (.iconst 0, 1) := by decide +kernel
theorem dX11_with_11 : decode cX11_with 11 = .ok (.aload_n 0, 1) := by decide +kernel
theorem dX11_with_12 : decode cX11_with 12 = .ok (.arraylength, 1) := by decide +kernel
theorem dX11_with_13 : decode cX11_with 13 = .ok (.invokestatic 69, 3) := by decide +kernel
theorem dX11_with_16 : decode cX11_with 16 = .ok (.aload_n 2, 1) := by decide +kernel
theorem dX11_with_17 : decode cX11_with 17 = .ok (.aload_n 0, 1) := by decide +kernel
theorem dX11_with_18 : decode cX11_with 18 = .ok (.arraylength, 1) := by decide +kernel
theorem dX11_with_19 : decode cX11_with 19 = .ok (.iload_n 1, 1) := by decide +kernel
theorem dX11_with_20 : decode cX11_with 20 = .ok (.iastore, 1) := by decide +kernel
theorem dX11_with_21 : decode cX11_with 21 = .ok (.aload_n 2, 1) := by decide +kernel
theorem dX11_with_22 : decode cX11_with 22 = .ok (.areturn, 1) := by decide +kernel
set_option maxRecDepth 20000 in
theorem ggX11_add_X11_draw : GoodIn wsX11_add wsX11_draw := goodIn_r _ [11, 12, 13, 14, 15, 16, 17, 18, 19, 20, 133, 134, 135, 136, 137, 138, 139, 140, 141, 142, 143, 144, 145, 146, 147] (by decide +kernel) (by decide +kernel)
set_option maxRecDepth 20000 in
theorem gX11_add_X11_draw : GoodIn wsX11_add (wsV RX11 78 RX11 yX11_draw wsX11_draw) := goodIn_app (goodIn_of _ (by decide +kernel)) ggX11_add_X11_draw
set_option maxRecDepth 20000 in
theorem ggX11_add_X10_open : GoodIn wsX11_add wsX10_open := goodIn_ca (goodIn_ca (goodIn_r _ [25, 26, 27, 28, 29, 30, 31, 32, 33, 34, 35, 36, 37, 24, 38, 39, 40, 41, 42, 43, 44, 45, 46, 47, 48, 49, 50, 51, 52, 53, 54, 55, 56, 57, 58, 59, 60, 61, 62, 63, 64, 65, 66, 67, 68, 148, 149, 150, 151, 152, 153, 154, 155, 156, 157, 158, 159, 160, 161, 162, 163, 164, 165, 166, 167, 168, 169, 170, 171, 172, 173] (by decide +kernel) (by decide +kernel)) (goodIn_sub (fun _ h => List.mem_cons_of_mem _ (List.mem_append_left _ (List.mem_append_right _ h))) (by decide +kernel))) (goodIn_sub (fun _ h => List.mem_cons_of_mem _ (List.mem_append_right _ h)) (by decide +kernel))
set_option maxRecDepth 20000 in
theorem gX11_add_X10_open : GoodIn wsX11_add (wsV RX11 82 RX10 yX10_open wsX10_open) := goodIn_app (goodIn_of _ (by decide +kernel)) ggX11_add_X10_open
set_option maxRecDepth 20000 in
theorem ggX11_add_X11_with : GoodIn wsX11_add wsX11_with := goodIn_r _ [71, 65, 72, 73, 74, 75] (by decide +kernel) (by decide +kernel)
set_option maxRecDepth 20000 in
theorem gX11_add_X11_with : GoodIn wsX11_add (va_wsS RX11 85 yX11_with wsX11_with) := goodIn_app (goodIn_of _ (by decide +kernel)) ggX11_add_X11_with
set_option maxRecDepth 20000 in
theorem ggX11_add_X10_write : GoodIn wsX11_add wsX10_write := goodIn_ca (goodIn_ca (goodIn_r _ [79, 26, 27, 28, 29, 30, 31, 80, 81, 82, 24, 83, 84, 85, 86, 87, 88, 89, 34, 90, 56, 91, 92, 93, 61, 94, 95, 66, 96, 97, 98, 99, 68, 100, 67, 101, 102, 103, 104, 105, 148, 149, 150, 151, 152, 153, 154, 155, 156, 157, 158, 159, 160, 161, 162, 163, 169, 170, 171, 172, 173, 164, 165, 166, 167, 168] (by decide +kernel) (by decide +kernel)) (goodIn_sub (fun _ h => List.mem_cons_of_mem _ (List.mem_append_left _ (List.mem_append_right _ h))) (by decide +kernel))) (goodIn_sub (fun _ h => List.mem_cons_of_mem _ (List.mem_append_right _ h)) (by decide +kernel))
set_option maxRecDepth 20000 in
theorem gX11_add_X10_write : GoodIn wsX11_add (wsV RX11 89 RX10 yX10_write wsX10_write) := goodIn_app (goodIn_of _ (by decide +kernel)) ggX11_add_X10_write
set_option maxRecDepth 20000 in
theorem ggX11_add_X10_close : GoodIn wsX11_add wsX10_close := goodIn_ca (goodIn_r _ [109, 28, 29, 30, 31, 110, 111, 112, 45, 113, 48, 47, 114, 115, 43, 44, 46, 116, 117, 118, 119, 120, 121, 122, 123, 124, 125, 126, 127, 128, 148, 149, 150, 151, 152, 153, 154, 155, 156, 157, 158, 159, 160, 161, 162, 163, 164, 165, 166, 167, 168] (by decide +kernel) (by decide +kernel)) (goodIn_sub (fun _ h => List.mem_cons_of_mem _ (List.mem_append_right _ h)) (by decide +kernel))
set_option maxRecDepth 20000 in
theorem gX11_add_X10_close : GoodIn wsX11_add (wsV RX11 92 RX10 yX10_close wsX10_close) := goodIn_app (goodIn_of _ (by decide +kernel)) ggX11_add_X10_close
set_option maxRecDepth 20000 in
theorem ggX11_add_X10_documents : GoodIn wsX11_add wsX10_documents := goodIn_r _ [132, 30, 35, 148, 149, 150, 151, 152, 153, 154, 155, 156, 157, 158, 159, 160, 161, 162, 163] (by decide +kernel) (by decide +kernel)
set_option maxRecDepth 20000 in
theorem gX11_add_X10_documents : GoodIn wsX11_add (wsV RX11 96 RX10 yX10_documents wsX10_documents) := goodIn_app (goodIn_of _ (by decide +kernel)) ggX11_add_X10_documents
theorem dX11_add_0 : decode cX11_add 0 = .ok (.aload_n 0, 1) := by decide +kernel
theorem dX11_add_1 : decode cX11_add 1 = .ok (.getfield 75, 3) := by decide +kernel
theorem dX11_add_4 : decode cX11_add 4 = .ok (.istore_n 1, 1) := by decide +kernel
theorem dX11_add_5 : decode cX11_add 5 = .ok (.aload_n 0, 1) := by decide +kernel
theorem dX11_add_6 : decode cX11_add 6 = .ok (.getfield 21, 3) := by decide +kernel
theorem dX11_add_9 : decode cX11_add 9 = .ok (.iload_n 1, 1) := by decide +kernel
theorem dX11_add_10 : decode cX11_add 10 = .ok (.aload_n 0, 1) := by decide +kernel
theorem dX11_add_11 : decode cX11_add 11 = .ok (.bipush 20, 2) := by decide +kernel
theorem dX11_add_13 : decode cX11_add 13 = .ok (.invokevirtual 78, 3) := by decide +kernel
theorem dX11_add_16 : decode cX11_add 16 = .ok (.iastore, 1) := by decide +kernel
theorem dX11_add_17 : decode cX11_add 17 = .ok (.aload_n 0, 1) := by decide +kernel
theorem dX11_add_18 : decode cX11_add 18 = .ok (.getfield 25, 3) := by decide +kernel
theorem dX11_add_21 : decode cX11_add 21 = .ok (.iload_n 1, 1) := by decide +kernel
theorem dX11_add_22 : decode cX11_add 22 = .ok (.aload_n 0, 1) := by decide +kernel
theorem dX11_add_23 : decode cX11_add 23 = .ok (.iconst 3, 1) := by decide +kernel
theorem dX11_add_24 : decode cX11_add 24 = .ok (.invokevirtual 78, 3) := by decide +kernel
theorem dX11_add_27 : decode cX11_add 27 = .ok (.iastore, 1) := by decide +kernel
theorem dX11_add_28 : decode cX11_add 28 = .ok (.aload_n 0, 1) := by decide +kernel
theorem dX11_add_29 : decode cX11_add 29 = .ok (.getfield 10, 3) := by decide +kernel
theorem dX11_add_32 : decode cX11_add 32 = .ok (.aload_n 0, 1) := by decide +kernel
theorem dX11_add_33 : decode cX11_add 33 = .ok (.getfield 21, 3) := by decide +kernel
theorem dX11_add_36 : decode cX11_add 36 = .ok (.iload_n 1, 1) := by decide +kernel
theorem dX11_add_37 : decode cX11_add 37 = .ok (.iaload, 1) := by decide +kernel
theorem dX11_add_38 : decode cX11_add 38 = .ok (.aload_n 0, 1) := by decide +kernel
theorem dX11_add_39 : decode cX11_add 39 = .ok (.getfield 25, 3) := by decide +kernel
theorem dX11_add_42 : decode cX11_add 42 = .ok (.iload_n 1, 1) := by decide +kernel
theorem dX11_add_43 : decode cX11_add 43 = .ok (.iaload, 1) := by decide +kernel
theorem dX11_add_44 : decode cX11_add 44 = .ok (.invokevirtual 82, 3) := by decide +kernel
theorem dX11_add_47 : decode cX11_add 47 = .ok (.iload_n 1, 1) := by decide +kernel
theorem dX11_add_48 : decode cX11_add 48 = .ok (.if_icmp .eq 5, 3) := by decide +kernel
theorem dX11_add_51 : decode cX11_add 51 = .ok (.iconst 0, 1) := by decide +kernel
theorem dX11_add_52 : decode cX11_add 52 = .ok (.ireturn, 1) := by decide +kernel
theorem dX11_add_53 : decode cX11_add 53 = .ok (.iconst 0, 1) := by decide +kernel
theorem dX11_add_54 : decode cX11_add 54 = .ok (.istore_n 2, 1) := by decide +kernel
theorem dX11_add_55 : decode cX11_add 55 = .ok (.iload_n 2, 1) := by decide +kernel
theorem dX11_add_56 : decode cX11_add 56 = .ok (.iconst 3, 1) := by decide +kernel
theorem dX11_add_57 : decode cX11_add 57 = .ok (.if_icmp .ge 114, 3) := by decide +kernel
theorem dX11_add_60 : decode cX11_add 60 = .ok (.aload_n 0, 1) := by decide +kernel
theorem dX11_add_61 : decode cX11_add 61 = .ok (.iload_n 2, 1) := by decide +kernel
theorem dX11_add_62 : decode cX11_add 62 = .ok (.iconst 2, 1) := by decide +kernel
theorem dX11_add_63 : decode cX11_add 63 = .ok (.if_icmp .ne 7, 3) := by decide +kernel
theorem dX11_add_66 : decode cX11_add 66 = .ok (.iconst 2, 1) := by decide +kernel
theorem dX11_add_67 : decode cX11_add 67 = .ok (.goto 5, 3) := by decide +kernel
theorem dX11_add_70 : decode cX11_add 70 = .ok (.bipush 6, 2) := by decide +kernel
theorem dX11_add_72 : decode cX11_add 72 = .ok (.invokevirtual 78, 3) := by decide +kernel
theorem dX11_add_75 : decode cX11_add 75 = .ok (.istore_n 3, 1) := by decide +kernel
theorem dX11_add_76 : decode cX11_add 76 = .ok (.iload_n 3, 1) := by decide +kernel
theorem dX11_add_77 : decode cX11_add 77 = .ok (.ifCond .le 88, 3) := by decide +kernel
theorem dX11_add_80 : decode cX11_add 80 = .ok (.aload_n 0, 1) := by decide +kernel
theorem dX11_add_81 : decode cX11_add 81 = .ok (.getfield 18, 3) := by decide +kernel
theorem dX11_add_84 : decode cX11_add 84 = .ok (.iload_n 1, 1) := by decide +kernel
theorem dX11_add_85 : decode cX11_add 85 = .ok (.aaload, 1) := by decide +kernel
theorem dX11_add_86 : decode cX11_add 86 = .ok (.iload_n 2, 1) := by decide +kernel
theorem dX11_add_87 : decode cX11_add 87 = .ok (.aload_n 0, 1) := by decide +kernel
theorem dX11_add_88 : decode cX11_add 88 = .ok (.getfield 18, 3) := by decide +kernel
theorem dX11_add_91 : decode cX11_add 91 = .ok (.iload_n 1, 1) := by decide +kernel
theorem dX11_add_92 : decode cX11_add 92 = .ok (.aaload, 1) := by decide +kernel
theorem dX11_add_93 : decode cX11_add 93 = .ok (.iload_n 2, 1) := by decide +kernel
theorem dX11_add_94 : decode cX11_add 94 = .ok (.aaload, 1) := by decide +kernel
theorem dX11_add_95 : decode cX11_add 95 = .ok (.aload_n 0, 1) := by decide +kernel
theorem dX11_add_96 : decode cX11_add 96 = .ok (.aload_n 0, 1) := by decide +kernel
theorem dX11_add_97 : decode cX11_add 97 = .ok (.iconst 2, 1) := by decide +kernel
theorem dX11_add_98 : decode cX11_add 98 = .ok (.invokevirtual 78, 3) := by decide +kernel
theorem dX11_add_101 : decode cX11_add 101 = .ok (.ifCond .ne 7, 3) := by decide +kernel
theorem dX11_add_104 : decode cX11_add 104 = .ok (.iconst 4, 1) := by decide +kernel
theorem dX11_add_105 : decode cX11_add 105 = .ok (.goto 5, 3) := by decide +kernel
theorem dX11_add_108 : decode cX11_add 108 = .ok (.bipush 10, 2) := by decide +kernel
theorem dX11_add_110 : decode cX11_add 110 = .ok (.invokevirtual 78, 3) := by decide +kernel
theorem dX11_add_113 : decode cX11_add 113 = .ok (.invokestatic 85, 3) := by decide +kernel
theorem dX11_add_116 : decode cX11_add 116 = .ok (.aastore, 1) := by decide +kernel
theorem dX11_add_117 : decode cX11_add 117 = .ok (.aload_n 0, 1) := by decide +kernel
theorem dX11_add_118 : decode cX11_add 118 = .ok (.getfield 10, 3) := by decide +kernel
theorem dX11_add_121 : decode cX11_add 121 = .ok (.iload_n 2, 1) := by decide +kernel
theorem dX11_add_122 : decode cX11_add 122 = .ok (.aload_n 0, 1) := by decide +kernel
theorem dX11_add_123 : decode cX11_add 123 = .ok (.getfield 18, 3) := by decide +kernel
theorem dX11_add_126 : decode cX11_add 126 = .ok (.iload_n 1, 1) := by decide +kernel
theorem dX11_add_127 : decode cX11_add 127 = .ok (.aaload, 1) := by decide +kernel
theorem dX11_add_128 : decode cX11_add 128 = .ok (.iload_n 2, 1) := by decide +kernel
theorem dX11_add_129 : decode cX11_add 129 = .ok (.aaload, 1) := by decide +kernel
theorem dX11_add_130 : decode cX11_add 130 = .ok (.aload_n 0, 1) := by decide +kernel
theorem dX11_add_131 : decode cX11_add 131 = .ok (.getfield 18, 3) := by decide +kernel
theorem dX11_add_134 : decode cX11_add 134 = .ok (.iload_n 1, 1) := by decide +kernel
theorem dX11_add_135 : decode cX11_add 135 = .ok (.aaload, 1) := by decide +kernel
theorem dX11_add_136 : decode cX11_add 136 = .ok (.iload_n 2, 1) := by decide +kernel
theorem dX11_add_137 : decode cX11_add 137 = .ok (.aaload, 1) := by decide +kernel
theorem dX11_add_138 : decode cX11_add 138 = .ok (.arraylength, 1) := by decide +kernel
theorem dX11_add_139 : decode cX11_add 139 = .ok (.iconst 1, 1) := by decide +kernel
theorem dX11_add_140 : decode cX11_add 140 = .ok (.isub, 1) := by decide +kernel
theorem dX11_add_141 : decode cX11_add 141 = .ok (.iaload, 1) := by decide +kernel
theorem dX11_add_142 : decode cX11_add 142 = .ok (.invokevirtual 89, 3) := by decide +kernel
theorem dX11_add_145 : decode cX11_add 145 = .ok (.aload_n 0, 1) := by decide +kernel
theorem dX11_add_146 : decode cX11_add 146 = .ok (.getfield 18, 3) := by decide +kernel
theorem dX11_add_149 : decode cX11_add 149 = .ok (.iload_n 1, 1) := by decide +kernel
theorem dX11_add_150 : decode cX11_add 150 = .ok (.aaload, 1) := by decide +kernel
theorem dX11_add_151 : decode cX11_add 151 = .ok (.iload_n 2, 1) := by decide +kernel
theorem dX11_add_152 : decode cX11_add 152 = .ok (.aaload, 1) := by decide +kernel
theorem dX11_add_153 : decode cX11_add 153 = .ok (.arraylength, 1) := by decide +kernel
theorem dX11_add_154 : decode cX11_add 154 = .ok (.if_icmp .eq 5, 3) := by decide +kernel
theorem dX11_add_157 : decode cX11_add 157 = .ok (.iconst 0, 1) := by decide +kernel
theorem dX11_add_158 : decode cX11_add 158 = .ok (.ireturn, 1) := by decide +kernel
theorem dX11_add_159 : decode cX11_add 159 = .ok (.iinc 3 (-1), 3) := by decide +kernel
theorem dX11_add_162 : decode cX11_add 162 = .ok (.goto (-86), 3) := by decide +kernel
theorem dX11_add_165 : decode cX11_add 165 = .ok (.iinc 2 1, 3) := by decide +kernel
theorem dX11_add_168 : decode cX11_add 168 = .ok (.goto (-113), 3) := by decide +kernel
theorem dX11_add_171 : decode cX11_add 171 = .ok (.aload_n 0, 1) := by decide +kernel
theorem dX11_add_172 : decode cX11_add 172 = .ok (.dup, 1) := by decide +kernel
theorem dX11_add_173 : decode cX11_add 173 = .ok (.getfield 75, 3) := by decide +kernel
theorem dX11_add_176 : decode cX11_add 176 = .ok (.iconst 1, 1) := by decide +kernel
theorem dX11_add_177 : decode cX11_add 177 = .ok (.iadd, 1) := by decide +kernel
theorem dX11_add_178 : decode cX11_add 178 = .ok (.putfield 75, 3) := by decide +kernel
theorem dX11_add_181 : decode cX11_add 181 = .ok (.iconst 0, 1) := by decide +kernel
theorem dX11_add_182 : decode cX11_add 182 = .ok (.istore_n 2, 1) := by decide +kernel
theorem dX11_add_183 : decode cX11_add 183 = .ok (.iconst 0, 1) := by decide +kernel
theorem dX11_add_184 : decode cX11_add 184 = .ok (.istore_n 3, 1) := by decide +kernel
theorem dX11_add_185 : decode cX11_add 185 = .ok (.iload_n 3, 1) := by decide +kernel
theorem dX11_add_186 : decode cX11_add 186 = .ok (.aload_n 0, 1) := by decide +kernel
theorem dX11_add_187 : decode cX11_add 187 = .ok (.getfield 75, 3) := by decide +kernel
theorem dX11_add_190 : decode cX11_add 190 = .ok (.if_icmp .ge 26, 3) := by decide +kernel
theorem dX11_add_193 : decode cX11_add 193 = .ok (.iload_n 2, 1) := by decide +kernel
theorem dX11_add_194 : decode cX11_add 194 = .ok (.aload_n 0, 1) := by decide +kernel
theorem dX11_add_195 : decode cX11_add 195 = .ok (.getfield 32, 3) := by decide +kernel
theorem dX11_add_198 : decode cX11_add 198 = .ok (.iload_n 3, 1) := by decide +kernel
theorem dX11_add_199 : decode cX11_add 199 = .ok (.iaload, 1) := by decide +kernel
theorem dX11_add_200 : decode cX11_add 200 = .ok (.ifCond .ne 7, 3) := by decide +kernel
theorem dX11_add_203 : decode cX11_add 203 = .ok (.iconst 1, 1) := by decide +kernel
theorem dX11_add_204 : decode cX11_add 204 = .ok (.goto 4, 3) := by decide +kernel
theorem dX11_add_207 : decode cX11_add 207 = .ok (.iconst 0, 1) := by decide +kernel
theorem dX11_add_208 : decode cX11_add 208 = .ok (.iadd, 1) := by decide +kernel
theorem dX11_add_209 : decode cX11_add 209 = .ok (.istore_n 2, 1) := by decide +kernel
theorem dX11_add_210 : decode cX11_add 210 = .ok (.iinc 3 1, 3) := by decide +kernel
theorem dX11_add_213 : decode cX11_add 213 = .ok (.goto (-28), 3) := by decide +kernel
theorem dX11_add_216 : decode cX11_add 216 = .ok (.aload_n 0, 1) := by decide +kernel
theorem dX11_add_217 : decode cX11_add 217 = .ok (.getfield 10, 3) := by decide +kernel
theorem dX11_add_220 : decode cX11_add 220 = .ok (.invokevirtual 92, 3) := by decide +kernel
theorem dX11_add_223 : decode cX11_add 223 = .ok (.iload_n 2, 1) := by decide +kernel
theorem dX11_add_224 : decode cX11_add 224 = .ok (.if_icmp .ne 21, 3) := by decide +kernel
theorem dX11_add_227 : decode cX11_add 227 = .ok (.aload_n 0, 1) := by decide +kernel
theorem dX11_add_228 : decode cX11_add 228 = .ok (.getfield 10, 3) := by decide +kernel
theorem dX11_add_231 : decode cX11_add 231 = .ok (.invokevirtual 96, 3) := by decide +kernel
theorem dX11_add_234 : decode cX11_add 234 = .ok (.aload_n 0, 1) := by decide +kernel
theorem dX11_add_235 : decode cX11_add 235 = .ok (.getfield 75, 3) := by decide +kernel
theorem dX11_add_238 : decode cX11_add 238 = .ok (.if_icmp .ne 7, 3) := by decide +kernel
theorem dX11_add_241 : decode cX11_add 241 = .ok (.iconst 1, 1) := by decide +kernel
theorem dX11_add_242 : decode cX11_add 242 = .ok (.goto 4, 3) := by decide +kernel
theorem dX11_add_245 : decode cX11_add 245 = .ok (.iconst 0, 1) := by decide +kernel
theorem dX11_add_246 : decode cX11_add 246 = .ok (.ireturn, 1) := by decide +kernel
set_option maxRecDepth 20000 in
theorem ggX11_remove_X11_draw : GoodIn wsX11_remove wsX11_draw := goodIn_r _ [8, 9, 10, 11, 12, 13, 14, 15, 16, 17, 34, 35, 36, 37, 38, 39, 40, 41, 42, 43, 44, 45, 46, 47, 48] (by decide +kernel) (by decide +kernel)
set_option maxRecDepth 20000 in
theorem gX11_remove_X11_draw : GoodIn wsX11_remove (wsV RX11 78 RX11 yX11_draw wsX11_draw) := goodIn_app (goodIn_of _ (by decide +kernel)) ggX11_remove_X11_draw
set_option maxRecDepth 20000 in
theorem ggX11_remove_X10_remove : GoodIn wsX11_remove wsX10_remove := goodIn_ca (goodIn_r _ [22, 23, 24, 25, 26, 27, 28, 29, 30, 31, 32, 33, 49, 50, 51, 52, 53, 54, 55, 56, 57, 58, 59, 60, 61, 62, 63, 64, 65, 66, 67, 68, 69] (by decide +kernel) (by decide +kernel)) (goodIn_sub (fun _ h => List.mem_cons_of_mem _ (List.mem_append_right _ h)) (by decide +kernel))
set_option maxRecDepth 20000 in
theorem gX11_remove_X10_remove : GoodIn wsX11_remove (wsV RX11 98 RX10 yX10_remove wsX10_remove) := goodIn_app (goodIn_of _ (by decide +kernel)) ggX11_remove_X10_remove
theorem dX11_remove_0 : decode cX11_remove 0 = .ok (.aload_n 0, 1) := by decide +kernel
theorem dX11_remove_1 : decode cX11_remove 1 = .ok (.aload_n 0, 1) := by decide +kernel
theorem dX11_remove_2 : decode cX11_remove 2 = .ok (.getfield 75, 3) := by decide +kernel
theorem dX11_remove_5 : decode cX11_remove 5 = .ok (.invokevirtual 78, 3) := by decide +kernel
theorem dX11_remove_8 : decode cX11_remove 8 = .ok (.istore_n 1, 1) := by decide +kernel
theorem dX11_remove_9 : decode cX11_remove 9 = .ok (.aload_n 0, 1) := by decide +kernel
theorem dX11_remove_10 : decode cX11_remove 10 = .ok (.getfield 28, 3) := by decide +kernel
theorem dX11_remove_13 : decode cX11_remove 13 = .ok (.iload_n 1, 1) := by decide +kernel
theorem dX11_remove_14 : decode cX11_remove 14 = .ok (.baload, 1) := by decide +kernel
theorem dX11_remove_15 : decode cX11_remove 15 = .ok (.istore_n 2, 1) := by decide +kernel
theorem dX11_remove_16 : decode cX11_remove 16 = .ok (.aload_n 0, 1) := by decide +kernel
theorem dX11_remove_17 : decode cX11_remove 17 = .ok (.getfield 28, 3) := by decide +kernel
theorem dX11_remove_20 : decode cX11_remove 20 = .ok (.iload_n 1, 1) := by decide +kernel
theorem dX11_remove_21 : decode cX11_remove 21 = .ok (.iconst 1, 1) := by decide +kernel
theorem dX11_remove_22 : decode cX11_remove 22 = .ok (.bastore, 1) := by decide +kernel
theorem dX11_remove_23 : decode cX11_remove 23 = .ok (.aload_n 0, 1) := by decide +kernel
theorem dX11_remove_24 : decode cX11_remove 24 = .ok (.getfield 10, 3) := by decide +kernel
theorem dX11_remove_27 : decode cX11_remove 27 = .ok (.iload_n 1, 1) := by decide +kernel
theorem dX11_remove_28 : decode cX11_remove 28 = .ok (.invokevirtual 98, 3) := by decide +kernel
theorem dX11_remove_31 : decode cX11_remove 31 = .ok (.iload_n 2, 1) := by decide +kernel
theorem dX11_remove_32 : decode cX11_remove 32 = .ok (.if_icmp .eq 7, 3) := by decide +kernel
theorem dX11_remove_35 : decode cX11_remove 35 = .ok (.iconst 1, 1) := by decide +kernel
theorem dX11_remove_36 : decode cX11_remove 36 = .ok (.goto 4, 3) := by decide +kernel
theorem dX11_remove_39 : decode cX11_remove 39 = .ok (.iconst 0, 1) := by decide +kernel
theorem dX11_remove_40 : decode cX11_remove 40 = .ok (.ireturn, 1) := by decide +kernel
set_option maxRecDepth 20000 in
theorem ggX11_merge_X11_with : GoodIn wsX11_merge wsX11_with := goodIn_r _ [14, 1, 7, 8, 9, 10] (by decide +kernel) (by decide +kernel)
set_option maxRecDepth 20000 in
theorem gX11_merge_X11_with : GoodIn wsX11_merge (va_wsS RX11 85 yX11_with wsX11_with) := goodIn_app (goodIn_of _ (by decide +kernel)) ggX11_merge_X11_with
theorem dX11_merge_0 : decode cX11_merge 0 = .ok (.iconst 1, 1) := by decide +kernel
theorem dX11_merge_1 : decode cX11_merge 1 = .ok (.newarray .int, 2) := by decide +kernel
theorem dX11_merge_3 : decode cX11_merge 3 = .ok (.dup, 1) := by decide +kernel
theorem dX11_merge_4 : decode cX11_merge 4 = .ok (.iconst 0, 1) := by decide +kernel
theorem dX11_merge_5 : decode cX11_merge 5 = .ok (.iload_n 2, 1) := by decide +kernel
theorem dX11_merge_6 : decode cX11_merge 6 = .ok (.iastore, 1) := by decide +kernel
theorem dX11_merge_7 : decode cX11_merge 7 = .ok (.astore_n 3, 1) := by decide +kernel
theorem dX11_merge_8 : decode cX11_merge 8 = .ok (.iconst 0, 1) := by decide +kernel
theorem dX11_merge_9 : decode cX11_merge 9 = .ok (.istore 4, 2) := by decide +kernel
theorem dX11_merge_11 : decode cX11_merge 11 = .ok (.iload 4, 2) := by decide +kernel
theorem dX11_merge_13 : decode cX11_merge 13 = .ok (.aload_n 0, 1) := by decide +kernel
theorem dX11_merge_14 : decode cX11_merge 14 = .ok (.getfield 75, 3) := by decide +kernel
theorem dX11_merge_17 : decode cX11_merge 17 = .ok (.if_icmp .ge 123, 3) := by decide +kernel
theorem dX11_merge_20 : decode cX11_merge 20 = .ok (.iconst 0, 1) := by decide +kernel
theorem dX11_merge_21 : decode cX11_merge 21 = .ok (.istore 5, 2) := by decide +kernel
theorem dX11_merge_23 : decode cX11_merge 23 = .ok (.iload_n 1, 1) := by decide +kernel
theorem dX11_merge_24 : decode cX11_merge 24 = .ok (.istore 6, 2) := by decide +kernel
theorem dX11_merge_26 : decode cX11_merge 26 = .ok (.iload 6, 2) := by decide +kernel
theorem dX11_merge_28 : decode cX11_merge 28 = .ok (.aload_n 0, 1) := by decide +kernel
theorem dX11_merge_29 : decode cX11_merge 29 = .ok (.getfield 45, 3) := by decide +kernel
theorem dX11_merge_32 : decode cX11_merge 32 = .ok (.arraylength, 1) := by decide +kernel
theorem dX11_merge_33 : decode cX11_merge 33 = .ok (.if_icmp .ge 56, 3) := by decide +kernel
theorem dX11_merge_36 : decode cX11_merge 36 = .ok (.iconst 1, 1) := by decide +kernel
theorem dX11_merge_37 : decode cX11_merge 37 = .ok (.istore 7, 2) := by decide +kernel
theorem dX11_merge_39 : decode cX11_merge 39 = .ok (.iload 7, 2) := by decide +kernel
theorem dX11_merge_41 : decode cX11_merge 41 = .ok (.aload_n 0, 1) := by decide +kernel
theorem dX11_merge_42 : decode cX11_merge 42 = .ok (.getfield 45, 3) := by decide +kernel
theorem dX11_merge_45 : decode cX11_merge 45 = .ok (.iload 6, 2) := by decide +kernel
theorem dX11_merge_47 : decode cX11_merge 47 = .ok (.aaload, 1) := by decide +kernel
theorem dX11_merge_48 : decode cX11_merge 48 = .ok (.arraylength, 1) := by decide +kernel
theorem dX11_merge_49 : decode cX11_merge 49 = .ok (.if_icmp .ge 34, 3) := by decide +kernel
theorem dX11_merge_52 : decode cX11_merge 52 = .ok (.iload 5, 2) := by decide +kernel
theorem dX11_merge_54 : decode cX11_merge 54 = .ok (.aload_n 0, 1) := by decide +kernel
theorem dX11_merge_55 : decode cX11_merge 55 = .ok (.getfield 45, 3) := by decide +kernel
theorem dX11_merge_58 : decode cX11_merge 58 = .ok (.iload 6, 2) := by decide +kernel
theorem dX11_merge_60 : decode cX11_merge 60 = .ok (.aaload, 1) := by decide +kernel
theorem dX11_merge_61 : decode cX11_merge 61 = .ok (.iload 7, 2) := by decide +kernel
theorem dX11_merge_63 : decode cX11_merge 63 = .ok (.iaload, 1) := by decide +kernel
theorem dX11_merge_64 : decode cX11_merge 64 = .ok (.iload 4, 2) := by decide +kernel
theorem dX11_merge_66 : decode cX11_merge 66 = .ok (.if_icmp .ne 7, 3) := by decide +kernel
theorem dX11_merge_69 : decode cX11_merge 69 = .ok (.iconst 1, 1) := by decide +kernel
theorem dX11_merge_70 : decode cX11_merge 70 = .ok (.goto 4, 3) := by decide +kernel
theorem dX11_merge_73 : decode cX11_merge 73 = .ok (.iconst 0, 1) := by decide +kernel
theorem dX11_merge_74 : decode cX11_merge 74 = .ok (.ior, 1) := by decide +kernel
theorem dX11_merge_75 : decode cX11_merge 75 = .ok (.istore 5, 2) := by decide +kernel
theorem dX11_merge_77 : decode cX11_merge 77 = .ok (.iinc 7 1, 3) := by decide +kernel
theorem dX11_merge_80 : decode cX11_merge 80 = .ok (.goto (-41), 3) := by decide +kernel
theorem dX11_merge_83 : decode cX11_merge 83 = .ok (.iinc 6 1, 3) := by decide +kernel
theorem dX11_merge_86 : decode cX11_merge 86 = .ok (.goto (-60), 3) := by decide +kernel
theorem dX11_merge_89 : decode cX11_merge 89 = .ok (.iload 5, 2) := by decide +kernel
theorem dX11_merge_91 : decode cX11_merge 91 = .ok (.ifCond .eq 21, 3) := by decide +kernel
theorem dX11_merge_94 : decode cX11_merge 94 = .ok (.aload_n 0, 1) := by decide +kernel
theorem dX11_merge_95 : decode cX11_merge 95 = .ok (.getfield 28, 3) := by decide +kernel
theorem dX11_merge_98 : decode cX11_merge 98 = .ok (.iload 4, 2) := by decide +kernel
theorem dX11_merge_100 : decode cX11_merge 100 = .ok (.baload, 1) := by decide +kernel
theorem dX11_merge_101 : decode cX11_merge 101 = .ok (.ifCond .eq 11, 3) := by decide +kernel
theorem dX11_merge_104 : decode cX11_merge 104 = .ok (.aload_n 0, 1) := by decide +kernel
theorem dX11_merge_105 : decode cX11_merge 105 = .ok (.getfield 32, 3) := by decide +kernel
theorem dX11_merge_108 : decode cX11_merge 108 = .ok (.iload 4, 2) := by decide +kernel
theorem dX11_merge_110 : decode cX11_merge 110 = .ok (.iconst 2, 1) := by decide +kernel
theorem dX11_merge_111 : decode cX11_merge 111 = .ok (.iastore, 1) := by decide +kernel
theorem dX11_merge_112 : decode cX11_merge 112 = .ok (.iload 5, 2) := by decide +kernel
theorem dX11_merge_114 : decode cX11_merge 114 = .ok (.ifCond .eq 20, 3) := by decide +kernel
theorem dX11_merge_117 : decode cX11_merge 117 = .ok (.aload_n 0, 1) := by decide +kernel
theorem dX11_merge_118 : decode cX11_merge 118 = .ok (.getfield 28, 3) := by decide +kernel
theorem dX11_merge_121 : decode cX11_merge 121 = .ok (.iload 4, 2) := by decide +kernel
theorem dX11_merge_123 : decode cX11_merge 123 = .ok (.baload, 1) := by decide +kernel
theorem dX11_merge_124 : decode cX11_merge 124 = .ok (.ifCond .ne 10, 3) := by decide +kernel
theorem dX11_merge_127 : decode cX11_merge 127 = .ok (.aload_n 3, 1) := by decide +kernel
theorem dX11_merge_128 : decode cX11_merge 128 = .ok (.iload 4, 2) := by decide +kernel
theorem dX11_merge_130 : decode cX11_merge 130 = .ok (.invokestatic 85, 3) := by decide +kernel
theorem dX11_merge_133 : decode cX11_merge 133 = .ok (.astore_n 3, 1) := by decide +kernel
theorem dX11_merge_134 : decode cX11_merge 134 = .ok (.iinc 4 1, 3) := by decide +kernel
theorem dX11_merge_137 : decode cX11_merge 137 = .ok (.goto (-126), 3) := by decide +kernel
theorem dX11_merge_140 : decode cX11_merge 140 = .ok (.aload_n 3, 1) := by decide +kernel
theorem dX11_merge_141 : decode cX11_merge 141 = .ok (.arraylength, 1) := by decide +kernel
theorem dX11_merge_142 : decode cX11_merge 142 = .ok (.iconst 1, 1) := by decide +kernel
theorem dX11_merge_143 : decode cX11_merge 143 = .ok (.if_icmp .ne 7, 3) := by decide +kernel
theorem dX11_merge_146 : decode cX11_merge 146 = .ok (.iload_n 1, 1) := by decide +kernel
theorem dX11_merge_147 : decode cX11_merge 147 = .ok (.goto 6, 3) := by decide +kernel
theorem dX11_merge_150 : decode cX11_merge 150 = .ok (.iload_n 1, 1) := by decide +kernel
theorem dX11_merge_151 : decode cX11_merge 151 = .ok (.iconst 1, 1) := by decide +kernel
theorem dX11_merge_152 : decode cX11_merge 152 = .ok (.iadd, 1) := by decide +kernel
theorem dX11_merge_153 : decode cX11_merge 153 = .ok (.anewarray 44, 3) := by decide +kernel
theorem dX11_merge_156 : decode cX11_merge 156 = .ok (.astore 4, 2) := by decide +kernel
theorem dX11_merge_158 : decode cX11_merge 158 = .ok (.aload_n 0, 1) := by decide +kernel
theorem dX11_merge_159 : decode cX11_merge 159 = .ok (.getfield 45, 3) := by decide +kernel
theorem dX11_merge_162 : decode cX11_merge 162 = .ok (.iconst 0, 1) := by decide +kernel
theorem dX11_merge_163 : decode cX11_merge 163 = .ok (.aload 4, 2) := by decide +kernel
theorem dX11_merge_165 : decode cX11_merge 165 = .ok (.iconst 0, 1) := by decide +kernel
theorem dX11_merge_166 : decode cX11_merge 166 = .ok (.iload_n 1, 1) := by decide +kernel
theorem dX11_merge_167 : decode cX11_merge 167 = .ok (.invokestatic 69, 3) := by decide +kernel
theorem dX11_merge_170 : decode cX11_merge 170 = .ok (.aload_n 3, 1) := by decide +kernel
theorem dX11_merge_171 : decode cX11_merge 171 = .ok (.arraylength, 1) := by decide +kernel
theorem dX11_merge_172 : decode cX11_merge 172 = .ok (.iconst 1, 1) := by decide +kernel
theorem dX11_merge_173 : decode cX11_merge 173 = .ok (.if_icmp .le 8, 3) := by decide +kernel
theorem dX11_merge_176 : decode cX11_merge 176 = .ok (.aload 4, 2) := by decide +kernel
theorem dX11_merge_178 : decode cX11_merge 178 = .ok (.iload_n 1, 1) := by decide +kernel
theorem dX11_merge_179 : decode cX11_merge 179 = .ok (.aload_n 3, 1) := by decide +kernel
theorem dX11_merge_180 : decode cX11_merge 180 = .ok (.aastore, 1) := by decide +kernel
theorem dX11_merge_181 : decode cX11_merge 181 = .ok (.aload_n 0, 1) := by decide +kernel
theorem dX11_merge_182 : decode cX11_merge 182 = .ok (.aload 4, 2) := by decide +kernel
theorem dX11_merge_184 : decode cX11_merge 184 = .ok (.putfield 45, 3) := by decide +kernel
theorem dX11_merge_187 : decode cX11_merge 187 = .ok (.return_, 1) := by decide +kernel
set_option maxRecDepth 20000 in
theorem ggX11_flush_X11_with : GoodIn wsX11_flush wsX11_with := goodIn_r _ [14, 1, 6, 7, 8, 9] (by decide +kernel) (by decide +kernel)
set_option maxRecDepth 20000 in
theorem gX11_flush_X11_with : GoodIn wsX11_flush (va_wsS RX11 85 yX11_with wsX11_with) := goodIn_app (goodIn_of _ (by decide +kernel)) ggX11_flush_X11_with
set_option maxRecDepth 20000 in
theorem ggX11_flush_X11_merge : GoodIn wsX11_flush wsX11_merge := goodIn_r _ [18, 1, 2, 4, 19, 3, 5, 6, 7, 8, 9, 11, 12, 13, 14, 113, 114, 115, 116, 117, 118, 119, 120, 121, 122, 123, 124, 125, 126, 127] (by decide +kernel) (by decide +kernel)
set_option maxRecDepth 20000 in
theorem gX11_flush_X11_merge : GoodIn wsX11_flush (wsV RX11 102 RX11 yX11_merge wsX11_merge) := goodIn_app (goodIn_of _ (by decide +kernel)) ggX11_flush_X11_merge
set_option maxRecDepth 20000 in
theorem ggX11_flush_X10_flush : GoodIn wsX11_flush wsX10_flush := goodIn_r _ [24, 25, 26, 27, 28, 29, 30, 31, 32, 33, 34, 35, 36, 37, 38, 39, 40, 41, 42, 43, 44, 45, 46, 47, 48, 49, 50, 51, 52, 53, 54, 55, 56, 57, 58, 59, 60, 61, 62, 63, 64, 65, 66, 67, 68, 69, 70, 71, 72, 73, 74, 75, 76, 77, 78, 79, 80, 81, 82, 83, 84, 85, 86, 87, 88, 89, 90, 91, 92, 93, 94, 95, 96, 97, 98, 99, 100, 101, 102, 103, 104, 105, 106, 107, 108, 109, 110, 111, 112, 128, 129, 130, 131, 132, 133, 134, 135, 136, 137, 138, 139, 140, 141, 142, 143, 144, 145, 146, 147, 148, 149, 150, 151, 152, 153, 154, 155, 156] (by first | exact rfl | decide +kernel) (by decide +kernel)
set_option maxRecDepth 20000 in
theorem gX11_flush_X10_flush : GoodIn wsX11_flush (wsV RX11 106 RX10 yX10_flush wsX10_flush) := goodIn_app (goodIn_of _ (by decide +kernel)) ggX11_flush_X10_flush
theorem dX11_flush_0 : decode cX11_flush 0 = .ok (.iconst 1, 1) := by decide +kernel
theorem dX11_flush_1 : decode cX11_flush 1 = .ok (.newarray .int, 2) := by decide +kernel
theorem dX11_flush_3 : decode cX11_flush 3 = .ok (.dup, 1) := by decide +kernel
theorem dX11_flush_4 : decode cX11_flush 4 = .ok (.iconst 0, 1) := by decide +kernel
theorem dX11_flush_5 : decode cX11_flush 5 = .ok (.iconst 0, 1) := by decide +kernel
theorem dX11_flush_6 : decode cX11_flush 6 = .ok (.iastore, 1) := by decide +kernel
theorem dX11_flush_7 : decode cX11_flush 7 = .ok (.astore_n 1, 1) := by decide +kernel
theorem dX11_flush_8 : decode cX11_flush 8 = .ok (.iconst 0, 1) := by decide +kernel
theorem dX11_flush_9 : decode cX11_flush 9 = .ok (.istore_n 2, 1) := by decide +kernel
theorem dX11_flush_10 : decode cX11_flush 10 = .ok (.iload_n 2, 1) := by decide +kernel
theorem dX11_flush_11 : decode cX11_flush 11 = .ok (.aload_n 0, 1) := by decide +kernel
theorem dX11_flush_12 : decode cX11_flush 12 = .ok (.getfield 75, 3) := by decide +kernel
theorem dX11_flush_15 : decode cX11_flush 15 = .ok (.if_icmp .ge 34, 3) := by decide +kernel
theorem dX11_flush_18 : decode cX11_flush 18 = .ok (.aload_n 0, 1) := by decide +kernel
theorem dX11_flush_19 : decode cX11_flush 19 = .ok (.getfield 32, 3) := by decide +kernel
theorem dX11_flush_22 : decode cX11_flush 22 = .ok (.iload_n 2, 1) := by decide +kernel
theorem dX11_flush_23 : decode cX11_flush 23 = .ok (.iaload, 1) := by decide +kernel
theorem dX11_flush_24 : decode cX11_flush 24 = .ok (.ifCond .eq 6, 3) := by decide +kernel
theorem dX11_flush_27 : decode cX11_flush 27 = .ok (.goto 16, 3) := by decide +kernel
theorem dX11_flush_30 : decode cX11_flush 30 = .ok (.aload_n 1, 1) := by decide +kernel
theorem dX11_flush_31 : decode cX11_flush 31 = .ok (.iload_n 2, 1) := by decide +kernel
theorem dX11_flush_32 : decode cX11_flush 32 = .ok (.invokestatic 85, 3) := by decide +kernel
theorem dX11_flush_35 : decode cX11_flush 35 = .ok (.astore_n 1, 1) := by decide +kernel
theorem dX11_flush_36 : decode cX11_flush 36 = .ok (.aload_n 0, 1) := by decide +kernel
theorem dX11_flush_37 : decode cX11_flush 37 = .ok (.getfield 32, 3) := by decide +kernel
theorem dX11_flush_40 : decode cX11_flush 40 = .ok (.iload_n 2, 1) := by decide +kernel
theorem dX11_flush_41 : decode cX11_flush 41 = .ok (.iconst 1, 1) := by decide +kernel
theorem dX11_flush_42 : decode cX11_flush 42 = .ok (.iastore, 1) := by decide +kernel
theorem dX11_flush_43 : decode cX11_flush 43 = .ok (.iinc 2 1, 3) := by decide +kernel
theorem dX11_flush_46 : decode cX11_flush 46 = .ok (.goto (-36), 3) := by decide +kernel
theorem dX11_flush_49 : decode cX11_flush 49 = .ok (.aload_n 1, 1) := by decide +kernel
theorem dX11_flush_50 : decode cX11_flush 50 = .ok (.arraylength, 1) := by decide +kernel
theorem dX11_flush_51 : decode cX11_flush 51 = .ok (.iconst 1, 1) := by decide +kernel
theorem dX11_flush_52 : decode cX11_flush 52 = .ok (.if_icmp .le 42, 3) := by decide +kernel
theorem dX11_flush_55 : decode cX11_flush 55 = .ok (.aload_n 0, 1) := by decide +kernel
theorem dX11_flush_56 : decode cX11_flush 56 = .ok (.getfield 45, 3) := by decide +kernel
theorem dX11_flush_59 : decode cX11_flush 59 = .ok (.arraylength, 1) := by decide +kernel
theorem dX11_flush_60 : decode cX11_flush 60 = .ok (.iconst 1, 1) := by decide +kernel
theorem dX11_flush_61 : decode cX11_flush 61 = .ok (.iadd, 1) := by decide +kernel
theorem dX11_flush_62 : decode cX11_flush 62 = .ok (.anewarray 44, 3) := by decide +kernel
theorem dX11_flush_65 : decode cX11_flush 65 = .ok (.astore_n 2, 1) := by decide +kernel
theorem dX11_flush_66 : decode cX11_flush 66 = .ok (.aload_n 0, 1) := by decide +kernel
theorem dX11_flush_67 : decode cX11_flush 67 = .ok (.getfield 45, 3) := by decide +kernel
theorem dX11_flush_70 : decode cX11_flush 70 = .ok (.iconst 0, 1) := by decide +kernel
theorem dX11_flush_71 : decode cX11_flush 71 = .ok (.aload_n 2, 1) := by decide +kernel
theorem dX11_flush_72 : decode cX11_flush 72 = .ok (.iconst 0, 1) := by decide +kernel
theorem dX11_flush_73 : decode cX11_flush 73 = .ok (.aload_n 0, 1) := by decide +kernel
theorem dX11_flush_74 : decode cX11_flush 74 = .ok (.getfield 45, 3) := by decide +kernel
theorem dX11_flush_77 : decode cX11_flush 77 = .ok (.arraylength, 1) := by decide +kernel
theorem dX11_flush_78 : decode cX11_flush 78 = .ok (.invokestatic 69, 3) := by decide +kernel
theorem dX11_flush_81 : decode cX11_flush 81 = .ok (.aload_n 2, 1) := by decide +kernel
theorem dX11_flush_82 : decode cX11_flush 82 = .ok (.aload_n 0, 1) := by decide +kernel
theorem dX11_flush_83 : decode cX11_flush 83 = .ok (.getfield 45, 3) := by decide +kernel
theorem dX11_flush_86 : decode cX11_flush 86 = .ok (.arraylength, 1) := by decide +kernel
theorem dX11_flush_87 : decode cX11_flush 87 = .ok (.aload_n 1, 1) := by decide +kernel
theorem dX11_flush_88 : decode cX11_flush 88 = .ok (.aastore, 1) := by decide +kernel
theorem dX11_flush_89 : decode cX11_flush 89 = .ok (.aload_n 0, 1) := by decide +kernel
theorem dX11_flush_90 : decode cX11_flush 90 = .ok (.aload_n 2, 1) := by decide +kernel
theorem dX11_flush_91 : decode cX11_flush 91 = .ok (.putfield 45, 3) := by decide +kernel
theorem dX11_flush_94 : decode cX11_flush 94 = .ok (.aload_n 0, 1) := by decide +kernel
theorem dX11_flush_95 : decode cX11_flush 95 = .ok (.getfield 45, 3) := by decide +kernel
theorem dX11_flush_98 : decode cX11_flush 98 = .ok (.arraylength, 1) := by decide +kernel
theorem dX11_flush_99 : decode cX11_flush 99 = .ok (.istore_n 2, 1) := by decide +kernel
theorem dX11_flush_100 : decode cX11_flush 100 = .ok (.iload_n 2, 1) := by decide +kernel
theorem dX11_flush_101 : decode cX11_flush 101 = .ok (.iconst 2, 1) := by decide +kernel
theorem dX11_flush_102 : decode cX11_flush 102 = .ok (.if_icmp .le 77, 3) := by decide +kernel
theorem dX11_flush_105 : decode cX11_flush 105 = .ok (.aload_n 0, 1) := by decide +kernel
theorem dX11_flush_106 : decode cX11_flush 106 = .ok (.getfield 45, 3) := by decide +kernel
theorem dX11_flush_109 : decode cX11_flush 109 = .ok (.iload_n 2, 1) := by decide +kernel
theorem dX11_flush_110 : decode cX11_flush 110 = .ok (.iconst 1, 1) := by decide +kernel
theorem dX11_flush_111 : decode cX11_flush 111 = .ok (.isub, 1) := by decide +kernel
theorem dX11_flush_112 : decode cX11_flush 112 = .ok (.aaload, 1) := by decide +kernel
theorem dX11_flush_113 : decode cX11_flush 113 = .ok (.iconst 0, 1) := by decide +kernel
