theorem dX11_flush_114 : decode cX11_flush 114 = .ok (.iaload, 1) := by decide +kernel
theorem dX11_flush_115 : decode cX11_flush 115 = .ok (.aload_n 0, 1) := by decide +kernel
theorem dX11_flush_116 : decode cX11_flush 116 = .ok (.getfield 45, 3) := by decide +kernel
theorem dX11_flush_119 : decode cX11_flush 119 = .ok (.iload_n 2, 1) := by decide +kernel
theorem dX11_flush_120 : decode cX11_flush 120 = .ok (.iconst 2, 1) := by decide +kernel
theorem dX11_flush_121 : decode cX11_flush 121 = .ok (.isub, 1) := by decide +kernel
theorem dX11_flush_122 : decode cX11_flush 122 = .ok (.aaload, 1) := by decide +kernel
theorem dX11_flush_123 : decode cX11_flush 123 = .ok (.iconst 0, 1) := by decide +kernel
theorem dX11_flush_124 : decode cX11_flush 124 = .ok (.iaload, 1) := by decide +kernel
theorem dX11_flush_125 : decode cX11_flush 125 = .ok (.if_icmp .ne 54, 3) := by decide +kernel
theorem dX11_flush_128 : decode cX11_flush 128 = .ok (.aload_n 0, 1) := by decide +kernel
theorem dX11_flush_129 : decode cX11_flush 129 = .ok (.getfield 45, 3) := by decide +kernel
theorem dX11_flush_132 : decode cX11_flush 132 = .ok (.iload_n 2, 1) := by decide +kernel
theorem dX11_flush_133 : decode cX11_flush 133 = .ok (.iconst 2, 1) := by decide +kernel
theorem dX11_flush_134 : decode cX11_flush 134 = .ok (.isub, 1) := by decide +kernel
theorem dX11_flush_135 : decode cX11_flush 135 = .ok (.aaload, 1) := by decide +kernel
theorem dX11_flush_136 : decode cX11_flush 136 = .ok (.iconst 0, 1) := by decide +kernel
theorem dX11_flush_137 : decode cX11_flush 137 = .ok (.iaload, 1) := by decide +kernel
theorem dX11_flush_138 : decode cX11_flush 138 = .ok (.aload_n 0, 1) := by decide +kernel
theorem dX11_flush_139 : decode cX11_flush 139 = .ok (.getfield 45, 3) := by decide +kernel
theorem dX11_flush_142 : decode cX11_flush 142 = .ok (.iload_n 2, 1) := by decide +kernel
theorem dX11_flush_143 : decode cX11_flush 143 = .ok (.iconst 3, 1) := by decide +kernel
theorem dX11_flush_144 : decode cX11_flush 144 = .ok (.isub, 1) := by decide +kernel
theorem dX11_flush_145 : decode cX11_flush 145 = .ok (.aaload, 1) := by decide +kernel
theorem dX11_flush_146 : decode cX11_flush 146 = .ok (.iconst 0, 1) := by decide +kernel
theorem dX11_flush_147 : decode cX11_flush 147 = .ok (.iaload, 1) := by decide +kernel
theorem dX11_flush_148 : decode cX11_flush 148 = .ok (.if_icmp .ne 31, 3) := by decide +kernel
theorem dX11_flush_151 : decode cX11_flush 151 = .ok (.aload_n 0, 1) := by decide +kernel
theorem dX11_flush_152 : decode cX11_flush 152 = .ok (.iload_n 2, 1) := by decide +kernel
theorem dX11_flush_153 : decode cX11_flush 153 = .ok (.iconst 3, 1) := by decide +kernel
theorem dX11_flush_154 : decode cX11_flush 154 = .ok (.isub, 1) := by decide +kernel
theorem dX11_flush_155 : decode cX11_flush 155 = .ok (.aload_n 0, 1) := by decide +kernel
theorem dX11_flush_156 : decode cX11_flush 156 = .ok (.getfield 45, 3) := by decide +kernel
theorem dX11_flush_159 : decode cX11_flush 159 = .ok (.iload_n 2, 1) := by decide +kernel
theorem dX11_flush_160 : decode cX11_flush 160 = .ok (.iconst 1, 1) := by decide +kernel
theorem dX11_flush_161 : decode cX11_flush 161 = .ok (.isub, 1) := by decide +kernel
theorem dX11_flush_162 : decode cX11_flush 162 = .ok (.aaload, 1) := by decide +kernel
theorem dX11_flush_163 : decode cX11_flush 163 = .ok (.iconst 0, 1) := by decide +kernel
theorem dX11_flush_164 : decode cX11_flush 164 = .ok (.iaload, 1) := by decide +kernel
theorem dX11_flush_165 : decode cX11_flush 165 = .ok (.iconst 1, 1) := by decide +kernel
theorem dX11_flush_166 : decode cX11_flush 166 = .ok (.iadd, 1) := by decide +kernel
theorem dX11_flush_167 : decode cX11_flush 167 = .ok (.invokevirtual 102, 3) := by decide +kernel
theorem dX11_flush_170 : decode cX11_flush 170 = .ok (.aload_n 0, 1) := by decide +kernel
theorem dX11_flush_171 : decode cX11_flush 171 = .ok (.getfield 45, 3) := by decide +kernel
theorem dX11_flush_174 : decode cX11_flush 174 = .ok (.arraylength, 1) := by decide +kernel
theorem dX11_flush_175 : decode cX11_flush 175 = .ok (.istore_n 2, 1) := by decide +kernel
theorem dX11_flush_176 : decode cX11_flush 176 = .ok (.goto (-76), 3) := by decide +kernel
theorem dX11_flush_179 : decode cX11_flush 179 = .ok (.aload_n 0, 1) := by decide +kernel
theorem dX11_flush_180 : decode cX11_flush 180 = .ok (.getfield 10, 3) := by decide +kernel
theorem dX11_flush_183 : decode cX11_flush 183 = .ok (.invokevirtual 106, 3) := by decide +kernel
theorem dX11_flush_186 : decode cX11_flush 186 = .ok (.aload_n 1, 1) := by decide +kernel
theorem dX11_flush_187 : decode cX11_flush 187 = .ok (.arraylength, 1) := by decide +kernel
theorem dX11_flush_188 : decode cX11_flush 188 = .ok (.iconst 1, 1) := by decide +kernel
theorem dX11_flush_189 : decode cX11_flush 189 = .ok (.isub, 1) := by decide +kernel
theorem dX11_flush_190 : decode cX11_flush 190 = .ok (.if_icmp .ne 7, 3) := by decide +kernel
theorem dX11_flush_193 : decode cX11_flush 193 = .ok (.iconst 1, 1) := by decide +kernel
theorem dX11_flush_194 : decode cX11_flush 194 = .ok (.goto 4, 3) := by decide +kernel
theorem dX11_flush_197 : decode cX11_flush 197 = .ok (.iconst 0, 1) := by decide +kernel
theorem dX11_flush_198 : decode cX11_flush 198 = .ok (.ireturn, 1) := by decide +kernel
set_option maxRecDepth 20000 in
theorem ggX11_compact_X11_merge : GoodIn wsX11_compact wsX11_merge := goodIn_r _ [11, 12, 13, 1, 14, 15, 16, 17, 18, 19, 20, 21, 22, 10, 23, 102, 103, 104, 105, 106, 107, 108, 109, 110, 111, 112, 113, 114, 115, 116] (by decide +kernel) (by decide +kernel)
set_option maxRecDepth 20000 in
theorem gX11_compact_X11_merge : GoodIn wsX11_compact (wsV RX11 102 RX11 yX11_merge wsX11_merge) := goodIn_app (goodIn_of _ (by decide +kernel)) ggX11_compact_X11_merge
set_option maxRecDepth 20000 in
theorem ggX11_compact_X10_compact : GoodIn wsX11_compact wsX10_compact := goodIn_r _ [28, 29, 30, 31, 32, 33, 34, 35, 36, 3, 4, 5, 37, 38, 39, 40, 41, 42, 43, 44, 45, 46, 47, 48, 49, 50, 51, 52, 53, 54, 55, 56, 57, 58, 59, 60, 61, 62, 63, 64, 65, 66, 67, 68, 69, 70, 71, 72, 73, 74, 75, 76, 77, 78, 79, 80, 81, 82, 83, 84, 85, 86, 87, 88, 89, 90, 91, 92, 93, 94, 95, 96, 97, 98, 99, 100, 101, 117, 118, 119, 120, 121, 122, 123, 124, 125, 126, 127, 128, 129, 130, 131, 132, 133, 134, 135, 136, 137, 138, 139, 140, 141, 142, 143, 144, 145] (by first | exact rfl | decide +kernel) (by decide +kernel)
set_option maxRecDepth 20000 in
theorem gX11_compact_X10_compact : GoodIn wsX11_compact (wsV RX11 114 RX10 yX10_compact wsX10_compact) := goodIn_app (goodIn_of _ (by decide +kernel)) ggX11_compact_X10_compact
theorem dX11_compact_0 : decode cX11_compact 0 = .ok (.iconst 0, 1) := by decide +kernel
theorem dX11_compact_1 : decode cX11_compact 1 = .ok (.istore_n 1, 1) := by decide +kernel
theorem dX11_compact_2 : decode cX11_compact 2 = .ok (.iconst 0, 1) := by decide +kernel
theorem dX11_compact_3 : decode cX11_compact 3 = .ok (.istore_n 2, 1) := by decide +kernel
theorem dX11_compact_4 : decode cX11_compact 4 = .ok (.aload_n 0, 1) := by decide +kernel
theorem dX11_compact_5 : decode cX11_compact 5 = .ok (.getfield 45, 3) := by decide +kernel
theorem dX11_compact_8 : decode cX11_compact 8 = .ok (.astore_n 3, 1) := by decide +kernel
theorem dX11_compact_9 : decode cX11_compact 9 = .ok (.aload_n 3, 1) := by decide +kernel
theorem dX11_compact_10 : decode cX11_compact 10 = .ok (.arraylength, 1) := by decide +kernel
theorem dX11_compact_11 : decode cX11_compact 11 = .ok (.istore 4, 2) := by decide +kernel
theorem dX11_compact_13 : decode cX11_compact 13 = .ok (.iconst 0, 1) := by decide +kernel
theorem dX11_compact_14 : decode cX11_compact 14 = .ok (.istore 5, 2) := by decide +kernel
theorem dX11_compact_16 : decode cX11_compact 16 = .ok (.iload 5, 2) := by decide +kernel
theorem dX11_compact_18 : decode cX11_compact 18 = .ok (.iload 4, 2) := by decide +kernel
theorem dX11_compact_20 : decode cX11_compact 20 = .ok (.if_icmp .ge 32, 3) := by decide +kernel
theorem dX11_compact_23 : decode cX11_compact 23 = .ok (.aload_n 3, 1) := by decide +kernel
theorem dX11_compact_24 : decode cX11_compact 24 = .ok (.iload 5, 2) := by decide +kernel
theorem dX11_compact_26 : decode cX11_compact 26 = .ok (.aaload, 1) := by decide +kernel
theorem dX11_compact_27 : decode cX11_compact 27 = .ok (.astore 6, 2) := by decide +kernel
theorem dX11_compact_29 : decode cX11_compact 29 = .ok (.iload_n 1, 1) := by decide +kernel
theorem dX11_compact_30 : decode cX11_compact 30 = .ok (.aload 6, 2) := by decide +kernel
theorem dX11_compact_32 : decode cX11_compact 32 = .ok (.iconst 0, 1) := by decide +kernel
theorem dX11_compact_33 : decode cX11_compact 33 = .ok (.iaload, 1) := by decide +kernel
theorem dX11_compact_34 : decode cX11_compact 34 = .ok (.invokestatic 109, 3) := by decide +kernel
theorem dX11_compact_37 : decode cX11_compact 37 = .ok (.istore_n 1, 1) := by decide +kernel
theorem dX11_compact_38 : decode cX11_compact 38 = .ok (.iload_n 2, 1) := by decide +kernel
theorem dX11_compact_39 : decode cX11_compact 39 = .ok (.aload 6, 2) := by decide +kernel
theorem dX11_compact_41 : decode cX11_compact 41 = .ok (.arraylength, 1) := by decide +kernel
theorem dX11_compact_42 : decode cX11_compact 42 = .ok (.iconst 1, 1) := by decide +kernel
theorem dX11_compact_43 : decode cX11_compact 43 = .ok (.isub, 1) := by decide +kernel
theorem dX11_compact_44 : decode cX11_compact 44 = .ok (.iadd, 1) := by decide +kernel
theorem dX11_compact_45 : decode cX11_compact 45 = .ok (.istore_n 2, 1) := by decide +kernel
theorem dX11_compact_46 : decode cX11_compact 46 = .ok (.iinc 5 1, 3) := by decide +kernel
theorem dX11_compact_49 : decode cX11_compact 49 = .ok (.goto (-33), 3) := by decide +kernel
theorem dX11_compact_52 : decode cX11_compact 52 = .ok (.aload_n 0, 1) := by decide +kernel
theorem dX11_compact_53 : decode cX11_compact 53 = .ok (.getfield 45, 3) := by decide +kernel
theorem dX11_compact_56 : decode cX11_compact 56 = .ok (.arraylength, 1) := by decide +kernel
theorem dX11_compact_57 : decode cX11_compact 57 = .ok (.ifCond .le 9, 3) := by decide +kernel
theorem dX11_compact_60 : decode cX11_compact 60 = .ok (.aload_n 0, 1) := by decide +kernel
theorem dX11_compact_61 : decode cX11_compact 61 = .ok (.iconst 0, 1) := by decide +kernel
theorem dX11_compact_62 : decode cX11_compact 62 = .ok (.iload_n 1, 1) := by decide +kernel
theorem dX11_compact_63 : decode cX11_compact 63 = .ok (.invokevirtual 102, 3) := by decide +kernel
theorem dX11_compact_66 : decode cX11_compact 66 = .ok (.aload_n 0, 1) := by decide +kernel
theorem dX11_compact_67 : decode cX11_compact 67 = .ok (.getfield 45, 3) := by decide +kernel
theorem dX11_compact_70 : decode cX11_compact 70 = .ok (.astore_n 3, 1) := by decide +kernel
theorem dX11_compact_71 : decode cX11_compact 71 = .ok (.aload_n 3, 1) := by decide +kernel
theorem dX11_compact_72 : decode cX11_compact 72 = .ok (.arraylength, 1) := by decide +kernel
theorem dX11_compact_73 : decode cX11_compact 73 = .ok (.istore 4, 2) := by decide +kernel
theorem dX11_compact_75 : decode cX11_compact 75 = .ok (.iconst 0, 1) := by decide +kernel
theorem dX11_compact_76 : decode cX11_compact 76 = .ok (.istore 5, 2) := by decide +kernel
theorem dX11_compact_78 : decode cX11_compact 78 = .ok (.iload 5, 2) := by decide +kernel
theorem dX11_compact_80 : decode cX11_compact 80 = .ok (.iload 4, 2) := by decide +kernel
theorem dX11_compact_82 : decode cX11_compact 82 = .ok (.if_icmp .ge 23, 3) := by decide +kernel
theorem dX11_compact_85 : decode cX11_compact 85 = .ok (.aload_n 3, 1) := by decide +kernel
theorem dX11_compact_86 : decode cX11_compact 86 = .ok (.iload 5, 2) := by decide +kernel
theorem dX11_compact_88 : decode cX11_compact 88 = .ok (.aaload, 1) := by decide +kernel
theorem dX11_compact_89 : decode cX11_compact 89 = .ok (.astore 6, 2) := by decide +kernel
theorem dX11_compact_91 : decode cX11_compact 91 = .ok (.iload_n 2, 1) := by decide +kernel
theorem dX11_compact_92 : decode cX11_compact 92 = .ok (.aload 6, 2) := by decide +kernel
theorem dX11_compact_94 : decode cX11_compact 94 = .ok (.arraylength, 1) := by decide +kernel
theorem dX11_compact_95 : decode cX11_compact 95 = .ok (.iconst 1, 1) := by decide +kernel
theorem dX11_compact_96 : decode cX11_compact 96 = .ok (.isub, 1) := by decide +kernel
theorem dX11_compact_97 : decode cX11_compact 97 = .ok (.isub, 1) := by decide +kernel
theorem dX11_compact_98 : decode cX11_compact 98 = .ok (.istore_n 2, 1) := by decide +kernel
theorem dX11_compact_99 : decode cX11_compact 99 = .ok (.iinc 5 1, 3) := by decide +kernel
theorem dX11_compact_102 : decode cX11_compact 102 = .ok (.goto (-24), 3) := by decide +kernel
theorem dX11_compact_105 : decode cX11_compact 105 = .ok (.aload_n 0, 1) := by decide +kernel
theorem dX11_compact_106 : decode cX11_compact 106 = .ok (.getfield 10, 3) := by decide +kernel
theorem dX11_compact_109 : decode cX11_compact 109 = .ok (.invokevirtual 114, 3) := by decide +kernel
theorem dX11_compact_112 : decode cX11_compact 112 = .ok (.iload_n 2, 1) := by decide +kernel
theorem dX11_compact_113 : decode cX11_compact 113 = .ok (.if_icmp .ne 7, 3) := by decide +kernel
theorem dX11_compact_116 : decode cX11_compact 116 = .ok (.iconst 1, 1) := by decide +kernel
theorem dX11_compact_117 : decode cX11_compact 117 = .ok (.goto 4, 3) := by decide +kernel
theorem dX11_compact_120 : decode cX11_compact 120 = .ok (.iconst 0, 1) := by decide +kernel
theorem dX11_compact_121 : decode cX11_compact 121 = .ok (.ireturn, 1) := by decide +kernel
set_option maxRecDepth 20000 in
theorem ggX11_query_X11_draw : GoodIn wsX11_query wsX11_draw := goodIn_r _ [9, 10, 11, 12, 13, 14, 15, 16, 17, 18, 125, 126, 127, 128, 129, 130, 131, 132, 133, 134, 135, 136, 137, 138, 139] (by decide +kernel) (by decide +kernel)
set_option maxRecDepth 20000 in
theorem gX11_query_X11_draw : GoodIn wsX11_query (wsV RX11 78 RX11 yX11_draw wsX11_draw) := goodIn_app (goodIn_of _ (by decide +kernel)) ggX11_query_X11_draw
set_option maxRecDepth 20000 in
theorem ggX11_query_X10_term : GoodIn wsX11_query wsX10_term := goodIn_ca (goodIn_ca (goodIn_r _ [23, 24, 25, 26, 27, 28, 29, 30, 31, 32, 33, 34, 35, 22, 36, 37, 38, 39, 40, 41, 42, 43, 44, 45, 46, 47, 48, 49, 50, 51, 52, 53, 54, 55, 56, 57, 58, 140, 141, 142, 143, 144, 145, 146, 147, 148, 149, 150, 151, 152, 153, 154, 155, 156, 157, 158, 159, 160, 161, 162, 163, 164, 165, 166, 167] (by decide +kernel) (by decide +kernel)) (goodIn_sub (fun _ h => List.mem_cons_of_mem _ (List.mem_append_left _ (List.mem_append_left _ (List.mem_append_right _ h)))) (by decide +kernel))) (goodIn_sub (fun _ h => List.mem_cons_of_mem _ (List.mem_append_left _ (List.mem_append_right _ h))) (by decide +kernel))
set_option maxRecDepth 20000 in
theorem gX11_query_X10_term : GoodIn wsX11_query (wsV RX11 145 RX10 yX10_term wsX10_term) := goodIn_app (goodIn_of _ (by decide +kernel)) ggX11_query_X10_term
set_option maxRecDepth 20000 in
theorem ggX11_query_X10_and : GoodIn wsX11_query wsX10_and := goodIn_ca (goodIn_ca (goodIn_r _ [62, 63, 64, 65, 22, 66, 67, 68, 26, 27, 28, 29, 30, 31, 69, 70, 71, 72, 73, 43, 74, 75, 76, 77, 78, 45, 46, 40, 41, 42, 44, 47, 48, 49, 50, 51, 52, 53, 54, 55, 56, 57, 58, 140, 141, 142, 143, 144, 145, 146, 147, 148, 149, 150, 151, 152, 153, 154, 155, 156, 157, 158, 159, 160, 161, 162, 163, 164, 165, 166, 167] (by decide +kernel) (by decide +kernel)) (goodIn_sub (fun _ h => List.mem_cons_of_mem _ (List.mem_append_right _ h)) (by decide +kernel))) (goodIn_sub (fun _ h => List.mem_cons_of_mem _ (List.mem_append_left _ (List.mem_append_right _ h))) (by decide +kernel))
set_option maxRecDepth 20000 in
theorem gX11_query_X10_and : GoodIn wsX11_query (wsV RX11 148 RX10 yX10_and wsX10_and) := goodIn_app (goodIn_of _ (by decide +kernel)) ggX11_query_X10_and
set_option maxRecDepth 20000 in
theorem ggX11_query_X10_or : GoodIn wsX11_query wsX10_or := goodIn_ca (goodIn_ca (goodIn_r _ [82, 63, 64, 65, 22, 66, 67, 68, 26, 27, 28, 29, 30, 31, 69, 70, 71, 72, 73, 43, 74, 75, 76, 77, 78, 45, 46, 40, 41, 42, 44, 47, 48, 49, 50, 51, 52, 53, 54, 55, 56, 57, 58, 140, 141, 142, 143, 144, 145, 146, 147, 148, 149, 150, 151, 152, 153, 154, 155, 156, 157, 158, 159, 160, 161, 162, 163, 164, 165, 166, 167] (by decide +kernel) (by decide +kernel)) (goodIn_sub (fun _ h => List.mem_cons_of_mem _ (List.mem_append_right _ h)) (by decide +kernel))) (goodIn_sub (fun _ h => List.mem_cons_of_mem _ (List.mem_append_left _ (List.mem_append_right _ h))) (by decide +kernel))
set_option maxRecDepth 20000 in
theorem gX11_query_X10_or : GoodIn wsX11_query (wsV RX11 151 RX10 yX10_or wsX10_or) := goodIn_app (goodIn_of _ (by decide +kernel)) ggX11_query_X10_or
set_option maxRecDepth 20000 in
theorem ggX11_query_X10_not : GoodIn wsX11_query wsX10_not := goodIn_ca (goodIn_ca (goodIn_r _ [86, 63, 64, 65, 22, 66, 67, 68, 26, 27, 28, 29, 30, 31, 69, 70, 71, 72, 73, 43, 74, 75, 76, 77, 78, 45, 46, 40, 41, 42, 44, 47, 48, 49, 50, 51, 52, 53, 54, 55, 56, 57, 58, 140, 141, 142, 143, 144, 145, 146, 147, 148, 149, 150, 151, 152, 153, 154, 155, 156, 157, 158, 159, 160, 161, 162, 163, 164, 165, 166, 167] (by decide +kernel) (by decide +kernel)) (goodIn_sub (fun _ h => List.mem_cons_of_mem _ (List.mem_append_right _ h)) (by decide +kernel))) (goodIn_sub (fun _ h => List.mem_cons_of_mem _ (List.mem_append_left _ (List.mem_append_right _ h))) (by decide +kernel))
set_option maxRecDepth 20000 in
theorem gX11_query_X10_not : GoodIn wsX11_query (wsV RX11 154 RX10 yX10_not wsX10_not) := goodIn_app (goodIn_of _ (by decide +kernel)) ggX11_query_X10_not
set_option maxRecDepth 20000 in
theorem ggX11_query_X10_near : GoodIn wsX11_query wsX10_near := goodIn_ca (goodIn_ca (goodIn_ca (goodIn_r _ [90, 67, 68, 24, 25, 26, 27, 28, 91, 29, 30, 31, 69, 70, 92, 93, 94, 76, 77, 43, 78, 45, 46, 40, 41, 42, 44, 47, 48, 49, 50, 51, 52, 53, 54, 55, 56, 57, 58, 140, 141, 142, 143, 144, 145, 146, 147, 148, 149, 150, 151, 152, 153, 154, 155, 156, 157, 158, 159, 160, 161, 162, 163, 164, 165, 166, 167] (by decide +kernel) (by decide +kernel)) (goodIn_sub (fun _ h => List.mem_cons_of_mem _ (List.mem_append_right _ h)) (by decide +kernel))) (goodIn_sub (fun _ h => List.mem_cons_of_mem _ (List.mem_append_left _ (List.mem_append_left _ (List.mem_append_right _ h)))) (by decide +kernel))) (goodIn_sub (fun _ h => List.mem_cons_of_mem _ (List.mem_append_left _ (List.mem_append_right _ h))) (by decide +kernel))
set_option maxRecDepth 20000 in
theorem gX11_query_X10_near : GoodIn wsX11_query (wsV RX11 157 RX10 yX10_near wsX10_near) := goodIn_app (goodIn_of _ (by decide +kernel)) ggX11_query_X10_near
set_option maxRecDepth 20000 in
theorem ggX11_query_X10_dated : GoodIn wsX11_query wsX10_dated := goodIn_ca (goodIn_ca (goodIn_r _ [98, 24, 25, 26, 27, 28, 29, 30, 31, 99, 100, 101, 102, 22, 103, 40, 41, 42, 43, 44, 45, 46, 47, 48, 49, 50, 51, 52, 53, 54, 55, 56, 57, 58, 140, 141, 142, 143, 144, 145, 146, 147, 148, 149, 150, 151, 152, 153, 154, 155, 156, 157, 158, 159, 160, 161, 162, 163, 164, 165, 166, 167] (by decide +kernel) (by decide +kernel)) (goodIn_sub (fun _ h => List.mem_cons_of_mem _ (List.mem_append_left _ (List.mem_append_left _ (List.mem_append_right _ h)))) (by decide +kernel))) (goodIn_sub (fun _ h => List.mem_cons_of_mem _ (List.mem_append_left _ (List.mem_append_right _ h))) (by decide +kernel))
set_option maxRecDepth 20000 in
theorem gX11_query_X10_dated : GoodIn wsX11_query (wsV RX11 161 RX10 yX10_dated wsX10_dated) := goodIn_app (goodIn_of _ (by decide +kernel)) ggX11_query_X10_dated
set_option maxRecDepth 20000 in
theorem ggX11_query_X10_kind : GoodIn wsX11_query wsX10_kind := goodIn_ca (goodIn_ca (goodIn_r _ [107, 24, 25, 26, 27, 28, 29, 30, 31, 108, 37, 38, 22, 39, 40, 41, 42, 43, 44, 45, 46, 47, 48, 49, 50, 51, 52, 53, 54, 55, 56, 57, 58, 140, 141, 142, 143, 144, 145, 146, 147, 148, 149, 150, 151, 152, 153, 154, 155, 156, 157, 158, 159, 160, 161, 162, 163, 164, 165, 166, 167] (by decide +kernel) (by decide +kernel)) (goodIn_sub (fun _ h => List.mem_cons_of_mem _ (List.mem_append_left _ (List.mem_append_left _ (List.mem_append_right _ h)))) (by decide +kernel))) (goodIn_sub (fun _ h => List.mem_cons_of_mem _ (List.mem_append_left _ (List.mem_append_right _ h))) (by decide +kernel))
set_option maxRecDepth 20000 in
theorem gX11_query_X10_kind : GoodIn wsX11_query (wsV RX11 164 RX10 yX10_kind wsX10_kind) := goodIn_app (goodIn_of _ (by decide +kernel)) ggX11_query_X10_kind
set_option maxRecDepth 20000 in
theorem ggX11_query_X10_scaled : GoodIn wsX11_query wsX10_scaled := goodIn_ca (goodIn_ca (goodIn_ca (goodIn_r _ [112, 67, 68, 24, 25, 26, 27, 28, 29, 30, 31, 69, 113, 71, 72, 73, 43, 74, 75, 76, 77, 78, 45, 46, 40, 41, 42, 44, 47, 48, 49, 50, 51, 52, 53, 54, 55, 56, 57, 58, 140, 141, 142, 143, 144, 145, 146, 147, 148, 149, 150, 151, 152, 153, 154, 155, 156, 157, 158, 159, 160, 161, 162, 163, 164, 165, 166, 167] (by decide +kernel) (by decide +kernel)) (goodIn_sub (fun _ h => List.mem_cons_of_mem _ (List.mem_append_right _ h)) (by decide +kernel))) (goodIn_sub (fun _ h => List.mem_cons_of_mem _ (List.mem_append_left _ (List.mem_append_left _ (List.mem_append_right _ h)))) (by decide +kernel))) (goodIn_sub (fun _ h => List.mem_cons_of_mem _ (List.mem_append_left _ (List.mem_append_right _ h))) (by decide +kernel))
set_option maxRecDepth 20000 in
theorem gX11_query_X10_scaled : GoodIn wsX11_query (wsV RX11 166 RX10 yX10_scaled wsX10_scaled) := goodIn_app (goodIn_of _ (by decide +kernel)) ggX11_query_X10_scaled
set_option maxRecDepth 20000 in
theorem ggX11_query_X10_most : GoodIn wsX11_query wsX10_most := goodIn_ca (goodIn_ca (goodIn_ca (goodIn_r _ [117, 67, 68, 24, 25, 26, 27, 28, 118, 29, 30, 31, 69, 119, 120, 71, 72, 73, 43, 74, 75, 76, 77, 78, 45, 46, 40, 41, 42, 44, 47, 48, 49, 50, 51, 52, 53, 54, 55, 56, 57, 58, 140, 141, 142, 143, 144, 145, 146, 147, 148, 149, 163, 164, 165, 166, 167, 150, 151, 152, 153, 154, 155, 156, 157, 158, 159, 160, 161, 162] (by decide +kernel) (by decide +kernel)) (goodIn_sub (fun _ h => List.mem_cons_of_mem _ (List.mem_append_right _ h)) (by decide +kernel))) (goodIn_sub (fun _ h => List.mem_cons_of_mem _ (List.mem_append_left _ (List.mem_append_left _ (List.mem_append_right _ h)))) (by decide +kernel))) (goodIn_sub (fun _ h => List.mem_cons_of_mem _ (List.mem_append_left _ (List.mem_append_right _ h))) (by decide +kernel))
set_option maxRecDepth 20000 in
theorem gX11_query_X10_most : GoodIn wsX11_query (wsV RX11 169 RX10 yX10_most wsX10_most) := goodIn_app (goodIn_of _ (by decide +kernel)) ggX11_query_X10_most
set_option maxRecDepth 20000 in
theorem ggX11_query_X10_nodes : GoodIn wsX11_query wsX10_nodes := goodIn_r _ [124, 28, 118, 140, 141, 142, 143, 144, 145, 146, 147, 148, 149, 163, 164, 165, 166, 167] (by decide +kernel) (by decide +kernel)
set_option maxRecDepth 20000 in
theorem gX11_query_X10_nodes : GoodIn wsX11_query (wsV RX11 172 RX10 yX10_nodes wsX10_nodes) := goodIn_app (goodIn_of _ (by decide +kernel)) ggX11_query_X10_nodes
theorem dX11_query_0 : decode cX11_query 0 = .ok (.aload_n 0, 1) := by decide +kernel
theorem dX11_query_1 : decode cX11_query 1 = .ok (.getfield 142, 3) := by decide +kernel
theorem dX11_query_4 : decode cX11_query 4 = .ok (.istore_n 1, 1) := by decide +kernel
theorem dX11_query_5 : decode cX11_query 5 = .ok (.iload_n 1, 1) := by decide +kernel
theorem dX11_query_6 : decode cX11_query 6 = .ok (.iconst 3, 1) := by decide +kernel
theorem dX11_query_7 : decode cX11_query 7 = .ok (.if_icmp .ge 7, 3) := by decide +kernel
theorem dX11_query_10 : decode cX11_query 10 = .ok (.iconst 0, 1) := by decide +kernel
theorem dX11_query_11 : decode cX11_query 11 = .ok (.goto 9, 3) := by decide +kernel
theorem dX11_query_14 : decode cX11_query 14 = .ok (.aload_n 0, 1) := by decide +kernel
theorem dX11_query_15 : decode cX11_query 15 = .ok (.bipush 9, 2) := by decide +kernel
theorem dX11_query_17 : decode cX11_query 17 = .ok (.invokevirtual 78, 3) := by decide +kernel
theorem dX11_query_20 : decode cX11_query 20 = .ok (.istore_n 2, 1) := by decide +kernel
theorem dX11_query_21 : decode cX11_query 21 = .ok (.iload_n 1, 1) := by decide +kernel
theorem dX11_query_22 : decode cX11_query 22 = .ok (.ifCond .ne 7, 3) := by decide +kernel
theorem dX11_query_25 : decode cX11_query 25 = .ok (.iconst 0, 1) := by decide +kernel
theorem dX11_query_26 : decode cX11_query 26 = .ok (.goto 8, 3) := by decide +kernel
theorem dX11_query_29 : decode cX11_query 29 = .ok (.aload_n 0, 1) := by decide +kernel
theorem dX11_query_30 : decode cX11_query 30 = .ok (.iload_n 1, 1) := by decide +kernel
theorem dX11_query_31 : decode cX11_query 31 = .ok (.invokevirtual 78, 3) := by decide +kernel
theorem dX11_query_34 : decode cX11_query 34 = .ok (.istore_n 3, 1) := by decide +kernel
theorem dX11_query_35 : decode cX11_query 35 = .ok (.iload_n 1, 1) := by decide +kernel
theorem dX11_query_36 : decode cX11_query 36 = .ok (.ifCond .ne 7, 3) := by decide +kernel
theorem dX11_query_39 : decode cX11_query 39 = .ok (.iconst 0, 1) := by decide +kernel
theorem dX11_query_40 : decode cX11_query 40 = .ok (.goto 8, 3) := by decide +kernel
theorem dX11_query_43 : decode cX11_query 43 = .ok (.aload_n 0, 1) := by decide +kernel
theorem dX11_query_44 : decode cX11_query 44 = .ok (.iload_n 1, 1) := by decide +kernel
theorem dX11_query_45 : decode cX11_query 45 = .ok (.invokevirtual 78, 3) := by decide +kernel
theorem dX11_query_48 : decode cX11_query 48 = .ok (.istore 4, 2) := by decide +kernel
theorem dX11_query_50 : decode cX11_query 50 = .ok (.aload_n 0, 1) := by decide +kernel
theorem dX11_query_51 : decode cX11_query 51 = .ok (.iconst 2, 1) := by decide +kernel
theorem dX11_query_52 : decode cX11_query 52 = .ok (.invokevirtual 78, 3) := by decide +kernel
theorem dX11_query_55 : decode cX11_query 55 = .ok (.istore 5, 2) := by decide +kernel
theorem dX11_query_57 : decode cX11_query 57 = .ok (.iconst 5, 1) := by decide +kernel
theorem dX11_query_58 : decode cX11_query 58 = .ok (.newarray .int, 2) := by decide +kernel
theorem dX11_query_60 : decode cX11_query 60 = .ok (.dup, 1) := by decide +kernel
theorem dX11_query_61 : decode cX11_query 61 = .ok (.iconst 0, 1) := by decide +kernel
theorem dX11_query_62 : decode cX11_query 62 = .ok (.iload_n 2, 1) := by decide +kernel
theorem dX11_query_63 : decode cX11_query 63 = .ok (.iastore, 1) := by decide +kernel
theorem dX11_query_64 : decode cX11_query 64 = .ok (.dup, 1) := by decide +kernel
