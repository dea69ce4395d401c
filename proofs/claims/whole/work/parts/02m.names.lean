theorem dX11_kindNow_38 : decode cX11_kindNow 38 = .ok (.goto (-34), 3) := by decide +kernel
theorem dX11_kindNow_41 : decode cX11_kindNow 41 = .ok (.iload_n 2, 1) := by decide +kernel
theorem dX11_kindNow_42 : decode cX11_kindNow 42 = .ok (.ireturn, 1) := by decide +kernel
set_option maxRecDepth 20000 in
theorem ggX11_ofKind_X11_isIn : GoodIn wsX11_ofKind wsX11_isIn := goodIn_r _ [5] (by decide +kernel) (by decide +kernel)
set_option maxRecDepth 20000 in
theorem gX11_ofKind_X11_isIn : GoodIn wsX11_ofKind (va_wsS RX11 78 yX11_isIn wsX11_isIn) := goodIn_app (goodIn_of _ (by decide +kernel)) ggX11_ofKind_X11_isIn
set_option maxRecDepth 20000 in
theorem ggX11_ofKind_X11_kindNow : GoodIn wsX11_ofKind wsX11_kindNow := goodIn_r _ [9, 10, 11, 12, 17, 18, 19, 20, 21, 22, 23, 24, 25, 26, 27, 28, 29, 30, 31, 32, 33, 34, 35, 36, 37, 38, 39, 40, 41, 42, 43, 44, 45, 46] (by decide +kernel) (by decide +kernel)
set_option maxRecDepth 20000 in
theorem gX11_ofKind_X11_kindNow : GoodIn wsX11_ofKind (wsV RX11 209 RX11 yX11_kindNow wsX11_kindNow) := goodIn_app (goodIn_of _ (by decide +kernel)) ggX11_ofKind_X11_kindNow
set_option maxRecDepth 20000 in
theorem ggX11_ofKind_X11_no : GoodIn wsX11_ofKind wsX11_no := goodIn_r _ [16, 1, 17, 18, 19, 20, 21, 22, 23, 24, 25, 26, 27, 28, 29, 30, 31, 32, 33, 34, 35, 36, 37, 38, 39, 40, 41, 42, 43, 44, 45, 46] (by decide +kernel) (by decide +kernel)
set_option maxRecDepth 20000 in
theorem gX11_ofKind_X11_no : GoodIn wsX11_ofKind (wsV RX11 88 RX11 yX11_no wsX11_no) := goodIn_app (goodIn_of _ (by decide +kernel)) ggX11_ofKind_X11_no
theorem dX11_ofKind_0 : decode cX11_ofKind 0 = .ok (.aload_n 0, 1) := by decide +kernel
theorem dX11_ofKind_1 : decode cX11_ofKind 1 = .ok (.iconst 0, 1) := by decide +kernel
theorem dX11_ofKind_2 : decode cX11_ofKind 2 = .ok (.putfield 74, 3) := by decide +kernel
theorem dX11_ofKind_5 : decode cX11_ofKind 5 = .ok (.iload_n 1, 1) := by decide +kernel
theorem dX11_ofKind_6 : decode cX11_ofKind 6 = .ok (.iconst 0, 1) := by decide +kernel
theorem dX11_ofKind_7 : decode cX11_ofKind 7 = .ok (.bipush 7, 2) := by decide +kernel
theorem dX11_ofKind_9 : decode cX11_ofKind 9 = .ok (.invokestatic 78, 3) := by decide +kernel
theorem dX11_ofKind_12 : decode cX11_ofKind 12 = .ok (.ifCond .eq 11, 3) := by decide +kernel
theorem dX11_ofKind_15 : decode cX11_ofKind 15 = .ok (.aload_n 0, 1) := by decide +kernel
theorem dX11_ofKind_16 : decode cX11_ofKind 16 = .ok (.iload_n 1, 1) := by decide +kernel
theorem dX11_ofKind_17 : decode cX11_ofKind 17 = .ok (.invokevirtual 209, 3) := by decide +kernel
theorem dX11_ofKind_20 : decode cX11_ofKind 20 = .ok (.goto 8, 3) := by decide +kernel
theorem dX11_ofKind_23 : decode cX11_ofKind 23 = .ok (.aload_n 0, 1) := by decide +kernel
theorem dX11_ofKind_24 : decode cX11_ofKind 24 = .ok (.iconst 1, 1) := by decide +kernel
theorem dX11_ofKind_25 : decode cX11_ofKind 25 = .ok (.invokevirtual 88, 3) := by decide +kernel
theorem dX11_ofKind_28 : decode cX11_ofKind 28 = .ok (.ireturn, 1) := by decide +kernel
set_option maxRecDepth 20000 in
theorem ggX11_ofDates_X11_isIn : GoodIn wsX11_ofDates wsX11_isIn := goodIn_r _ [8] (by decide +kernel) (by decide +kernel)
set_option maxRecDepth 20000 in
theorem gX11_ofDates_X11_isIn : GoodIn wsX11_ofDates (va_wsS RX11 78 yX11_isIn wsX11_isIn) := goodIn_app (goodIn_of _ (by decide +kernel)) ggX11_ofDates_X11_isIn
set_option maxRecDepth 20000 in
theorem ggX11_ofDates_X11_no : GoodIn wsX11_ofDates wsX11_no := goodIn_r _ [12, 1, 13, 14, 15, 16, 17, 18, 19, 20, 21, 22, 23, 24, 25, 26, 27, 28, 29, 30, 31, 32, 33, 34, 35, 36, 37, 38, 39, 40, 41, 42] (by decide +kernel) (by decide +kernel)
set_option maxRecDepth 20000 in
theorem gX11_ofDates_X11_no : GoodIn wsX11_ofDates (wsV RX11 88 RX11 yX11_no wsX11_no) := goodIn_app (goodIn_of _ (by decide +kernel)) ggX11_ofDates_X11_no
theorem dX11_ofDates_0 : decode cX11_ofDates 0 = .ok (.aload_n 0, 1) := by decide +kernel
theorem dX11_ofDates_1 : decode cX11_ofDates 1 = .ok (.iconst 0, 1) := by decide +kernel
theorem dX11_ofDates_2 : decode cX11_ofDates 2 = .ok (.putfield 74, 3) := by decide +kernel
theorem dX11_ofDates_5 : decode cX11_ofDates 5 = .ok (.iload_n 1, 1) := by decide +kernel
theorem dX11_ofDates_6 : decode cX11_ofDates 6 = .ok (.iconst 0, 1) := by decide +kernel
theorem dX11_ofDates_7 : decode cX11_ofDates 7 = .ok (.sipush 9999, 3) := by decide +kernel
theorem dX11_ofDates_10 : decode cX11_ofDates 10 = .ok (.invokestatic 78, 3) := by decide +kernel
theorem dX11_ofDates_13 : decode cX11_ofDates 13 = .ok (.ifCond .eq 14, 3) := by decide +kernel
theorem dX11_ofDates_16 : decode cX11_ofDates 16 = .ok (.iload_n 2, 1) := by decide +kernel
theorem dX11_ofDates_17 : decode cX11_ofDates 17 = .ok (.iconst 1, 1) := by decide +kernel
theorem dX11_ofDates_18 : decode cX11_ofDates 18 = .ok (.sipush 10000, 3) := by decide +kernel
theorem dX11_ofDates_21 : decode cX11_ofDates 21 = .ok (.invokestatic 78, 3) := by decide +kernel
theorem dX11_ofDates_24 : decode cX11_ofDates 24 = .ok (.ifCond .ne 9, 3) := by decide +kernel
theorem dX11_ofDates_27 : decode cX11_ofDates 27 = .ok (.aload_n 0, 1) := by decide +kernel
theorem dX11_ofDates_28 : decode cX11_ofDates 28 = .ok (.iconst 1, 1) := by decide +kernel
theorem dX11_ofDates_29 : decode cX11_ofDates 29 = .ok (.invokevirtual 88, 3) := by decide +kernel
theorem dX11_ofDates_32 : decode cX11_ofDates 32 = .ok (.ireturn, 1) := by decide +kernel
theorem dX11_ofDates_33 : decode cX11_ofDates 33 = .ok (.iconst 0, 1) := by decide +kernel
theorem dX11_ofDates_34 : decode cX11_ofDates 34 = .ok (.istore_n 3, 1) := by decide +kernel
theorem dX11_ofDates_35 : decode cX11_ofDates 35 = .ok (.iconst 0, 1) := by decide +kernel
theorem dX11_ofDates_36 : decode cX11_ofDates 36 = .ok (.istore 4, 2) := by decide +kernel
theorem dX11_ofDates_38 : decode cX11_ofDates 38 = .ok (.iload 4, 2) := by decide +kernel
theorem dX11_ofDates_40 : decode cX11_ofDates 40 = .ok (.aload_n 0, 1) := by decide +kernel
theorem dX11_ofDates_41 : decode cX11_ofDates 41 = .ok (.getfield 206, 3) := by decide +kernel
theorem dX11_ofDates_44 : decode cX11_ofDates 44 = .ok (.if_icmp .ge 41, 3) := by decide +kernel
theorem dX11_ofDates_47 : decode cX11_ofDates 47 = .ok (.iload_n 3, 1) := by decide +kernel
theorem dX11_ofDates_48 : decode cX11_ofDates 48 = .ok (.aload_n 0, 1) := by decide +kernel
theorem dX11_ofDates_49 : decode cX11_ofDates 49 = .ok (.getfield 9, 3) := by decide +kernel
theorem dX11_ofDates_52 : decode cX11_ofDates 52 = .ok (.aload_n 0, 1) := by decide +kernel
theorem dX11_ofDates_53 : decode cX11_ofDates 53 = .ok (.getfield 59, 3) := by decide +kernel
theorem dX11_ofDates_56 : decode cX11_ofDates 56 = .ok (.iload 4, 2) := by decide +kernel
theorem dX11_ofDates_58 : decode cX11_ofDates 58 = .ok (.iaload, 1) := by decide +kernel
theorem dX11_ofDates_59 : decode cX11_ofDates 59 = .ok (.iaload, 1) := by decide +kernel
theorem dX11_ofDates_60 : decode cX11_ofDates 60 = .ok (.iload_n 1, 1) := by decide +kernel
theorem dX11_ofDates_61 : decode cX11_ofDates 61 = .ok (.iload_n 1, 1) := by decide +kernel
theorem dX11_ofDates_62 : decode cX11_ofDates 62 = .ok (.iload_n 2, 1) := by decide +kernel
theorem dX11_ofDates_63 : decode cX11_ofDates 63 = .ok (.iadd, 1) := by decide +kernel
theorem dX11_ofDates_64 : decode cX11_ofDates 64 = .ok (.iconst 1, 1) := by decide +kernel
theorem dX11_ofDates_65 : decode cX11_ofDates 65 = .ok (.isub, 1) := by decide +kernel
theorem dX11_ofDates_66 : decode cX11_ofDates 66 = .ok (.invokestatic 78, 3) := by decide +kernel
theorem dX11_ofDates_69 : decode cX11_ofDates 69 = .ok (.ifCond .eq 7, 3) := by decide +kernel
theorem dX11_ofDates_72 : decode cX11_ofDates 72 = .ok (.iconst 1, 1) := by decide +kernel
theorem dX11_ofDates_73 : decode cX11_ofDates 73 = .ok (.goto 4, 3) := by decide +kernel
theorem dX11_ofDates_76 : decode cX11_ofDates 76 = .ok (.iconst 0, 1) := by decide +kernel
theorem dX11_ofDates_77 : decode cX11_ofDates 77 = .ok (.iadd, 1) := by decide +kernel
theorem dX11_ofDates_78 : decode cX11_ofDates 78 = .ok (.istore_n 3, 1) := by decide +kernel
theorem dX11_ofDates_79 : decode cX11_ofDates 79 = .ok (.iinc 4 1, 3) := by decide +kernel
theorem dX11_ofDates_82 : decode cX11_ofDates 82 = .ok (.goto (-44), 3) := by decide +kernel
theorem dX11_ofDates_85 : decode cX11_ofDates 85 = .ok (.iload_n 3, 1) := by decide +kernel
theorem dX11_ofDates_86 : decode cX11_ofDates 86 = .ok (.ireturn, 1) := by decide +kernel
theorem dX11_termNodes_0 : decode cX11_termNodes 0 = .ok (.iconst 1, 1) := by decide +kernel
theorem dX11_termNodes_1 : decode cX11_termNodes 1 = .ok (.iload_n 1, 1) := by decide +kernel
theorem dX11_termNodes_2 : decode cX11_termNodes 2 = .ok (.ishl, 1) := by decide +kernel
theorem dX11_termNodes_3 : decode cX11_termNodes 3 = .ok (.istore_n 3, 1) := by decide +kernel
theorem dX11_termNodes_4 : decode cX11_termNodes 4 = .ok (.iconst 0, 1) := by decide +kernel
theorem dX11_termNodes_5 : decode cX11_termNodes 5 = .ok (.istore 4, 2) := by decide +kernel
theorem dX11_termNodes_7 : decode cX11_termNodes 7 = .ok (.iload_n 1, 1) := by decide +kernel
theorem dX11_termNodes_8 : decode cX11_termNodes 8 = .ok (.istore 5, 2) := by decide +kernel
theorem dX11_termNodes_10 : decode cX11_termNodes 10 = .ok (.iload 5, 2) := by decide +kernel
theorem dX11_termNodes_12 : decode cX11_termNodes 12 = .ok (.ifCond .lt 206, 3) := by decide +kernel
theorem dX11_termNodes_15 : decode cX11_termNodes 15 = .ok (.iload_n 3, 1) := by decide +kernel
theorem dX11_termNodes_16 : decode cX11_termNodes 16 = .ok (.iload 5, 2) := by decide +kernel
theorem dX11_termNodes_18 : decode cX11_termNodes 18 = .ok (.ishr, 1) := by decide +kernel
theorem dX11_termNodes_19 : decode cX11_termNodes 19 = .ok (.iconst 1, 1) := by decide +kernel
theorem dX11_termNodes_20 : decode cX11_termNodes 20 = .ok (.iand, 1) := by decide +kernel
theorem dX11_termNodes_21 : decode cX11_termNodes 21 = .ok (.ifCond .ne 6, 3) := by decide +kernel
theorem dX11_termNodes_24 : decode cX11_termNodes 24 = .ok (.goto 188, 3) := by decide +kernel
theorem dX11_termNodes_27 : decode cX11_termNodes 27 = .ok (.aload_n 0, 1) := by decide +kernel
theorem dX11_termNodes_28 : decode cX11_termNodes 28 = .ok (.getfield 44, 3) := by decide +kernel
theorem dX11_termNodes_31 : decode cX11_termNodes 31 = .ok (.iload 5, 2) := by decide +kernel
theorem dX11_termNodes_33 : decode cX11_termNodes 33 = .ok (.iaload, 1) := by decide +kernel
theorem dX11_termNodes_34 : decode cX11_termNodes 34 = .ok (.tableswitch 178 0 8 #[50, 93, 93, 62, 93, 178, 178, 118, 133], 50) := by decide +kernel
theorem dX11_termNodes_84 : decode cX11_termNodes 84 = .ok (.iload 4, 2) := by decide +kernel
theorem dX11_termNodes_86 : decode cX11_termNodes 86 = .ok (.iconst 1, 1) := by decide +kernel
theorem dX11_termNodes_87 : decode cX11_termNodes 87 = .ok (.iload 5, 2) := by decide +kernel
theorem dX11_termNodes_89 : decode cX11_termNodes 89 = .ok (.ishl, 1) := by decide +kernel
theorem dX11_termNodes_90 : decode cX11_termNodes 90 = .ok (.ior, 1) := by decide +kernel
theorem dX11_termNodes_91 : decode cX11_termNodes 91 = .ok (.istore 4, 2) := by decide +kernel
theorem dX11_termNodes_93 : decode cX11_termNodes 93 = .ok (.goto 119, 3) := by decide +kernel
theorem dX11_termNodes_96 : decode cX11_termNodes 96 = .ok (.iload_n 3, 1) := by decide +kernel
theorem dX11_termNodes_97 : decode cX11_termNodes 97 = .ok (.iconst 1, 1) := by decide +kernel
theorem dX11_termNodes_98 : decode cX11_termNodes 98 = .ok (.aload_n 0, 1) := by decide +kernel
theorem dX11_termNodes_99 : decode cX11_termNodes 99 = .ok (.getfield 47, 3) := by decide +kernel
theorem dX11_termNodes_102 : decode cX11_termNodes 102 = .ok (.iload 5, 2) := by decide +kernel
theorem dX11_termNodes_104 : decode cX11_termNodes 104 = .ok (.iaload, 1) := by decide +kernel
theorem dX11_termNodes_105 : decode cX11_termNodes 105 = .ok (.ishl, 1) := by decide +kernel
theorem dX11_termNodes_106 : decode cX11_termNodes 106 = .ok (.ior, 1) := by decide +kernel
theorem dX11_termNodes_107 : decode cX11_termNodes 107 = .ok (.istore_n 3, 1) := by decide +kernel
theorem dX11_termNodes_108 : decode cX11_termNodes 108 = .ok (.iload_n 2, 1) := by decide +kernel
theorem dX11_termNodes_109 : decode cX11_termNodes 109 = .ok (.ifCond .eq 103, 3) := by decide +kernel
theorem dX11_termNodes_112 : decode cX11_termNodes 112 = .ok (.iload_n 3, 1) := by decide +kernel
theorem dX11_termNodes_113 : decode cX11_termNodes 113 = .ok (.iconst 1, 1) := by decide +kernel
theorem dX11_termNodes_114 : decode cX11_termNodes 114 = .ok (.aload_n 0, 1) := by decide +kernel
theorem dX11_termNodes_115 : decode cX11_termNodes 115 = .ok (.getfield 50, 3) := by decide +kernel
theorem dX11_termNodes_118 : decode cX11_termNodes 118 = .ok (.iload 5, 2) := by decide +kernel
theorem dX11_termNodes_120 : decode cX11_termNodes 120 = .ok (.iaload, 1) := by decide +kernel
theorem dX11_termNodes_121 : decode cX11_termNodes 121 = .ok (.ishl, 1) := by decide +kernel
theorem dX11_termNodes_122 : decode cX11_termNodes 122 = .ok (.ior, 1) := by decide +kernel
theorem dX11_termNodes_123 : decode cX11_termNodes 123 = .ok (.istore_n 3, 1) := by decide +kernel
theorem dX11_termNodes_124 : decode cX11_termNodes 124 = .ok (.goto 88, 3) := by decide +kernel
theorem dX11_termNodes_127 : decode cX11_termNodes 127 = .ok (.iload_n 3, 1) := by decide +kernel
theorem dX11_termNodes_128 : decode cX11_termNodes 128 = .ok (.iconst 1, 1) := by decide +kernel
theorem dX11_termNodes_129 : decode cX11_termNodes 129 = .ok (.aload_n 0, 1) := by decide +kernel
theorem dX11_termNodes_130 : decode cX11_termNodes 130 = .ok (.getfield 47, 3) := by decide +kernel
theorem dX11_termNodes_133 : decode cX11_termNodes 133 = .ok (.iload 5, 2) := by decide +kernel
theorem dX11_termNodes_135 : decode cX11_termNodes 135 = .ok (.iaload, 1) := by decide +kernel
theorem dX11_termNodes_136 : decode cX11_termNodes 136 = .ok (.ishl, 1) := by decide +kernel
theorem dX11_termNodes_137 : decode cX11_termNodes 137 = .ok (.iconst 1, 1) := by decide +kernel
theorem dX11_termNodes_138 : decode cX11_termNodes 138 = .ok (.aload_n 0, 1) := by decide +kernel
theorem dX11_termNodes_139 : decode cX11_termNodes 139 = .ok (.getfield 50, 3) := by decide +kernel
theorem dX11_termNodes_142 : decode cX11_termNodes 142 = .ok (.iload 5, 2) := by decide +kernel
theorem dX11_termNodes_144 : decode cX11_termNodes 144 = .ok (.iaload, 1) := by decide +kernel
theorem dX11_termNodes_145 : decode cX11_termNodes 145 = .ok (.ishl, 1) := by decide +kernel
theorem dX11_termNodes_146 : decode cX11_termNodes 146 = .ok (.ior, 1) := by decide +kernel
theorem dX11_termNodes_147 : decode cX11_termNodes 147 = .ok (.ior, 1) := by decide +kernel
theorem dX11_termNodes_148 : decode cX11_termNodes 148 = .ok (.istore_n 3, 1) := by decide +kernel
theorem dX11_termNodes_149 : decode cX11_termNodes 149 = .ok (.goto 63, 3) := by decide +kernel
theorem dX11_termNodes_152 : decode cX11_termNodes 152 = .ok (.iload_n 3, 1) := by decide +kernel
theorem dX11_termNodes_153 : decode cX11_termNodes 153 = .ok (.iconst 1, 1) := by decide +kernel
theorem dX11_termNodes_154 : decode cX11_termNodes 154 = .ok (.aload_n 0, 1) := by decide +kernel
theorem dX11_termNodes_155 : decode cX11_termNodes 155 = .ok (.getfield 47, 3) := by decide +kernel
theorem dX11_termNodes_158 : decode cX11_termNodes 158 = .ok (.iload 5, 2) := by decide +kernel
theorem dX11_termNodes_160 : decode cX11_termNodes 160 = .ok (.iaload, 1) := by decide +kernel
theorem dX11_termNodes_161 : decode cX11_termNodes 161 = .ok (.ishl, 1) := by decide +kernel
theorem dX11_termNodes_162 : decode cX11_termNodes 162 = .ok (.ior, 1) := by decide +kernel
theorem dX11_termNodes_163 : decode cX11_termNodes 163 = .ok (.istore_n 3, 1) := by decide +kernel
theorem dX11_termNodes_164 : decode cX11_termNodes 164 = .ok (.goto 48, 3) := by decide +kernel
theorem dX11_termNodes_167 : decode cX11_termNodes 167 = .ok (.aload_n 0, 1) := by decide +kernel
theorem dX11_termNodes_168 : decode cX11_termNodes 168 = .ok (.getfield 47, 3) := by decide +kernel
theorem dX11_termNodes_171 : decode cX11_termNodes 171 = .ok (.iload 5, 2) := by decide +kernel
theorem dX11_termNodes_173 : decode cX11_termNodes 173 = .ok (.iaload, 1) := by decide +kernel
theorem dX11_termNodes_174 : decode cX11_termNodes 174 = .ok (.istore 6, 2) := by decide +kernel
theorem dX11_termNodes_176 : decode cX11_termNodes 176 = .ok (.iload 6, 2) := by decide +kernel
theorem dX11_termNodes_178 : decode cX11_termNodes 178 = .ok (.aload_n 0, 1) := by decide +kernel
theorem dX11_termNodes_179 : decode cX11_termNodes 179 = .ok (.getfield 47, 3) := by decide +kernel
theorem dX11_termNodes_182 : decode cX11_termNodes 182 = .ok (.iload 5, 2) := by decide +kernel
theorem dX11_termNodes_184 : decode cX11_termNodes 184 = .ok (.iaload, 1) := by decide +kernel
theorem dX11_termNodes_185 : decode cX11_termNodes 185 = .ok (.aload_n 0, 1) := by decide +kernel
theorem dX11_termNodes_186 : decode cX11_termNodes 186 = .ok (.getfield 50, 3) := by decide +kernel
theorem dX11_termNodes_189 : decode cX11_termNodes 189 = .ok (.iload 5, 2) := by decide +kernel
theorem dX11_termNodes_191 : decode cX11_termNodes 191 = .ok (.iaload, 1) := by decide +kernel
theorem dX11_termNodes_192 : decode cX11_termNodes 192 = .ok (.iadd, 1) := by decide +kernel
theorem dX11_termNodes_193 : decode cX11_termNodes 193 = .ok (.if_icmp .ge 16, 3) := by decide +kernel
theorem dX11_termNodes_196 : decode cX11_termNodes 196 = .ok (.iload_n 3, 1) := by decide +kernel
theorem dX11_termNodes_197 : decode cX11_termNodes 197 = .ok (.iconst 1, 1) := by decide +kernel
theorem dX11_termNodes_198 : decode cX11_termNodes 198 = .ok (.iload 6, 2) := by decide +kernel
theorem dX11_termNodes_200 : decode cX11_termNodes 200 = .ok (.ishl, 1) := by decide +kernel
theorem dX11_termNodes_201 : decode cX11_termNodes 201 = .ok (.ior, 1) := by decide +kernel
theorem dX11_termNodes_202 : decode cX11_termNodes 202 = .ok (.istore_n 3, 1) := by decide +kernel
theorem dX11_termNodes_203 : decode cX11_termNodes 203 = .ok (.iinc 6 1, 3) := by decide +kernel
theorem dX11_termNodes_206 : decode cX11_termNodes 206 = .ok (.goto (-30), 3) := by decide +kernel
theorem dX11_termNodes_209 : decode cX11_termNodes 209 = .ok (.goto 3, 3) := by decide +kernel
theorem dX11_termNodes_212 : decode cX11_termNodes 212 = .ok (.iinc 5 (-1), 3) := by decide +kernel
theorem dX11_termNodes_215 : decode cX11_termNodes 215 = .ok (.goto (-205), 3) := by decide +kernel
theorem dX11_termNodes_218 : decode cX11_termNodes 218 = .ok (.iload 4, 2) := by decide +kernel
theorem dX11_termNodes_220 : decode cX11_termNodes 220 = .ok (.ireturn, 1) := by decide +kernel
set_option maxRecDepth 20000 in
theorem ggX11_window_X11_isDocument : GoodIn wsX11_window wsX11_isDocument := goodIn_r _ [12, 13, 14, 15, 11, 16, 50, 51, 52, 53, 54, 55, 56, 57, 58, 59, 60, 61, 62, 63, 64, 65, 66, 67, 68, 69, 70, 71, 72, 73, 74, 75, 76, 77, 78, 79] (by decide +kernel) (by decide +kernel)
set_option maxRecDepth 20000 in
theorem gX11_window_X11_isDocument : GoodIn wsX11_window (wsV RX11 106 RX11 yX11_isDocument wsX11_isDocument) := goodIn_app (goodIn_of _ (by decide +kernel)) ggX11_window_X11_isDocument
set_option maxRecDepth 20000 in
theorem ggX11_window_X11_isNode : GoodIn wsX11_window wsX11_isNode := goodIn_r _ [20, 6, 14, 15, 11, 16, 50, 51, 52, 53, 54, 55, 56, 57, 58, 59, 60, 61, 62, 63, 64, 65, 66, 67, 68, 69, 70, 71, 72, 73, 74, 75, 76, 77, 78, 79] (by decide +kernel) (by decide +kernel)
set_option maxRecDepth 20000 in
theorem gX11_window_X11_isNode : GoodIn wsX11_window (wsV RX11 165 RX11 yX11_isNode wsX11_isNode) := goodIn_app (goodIn_of _ (by decide +kernel)) ggX11_window_X11_isNode
set_option maxRecDepth 20000 in
theorem ggX11_window_X11_isField : GoodIn wsX11_window wsX11_isField := goodIn_r _ [23, 14, 15, 11, 16] (by decide +kernel) (by decide +kernel)
set_option maxRecDepth 20000 in
theorem gX11_window_X11_isField : GoodIn wsX11_window (va_wsS RX11 96 yX11_isField wsX11_isField) := goodIn_app (goodIn_of _ (by decide +kernel)) ggX11_window_X11_isField
set_option maxRecDepth 20000 in
theorem ggX11_window_X11_no : GoodIn wsX11_window wsX11_no := goodIn_r _ [27, 1, 50, 51, 52, 53, 54, 55, 56, 57, 58, 59, 60, 61, 62, 63, 64, 65, 66, 67, 68, 69, 70, 71, 72, 73, 74, 75, 76, 77, 78, 79] (by decide +kernel) (by decide +kernel)
set_option maxRecDepth 20000 in
theorem gX11_window_X11_no : GoodIn wsX11_window (wsV RX11 88 RX11 yX11_no wsX11_no) := goodIn_app (goodIn_of _ (by decide +kernel)) ggX11_window_X11_no
set_option maxRecDepth 20000 in
theorem ggX11_window_X11_isIn : GoodIn wsX11_window wsX11_isIn := goodIn_r _ [16] (by decide +kernel) (by decide +kernel)
set_option maxRecDepth 20000 in
theorem gX11_window_X11_isIn : GoodIn wsX11_window (va_wsS RX11 78 yX11_isIn wsX11_isIn) := goodIn_app (goodIn_of _ (by decide +kernel)) ggX11_window_X11_isIn
set_option maxRecDepth 20000 in
theorem ggX11_window_X11_termNodes : GoodIn wsX11_window wsX11_termNodes := goodIn_r _ [31, 32, 33, 7, 50, 51, 52, 53, 54, 55, 56, 57, 58, 59, 60, 61, 62, 63, 64, 65, 66, 67, 68, 69, 70, 71, 72, 73, 74, 75, 76, 77, 78, 79] (by decide +kernel) (by decide +kernel)
set_option maxRecDepth 20000 in
theorem gX11_window_X11_termNodes : GoodIn wsX11_window (wsV RX11 212 RX11 yX11_termNodes wsX11_termNodes) := goodIn_app (goodIn_of _ (by decide +kernel)) ggX11_window_X11_termNodes
set_option maxRecDepth 20000 in
theorem ggX11_window_X11_many : GoodIn wsX11_window wsX11_many := goodIn_r _ [37, 38, 50, 51, 52, 53, 54, 55, 56, 57, 58, 59, 60, 61, 62, 63, 64, 65, 66, 67, 68, 69, 70, 71, 72, 73, 74, 75, 76, 77, 78, 79] (by decide +kernel) (by decide +kernel)
set_option maxRecDepth 20000 in
theorem gX11_window_X11_many : GoodIn wsX11_window (wsV RX11 115 RX11 yX11_many wsX11_many) := goodIn_app (goodIn_of _ (by decide +kernel)) ggX11_window_X11_many
set_option maxRecDepth 20000 in
theorem ggX11_window_X11_at : GoodIn wsX11_window wsX11_at := goodIn_r _ [42, 43, 50, 51, 52, 53, 54, 55, 56, 57, 58, 59, 60, 61, 62, 63, 64, 65, 66, 67, 68, 69, 70, 71, 72, 73, 74, 75, 76, 77, 78, 79] (by decide +kernel) (by decide +kernel)
set_option maxRecDepth 20000 in
theorem gX11_window_X11_at : GoodIn wsX11_window (wsV RX11 119 RX11 yX11_at wsX11_at) := goodIn_app (goodIn_of _ (by decide +kernel)) ggX11_window_X11_at
set_option maxRecDepth 20000 in
theorem ggX11_window_X11_looksFor : GoodIn wsX11_window wsX11_looksFor := goodIn_r _ [47, 48, 33, 49, 50, 51, 52, 53, 54, 55, 56, 57, 58, 59, 60, 61, 62, 63, 64, 65, 66, 67, 68, 69, 70, 71, 72, 73, 74, 75, 76, 77, 78, 79] (by decide +kernel) (by decide +kernel)
set_option maxRecDepth 20000 in
theorem gX11_window_X11_looksFor : GoodIn wsX11_window (wsV RX11 190 RX11 yX11_looksFor wsX11_looksFor) := goodIn_app (goodIn_of _ (by decide +kernel)) ggX11_window_X11_looksFor
theorem dX11_window_0 : decode cX11_window 0 = .ok (.aload_n 0, 1) := by decide +kernel
theorem dX11_window_1 : decode cX11_window 1 = .ok (.iconst 0, 1) := by decide +kernel
theorem dX11_window_2 : decode cX11_window 2 = .ok (.putfield 74, 3) := by decide +kernel
theorem dX11_window_5 : decode cX11_window 5 = .ok (.aload_n 0, 1) := by decide +kernel
theorem dX11_window_6 : decode cX11_window 6 = .ok (.iload_n 1, 1) := by decide +kernel
theorem dX11_window_7 : decode cX11_window 7 = .ok (.invokevirtual 106, 3) := by decide +kernel
theorem dX11_window_10 : decode cX11_window 10 = .ok (.ifCond .eq 18, 3) := by decide +kernel
theorem dX11_window_13 : decode cX11_window 13 = .ok (.aload_n 0, 1) := by decide +kernel
theorem dX11_window_14 : decode cX11_window 14 = .ok (.iload_n 2, 1) := by decide +kernel
theorem dX11_window_15 : decode cX11_window 15 = .ok (.invokevirtual 165, 3) := by decide +kernel
theorem dX11_window_18 : decode cX11_window 18 = .ok (.ifCond .eq 10, 3) := by decide +kernel
theorem dX11_window_21 : decode cX11_window 21 = .ok (.iload_n 3, 1) := by decide +kernel
theorem dX11_window_22 : decode cX11_window 22 = .ok (.invokestatic 96, 3) := by decide +kernel
theorem dX11_window_25 : decode cX11_window 25 = .ok (.ifCond .ne 9, 3) := by decide +kernel
theorem dX11_window_28 : decode cX11_window 28 = .ok (.aload_n 0, 1) := by decide +kernel
theorem dX11_window_29 : decode cX11_window 29 = .ok (.iconst 1, 1) := by decide +kernel
theorem dX11_window_30 : decode cX11_window 30 = .ok (.invokevirtual 88, 3) := by decide +kernel
theorem dX11_window_33 : decode cX11_window 33 = .ok (.ireturn, 1) := by decide +kernel
theorem dX11_window_34 : decode cX11_window 34 = .ok (.iload 4, 2) := by decide +kernel
theorem dX11_window_36 : decode cX11_window 36 = .ok (.iconst 1, 1) := by decide +kernel
theorem dX11_window_37 : decode cX11_window 37 = .ok (.bipush 12, 2) := by decide +kernel
theorem dX11_window_39 : decode cX11_window 39 = .ok (.invokestatic 78, 3) := by decide +kernel
theorem dX11_window_42 : decode cX11_window 42 = .ok (.ifCond .ne 9, 3) := by decide +kernel
theorem dX11_window_45 : decode cX11_window 45 = .ok (.aload_n 0, 1) := by decide +kernel
theorem dX11_window_46 : decode cX11_window 46 = .ok (.iconst 2, 1) := by decide +kernel
theorem dX11_window_47 : decode cX11_window 47 = .ok (.invokevirtual 88, 3) := by decide +kernel
theorem dX11_window_50 : decode cX11_window 50 = .ok (.ireturn, 1) := by decide +kernel
theorem dX11_window_51 : decode cX11_window 51 = .ok (.aload_n 0, 1) := by decide +kernel
theorem dX11_window_52 : decode cX11_window 52 = .ok (.iload_n 2, 1) := by decide +kernel
theorem dX11_window_53 : decode cX11_window 53 = .ok (.iconst 0, 1) := by decide +kernel
theorem dX11_window_54 : decode cX11_window 54 = .ok (.invokevirtual 212, 3) := by decide +kernel
theorem dX11_window_57 : decode cX11_window 57 = .ok (.istore 5, 2) := by decide +kernel
theorem dX11_window_59 : decode cX11_window 59 = .ok (.iconst (-1), 1) := by decide +kernel
theorem dX11_window_60 : decode cX11_window 60 = .ok (.istore 6, 2) := by decide +kernel
theorem dX11_window_62 : decode cX11_window 62 = .ok (.iconst 0, 1) := by decide +kernel
theorem dX11_window_63 : decode cX11_window 63 = .ok (.istore 7, 2) := by decide +kernel
theorem dX11_window_65 : decode cX11_window 65 = .ok (.iconst 0, 1) := by decide +kernel
theorem dX11_window_66 : decode cX11_window 66 = .ok (.istore 8, 2) := by decide +kernel
theorem dX11_window_68 : decode cX11_window 68 = .ok (.iload 8, 2) := by decide +kernel
theorem dX11_window_70 : decode cX11_window 70 = .ok (.aload_n 0, 1) := by decide +kernel
theorem dX11_window_71 : decode cX11_window 71 = .ok (.iload_n 1, 1) := by decide +kernel
theorem dX11_window_72 : decode cX11_window 72 = .ok (.iload_n 3, 1) := by decide +kernel
theorem dX11_window_73 : decode cX11_window 73 = .ok (.invokevirtual 115, 3) := by decide +kernel
theorem dX11_window_76 : decode cX11_window 76 = .ok (.if_icmp .ge 189, 3) := by decide +kernel
theorem dX11_window_79 : decode cX11_window 79 = .ok (.iconst 0, 1) := by decide +kernel
theorem dX11_window_80 : decode cX11_window 80 = .ok (.istore 9, 2) := by decide +kernel
theorem dX11_window_82 : decode cX11_window 82 = .ok (.iload 8, 2) := by decide +kernel
theorem dX11_window_84 : decode cX11_window 84 = .ok (.istore 10, 2) := by decide +kernel
theorem dX11_window_86 : decode cX11_window 86 = .ok (.iload 10, 2) := by decide +kernel
theorem dX11_window_88 : decode cX11_window 88 = .ok (.iload 8, 2) := by decide +kernel
theorem dX11_window_90 : decode cX11_window 90 = .ok (.iload 4, 2) := by decide +kernel
theorem dX11_window_92 : decode cX11_window 92 = .ok (.iadd, 1) := by decide +kernel
theorem dX11_window_93 : decode cX11_window 93 = .ok (.aload_n 0, 1) := by decide +kernel
theorem dX11_window_94 : decode cX11_window 94 = .ok (.iload_n 1, 1) := by decide +kernel
theorem dX11_window_95 : decode cX11_window 95 = .ok (.iload_n 3, 1) := by decide +kernel
theorem dX11_window_96 : decode cX11_window 96 = .ok (.invokevirtual 115, 3) := by decide +kernel
theorem dX11_window_99 : decode cX11_window 99 = .ok (.invokestatic 172, 3) := by decide +kernel
theorem dX11_window_102 : decode cX11_window 102 = .ok (.if_icmp .ge 142, 3) := by decide +kernel
theorem dX11_window_105 : decode cX11_window 105 = .ok (.iconst 0, 1) := by decide +kernel
theorem dX11_window_106 : decode cX11_window 106 = .ok (.istore 11, 2) := by decide +kernel
theorem dX11_window_108 : decode cX11_window 108 = .ok (.iconst 0, 1) := by decide +kernel
theorem dX11_window_109 : decode cX11_window 109 = .ok (.istore 12, 2) := by decide +kernel
theorem dX11_window_111 : decode cX11_window 111 = .ok (.iload 12, 2) := by decide +kernel
theorem dX11_window_113 : decode cX11_window 113 = .ok (.aload_n 0, 1) := by decide +kernel
theorem dX11_window_114 : decode cX11_window 114 = .ok (.getfield 85, 3) := by decide +kernel
theorem dX11_window_117 : decode cX11_window 117 = .ok (.if_icmp .ge 60, 3) := by decide +kernel
theorem dX11_window_120 : decode cX11_window 120 = .ok (.iload 11, 2) := by decide +kernel
theorem dX11_window_122 : decode cX11_window 122 = .ok (.iload 5, 2) := by decide +kernel
theorem dX11_window_124 : decode cX11_window 124 = .ok (.iload 12, 2) := by decide +kernel
theorem dX11_window_126 : decode cX11_window 126 = .ok (.ishr, 1) := by decide +kernel
theorem dX11_window_127 : decode cX11_window 127 = .ok (.iconst 1, 1) := by decide +kernel
theorem dX11_window_128 : decode cX11_window 128 = .ok (.iand, 1) := by decide +kernel
theorem dX11_window_129 : decode cX11_window 129 = .ok (.ifCond .eq 38, 3) := by decide +kernel
theorem dX11_window_132 : decode cX11_window 132 = .ok (.aload_n 0, 1) := by decide +kernel
theorem dX11_window_133 : decode cX11_window 133 = .ok (.getfield 50, 3) := by decide +kernel
theorem dX11_window_136 : decode cX11_window 136 = .ok (.iload 12, 2) := by decide +kernel
theorem dX11_window_138 : decode cX11_window 138 = .ok (.iaload, 1) := by decide +kernel
theorem dX11_window_139 : decode cX11_window 139 = .ok (.iload_n 3, 1) := by decide +kernel
theorem dX11_window_140 : decode cX11_window 140 = .ok (.ishr, 1) := by decide +kernel
theorem dX11_window_141 : decode cX11_window 141 = .ok (.iconst 1, 1) := by decide +kernel
theorem dX11_window_142 : decode cX11_window 142 = .ok (.iand, 1) := by decide +kernel
theorem dX11_window_143 : decode cX11_window 143 = .ok (.ifCond .eq 24, 3) := by decide +kernel
theorem dX11_window_146 : decode cX11_window 146 = .ok (.aload_n 0, 1) := by decide +kernel
theorem dX11_window_147 : decode cX11_window 147 = .ok (.iload 12, 2) := by decide +kernel
theorem dX11_window_149 : decode cX11_window 149 = .ok (.aload_n 0, 1) := by decide +kernel
theorem dX11_window_150 : decode cX11_window 150 = .ok (.iload_n 1, 1) := by decide +kernel
theorem dX11_window_151 : decode cX11_window 151 = .ok (.iload_n 3, 1) := by decide +kernel
theorem dX11_window_152 : decode cX11_window 152 = .ok (.iload 10, 2) := by decide +kernel
theorem dX11_window_154 : decode cX11_window 154 = .ok (.invokevirtual 119, 3) := by decide +kernel
theorem dX11_window_157 : decode cX11_window 157 = .ok (.invokevirtual 190, 3) := by decide +kernel
theorem dX11_window_160 : decode cX11_window 160 = .ok (.ifCond .eq 7, 3) := by decide +kernel
theorem dX11_window_163 : decode cX11_window 163 = .ok (.iconst 1, 1) := by decide +kernel
theorem dX11_window_164 : decode cX11_window 164 = .ok (.goto 4, 3) := by decide +kernel
theorem dX11_window_167 : decode cX11_window 167 = .ok (.iconst 0, 1) := by decide +kernel
theorem dX11_window_168 : decode cX11_window 168 = .ok (.ior, 1) := by decide +kernel
theorem dX11_window_169 : decode cX11_window 169 = .ok (.istore 11, 2) := by decide +kernel
theorem dX11_window_171 : decode cX11_window 171 = .ok (.iinc 12 1, 3) := by decide +kernel
theorem dX11_window_174 : decode cX11_window 174 = .ok (.goto (-63), 3) := by decide +kernel
theorem dX11_window_177 : decode cX11_window 177 = .ok (.iload 8, 2) := by decide +kernel
theorem dX11_window_179 : decode cX11_window 179 = .ok (.istore 12, 2) := by decide +kernel
theorem dX11_window_181 : decode cX11_window 181 = .ok (.iload 12, 2) := by decide +kernel
theorem dX11_window_183 : decode cX11_window 183 = .ok (.iload 10, 2) := by decide +kernel
theorem dX11_window_185 : decode cX11_window 185 = .ok (.if_icmp .ge 38, 3) := by decide +kernel
theorem dX11_window_188 : decode cX11_window 188 = .ok (.iload 11, 2) := by decide +kernel
theorem dX11_window_190 : decode cX11_window 190 = .ok (.aload_n 0, 1) := by decide +kernel
theorem dX11_window_191 : decode cX11_window 191 = .ok (.iload_n 1, 1) := by decide +kernel
theorem dX11_window_192 : decode cX11_window 192 = .ok (.iload_n 3, 1) := by decide +kernel
theorem dX11_window_193 : decode cX11_window 193 = .ok (.iload 12, 2) := by decide +kernel
theorem dX11_window_195 : decode cX11_window 195 = .ok (.invokevirtual 119, 3) := by decide +kernel
theorem dX11_window_198 : decode cX11_window 198 = .ok (.aload_n 0, 1) := by decide +kernel
theorem dX11_window_199 : decode cX11_window 199 = .ok (.iload_n 1, 1) := by decide +kernel
theorem dX11_window_200 : decode cX11_window 200 = .ok (.iload_n 3, 1) := by decide +kernel
theorem dX11_window_201 : decode cX11_window 201 = .ok (.iload 10, 2) := by decide +kernel
theorem dX11_window_203 : decode cX11_window 203 = .ok (.invokevirtual 119, 3) := by decide +kernel
theorem dX11_window_206 : decode cX11_window 206 = .ok (.if_icmp .eq 7, 3) := by decide +kernel
theorem dX11_window_209 : decode cX11_window 209 = .ok (.iconst 1, 1) := by decide +kernel
theorem dX11_window_210 : decode cX11_window 210 = .ok (.goto 4, 3) := by decide +kernel
theorem dX11_window_213 : decode cX11_window 213 = .ok (.iconst 0, 1) := by decide +kernel
theorem dX11_window_214 : decode cX11_window 214 = .ok (.iand, 1) := by decide +kernel
theorem dX11_window_215 : decode cX11_window 215 = .ok (.istore 11, 2) := by decide +kernel
theorem dX11_window_217 : decode cX11_window 217 = .ok (.iinc 12 1, 3) := by decide +kernel
theorem dX11_window_220 : decode cX11_window 220 = .ok (.goto (-39), 3) := by decide +kernel
theorem dX11_window_223 : decode cX11_window 223 = .ok (.iload 9, 2) := by decide +kernel
theorem dX11_window_225 : decode cX11_window 225 = .ok (.iload 11, 2) := by decide +kernel
theorem dX11_window_227 : decode cX11_window 227 = .ok (.ifCond .eq 7, 3) := by decide +kernel
theorem dX11_window_230 : decode cX11_window 230 = .ok (.iconst 1, 1) := by decide +kernel
theorem dX11_window_231 : decode cX11_window 231 = .ok (.goto 4, 3) := by decide +kernel
theorem dX11_window_234 : decode cX11_window 234 = .ok (.iconst 0, 1) := by decide +kernel
theorem dX11_window_235 : decode cX11_window 235 = .ok (.iadd, 1) := by decide +kernel
theorem dX11_window_236 : decode cX11_window 236 = .ok (.istore 9, 2) := by decide +kernel
theorem dX11_window_238 : decode cX11_window 238 = .ok (.iinc 10 1, 3) := by decide +kernel
theorem dX11_window_241 : decode cX11_window 241 = .ok (.goto (-155), 3) := by decide +kernel
theorem dX11_window_244 : decode cX11_window 244 = .ok (.iload 9, 2) := by decide +kernel
theorem dX11_window_246 : decode cX11_window 246 = .ok (.iload 7, 2) := by decide +kernel
theorem dX11_window_248 : decode cX11_window 248 = .ok (.if_icmp .le 11, 3) := by decide +kernel
theorem dX11_window_251 : decode cX11_window 251 = .ok (.iload 8, 2) := by decide +kernel
theorem dX11_window_253 : decode cX11_window 253 = .ok (.istore 6, 2) := by decide +kernel
theorem dX11_window_255 : decode cX11_window 255 = .ok (.iload 9, 2) := by decide +kernel
theorem dX11_window_257 : decode cX11_window 257 = .ok (.istore 7, 2) := by decide +kernel
theorem dX11_window_259 : decode cX11_window 259 = .ok (.iinc 8 1, 3) := by decide +kernel
theorem dX11_window_262 : decode cX11_window 262 = .ok (.goto (-194), 3) := by decide +kernel
theorem dX11_window_265 : decode cX11_window 265 = .ok (.iload 6, 2) := by decide +kernel
theorem dX11_window_267 : decode cX11_window 267 = .ok (.ireturn, 1) := by decide +kernel
theorem dX11_isThere_0 : decode cX11_isThere 0 = .ok (.aload_n 0, 1) := by decide +kernel
theorem dX11_isThere_1 : decode cX11_isThere 1 = .ok (.getfield 20, 3) := by decide +kernel
theorem dX11_isThere_4 : decode cX11_isThere 4 = .ok (.iload_n 1, 1) := by decide +kernel
theorem dX11_isThere_5 : decode cX11_isThere 5 = .ok (.baload, 1) := by decide +kernel
theorem dX11_isThere_6 : decode cX11_isThere 6 = .ok (.ifCond .eq 16, 3) := by decide +kernel
theorem dX11_isThere_9 : decode cX11_isThere 9 = .ok (.aload_n 0, 1) := by decide +kernel
theorem dX11_isThere_10 : decode cX11_isThere 10 = .ok (.getfield 16, 3) := by decide +kernel
theorem dX11_isThere_13 : decode cX11_isThere 13 = .ok (.iload_n 1, 1) := by decide +kernel
theorem dX11_isThere_14 : decode cX11_isThere 14 = .ok (.baload, 1) := by decide +kernel
theorem dX11_isThere_15 : decode cX11_isThere 15 = .ok (.ifCond .ne 7, 3) := by decide +kernel
theorem dX11_isThere_18 : decode cX11_isThere 18 = .ok (.iconst 1, 1) := by decide +kernel
theorem dX11_isThere_19 : decode cX11_isThere 19 = .ok (.goto 4, 3) := by decide +kernel
theorem dX11_isThere_22 : decode cX11_isThere 22 = .ok (.iconst 0, 1) := by decide +kernel
theorem dX11_isThere_23 : decode cX11_isThere 23 = .ok (.ireturn, 1) := by decide +kernel
set_option maxRecDepth 20000 in
theorem ggX11_likeNow_X11_isThere : GoodIn wsX11_likeNow wsX11_isThere := goodIn_r _ [6, 7, 8, 47, 48, 49, 50, 51, 52, 53, 54, 55, 56, 57, 58, 59, 60, 61, 62, 63, 64, 65, 66, 67, 68, 69, 70, 71, 72, 73, 74, 75, 76] (by decide +kernel) (by decide +kernel)
set_option maxRecDepth 20000 in
theorem gX11_likeNow_X11_isThere : GoodIn wsX11_likeNow (wsV RX11 216 RX11 yX11_isThere wsX11_isThere) := goodIn_app (goodIn_of _ (by decide +kernel)) ggX11_likeNow_X11_isThere
set_option maxRecDepth 20000 in
theorem ggX11_likeNow_X11_many : GoodIn wsX11_likeNow wsX11_many := goodIn_r _ [12, 13, 47, 48, 49, 50, 51, 52, 53, 54, 55, 56, 57, 58, 59, 60, 61, 62, 63, 64, 65, 66, 67, 68, 69, 70, 71, 72, 73, 74, 75, 76] (by decide +kernel) (by decide +kernel)
set_option maxRecDepth 20000 in
theorem gX11_likeNow_X11_many : GoodIn wsX11_likeNow (wsV RX11 115 RX11 yX11_many wsX11_many) := goodIn_app (goodIn_of _ (by decide +kernel)) ggX11_likeNow_X11_many
set_option maxRecDepth 20000 in
theorem ggX11_likeNow_X11_at : GoodIn wsX11_likeNow wsX11_at := goodIn_r _ [17, 18, 47, 48, 49, 50, 51, 52, 53, 54, 55, 56, 57, 58, 59, 60, 61, 62, 63, 64, 65, 66, 67, 68, 69, 70, 71, 72, 73, 74, 75, 76] (by decide +kernel) (by decide +kernel)
set_option maxRecDepth 20000 in
theorem gX11_likeNow_X11_at : GoodIn wsX11_likeNow (wsV RX11 119 RX11 yX11_at wsX11_at) := goodIn_app (goodIn_of _ (by decide +kernel)) ggX11_likeNow_X11_at
set_option maxRecDepth 20000 in
theorem ggX11_likeNow_X11_count : GoodIn wsX11_likeNow wsX11_count := goodIn_r _ [22, 23, 9, 10, 11, 5, 12, 13, 14, 15, 16, 17, 18, 47, 48, 49, 50, 51, 52, 53, 54, 55, 56, 57, 58, 59, 60, 61, 62, 63, 64, 65, 66, 67, 68, 69, 70, 71, 72, 73, 74, 75, 76] (by decide +kernel) (by decide +kernel)
set_option maxRecDepth 20000 in
theorem gX11_likeNow_X11_count : GoodIn wsX11_likeNow (wsV RX11 158 RX11 yX11_count wsX11_count) := goodIn_app (goodIn_of _ (by decide +kernel)) ggX11_likeNow_X11_count
set_option maxRecDepth 20000 in
theorem ggX11_likeNow_X11_rareNow : GoodIn wsX11_likeNow wsX11_rareNow := goodIn_r _ [27, 28, 29, 30, 5, 31, 32, 33, 34, 35, 36, 37, 38, 39, 1, 7, 9, 10, 11, 12, 13, 14, 15, 16, 17, 18, 40, 41, 42, 43, 44, 45, 46, 47, 48, 49, 50, 51, 52, 53, 54, 55, 56, 57, 58, 59, 60, 61, 62, 63, 64, 65, 66, 67, 68, 69, 70, 71, 72, 73, 74, 75, 76] (by decide +kernel) (by decide +kernel)
set_option maxRecDepth 20000 in
theorem gX11_likeNow_X11_rareNow : GoodIn wsX11_likeNow (wsV RX11 155 RX11 yX11_rareNow wsX11_rareNow) := goodIn_app (goodIn_of _ (by decide +kernel)) ggX11_likeNow_X11_rareNow
theorem dX11_likeNow_0 : decode cX11_likeNow 0 = .ok (.iconst (-1), 1) := by decide +kernel
theorem dX11_likeNow_1 : decode cX11_likeNow 1 = .ok (.istore_n 2, 1) := by decide +kernel
theorem dX11_likeNow_2 : decode cX11_likeNow 2 = .ok (.iconst 0, 1) := by decide +kernel
theorem dX11_likeNow_3 : decode cX11_likeNow 3 = .ok (.istore_n 3, 1) := by decide +kernel
theorem dX11_likeNow_4 : decode cX11_likeNow 4 = .ok (.iconst 0, 1) := by decide +kernel
theorem dX11_likeNow_5 : decode cX11_likeNow 5 = .ok (.istore 4, 2) := by decide +kernel
theorem dX11_likeNow_7 : decode cX11_likeNow 7 = .ok (.iload 4, 2) := by decide +kernel
theorem dX11_likeNow_9 : decode cX11_likeNow 9 = .ok (.aload_n 0, 1) := by decide +kernel
theorem dX11_likeNow_10 : decode cX11_likeNow 10 = .ok (.getfield 82, 3) := by decide +kernel
theorem dX11_likeNow_13 : decode cX11_likeNow 13 = .ok (.if_icmp .ge 171, 3) := by decide +kernel
theorem dX11_likeNow_16 : decode cX11_likeNow 16 = .ok (.iload 4, 2) := by decide +kernel
theorem dX11_likeNow_18 : decode cX11_likeNow 18 = .ok (.iload_n 1, 1) := by decide +kernel
theorem dX11_likeNow_19 : decode cX11_likeNow 19 = .ok (.if_icmp .eq 159, 3) := by decide +kernel
theorem dX11_likeNow_22 : decode cX11_likeNow 22 = .ok (.aload_n 0, 1) := by decide +kernel
theorem dX11_likeNow_23 : decode cX11_likeNow 23 = .ok (.iload 4, 2) := by decide +kernel
theorem dX11_likeNow_25 : decode cX11_likeNow 25 = .ok (.invokevirtual 216, 3) := by decide +kernel
theorem dX11_likeNow_28 : decode cX11_likeNow 28 = .ok (.ifCond .ne 6, 3) := by decide +kernel
theorem dX11_likeNow_31 : decode cX11_likeNow 31 = .ok (.goto 147, 3) := by decide +kernel
theorem dX11_likeNow_34 : decode cX11_likeNow 34 = .ok (.iconst 0, 1) := by decide +kernel
theorem dX11_likeNow_35 : decode cX11_likeNow 35 = .ok (.istore 5, 2) := by decide +kernel
theorem dX11_likeNow_37 : decode cX11_likeNow 37 = .ok (.iconst 0, 1) := by decide +kernel
theorem dX11_likeNow_38 : decode cX11_likeNow 38 = .ok (.istore 6, 2) := by decide +kernel
theorem dX11_likeNow_40 : decode cX11_likeNow 40 = .ok (.iload 6, 2) := by decide +kernel
theorem dX11_likeNow_42 : decode cX11_likeNow 42 = .ok (.iconst 3, 1) := by decide +kernel
theorem dX11_likeNow_43 : decode cX11_likeNow 43 = .ok (.if_icmp .ge 123, 3) := by decide +kernel
theorem dX11_likeNow_46 : decode cX11_likeNow 46 = .ok (.iconst 0, 1) := by decide +kernel
theorem dX11_likeNow_47 : decode cX11_likeNow 47 = .ok (.istore 7, 2) := by decide +kernel
theorem dX11_likeNow_49 : decode cX11_likeNow 49 = .ok (.iload 7, 2) := by decide +kernel
theorem dX11_likeNow_51 : decode cX11_likeNow 51 = .ok (.aload_n 0, 1) := by decide +kernel
theorem dX11_likeNow_52 : decode cX11_likeNow 52 = .ok (.iload_n 1, 1) := by decide +kernel
theorem dX11_likeNow_53 : decode cX11_likeNow 53 = .ok (.iload 6, 2) := by decide +kernel
theorem dX11_likeNow_55 : decode cX11_likeNow 55 = .ok (.invokevirtual 115, 3) := by decide +kernel
theorem dX11_likeNow_58 : decode cX11_likeNow 58 = .ok (.if_icmp .ge 102, 3) := by decide +kernel
theorem dX11_likeNow_61 : decode cX11_likeNow 61 = .ok (.aload_n 0, 1) := by decide +kernel
theorem dX11_likeNow_62 : decode cX11_likeNow 62 = .ok (.iload_n 1, 1) := by decide +kernel
theorem dX11_likeNow_63 : decode cX11_likeNow 63 = .ok (.iload 6, 2) := by decide +kernel
theorem dX11_likeNow_65 : decode cX11_likeNow 65 = .ok (.iload 7, 2) := by decide +kernel
theorem dX11_likeNow_67 : decode cX11_likeNow 67 = .ok (.invokevirtual 119, 3) := by decide +kernel
theorem dX11_likeNow_70 : decode cX11_likeNow 70 = .ok (.istore 8, 2) := by decide +kernel
theorem dX11_likeNow_72 : decode cX11_likeNow 72 = .ok (.aload_n 0, 1) := by decide +kernel
theorem dX11_likeNow_73 : decode cX11_likeNow 73 = .ok (.iload 4, 2) := by decide +kernel
theorem dX11_likeNow_75 : decode cX11_likeNow 75 = .ok (.iload 6, 2) := by decide +kernel
theorem dX11_likeNow_77 : decode cX11_likeNow 77 = .ok (.iload 8, 2) := by decide +kernel
theorem dX11_likeNow_79 : decode cX11_likeNow 79 = .ok (.invokevirtual 158, 3) := by decide +kernel
theorem dX11_likeNow_82 : decode cX11_likeNow 82 = .ok (.ifCond .le 7, 3) := by decide +kernel
theorem dX11_likeNow_85 : decode cX11_likeNow 85 = .ok (.iconst 1, 1) := by decide +kernel
theorem dX11_likeNow_86 : decode cX11_likeNow 86 = .ok (.goto 4, 3) := by decide +kernel
theorem dX11_likeNow_89 : decode cX11_likeNow 89 = .ok (.iconst 0, 1) := by decide +kernel
theorem dX11_likeNow_90 : decode cX11_likeNow 90 = .ok (.istore 9, 2) := by decide +kernel
theorem dX11_likeNow_92 : decode cX11_likeNow 92 = .ok (.iconst 0, 1) := by decide +kernel
theorem dX11_likeNow_93 : decode cX11_likeNow 93 = .ok (.istore 10, 2) := by decide +kernel
theorem dX11_likeNow_95 : decode cX11_likeNow 95 = .ok (.iload 10, 2) := by decide +kernel
theorem dX11_likeNow_97 : decode cX11_likeNow 97 = .ok (.iload 7, 2) := by decide +kernel
theorem dX11_likeNow_99 : decode cX11_likeNow 99 = .ok (.if_icmp .ge 33, 3) := by decide +kernel
theorem dX11_likeNow_102 : decode cX11_likeNow 102 = .ok (.iload 9, 2) := by decide +kernel
theorem dX11_likeNow_104 : decode cX11_likeNow 104 = .ok (.aload_n 0, 1) := by decide +kernel
theorem dX11_likeNow_105 : decode cX11_likeNow 105 = .ok (.iload_n 1, 1) := by decide +kernel
theorem dX11_likeNow_106 : decode cX11_likeNow 106 = .ok (.iload 6, 2) := by decide +kernel
theorem dX11_likeNow_108 : decode cX11_likeNow 108 = .ok (.iload 10, 2) := by decide +kernel
theorem dX11_likeNow_110 : decode cX11_likeNow 110 = .ok (.invokevirtual 119, 3) := by decide +kernel
theorem dX11_likeNow_113 : decode cX11_likeNow 113 = .ok (.iload 8, 2) := by decide +kernel
theorem dX11_likeNow_115 : decode cX11_likeNow 115 = .ok (.if_icmp .eq 7, 3) := by decide +kernel
theorem dX11_likeNow_118 : decode cX11_likeNow 118 = .ok (.iconst 1, 1) := by decide +kernel
theorem dX11_likeNow_119 : decode cX11_likeNow 119 = .ok (.goto 4, 3) := by decide +kernel
theorem dX11_likeNow_122 : decode cX11_likeNow 122 = .ok (.iconst 0, 1) := by decide +kernel
theorem dX11_likeNow_123 : decode cX11_likeNow 123 = .ok (.iand, 1) := by decide +kernel
theorem dX11_likeNow_124 : decode cX11_likeNow 124 = .ok (.istore 9, 2) := by decide +kernel
theorem dX11_likeNow_126 : decode cX11_likeNow 126 = .ok (.iinc 10 1, 3) := by decide +kernel
theorem dX11_likeNow_129 : decode cX11_likeNow 129 = .ok (.goto (-34), 3) := by decide +kernel
theorem dX11_likeNow_132 : decode cX11_likeNow 132 = .ok (.iload 5, 2) := by decide +kernel
theorem dX11_likeNow_134 : decode cX11_likeNow 134 = .ok (.iload 9, 2) := by decide +kernel
theorem dX11_likeNow_136 : decode cX11_likeNow 136 = .ok (.ifCond .eq 14, 3) := by decide +kernel
theorem dX11_likeNow_139 : decode cX11_likeNow 139 = .ok (.aload_n 0, 1) := by decide +kernel
theorem dX11_likeNow_140 : decode cX11_likeNow 140 = .ok (.iload 8, 2) := by decide +kernel
theorem dX11_likeNow_142 : decode cX11_likeNow 142 = .ok (.iload 6, 2) := by decide +kernel
theorem dX11_likeNow_144 : decode cX11_likeNow 144 = .ok (.invokevirtual 155, 3) := by decide +kernel
theorem dX11_likeNow_147 : decode cX11_likeNow 147 = .ok (.goto 4, 3) := by decide +kernel
theorem dX11_likeNow_150 : decode cX11_likeNow 150 = .ok (.iconst 0, 1) := by decide +kernel
theorem dX11_likeNow_151 : decode cX11_likeNow 151 = .ok (.iadd, 1) := by decide +kernel
theorem dX11_likeNow_152 : decode cX11_likeNow 152 = .ok (.istore 5, 2) := by decide +kernel
theorem dX11_likeNow_154 : decode cX11_likeNow 154 = .ok (.iinc 7 1, 3) := by decide +kernel
theorem dX11_likeNow_157 : decode cX11_likeNow 157 = .ok (.goto (-108), 3) := by decide +kernel
theorem dX11_likeNow_160 : decode cX11_likeNow 160 = .ok (.iinc 6 1, 3) := by decide +kernel
theorem dX11_likeNow_163 : decode cX11_likeNow 163 = .ok (.goto (-123), 3) := by decide +kernel
theorem dX11_likeNow_166 : decode cX11_likeNow 166 = .ok (.iload 5, 2) := by decide +kernel
theorem dX11_likeNow_168 : decode cX11_likeNow 168 = .ok (.iload_n 3, 1) := by decide +kernel
theorem dX11_likeNow_169 : decode cX11_likeNow 169 = .ok (.if_icmp .le 9, 3) := by decide +kernel
theorem dX11_likeNow_172 : decode cX11_likeNow 172 = .ok (.iload 4, 2) := by decide +kernel
theorem dX11_likeNow_174 : decode cX11_likeNow 174 = .ok (.istore_n 2, 1) := by decide +kernel
theorem dX11_likeNow_175 : decode cX11_likeNow 175 = .ok (.iload 5, 2) := by decide +kernel
theorem dX11_likeNow_177 : decode cX11_likeNow 177 = .ok (.istore_n 3, 1) := by decide +kernel
theorem dX11_likeNow_178 : decode cX11_likeNow 178 = .ok (.iinc 4 1, 3) := by decide +kernel
theorem dX11_likeNow_181 : decode cX11_likeNow 181 = .ok (.goto (-174), 3) := by decide +kernel
theorem dX11_likeNow_184 : decode cX11_likeNow 184 = .ok (.iload_n 2, 1) := by decide +kernel
theorem dX11_likeNow_185 : decode cX11_likeNow 185 = .ok (.ireturn, 1) := by decide +kernel
set_option maxRecDepth 20000 in
theorem ggX11_like_X11_isDocument : GoodIn wsX11_like wsX11_isDocument := goodIn_r _ [6, 7, 8, 9, 5, 10, 63, 64, 65, 66, 67, 68, 69, 70, 71, 72, 73, 74, 75, 76, 77, 78, 79, 80, 81, 82, 83, 84, 85, 86, 87, 88, 89, 90, 91, 92] (by decide +kernel) (by decide +kernel)
set_option maxRecDepth 20000 in
theorem gX11_like_X11_isDocument : GoodIn wsX11_like (wsV RX11 106 RX11 yX11_isDocument wsX11_isDocument) := goodIn_app (goodIn_of _ (by decide +kernel)) ggX11_like_X11_isDocument
set_option maxRecDepth 20000 in
theorem ggX11_like_X11_likeNow : GoodIn wsX11_like wsX11_likeNow := goodIn_r _ [14, 7, 15, 16, 17, 5, 18, 19, 20, 21, 22, 23, 24, 25, 26, 27, 28, 29, 30, 31, 32, 33, 34, 35, 36, 37, 38, 39, 40, 41, 42, 43, 44, 45, 46, 47, 48, 49, 50, 51, 52, 53, 54, 55, 56, 57, 58, 63, 64, 65, 66, 67, 68, 69, 70, 71, 72, 73, 74, 75, 76, 77, 78, 79, 80, 81, 82, 83, 84, 85, 86, 87, 88, 89, 90, 91, 92] (by decide +kernel) (by decide +kernel)
set_option maxRecDepth 20000 in
theorem gX11_like_X11_likeNow : GoodIn wsX11_like (wsV RX11 219 RX11 yX11_likeNow wsX11_likeNow) := goodIn_app (goodIn_of _ (by decide +kernel)) ggX11_like_X11_likeNow
set_option maxRecDepth 20000 in
theorem ggX11_like_X11_no : GoodIn wsX11_like wsX11_no := goodIn_r _ [62, 1, 63, 64, 65, 66, 67, 68, 69, 70, 71, 72, 73, 74, 75, 76, 77, 78, 79, 80, 81, 82, 83, 84, 85, 86, 87, 88, 89, 90, 91, 92] (by decide +kernel) (by decide +kernel)
set_option maxRecDepth 20000 in
theorem gX11_like_X11_no : GoodIn wsX11_like (wsV RX11 88 RX11 yX11_no wsX11_no) := goodIn_app (goodIn_of _ (by decide +kernel)) ggX11_like_X11_no
theorem dX11_like_0 : decode cX11_like 0 = .ok (.aload_n 0, 1) := by decide +kernel
theorem dX11_like_1 : decode cX11_like 1 = .ok (.iconst 0, 1) := by decide +kernel
theorem dX11_like_2 : decode cX11_like 2 = .ok (.putfield 74, 3) := by decide +kernel
theorem dX11_like_5 : decode cX11_like 5 = .ok (.aload_n 0, 1) := by decide +kernel
theorem dX11_like_6 : decode cX11_like 6 = .ok (.iload_n 1, 1) := by decide +kernel
theorem dX11_like_7 : decode cX11_like 7 = .ok (.invokevirtual 106, 3) := by decide +kernel
theorem dX11_like_10 : decode cX11_like 10 = .ok (.ifCond .eq 11, 3) := by decide +kernel
theorem dX11_like_13 : decode cX11_like 13 = .ok (.aload_n 0, 1) := by decide +kernel
theorem dX11_like_14 : decode cX11_like 14 = .ok (.iload_n 1, 1) := by decide +kernel
theorem dX11_like_15 : decode cX11_like 15 = .ok (.invokevirtual 219, 3) := by decide +kernel
theorem dX11_like_18 : decode cX11_like 18 = .ok (.goto 8, 3) := by decide +kernel
theorem dX11_like_21 : decode cX11_like 21 = .ok (.aload_n 0, 1) := by decide +kernel
theorem dX11_like_22 : decode cX11_like 22 = .ok (.iconst 1, 1) := by decide +kernel
theorem dX11_like_23 : decode cX11_like 23 = .ok (.invokevirtual 88, 3) := by decide +kernel
theorem dX11_like_26 : decode cX11_like 26 = .ok (.ireturn, 1) := by decide +kernel
set_option maxRecDepth 20000 in
theorem ggX11_has_X11_count : GoodIn wsX11_has wsX11_count := goodIn_r _ [5, 6, 7, 8, 9, 4, 10, 11, 12, 13, 14, 15, 16, 17, 18, 19, 20, 21, 22, 23, 24, 25, 26, 27, 28, 29, 30, 31, 32, 33, 34, 35, 36, 37, 38, 39, 40, 41, 42, 43, 44, 45, 46] (by decide +kernel) (by decide +kernel)
set_option maxRecDepth 20000 in
theorem gX11_has_X11_count : GoodIn wsX11_has (wsV RX11 158 RX11 yX11_count wsX11_count) := goodIn_app (goodIn_of _ (by decide +kernel)) ggX11_has_X11_count
theorem dX11_has_0 : decode cX11_has 0 = .ok (.aload_n 0, 1) := by decide +kernel
theorem dX11_has_1 : decode cX11_has 1 = .ok (.iload_n 1, 1) := by decide +kernel
theorem dX11_has_2 : decode cX11_has 2 = .ok (.iconst 0, 1) := by decide +kernel
theorem dX11_has_3 : decode cX11_has 3 = .ok (.iload_n 2, 1) := by decide +kernel
theorem dX11_has_4 : decode cX11_has 4 = .ok (.invokevirtual 158, 3) := by decide +kernel
theorem dX11_has_7 : decode cX11_has 7 = .ok (.aload_n 0, 1) := by decide +kernel
theorem dX11_has_8 : decode cX11_has 8 = .ok (.iload_n 1, 1) := by decide +kernel
theorem dX11_has_9 : decode cX11_has 9 = .ok (.iconst 1, 1) := by decide +kernel
theorem dX11_has_10 : decode cX11_has 10 = .ok (.iload_n 2, 1) := by decide +kernel
theorem dX11_has_11 : decode cX11_has 11 = .ok (.invokevirtual 158, 3) := by decide +kernel
theorem dX11_has_14 : decode cX11_has 14 = .ok (.iadd, 1) := by decide +kernel
theorem dX11_has_15 : decode cX11_has 15 = .ok (.aload_n 0, 1) := by decide +kernel
theorem dX11_has_16 : decode cX11_has 16 = .ok (.iload_n 1, 1) := by decide +kernel
theorem dX11_has_17 : decode cX11_has 17 = .ok (.iconst 2, 1) := by decide +kernel
theorem dX11_has_18 : decode cX11_has 18 = .ok (.iload_n 2, 1) := by decide +kernel
theorem dX11_has_19 : decode cX11_has 19 = .ok (.invokevirtual 158, 3) := by decide +kernel
theorem dX11_has_22 : decode cX11_has 22 = .ok (.iadd, 1) := by decide +kernel
theorem dX11_has_23 : decode cX11_has 23 = .ok (.ifCond .le 7, 3) := by decide +kernel
theorem dX11_has_26 : decode cX11_has 26 = .ok (.iconst 1, 1) := by decide +kernel
theorem dX11_has_27 : decode cX11_has 27 = .ok (.goto 4, 3) := by decide +kernel
theorem dX11_has_30 : decode cX11_has 30 = .ok (.iconst 0, 1) := by decide +kernel
theorem dX11_has_31 : decode cX11_has 31 = .ok (.ireturn, 1) := by decide +kernel
set_option maxRecDepth 20000 in
theorem ggX11_mate_X11_isTerm : GoodIn wsX11_mate wsX11_isTerm := goodIn_r _ [7, 8, 9, 6, 10] (by decide +kernel) (by decide +kernel)
set_option maxRecDepth 20000 in
theorem gX11_mate_X11_isTerm : GoodIn wsX11_mate (va_wsS RX11 100 yX11_isTerm wsX11_isTerm) := goodIn_app (goodIn_of _ (by decide +kernel)) ggX11_mate_X11_isTerm
set_option maxRecDepth 20000 in
theorem ggX11_mate_X11_no : GoodIn wsX11_mate wsX11_no := goodIn_r _ [14, 1, 39, 40, 41, 42, 43, 44, 45, 46, 47, 48, 49, 50, 51, 52, 53, 54, 55, 56, 57, 58, 59, 60, 61, 62, 63, 64, 65, 66, 67, 68] (by decide +kernel) (by decide +kernel)
set_option maxRecDepth 20000 in
theorem gX11_mate_X11_no : GoodIn wsX11_mate (wsV RX11 88 RX11 yX11_no wsX11_no) := goodIn_app (goodIn_of _ (by decide +kernel)) ggX11_mate_X11_no
set_option maxRecDepth 20000 in
theorem ggX11_mate_X11_isThere : GoodIn wsX11_mate wsX11_isThere := goodIn_r _ [18, 19, 20, 39, 40, 41, 42, 43, 44, 45, 46, 47, 48, 49, 50, 51, 52, 53, 54, 55, 56, 57, 58, 59, 60, 61, 62, 63, 64, 65, 66, 67, 68] (by decide +kernel) (by decide +kernel)
set_option maxRecDepth 20000 in
theorem gX11_mate_X11_isThere : GoodIn wsX11_mate (wsV RX11 216 RX11 yX11_isThere wsX11_isThere) := goodIn_app (goodIn_of _ (by decide +kernel)) ggX11_mate_X11_isThere
set_option maxRecDepth 20000 in
theorem ggX11_mate_X11_has : GoodIn wsX11_mate wsX11_has := goodIn_r _ [24, 25, 26, 27, 6, 28, 2, 29, 30, 31, 32, 33, 34, 35, 36, 37, 38, 39, 40, 41, 42, 43, 44, 45, 46, 47, 48, 49, 50, 51, 52, 53, 54, 55, 56, 57, 58, 59, 60, 61, 62, 63, 64, 65, 66, 67, 68] (by decide +kernel) (by decide +kernel)
set_option maxRecDepth 20000 in
theorem gX11_mate_X11_has : GoodIn wsX11_mate (wsV RX11 222 RX11 yX11_has wsX11_has) := goodIn_app (goodIn_of _ (by decide +kernel)) ggX11_mate_X11_has
theorem dX11_mate_0 : decode cX11_mate 0 = .ok (.aload_n 0, 1) := by decide +kernel
theorem dX11_mate_1 : decode cX11_mate 1 = .ok (.iconst 0, 1) := by decide +kernel
theorem dX11_mate_2 : decode cX11_mate 2 = .ok (.putfield 74, 3) := by decide +kernel
theorem dX11_mate_5 : decode cX11_mate 5 = .ok (.iload_n 1, 1) := by decide +kernel
theorem dX11_mate_6 : decode cX11_mate 6 = .ok (.invokestatic 100, 3) := by decide +kernel
theorem dX11_mate_9 : decode cX11_mate 9 = .ok (.ifCond .eq 12, 3) := by decide +kernel
theorem dX11_mate_12 : decode cX11_mate 12 = .ok (.aload_n 0, 1) := by decide +kernel
theorem dX11_mate_13 : decode cX11_mate 13 = .ok (.getfield 29, 3) := by decide +kernel
theorem dX11_mate_16 : decode cX11_mate 16 = .ok (.iload_n 1, 1) := by decide +kernel
theorem dX11_mate_17 : decode cX11_mate 17 = .ok (.baload, 1) := by decide +kernel
theorem dX11_mate_18 : decode cX11_mate 18 = .ok (.ifCond .eq 9, 3) := by decide +kernel
theorem dX11_mate_21 : decode cX11_mate 21 = .ok (.aload_n 0, 1) := by decide +kernel
theorem dX11_mate_22 : decode cX11_mate 22 = .ok (.iconst 1, 1) := by decide +kernel
theorem dX11_mate_23 : decode cX11_mate 23 = .ok (.invokevirtual 88, 3) := by decide +kernel
theorem dX11_mate_26 : decode cX11_mate 26 = .ok (.ireturn, 1) := by decide +kernel
theorem dX11_mate_27 : decode cX11_mate 27 = .ok (.iconst (-1), 1) := by decide +kernel
theorem dX11_mate_28 : decode cX11_mate 28 = .ok (.istore_n 2, 1) := by decide +kernel
theorem dX11_mate_29 : decode cX11_mate 29 = .ok (.iconst 0, 1) := by decide +kernel
theorem dX11_mate_30 : decode cX11_mate 30 = .ok (.istore_n 3, 1) := by decide +kernel
theorem dX11_mate_31 : decode cX11_mate 31 = .ok (.iconst 0, 1) := by decide +kernel
theorem dX11_mate_32 : decode cX11_mate 32 = .ok (.istore 4, 2) := by decide +kernel
theorem dX11_mate_34 : decode cX11_mate 34 = .ok (.iconst 0, 1) := by decide +kernel
theorem dX11_mate_35 : decode cX11_mate 35 = .ok (.istore 5, 2) := by decide +kernel
theorem dX11_mate_37 : decode cX11_mate 37 = .ok (.iload 5, 2) := by decide +kernel
theorem dX11_mate_39 : decode cX11_mate 39 = .ok (.sipush 200, 3) := by decide +kernel
theorem dX11_mate_42 : decode cX11_mate 42 = .ok (.if_icmp .ge 132, 3) := by decide +kernel
theorem dX11_mate_45 : decode cX11_mate 45 = .ok (.iload 5, 2) := by decide +kernel
theorem dX11_mate_47 : decode cX11_mate 47 = .ok (.iload_n 1, 1) := by decide +kernel
theorem dX11_mate_48 : decode cX11_mate 48 = .ok (.if_icmp .eq 120, 3) := by decide +kernel
theorem dX11_mate_51 : decode cX11_mate 51 = .ok (.aload_n 0, 1) := by decide +kernel
theorem dX11_mate_52 : decode cX11_mate 52 = .ok (.getfield 29, 3) := by decide +kernel
theorem dX11_mate_55 : decode cX11_mate 55 = .ok (.iload 5, 2) := by decide +kernel
theorem dX11_mate_57 : decode cX11_mate 57 = .ok (.baload, 1) := by decide +kernel
theorem dX11_mate_58 : decode cX11_mate 58 = .ok (.ifCond .eq 6, 3) := by decide +kernel
theorem dX11_mate_61 : decode cX11_mate 61 = .ok (.goto 107, 3) := by decide +kernel
theorem dX11_mate_64 : decode cX11_mate 64 = .ok (.iconst 0, 1) := by decide +kernel
theorem dX11_mate_65 : decode cX11_mate 65 = .ok (.istore 6, 2) := by decide +kernel
theorem dX11_mate_67 : decode cX11_mate 67 = .ok (.iconst 0, 1) := by decide +kernel
theorem dX11_mate_68 : decode cX11_mate 68 = .ok (.istore 7, 2) := by decide +kernel
theorem dX11_mate_70 : decode cX11_mate 70 = .ok (.iconst 0, 1) := by decide +kernel
theorem dX11_mate_71 : decode cX11_mate 71 = .ok (.istore 8, 2) := by decide +kernel
theorem dX11_mate_73 : decode cX11_mate 73 = .ok (.iload 8, 2) := by decide +kernel
theorem dX11_mate_75 : decode cX11_mate 75 = .ok (.aload_n 0, 1) := by decide +kernel
theorem dX11_mate_76 : decode cX11_mate 76 = .ok (.getfield 82, 3) := by decide +kernel
theorem dX11_mate_79 : decode cX11_mate 79 = .ok (.if_icmp .ge 55, 3) := by decide +kernel
theorem dX11_mate_82 : decode cX11_mate 82 = .ok (.aload_n 0, 1) := by decide +kernel
theorem dX11_mate_83 : decode cX11_mate 83 = .ok (.iload 8, 2) := by decide +kernel
theorem dX11_mate_85 : decode cX11_mate 85 = .ok (.invokevirtual 216, 3) := by decide +kernel
theorem dX11_mate_88 : decode cX11_mate 88 = .ok (.ifCond .eq 40, 3) := by decide +kernel
theorem dX11_mate_91 : decode cX11_mate 91 = .ok (.aload_n 0, 1) := by decide +kernel
theorem dX11_mate_92 : decode cX11_mate 92 = .ok (.iload 8, 2) := by decide +kernel
theorem dX11_mate_94 : decode cX11_mate 94 = .ok (.iload 5, 2) := by decide +kernel
theorem dX11_mate_96 : decode cX11_mate 96 = .ok (.invokevirtual 222, 3) := by decide +kernel
theorem dX11_mate_99 : decode cX11_mate 99 = .ok (.ifCond .ne 6, 3) := by decide +kernel
theorem dX11_mate_102 : decode cX11_mate 102 = .ok (.goto 26, 3) := by decide +kernel
theorem dX11_mate_105 : decode cX11_mate 105 = .ok (.iinc 7 1, 3) := by decide +kernel
theorem dX11_mate_108 : decode cX11_mate 108 = .ok (.iload 6, 2) := by decide +kernel
theorem dX11_mate_110 : decode cX11_mate 110 = .ok (.aload_n 0, 1) := by decide +kernel
theorem dX11_mate_111 : decode cX11_mate 111 = .ok (.iload 8, 2) := by decide +kernel
theorem dX11_mate_113 : decode cX11_mate 113 = .ok (.iload_n 1, 1) := by decide +kernel
theorem dX11_mate_114 : decode cX11_mate 114 = .ok (.invokevirtual 222, 3) := by decide +kernel
theorem dX11_mate_117 : decode cX11_mate 117 = .ok (.ifCond .eq 7, 3) := by decide +kernel
theorem dX11_mate_120 : decode cX11_mate 120 = .ok (.iconst 1, 1) := by decide +kernel
theorem dX11_mate_121 : decode cX11_mate 121 = .ok (.goto 4, 3) := by decide +kernel
theorem dX11_mate_124 : decode cX11_mate 124 = .ok (.iconst 0, 1) := by decide +kernel
theorem dX11_mate_125 : decode cX11_mate 125 = .ok (.iadd, 1) := by decide +kernel
theorem dX11_mate_126 : decode cX11_mate 126 = .ok (.istore 6, 2) := by decide +kernel
theorem dX11_mate_128 : decode cX11_mate 128 = .ok (.iinc 8 1, 3) := by decide +kernel
theorem dX11_mate_131 : decode cX11_mate 131 = .ok (.goto (-58), 3) := by decide +kernel
theorem dX11_mate_134 : decode cX11_mate 134 = .ok (.iload 6, 2) := by decide +kernel
theorem dX11_mate_136 : decode cX11_mate 136 = .ok (.iload_n 3, 1) := by decide +kernel
theorem dX11_mate_137 : decode cX11_mate 137 = .ok (.if_icmp .gt 21, 3) := by decide +kernel
theorem dX11_mate_140 : decode cX11_mate 140 = .ok (.iload 6, 2) := by decide +kernel
theorem dX11_mate_142 : decode cX11_mate 142 = .ok (.iload_n 3, 1) := by decide +kernel
theorem dX11_mate_143 : decode cX11_mate 143 = .ok (.if_icmp .ne 25, 3) := by decide +kernel
theorem dX11_mate_146 : decode cX11_mate 146 = .ok (.iload 6, 2) := by decide +kernel
theorem dX11_mate_148 : decode cX11_mate 148 = .ok (.ifCond .le 20, 3) := by decide +kernel
theorem dX11_mate_151 : decode cX11_mate 151 = .ok (.iload 7, 2) := by decide +kernel
theorem dX11_mate_153 : decode cX11_mate 153 = .ok (.iload 4, 2) := by decide +kernel
theorem dX11_mate_155 : decode cX11_mate 155 = .ok (.if_icmp .ge 13, 3) := by decide +kernel
theorem dX11_mate_158 : decode cX11_mate 158 = .ok (.iload 5, 2) := by decide +kernel
theorem dX11_mate_160 : decode cX11_mate 160 = .ok (.istore_n 2, 1) := by decide +kernel
theorem dX11_mate_161 : decode cX11_mate 161 = .ok (.iload 6, 2) := by decide +kernel
theorem dX11_mate_163 : decode cX11_mate 163 = .ok (.istore_n 3, 1) := by decide +kernel
theorem dX11_mate_164 : decode cX11_mate 164 = .ok (.iload 7, 2) := by decide +kernel
theorem dX11_mate_166 : decode cX11_mate 166 = .ok (.istore 4, 2) := by decide +kernel
theorem dX11_mate_168 : decode cX11_mate 168 = .ok (.iinc 5 1, 3) := by decide +kernel
theorem dX11_mate_171 : decode cX11_mate 171 = .ok (.goto (-134), 3) := by decide +kernel
theorem dX11_mate_174 : decode cX11_mate 174 = .ok (.iload_n 2, 1) := by decide +kernel
theorem dX11_mate_175 : decode cX11_mate 175 = .ok (.ireturn, 1) := by decide +kernel
set_option maxRecDepth 20000 in
theorem ggX11_readOf_X11_spreadNow : GoodIn wsX11_readOf wsX11_spreadNow := goodIn_r _ [6, 7, 8, 9, 10, 5, 11, 12, 13, 14, 15, 16, 17, 18, 19, 20, 21, 22, 23, 24, 25, 26, 27, 28, 29, 30, 31, 32, 33, 34, 35, 36, 37, 38, 39, 40, 41, 42, 43, 44, 45, 46, 47, 48, 49, 50, 51, 52, 53, 54, 55, 56] (by decide +kernel) (by decide +kernel)
set_option maxRecDepth 20000 in
theorem gX11_readOf_X11_spreadNow : GoodIn wsX11_readOf (wsV RX11 149 RX11 yX11_spreadNow wsX11_spreadNow) := goodIn_app (goodIn_of _ (by decide +kernel)) ggX11_readOf_X11_spreadNow
theorem dX11_readOf_0 : decode cX11_readOf 0 = .ok (.aload_n 0, 1) := by decide +kernel
theorem dX11_readOf_1 : decode cX11_readOf 1 = .ok (.getfield 29, 3) := by decide +kernel
theorem dX11_readOf_4 : decode cX11_readOf 4 = .ok (.iload_n 1, 1) := by decide +kernel
theorem dX11_readOf_5 : decode cX11_readOf 5 = .ok (.baload, 1) := by decide +kernel
theorem dX11_readOf_6 : decode cX11_readOf 6 = .ok (.ifCond .eq 7, 3) := by decide +kernel
theorem dX11_readOf_9 : decode cX11_readOf 9 = .ok (.iconst 0, 1) := by decide +kernel
theorem dX11_readOf_10 : decode cX11_readOf 10 = .ok (.goto 9, 3) := by decide +kernel
theorem dX11_readOf_13 : decode cX11_readOf 13 = .ok (.aload_n 0, 1) := by decide +kernel
theorem dX11_readOf_14 : decode cX11_readOf 14 = .ok (.iload_n 1, 1) := by decide +kernel
theorem dX11_readOf_15 : decode cX11_readOf 15 = .ok (.iload_n 2, 1) := by decide +kernel
theorem dX11_readOf_16 : decode cX11_readOf 16 = .ok (.invokevirtual 149, 3) := by decide +kernel
theorem dX11_readOf_19 : decode cX11_readOf 19 = .ok (.ireturn, 1) := by decide +kernel
set_option maxRecDepth 20000 in
theorem ggX11_costNow_X11_termNodes : GoodIn wsX11_costNow wsX11_termNodes := goodIn_r _ [9, 10, 3, 2, 40, 41, 42, 43, 44, 45, 46, 47, 48, 49, 50, 51, 52, 53, 54, 55, 56, 57, 58, 59, 60, 61, 62, 63, 64, 65, 66, 67, 68, 69] (by decide +kernel) (by decide +kernel)
set_option maxRecDepth 20000 in
theorem gX11_costNow_X11_termNodes : GoodIn wsX11_costNow (wsV RX11 212 RX11 yX11_termNodes wsX11_termNodes) := goodIn_app (goodIn_of _ (by decide +kernel)) ggX11_costNow_X11_termNodes
set_option maxRecDepth 20000 in
theorem ggX11_costNow_X11_readOf : GoodIn wsX11_costNow wsX11_readOf := goodIn_r _ [14, 15, 16, 17, 18, 8, 19, 20, 21, 22, 23, 24, 25, 26, 27, 28, 29, 30, 31, 32, 33, 34, 35, 36, 37, 38, 39, 40, 41, 42, 43, 44, 45, 46, 47, 48, 49, 50, 51, 52, 53, 54, 55, 56, 57, 58, 59, 60, 61, 62, 63, 64, 65, 66, 67, 68, 69] (by decide +kernel) (by decide +kernel)
set_option maxRecDepth 20000 in
theorem gX11_costNow_X11_readOf : GoodIn wsX11_costNow (wsV RX11 225 RX11 yX11_readOf wsX11_readOf) := goodIn_app (goodIn_of _ (by decide +kernel)) ggX11_costNow_X11_readOf
theorem dX11_costNow_0 : decode cX11_costNow 0 = .ok (.aload_n 0, 1) := by decide +kernel
theorem dX11_costNow_1 : decode cX11_costNow 1 = .ok (.iload_n 1, 1) := by decide +kernel
theorem dX11_costNow_2 : decode cX11_costNow 2 = .ok (.iconst 1, 1) := by decide +kernel
theorem dX11_costNow_3 : decode cX11_costNow 3 = .ok (.invokevirtual 212, 3) := by decide +kernel
theorem dX11_costNow_6 : decode cX11_costNow 6 = .ok (.istore_n 2, 1) := by decide +kernel
theorem dX11_costNow_7 : decode cX11_costNow 7 = .ok (.iconst 0, 1) := by decide +kernel
theorem dX11_costNow_8 : decode cX11_costNow 8 = .ok (.istore_n 3, 1) := by decide +kernel
theorem dX11_costNow_9 : decode cX11_costNow 9 = .ok (.iconst 0, 1) := by decide +kernel
theorem dX11_costNow_10 : decode cX11_costNow 10 = .ok (.istore 4, 2) := by decide +kernel
theorem dX11_costNow_12 : decode cX11_costNow 12 = .ok (.iload 4, 2) := by decide +kernel
theorem dX11_costNow_14 : decode cX11_costNow 14 = .ok (.aload_n 0, 1) := by decide +kernel
theorem dX11_costNow_15 : decode cX11_costNow 15 = .ok (.getfield 85, 3) := by decide +kernel
theorem dX11_costNow_18 : decode cX11_costNow 18 = .ok (.if_icmp .ge 106, 3) := by decide +kernel
theorem dX11_costNow_21 : decode cX11_costNow 21 = .ok (.iconst 0, 1) := by decide +kernel
theorem dX11_costNow_22 : decode cX11_costNow 22 = .ok (.istore 5, 2) := by decide +kernel
theorem dX11_costNow_24 : decode cX11_costNow 24 = .ok (.iload 5, 2) := by decide +kernel
theorem dX11_costNow_26 : decode cX11_costNow 26 = .ok (.iconst 3, 1) := by decide +kernel
theorem dX11_costNow_27 : decode cX11_costNow 27 = .ok (.if_icmp .ge 91, 3) := by decide +kernel
theorem dX11_costNow_30 : decode cX11_costNow 30 = .ok (.iload_n 2, 1) := by decide +kernel
theorem dX11_costNow_31 : decode cX11_costNow 31 = .ok (.iload 4, 2) := by decide +kernel
theorem dX11_costNow_33 : decode cX11_costNow 33 = .ok (.ishr, 1) := by decide +kernel
theorem dX11_costNow_34 : decode cX11_costNow 34 = .ok (.iconst 1, 1) := by decide +kernel
theorem dX11_costNow_35 : decode cX11_costNow 35 = .ok (.iand, 1) := by decide +kernel
theorem dX11_costNow_36 : decode cX11_costNow 36 = .ok (.ifCond .eq 76, 3) := by decide +kernel
theorem dX11_costNow_39 : decode cX11_costNow 39 = .ok (.aload_n 0, 1) := by decide +kernel
theorem dX11_costNow_40 : decode cX11_costNow 40 = .ok (.getfield 50, 3) := by decide +kernel
theorem dX11_costNow_43 : decode cX11_costNow 43 = .ok (.iload 4, 2) := by decide +kernel
theorem dX11_costNow_45 : decode cX11_costNow 45 = .ok (.iaload, 1) := by decide +kernel
theorem dX11_costNow_46 : decode cX11_costNow 46 = .ok (.iload 5, 2) := by decide +kernel
theorem dX11_costNow_48 : decode cX11_costNow 48 = .ok (.ishr, 1) := by decide +kernel
theorem dX11_costNow_49 : decode cX11_costNow 49 = .ok (.iconst 1, 1) := by decide +kernel
theorem dX11_costNow_50 : decode cX11_costNow 50 = .ok (.iand, 1) := by decide +kernel
theorem dX11_costNow_51 : decode cX11_costNow 51 = .ok (.ifCond .ne 6, 3) := by decide +kernel
theorem dX11_costNow_54 : decode cX11_costNow 54 = .ok (.goto 58, 3) := by decide +kernel
theorem dX11_costNow_57 : decode cX11_costNow 57 = .ok (.iload_n 3, 1) := by decide +kernel
theorem dX11_costNow_58 : decode cX11_costNow 58 = .ok (.aload_n 0, 1) := by decide +kernel
theorem dX11_costNow_59 : decode cX11_costNow 59 = .ok (.aload_n 0, 1) := by decide +kernel
theorem dX11_costNow_60 : decode cX11_costNow 60 = .ok (.getfield 47, 3) := by decide +kernel
theorem dX11_costNow_63 : decode cX11_costNow 63 = .ok (.iload 4, 2) := by decide +kernel
theorem dX11_costNow_65 : decode cX11_costNow 65 = .ok (.iaload, 1) := by decide +kernel
theorem dX11_costNow_66 : decode cX11_costNow 66 = .ok (.iload 5, 2) := by decide +kernel
theorem dX11_costNow_68 : decode cX11_costNow 68 = .ok (.invokevirtual 225, 3) := by decide +kernel
theorem dX11_costNow_71 : decode cX11_costNow 71 = .ok (.aload_n 0, 1) := by decide +kernel
theorem dX11_costNow_72 : decode cX11_costNow 72 = .ok (.getfield 32, 3) := by decide +kernel
theorem dX11_costNow_75 : decode cX11_costNow 75 = .ok (.aload_n 0, 1) := by decide +kernel
theorem dX11_costNow_76 : decode cX11_costNow 76 = .ok (.getfield 47, 3) := by decide +kernel
theorem dX11_costNow_79 : decode cX11_costNow 79 = .ok (.iload 4, 2) := by decide +kernel
theorem dX11_costNow_81 : decode cX11_costNow 81 = .ok (.iaload, 1) := by decide +kernel
theorem dX11_costNow_82 : decode cX11_costNow 82 = .ok (.iaload, 1) := by decide +kernel
theorem dX11_costNow_83 : decode cX11_costNow 83 = .ok (.iconst (-1), 1) := by decide +kernel
theorem dX11_costNow_84 : decode cX11_costNow 84 = .ok (.if_icmp .ne 7, 3) := by decide +kernel
theorem dX11_costNow_87 : decode cX11_costNow 87 = .ok (.iconst 0, 1) := by decide +kernel
theorem dX11_costNow_88 : decode cX11_costNow 88 = .ok (.goto 21, 3) := by decide +kernel
theorem dX11_costNow_91 : decode cX11_costNow 91 = .ok (.aload_n 0, 1) := by decide +kernel
theorem dX11_costNow_92 : decode cX11_costNow 92 = .ok (.aload_n 0, 1) := by decide +kernel
theorem dX11_costNow_93 : decode cX11_costNow 93 = .ok (.getfield 32, 3) := by decide +kernel
theorem dX11_costNow_96 : decode cX11_costNow 96 = .ok (.aload_n 0, 1) := by decide +kernel
theorem dX11_costNow_97 : decode cX11_costNow 97 = .ok (.getfield 47, 3) := by decide +kernel
theorem dX11_costNow_100 : decode cX11_costNow 100 = .ok (.iload 4, 2) := by decide +kernel
theorem dX11_costNow_102 : decode cX11_costNow 102 = .ok (.iaload, 1) := by decide +kernel
theorem dX11_costNow_103 : decode cX11_costNow 103 = .ok (.iaload, 1) := by decide +kernel
theorem dX11_costNow_104 : decode cX11_costNow 104 = .ok (.iload 5, 2) := by decide +kernel
theorem dX11_costNow_106 : decode cX11_costNow 106 = .ok (.invokevirtual 225, 3) := by decide +kernel
theorem dX11_costNow_109 : decode cX11_costNow 109 = .ok (.iadd, 1) := by decide +kernel
theorem dX11_costNow_110 : decode cX11_costNow 110 = .ok (.iadd, 1) := by decide +kernel
theorem dX11_costNow_111 : decode cX11_costNow 111 = .ok (.istore_n 3, 1) := by decide +kernel
theorem dX11_costNow_112 : decode cX11_costNow 112 = .ok (.iinc 5 1, 3) := by decide +kernel
theorem dX11_costNow_115 : decode cX11_costNow 115 = .ok (.goto (-91), 3) := by decide +kernel
theorem dX11_costNow_118 : decode cX11_costNow 118 = .ok (.iinc 4 1, 3) := by decide +kernel
theorem dX11_costNow_121 : decode cX11_costNow 121 = .ok (.goto (-109), 3) := by decide +kernel
theorem dX11_costNow_124 : decode cX11_costNow 124 = .ok (.iload_n 3, 1) := by decide +kernel
theorem dX11_costNow_125 : decode cX11_costNow 125 = .ok (.ireturn, 1) := by decide +kernel
set_option maxRecDepth 20000 in
theorem ggX11_cost_X11_isNode : GoodIn wsX11_cost wsX11_isNode := goodIn_r _ [6, 7, 8, 9, 5, 10, 56, 57, 58, 59, 60, 61, 62, 63, 64, 65, 66, 67, 68, 69, 70, 71, 72, 73, 74, 75, 76, 77, 78, 79, 80, 81, 82, 83, 84, 85] (by decide +kernel) (by decide +kernel)
set_option maxRecDepth 20000 in
theorem gX11_cost_X11_isNode : GoodIn wsX11_cost (wsV RX11 165 RX11 yX11_isNode wsX11_isNode) := goodIn_app (goodIn_of _ (by decide +kernel)) ggX11_cost_X11_isNode
set_option maxRecDepth 20000 in
theorem ggX11_cost_X11_costNow : GoodIn wsX11_cost wsX11_costNow := goodIn_r _ [14, 7, 15, 16, 17, 18, 19, 20, 5, 21, 22, 23, 24, 25, 26, 27, 28, 29, 30, 31, 32, 33, 34, 35, 36, 37, 38, 39, 40, 41, 42, 43, 44, 45, 46, 47, 48, 49, 50, 51, 56, 57, 58, 59, 60, 61, 62, 63, 64, 65, 66, 67, 68, 69, 70, 71, 72, 73, 74, 75, 76, 77, 78, 79, 80, 81, 82, 83, 84, 85] (by decide +kernel) (by decide +kernel)
set_option maxRecDepth 20000 in
theorem gX11_cost_X11_costNow : GoodIn wsX11_cost (wsV RX11 228 RX11 yX11_costNow wsX11_costNow) := goodIn_app (goodIn_of _ (by decide +kernel)) ggX11_cost_X11_costNow
set_option maxRecDepth 20000 in
theorem ggX11_cost_X11_no : GoodIn wsX11_cost wsX11_no := goodIn_r _ [55, 1, 56, 57, 58, 59, 60, 61, 62, 63, 64, 65, 66, 67, 68, 69, 70, 71, 72, 73, 74, 75, 76, 77, 78, 79, 80, 81, 82, 83, 84, 85] (by decide +kernel) (by decide +kernel)
set_option maxRecDepth 20000 in
theorem gX11_cost_X11_no : GoodIn wsX11_cost (wsV RX11 88 RX11 yX11_no wsX11_no) := goodIn_app (goodIn_of _ (by decide +kernel)) ggX11_cost_X11_no
theorem dX11_cost_0 : decode cX11_cost 0 = .ok (.aload_n 0, 1) := by decide +kernel
theorem dX11_cost_1 : decode cX11_cost 1 = .ok (.iconst 0, 1) := by decide +kernel
theorem dX11_cost_2 : decode cX11_cost 2 = .ok (.putfield 74, 3) := by decide +kernel
theorem dX11_cost_5 : decode cX11_cost 5 = .ok (.aload_n 0, 1) := by decide +kernel
theorem dX11_cost_6 : decode cX11_cost 6 = .ok (.iload_n 1, 1) := by decide +kernel
theorem dX11_cost_7 : decode cX11_cost 7 = .ok (.invokevirtual 165, 3) := by decide +kernel
theorem dX11_cost_10 : decode cX11_cost 10 = .ok (.ifCond .eq 11, 3) := by decide +kernel
theorem dX11_cost_13 : decode cX11_cost 13 = .ok (.aload_n 0, 1) := by decide +kernel
theorem dX11_cost_14 : decode cX11_cost 14 = .ok (.iload_n 1, 1) := by decide +kernel
theorem dX11_cost_15 : decode cX11_cost 15 = .ok (.invokevirtual 228, 3) := by decide +kernel
theorem dX11_cost_18 : decode cX11_cost 18 = .ok (.goto 8, 3) := by decide +kernel
theorem dX11_cost_21 : decode cX11_cost 21 = .ok (.aload_n 0, 1) := by decide +kernel
theorem dX11_cost_22 : decode cX11_cost 22 = .ok (.iconst 1, 1) := by decide +kernel
theorem dX11_cost_23 : decode cX11_cost 23 = .ok (.invokevirtual 88, 3) := by decide +kernel
theorem dX11_cost_26 : decode cX11_cost 26 = .ok (.ireturn, 1) := by decide +kernel
set_option maxRecDepth 20000 in
theorem ggX11_byAlias_X11_isNode : GoodIn wsX11_byAlias wsX11_isNode := goodIn_r _ [10, 11, 12, 13, 9, 14, 107, 108, 109, 110, 111, 112, 113, 114, 115, 116, 117, 118, 119, 120, 121, 122, 123, 124, 125, 126, 127, 128, 129, 130, 131, 132, 133, 134, 135, 136] (by decide +kernel) (by decide +kernel)
set_option maxRecDepth 20000 in
theorem gX11_byAlias_X11_isNode : GoodIn wsX11_byAlias (wsV RX11 165 RX11 yX11_isNode wsX11_isNode) := goodIn_app (goodIn_of _ (by decide +kernel)) ggX11_byAlias_X11_isNode
set_option maxRecDepth 20000 in
theorem ggX11_byAlias_X11_no : GoodIn wsX11_byAlias wsX11_no := goodIn_r _ [18, 1, 107, 108, 109, 110, 111, 112, 113, 114, 115, 116, 117, 118, 119, 120, 121, 122, 123, 124, 125, 126, 127, 128, 129, 130, 131, 132, 133, 134, 135, 136] (by decide +kernel) (by decide +kernel)
set_option maxRecDepth 20000 in
theorem gX11_byAlias_X11_no : GoodIn wsX11_byAlias (wsV RX11 88 RX11 yX11_no wsX11_no) := goodIn_app (goodIn_of _ (by decide +kernel)) ggX11_byAlias_X11_no
set_option maxRecDepth 20000 in
theorem ggX11_byAlias_X11_scoreNow : GoodIn wsX11_byAlias wsX11_scoreNow := goodIn_r _ [22, 23, 24, 25, 26, 27, 28, 9, 29, 30, 31, 32, 33, 34, 35, 36, 37, 38, 4, 39, 40, 41, 42, 43, 44, 45, 46, 47, 48, 49, 50, 51, 52, 53, 54, 55, 56, 57, 58, 59, 60, 61, 62, 63, 64, 65, 66, 67, 68, 69, 70, 71, 72, 73, 74, 75, 76, 77, 78, 3, 79, 80, 81, 82, 83, 84, 85, 86, 87, 88, 89, 90, 91, 92, 93, 94, 95, 96, 97, 98, 99, 100, 101, 102, 12, 13, 14, 103, 104, 105, 106, 107, 108, 109, 110, 111, 112, 113, 114, 115, 116, 117, 118, 119, 120, 121, 122, 123, 124, 125, 126, 127, 128, 129, 130, 131, 132, 133, 134, 135, 136] (by decide +kernel) (by decide +kernel)
set_option maxRecDepth 20000 in
theorem gX11_byAlias_X11_scoreNow : GoodIn wsX11_byAlias (wsV RX11 200 RX11 yX11_scoreNow wsX11_scoreNow) := goodIn_app (goodIn_of _ (by decide +kernel)) ggX11_byAlias_X11_scoreNow
theorem dX11_byAlias_0 : decode cX11_byAlias 0 = .ok (.aload_n 0, 1) := by decide +kernel
theorem dX11_byAlias_1 : decode cX11_byAlias 1 = .ok (.iconst 0, 1) := by decide +kernel
theorem dX11_byAlias_2 : decode cX11_byAlias 2 = .ok (.putfield 74, 3) := by decide +kernel
theorem dX11_byAlias_5 : decode cX11_byAlias 5 = .ok (.aload_n 0, 1) := by decide +kernel
theorem dX11_byAlias_6 : decode cX11_byAlias 6 = .ok (.iload_n 1, 1) := by decide +kernel
theorem dX11_byAlias_7 : decode cX11_byAlias 7 = .ok (.invokevirtual 165, 3) := by decide +kernel
theorem dX11_byAlias_10 : decode cX11_byAlias 10 = .ok (.ifCond .ne 9, 3) := by decide +kernel
theorem dX11_byAlias_13 : decode cX11_byAlias 13 = .ok (.aload_n 0, 1) := by decide +kernel
theorem dX11_byAlias_14 : decode cX11_byAlias 14 = .ok (.iconst 1, 1) := by decide +kernel
theorem dX11_byAlias_15 : decode cX11_byAlias 15 = .ok (.invokevirtual 88, 3) := by decide +kernel
theorem dX11_byAlias_18 : decode cX11_byAlias 18 = .ok (.ireturn, 1) := by decide +kernel
theorem dX11_byAlias_19 : decode cX11_byAlias 19 = .ok (.bipush 60, 2) := by decide +kernel
theorem dX11_byAlias_21 : decode cX11_byAlias 21 = .ok (.newarray .boolean, 2) := by decide +kernel
theorem dX11_byAlias_23 : decode cX11_byAlias 23 = .ok (.astore_n 2, 1) := by decide +kernel
theorem dX11_byAlias_24 : decode cX11_byAlias 24 = .ok (.iconst 0, 1) := by decide +kernel
theorem dX11_byAlias_25 : decode cX11_byAlias 25 = .ok (.istore_n 3, 1) := by decide +kernel
theorem dX11_byAlias_26 : decode cX11_byAlias 26 = .ok (.iload_n 3, 1) := by decide +kernel
theorem dX11_byAlias_27 : decode cX11_byAlias 27 = .ok (.aload_n 0, 1) := by decide +kernel
theorem dX11_byAlias_28 : decode cX11_byAlias 28 = .ok (.getfield 82, 3) := by decide +kernel
theorem dX11_byAlias_31 : decode cX11_byAlias 31 = .ok (.if_icmp .ge 26, 3) := by decide +kernel
theorem dX11_byAlias_34 : decode cX11_byAlias 34 = .ok (.aload_n 2, 1) := by decide +kernel
theorem dX11_byAlias_35 : decode cX11_byAlias 35 = .ok (.iload_n 3, 1) := by decide +kernel
theorem dX11_byAlias_36 : decode cX11_byAlias 36 = .ok (.aload_n 0, 1) := by decide +kernel
theorem dX11_byAlias_37 : decode cX11_byAlias 37 = .ok (.iload_n 1, 1) := by decide +kernel
theorem dX11_byAlias_38 : decode cX11_byAlias 38 = .ok (.iload_n 3, 1) := by decide +kernel
theorem dX11_byAlias_39 : decode cX11_byAlias 39 = .ok (.invokevirtual 200, 3) := by decide +kernel
theorem dX11_byAlias_42 : decode cX11_byAlias 42 = .ok (.ifCond .lt 7, 3) := by decide +kernel
theorem dX11_byAlias_45 : decode cX11_byAlias 45 = .ok (.iconst 1, 1) := by decide +kernel
theorem dX11_byAlias_46 : decode cX11_byAlias 46 = .ok (.goto 4, 3) := by decide +kernel
theorem dX11_byAlias_49 : decode cX11_byAlias 49 = .ok (.iconst 0, 1) := by decide +kernel
theorem dX11_byAlias_50 : decode cX11_byAlias 50 = .ok (.bastore, 1) := by decide +kernel
theorem dX11_byAlias_51 : decode cX11_byAlias 51 = .ok (.iinc 3 1, 3) := by decide +kernel
theorem dX11_byAlias_54 : decode cX11_byAlias 54 = .ok (.goto (-28), 3) := by decide +kernel
theorem dX11_byAlias_57 : decode cX11_byAlias 57 = .ok (.aload_n 0, 1) := by decide +kernel
theorem dX11_byAlias_58 : decode cX11_byAlias 58 = .ok (.getfield 32, 3) := by decide +kernel
theorem dX11_byAlias_61 : decode cX11_byAlias 61 = .ok (.astore_n 3, 1) := by decide +kernel
theorem dX11_byAlias_62 : decode cX11_byAlias 62 = .ok (.aload_n 0, 1) := by decide +kernel
theorem dX11_byAlias_63 : decode cX11_byAlias 63 = .ok (.sipush 200, 3) := by decide +kernel
theorem dX11_byAlias_66 : decode cX11_byAlias 66 = .ok (.newarray .int, 2) := by decide +kernel
theorem dX11_byAlias_68 : decode cX11_byAlias 68 = .ok (.putfield 32, 3) := by decide +kernel
theorem dX11_byAlias_71 : decode cX11_byAlias 71 = .ok (.iconst 0, 1) := by decide +kernel
theorem dX11_byAlias_72 : decode cX11_byAlias 72 = .ok (.istore 4, 2) := by decide +kernel
theorem dX11_byAlias_74 : decode cX11_byAlias 74 = .ok (.iload 4, 2) := by decide +kernel
theorem dX11_byAlias_76 : decode cX11_byAlias 76 = .ok (.sipush 200, 3) := by decide +kernel
theorem dX11_byAlias_79 : decode cX11_byAlias 79 = .ok (.if_icmp .ge 17, 3) := by decide +kernel
theorem dX11_byAlias_82 : decode cX11_byAlias 82 = .ok (.aload_n 0, 1) := by decide +kernel
theorem dX11_byAlias_83 : decode cX11_byAlias 83 = .ok (.getfield 32, 3) := by decide +kernel
theorem dX11_byAlias_86 : decode cX11_byAlias 86 = .ok (.iload 4, 2) := by decide +kernel
theorem dX11_byAlias_88 : decode cX11_byAlias 88 = .ok (.iconst (-1), 1) := by decide +kernel
theorem dX11_byAlias_89 : decode cX11_byAlias 89 = .ok (.iastore, 1) := by decide +kernel
theorem dX11_byAlias_90 : decode cX11_byAlias 90 = .ok (.iinc 4 1, 3) := by decide +kernel
theorem dX11_byAlias_93 : decode cX11_byAlias 93 = .ok (.goto (-19), 3) := by decide +kernel
theorem dX11_byAlias_96 : decode cX11_byAlias 96 = .ok (.iconst 0, 1) := by decide +kernel
theorem dX11_byAlias_97 : decode cX11_byAlias 97 = .ok (.istore 4, 2) := by decide +kernel
theorem dX11_byAlias_99 : decode cX11_byAlias 99 = .ok (.iconst 0, 1) := by decide +kernel
theorem dX11_byAlias_100 : decode cX11_byAlias 100 = .ok (.istore 5, 2) := by decide +kernel
theorem dX11_byAlias_102 : decode cX11_byAlias 102 = .ok (.iload 5, 2) := by decide +kernel
theorem dX11_byAlias_104 : decode cX11_byAlias 104 = .ok (.aload_n 0, 1) := by decide +kernel
theorem dX11_byAlias_105 : decode cX11_byAlias 105 = .ok (.getfield 82, 3) := by decide +kernel
theorem dX11_byAlias_108 : decode cX11_byAlias 108 = .ok (.if_icmp .ge 36, 3) := by decide +kernel
theorem dX11_byAlias_111 : decode cX11_byAlias 111 = .ok (.iload 4, 2) := by decide +kernel
theorem dX11_byAlias_113 : decode cX11_byAlias 113 = .ok (.aload_n 2, 1) := by decide +kernel
theorem dX11_byAlias_114 : decode cX11_byAlias 114 = .ok (.iload 5, 2) := by decide +kernel
theorem dX11_byAlias_116 : decode cX11_byAlias 116 = .ok (.baload, 1) := by decide +kernel
theorem dX11_byAlias_117 : decode cX11_byAlias 117 = .ok (.ifCond .eq 17, 3) := by decide +kernel
theorem dX11_byAlias_120 : decode cX11_byAlias 120 = .ok (.aload_n 0, 1) := by decide +kernel
theorem dX11_byAlias_121 : decode cX11_byAlias 121 = .ok (.iload_n 1, 1) := by decide +kernel
theorem dX11_byAlias_122 : decode cX11_byAlias 122 = .ok (.iload 5, 2) := by decide +kernel
theorem dX11_byAlias_124 : decode cX11_byAlias 124 = .ok (.invokevirtual 200, 3) := by decide +kernel
theorem dX11_byAlias_127 : decode cX11_byAlias 127 = .ok (.ifCond .ge 7, 3) := by decide +kernel
theorem dX11_byAlias_130 : decode cX11_byAlias 130 = .ok (.iconst 1, 1) := by decide +kernel
theorem dX11_byAlias_131 : decode cX11_byAlias 131 = .ok (.goto 4, 3) := by decide +kernel
theorem dX11_byAlias_134 : decode cX11_byAlias 134 = .ok (.iconst 0, 1) := by decide +kernel
theorem dX11_byAlias_135 : decode cX11_byAlias 135 = .ok (.iadd, 1) := by decide +kernel
theorem dX11_byAlias_136 : decode cX11_byAlias 136 = .ok (.istore 4, 2) := by decide +kernel
theorem dX11_byAlias_138 : decode cX11_byAlias 138 = .ok (.iinc 5 1, 3) := by decide +kernel
theorem dX11_byAlias_141 : decode cX11_byAlias 141 = .ok (.goto (-39), 3) := by decide +kernel
theorem dX11_byAlias_144 : decode cX11_byAlias 144 = .ok (.aload_n 0, 1) := by decide +kernel
theorem dX11_byAlias_145 : decode cX11_byAlias 145 = .ok (.aload_n 3, 1) := by decide +kernel
theorem dX11_byAlias_146 : decode cX11_byAlias 146 = .ok (.putfield 32, 3) := by decide +kernel
theorem dX11_byAlias_149 : decode cX11_byAlias 149 = .ok (.iload 4, 2) := by decide +kernel
theorem dX11_byAlias_151 : decode cX11_byAlias 151 = .ok (.ireturn, 1) := by decide +kernel
set_option maxRecDepth 20000 in
theorem ggX11_wouldScore_X11_isNode : GoodIn wsX11_wouldScore wsX11_isNode := goodIn_r _ [11, 12, 13, 14, 10, 15, 110, 111, 112, 113, 114, 115, 116, 117, 118, 119, 120, 121, 122, 123, 124, 125, 126, 127, 128, 129, 130, 131, 132, 133, 134, 135, 136, 137, 138, 139] (by decide +kernel) (by decide +kernel)
set_option maxRecDepth 20000 in
theorem gX11_wouldScore_X11_isNode : GoodIn wsX11_wouldScore (wsV RX11 165 RX11 yX11_isNode wsX11_isNode) := goodIn_app (goodIn_of _ (by decide +kernel)) ggX11_wouldScore_X11_isNode
set_option maxRecDepth 20000 in
theorem ggX11_wouldScore_X11_isDocument : GoodIn wsX11_wouldScore wsX11_isDocument := goodIn_r _ [19, 4, 13, 14, 10, 15, 110, 111, 112, 113, 114, 115, 116, 117, 118, 119, 120, 121, 122, 123, 124, 125, 126, 127, 128, 129, 130, 131, 132, 133, 134, 135, 136, 137, 138, 139] (by decide +kernel) (by decide +kernel)
set_option maxRecDepth 20000 in
theorem gX11_wouldScore_X11_isDocument : GoodIn wsX11_wouldScore (wsV RX11 106 RX11 yX11_isDocument wsX11_isDocument) := goodIn_app (goodIn_of _ (by decide +kernel)) ggX11_wouldScore_X11_isDocument
set_option maxRecDepth 20000 in
theorem ggX11_wouldScore_X11_no : GoodIn wsX11_wouldScore wsX11_no := goodIn_r _ [23, 1, 110, 111, 112, 113, 114, 115, 116, 117, 118, 119, 120, 121, 122, 123, 124, 125, 126, 127, 128, 129, 130, 131, 132, 133, 134, 135, 136, 137, 138, 139] (by decide +kernel) (by decide +kernel)
set_option maxRecDepth 20000 in
theorem gX11_wouldScore_X11_no : GoodIn wsX11_wouldScore (wsV RX11 88 RX11 yX11_no wsX11_no) := goodIn_app (goodIn_of _ (by decide +kernel)) ggX11_wouldScore_X11_no
set_option maxRecDepth 20000 in
theorem ggX11_wouldScore_X11_scoreNow : GoodIn wsX11_wouldScore wsX11_scoreNow := goodIn_r _ [27, 2, 5, 28, 29, 30, 31, 10, 32, 33, 34, 35, 36, 37, 38, 39, 40, 41, 42, 43, 44, 45, 46, 47, 48, 49, 50, 51, 52, 53, 54, 55, 56, 57, 58, 59, 60, 61, 62, 63, 64, 65, 66, 67, 68, 69, 70, 71, 72, 73, 74, 75, 76, 77, 78, 79, 80, 6, 81, 4, 82, 83, 84, 85, 86, 87, 88, 89, 90, 91, 92, 93, 94, 95, 96, 97, 98, 99, 100, 101, 102, 103, 104, 105, 13, 14, 15, 106, 107, 108, 109, 110, 111, 112, 113, 114, 115, 116, 117, 118, 119, 120, 121, 122, 123, 124, 125, 126, 127, 128, 129, 130, 131, 132, 133, 134, 135, 136, 137, 138, 139] (by decide +kernel) (by decide +kernel)
set_option maxRecDepth 20000 in
theorem gX11_wouldScore_X11_scoreNow : GoodIn wsX11_wouldScore (wsV RX11 200 RX11 yX11_scoreNow wsX11_scoreNow) := goodIn_app (goodIn_of _ (by decide +kernel)) ggX11_wouldScore_X11_scoreNow
theorem dX11_wouldScore_0 : decode cX11_wouldScore 0 = .ok (.aload_n 0, 1) := by decide +kernel
theorem dX11_wouldScore_1 : decode cX11_wouldScore 1 = .ok (.iconst 0, 1) := by decide +kernel
theorem dX11_wouldScore_2 : decode cX11_wouldScore 2 = .ok (.putfield 74, 3) := by decide +kernel
theorem dX11_wouldScore_5 : decode cX11_wouldScore 5 = .ok (.aload_n 0, 1) := by decide +kernel
theorem dX11_wouldScore_6 : decode cX11_wouldScore 6 = .ok (.iload_n 1, 1) := by decide +kernel
theorem dX11_wouldScore_7 : decode cX11_wouldScore 7 = .ok (.invokevirtual 165, 3) := by decide +kernel
theorem dX11_wouldScore_10 : decode cX11_wouldScore 10 = .ok (.ifCond .eq 11, 3) := by decide +kernel
theorem dX11_wouldScore_13 : decode cX11_wouldScore 13 = .ok (.aload_n 0, 1) := by decide +kernel
theorem dX11_wouldScore_14 : decode cX11_wouldScore 14 = .ok (.iload_n 2, 1) := by decide +kernel
theorem dX11_wouldScore_15 : decode cX11_wouldScore 15 = .ok (.invokevirtual 106, 3) := by decide +kernel
theorem dX11_wouldScore_18 : decode cX11_wouldScore 18 = .ok (.ifCond .ne 9, 3) := by decide +kernel
theorem dX11_wouldScore_21 : decode cX11_wouldScore 21 = .ok (.aload_n 0, 1) := by decide +kernel
theorem dX11_wouldScore_22 : decode cX11_wouldScore 22 = .ok (.iconst 1, 1) := by decide +kernel
theorem dX11_wouldScore_23 : decode cX11_wouldScore 23 = .ok (.invokevirtual 88, 3) := by decide +kernel
theorem dX11_wouldScore_26 : decode cX11_wouldScore 26 = .ok (.ireturn, 1) := by decide +kernel
theorem dX11_wouldScore_27 : decode cX11_wouldScore 27 = .ok (.aload_n 0, 1) := by decide +kernel
theorem dX11_wouldScore_28 : decode cX11_wouldScore 28 = .ok (.getfield 20, 3) := by decide +kernel
theorem dX11_wouldScore_31 : decode cX11_wouldScore 31 = .ok (.astore_n 3, 1) := by decide +kernel
theorem dX11_wouldScore_32 : decode cX11_wouldScore 32 = .ok (.aload_n 0, 1) := by decide +kernel
theorem dX11_wouldScore_33 : decode cX11_wouldScore 33 = .ok (.bipush 60, 2) := by decide +kernel
theorem dX11_wouldScore_35 : decode cX11_wouldScore 35 = .ok (.newarray .boolean, 2) := by decide +kernel
theorem dX11_wouldScore_37 : decode cX11_wouldScore 37 = .ok (.putfield 20, 3) := by decide +kernel
theorem dX11_wouldScore_40 : decode cX11_wouldScore 40 = .ok (.iconst 0, 1) := by decide +kernel
theorem dX11_wouldScore_41 : decode cX11_wouldScore 41 = .ok (.istore 4, 2) := by decide +kernel
theorem dX11_wouldScore_43 : decode cX11_wouldScore 43 = .ok (.iload 4, 2) := by decide +kernel
theorem dX11_wouldScore_45 : decode cX11_wouldScore 45 = .ok (.aload_n 0, 1) := by decide +kernel
theorem dX11_wouldScore_46 : decode cX11_wouldScore 46 = .ok (.getfield 82, 3) := by decide +kernel
theorem dX11_wouldScore_49 : decode cX11_wouldScore 49 = .ok (.if_icmp .ge 31, 3) := by decide +kernel
theorem dX11_wouldScore_52 : decode cX11_wouldScore 52 = .ok (.aload_n 0, 1) := by decide +kernel
theorem dX11_wouldScore_53 : decode cX11_wouldScore 53 = .ok (.getfield 20, 3) := by decide +kernel
theorem dX11_wouldScore_56 : decode cX11_wouldScore 56 = .ok (.iload 4, 2) := by decide +kernel
theorem dX11_wouldScore_58 : decode cX11_wouldScore 58 = .ok (.aload_n 0, 1) := by decide +kernel
theorem dX11_wouldScore_59 : decode cX11_wouldScore 59 = .ok (.getfield 16, 3) := by decide +kernel
theorem dX11_wouldScore_62 : decode cX11_wouldScore 62 = .ok (.iload 4, 2) := by decide +kernel
theorem dX11_wouldScore_64 : decode cX11_wouldScore 64 = .ok (.baload, 1) := by decide +kernel
theorem dX11_wouldScore_65 : decode cX11_wouldScore 65 = .ok (.ifCond .ne 7, 3) := by decide +kernel
theorem dX11_wouldScore_68 : decode cX11_wouldScore 68 = .ok (.iconst 1, 1) := by decide +kernel
theorem dX11_wouldScore_69 : decode cX11_wouldScore 69 = .ok (.goto 4, 3) := by decide +kernel
theorem dX11_wouldScore_72 : decode cX11_wouldScore 72 = .ok (.iconst 0, 1) := by decide +kernel
theorem dX11_wouldScore_73 : decode cX11_wouldScore 73 = .ok (.bastore, 1) := by decide +kernel
theorem dX11_wouldScore_74 : decode cX11_wouldScore 74 = .ok (.iinc 4 1, 3) := by decide +kernel
theorem dX11_wouldScore_77 : decode cX11_wouldScore 77 = .ok (.goto (-34), 3) := by decide +kernel
theorem dX11_wouldScore_80 : decode cX11_wouldScore 80 = .ok (.aload_n 0, 1) := by decide +kernel
theorem dX11_wouldScore_81 : decode cX11_wouldScore 81 = .ok (.iconst 0, 1) := by decide +kernel
theorem dX11_wouldScore_82 : decode cX11_wouldScore 82 = .ok (.putfield 123, 3) := by decide +kernel
theorem dX11_wouldScore_85 : decode cX11_wouldScore 85 = .ok (.aload_n 0, 1) := by decide +kernel
theorem dX11_wouldScore_86 : decode cX11_wouldScore 86 = .ok (.iload_n 1, 1) := by decide +kernel
theorem dX11_wouldScore_87 : decode cX11_wouldScore 87 = .ok (.iload_n 2, 1) := by decide +kernel
theorem dX11_wouldScore_88 : decode cX11_wouldScore 88 = .ok (.invokevirtual 200, 3) := by decide +kernel
theorem dX11_wouldScore_91 : decode cX11_wouldScore 91 = .ok (.istore 4, 2) := by decide +kernel
theorem dX11_wouldScore_93 : decode cX11_wouldScore 93 = .ok (.aload_n 0, 1) := by decide +kernel
theorem dX11_wouldScore_94 : decode cX11_wouldScore 94 = .ok (.aload_n 3, 1) := by decide +kernel
theorem dX11_wouldScore_95 : decode cX11_wouldScore 95 = .ok (.putfield 20, 3) := by decide +kernel
theorem dX11_wouldScore_98 : decode cX11_wouldScore 98 = .ok (.aload_n 0, 1) := by decide +kernel
theorem dX11_wouldScore_99 : decode cX11_wouldScore 99 = .ok (.iconst 0, 1) := by decide +kernel
theorem dX11_wouldScore_100 : decode cX11_wouldScore 100 = .ok (.putfield 123, 3) := by decide +kernel
theorem dX11_wouldScore_103 : decode cX11_wouldScore 103 = .ok (.iload 4, 2) := by decide +kernel
theorem dX11_wouldScore_105 : decode cX11_wouldScore 105 = .ok (.ireturn, 1) := by decide +kernel
set_option maxRecDepth 20000 in
theorem ggX11_waste_X11_lying : GoodIn wsX11_waste wsX11_lying := goodIn_r _ [9, 10, 11, 12, 13, 8, 14, 15, 16, 17, 2, 3, 18, 19, 20, 21, 22, 23, 24, 25, 26, 27, 28, 29, 30, 31, 32, 33, 34, 35, 36, 37, 38, 39, 40, 41, 42, 43, 44, 45, 46, 47, 48, 49, 50, 51, 52, 53, 54, 55, 56, 57] (by decide +kernel) (by decide +kernel)
set_option maxRecDepth 20000 in
theorem gX11_waste_X11_lying : GoodIn wsX11_waste (wsV RX11 146 RX11 yX11_lying wsX11_lying) := goodIn_app (goodIn_of _ (by decide +kernel)) ggX11_waste_X11_lying
theorem dX11_waste_0 : decode cX11_waste 0 = .ok (.aload_n 0, 1) := by decide +kernel
theorem dX11_waste_1 : decode cX11_waste 1 = .ok (.iconst 0, 1) := by decide +kernel
theorem dX11_waste_2 : decode cX11_waste 2 = .ok (.putfield 74, 3) := by decide +kernel
theorem dX11_waste_5 : decode cX11_waste 5 = .ok (.aload_n 0, 1) := by decide +kernel
theorem dX11_waste_6 : decode cX11_waste 6 = .ok (.invokevirtual 146, 3) := by decide +kernel
theorem dX11_waste_9 : decode cX11_waste 9 = .ok (.istore_n 1, 1) := by decide +kernel
theorem dX11_waste_10 : decode cX11_waste 10 = .ok (.iconst 0, 1) := by decide +kernel
theorem dX11_waste_11 : decode cX11_waste 11 = .ok (.istore_n 2, 1) := by decide +kernel
theorem dX11_waste_12 : decode cX11_waste 12 = .ok (.iconst 0, 1) := by decide +kernel
theorem dX11_waste_13 : decode cX11_waste 13 = .ok (.istore_n 3, 1) := by decide +kernel
theorem dX11_waste_14 : decode cX11_waste 14 = .ok (.iload_n 3, 1) := by decide +kernel
theorem dX11_waste_15 : decode cX11_waste 15 = .ok (.aload_n 0, 1) := by decide +kernel
theorem dX11_waste_16 : decode cX11_waste 16 = .ok (.getfield 82, 3) := by decide +kernel
theorem dX11_waste_19 : decode cX11_waste 19 = .ok (.if_icmp .ge 35, 3) := by decide +kernel
theorem dX11_waste_22 : decode cX11_waste 22 = .ok (.iload_n 2, 1) := by decide +kernel
theorem dX11_waste_23 : decode cX11_waste 23 = .ok (.aload_n 0, 1) := by decide +kernel
theorem dX11_waste_24 : decode cX11_waste 24 = .ok (.getfield 20, 3) := by decide +kernel
theorem dX11_waste_27 : decode cX11_waste 27 = .ok (.iload_n 3, 1) := by decide +kernel
theorem dX11_waste_28 : decode cX11_waste 28 = .ok (.baload, 1) := by decide +kernel
theorem dX11_waste_29 : decode cX11_waste 29 = .ok (.ifCond .eq 16, 3) := by decide +kernel
theorem dX11_waste_32 : decode cX11_waste 32 = .ok (.aload_n 0, 1) := by decide +kernel
theorem dX11_waste_33 : decode cX11_waste 33 = .ok (.getfield 16, 3) := by decide +kernel
theorem dX11_waste_36 : decode cX11_waste 36 = .ok (.iload_n 3, 1) := by decide +kernel
theorem dX11_waste_37 : decode cX11_waste 37 = .ok (.baload, 1) := by decide +kernel
theorem dX11_waste_38 : decode cX11_waste 38 = .ok (.ifCond .eq 7, 3) := by decide +kernel
theorem dX11_waste_41 : decode cX11_waste 41 = .ok (.iconst 1, 1) := by decide +kernel
theorem dX11_waste_42 : decode cX11_waste 42 = .ok (.goto 4, 3) := by decide +kernel
theorem dX11_waste_45 : decode cX11_waste 45 = .ok (.iconst 0, 1) := by decide +kernel
theorem dX11_waste_46 : decode cX11_waste 46 = .ok (.iadd, 1) := by decide +kernel
theorem dX11_waste_47 : decode cX11_waste 47 = .ok (.istore_n 2, 1) := by decide +kernel
theorem dX11_waste_48 : decode cX11_waste 48 = .ok (.iinc 3 1, 3) := by decide +kernel
theorem dX11_waste_51 : decode cX11_waste 51 = .ok (.goto (-37), 3) := by decide +kernel
theorem dX11_waste_54 : decode cX11_waste 54 = .ok (.iload_n 1, 1) := by decide +kernel
theorem dX11_waste_55 : decode cX11_waste 55 = .ok (.ifCond .ne 7, 3) := by decide +kernel
theorem dX11_waste_58 : decode cX11_waste 58 = .ok (.dconst 0, 1) := by decide +kernel
theorem dX11_waste_59 : decode cX11_waste 59 = .ok (.goto 8, 3) := by decide +kernel
theorem dX11_waste_62 : decode cX11_waste 62 = .ok (.iload_n 2, 1) := by decide +kernel
theorem dX11_waste_63 : decode cX11_waste 63 = .ok (.i2d, 1) := by decide +kernel
theorem dX11_waste_64 : decode cX11_waste 64 = .ok (.iload_n 1, 1) := by decide +kernel
theorem dX11_waste_65 : decode cX11_waste 65 = .ok (.i2d, 1) := by decide +kernel
theorem dX11_waste_66 : decode cX11_waste 66 = .ok (.ddiv, 1) := by decide +kernel
theorem dX11_waste_67 : decode cX11_waste 67 = .ok (.dreturn, 1) := by decide +kernel
set_option maxRecDepth 20000 in
theorem ggX11_digest_X11_stateNow : GoodIn wsX11_digest wsX11_stateNow := goodIn_r _ [18, 19, 20, 140, 141, 142, 143, 144, 145, 146, 147, 148, 149, 150, 151, 152, 153, 154, 155, 156, 157, 158, 159, 160, 161, 162, 163, 164, 165, 166, 167, 168, 169] (by decide +kernel) (by decide +kernel)
set_option maxRecDepth 20000 in
theorem gX11_digest_X11_stateNow : GoodIn wsX11_digest (wsV RX11 112 RX11 yX11_stateNow wsX11_stateNow) := goodIn_app (goodIn_of _ (by decide +kernel)) ggX11_digest_X11_stateNow
set_option maxRecDepth 20000 in
theorem ggX11_digest_X11_sizeNow : GoodIn wsX11_digest wsX11_sizeNow := goodIn_r _ [24, 3, 25, 140, 141, 142, 143, 144, 145, 146, 147, 148, 149, 150, 151, 152, 153, 154, 155, 156, 157, 158, 159, 160, 161, 162, 163, 164, 165, 166, 167, 168, 169] (by decide +kernel) (by decide +kernel)
set_option maxRecDepth 20000 in
theorem gX11_digest_X11_sizeNow : GoodIn wsX11_digest (wsV RX11 137 RX11 yX11_sizeNow wsX11_sizeNow) := goodIn_app (goodIn_of _ (by decide +kernel)) ggX11_digest_X11_sizeNow
set_option maxRecDepth 20000 in
theorem ggX11_digest_X11_isThere : GoodIn wsX11_digest wsX11_isThere := goodIn_r _ [29, 30, 19, 140, 141, 142, 143, 144, 145, 146, 147, 148, 149, 150, 151, 152, 153, 154, 155, 156, 157, 158, 159, 160, 161, 162, 163, 164, 165, 166, 167, 168, 169] (by decide +kernel) (by decide +kernel)
set_option maxRecDepth 20000 in
theorem gX11_digest_X11_isThere : GoodIn wsX11_digest (wsV RX11 216 RX11 yX11_isThere wsX11_isThere) := goodIn_app (goodIn_of _ (by decide +kernel)) ggX11_digest_X11_isThere
set_option maxRecDepth 20000 in
theorem ggX11_digest_X11_scoreNow : GoodIn wsX11_digest wsX11_scoreNow := goodIn_r _ [34, 30, 19, 10, 35, 36, 37, 17, 38, 39, 40, 41, 42, 43, 44, 45, 46, 47, 48, 49, 50, 51, 52, 53, 54, 55, 56, 57, 58, 59, 60, 61, 62, 63, 64, 65, 66, 67, 68, 69, 70, 71, 72, 73, 74, 75, 76, 77, 78, 79, 80, 81, 82, 83, 84, 85, 86, 87, 88, 3, 89, 90, 91, 92, 93, 94, 95, 96, 97, 98, 99, 100, 101, 102, 103, 104, 105, 106, 107, 108, 109, 110, 111, 112, 113, 114, 115, 116, 117, 118, 119, 140, 141, 142, 143, 144, 145, 146, 147, 148, 149, 150, 151, 152, 153, 154, 155, 156, 157, 158, 159, 160, 161, 162, 163, 164, 165, 166, 167, 168, 169] (by decide +kernel) (by decide +kernel)
set_option maxRecDepth 20000 in
theorem gX11_digest_X11_scoreNow : GoodIn wsX11_digest (wsV RX11 200 RX11 yX11_scoreNow wsX11_scoreNow) := goodIn_app (goodIn_of _ (by decide +kernel)) ggX11_digest_X11_scoreNow
set_option maxRecDepth 20000 in
theorem ggX11_digest_X11_costNow : GoodIn wsX11_digest wsX11_costNow := goodIn_r _ [123, 7, 41, 40, 48, 124, 125, 126, 17, 127, 39, 128, 129, 130, 131, 63, 89, 90, 91, 92, 88, 83, 84, 85, 86, 87, 82, 68, 3, 30, 49, 50, 51, 52, 53, 54, 55, 56, 57, 58, 140, 141, 142, 143, 144, 145, 146, 147, 148, 149, 150, 151, 152, 153, 154, 155, 156, 157, 158, 159, 160, 161, 162, 163, 164, 165, 166, 167, 168, 169] (by decide +kernel) (by decide +kernel)
set_option maxRecDepth 20000 in
theorem gX11_digest_X11_costNow : GoodIn wsX11_digest (wsV RX11 228 RX11 yX11_costNow wsX11_costNow) := goodIn_app (goodIn_of _ (by decide +kernel)) ggX11_digest_X11_costNow
set_option maxRecDepth 20000 in
theorem ggX11_digest_X11_kindNow : GoodIn wsX11_digest wsX11_kindNow := goodIn_r _ [135, 11, 43, 12, 140, 141, 142, 143, 144, 145, 146, 147, 148, 149, 150, 151, 152, 153, 154, 155, 156, 157, 158, 159, 160, 161, 162, 163, 164, 165, 166, 167, 168, 169] (by decide +kernel) (by decide +kernel)
set_option maxRecDepth 20000 in
theorem gX11_digest_X11_kindNow : GoodIn wsX11_digest (wsV RX11 209 RX11 yX11_kindNow wsX11_kindNow) := goodIn_app (goodIn_of _ (by decide +kernel)) ggX11_digest_X11_kindNow
set_option maxRecDepth 20000 in
theorem ggX11_digest_X11_likeNow : GoodIn wsX11_digest wsX11_likeNow := goodIn_r _ [139, 3, 26, 27, 28, 17, 29, 30, 19, 49, 50, 51, 52, 53, 54, 55, 56, 57, 58, 70, 71, 72, 73, 63, 74, 75, 76, 77, 78, 79, 80, 81, 82, 83, 84, 85, 86, 87, 88, 68, 89, 90, 91, 92, 93, 94, 95, 140, 141, 142, 143, 144, 145, 146, 147, 148, 149, 150, 151, 152, 153, 154, 155, 156, 157, 158, 159, 160, 161, 162, 163, 164, 165, 166, 167, 168, 169] (by decide +kernel) (by decide +kernel)
set_option maxRecDepth 20000 in
theorem gX11_digest_X11_likeNow : GoodIn wsX11_digest (wsV RX11 219 RX11 yX11_likeNow wsX11_likeNow) := goodIn_app (goodIn_of _ (by decide +kernel)) ggX11_digest_X11_likeNow
theorem dX11_digest_0 : decode cX11_digest 0 = .ok (.aload_n 0, 1) := by decide +kernel
theorem dX11_digest_1 : decode cX11_digest 1 = .ok (.iconst 0, 1) := by decide +kernel
theorem dX11_digest_2 : decode cX11_digest 2 = .ok (.putfield 74, 3) := by decide +kernel
theorem dX11_digest_5 : decode cX11_digest 5 = .ok (.ldc2_w 231, 3) := by decide +kernel
theorem dX11_digest_8 : decode cX11_digest 8 = .ok (.aload_n 0, 1) := by decide +kernel
theorem dX11_digest_9 : decode cX11_digest 9 = .ok (.getfield 82, 3) := by decide +kernel
theorem dX11_digest_12 : decode cX11_digest 12 = .ok (.i2l, 1) := by decide +kernel
theorem dX11_digest_13 : decode cX11_digest 13 = .ok (.ladd, 1) := by decide +kernel
theorem dX11_digest_14 : decode cX11_digest 14 = .ok (.lstore_n 1, 1) := by decide +kernel
theorem dX11_digest_15 : decode cX11_digest 15 = .ok (.iconst 0, 1) := by decide +kernel
theorem dX11_digest_16 : decode cX11_digest 16 = .ok (.istore_n 3, 1) := by decide +kernel
theorem dX11_digest_17 : decode cX11_digest 17 = .ok (.iload_n 3, 1) := by decide +kernel
theorem dX11_digest_18 : decode cX11_digest 18 = .ok (.aload_n 0, 1) := by decide +kernel
theorem dX11_digest_19 : decode cX11_digest 19 = .ok (.getfield 82, 3) := by decide +kernel
theorem dX11_digest_22 : decode cX11_digest 22 = .ok (.if_icmp .ge 22, 3) := by decide +kernel
theorem dX11_digest_25 : decode cX11_digest 25 = .ok (.lload_n 1, 1) := by decide +kernel
theorem dX11_digest_26 : decode cX11_digest 26 = .ok (.ldc2_w 233, 3) := by decide +kernel
theorem dX11_digest_29 : decode cX11_digest 29 = .ok (.lmul, 1) := by decide +kernel
theorem dX11_digest_30 : decode cX11_digest 30 = .ok (.aload_n 0, 1) := by decide +kernel
theorem dX11_digest_31 : decode cX11_digest 31 = .ok (.iload_n 3, 1) := by decide +kernel
theorem dX11_digest_32 : decode cX11_digest 32 = .ok (.invokevirtual 112, 3) := by decide +kernel
theorem dX11_digest_35 : decode cX11_digest 35 = .ok (.i2l, 1) := by decide +kernel
theorem dX11_digest_36 : decode cX11_digest 36 = .ok (.ladd, 1) := by decide +kernel
theorem dX11_digest_37 : decode cX11_digest 37 = .ok (.lstore_n 1, 1) := by decide +kernel
theorem dX11_digest_38 : decode cX11_digest 38 = .ok (.iinc 3 1, 3) := by decide +kernel
theorem dX11_digest_41 : decode cX11_digest 41 = .ok (.goto (-24), 3) := by decide +kernel
theorem dX11_digest_44 : decode cX11_digest 44 = .ok (.lload_n 1, 1) := by decide +kernel
theorem dX11_digest_45 : decode cX11_digest 45 = .ok (.ldc2_w 233, 3) := by decide +kernel
theorem dX11_digest_48 : decode cX11_digest 48 = .ok (.lmul, 1) := by decide +kernel
theorem dX11_digest_49 : decode cX11_digest 49 = .ok (.aload_n 0, 1) := by decide +kernel
theorem dX11_digest_50 : decode cX11_digest 50 = .ok (.getfield 126, 3) := by decide +kernel
theorem dX11_digest_53 : decode cX11_digest 53 = .ok (.i2l, 1) := by decide +kernel
theorem dX11_digest_54 : decode cX11_digest 54 = .ok (.ladd, 1) := by decide +kernel
theorem dX11_digest_55 : decode cX11_digest 55 = .ok (.lstore_n 1, 1) := by decide +kernel
theorem dX11_digest_56 : decode cX11_digest 56 = .ok (.iconst 0, 1) := by decide +kernel
theorem dX11_digest_57 : decode cX11_digest 57 = .ok (.istore_n 3, 1) := by decide +kernel
theorem dX11_digest_58 : decode cX11_digest 58 = .ok (.iload_n 3, 1) := by decide +kernel
theorem dX11_digest_59 : decode cX11_digest 59 = .ok (.aload_n 0, 1) := by decide +kernel
theorem dX11_digest_60 : decode cX11_digest 60 = .ok (.getfield 126, 3) := by decide +kernel
theorem dX11_digest_63 : decode cX11_digest 63 = .ok (.if_icmp .ge 34, 3) := by decide +kernel
theorem dX11_digest_66 : decode cX11_digest 66 = .ok (.lload_n 1, 1) := by decide +kernel
theorem dX11_digest_67 : decode cX11_digest 67 = .ok (.ldc2_w 233, 3) := by decide +kernel
theorem dX11_digest_70 : decode cX11_digest 70 = .ok (.lmul, 1) := by decide +kernel
theorem dX11_digest_71 : decode cX11_digest 71 = .ok (.aload_n 0, 1) := by decide +kernel
theorem dX11_digest_72 : decode cX11_digest 72 = .ok (.getfield 38, 3) := by decide +kernel
theorem dX11_digest_75 : decode cX11_digest 75 = .ok (.iload_n 3, 1) := by decide +kernel
theorem dX11_digest_76 : decode cX11_digest 76 = .ok (.iaload, 1) := by decide +kernel
theorem dX11_digest_77 : decode cX11_digest 77 = .ok (.i2l, 1) := by decide +kernel
theorem dX11_digest_78 : decode cX11_digest 78 = .ok (.ladd, 1) := by decide +kernel
theorem dX11_digest_79 : decode cX11_digest 79 = .ok (.ldc2_w 233, 3) := by decide +kernel
theorem dX11_digest_82 : decode cX11_digest 82 = .ok (.lmul, 1) := by decide +kernel
theorem dX11_digest_83 : decode cX11_digest 83 = .ok (.aload_n 0, 1) := by decide +kernel
theorem dX11_digest_84 : decode cX11_digest 84 = .ok (.iload_n 3, 1) := by decide +kernel
theorem dX11_digest_85 : decode cX11_digest 85 = .ok (.invokevirtual 137, 3) := by decide +kernel
theorem dX11_digest_88 : decode cX11_digest 88 = .ok (.i2l, 1) := by decide +kernel
theorem dX11_digest_89 : decode cX11_digest 89 = .ok (.ladd, 1) := by decide +kernel
theorem dX11_digest_90 : decode cX11_digest 90 = .ok (.lstore_n 1, 1) := by decide +kernel
theorem dX11_digest_91 : decode cX11_digest 91 = .ok (.iinc 3 1, 3) := by decide +kernel
theorem dX11_digest_94 : decode cX11_digest 94 = .ok (.goto (-36), 3) := by decide +kernel
theorem dX11_digest_97 : decode cX11_digest 97 = .ok (.lload_n 1, 1) := by decide +kernel
theorem dX11_digest_98 : decode cX11_digest 98 = .ok (.ldc2_w 233, 3) := by decide +kernel
theorem dX11_digest_101 : decode cX11_digest 101 = .ok (.lmul, 1) := by decide +kernel
theorem dX11_digest_102 : decode cX11_digest 102 = .ok (.aload_n 0, 1) := by decide +kernel
theorem dX11_digest_103 : decode cX11_digest 103 = .ok (.getfield 85, 3) := by decide +kernel
theorem dX11_digest_106 : decode cX11_digest 106 = .ok (.i2l, 1) := by decide +kernel
theorem dX11_digest_107 : decode cX11_digest 107 = .ok (.ladd, 1) := by decide +kernel
theorem dX11_digest_108 : decode cX11_digest 108 = .ok (.lstore_n 1, 1) := by decide +kernel
theorem dX11_digest_109 : decode cX11_digest 109 = .ok (.aload_n 0, 1) := by decide +kernel
theorem dX11_digest_110 : decode cX11_digest 110 = .ok (.getfield 82, 3) := by decide +kernel
theorem dX11_digest_113 : decode cX11_digest 113 = .ok (.aload_n 0, 1) := by decide +kernel
theorem dX11_digest_114 : decode cX11_digest 114 = .ok (.getfield 85, 3) := by decide +kernel
theorem dX11_digest_117 : decode cX11_digest 117 = .ok (.multianewarray 235 2, 4) := by decide +kernel
theorem dX11_digest_121 : decode cX11_digest 121 = .ok (.astore_n 3, 1) := by decide +kernel
