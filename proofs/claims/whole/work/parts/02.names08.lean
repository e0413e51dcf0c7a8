theorem dX10_lay_26 : decode cX10_lay 26 = .ok (.lconst 0, 1) := by decide +kernel
theorem dX10_lay_27 : decode cX10_lay 27 = .ok (.aload_n 0, 1) := by decide +kernel
theorem dX10_lay_28 : decode cX10_lay 28 = .ok (.getfield 44, 3) := by decide +kernel
theorem dX10_lay_31 : decode cX10_lay 31 = .ok (.iload_n 1, 1) := by decide +kernel
theorem dX10_lay_32 : decode cX10_lay 32 = .ok (.iaload, 1) := by decide +kernel
theorem dX10_lay_33 : decode cX10_lay 33 = .ok (.iconst 1, 1) := by decide +kernel
theorem dX10_lay_34 : decode cX10_lay 34 = .ok (.isub, 1) := by decide +kernel
theorem dX10_lay_35 : decode cX10_lay 35 = .ok (.i2l, 1) := by decide +kernel
theorem dX10_lay_36 : decode cX10_lay 36 = .ok (.invokestatic 78, 3) := by decide +kernel
theorem dX10_lay_39 : decode cX10_lay 39 = .ok (.ifCond .ne 6, 3) := by decide +kernel
theorem dX10_lay_42 : decode cX10_lay 42 = .ok (.bipush (-12), 2) := by decide +kernel
theorem dX10_lay_44 : decode cX10_lay 44 = .ok (.ireturn, 1) := by decide +kernel
theorem dX10_lay_45 : decode cX10_lay 45 = .ok (.aload_n 0, 1) := by decide +kernel
theorem dX10_lay_46 : decode cX10_lay 46 = .ok (.getfield 47, 3) := by decide +kernel
theorem dX10_lay_49 : decode cX10_lay 49 = .ok (.bipush 40, 2) := by decide +kernel
theorem dX10_lay_51 : decode cX10_lay 51 = .ok (.iload_n 1, 1) := by decide +kernel
theorem dX10_lay_52 : decode cX10_lay 52 = .ok (.imul, 1) := by decide +kernel
theorem dX10_lay_53 : decode cX10_lay 53 = .ok (.iload_n 2, 1) := by decide +kernel
theorem dX10_lay_54 : decode cX10_lay 54 = .ok (.iadd, 1) := by decide +kernel
theorem dX10_lay_55 : decode cX10_lay 55 = .ok (.aload_n 0, 1) := by decide +kernel
theorem dX10_lay_56 : decode cX10_lay 56 = .ok (.getfield 41, 3) := by decide +kernel
theorem dX10_lay_59 : decode cX10_lay 59 = .ok (.iload_n 1, 1) := by decide +kernel
theorem dX10_lay_60 : decode cX10_lay 60 = .ok (.iaload, 1) := by decide +kernel
theorem dX10_lay_61 : decode cX10_lay 61 = .ok (.ifCond .ne 8, 3) := by decide +kernel
theorem dX10_lay_64 : decode cX10_lay 64 = .ok (.iload_n 3, 1) := by decide +kernel
theorem dX10_lay_65 : decode cX10_lay 65 = .ok (.i2b, 1) := by decide +kernel
theorem dX10_lay_66 : decode cX10_lay 66 = .ok (.goto 19, 3) := by decide +kernel
theorem dX10_lay_69 : decode cX10_lay 69 = .ok (.aload_n 0, 1) := by decide +kernel
theorem dX10_lay_70 : decode cX10_lay 70 = .ok (.getfield 41, 3) := by decide +kernel
theorem dX10_lay_73 : decode cX10_lay 73 = .ok (.iload_n 1, 1) := by decide +kernel
theorem dX10_lay_74 : decode cX10_lay 74 = .ok (.iaload, 1) := by decide +kernel
theorem dX10_lay_75 : decode cX10_lay 75 = .ok (.iconst 1, 1) := by decide +kernel
theorem dX10_lay_76 : decode cX10_lay 76 = .ok (.if_icmp .ne 8, 3) := by decide +kernel
theorem dX10_lay_79 : decode cX10_lay 79 = .ok (.iload_n 3, 1) := by decide +kernel
theorem dX10_lay_80 : decode cX10_lay 80 = .ok (.i2s, 1) := by decide +kernel
theorem dX10_lay_81 : decode cX10_lay 81 = .ok (.goto 4, 3) := by decide +kernel
theorem dX10_lay_84 : decode cX10_lay 84 = .ok (.iload_n 3, 1) := by decide +kernel
theorem dX10_lay_85 : decode cX10_lay 85 = .ok (.iastore, 1) := by decide +kernel
theorem dX10_lay_86 : decode cX10_lay 86 = .ok (.iconst 1, 1) := by decide +kernel
theorem dX10_lay_87 : decode cX10_lay 87 = .ok (.ireturn, 1) := by decide +kernel
set_option maxRecDepth 20000 in
theorem ggX10_read_X10_isSheet : GoodIn wsX10_read wsX10_isSheet := goodIn_r _ [11, 12, 13, 14, 15, 10, 16] (by decide +kernel) (by decide +kernel)
set_option maxRecDepth 20000 in
theorem gX10_read_X10_isSheet : GoodIn wsX10_read (va_wsS RX10 286 yX10_isSheet wsX10_isSheet) := goodIn_app (goodIn_of _ (by decide +kernel)) ggX10_read_X10_isSheet
set_option maxRecDepth 20000 in
theorem ggX10_read_X10_in : GoodIn wsX10_read wsX10_in := goodIn_r _ [16] (by decide +kernel) (by decide +kernel)
set_option maxRecDepth 20000 in
theorem gX10_read_X10_in : GoodIn wsX10_read (va_wsS RX10 78 yX10_in wsX10_in) := goodIn_app (goodIn_of _ (by decide +kernel)) ggX10_read_X10_in
set_option maxRecDepth 20000 in
theorem ggX10_read_X10_sew : GoodIn wsX10_read wsX10_sew := goodIn_r _ [20, 3, 21, 22, 10, 23, 12, 24, 25, 14, 15, 16, 26, 27, 28, 29, 30, 31, 32, 33, 34, 35, 36, 37, 38, 39, 40, 41, 42, 43, 44, 45, 46, 47, 48, 49, 50, 51, 52, 53, 54, 55, 56, 57, 58, 59, 60, 61, 62, 63] (by decide +kernel) (by decide +kernel)
set_option maxRecDepth 20000 in
theorem gX10_read_X10_sew : GoodIn wsX10_read (wsV RX10 291 RX10 yX10_sew wsX10_sew) := goodIn_app (goodIn_of _ (by decide +kernel)) ggX10_read_X10_sew
theorem dX10_read_0 : decode cX10_read 0 = .ok (.iload_n 1, 1) := by decide +kernel
theorem dX10_read_1 : decode cX10_read 1 = .ok (.iload_n 2, 1) := by decide +kernel
theorem dX10_read_2 : decode cX10_read 2 = .ok (.invokestatic 286, 3) := by decide +kernel
theorem dX10_read_5 : decode cX10_read 5 = .ok (.ifCond .eq 16, 3) := by decide +kernel
theorem dX10_read_8 : decode cX10_read 8 = .ok (.iload 4, 2) := by decide +kernel
theorem dX10_read_10 : decode cX10_read 10 = .ok (.i2l, 1) := by decide +kernel
theorem dX10_read_11 : decode cX10_read 11 = .ok (.lconst 0, 1) := by decide +kernel
theorem dX10_read_12 : decode cX10_read 12 = .ok (.ldc2_w 289, 3) := by decide +kernel
theorem dX10_read_15 : decode cX10_read 15 = .ok (.invokestatic 78, 3) := by decide +kernel
theorem dX10_read_18 : decode cX10_read 18 = .ok (.ifCond .ne 5, 3) := by decide +kernel
theorem dX10_read_21 : decode cX10_read 21 = .ok (.iconst (-1), 1) := by decide +kernel
theorem dX10_read_22 : decode cX10_read 22 = .ok (.ireturn, 1) := by decide +kernel
theorem dX10_read_23 : decode cX10_read 23 = .ok (.iconst 0, 1) := by decide +kernel
theorem dX10_read_24 : decode cX10_read 24 = .ok (.istore 5, 2) := by decide +kernel
theorem dX10_read_26 : decode cX10_read 26 = .ok (.iload 5, 2) := by decide +kernel
theorem dX10_read_28 : decode cX10_read 28 = .ok (.bipush 56, 2) := by decide +kernel
theorem dX10_read_30 : decode cX10_read 30 = .ok (.if_icmp .ge 23, 3) := by decide +kernel
theorem dX10_read_33 : decode cX10_read 33 = .ok (.aload_n 0, 1) := by decide +kernel
theorem dX10_read_34 : decode cX10_read 34 = .ok (.getfield 50, 3) := by decide +kernel
theorem dX10_read_37 : decode cX10_read 37 = .ok (.iload 5, 2) := by decide +kernel
theorem dX10_read_39 : decode cX10_read 39 = .ok (.aload_n 0, 1) := by decide +kernel
theorem dX10_read_40 : decode cX10_read 40 = .ok (.getfield 7, 3) := by decide +kernel
theorem dX10_read_43 : decode cX10_read 43 = .ok (.iload 5, 2) := by decide +kernel
theorem dX10_read_45 : decode cX10_read 45 = .ok (.iaload, 1) := by decide +kernel
theorem dX10_read_46 : decode cX10_read 46 = .ok (.iastore, 1) := by decide +kernel
theorem dX10_read_47 : decode cX10_read 47 = .ok (.iinc 5 1, 3) := by decide +kernel
theorem dX10_read_50 : decode cX10_read 50 = .ok (.goto (-24), 3) := by decide +kernel
theorem dX10_read_53 : decode cX10_read 53 = .ok (.iconst 0, 1) := by decide +kernel
theorem dX10_read_54 : decode cX10_read 54 = .ok (.istore 5, 2) := by decide +kernel
theorem dX10_read_56 : decode cX10_read 56 = .ok (.iconst 0, 1) := by decide +kernel
theorem dX10_read_57 : decode cX10_read 57 = .ok (.istore 6, 2) := by decide +kernel
theorem dX10_read_59 : decode cX10_read 59 = .ok (.iconst 0, 1) := by decide +kernel
theorem dX10_read_60 : decode cX10_read 60 = .ok (.istore 7, 2) := by decide +kernel
theorem dX10_read_62 : decode cX10_read 62 = .ok (.iload 7, 2) := by decide +kernel
theorem dX10_read_64 : decode cX10_read 64 = .ok (.iload 4, 2) := by decide +kernel
theorem dX10_read_66 : decode cX10_read 66 = .ok (.if_icmp .ge 193, 3) := by decide +kernel
theorem dX10_read_69 : decode cX10_read 69 = .ok (.iload 5, 2) := by decide +kernel
theorem dX10_read_71 : decode cX10_read 71 = .ok (.ifCond .ne 188, 3) := by decide +kernel
theorem dX10_read_74 : decode cX10_read 74 = .ok (.iconst 0, 1) := by decide +kernel
theorem dX10_read_75 : decode cX10_read 75 = .ok (.istore 8, 2) := by decide +kernel
theorem dX10_read_77 : decode cX10_read 77 = .ok (.iload 8, 2) := by decide +kernel
theorem dX10_read_79 : decode cX10_read 79 = .ok (.iconst 3, 1) := by decide +kernel
theorem dX10_read_80 : decode cX10_read 80 = .ok (.if_icmp .ge 84, 3) := by decide +kernel
theorem dX10_read_83 : decode cX10_read 83 = .ok (.iload 5, 2) := by decide +kernel
theorem dX10_read_85 : decode cX10_read 85 = .ok (.ifCond .ne 79, 3) := by decide +kernel
theorem dX10_read_88 : decode cX10_read 88 = .ok (.iload_n 3, 1) := by decide +kernel
theorem dX10_read_89 : decode cX10_read 89 = .ok (.i2l, 1) := by decide +kernel
theorem dX10_read_90 : decode cX10_read 90 = .ok (.iconst 3, 1) := by decide +kernel
theorem dX10_read_91 : decode cX10_read 91 = .ok (.iload 7, 2) := by decide +kernel
theorem dX10_read_93 : decode cX10_read 93 = .ok (.imul, 1) := by decide +kernel
theorem dX10_read_94 : decode cX10_read 94 = .ok (.i2l, 1) := by decide +kernel
theorem dX10_read_95 : decode cX10_read 95 = .ok (.ladd, 1) := by decide +kernel
theorem dX10_read_96 : decode cX10_read 96 = .ok (.iload 8, 2) := by decide +kernel
theorem dX10_read_98 : decode cX10_read 98 = .ok (.i2l, 1) := by decide +kernel
theorem dX10_read_99 : decode cX10_read 99 = .ok (.ladd, 1) := by decide +kernel
theorem dX10_read_100 : decode cX10_read 100 = .ok (.lstore 9, 2) := by decide +kernel
theorem dX10_read_102 : decode cX10_read 102 = .ok (.aload_n 0, 1) := by decide +kernel
theorem dX10_read_103 : decode cX10_read 103 = .ok (.getfield 41, 3) := by decide +kernel
theorem dX10_read_106 : decode cX10_read 106 = .ok (.iload_n 1, 1) := by decide +kernel
theorem dX10_read_107 : decode cX10_read 107 = .ok (.iaload, 1) := by decide +kernel
theorem dX10_read_108 : decode cX10_read 108 = .ok (.bipush (-4), 2) := by decide +kernel
theorem dX10_read_110 : decode cX10_read 110 = .ok (.if_icmp .ne 7, 3) := by decide +kernel
theorem dX10_read_113 : decode cX10_read 113 = .ok (.iconst 1, 1) := by decide +kernel
theorem dX10_read_114 : decode cX10_read 114 = .ok (.goto 42, 3) := by decide +kernel
theorem dX10_read_117 : decode cX10_read 117 = .ok (.aload_n 0, 1) := by decide +kernel
theorem dX10_read_118 : decode cX10_read 118 = .ok (.getfield 41, 3) := by decide +kernel
theorem dX10_read_121 : decode cX10_read 121 = .ok (.iload_n 1, 1) := by decide +kernel
theorem dX10_read_122 : decode cX10_read 122 = .ok (.iaload, 1) := by decide +kernel
theorem dX10_read_123 : decode cX10_read 123 = .ok (.iload_n 2, 1) := by decide +kernel
theorem dX10_read_124 : decode cX10_read 124 = .ok (.if_icmp .eq 7, 3) := by decide +kernel
theorem dX10_read_127 : decode cX10_read 127 = .ok (.iconst 3, 1) := by decide +kernel
theorem dX10_read_128 : decode cX10_read 128 = .ok (.goto 28, 3) := by decide +kernel
theorem dX10_read_131 : decode cX10_read 131 = .ok (.lload 9, 2) := by decide +kernel
theorem dX10_read_133 : decode cX10_read 133 = .ok (.lconst 0, 1) := by decide +kernel
theorem dX10_read_134 : decode cX10_read 134 = .ok (.lcmp, 1) := by decide +kernel
theorem dX10_read_135 : decode cX10_read 135 = .ok (.ifCond .lt 16, 3) := by decide +kernel
theorem dX10_read_138 : decode cX10_read 138 = .ok (.lload 9, 2) := by decide +kernel
theorem dX10_read_140 : decode cX10_read 140 = .ok (.aload_n 0, 1) := by decide +kernel
theorem dX10_read_141 : decode cX10_read 141 = .ok (.getfield 44, 3) := by decide +kernel
theorem dX10_read_144 : decode cX10_read 144 = .ok (.iload_n 1, 1) := by decide +kernel
theorem dX10_read_145 : decode cX10_read 145 = .ok (.iaload, 1) := by decide +kernel
theorem dX10_read_146 : decode cX10_read 146 = .ok (.i2l, 1) := by decide +kernel
theorem dX10_read_147 : decode cX10_read 147 = .ok (.lcmp, 1) := by decide +kernel
theorem dX10_read_148 : decode cX10_read 148 = .ok (.ifCond .lt 7, 3) := by decide +kernel
theorem dX10_read_151 : decode cX10_read 151 = .ok (.iconst 2, 1) := by decide +kernel
theorem dX10_read_152 : decode cX10_read 152 = .ok (.goto 4, 3) := by decide +kernel
theorem dX10_read_155 : decode cX10_read 155 = .ok (.iconst 0, 1) := by decide +kernel
theorem dX10_read_156 : decode cX10_read 156 = .ok (.istore 5, 2) := by decide +kernel
theorem dX10_read_158 : decode cX10_read 158 = .ok (.iinc 8 1, 3) := by decide +kernel
theorem dX10_read_161 : decode cX10_read 161 = .ok (.goto (-84), 3) := by decide +kernel
theorem dX10_read_164 : decode cX10_read 164 = .ok (.iload 5, 2) := by decide +kernel
theorem dX10_read_166 : decode cX10_read 166 = .ok (.ifCond .ne 87, 3) := by decide +kernel
theorem dX10_read_169 : decode cX10_read 169 = .ok (.bipush 40, 2) := by decide +kernel
theorem dX10_read_171 : decode cX10_read 171 = .ok (.iload_n 1, 1) := by decide +kernel
theorem dX10_read_172 : decode cX10_read 172 = .ok (.imul, 1) := by decide +kernel
theorem dX10_read_173 : decode cX10_read 173 = .ok (.iload_n 3, 1) := by decide +kernel
theorem dX10_read_174 : decode cX10_read 174 = .ok (.iadd, 1) := by decide +kernel
theorem dX10_read_175 : decode cX10_read 175 = .ok (.iconst 3, 1) := by decide +kernel
theorem dX10_read_176 : decode cX10_read 176 = .ok (.iload 7, 2) := by decide +kernel
theorem dX10_read_178 : decode cX10_read 178 = .ok (.imul, 1) := by decide +kernel
theorem dX10_read_179 : decode cX10_read 179 = .ok (.iadd, 1) := by decide +kernel
theorem dX10_read_180 : decode cX10_read 180 = .ok (.istore 8, 2) := by decide +kernel
theorem dX10_read_182 : decode cX10_read 182 = .ok (.aload_n 0, 1) := by decide +kernel
theorem dX10_read_183 : decode cX10_read 183 = .ok (.aload_n 0, 1) := by decide +kernel
theorem dX10_read_184 : decode cX10_read 184 = .ok (.getfield 47, 3) := by decide +kernel
theorem dX10_read_187 : decode cX10_read 187 = .ok (.iload 8, 2) := by decide +kernel
theorem dX10_read_189 : decode cX10_read 189 = .ok (.iaload, 1) := by decide +kernel
theorem dX10_read_190 : decode cX10_read 190 = .ok (.aload_n 0, 1) := by decide +kernel
theorem dX10_read_191 : decode cX10_read 191 = .ok (.getfield 47, 3) := by decide +kernel
theorem dX10_read_194 : decode cX10_read 194 = .ok (.iload 8, 2) := by decide +kernel
theorem dX10_read_196 : decode cX10_read 196 = .ok (.iconst 1, 1) := by decide +kernel
theorem dX10_read_197 : decode cX10_read 197 = .ok (.iadd, 1) := by decide +kernel
theorem dX10_read_198 : decode cX10_read 198 = .ok (.iaload, 1) := by decide +kernel
theorem dX10_read_199 : decode cX10_read 199 = .ok (.aload_n 0, 1) := by decide +kernel
theorem dX10_read_200 : decode cX10_read 200 = .ok (.getfield 47, 3) := by decide +kernel
theorem dX10_read_203 : decode cX10_read 203 = .ok (.iload 8, 2) := by decide +kernel
theorem dX10_read_205 : decode cX10_read 205 = .ok (.iconst 2, 1) := by decide +kernel
theorem dX10_read_206 : decode cX10_read 206 = .ok (.iadd, 1) := by decide +kernel
theorem dX10_read_207 : decode cX10_read 207 = .ok (.iaload, 1) := by decide +kernel
theorem dX10_read_208 : decode cX10_read 208 = .ok (.invokevirtual 291, 3) := by decide +kernel
theorem dX10_read_211 : decode cX10_read 211 = .ok (.ifCond .ge 39, 3) := by decide +kernel
theorem dX10_read_214 : decode cX10_read 214 = .ok (.iconst 0, 1) := by decide +kernel
theorem dX10_read_215 : decode cX10_read 215 = .ok (.istore 9, 2) := by decide +kernel
theorem dX10_read_217 : decode cX10_read 217 = .ok (.iload 9, 2) := by decide +kernel
theorem dX10_read_219 : decode cX10_read 219 = .ok (.bipush 56, 2) := by decide +kernel
theorem dX10_read_221 : decode cX10_read 221 = .ok (.if_icmp .ge 23, 3) := by decide +kernel
theorem dX10_read_224 : decode cX10_read 224 = .ok (.aload_n 0, 1) := by decide +kernel
theorem dX10_read_225 : decode cX10_read 225 = .ok (.getfield 7, 3) := by decide +kernel
theorem dX10_read_228 : decode cX10_read 228 = .ok (.iload 9, 2) := by decide +kernel
theorem dX10_read_230 : decode cX10_read 230 = .ok (.aload_n 0, 1) := by decide +kernel
theorem dX10_read_231 : decode cX10_read 231 = .ok (.getfield 50, 3) := by decide +kernel
theorem dX10_read_234 : decode cX10_read 234 = .ok (.iload 9, 2) := by decide +kernel
theorem dX10_read_236 : decode cX10_read 236 = .ok (.iaload, 1) := by decide +kernel
theorem dX10_read_237 : decode cX10_read 237 = .ok (.iastore, 1) := by decide +kernel
theorem dX10_read_238 : decode cX10_read 238 = .ok (.iinc 9 1, 3) := by decide +kernel
theorem dX10_read_241 : decode cX10_read 241 = .ok (.goto (-24), 3) := by decide +kernel
theorem dX10_read_244 : decode cX10_read 244 = .ok (.bipush (-20), 2) := by decide +kernel
theorem dX10_read_246 : decode cX10_read 246 = .ok (.iload 7, 2) := by decide +kernel
theorem dX10_read_248 : decode cX10_read 248 = .ok (.isub, 1) := by decide +kernel
theorem dX10_read_249 : decode cX10_read 249 = .ok (.ireturn, 1) := by decide +kernel
theorem dX10_read_250 : decode cX10_read 250 = .ok (.iinc 6 1, 3) := by decide +kernel
theorem dX10_read_253 : decode cX10_read 253 = .ok (.iinc 7 1, 3) := by decide +kernel
theorem dX10_read_256 : decode cX10_read 256 = .ok (.goto (-194), 3) := by decide +kernel
theorem dX10_read_259 : decode cX10_read 259 = .ok (.aload_n 0, 1) := by decide +kernel
theorem dX10_read_260 : decode cX10_read 260 = .ok (.iload 5, 2) := by decide +kernel
theorem dX10_read_262 : decode cX10_read 262 = .ok (.putfield 294, 3) := by decide +kernel
theorem dX10_read_265 : decode cX10_read 265 = .ok (.iload 6, 2) := by decide +kernel
theorem dX10_read_267 : decode cX10_read 267 = .ok (.ireturn, 1) := by decide +kernel
theorem dX10_torn_0 : decode cX10_torn 0 = .ok (.aload_n 0, 1) := by decide +kernel
theorem dX10_torn_1 : decode cX10_torn 1 = .ok (.getfield 294, 3) := by decide +kernel
theorem dX10_torn_4 : decode cX10_torn 4 = .ok (.ireturn, 1) := by decide +kernel
set_option maxRecDepth 20000 in
theorem ggX10_count_X10_fetches : GoodIn wsX10_count wsX10_fetches := goodIn_r _ [10, 11, 1, 23, 24, 25, 26, 27, 28, 29, 30, 31, 32, 33, 34, 35, 36, 37, 38, 39, 40, 41, 42, 43, 44, 45, 46, 47, 48, 49, 50, 51, 52] (by decide +kernel) (by decide +kernel)
set_option maxRecDepth 20000 in
theorem gX10_count_X10_fetches : GoodIn wsX10_count (wsV RX10 183 RX10 yX10_fetches wsX10_fetches) := goodIn_app (goodIn_of _ (by decide +kernel)) ggX10_count_X10_fetches
set_option maxRecDepth 20000 in
theorem ggX10_count_X10_flag : GoodIn wsX10_count wsX10_flag := goodIn_r _ [14] (by decide +kernel) (by decide +kernel)
set_option maxRecDepth 20000 in
theorem gX10_count_X10_flag : GoodIn wsX10_count (va_wsS RX10 176 yX10_flag wsX10_flag) := goodIn_app (goodIn_of _ (by decide +kernel)) ggX10_count_X10_flag
set_option maxRecDepth 20000 in
theorem ggX10_count_X10_allOf : GoodIn wsX10_count wsX10_allOf := goodIn_r _ [18, 11, 19, 20, 21, 9, 22, 23, 24, 25, 26, 27, 28, 29, 30, 31, 32, 33, 34, 35, 36, 37, 38, 39, 40, 41, 42, 43, 44, 45, 46, 47, 48, 49, 50, 51, 52] (by decide +kernel) (by decide +kernel)
set_option maxRecDepth 20000 in
theorem gX10_count_X10_allOf : GoodIn wsX10_count (wsV RX10 192 RX10 yX10_allOf wsX10_allOf) := goodIn_app (goodIn_of _ (by decide +kernel)) ggX10_count_X10_allOf
theorem dX10_count_0 : decode cX10_count 0 = .ok (.aload_n 0, 1) := by decide +kernel
theorem dX10_count_1 : decode cX10_count 1 = .ok (.invokevirtual 183, 3) := by decide +kernel
theorem dX10_count_4 : decode cX10_count 4 = .ok (.iload_n 1, 1) := by decide +kernel
theorem dX10_count_5 : decode cX10_count 5 = .ok (.tableswitch 97 0 4 #[35, 43, 63, 68, 91], 35) := by decide +kernel
theorem dX10_count_40 : decode cX10_count 40 = .ok (.aload_n 0, 1) := by decide +kernel
theorem dX10_count_41 : decode cX10_count 41 = .ok (.getfield 7, 3) := by decide +kernel
theorem dX10_count_44 : decode cX10_count 44 = .ok (.bipush 37, 2) := by decide +kernel
theorem dX10_count_46 : decode cX10_count 46 = .ok (.iaload, 1) := by decide +kernel
theorem dX10_count_47 : decode cX10_count 47 = .ok (.ireturn, 1) := by decide +kernel
theorem dX10_count_48 : decode cX10_count 48 = .ok (.aload_n 0, 1) := by decide +kernel
theorem dX10_count_49 : decode cX10_count 49 = .ok (.getfield 16, 3) := by decide +kernel
theorem dX10_count_52 : decode cX10_count 52 = .ok (.iconst 0, 1) := by decide +kernel
theorem dX10_count_53 : decode cX10_count 53 = .ok (.baload, 1) := by decide +kernel
theorem dX10_count_54 : decode cX10_count 54 = .ok (.invokestatic 176, 3) := by decide +kernel
theorem dX10_count_57 : decode cX10_count 57 = .ok (.aload_n 0, 1) := by decide +kernel
theorem dX10_count_58 : decode cX10_count 58 = .ok (.getfield 16, 3) := by decide +kernel
theorem dX10_count_61 : decode cX10_count 61 = .ok (.iconst 1, 1) := by decide +kernel
theorem dX10_count_62 : decode cX10_count 62 = .ok (.baload, 1) := by decide +kernel
theorem dX10_count_63 : decode cX10_count 63 = .ok (.invokestatic 176, 3) := by decide +kernel
theorem dX10_count_66 : decode cX10_count 66 = .ok (.iadd, 1) := by decide +kernel
theorem dX10_count_67 : decode cX10_count 67 = .ok (.ireturn, 1) := by decide +kernel
theorem dX10_count_68 : decode cX10_count 68 = .ok (.aload_n 0, 1) := by decide +kernel
theorem dX10_count_69 : decode cX10_count 69 = .ok (.getfield 82, 3) := by decide +kernel
theorem dX10_count_72 : decode cX10_count 72 = .ok (.ireturn, 1) := by decide +kernel
theorem dX10_count_73 : decode cX10_count 73 = .ok (.aload_n 0, 1) := by decide +kernel
theorem dX10_count_74 : decode cX10_count 74 = .ok (.getfield 41, 3) := by decide +kernel
theorem dX10_count_77 : decode cX10_count 77 = .ok (.iconst 0, 1) := by decide +kernel
theorem dX10_count_78 : decode cX10_count 78 = .ok (.iaload, 1) := by decide +kernel
theorem dX10_count_79 : decode cX10_count 79 = .ok (.bipush (-4), 2) := by decide +kernel
theorem dX10_count_81 : decode cX10_count 81 = .ok (.if_icmp .ne 8, 3) := by decide +kernel
theorem dX10_count_84 : decode cX10_count 84 = .ok (.bipush (-4), 2) := by decide +kernel
theorem dX10_count_86 : decode cX10_count 86 = .ok (.goto 9, 3) := by decide +kernel
theorem dX10_count_89 : decode cX10_count 89 = .ok (.aload_n 0, 1) := by decide +kernel
theorem dX10_count_90 : decode cX10_count 90 = .ok (.getfield 44, 3) := by decide +kernel
theorem dX10_count_93 : decode cX10_count 93 = .ok (.iconst 0, 1) := by decide +kernel
theorem dX10_count_94 : decode cX10_count 94 = .ok (.iaload, 1) := by decide +kernel
theorem dX10_count_95 : decode cX10_count 95 = .ok (.ireturn, 1) := by decide +kernel
theorem dX10_count_96 : decode cX10_count 96 = .ok (.aload_n 0, 1) := by decide +kernel
theorem dX10_count_97 : decode cX10_count 97 = .ok (.iconst 3, 1) := by decide +kernel
theorem dX10_count_98 : decode cX10_count 98 = .ok (.invokevirtual 192, 3) := by decide +kernel
theorem dX10_count_101 : decode cX10_count 101 = .ok (.ireturn, 1) := by decide +kernel
theorem dX10_count_102 : decode cX10_count 102 = .ok (.iconst (-1), 1) := by decide +kernel
theorem dX10_count_103 : decode cX10_count 103 = .ok (.ireturn, 1) := by decide +kernel
theorem dJ6_bitCount_0f7a4_0 : decode cJ6_bitCount_0f7a4 0 = .ok (.iload_n 0, 1) := by decide +kernel
theorem dJ6_bitCount_0f7a4_1 : decode cJ6_bitCount_0f7a4 1 = .ok (.iload_n 0, 1) := by decide +kernel
theorem dJ6_bitCount_0f7a4_2 : decode cJ6_bitCount_0f7a4 2 = .ok (.iconst 1, 1) := by decide +kernel
theorem dJ6_bitCount_0f7a4_3 : decode cJ6_bitCount_0f7a4 3 = .ok (.iushr, 1) := by decide +kernel
theorem dJ6_bitCount_0f7a4_4 : decode cJ6_bitCount_0f7a4 4 = .ok (.ldc_w 265, 3) := by decide +kernel
theorem dJ6_bitCount_0f7a4_7 : decode cJ6_bitCount_0f7a4 7 = .ok (.iand, 1) := by decide +kernel
theorem dJ6_bitCount_0f7a4_8 : decode cJ6_bitCount_0f7a4 8 = .ok (.isub, 1) := by decide +kernel
theorem dJ6_bitCount_0f7a4_9 : decode cJ6_bitCount_0f7a4 9 = .ok (.istore_n 0, 1) := by decide +kernel
theorem dJ6_bitCount_0f7a4_10 : decode cJ6_bitCount_0f7a4 10 = .ok (.iload_n 0, 1) := by decide +kernel
theorem dJ6_bitCount_0f7a4_11 : decode cJ6_bitCount_0f7a4 11 = .ok (.ldc_w 266, 3) := by decide +kernel
theorem dJ6_bitCount_0f7a4_14 : decode cJ6_bitCount_0f7a4 14 = .ok (.iand, 1) := by decide +kernel
theorem dJ6_bitCount_0f7a4_15 : decode cJ6_bitCount_0f7a4 15 = .ok (.iload_n 0, 1) := by decide +kernel
theorem dJ6_bitCount_0f7a4_16 : decode cJ6_bitCount_0f7a4 16 = .ok (.iconst 2, 1) := by decide +kernel
theorem dJ6_bitCount_0f7a4_17 : decode cJ6_bitCount_0f7a4 17 = .ok (.iushr, 1) := by decide +kernel
theorem dJ6_bitCount_0f7a4_18 : decode cJ6_bitCount_0f7a4 18 = .ok (.ldc_w 266, 3) := by decide +kernel
theorem dJ6_bitCount_0f7a4_21 : decode cJ6_bitCount_0f7a4 21 = .ok (.iand, 1) := by decide +kernel
theorem dJ6_bitCount_0f7a4_22 : decode cJ6_bitCount_0f7a4 22 = .ok (.iadd, 1) := by decide +kernel
theorem dJ6_bitCount_0f7a4_23 : decode cJ6_bitCount_0f7a4 23 = .ok (.istore_n 0, 1) := by decide +kernel
theorem dJ6_bitCount_0f7a4_24 : decode cJ6_bitCount_0f7a4 24 = .ok (.iload_n 0, 1) := by decide +kernel
theorem dJ6_bitCount_0f7a4_25 : decode cJ6_bitCount_0f7a4 25 = .ok (.iload_n 0, 1) := by decide +kernel
theorem dJ6_bitCount_0f7a4_26 : decode cJ6_bitCount_0f7a4 26 = .ok (.iconst 4, 1) := by decide +kernel
theorem dJ6_bitCount_0f7a4_27 : decode cJ6_bitCount_0f7a4 27 = .ok (.iushr, 1) := by decide +kernel
theorem dJ6_bitCount_0f7a4_28 : decode cJ6_bitCount_0f7a4 28 = .ok (.iadd, 1) := by decide +kernel
theorem dJ6_bitCount_0f7a4_29 : decode cJ6_bitCount_0f7a4 29 = .ok (.ldc_w 267, 3) := by decide +kernel
theorem dJ6_bitCount_0f7a4_32 : decode cJ6_bitCount_0f7a4 32 = .ok (.iand, 1) := by decide +kernel
theorem dJ6_bitCount_0f7a4_33 : decode cJ6_bitCount_0f7a4 33 = .ok (.istore_n 0, 1) := by decide +kernel
theorem dJ6_bitCount_0f7a4_34 : decode cJ6_bitCount_0f7a4 34 = .ok (.iload_n 0, 1) := by decide +kernel
theorem dJ6_bitCount_0f7a4_35 : decode cJ6_bitCount_0f7a4 35 = .ok (.iload_n 0, 1) := by decide +kernel
theorem dJ6_bitCount_0f7a4_36 : decode cJ6_bitCount_0f7a4 36 = .ok (.bipush 8, 2) := by decide +kernel
theorem dJ6_bitCount_0f7a4_38 : decode cJ6_bitCount_0f7a4 38 = .ok (.iushr, 1) := by decide +kernel
theorem dJ6_bitCount_0f7a4_39 : decode cJ6_bitCount_0f7a4 39 = .ok (.iadd, 1) := by decide +kernel
theorem dJ6_bitCount_0f7a4_40 : decode cJ6_bitCount_0f7a4 40 = .ok (.istore_n 0, 1) := by decide +kernel
theorem dJ6_bitCount_0f7a4_41 : decode cJ6_bitCount_0f7a4 41 = .ok (.iload_n 0, 1) := by decide +kernel
theorem dJ6_bitCount_0f7a4_42 : decode cJ6_bitCount_0f7a4 42 = .ok (.iload_n 0, 1) := by decide +kernel
theorem dJ6_bitCount_0f7a4_43 : decode cJ6_bitCount_0f7a4 43 = .ok (.bipush 16, 2) := by decide +kernel
theorem dJ6_bitCount_0f7a4_45 : decode cJ6_bitCount_0f7a4 45 = .ok (.iushr, 1) := by decide +kernel
theorem dJ6_bitCount_0f7a4_46 : decode cJ6_bitCount_0f7a4 46 = .ok (.iadd, 1) := by decide +kernel
theorem dJ6_bitCount_0f7a4_47 : decode cJ6_bitCount_0f7a4 47 = .ok (.istore_n 0, 1) := by decide +kernel
theorem dJ6_bitCount_0f7a4_48 : decode cJ6_bitCount_0f7a4 48 = .ok (.iload_n 0, 1) := by decide +kernel
theorem dJ6_bitCount_0f7a4_49 : decode cJ6_bitCount_0f7a4 49 = .ok (.bipush 63, 2) := by decide +kernel
theorem dJ6_bitCount_0f7a4_51 : decode cJ6_bitCount_0f7a4 51 = .ok (.iand, 1) := by decide +kernel
theorem dJ6_bitCount_0f7a4_52 : decode cJ6_bitCount_0f7a4 52 = .ok (.ireturn, 1) := by decide +kernel
theorem dJ9_floorMod_7cf53_0 : decode cJ9_floorMod_7cf53 0 = .ok (.iload_n 0, 1) := by decide +kernel
theorem dJ9_floorMod_7cf53_1 : decode cJ9_floorMod_7cf53 1 = .ok (.iload_n 1, 1) := by decide +kernel
theorem dJ9_floorMod_7cf53_2 : decode cJ9_floorMod_7cf53 2 = .ok (.irem, 1) := by decide +kernel
theorem dJ9_floorMod_7cf53_3 : decode cJ9_floorMod_7cf53 3 = .ok (.istore_n 2, 1) := by decide +kernel
theorem dJ9_floorMod_7cf53_4 : decode cJ9_floorMod_7cf53 4 = .ok (.iload_n 0, 1) := by decide +kernel
theorem dJ9_floorMod_7cf53_5 : decode cJ9_floorMod_7cf53 5 = .ok (.iload_n 1, 1) := by decide +kernel
theorem dJ9_floorMod_7cf53_6 : decode cJ9_floorMod_7cf53 6 = .ok (.ixor, 1) := by decide +kernel
theorem dJ9_floorMod_7cf53_7 : decode cJ9_floorMod_7cf53 7 = .ok (.ifCond .ge 11, 3) := by decide +kernel
theorem dJ9_floorMod_7cf53_10 : decode cJ9_floorMod_7cf53 10 = .ok (.iload_n 2, 1) := by decide +kernel
theorem dJ9_floorMod_7cf53_11 : decode cJ9_floorMod_7cf53 11 = .ok (.ifCond .eq 7, 3) := by decide +kernel
theorem dJ9_floorMod_7cf53_14 : decode cJ9_floorMod_7cf53 14 = .ok (.iload_n 2, 1) := by decide +kernel
theorem dJ9_floorMod_7cf53_15 : decode cJ9_floorMod_7cf53 15 = .ok (.iload_n 1, 1) := by decide +kernel
theorem dJ9_floorMod_7cf53_16 : decode cJ9_floorMod_7cf53 16 = .ok (.iadd, 1) := by decide +kernel
theorem dJ9_floorMod_7cf53_17 : decode cJ9_floorMod_7cf53 17 = .ok (.ireturn, 1) := by decide +kernel
theorem dJ9_floorMod_7cf53_18 : decode cJ9_floorMod_7cf53 18 = .ok (.iload_n 2, 1) := by decide +kernel
theorem dJ9_floorMod_7cf53_19 : decode cJ9_floorMod_7cf53 19 = .ok (.ireturn, 1) := by decide +kernel
theorem dJ9_max_7cf53_0 : decode cJ9_max_7cf53 0 = .ok (.iload_n 0, 1) := by decide +kernel
theorem dJ9_max_7cf53_1 : decode cJ9_max_7cf53 1 = .ok (.iload_n 1, 1) := by decide +kernel
theorem dJ9_max_7cf53_2 : decode cJ9_max_7cf53 2 = .ok (.if_icmp .lt 7, 3) := by decide +kernel
theorem dJ9_max_7cf53_5 : decode cJ9_max_7cf53 5 = .ok (.iload_n 0, 1) := by decide +kernel
theorem dJ9_max_7cf53_6 : decode cJ9_max_7cf53 6 = .ok (.goto 4, 3) := by decide +kernel
theorem dJ9_max_7cf53_9 : decode cJ9_max_7cf53 9 = .ok (.iload_n 1, 1) := by decide +kernel
theorem dJ9_max_7cf53_10 : decode cJ9_max_7cf53 10 = .ok (.ireturn, 1) := by decide +kernel
theorem dJ9_min_7cf53_0 : decode cJ9_min_7cf53 0 = .ok (.iload_n 0, 1) := by decide +kernel
theorem dJ9_min_7cf53_1 : decode cJ9_min_7cf53 1 = .ok (.iload_n 1, 1) := by decide +kernel
theorem dJ9_min_7cf53_2 : decode cJ9_min_7cf53 2 = .ok (.if_icmp .gt 7, 3) := by decide +kernel
theorem dJ9_min_7cf53_5 : decode cJ9_min_7cf53 5 = .ok (.iload_n 0, 1) := by decide +kernel
theorem dJ9_min_7cf53_6 : decode cJ9_min_7cf53 6 = .ok (.goto 4, 3) := by decide +kernel
theorem dJ9_min_7cf53_9 : decode cJ9_min_7cf53 9 = .ok (.iload_n 1, 1) := by decide +kernel
theorem dJ9_min_7cf53_10 : decode cJ9_min_7cf53 10 = .ok (.ireturn, 1) := by decide +kernel
set_option maxRecDepth 20000 in
theorem ggJ0_length_8abf5_J0_coder_7d493 : GoodIn wsJ0_length_8abf5 wsJ0_coder_7d493 := goodIn_r _ [6, 7, 8] (by decide +kernel) (by decide +kernel)
set_option maxRecDepth 20000 in
theorem gJ0_length_8abf5_J0_coder_7d493 : GoodIn wsJ0_length_8abf5 (wsV RJ0 335 RJ0 yJ0_coder_7d493 wsJ0_coder_7d493) := goodIn_app (goodIn_of _ (by decide +kernel)) ggJ0_length_8abf5_J0_coder_7d493
theorem dJ0_length_8abf5_0 : decode cJ0_length_8abf5 0 = .ok (.aload_n 0, 1) := by decide +kernel
theorem dJ0_length_8abf5_1 : decode cJ0_length_8abf5 1 = .ok (.getfield 9, 3) := by decide +kernel
theorem dJ0_length_8abf5_4 : decode cJ0_length_8abf5 4 = .ok (.arraylength, 1) := by decide +kernel
theorem dJ0_length_8abf5_5 : decode cJ0_length_8abf5 5 = .ok (.aload_n 0, 1) := by decide +kernel
theorem dJ0_length_8abf5_6 : decode cJ0_length_8abf5 6 = .ok (.invokevirtual 335, 3) := by decide +kernel
theorem dJ0_length_8abf5_9 : decode cJ0_length_8abf5 9 = .ok (.ishr, 1) := by decide +kernel
theorem dJ0_length_8abf5_10 : decode cJ0_length_8abf5 10 = .ok (.ireturn, 1) := by decide +kernel
set_option maxRecDepth 20000 in
theorem ggJ0_charAt_5068e_J0_isLatin1_aae02 : GoodIn wsJ0_charAt_5068e wsJ0_isLatin1_aae02 := goodIn_r _ [6, 7, 8] (by decide +kernel) (by decide +kernel)
set_option maxRecDepth 20000 in
theorem gJ0_charAt_5068e_J0_isLatin1_aae02 : GoodIn wsJ0_charAt_5068e (wsV RJ0 492 RJ0 yJ0_isLatin1_aae02 wsJ0_isLatin1_aae02) := goodIn_app (goodIn_of _ (by decide +kernel)) ggJ0_charAt_5068e_J0_isLatin1_aae02
set_option maxRecDepth 20000 in
theorem ggJ0_charAt_5068e_J1_charAt_3b067 : GoodIn wsJ0_charAt_5068e wsJ1_charAt_3b067 := goodIn_r _ [12, 13, 14, 5, 15, 16, 17, 18, 19, 20] (by decide +kernel) (by decide +kernel)
set_option maxRecDepth 20000 in
theorem gJ0_charAt_5068e_J1_charAt_3b067 : GoodIn wsJ0_charAt_5068e (va_wsS RJ0 495 yJ1_charAt_3b067 wsJ1_charAt_3b067) := goodIn_app (goodIn_of _ (by decide +kernel)) ggJ0_charAt_5068e_J1_charAt_3b067
set_option maxRecDepth 20000 in
theorem ggJ0_charAt_5068e_J2_charAt_3b067 : GoodIn wsJ0_charAt_5068e wsJ2_charAt_3b067 := goodIn_r _ [24, 25, 26, 23, 27, 28, 29, 30, 31, 14, 5, 15, 16, 17, 18, 19, 20, 32, 33, 34, 35, 36, 37] (by decide +kernel) (by decide +kernel)
set_option maxRecDepth 20000 in
theorem gJ0_charAt_5068e_J2_charAt_3b067 : GoodIn wsJ0_charAt_5068e (va_wsS RJ0 498 yJ2_charAt_3b067 wsJ2_charAt_3b067) := goodIn_app (goodIn_of _ (by decide +kernel)) ggJ0_charAt_5068e_J2_charAt_3b067
theorem dJ0_charAt_5068e_0 : decode cJ0_charAt_5068e 0 = .ok (.aload_n 0, 1) := by decide +kernel
theorem dJ0_charAt_5068e_1 : decode cJ0_charAt_5068e 1 = .ok (.invokevirtual 492, 3) := by decide +kernel
theorem dJ0_charAt_5068e_4 : decode cJ0_charAt_5068e 4 = .ok (.ifCond .eq 12, 3) := by decide +kernel
theorem dJ0_charAt_5068e_7 : decode cJ0_charAt_5068e 7 = .ok (.aload_n 0, 1) := by decide +kernel
theorem dJ0_charAt_5068e_8 : decode cJ0_charAt_5068e 8 = .ok (.getfield 9, 3) := by decide +kernel
theorem dJ0_charAt_5068e_11 : decode cJ0_charAt_5068e 11 = .ok (.iload_n 1, 1) := by decide +kernel
theorem dJ0_charAt_5068e_12 : decode cJ0_charAt_5068e 12 = .ok (.invokestatic 495, 3) := by decide +kernel
theorem dJ0_charAt_5068e_15 : decode cJ0_charAt_5068e 15 = .ok (.ireturn, 1) := by decide +kernel
theorem dJ0_charAt_5068e_16 : decode cJ0_charAt_5068e 16 = .ok (.aload_n 0, 1) := by decide +kernel
theorem dJ0_charAt_5068e_17 : decode cJ0_charAt_5068e 17 = .ok (.getfield 9, 3) := by decide +kernel
theorem dJ0_charAt_5068e_20 : decode cJ0_charAt_5068e 20 = .ok (.iload_n 1, 1) := by decide +kernel
theorem dJ0_charAt_5068e_21 : decode cJ0_charAt_5068e 21 = .ok (.invokestatic 498, 3) := by decide +kernel
theorem dJ0_charAt_5068e_24 : decode cJ0_charAt_5068e 24 = .ok (.ireturn, 1) := by decide +kernel
theorem dJ0_coder_7d493_0 : decode cJ0_coder_7d493 0 = .ok (.getstatic 38, 3) := by decide +kernel
theorem dJ0_coder_7d493_3 : decode cJ0_coder_7d493 3 = .ok (.ifCond .eq 10, 3) := by decide +kernel
theorem dJ0_coder_7d493_6 : decode cJ0_coder_7d493 6 = .ok (.aload_n 0, 1) := by decide +kernel
theorem dJ0_coder_7d493_7 : decode cJ0_coder_7d493 7 = .ok (.getfield 15, 3) := by decide +kernel
theorem dJ0_coder_7d493_10 : decode cJ0_coder_7d493 10 = .ok (.goto 4, 3) := by decide +kernel
theorem dJ0_coder_7d493_13 : decode cJ0_coder_7d493 13 = .ok (.iconst 1, 1) := by decide +kernel
theorem dJ0_coder_7d493_14 : decode cJ0_coder_7d493 14 = .ok (.ireturn, 1) := by decide +kernel
theorem dJ0_isLatin1_aae02_0 : decode cJ0_isLatin1_aae02 0 = .ok (.getstatic 38, 3) := by decide +kernel
theorem dJ0_isLatin1_aae02_3 : decode cJ0_isLatin1_aae02 3 = .ok (.ifCond .eq 14, 3) := by decide +kernel
theorem dJ0_isLatin1_aae02_6 : decode cJ0_isLatin1_aae02 6 = .ok (.aload_n 0, 1) := by decide +kernel
theorem dJ0_isLatin1_aae02_7 : decode cJ0_isLatin1_aae02 7 = .ok (.getfield 15, 3) := by decide +kernel
theorem dJ0_isLatin1_aae02_10 : decode cJ0_isLatin1_aae02 10 = .ok (.ifCond .ne 7, 3) := by decide +kernel
theorem dJ0_isLatin1_aae02_13 : decode cJ0_isLatin1_aae02 13 = .ok (.iconst 1, 1) := by decide +kernel
theorem dJ0_isLatin1_aae02_14 : decode cJ0_isLatin1_aae02 14 = .ok (.goto 4, 3) := by decide +kernel
theorem dJ0_isLatin1_aae02_17 : decode cJ0_isLatin1_aae02 17 = .ok (.iconst 0, 1) := by decide +kernel
theorem dJ0_isLatin1_aae02_18 : decode cJ0_isLatin1_aae02 18 = .ok (.ireturn, 1) := by decide +kernel
set_option maxRecDepth 20000 in
theorem ggJ0_checkIndex_df160_J3_checkIndex_8e157 : GoodIn wsJ0_checkIndex_df160 wsJ3_checkIndex_8e157 := goodIn_r _ [5] (by decide +kernel) (by decide +kernel)
set_option maxRecDepth 20000 in
theorem gJ0_checkIndex_df160_J3_checkIndex_8e157 : GoodIn wsJ0_checkIndex_df160 (va_wsS RJ0 1059 yJ3_checkIndex_8e157 wsJ3_checkIndex_8e157) := goodIn_app (goodIn_of _ (by decide +kernel)) ggJ0_checkIndex_df160_J3_checkIndex_8e157
theorem dJ0_checkIndex_df160_0 : decode cJ0_checkIndex_df160 0 = .ok (.iload_n 0, 1) := by decide +kernel
theorem dJ0_checkIndex_df160_1 : decode cJ0_checkIndex_df160 1 = .ok (.iload_n 1, 1) := by decide +kernel
theorem dJ0_checkIndex_df160_2 : decode cJ0_checkIndex_df160 2 = .ok (.getstatic 1053, 3) := by decide +kernel
theorem dJ0_checkIndex_df160_5 : decode cJ0_checkIndex_df160 5 = .ok (.invokestatic 1059, 3) := by decide +kernel
theorem dJ0_checkIndex_df160_8 : decode cJ0_checkIndex_df160 8 = .ok (.pop, 1) := by decide +kernel
theorem dJ0_checkIndex_df160_9 : decode cJ0_checkIndex_df160 9 = .ok (.return_, 1) := by decide +kernel
set_option maxRecDepth 20000 in
theorem ggJ1_charAt_3b067_J0_checkIndex_df160 : GoodIn wsJ1_charAt_3b067 wsJ0_checkIndex_df160 := goodIn_r _ [4, 5, 6, 7, 8, 9] (by decide +kernel) (by decide +kernel)
set_option maxRecDepth 20000 in
theorem gJ1_charAt_3b067_J0_checkIndex_df160 : GoodIn wsJ1_charAt_3b067 (va_wsS RJ1 9 yJ0_checkIndex_df160 wsJ0_checkIndex_df160) := goodIn_app (goodIn_of _ (by decide +kernel)) ggJ1_charAt_3b067_J0_checkIndex_df160
theorem dJ1_charAt_3b067_0 : decode cJ1_charAt_3b067 0 = .ok (.iload_n 1, 1) := by decide +kernel
theorem dJ1_charAt_3b067_1 : decode cJ1_charAt_3b067 1 = .ok (.aload_n 0, 1) := by decide +kernel
theorem dJ1_charAt_3b067_2 : decode cJ1_charAt_3b067 2 = .ok (.arraylength, 1) := by decide +kernel
theorem dJ1_charAt_3b067_3 : decode cJ1_charAt_3b067 3 = .ok (.invokestatic 9, 3) := by decide +kernel
theorem dJ1_charAt_3b067_6 : decode cJ1_charAt_3b067 6 = .ok (.aload_n 0, 1) := by decide +kernel
theorem dJ1_charAt_3b067_7 : decode cJ1_charAt_3b067 7 = .ok (.iload_n 1, 1) := by decide +kernel
theorem dJ1_charAt_3b067_8 : decode cJ1_charAt_3b067 8 = .ok (.baload, 1) := by decide +kernel
theorem dJ1_charAt_3b067_9 : decode cJ1_charAt_3b067 9 = .ok (.sipush 255, 3) := by decide +kernel
theorem dJ1_charAt_3b067_12 : decode cJ1_charAt_3b067 12 = .ok (.iand, 1) := by decide +kernel
theorem dJ1_charAt_3b067_13 : decode cJ1_charAt_3b067 13 = .ok (.i2c, 1) := by decide +kernel
theorem dJ1_charAt_3b067_14 : decode cJ1_charAt_3b067 14 = .ok (.ireturn, 1) := by decide +kernel
set_option maxRecDepth 20000 in
theorem ggJ2_getChar_3b067_J2_length_9d52b : GoodIn wsJ2_getChar_3b067 wsJ2_length_9d52b := goodIn_r _ [7] (by decide +kernel) (by decide +kernel)
set_option maxRecDepth 20000 in
theorem gJ2_getChar_3b067_J2_length_9d52b : GoodIn wsJ2_getChar_3b067 (va_wsS RJ2 48 yJ2_length_9d52b wsJ2_length_9d52b) := goodIn_app (goodIn_of _ (by decide +kernel)) ggJ2_getChar_3b067_J2_length_9d52b
theorem dJ2_getChar_3b067_0 : decode cJ2_getChar_3b067 0 = .ok (.getstatic 44, 3) := by decide +kernel
theorem dJ2_getChar_3b067_3 : decode cJ2_getChar_3b067 3 = .ok (.ifCond .ne 25, 3) := by decide +kernel
theorem dJ2_getChar_3b067_6 : decode cJ2_getChar_3b067 6 = .ok (.iload_n 1, 1) := by decide +kernel
theorem dJ2_getChar_3b067_7 : decode cJ2_getChar_3b067 7 = .ok (.ifCond .lt 11, 3) := by decide +kernel
theorem dJ2_getChar_3b067_10 : decode cJ2_getChar_3b067 10 = .ok (.iload_n 1, 1) := by decide +kernel
theorem dJ2_getChar_3b067_11 : decode cJ2_getChar_3b067 11 = .ok (.aload_n 0, 1) := by decide +kernel
theorem dJ2_getChar_3b067_12 : decode cJ2_getChar_3b067 12 = .ok (.invokestatic 48, 3) := by decide +kernel
theorem dJ2_getChar_3b067_15 : decode cJ2_getChar_3b067 15 = .ok (.if_icmp .lt 13, 3) := by decide +kernel
theorem dJ2_getChar_3b067_18 : decode cJ2_getChar_3b067 18 = .ok (.new 52, 3) := by decide +kernel
theorem dJ2_getChar_3b067_21 : decode cJ2_getChar_3b067 21 = .ok (.dup, 1) := by decide +kernel
theorem dJ2_getChar_3b067_22 : decode cJ2_getChar_3b067 22 = .ok (.ldc 54, 2) := by decide +kernel
theorem dJ2_getChar_3b067_24 : decode cJ2_getChar_3b067 24 = .ok (.invokespecial 56, 3) := by decide +kernel
theorem dJ2_getChar_3b067_27 : decode cJ2_getChar_3b067 27 = .ok (.athrow, 1) := by decide +kernel
theorem dJ2_getChar_3b067_28 : decode cJ2_getChar_3b067 28 = .ok (.iload_n 1, 1) := by decide +kernel
theorem dJ2_getChar_3b067_29 : decode cJ2_getChar_3b067 29 = .ok (.iconst 1, 1) := by decide +kernel
theorem dJ2_getChar_3b067_30 : decode cJ2_getChar_3b067 30 = .ok (.ishl, 1) := by decide +kernel
theorem dJ2_getChar_3b067_31 : decode cJ2_getChar_3b067 31 = .ok (.istore_n 1, 1) := by decide +kernel
theorem dJ2_getChar_3b067_32 : decode cJ2_getChar_3b067 32 = .ok (.aload_n 0, 1) := by decide +kernel
theorem dJ2_getChar_3b067_33 : decode cJ2_getChar_3b067 33 = .ok (.iload_n 1, 1) := by decide +kernel
theorem dJ2_getChar_3b067_34 : decode cJ2_getChar_3b067 34 = .ok (.iinc 1 1, 3) := by decide +kernel
theorem dJ2_getChar_3b067_37 : decode cJ2_getChar_3b067 37 = .ok (.baload, 1) := by decide +kernel
theorem dJ2_getChar_3b067_38 : decode cJ2_getChar_3b067 38 = .ok (.sipush 255, 3) := by decide +kernel
theorem dJ2_getChar_3b067_41 : decode cJ2_getChar_3b067 41 = .ok (.iand, 1) := by decide +kernel
theorem dJ2_getChar_3b067_42 : decode cJ2_getChar_3b067 42 = .ok (.getstatic 59, 3) := by decide +kernel
theorem dJ2_getChar_3b067_45 : decode cJ2_getChar_3b067 45 = .ok (.ishl, 1) := by decide +kernel
theorem dJ2_getChar_3b067_46 : decode cJ2_getChar_3b067 46 = .ok (.aload_n 0, 1) := by decide +kernel
theorem dJ2_getChar_3b067_47 : decode cJ2_getChar_3b067 47 = .ok (.iload_n 1, 1) := by decide +kernel
theorem dJ2_getChar_3b067_48 : decode cJ2_getChar_3b067 48 = .ok (.baload, 1) := by decide +kernel
theorem dJ2_getChar_3b067_49 : decode cJ2_getChar_3b067 49 = .ok (.sipush 255, 3) := by decide +kernel
theorem dJ2_getChar_3b067_52 : decode cJ2_getChar_3b067 52 = .ok (.iand, 1) := by decide +kernel
theorem dJ2_getChar_3b067_53 : decode cJ2_getChar_3b067 53 = .ok (.getstatic 63, 3) := by decide +kernel
theorem dJ2_getChar_3b067_56 : decode cJ2_getChar_3b067 56 = .ok (.ishl, 1) := by decide +kernel
theorem dJ2_getChar_3b067_57 : decode cJ2_getChar_3b067 57 = .ok (.ior, 1) := by decide +kernel
theorem dJ2_getChar_3b067_58 : decode cJ2_getChar_3b067 58 = .ok (.i2c, 1) := by decide +kernel
theorem dJ2_getChar_3b067_59 : decode cJ2_getChar_3b067 59 = .ok (.ireturn, 1) := by decide +kernel
theorem dJ2_length_9d52b_0 : decode cJ2_length_9d52b 0 = .ok (.aload_n 0, 1) := by decide +kernel
theorem dJ2_length_9d52b_1 : decode cJ2_length_9d52b 1 = .ok (.arraylength, 1) := by decide +kernel
theorem dJ2_length_9d52b_2 : decode cJ2_length_9d52b 2 = .ok (.iconst 1, 1) := by decide +kernel
theorem dJ2_length_9d52b_3 : decode cJ2_length_9d52b 3 = .ok (.ishr, 1) := by decide +kernel
theorem dJ2_length_9d52b_4 : decode cJ2_length_9d52b 4 = .ok (.ireturn, 1) := by decide +kernel
set_option maxRecDepth 20000 in
theorem ggJ2_charAt_3b067_J2_checkIndex_2214a : GoodIn wsJ2_charAt_3b067 wsJ2_checkIndex_2214a := goodIn_r _ [4, 5, 6, 3, 7, 8, 9, 10, 11, 12, 13, 14, 15, 16] (by decide +kernel) (by decide +kernel)
set_option maxRecDepth 20000 in
theorem gJ2_charAt_3b067_J2_checkIndex_2214a : GoodIn wsJ2_charAt_3b067 (va_wsS RJ2 67 yJ2_checkIndex_2214a wsJ2_checkIndex_2214a) := goodIn_app (goodIn_of _ (by decide +kernel)) ggJ2_charAt_3b067_J2_checkIndex_2214a
set_option maxRecDepth 20000 in
theorem ggJ2_charAt_3b067_J2_getChar_3b067 : GoodIn wsJ2_charAt_3b067 wsJ2_getChar_3b067 := goodIn_r _ [19, 20, 21, 22, 5, 6, 3, 7] (by decide +kernel) (by decide +kernel)
set_option maxRecDepth 20000 in
theorem gJ2_charAt_3b067_J2_getChar_3b067 : GoodIn wsJ2_charAt_3b067 (va_wsS RJ2 71 yJ2_getChar_3b067 wsJ2_getChar_3b067) := goodIn_app (goodIn_of _ (by decide +kernel)) ggJ2_charAt_3b067_J2_getChar_3b067
theorem dJ2_charAt_3b067_0 : decode cJ2_charAt_3b067 0 = .ok (.iload_n 1, 1) := by decide +kernel
theorem dJ2_charAt_3b067_1 : decode cJ2_charAt_3b067 1 = .ok (.aload_n 0, 1) := by decide +kernel
theorem dJ2_charAt_3b067_2 : decode cJ2_charAt_3b067 2 = .ok (.invokestatic 67, 3) := by decide +kernel
theorem dJ2_charAt_3b067_5 : decode cJ2_charAt_3b067 5 = .ok (.aload_n 0, 1) := by decide +kernel
theorem dJ2_charAt_3b067_6 : decode cJ2_charAt_3b067 6 = .ok (.iload_n 1, 1) := by decide +kernel
theorem dJ2_charAt_3b067_7 : decode cJ2_charAt_3b067 7 = .ok (.invokestatic 71, 3) := by decide +kernel
theorem dJ2_charAt_3b067_10 : decode cJ2_charAt_3b067 10 = .ok (.ireturn, 1) := by decide +kernel
set_option maxRecDepth 20000 in
theorem ggJ2_checkIndex_2214a_J2_length_9d52b : GoodIn wsJ2_checkIndex_2214a wsJ2_length_9d52b := goodIn_r _ [4] (by decide +kernel) (by decide +kernel)
set_option maxRecDepth 20000 in
theorem gJ2_checkIndex_2214a_J2_length_9d52b : GoodIn wsJ2_checkIndex_2214a (va_wsS RJ2 48 yJ2_length_9d52b wsJ2_length_9d52b) := goodIn_app (goodIn_of _ (by decide +kernel)) ggJ2_checkIndex_2214a_J2_length_9d52b
set_option maxRecDepth 20000 in
theorem ggJ2_checkIndex_2214a_J0_checkIndex_df160 : GoodIn wsJ2_checkIndex_2214a wsJ0_checkIndex_df160 := goodIn_r _ [8, 9, 10, 11, 12, 13] (by decide +kernel) (by decide +kernel)
set_option maxRecDepth 20000 in
theorem gJ2_checkIndex_2214a_J0_checkIndex_df160 : GoodIn wsJ2_checkIndex_2214a (va_wsS RJ2 414 yJ0_checkIndex_df160 wsJ0_checkIndex_df160) := goodIn_app (goodIn_of _ (by decide +kernel)) ggJ2_checkIndex_2214a_J0_checkIndex_df160
theorem dJ2_checkIndex_2214a_0 : decode cJ2_checkIndex_2214a 0 = .ok (.iload_n 0, 1) := by decide +kernel
theorem dJ2_checkIndex_2214a_1 : decode cJ2_checkIndex_2214a 1 = .ok (.aload_n 1, 1) := by decide +kernel
theorem dJ2_checkIndex_2214a_2 : decode cJ2_checkIndex_2214a 2 = .ok (.invokestatic 48, 3) := by decide +kernel
theorem dJ2_checkIndex_2214a_5 : decode cJ2_checkIndex_2214a 5 = .ok (.invokestatic 414, 3) := by decide +kernel
theorem dJ2_checkIndex_2214a_8 : decode cJ2_checkIndex_2214a 8 = .ok (.return_, 1) := by decide +kernel
theorem dJ3_checkIndex_8e157_0 : decode cJ3_checkIndex_8e157 0 = .ok (.iload_n 0, 1) := by decide +kernel
theorem dJ3_checkIndex_8e157_1 : decode cJ3_checkIndex_8e157 1 = .ok (.ifCond .lt 8, 3) := by decide +kernel
theorem dJ3_checkIndex_8e157_4 : decode cJ3_checkIndex_8e157 4 = .ok (.iload_n 0, 1) := by decide +kernel
theorem dJ3_checkIndex_8e157_5 : decode cJ3_checkIndex_8e157 5 = .ok (.iload_n 1, 1) := by decide +kernel
theorem dJ3_checkIndex_8e157_6 : decode cJ3_checkIndex_8e157 6 = .ok (.if_icmp .lt 10, 3) := by decide +kernel
theorem dJ3_checkIndex_8e157_9 : decode cJ3_checkIndex_8e157 9 = .ok (.aload_n 2, 1) := by decide +kernel
theorem dJ3_checkIndex_8e157_10 : decode cJ3_checkIndex_8e157 10 = .ok (.iload_n 0, 1) := by decide +kernel
theorem dJ3_checkIndex_8e157_11 : decode cJ3_checkIndex_8e157 11 = .ok (.iload_n 1, 1) := by decide +kernel
theorem dJ3_checkIndex_8e157_12 : decode cJ3_checkIndex_8e157 12 = .ok (.invokestatic 95, 3) := by decide +kernel
theorem dJ3_checkIndex_8e157_15 : decode cJ3_checkIndex_8e157 15 = .ok (.athrow, 1) := by decide +kernel
theorem dJ3_checkIndex_8e157_16 : decode cJ3_checkIndex_8e157 16 = .ok (.iload_n 0, 1) := by decide +kernel
theorem dJ3_checkIndex_8e157_17 : decode cJ3_checkIndex_8e157 17 = .ok (.ireturn, 1) := by decide +kernel
abbrev vwCl : List vw_C := [(RX0, TX0, 3), (RX1, TX1, 2), (RX2, TX2, 3), (RX3, TX3, 4), (RX4, TX4, 3), (RX5, TX5, 4), (RX6, TX6, 4), (RX7, TX7, 2), (RX8, TX8, 13), (RX9, TX9, 10), (RX10, TX10, 30)]
