theorem dX10_lay_26 : decode cX10_lay 26 = .ok (.lconst 0, 1) := by decide +kernel
theorem dX10_lay_27 : decode cX10_lay 27 = .ok (.aload_n 0, 1) := by decide +kernel
theorem dX10_lay_28 : decode cX10_lay 28 = .ok (.getfield 44, 3) := by decide +kernel
theorem dX10_lay_31 : decode cX10_lay 31 = .ok (.iload_n 1, 1) := by decide +kernel
theorem dX10_lay_32 : decode cX10_lay 32 = .ok (.iaload, 1) := by decide +kernel
theorem dX10_lay_33 : decode cX10_lay 33 = .ok (.iconst 1, 1) := by decide +kernel
theorem dX10_lay_34 : decode cX10_lay 34 = .ok (.isub, 1) := by decide +kernel
theorem dX10_lay_35 : decode cX10_lay 35 = .ok (.i2l, 1) := by decide +kernel
theorem dX10_lay_36 : decode cX10_lay 36 = .ok (.invokestatic 78, 3) := by decide +kernel
theorem dX10_lay_39 : decode cX10_lay 39 = .ok (.ifCond .ne 6, 3) := by decide +kernel
theorem dX10_lay_42 : decode cX10_lay 42 = .ok (.bipush (-12), 2) := by decide +kernel
theorem dX10_lay_44 : decode cX10_lay 44 = .ok (.ireturn, 1) := by decide +kernel
theorem dX10_lay_45 : decode cX10_lay 45 = .ok (.aload_n 0, 1) := by decide +kernel
theorem dX10_lay_46 : decode cX10_lay 46 = .ok (.getfield 47, 3) := by decide +kernel
theorem dX10_lay_49 : decode cX10_lay 49 = .ok (.bipush 40, 2) := by decide +kernel
theorem dX10_lay_51 : decode cX10_lay 51 = .ok (.iload_n 1, 1) := by decide +kernel
theorem dX10_lay_52 : decode cX10_lay 52 = .ok (.imul, 1) := by decide +kernel
theorem dX10_lay_53 : decode cX10_lay 53 = .ok (.iload_n 2, 1) := by decide +kernel
theorem dX10_lay_54 : decode cX10_lay 54 = .ok (.iadd, 1) := by decide +kernel
theorem dX10_lay_55 : decode cX10_lay 55 = .ok (.aload_n 0, 1) := by decide +kernel
theorem dX10_lay_56 : decode cX10_lay 56 = .ok (.getfield 41, 3) := by decide +kernel
theorem dX10_lay_59 : decode cX10_lay 59 = .ok (.iload_n 1, 1) := by decide +kernel
theorem dX10_lay_60 : decode cX10_lay 60 = .ok (.iaload, 1) := by decide +kernel
theorem dX10_lay_61 : decode cX10_lay 61 = .ok (.ifCond .ne 8, 3) := by decide +kernel
theorem dX10_lay_64 : decode cX10_lay 64 = .ok (.iload_n 3, 1) := by decide +kernel
theorem dX10_lay_65 : decode cX10_lay 65 = .ok (.i2b, 1) := by decide +kernel
theorem dX10_lay_66 : decode cX10_lay 66 = .ok (.goto 19, 3) := by decide +kernel
theorem dX10_lay_69 : decode cX10_lay 69 = .ok (.aload_n 0, 1) := by decide +kernel
theorem dX10_lay_70 : decode cX10_lay 70 = .ok (.getfield 41, 3) := by decide +kernel
theorem dX10_lay_73 : decode cX10_lay 73 = .ok (.iload_n 1, 1) := by decide +kernel
theorem dX10_lay_74 : decode cX10_lay 74 = .ok (.iaload, 1) := by decide +kernel
theorem dX10_lay_75 : decode cX10_lay 75 = .ok (.iconst 1, 1) := by decide +kernel
theorem dX10_lay_76 : decode cX10_lay 76 = .ok (.if_icmp .ne 8, 3) := by decide +kernel
theorem dX10_lay_79 : decode cX10_lay 79 = .ok (.iload_n 3, 1) := by decide +kernel
theorem dX10_lay_80 : decode cX10_lay 80 = .ok (.i2s, 1) := by decide +kernel
theorem dX10_lay_81 : decode cX10_lay 81 = .ok (.goto 4, 3) := by decide +kernel
theorem dX10_lay_84 : decode cX10_lay 84 = .ok (.iload_n 3, 1) := by decide +kernel
theorem dX10_lay_85 : decode cX10_lay 85 = .ok (.iastore, 1) := by decide +kernel
theorem dX10_lay_86 : decode cX10_lay 86 = .ok (.iconst 1, 1) := by decide +kernel
theorem dX10_lay_87 : decode cX10_lay 87 = .ok (.ireturn, 1) := by decide +kernel
set_option maxRecDepth 20000 in
theorem ggX10_read_X10_isSheet : GoodIn wsX10_read wsX10_isSheet := goodIn_r _ [11, 12, 13, 14, 15, 10, 16] (by decide +kernel) (by decide +kernel)
set_option maxRecDepth 20000 in
theorem gX10_read_X10_isSheet : GoodIn wsX10_read (va_wsS RX10 286 yX10_isSheet wsX10_isSheet) := goodIn_app (goodIn_of _ (by decide +kernel)) ggX10_read_X10_isSheet
set_option maxRecDepth 20000 in
theorem ggX10_read_X10_in : GoodIn wsX10_read wsX10_in := goodIn_r _ [16] (by decide +kernel) (by decide +kernel)
set_option maxRecDepth 20000 in
theorem gX10_read_X10_in : GoodIn wsX10_read (va_wsS RX10 78 yX10_in wsX10_in) := goodIn_app (goodIn_of _ (by decide +kernel)) ggX10_read_X10_in
set_option maxRecDepth 20000 in
theorem ggX10_read_X10_sew : GoodIn wsX10_read wsX10_sew := goodIn_r _ [20, 3, 21, 22, 10, 23, 12, 24, 25, 14, 15, 16, 26, 27, 28, 29, 30, 31, 32, 33, 34, 35, 36, 37, 38, 39, 40, 41, 42, 43, 44, 45, 46, 47, 48, 49, 50, 51, 52, 53, 54, 55, 56, 57, 58, 59, 60, 61, 62, 63] (by decide +kernel) (by decide +kernel)
set_option maxRecDepth 20000 in
theorem gX10_read_X10_sew : GoodIn wsX10_read (wsV RX10 291 RX10 yX10_sew wsX10_sew) := goodIn_app (goodIn_of _ (by decide +kernel)) ggX10_read_X10_sew
theorem dX10_read_0 : decode cX10_read 0 = .ok (.iload_n 1, 1) := by decide +kernel
theorem dX10_read_1 : decode cX10_read 1 = .ok (.iload_n 2, 1) := by decide +kernel
theorem dX10_read_2 : decode cX10_read 2 = .ok (.invokestatic 286, 3) := by decide +kernel
theorem dX10_read_5 : decode cX10_read 5 = .ok (.ifCond .eq 16, 3) := by decide +kernel
theorem dX10_read_8 : decode cX10_read 8 = .ok (.iload 4, 2) := by decide +kernel
theorem dX10_read_10 : decode cX10_read 10 = .ok (.i2l, 1) := by decide +kernel
theorem dX10_read_11 : decode cX10_read 11 = .ok (.lconst 0, 1) := by decide +kernel
theorem dX10_read_12 : decode cX10_read 12 = .ok (.ldc2_w 289, 3) := by decide +kernel
theorem dX10_read_15 : decode cX10_read 15 = .ok (.invokestatic 78, 3) := by decide +kernel
theorem dX10_read_18 : decode cX10_read 18 = .ok (.ifCond .ne 5, 3) := by decide +kernel
theorem dX10_read_21 : decode cX10_read 21 = .ok (.iconst (-1), 1) := by decide +kernel
theorem dX10_read_22 : decode cX10_read 22 = .ok (.ireturn, 1) := by decide +kernel
theorem dX10_read_23 : decode cX10_read 23 = .ok (.iconst 0, 1) := by decide +kernel
theorem dX10_read_24 : decode cX10_read 24 = .ok (.istore 5, 2) := by decide +kernel
theorem dX10_read_26 : decode cX10_read 26 = .ok (.iload 5, 2) := by decide +kernel
theorem dX10_read_28 : decode cX10_read 28 = .ok (.bipush 56, 2) := by decide +kernel
theorem dX10_read_30 : decode cX10_read 30 = .ok (.if_icmp .ge 23, 3) := by decide +kernel
theorem dX10_read_33 : decode cX10_read 33 = .ok (.aload_n 0, 1) := by decide +kernel
theorem dX10_read_34 : decode cX10_read 34 = .ok (.getfield 50, 3) := by decide +kernel
theorem dX10_read_37 : decode cX10_read 37 = .ok (.iload 5, 2) := by decide +kernel
theorem dX10_read_39 : decode cX10_read 39 = .ok (.aload_n 0, 1) := by decide +kernel
theorem dX10_read_40 : decode cX10_read 40 = .ok (.getfield 7, 3) := by decide +kernel
theorem dX10_read_43 : decode cX10_read 43 = .ok (.iload 5, 2) := by decide +kernel
theorem dX10_read_45 : decode cX10_read 45 = .ok (.iaload, 1) := by decide +kernel
theorem dX10_read_46 : decode cX10_read 46 = .ok (.iastore, 1) := by decide +kernel
theorem dX10_read_47 : decode cX10_read 47 = .ok (.iinc 5 1, 3) := by decide +kernel
theorem dX10_read_50 : decode cX10_read 50 = .ok (.goto (-24), 3) := by decide +kernel
theorem dX10_read_53 : decode cX10_read 53 = .ok (.iconst 0, 1) := by decide +kernel
theorem dX10_read_54 : decode cX10_read 54 = .ok (.istore 5, 2) := by decide +kernel
theorem dX10_read_56 : decode cX10_read 56 = .ok (.iconst 0, 1) := by decide +kernel
theorem dX10_read_57 : decode cX10_read 57 = .ok (.istore 6, 2) := by decide +kernel
theorem dX10_read_59 : decode cX10_read 59 = .ok (.iconst 0, 1) := by decide +kernel
theorem dX10_read_60 : decode cX10_read 60 = .ok (.istore 7, 2) := by decide +kernel
theorem dX10_read_62 : decode cX10_read 62 = .ok (.iload 7, 2) := by decide +kernel
theorem dX10_read_64 : decode cX10_read 64 = .ok (.iload 4, 2) := by decide +kernel
theorem dX10_read_66 : decode cX10_read 66 = .ok (.if_icmp .ge 193, 3) := by decide +kernel
theorem dX10_read_69 : decode cX10_read 69 = .ok (.iload 5, 2) := by decide +kernel
theorem dX10_read_71 : decode cX10_read 71 = .ok (.ifCond .ne 188, 3) := by decide +kernel
theorem dX10_read_74 : decode cX10_read 74 = .ok (.iconst 0, 1) := by decide +kernel
theorem dX10_read_75 : decode cX10_read 75 = .ok (.istore 8, 2) := by decide +kernel
theorem dX10_read_77 : decode cX10_read 77 = .ok (.iload 8, 2) := by decide +kernel
theorem dX10_read_79 : decode cX10_read 79 = .ok (.iconst 3, 1) := by decide +kernel
theorem dX10_read_80 : decode cX10_read 80 = .ok (.if_icmp .ge 84, 3) := by decide +kernel
theorem dX10_read_83 : decode cX10_read 83 = .ok (.iload 5, 2) := by decide +kernel
theorem dX10_read_85 : decode cX10_read 85 = .ok (.ifCond .ne 79, 3) := by decide +kernel
theorem dX10_read_88 : decode cX10_read 88 = .ok (.iload_n 3, 1) := by decide +kernel
theorem dX10_read_89 : decode cX10_read 89 = .ok (.i2l, 1) := by decide +kernel
theorem dX10_read_90 : decode cX10_read 90 = .ok (.iconst 3, 1) := by decide +kernel
theorem dX10_read_91 : decode cX10_read 91 = .ok (.iload 7, 2) := by decide +kernel
theorem dX10_read_93 : decode cX10_read 93 = .ok (.imul, 1) := by decide +kernel
theorem dX10_read_94 : decode cX10_read 94 = .ok (.i2l, 1) := by decide +kernel
theorem dX10_read_95 : decode cX10_read 95 = .ok (.ladd, 1) := by decide +kernel
theorem dX10_read_96 : decode cX10_read 96 = .ok (.iload 8, 2) := by decide +kernel
theorem dX10_read_98 : decode cX10_read 98 = .ok (.i2l, 1) := by decide +kernel
theorem dX10_read_99 : decode cX10_read 99 = .ok (.ladd, 1) := by decide +kernel
theorem dX10_read_100 : decode cX10_read 100 = .ok (.lstore 9, 2) := by decide +kernel
theorem dX10_read_102 : decode cX10_read 102 = .ok (.aload_n 0, 1) := by decide +kernel
theorem dX10_read_103 : decode cX10_read 103 = .ok (.getfield 41, 3) := by decide +kernel
theorem dX10_read_106 : decode cX10_read 106 = .ok (.iload_n 1, 1) := by decide +kernel
theorem dX10_read_107 : decode cX10_read 107 = .ok (.iaload, 1) := by decide +kernel
theorem dX10_read_108 : decode cX10_read 108 = .ok (.bipush (-4), 2) := by decide +kernel
theorem dX10_read_110 : decode cX10_read 110 = .ok (.if_icmp .ne 7, 3) := by decide +kernel
theorem dX10_read_113 : decode cX10_read 113 = .ok (.iconst 1, 1) := by decide +kernel
theorem dX10_read_114 : decode cX10_read 114 = .ok (.goto 42, 3) := by decide +kernel
theorem dX10_read_117 : decode cX10_read 117 = .ok (.aload_n 0, 1) := by decide +kernel
theorem dX10_read_118 : decode cX10_read 118 = .ok (.getfield 41, 3) := by decide +kernel
theorem dX10_read_121 : decode cX10_read 121 = .ok (.iload_n 1, 1) := by decide +kernel
theorem dX10_read_122 : decode cX10_read 122 = .ok (.iaload, 1) := by decide +kernel
theorem dX10_read_123 : decode cX10_read 123 = .ok (.iload_n 2, 1) := by decide +kernel
theorem dX10_read_124 : decode cX10_read 124 = .ok (.if_icmp .eq 7, 3) := by decide +kernel
theorem dX10_read_127 : decode cX10_read 127 = .ok (.iconst 3, 1) := by decide +kernel
theorem dX10_read_128 : decode cX10_read 128 = .ok (.goto 28, 3) := by decide +kernel
theorem dX10_read_131 : decode cX10_read 131 = .ok (.lload 9, 2) := by decide +kernel
theorem dX10_read_133 : decode cX10_read 133 = .ok (.lconst 0, 1) := by decide +kernel
theorem dX10_read_134 : decode cX10_read 134 = .ok (.lcmp, 1) := by decide +kernel
theorem dX10_read_135 : decode cX10_read 135 = .ok (.ifCond .lt 16, 3) := by decide +kernel
theorem dX10_read_138 : decode cX10_read 138 = .ok (.lload 9, 2) := by decide +kernel
theorem dX10_read_140 : decode cX10_read 140 = .ok (.aload_n 0, 1) := by decide +kernel
theorem dX10_read_141 : decode cX10_read 141 = .ok (.getfield 44, 3) := by decide +kernel
theorem dX10_read_144 : decode cX10_read 144 = .ok (.iload_n 1, 1) := by decide +kernel
theorem dX10_read_145 : decode cX10_read 145 = .ok (.iaload, 1) := by decide +kernel
theorem dX10_read_146 : decode cX10_read 146 = .ok (.i2l, 1) := by decide +kernel
theorem dX10_read_147 : decode cX10_read 147 = .ok (.lcmp, 1) := by decide +kernel
theorem dX10_read_148 : decode cX10_read 148 = .ok (.ifCond .lt 7, 3) := by decide +kernel
theorem dX10_read_151 : decode cX10_read 151 = .ok (.iconst 2, 1) := by decide +kernel
theorem dX10_read_152 : decode cX10_read 152 = .ok (.goto 4, 3) := by decide +kernel
theorem dX10_read_155 : decode cX10_read 155 = .ok (.iconst 0, 1) := by decide +kernel
theorem dX10_read_156 : decode cX10_read 156 = .ok (.istore 5, 2) := by decide +kernel
theorem dX10_read_158 : decode cX10_read 158 = .ok (.iinc 8 1, 3) := by decide +kernel
theorem dX10_read_161 : decode cX10_read 161 = .ok (.goto (-84), 3) := by decide +kernel
theorem dX10_read_164 : decode cX10_read 164 = .ok (.iload 5, 2) := by decide +kernel
theorem dX10_read_166 : decode cX10_read 166 = .ok (.ifCond .ne 87, 3) := by decide +kernel
theorem dX10_read_169 : decode cX10_read 169 = .ok (.bipush 40, 2) := by decide +kernel
theorem dX10_read_171 : decode cX10_read 171 = .ok (.iload_n 1, 1) := by decide +kernel
theorem dX10_read_172 : decode cX10_read 172 = .ok (.imul, 1) := by decide +kernel
theorem dX10_read_173 : decode cX10_read 173 = .ok (.iload_n 3, 1) := by decide +kernel
theorem dX10_read_174 : decode cX10_read 174 = .ok (.iadd, 1) := by decide +kernel
theorem dX10_read_175 : decode cX10_read 175 = .ok (.iconst 3, 1) := by decide +kernel
theorem dX10_read_176 : decode cX10_read 176 = .ok (.iload 7, 2) := by decide +kernel
theorem dX10_read_178 : decode cX10_read 178 = .ok (.imul, 1) := by decide +kernel
theorem dX10_read_179 : decode cX10_read 179 = .ok (.iadd, 1) := by decide +kernel
theorem dX10_read_180 : decode cX10_read 180 = .ok (.istore 8, 2) := by decide +kernel
theorem dX10_read_182 : decode cX10_read 182 = .ok (.aload_n 0, 1) := by decide +kernel
theorem dX10_read_183 : decode cX10_read 183 = .ok (.aload_n 0, 1) := by decide +kernel
theorem dX10_read_184 : decode cX10_read 184 = .ok (.getfield 47, 3) := by decide +kernel
theorem dX10_read_187 : decode cX10_read 187 = .ok (.iload 8, 2) := by decide +kernel
theorem dX10_read_189 : decode cX10_read 189 = .ok (.iaload, 1) := by decide +kernel
theorem dX10_read_190 : decode cX10_read 190 = .ok (.aload_n 0, 1) := by decide +kernel
theorem dX10_read_191 : decode cX10_read 191 = .ok (.getfield 47, 3) := by decide +kernel
theorem dX10_read_194 : decode cX10_read 194 = .ok (.iload 8, 2) := by decide +kernel
theorem dX10_read_196 : decode cX10_read 196 = .ok (.iconst 1, 1) := by decide +kernel
theorem dX10_read_197 : decode cX10_read 197 = .ok (.iadd, 1) := by decide +kernel
theorem dX10_read_198 : decode cX10_read 198 = .ok (.iaload, 1) := by decide +kernel
theorem dX10_read_199 : decode cX10_read 199 = .ok (.aload_n 0, 1) := by decide +kernel
theorem dX10_read_200 : decode cX10_read 200 = .ok (.getfield 47, 3) := by decide +kernel
theorem dX10_read_203 : decode cX10_read 203 = .ok (.iload 8, 2) := by decide +kernel
theorem dX10_read_205 : decode cX10_read 205 = .ok (.iconst 2, 1) := by decide +kernel
theorem dX10_read_206 : decode cX10_read 206 = .ok (.iadd, 1) := by decide +kernel
theorem dX10_read_207 : decode cX10_read 207 = .ok (.iaload, 1) := by decide +kernel
theorem dX10_read_208 : decode cX10_read 208 = .ok (.invokevirtual 291, 3) := by decide +kernel
theorem dX10_read_211 : decode cX10_read 211 = .ok (.ifCond .ge 39, 3) := by decide +kernel
theorem dX10_read_214 : decode cX10_read 214 = .ok (.iconst 0, 1) := by decide +kernel
theorem dX10_read_215 : decode cX10_read 215 = .ok (.istore 9, 2) := by decide +kernel
theorem dX10_read_217 : decode cX10_read 217 = .ok (.iload 9, 2) := by decide +kernel
theorem dX10_read_219 : decode cX10_read 219 = .ok (.bipush 56, 2) := by decide +kernel
theorem dX10_read_221 : decode cX10_read 221 = .ok (.if_icmp .ge 23, 3) := by decide +kernel
theorem dX10_read_224 : decode cX10_read 224 = .ok (.aload_n 0, 1) := by decide +kernel
theorem dX10_read_225 : decode cX10_read 225 = .ok (.getfield 7, 3) := by decide +kernel
theorem dX10_read_228 : decode cX10_read 228 = .ok (.iload 9, 2) := by decide +kernel
theorem dX10_read_230 : decode cX10_read 230 = .ok (.aload_n 0, 1) := by decide +kernel
theorem dX10_read_231 : decode cX10_read 231 = .ok (.getfield 50, 3) := by decide +kernel
theorem dX10_read_234 : decode cX10_read 234 = .ok (.iload 9, 2) := by decide +kernel
theorem dX10_read_236 : decode cX10_read 236 = .ok (.iaload, 1) := by decide +kernel
theorem dX10_read_237 : decode cX10_read 237 = .ok (.iastore, 1) := by decide +kernel
theorem dX10_read_238 : decode cX10_read 238 = .ok (.iinc 9 1, 3) := by decide +kernel
theorem dX10_read_241 : decode cX10_read 241 = .ok (.goto (-24), 3) := by decide +kernel
theorem dX10_read_244 : decode cX10_read 244 = .ok (.bipush (-20), 2) := by decide +kernel
theorem dX10_read_246 : decode cX10_read 246 = .ok (.iload 7, 2) := by decide +kernel
theorem dX10_read_248 : decode cX10_read 248 = .ok (.isub, 1) := by decide +kernel
theorem dX10_read_249 : decode cX10_read 249 = .ok (.ireturn, 1) := by decide +kernel
theorem dX10_read_250 : decode cX10_read 250 = .ok (.iinc 6 1, 3) := by decide +kernel
theorem dX10_read_253 : decode cX10_read 253 = .ok (.iinc 7 1, 3) := by decide +kernel
theorem dX10_read_256 : decode cX10_read 256 = .ok (.goto (-194), 3) := by decide +kernel
theorem dX10_read_259 : decode cX10_read 259 = .ok (.aload_n 0, 1) := by decide +kernel
theorem dX10_read_260 : decode cX10_read 260 = .ok (.iload 5, 2) := by decide +kernel
theorem dX10_read_262 : decode cX10_read 262 = .ok (.putfield 294, 3) := by decide +kernel
theorem dX10_read_265 : decode cX10_read 265 = .ok (.iload 6, 2) := by decide +kernel
theorem dX10_read_267 : decode cX10_read 267 = .ok (.ireturn, 1) := by decide +kernel
theorem dX10_torn_0 : decode cX10_torn 0 = .ok (.aload_n 0, 1) := by decide +kernel
theorem dX10_torn_1 : decode cX10_torn 1 = .ok (.getfield 294, 3) := by decide +kernel
theorem dX10_torn_4 : decode cX10_torn 4 = .ok (.ireturn, 1) := by decide +kernel
set_option maxRecDepth 20000 in
theorem ggX10_count_X10_fetches : GoodIn wsX10_count wsX10_fetches := goodIn_r _ [10, 11, 1, 23, 24, 25, 26, 27, 28, 29, 30, 31, 32, 33, 34, 35, 36, 37, 38, 39, 40, 41, 42, 43, 44, 45, 46, 47, 48, 49, 50, 51, 52] (by decide +kernel) (by decide +kernel)
set_option maxRecDepth 20000 in
theorem gX10_count_X10_fetches : GoodIn wsX10_count (wsV RX10 183 RX10 yX10_fetches wsX10_fetches) := goodIn_app (goodIn_of _ (by decide +kernel)) ggX10_count_X10_fetches
set_option maxRecDepth 20000 in
theorem ggX10_count_X10_flag : GoodIn wsX10_count wsX10_flag := goodIn_r _ [14] (by decide +kernel) (by decide +kernel)
set_option maxRecDepth 20000 in
theorem gX10_count_X10_flag : GoodIn wsX10_count (va_wsS RX10 176 yX10_flag wsX10_flag) := goodIn_app (goodIn_of _ (by decide +kernel)) ggX10_count_X10_flag
set_option maxRecDepth 20000 in
theorem ggX10_count_X10_allOf : GoodIn wsX10_count wsX10_allOf := goodIn_r _ [18, 11, 19, 20, 21, 9, 22, 23, 24, 25, 26, 27, 28, 29, 30, 31, 32, 33, 34, 35, 36, 37, 38, 39, 40, 41, 42, 43, 44, 45, 46, 47, 48, 49, 50, 51, 52] (by decide +kernel) (by decide +kernel)
set_option maxRecDepth 20000 in
theorem gX10_count_X10_allOf : GoodIn wsX10_count (wsV RX10 192 RX10 yX10_allOf wsX10_allOf) := goodIn_app (goodIn_of _ (by decide +kernel)) ggX10_count_X10_allOf
theorem dX10_count_0 : decode cX10_count 0 = .ok (.aload_n 0, 1) := by decide +kernel
theorem dX10_count_1 : decode cX10_count 1 = .ok (.invokevirtual 183, 3) := by decide +kernel
theorem dX10_count_4 : decode cX10_count 4 = .ok (.iload_n 1, 1) := by decide +kernel
theorem dX10_count_5 : decode cX10_count 5 = .ok (.tableswitch 97 0 4 #[35, 43, 63, 68, 91], 35) := by decide +kernel
theorem dX10_count_40 : decode cX10_count 40 = .ok (.aload_n 0, 1) := by decide +kernel
theorem dX10_count_41 : decode cX10_count 41 = .ok (.getfield 7, 3) := by decide +kernel
theorem dX10_count_44 : decode cX10_count 44 = .ok (.bipush 37, 2) := by decide +kernel
theorem dX10_count_46 : decode cX10_count 46 = .ok (.iaload, 1) := by decide +kernel
theorem dX10_count_47 : decode cX10_count 47 = .ok (.ireturn, 1) := by decide +kernel
theorem dX10_count_48 : decode cX10_count 48 = .ok (.aload_n 0, 1) := by decide +kernel
theorem dX10_count_49 : decode cX10_count 49 = .ok (.getfield 16, 3) := by decide +kernel
theorem dX10_count_52 : decode cX10_count 52 = .ok (.iconst 0, 1) := by decide +kernel
theorem dX10_count_53 : decode cX10_count 53 = .ok (.baload, 1) := by decide +kernel
theorem dX10_count_54 : decode cX10_count 54 = .ok (.invokestatic 176, 3) := by decide +kernel
theorem dX10_count_57 : decode cX10_count 57 = .ok (.aload_n 0, 1) := by decide +kernel
theorem dX10_count_58 : decode cX10_count 58 = .ok (.getfield 16, 3) := by decide +kernel
theorem dX10_count_61 : decode cX10_count 61 = .ok (.iconst 1, 1) := by decide +kernel
theorem dX10_count_62 : decode cX10_count 62 = .ok (.baload, 1) := by decide +kernel
theorem dX10_count_63 : decode cX10_count 63 = .ok (.invokestatic 176, 3) := by decide +kernel
theorem dX10_count_66 : decode cX10_count 66 = .ok (.iadd, 1) := by decide +kernel
theorem dX10_count_67 : decode cX10_count 67 = .ok (.ireturn, 1) := by decide +kernel
theorem dX10_count_68 : decode cX10_count 68 = .ok (.aload_n 0, 1) := by decide +kernel
theorem dX10_count_69 : decode cX10_count 69 = .ok (.getfield 82, 3) := by decide +kernel
theorem dX10_count_72 : decode cX10_count 72 = .ok (.ireturn, 1) := by decide +kernel
theorem dX10_count_73 : decode cX10_count 73 = .ok (.aload_n 0, 1) := by decide +kernel
theorem dX10_count_74 : decode cX10_count 74 = .ok (.getfield 41, 3) := by decide +kernel
theorem dX10_count_77 : decode cX10_count 77 = .ok (.iconst 0, 1) := by decide +kernel
theorem dX10_count_78 : decode cX10_count 78 = .ok (.iaload, 1) := by decide +kernel
theorem dX10_count_79 : decode cX10_count 79 = .ok (.bipush (-4), 2) := by decide +kernel
theorem dX10_count_81 : decode cX10_count 81 = .ok (.if_icmp .ne 8, 3) := by decide +kernel
theorem dX10_count_84 : decode cX10_count 84 = .ok (.bipush (-4), 2) := by decide +kernel
theorem dX10_count_86 : decode cX10_count 86 = .ok (.goto 9, 3) := by decide +kernel
theorem dX10_count_89 : decode cX10_count 89 = .ok (.aload_n 0, 1) := by decide +kernel
theorem dX10_count_90 : decode cX10_count 90 = .ok (.getfield 44, 3) := by decide +kernel
theorem dX10_count_93 : decode cX10_count 93 = .ok (.iconst 0, 1) := by decide +kernel
theorem dX10_count_94 : decode cX10_count 94 = .ok (.iaload, 1) := by decide +kernel
theorem dX10_count_95 : decode cX10_count 95 = .ok (.ireturn, 1) := by decide +kernel
theorem dX10_count_96 : decode cX10_count 96 = .ok (.aload_n 0, 1) := by decide +kernel
theorem dX10_count_97 : decode cX10_count 97 = .ok (.iconst 3, 1) := by decide +kernel
theorem dX10_count_98 : decode cX10_count 98 = .ok (.invokevirtual 192, 3) := by decide +kernel
theorem dX10_count_101 : decode cX10_count 101 = .ok (.ireturn, 1) := by decide +kernel
theorem dX10_count_102 : decode cX10_count 102 = .ok (.iconst (-1), 1) := by decide +kernel
theorem dX10_count_103 : decode cX10_count 103 = .ok (.ireturn, 1) := by decide +kernel
theorem dJ6_bitCount_0f7a4_0 : decode cJ6_bitCount_0f7a4 0 = .ok (.iload_n 0, 1) := by decide +kernel
theorem dJ6_bitCount_0f7a4_1 : decode cJ6_bitCount_0f7a4 1 = .ok (.iload_n 0, 1) := by decide +kernel
theorem dJ6_bitCount_0f7a4_2 : decode cJ6_bitCount_0f7a4 2 = .ok (.iconst 1, 1) := by decide +kernel
theorem dJ6_bitCount_0f7a4_3 : decode cJ6_bitCount_0f7a4 3 = .ok (.iushr, 1) := by decide +kernel
theorem dJ6_bitCount_0f7a4_4 : decode cJ6_bitCount_0f7a4 4 = .ok (.ldc_w 265, 3) := by decide +kernel
theorem dJ6_bitCount_0f7a4_7 : decode cJ6_bitCount_0f7a4 7 = .ok (.iand, 1) := by decide +kernel
theorem dJ6_bitCount_0f7a4_8 : decode cJ6_bitCount_0f7a4 8 = .ok (.isub, 1) := by decide +kernel
theorem dJ6_bitCount_0f7a4_9 : decode cJ6_bitCount_0f7a4 9 = .ok (.istore_n 0, 1) := by decide +kernel
theorem dJ6_bitCount_0f7a4_10 : decode cJ6_bitCount_0f7a4 10 = .ok (.iload_n 0, 1) := by decide +kernel
theorem dJ6_bitCount_0f7a4_11 : decode cJ6_bitCount_0f7a4 11 = .ok (.ldc_w 266, 3) := by decide +kernel
theorem dJ6_bitCount_0f7a4_14 : decode cJ6_bitCount_0f7a4 14 = .ok (.iand, 1) := by decide +kernel
theorem dJ6_bitCount_0f7a4_15 : decode cJ6_bitCount_0f7a4 15 = .ok (.iload_n 0, 1) := by decide +kernel
theorem dJ6_bitCount_0f7a4_16 : decode cJ6_bitCount_0f7a4 16 = .ok (.iconst 2, 1) := by decide +kernel
theorem dJ6_bitCount_0f7a4_17 : decode cJ6_bitCount_0f7a4 17 = .ok (.iushr, 1) := by decide +kernel
theorem dJ6_bitCount_0f7a4_18 : decode cJ6_bitCount_0f7a4 18 = .ok (.ldc_w 266, 3) := by decide +kernel
theorem dJ6_bitCount_0f7a4_21 : decode cJ6_bitCount_0f7a4 21 = .ok (.iand, 1) := by decide +kernel
theorem dJ6_bitCount_0f7a4_22 : decode cJ6_bitCount_0f7a4 22 = .ok (.iadd, 1) := by decide +kernel
theorem dJ6_bitCount_0f7a4_23 : decode cJ6_bitCount_0f7a4 23 = .ok (.istore_n 0, 1) := by decide +kernel
theorem dJ6_bitCount_0f7a4_24 : decode cJ6_bitCount_0f7a4 24 = .ok (.iload_n 0, 1) := by decide +kernel
theorem dJ6_bitCount_0f7a4_25 : decode cJ6_bitCount_0f7a4 25 = .ok (.iload_n 0, 1) := by decide +kernel
theorem dJ6_bitCount_0f7a4_26 : decode cJ6_bitCount_0f7a4 26 = .ok (.iconst 4, 1) := by decide +kernel
theorem dJ6_bitCount_0f7a4_27 : decode cJ6_bitCount_0f7a4 27 = .ok (.iushr, 1) := by decide +kernel
theorem dJ6_bitCount_0f7a4_28 : decode cJ6_bitCount_0f7a4 28 = .ok (.iadd, 1) := by decide +kernel
theorem dJ6_bitCount_0f7a4_29 : decode cJ6_bitCount_0f7a4 29 = .ok (.ldc_w 267, 3) := by decide +kernel
theorem dJ6_bitCount_0f7a4_32 : decode cJ6_bitCount_0f7a4 32 = .ok (.iand, 1) := by decide +kernel
theorem dJ6_bitCount_0f7a4_33 : decode cJ6_bitCount_0f7a4 33 = .ok (.istore_n 0, 1) := by decide +kernel
theorem dJ6_bitCount_0f7a4_34 : decode cJ6_bitCount_0f7a4 34 = .ok (.iload_n 0, 1) := by decide +kernel
theorem dJ6_bitCount_0f7a4_35 : decode cJ6_bitCount_0f7a4 35 = .ok (.iload_n 0, 1) := by decide +kernel
theorem dJ6_bitCount_0f7a4_36 : decode cJ6_bitCount_0f7a4 36 = .ok (.bipush 8, 2) := by decide +kernel
theorem dJ6_bitCount_0f7a4_38 : decode cJ6_bitCount_0f7a4 38 = .ok (.iushr, 1) := by decide +kernel
theorem dJ6_bitCount_0f7a4_39 : decode cJ6_bitCount_0f7a4 39 = .ok (.iadd, 1) := by decide +kernel
theorem dJ6_bitCount_0f7a4_40 : decode cJ6_bitCount_0f7a4 40 = .ok (.istore_n 0, 1) := by decide +kernel
theorem dJ6_bitCount_0f7a4_41 : decode cJ6_bitCount_0f7a4 41 = .ok (.iload_n 0, 1) := by decide +kernel
theorem dJ6_bitCount_0f7a4_42 : decode cJ6_bitCount_0f7a4 42 = .ok (.iload_n 0, 1) := by decide +kernel
theorem dJ6_bitCount_0f7a4_43 : decode cJ6_bitCount_0f7a4 43 = .ok (.bipush 16, 2) := by decide +kernel
theorem dJ6_bitCount_0f7a4_45 : decode cJ6_bitCount_0f7a4 45 = .ok (.iushr, 1) := by decide +kernel
theorem dJ6_bitCount_0f7a4_46 : decode cJ6_bitCount_0f7a4 46 = .ok (.iadd, 1) := by decide +kernel
theorem dJ6_bitCount_0f7a4_47 : decode cJ6_bitCount_0f7a4 47 = .ok (.istore_n 0, 1) := by decide +kernel
theorem dJ6_bitCount_0f7a4_48 : decode cJ6_bitCount_0f7a4 48 = .ok (.iload_n 0, 1) := by decide +kernel
theorem dJ6_bitCount_0f7a4_49 : decode cJ6_bitCount_0f7a4 49 = .ok (.bipush 63, 2) := by decide +kernel
theorem dJ6_bitCount_0f7a4_51 : decode cJ6_bitCount_0f7a4 51 = .ok (.iand, 1) := by decide +kernel
theorem dJ6_bitCount_0f7a4_52 : decode cJ6_bitCount_0f7a4 52 = .ok (.ireturn, 1) := by decide +kernel
theorem dJ9_floorMod_7cf53_0 : decode cJ9_floorMod_7cf53 0 = .ok (.iload_n 0, 1) := by decide +kernel
theorem dJ9_floorMod_7cf53_1 : decode cJ9_floorMod_7cf53 1 = .ok (.iload_n 1, 1) := by decide +kernel
theorem dJ9_floorMod_7cf53_2 : decode cJ9_floorMod_7cf53 2 = .ok (.irem, 1) := by decide +kernel
theorem dJ9_floorMod_7cf53_3 : decode cJ9_floorMod_7cf53 3 = .ok (.istore_n 2, 1) := by decide +kernel
theorem dJ9_floorMod_7cf53_4 : decode cJ9_floorMod_7cf53 4 = .ok (.iload_n 0, 1) := by decide +kernel
theorem dJ9_floorMod_7cf53_5 : decode cJ9_floorMod_7cf53 5 = .ok (.iload_n 1, 1) := by decide +kernel
theorem dJ9_floorMod_7cf53_6 : decode cJ9_floorMod_7cf53 6 = .ok (.ixor, 1) := by decide +kernel
theorem dJ9_floorMod_7cf53_7 : decode cJ9_floorMod_7cf53 7 = .ok (.ifCond .ge 11, 3) := by decide +kernel
theorem dJ9_floorMod_7cf53_10 : decode cJ9_floorMod_7cf53 10 = .ok (.iload_n 2, 1) := by decide +kernel
theorem dJ9_floorMod_7cf53_11 : decode cJ9_floorMod_7cf53 11 = .ok (.ifCond .eq 7, 3) := by decide +kernel
theorem dJ9_floorMod_7cf53_14 : decode cJ9_floorMod_7cf53 14 = .ok (.iload_n 2, 1) := by decide +kernel
theorem dJ9_floorMod_7cf53_15 : decode cJ9_floorMod_7cf53 15 = .ok (.iload_n 1, 1) := by decide +kernel
theorem dJ9_floorMod_7cf53_16 : decode cJ9_floorMod_7cf53 16 = .ok (.iadd, 1) := by decide +kernel
theorem dJ9_floorMod_7cf53_17 : decode cJ9_floorMod_7cf53 17 = .ok (.ireturn, 1) := by decide +kernel
theorem dJ9_floorMod_7cf53_18 : decode cJ9_floorMod_7cf53 18 = .ok (.iload_n 2, 1) := by decide +kernel
theorem dJ9_floorMod_7cf53_19 : decode cJ9_floorMod_7cf53 19 = .ok (.ireturn, 1) := by decide +kernel
theorem dJ9_max_7cf53_0 : decode cJ9_max_7cf53 0 = .ok (.iload_n 0, 1) := by decide +kernel
theorem dJ9_max_7cf53_1 : decode cJ9_max_7cf53 1 = .ok (.iload_n 1, 1) := by decide +kernel
theorem dJ9_max_7cf53_2 : decode cJ9_max_7cf53 2 = .ok (.if_icmp .lt 7, 3) := by decide +kernel
theorem dJ9_max_7cf53_5 : decode cJ9_max_7cf53 5 = .ok (.iload_n 0, 1) := by decide +kernel
theorem dJ9_max_7cf53_6 : decode cJ9_max_7cf53 6 = .ok (.goto 4, 3) := by decide +kernel
theorem dJ9_max_7cf53_9 : decode cJ9_max_7cf53 9 = .ok (.iload_n 1, 1) := by decide +kernel
theorem dJ9_max_7cf53_10 : decode cJ9_max_7cf53 10 = .ok (.ireturn, 1) := by decide +kernel
theorem dJ9_min_7cf53_0 : decode cJ9_min_7cf53 0 = .ok (.iload_n 0, 1) := by decide +kernel
theorem dJ9_min_7cf53_1 : decode cJ9_min_7cf53 1 = .ok (.iload_n 1, 1) := by decide +kernel
theorem dJ9_min_7cf53_2 : decode cJ9_min_7cf53 2 = .ok (.if_icmp .gt 7, 3) := by decide +kernel
theorem dJ9_min_7cf53_5 : decode cJ9_min_7cf53 5 = .ok (.iload_n 0, 1) := by decide +kernel
theorem dJ9_min_7cf53_6 : decode cJ9_min_7cf53 6 = .ok (.goto 4, 3) := by decide +kernel
theorem dJ9_min_7cf53_9 : decode cJ9_min_7cf53 9 = .ok (.iload_n 1, 1) := by decide +kernel
theorem dJ9_min_7cf53_10 : decode cJ9_min_7cf53 10 = .ok (.ireturn, 1) := by decide +kernel
set_option maxRecDepth 20000 in
theorem ggJ0_length_8abf5_J0_coder_7d493 : GoodIn wsJ0_length_8abf5 wsJ0_coder_7d493 := goodIn_r _ [6, 7, 8] (by decide +kernel) (by decide +kernel)
set_option maxRecDepth 20000 in
theorem gJ0_length_8abf5_J0_coder_7d493 : GoodIn wsJ0_length_8abf5 (wsV RJ0 335 RJ0 yJ0_coder_7d493 wsJ0_coder_7d493) := goodIn_app (goodIn_of _ (by decide +kernel)) ggJ0_length_8abf5_J0_coder_7d493
theorem dJ0_length_8abf5_0 : decode cJ0_length_8abf5 0 = .ok (.aload_n 0, 1) := by decide +kernel
theorem dJ0_length_8abf5_1 : decode cJ0_length_8abf5 1 = .ok (.getfield 9, 3) := by decide +kernel
theorem dJ0_length_8abf5_4 : decode cJ0_length_8abf5 4 = .ok (.arraylength, 1) := by decide +kernel
theorem dJ0_length_8abf5_5 : decode cJ0_length_8abf5 5 = .ok (.aload_n 0, 1) := by decide +kernel
theorem dJ0_length_8abf5_6 : decode cJ0_length_8abf5 6 = .ok (.invokevirtual 335, 3) := by decide +kernel
theorem dJ0_length_8abf5_9 : decode cJ0_length_8abf5 9 = .ok (.ishr, 1) := by decide +kernel
theorem dJ0_length_8abf5_10 : decode cJ0_length_8abf5 10 = .ok (.ireturn, 1) := by decide +kernel
set_option maxRecDepth 20000 in
theorem ggJ0_charAt_5068e_J0_isLatin1_aae02 : GoodIn wsJ0_charAt_5068e wsJ0_isLatin1_aae02 := goodIn_r _ [6, 7, 8] (by decide +kernel) (by decide +kernel)
set_option maxRecDepth 20000 in
theorem gJ0_charAt_5068e_J0_isLatin1_aae02 : GoodIn wsJ0_charAt_5068e (wsV RJ0 492 RJ0 yJ0_isLatin1_aae02 wsJ0_isLatin1_aae02) := goodIn_app (goodIn_of _ (by decide +kernel)) ggJ0_charAt_5068e_J0_isLatin1_aae02
set_option maxRecDepth 20000 in
theorem ggJ0_charAt_5068e_J1_charAt_3b067 : GoodIn wsJ0_charAt_5068e wsJ1_charAt_3b067 := goodIn_r _ [12, 13, 14, 5, 15, 16, 17, 18, 19, 20] (by decide +kernel) (by decide +kernel)
set_option maxRecDepth 20000 in
theorem gJ0_charAt_5068e_J1_charAt_3b067 : GoodIn wsJ0_charAt_5068e (va_wsS RJ0 495 yJ1_charAt_3b067 wsJ1_charAt_3b067) := goodIn_app (goodIn_of _ (by decide +kernel)) ggJ0_charAt_5068e_J1_charAt_3b067
set_option maxRecDepth 20000 in
theorem ggJ0_charAt_5068e_J2_charAt_3b067 : GoodIn wsJ0_charAt_5068e wsJ2_charAt_3b067 := goodIn_r _ [24, 25, 26, 23, 27, 28, 29, 30, 31, 14, 5, 15, 16, 17, 18, 19, 20, 32, 33, 34, 35, 36, 37] (by decide +kernel) (by decide +kernel)
set_option maxRecDepth 20000 in
theorem gJ0_charAt_5068e_J2_charAt_3b067 : GoodIn wsJ0_charAt_5068e (va_wsS RJ0 498 yJ2_charAt_3b067 wsJ2_charAt_3b067) := goodIn_app (goodIn_of _ (by decide +kernel)) ggJ0_charAt_5068e_J2_charAt_3b067
theorem dJ0_charAt_5068e_0 : decode cJ0_charAt_5068e 0 = .ok (.aload_n 0, 1) := by decide +kernel
theorem dJ0_charAt_5068e_1 : decode cJ0_charAt_5068e 1 = .ok (.invokevirtual 492, 3) := by decide +kernel
theorem dJ0_charAt_5068e_4 : decode cJ0_charAt_5068e 4 = .ok (.ifCond .eq 12, 3) := by decide +kernel
theorem dJ0_charAt_5068e_7 : decode cJ0_charAt_5068e 7 = .ok (.aload_n 0, 1) := by decide +kernel
theorem dJ0_charAt_5068e_8 : decode cJ0_charAt_5068e 8 = .ok (.getfield 9, 3) := by decide +kernel
theorem dJ0_charAt_5068e_11 : decode cJ0_charAt_5068e 11 = .ok (.iload_n 1, 1) := by decide +kernel
theorem dJ0_charAt_5068e_12 : decode cJ0_charAt_5068e 12 = .ok (.invokestatic 495, 3) := by decide +kernel
theorem dJ0_charAt_5068e_15 : decode cJ0_charAt_5068e 15 = .ok (.ireturn, 1) := by decide +kernel
theorem dJ0_charAt_5068e_16 : decode cJ0_charAt_5068e 16 = .ok (.aload_n 0, 1) := by decide +kernel
theorem dJ0_charAt_5068e_17 : decode cJ0_charAt_5068e 17 = .ok (.getfield 9, 3) := by decide +kernel
theorem dJ0_charAt_5068e_20 : decode cJ0_charAt_5068e 20 = .ok (.iload_n 1, 1) := by decide +kernel
theorem dJ0_charAt_5068e_21 : decode cJ0_charAt_5068e 21 = .ok (.invokestatic 498, 3) := by decide +kernel
theorem dJ0_charAt_5068e_24 : decode cJ0_charAt_5068e 24 = .ok (.ireturn, 1) := by decide +kernel
theorem dJ0_coder_7d493_0 : decode cJ0_coder_7d493 0 = .ok (.getstatic 38, 3) := by decide +kernel
theorem dJ0_coder_7d493_3 : decode cJ0_coder_7d493 3 = .ok (.ifCond .eq 10, 3) := by decide +kernel
theorem dJ0_coder_7d493_6 : decode cJ0_coder_7d493 6 = .ok (.aload_n 0, 1) := by decide +kernel
theorem dJ0_coder_7d493_7 : decode cJ0_coder_7d493 7 = .ok (.getfield 15, 3) := by decide +kernel
theorem dJ0_coder_7d493_10 : decode cJ0_coder_7d493 10 = .ok (.goto 4, 3) := by decide +kernel
theorem dJ0_coder_7d493_13 : decode cJ0_coder_7d493 13 = .ok (.iconst 1, 1) := by decide +kernel
theorem dJ0_coder_7d493_14 : decode cJ0_coder_7d493 14 = .ok (.ireturn, 1) := by decide +kernel
theorem dJ0_isLatin1_aae02_0 : decode cJ0_isLatin1_aae02 0 = .ok (.getstatic 38, 3) := by decide +kernel
theorem dJ0_isLatin1_aae02_3 : decode cJ0_isLatin1_aae02 3 = .ok (.ifCond .eq 14, 3) := by decide +kernel
theorem dJ0_isLatin1_aae02_6 : decode cJ0_isLatin1_aae02 6 = .ok (.aload_n 0, 1) := by decide +kernel
theorem dJ0_isLatin1_aae02_7 : decode cJ0_isLatin1_aae02 7 = .ok (.getfield 15, 3) := by decide +kernel
theorem dJ0_isLatin1_aae02_10 : decode cJ0_isLatin1_aae02 10 = .ok (.ifCond .ne 7, 3) := by decide +kernel
theorem dJ0_isLatin1_aae02_13 : decode cJ0_isLatin1_aae02 13 = .ok (.iconst 1, 1) := by decide +kernel
theorem dJ0_isLatin1_aae02_14 : decode cJ0_isLatin1_aae02 14 = .ok (.goto 4, 3) := by decide +kernel
theorem dJ0_isLatin1_aae02_17 : decode cJ0_isLatin1_aae02 17 = .ok (.iconst 0, 1) := by decide +kernel
theorem dJ0_isLatin1_aae02_18 : decode cJ0_isLatin1_aae02 18 = .ok (.ireturn, 1) := by decide +kernel
set_option maxRecDepth 20000 in
theorem ggJ0_checkIndex_df160_J3_checkIndex_8e157 : GoodIn wsJ0_checkIndex_df160 wsJ3_checkIndex_8e157 := goodIn_r _ [5] (by decide +kernel) (by decide +kernel)
set_option maxRecDepth 20000 in
theorem gJ0_checkIndex_df160_J3_checkIndex_8e157 : GoodIn wsJ0_checkIndex_df160 (va_wsS RJ0 1059 yJ3_checkIndex_8e157 wsJ3_checkIndex_8e157) := goodIn_app (goodIn_of _ (by decide +kernel)) ggJ0_checkIndex_df160_J3_checkIndex_8e157
theorem dJ0_checkIndex_df160_0 : decode cJ0_checkIndex_df160 0 = .ok (.iload_n 0, 1) := by decide +kernel
theorem dJ0_checkIndex_df160_1 : decode cJ0_checkIndex_df160 1 = .ok (.iload_n 1, 1) := by decide +kernel
theorem dJ0_checkIndex_df160_2 : decode cJ0_checkIndex_df160 2 = .ok (.getstatic 1053, 3) := by decide +kernel
theorem dJ0_checkIndex_df160_5 : decode cJ0_checkIndex_df160 5 = .ok (.invokestatic 1059, 3) := by decide +kernel
theorem dJ0_checkIndex_df160_8 : decode cJ0_checkIndex_df160 8 = .ok (.pop, 1) := by decide +kernel
theorem dJ0_checkIndex_df160_9 : decode cJ0_checkIndex_df160 9 = .ok (.return_, 1) := by decide +kernel
set_option maxRecDepth 20000 in
theorem ggJ1_charAt_3b067_J0_checkIndex_df160 : GoodIn wsJ1_charAt_3b067 wsJ0_checkIndex_df160 := goodIn_r _ [4, 5, 6, 7, 8, 9] (by decide +kernel) (by decide +kernel)
set_option maxRecDepth 20000 in
theorem gJ1_charAt_3b067_J0_checkIndex_df160 : GoodIn wsJ1_charAt_3b067 (va_wsS RJ1 9 yJ0_checkIndex_df160 wsJ0_checkIndex_df160) := goodIn_app (goodIn_of _ (by decide +kernel)) ggJ1_charAt_3b067_J0_checkIndex_df160
theorem dJ1_charAt_3b067_0 : decode cJ1_charAt_3b067 0 = .ok (.iload_n 1, 1) := by decide +kernel
theorem dJ1_charAt_3b067_1 : decode cJ1_charAt_3b067 1 = .ok (.aload_n 0, 1) := by decide +kernel
theorem dJ1_charAt_3b067_2 : decode cJ1_charAt_3b067 2 = .ok (.arraylength, 1) := by decide +kernel
theorem dJ1_charAt_3b067_3 : decode cJ1_charAt_3b067 3 = .ok (.invokestatic 9, 3) := by decide +kernel
theorem dJ1_charAt_3b067_6 : decode cJ1_charAt_3b067 6 = .ok (.aload_n 0, 1) := by decide +kernel
theorem dJ1_charAt_3b067_7 : decode cJ1_charAt_3b067 7 = .ok (.iload_n 1, 1) := by decide +kernel
theorem dJ1_charAt_3b067_8 : decode cJ1_charAt_3b067 8 = .ok (.baload, 1) := by decide +kernel
theorem dJ1_charAt_3b067_9 : decode cJ1_charAt_3b067 9 = .ok (.sipush 255, 3) := by decide +kernel
theorem dJ1_charAt_3b067_12 : decode cJ1_charAt_3b067 12 = .ok (.iand, 1) := by decide +kernel
theorem dJ1_charAt_3b067_13 : decode cJ1_charAt_3b067 13 = .ok (.i2c, 1) := by decide +kernel
theorem dJ1_charAt_3b067_14 : decode cJ1_charAt_3b067 14 = .ok (.ireturn, 1) := by decide +kernel
set_option maxRecDepth 20000 in
theorem ggJ2_getChar_3b067_J2_length_9d52b : GoodIn wsJ2_getChar_3b067 wsJ2_length_9d52b := goodIn_r _ [7] (by decide +kernel) (by decide +kernel)
set_option maxRecDepth 20000 in
theorem gJ2_getChar_3b067_J2_length_9d52b : GoodIn wsJ2_getChar_3b067 (va_wsS RJ2 48 yJ2_length_9d52b wsJ2_length_9d52b) := goodIn_app (goodIn_of _ (by decide +kernel)) ggJ2_getChar_3b067_J2_length_9d52b
theorem dJ2_getChar_3b067_0 : decode cJ2_getChar_3b067 0 = .ok (.getstatic 44, 3) := by decide +kernel
theorem dJ2_getChar_3b067_3 : decode cJ2_getChar_3b067 3 = .ok (.ifCond .ne 25, 3) := by decide +kernel
theorem dJ2_getChar_3b067_6 : decode cJ2_getChar_3b067 6 = .ok (.iload_n 1, 1) := by decide +kernel
theorem dJ2_getChar_3b067_7 : decode cJ2_getChar_3b067 7 = .ok (.ifCond .lt 11, 3) := by decide +kernel
theorem dJ2_getChar_3b067_10 : decode cJ2_getChar_3b067 10 = .ok (.iload_n 1, 1) := by decide +kernel
theorem dJ2_getChar_3b067_11 : decode cJ2_getChar_3b067 11 = .ok (.aload_n 0, 1) := by decide +kernel
theorem dJ2_getChar_3b067_12 : decode cJ2_getChar_3b067 12 = .ok (.invokestatic 48, 3) := by decide +kernel
theorem dJ2_getChar_3b067_15 : decode cJ2_getChar_3b067 15 = .ok (.if_icmp .lt 13, 3) := by decide +kernel
theorem dJ2_getChar_3b067_18 : decode cJ2_getChar_3b067 18 = .ok (.new 52, 3) := by decide +kernel
theorem dJ2_getChar_3b067_21 : decode cJ2_getChar_3b067 21 = .ok (.dup, 1) := by decide +kernel
theorem dJ2_getChar_3b067_22 : decode cJ2_getChar_3b067 22 = .ok (.ldc 54, 2) := by decide +kernel
theorem dJ2_getChar_3b067_24 : decode cJ2_getChar_3b067 24 = .ok (.invokespecial 56, 3) := by decide +kernel
theorem dJ2_getChar_3b067_27 : decode cJ2_getChar_3b067 27 = .ok (.athrow, 1) := by decide +kernel
theorem dJ2_getChar_3b067_28 : decode cJ2_getChar_3b067 28 = .ok (.iload_n 1, 1) := by decide +kernel
theorem dJ2_getChar_3b067_29 : decode cJ2_getChar_3b067 29 = .ok (.iconst 1, 1) := by decide +kernel
theorem dJ2_getChar_3b067_30 : decode cJ2_getChar_3b067 30 = .ok (.ishl, 1) := by decide +kernel
theorem dJ2_getChar_3b067_31 : decode cJ2_getChar_3b067 31 = .ok (.istore_n 1, 1) := by decide +kernel
theorem dJ2_getChar_3b067_32 : decode cJ2_getChar_3b067 32 = .ok (.aload_n 0, 1) := by decide +kernel
theorem dJ2_getChar_3b067_33 : decode cJ2_getChar_3b067 33 = .ok (.iload_n 1, 1) := by decide +kernel
theorem dJ2_getChar_3b067_34 : decode cJ2_getChar_3b067 34 = .ok (.iinc 1 1, 3) := by decide +kernel
theorem dJ2_getChar_3b067_37 : decode cJ2_getChar_3b067 37 = .ok (.baload, 1) := by decide +kernel
theorem dJ2_getChar_3b067_38 : decode cJ2_getChar_3b067 38 = .ok (.sipush 255, 3) := by decide +kernel
theorem dJ2_getChar_3b067_41 : decode cJ2_getChar_3b067 41 = .ok (.iand, 1) := by decide +kernel
theorem dJ2_getChar_3b067_42 : decode cJ2_getChar_3b067 42 = .ok (.getstatic 59, 3) := by decide +kernel
theorem dJ2_getChar_3b067_45 : decode cJ2_getChar_3b067 45 = .ok (.ishl, 1) := by decide +kernel
theorem dJ2_getChar_3b067_46 : decode cJ2_getChar_3b067 46 = .ok (.aload_n 0, 1) := by decide +kernel
theorem dJ2_getChar_3b067_47 : decode cJ2_getChar_3b067 47 = .ok (.iload_n 1, 1) := by decide +kernel
theorem dJ2_getChar_3b067_48 : decode cJ2_getChar_3b067 48 = .ok (.baload, 1) := by decide +kernel
theorem dJ2_getChar_3b067_49 : decode cJ2_getChar_3b067 49 = .ok (.sipush 255, 3) := by decide +kernel
theorem dJ2_getChar_3b067_52 : decode cJ2_getChar_3b067 52 = .ok (.iand, 1) := by decide +kernel
theorem dJ2_getChar_3b067_53 : decode cJ2_getChar_3b067 53 = .ok (.getstatic 63, 3) := by decide +kernel
theorem dJ2_getChar_3b067_56 : decode cJ2_getChar_3b067 56 = .ok (.ishl, 1) := by decide +kernel
theorem dJ2_getChar_3b067_57 : decode cJ2_getChar_3b067 57 = .ok (.ior, 1) := by decide +kernel
theorem dJ2_getChar_3b067_58 : decode cJ2_getChar_3b067 58 = .ok (.i2c, 1) := by decide +kernel
theorem dJ2_getChar_3b067_59 : decode cJ2_getChar_3b067 59 = .ok (.ireturn, 1) := by decide +kernel
theorem dJ2_length_9d52b_0 : decode cJ2_length_9d52b 0 = .ok (.aload_n 0, 1) := by decide +kernel
theorem dJ2_length_9d52b_1 : decode cJ2_length_9d52b 1 = .ok (.arraylength, 1) := by decide +kernel
theorem dJ2_length_9d52b_2 : decode cJ2_length_9d52b 2 = .ok (.iconst 1, 1) := by decide +kernel
theorem dJ2_length_9d52b_3 : decode cJ2_length_9d52b 3 = .ok (.ishr, 1) := by decide +kernel
theorem dJ2_length_9d52b_4 : decode cJ2_length_9d52b 4 = .ok (.ireturn, 1) := by decide +kernel
set_option maxRecDepth 20000 in
theorem ggJ2_charAt_3b067_J2_checkIndex_2214a : GoodIn wsJ2_charAt_3b067 wsJ2_checkIndex_2214a := goodIn_r _ [4, 5, 6, 3, 7, 8, 9, 10, 11, 12, 13, 14, 15, 16] (by decide +kernel) (by decide +kernel)
set_option maxRecDepth 20000 in
theorem gJ2_charAt_3b067_J2_checkIndex_2214a : GoodIn wsJ2_charAt_3b067 (va_wsS RJ2 67 yJ2_checkIndex_2214a wsJ2_checkIndex_2214a) := goodIn_app (goodIn_of _ (by decide +kernel)) ggJ2_charAt_3b067_J2_checkIndex_2214a
set_option maxRecDepth 20000 in
theorem ggJ2_charAt_3b067_J2_getChar_3b067 : GoodIn wsJ2_charAt_3b067 wsJ2_getChar_3b067 := goodIn_r _ [19, 20, 21, 22, 5, 6, 3, 7] (by decide +kernel) (by decide +kernel)
set_option maxRecDepth 20000 in
theorem gJ2_charAt_3b067_J2_getChar_3b067 : GoodIn wsJ2_charAt_3b067 (va_wsS RJ2 71 yJ2_getChar_3b067 wsJ2_getChar_3b067) := goodIn_app (goodIn_of _ (by decide +kernel)) ggJ2_charAt_3b067_J2_getChar_3b067
theorem dJ2_charAt_3b067_0 : decode cJ2_charAt_3b067 0 = .ok (.iload_n 1, 1) := by decide +kernel
theorem dJ2_charAt_3b067_1 : decode cJ2_charAt_3b067 1 = .ok (.aload_n 0, 1) := by decide +kernel
theorem dJ2_charAt_3b067_2 : decode cJ2_charAt_3b067 2 = .ok (.invokestatic 67, 3) := by decide +kernel
theorem dJ2_charAt_3b067_5 : decode cJ2_charAt_3b067 5 = .ok (.aload_n 0, 1) := by decide +kernel
theorem dJ2_charAt_3b067_6 : decode cJ2_charAt_3b067 6 = .ok (.iload_n 1, 1) := by decide +kernel
theorem dJ2_charAt_3b067_7 : decode cJ2_charAt_3b067 7 = .ok (.invokestatic 71, 3) := by decide +kernel
theorem dJ2_charAt_3b067_10 : decode cJ2_charAt_3b067 10 = .ok (.ireturn, 1) := by decide +kernel
set_option maxRecDepth 20000 in
theorem ggJ2_checkIndex_2214a_J2_length_9d52b : GoodIn wsJ2_checkIndex_2214a wsJ2_length_9d52b := goodIn_r _ [4] (by decide +kernel) (by decide +kernel)
set_option maxRecDepth 20000 in
theorem gJ2_checkIndex_2214a_J2_length_9d52b : GoodIn wsJ2_checkIndex_2214a (va_wsS RJ2 48 yJ2_length_9d52b wsJ2_length_9d52b) := goodIn_app (goodIn_of _ (by decide +kernel)) ggJ2_checkIndex_2214a_J2_length_9d52b
set_option maxRecDepth 20000 in
theorem ggJ2_checkIndex_2214a_J0_checkIndex_df160 : GoodIn wsJ2_checkIndex_2214a wsJ0_checkIndex_df160 := goodIn_r _ [8, 9, 10, 11, 12, 13] (by decide +kernel) (by decide +kernel)
set_option maxRecDepth 20000 in
theorem gJ2_checkIndex_2214a_J0_checkIndex_df160 : GoodIn wsJ2_checkIndex_2214a (va_wsS RJ2 414 yJ0_checkIndex_df160 wsJ0_checkIndex_df160) := goodIn_app (goodIn_of _ (by decide +kernel)) ggJ2_checkIndex_2214a_J0_checkIndex_df160
theorem dJ2_checkIndex_2214a_0 : decode cJ2_checkIndex_2214a 0 = .ok (.iload_n 0, 1) := by decide +kernel
theorem dJ2_checkIndex_2214a_1 : decode cJ2_checkIndex_2214a 1 = .ok (.aload_n 1, 1) := by decide +kernel
theorem dJ2_checkIndex_2214a_2 : decode cJ2_checkIndex_2214a 2 = .ok (.invokestatic 48, 3) := by decide +kernel
theorem dJ2_checkIndex_2214a_5 : decode cJ2_checkIndex_2214a 5 = .ok (.invokestatic 414, 3) := by decide +kernel
theorem dJ2_checkIndex_2214a_8 : decode cJ2_checkIndex_2214a 8 = .ok (.return_, 1) := by decide +kernel
theorem dJ3_checkIndex_8e157_0 : decode cJ3_checkIndex_8e157 0 = .ok (.iload_n 0, 1) := by decide +kernel
theorem dJ3_checkIndex_8e157_1 : decode cJ3_checkIndex_8e157 1 = .ok (.ifCond .lt 8, 3) := by decide +kernel
theorem dJ3_checkIndex_8e157_4 : decode cJ3_checkIndex_8e157 4 = .ok (.iload_n 0, 1) := by decide +kernel
theorem dJ3_checkIndex_8e157_5 : decode cJ3_checkIndex_8e157 5 = .ok (.iload_n 1, 1) := by decide +kernel
theorem dJ3_checkIndex_8e157_6 : decode cJ3_checkIndex_8e157 6 = .ok (.if_icmp .lt 10, 3) := by decide +kernel
theorem dJ3_checkIndex_8e157_9 : decode cJ3_checkIndex_8e157 9 = .ok (.aload_n 2, 1) := by decide +kernel
theorem dJ3_checkIndex_8e157_10 : decode cJ3_checkIndex_8e157 10 = .ok (.iload_n 0, 1) := by decide +kernel
theorem dJ3_checkIndex_8e157_11 : decode cJ3_checkIndex_8e157 11 = .ok (.iload_n 1, 1) := by decide +kernel
theorem dJ3_checkIndex_8e157_12 : decode cJ3_checkIndex_8e157 12 = .ok (.invokestatic 95, 3) := by decide +kernel
theorem dJ3_checkIndex_8e157_15 : decode cJ3_checkIndex_8e157 15 = .ok (.athrow, 1) := by decide +kernel
theorem dJ3_checkIndex_8e157_16 : decode cJ3_checkIndex_8e157 16 = .ok (.iload_n 0, 1) := by decide +kernel
theorem dJ3_checkIndex_8e157_17 : decode cJ3_checkIndex_8e157 17 = .ok (.ireturn, 1) := by decide +kernel
set_option maxRecDepth 20000 in
theorem ggL_law_X9_init : GoodIn wsL_law wsX9_init := goodIn_r _ [8, 9, 10, 11, 12, 13, 14, 15, 16, 17, 18, 19, 20, 21, 22, 23, 24, 25, 26, 27, 28, 29, 30, 31, 32, 33, 34, 35, 36, 37, 38, 39, 40, 41, 42, 43, 44, 45, 46, 47, 48, 49, 50, 51, 52, 53, 54, 55, 56, 57, 58, 59, 60, 61, 62, 63, 64, 65, 66, 67, 68, 69, 70, 71, 72, 73, 74, 75, 76, 77, 78, 79, 80, 81, 82, 83, 84, 85, 86, 87, 88, 89, 90, 91, 92, 93, 94, 95, 96, 97, 98, 99, 100, 101, 102, 103, 104, 105, 106, 107, 108, 109, 110, 111, 112, 113, 114, 115, 116, 117, 118, 119, 1287, 1288, 1247, 1248, 1249, 1250, 1251, 1252, 1253, 1254, 1255, 1256, 1289, 1290, 1291, 1292, 1293, 1294, 1295, 1296, 1297, 1298, 1299, 1300, 1301, 1302, 1303, 1304, 1305, 1306, 1307, 1308, 1309, 1310, 1311, 1312, 1313, 1314, 1315, 1316, 1317, 1318, 1319, 1320, 1321, 1322, 1323, 1324] (by decide +kernel) (by decide +kernel)
set_option maxRecDepth 20000 in
theorem gL_law_X9_init : GoodIn wsL_law (wsX9_init) := ggL_law_X9_init
set_option maxRecDepth 20000 in
theorem ggL_law_X10_init : GoodIn wsL_law wsX10_init := goodIn_r _ [122, 123, 10, 11, 56, 124, 125, 126, 127, 128, 129, 130, 131, 132, 133, 134, 135, 136, 137, 138, 139, 140, 141, 5, 142, 143, 144, 145, 146, 147, 148, 149, 150, 151, 1257, 1258, 1259, 1260, 1261, 1262, 1263, 1264, 1265, 1266, 1267, 1268, 1269, 1270, 1271, 1272, 1273, 1274, 1275, 1276, 1277, 1278, 1279, 1280, 1281, 1282, 1283, 1284, 1285, 1286] (by decide +kernel) (by decide +kernel)
set_option maxRecDepth 20000 in
theorem gL_law_X10_init : GoodIn wsL_law (wsX10_init) := ggL_law_X10_init
set_option maxRecDepth 20000 in
theorem ggL_law_X9_feed : GoodIn wsL_law wsX9_feed := goodIn_r _ [155, 15, 156, 157, 2, 158, 159, 160, 161, 14, 162, 49, 163, 164, 165, 166, 48, 167, 168, 169, 170, 171, 1247, 1248, 1249, 1250, 1251, 1252, 1253, 1254, 1255, 1256, 1287, 1288] (by decide +kernel) (by decide +kernel)
set_option maxRecDepth 20000 in
theorem gL_law_X9_feed : GoodIn wsL_law (wsV RL 13 RX9 yX9_feed wsX9_feed) := goodIn_app (goodIn_of _ (by decide +kernel)) ggL_law_X9_feed
set_option maxRecDepth 20000 in
theorem ggL_law_X10_feed : GoodIn wsL_law wsX10_feed := goodIn_r _ [175, 176, 177, 130, 178, 179, 5, 180, 1257, 1258, 1259, 1260, 1261, 1262, 1263, 1264, 1265, 1266, 1267, 1268, 1269, 1270, 1271, 1272, 1273, 1274, 1275, 1276, 1277, 1278, 1279, 1280, 1281, 1282, 1283, 1284, 1285, 1286] (by decide +kernel) (by decide +kernel)
set_option maxRecDepth 20000 in
theorem gL_law_X10_feed : GoodIn wsL_law (wsV RL 17 RX10 yX10_feed wsX10_feed) := goodIn_app (goodIn_of _ (by decide +kernel)) ggL_law_X10_feed
set_option maxRecDepth 20000 in
theorem ggL_law_X9_end : GoodIn wsL_law wsX9_end := goodIn_r _ [184, 15, 168, 169, 170, 14, 171, 49, 156, 157, 2, 158, 185, 186, 187, 188, 1247, 1248, 1249, 1250, 1251, 1252, 1253, 1254, 1255, 1256, 1287, 1288] (by decide +kernel) (by decide +kernel)
set_option maxRecDepth 20000 in
theorem gL_law_X9_end : GoodIn wsL_law (wsV RL 18 RX9 yX9_end wsX9_end) := goodIn_app (goodIn_of _ (by decide +kernel)) ggL_law_X9_end
set_option maxRecDepth 20000 in
theorem ggL_law_X10_end : GoodIn wsL_law wsX10_end := goodIn_r _ [192, 177, 178, 179, 5, 180, 1257, 1258, 1259, 1260, 1261, 1262, 1263, 1264, 1265, 1266, 1267, 1268, 1269, 1270, 1271, 1272, 1273, 1274, 1275, 1276, 1277, 1278, 1279, 1280, 1281, 1282, 1283, 1284, 1285, 1286] (by decide +kernel) (by decide +kernel)
set_option maxRecDepth 20000 in
theorem gL_law_X10_end : GoodIn wsL_law (wsV RL 21 RX10 yX10_end wsX10_end) := goodIn_app (goodIn_of _ (by decide +kernel)) ggL_law_X10_end
set_option maxRecDepth 20000 in
theorem ggL_law_X9_text : GoodIn wsL_law wsX9_text := goodIn_r _ [196, 19, 15, 197, 23, 27, 31, 198, 199, 200, 18, 201, 65, 61, 66, 202, 203, 204, 205, 55, 58, 59, 60, 62, 63, 64, 206, 207, 208, 22, 209, 74, 75, 210, 211, 212, 213, 68, 214, 169, 170, 14, 171, 49, 215, 216, 217, 218, 48, 219, 220, 221, 222, 223, 224, 225, 226, 227, 228, 229, 230, 231, 232, 67, 233, 234, 235, 236, 237, 238, 239, 240, 57, 241, 242, 243, 244, 245, 246, 247, 248, 249, 250, 251, 252, 73, 253, 254, 255, 256, 257, 258, 259, 260, 261, 262, 263, 264, 265, 266, 267, 268, 269, 270, 271, 272, 273, 274, 275, 276, 277, 278, 279, 280, 281, 282, 283, 284, 285, 286, 287, 288, 289, 290, 291, 292, 293, 294, 295, 296, 297, 298, 299, 300, 301, 302, 303, 304, 305, 306, 307, 308, 309, 310, 311, 312, 313, 314, 315, 316, 317, 318, 319, 320, 321, 322, 323, 324, 325, 326, 157, 2, 158, 327, 328, 329, 330, 331, 332, 333, 334, 335, 336, 337, 338, 339, 340, 341, 342, 343, 344, 345, 346, 347, 348, 349, 350, 351, 352, 353, 354, 355, 356, 357, 358, 359, 72, 360, 361, 362, 363, 364, 365, 366, 367, 368, 369, 370, 371, 185, 186, 187, 188, 372, 373, 374, 375, 376, 377, 378, 379, 380, 381, 382, 383, 384, 385, 386, 387, 388, 389, 390, 391, 392, 393, 394, 26, 395, 82, 396, 397, 398, 30, 399, 90, 400, 401, 402, 403, 1247, 1248, 1249, 1250, 1251, 1252, 1253, 1254, 1255, 1256, 1289, 1290, 1291, 1292, 1293, 1294, 1295, 1296, 1297, 1298, 1299, 1300, 1301, 1302, 1303, 1304, 1305, 1287, 1288, 1306, 1307, 1308, 1309, 1310, 1311, 1312] (by decide +kernel) (by decide +kernel)
set_option maxRecDepth 20000 in
theorem gL_law_X9_text : GoodIn wsL_law (wsV RL 22 RX9 yX9_text wsX9_text) := goodIn_app (goodIn_of _ (by decide +kernel)) ggL_law_X9_text
set_option maxRecDepth 20000 in
theorem ggL_law_X10_text : GoodIn wsL_law wsX10_text := goodIn_r _ [407, 408, 409, 410, 147, 128, 177, 411, 139, 140, 141, 5, 142, 143, 144, 145, 146, 412, 413, 414, 415, 416, 417, 418, 419, 420, 421, 422, 423, 424, 425, 130, 178, 179, 180, 426, 427, 428, 429, 430, 431, 432, 433, 434, 435, 436, 437, 438, 439, 440, 441, 442, 443, 444, 445, 446, 447, 448, 449, 450, 451, 452, 453, 129, 454, 455, 456, 457, 458, 459, 460, 461, 148, 149, 150, 151, 124, 127, 1257, 1258, 1259, 1260, 1261, 1262, 1263, 1264, 1265, 1266, 1267, 1268, 1269, 1270, 1271, 1272, 1273, 1274, 1275, 1276, 1277, 1278, 1279, 1280, 1281, 1282, 1283, 1284, 1285, 1286] (by decide +kernel) (by decide +kernel)
set_option maxRecDepth 20000 in
theorem gL_law_X10_text : GoodIn wsL_law (wsV RL 26 RX10 yX10_text wsX10_text) := goodIn_app (goodIn_of _ (by decide +kernel)) ggL_law_X10_text
set_option maxRecDepth 20000 in
theorem ggL_law_X9_fault : GoodIn wsL_law wsX9_fault := goodIn_r _ [465, 197, 1247, 1248, 1249, 1250, 1251, 1252, 1253, 1254, 1255, 1256] (by decide +kernel) (by decide +kernel)
set_option maxRecDepth 20000 in
theorem gL_law_X9_fault : GoodIn wsL_law (wsV RL 27 RX9 yX9_fault wsX9_fault) := goodIn_app (goodIn_of _ (by decide +kernel)) ggL_law_X9_fault
set_option maxRecDepth 20000 in
theorem ggL_law_X10_fault : GoodIn wsL_law wsX10_fault := goodIn_r _ [469, 408, 1257, 1258, 1259, 1260, 1261, 1262, 1263, 1264, 1265, 1266, 1267, 1268, 1269, 1270, 1271, 1272, 1273, 1274, 1275, 1276, 1277, 1278, 1279, 1280, 1281, 1282, 1283, 1284, 1285, 1286] (by decide +kernel) (by decide +kernel)
set_option maxRecDepth 20000 in
theorem gL_law_X10_fault : GoodIn wsL_law (wsV RL 30 RX10 yX10_fault wsX10_fault) := goodIn_app (goodIn_of _ (by decide +kernel)) ggL_law_X10_fault
set_option maxRecDepth 20000 in
theorem ggL_law_X9_rule : GoodIn wsL_law wsX9_rule := goodIn_r _ [473, 23, 474, 475, 476, 22, 477, 74, 478, 479, 480, 481, 75, 482, 483, 484, 485, 486, 487, 488, 489, 72, 490, 491, 492, 493, 73, 494, 495, 496, 497, 498, 499, 500, 501, 502, 503, 504, 505, 506, 507, 508, 509, 510, 511, 512, 513, 514, 515, 516, 517, 518, 519, 520, 521, 522, 523, 524, 525, 526, 527, 528, 529, 530, 531, 532, 533, 534, 535, 536, 537, 538, 539, 540, 541, 542, 543, 544, 545, 546, 547, 548, 549, 550, 551, 1247, 1248, 1249, 1250, 1251, 1252, 1253, 1254, 1255, 1256, 1302, 1303, 1304, 1305] (by decide +kernel) (by decide +kernel)
set_option maxRecDepth 20000 in
theorem gL_law_X9_rule : GoodIn wsL_law (wsV RL 31 RX9 yX9_rule wsX9_rule) := goodIn_app (goodIn_of _ (by decide +kernel)) ggL_law_X9_rule
set_option maxRecDepth 20000 in
theorem ggL_law_X10_rule : GoodIn wsL_law wsX10_rule := goodIn_r _ [555, 132, 124, 556, 557, 558, 5, 559, 560, 561, 562, 563, 125, 564, 565, 566, 567, 131, 568, 569, 570, 571, 572, 573, 574, 575, 576, 577, 578, 579, 580, 581, 582, 583, 584, 585, 586, 587, 588, 589, 590, 591, 592, 593, 594, 595, 596, 597, 598, 599, 600, 601, 602, 603, 604, 605, 606, 607, 608, 609, 610, 611, 612, 613, 1257, 1258, 1259, 1260, 1261, 1262, 1263, 1264, 1265, 1266, 1267, 1268, 1269, 1270, 1271, 1272, 1273, 1274, 1275, 1276, 1277, 1278, 1279, 1280, 1281, 1282, 1283, 1284, 1285, 1286] (by decide +kernel) (by decide +kernel)
set_option maxRecDepth 20000 in
theorem gL_law_X10_rule : GoodIn wsL_law (wsV RL 34 RX10 yX10_rule wsX10_rule) := goodIn_app (goodIn_of _ (by decide +kernel)) ggL_law_X10_rule
set_option maxRecDepth 20000 in
theorem ggL_law_X9_box : GoodIn wsL_law wsX9_box := goodIn_r _ [617, 23, 618, 242, 243, 22, 244, 74, 619, 487, 488, 489, 72, 620, 518, 519, 520, 621, 522, 523, 524, 75, 73, 486, 622, 495, 496, 497, 498, 499, 500, 501, 502, 503, 504, 505, 623, 250, 251, 252, 1247, 1248, 1249, 1250, 1251, 1252, 1253, 1254, 1255, 1256, 1302, 1303, 1304, 1305] (by decide +kernel) (by decide +kernel)
set_option maxRecDepth 20000 in
theorem gL_law_X9_box : GoodIn wsL_law (wsV RL 35 RX9 yX9_box wsX9_box) := goodIn_app (goodIn_of _ (by decide +kernel)) ggL_law_X9_box
set_option maxRecDepth 20000 in
theorem ggL_law_X10_box : GoodIn wsL_law wsX10_box := goodIn_r _ [627, 628, 629, 630, 631, 5, 632, 124, 178, 179, 180, 560, 561, 562, 563, 125, 584, 585, 586, 587, 580, 581, 582, 583, 568, 569, 570, 571, 572, 573, 574, 575, 576, 577, 578, 579, 602, 603, 604, 605, 588, 589, 590, 1257, 1258, 1259, 1260, 1261, 1262, 1263, 1264, 1265, 1266, 1267, 1268, 1269, 1270, 1271, 1272, 1273, 1274, 1275, 1276, 1277, 1278, 1279, 1280, 1281, 1282, 1283, 1284, 1285, 1286] (by decide +kernel) (by decide +kernel)
set_option maxRecDepth 20000 in
theorem gL_law_X10_box : GoodIn wsL_law (wsV RL 39 RX10 yX10_box wsX10_box) := goodIn_app (goodIn_of _ (by decide +kernel)) ggL_law_X10_box
set_option maxRecDepth 20000 in
theorem ggL_law_X9_order : GoodIn wsL_law wsX9_order := goodIn_r _ [636, 23, 618, 242, 243, 22, 244, 74, 637, 638, 2, 639, 640, 641, 642, 643, 73, 257, 644, 645, 646, 647, 75, 486, 487, 488, 489, 72, 1247, 1248, 1249, 1250, 1251, 1252, 1253, 1254, 1255, 1256, 1302, 1303, 1304, 1305] (by decide +kernel) (by decide +kernel)
set_option maxRecDepth 20000 in
theorem gL_law_X9_order : GoodIn wsL_law (wsV RL 40 RX9 yX9_order wsX9_order) := goodIn_app (goodIn_of _ (by decide +kernel)) ggL_law_X9_order
set_option maxRecDepth 20000 in
theorem ggL_law_X10_order : GoodIn wsL_law wsX10_order := goodIn_r _ [651, 124, 629, 630, 631, 5, 632, 178, 179, 180, 652, 653, 654, 560, 561, 562, 563, 125, 576, 577, 578, 579, 580, 581, 582, 583, 1257, 1258, 1259, 1260, 1261, 1262, 1263, 1264, 1265, 1266, 1267, 1268, 1269, 1270, 1271, 1272, 1273, 1274, 1275, 1276, 1277, 1278, 1279, 1280, 1281, 1282, 1283, 1284, 1285, 1286] (by decide +kernel) (by decide +kernel)
set_option maxRecDepth 20000 in
theorem gL_law_X10_order : GoodIn wsL_law (wsV RL 43 RX10 yX10_order wsX10_order) := goodIn_app (goodIn_of _ (by decide +kernel)) ggL_law_X10_order
set_option maxRecDepth 20000 in
theorem ggL_law_X9_alter : GoodIn wsL_law wsX9_alter := goodIn_r _ [658, 23, 618, 242, 243, 22, 244, 74, 659, 660, 661, 363, 370, 364, 365, 366, 157, 2, 158, 619, 487, 488, 489, 72, 662, 357, 358, 359, 1247, 1248, 1249, 1250, 1251, 1252, 1253, 1254, 1255, 1256, 1302, 1303, 1304, 1305] (by decide +kernel) (by decide +kernel)
set_option maxRecDepth 20000 in
theorem gL_law_X9_alter : GoodIn wsL_law (wsV RL 44 RX9 yX9_alter wsX9_alter) := goodIn_app (goodIn_of _ (by decide +kernel)) ggL_law_X9_alter
set_option maxRecDepth 20000 in
theorem ggL_law_X10_alter : GoodIn wsL_law wsX10_alter := goodIn_r _ [666, 629, 630, 631, 5, 632, 124, 178, 179, 180, 667, 668, 669, 670, 671, 628, 672, 673, 674, 675, 676, 677, 678, 679, 680, 681, 682, 683, 1257, 1258, 1259, 1260, 1261, 1262, 1263, 1264, 1265, 1266, 1267, 1268, 1269, 1270, 1271, 1272, 1273, 1274, 1275, 1276, 1277, 1278, 1279, 1280, 1281, 1282, 1283, 1284, 1285, 1286] (by decide +kernel) (by decide +kernel)
set_option maxRecDepth 20000 in
theorem gL_law_X10_alter : GoodIn wsL_law (wsV RL 48 RX10 yX10_alter wsX10_alter) := goodIn_app (goodIn_of _ (by decide +kernel)) ggL_law_X10_alter
set_option maxRecDepth 20000 in
theorem ggL_law_X9_start : GoodIn wsL_law wsX9_start := goodIn_r _ [687, 23, 688, 689, 2, 690, 156, 157, 158, 478, 479, 480, 22, 481, 75, 691, 336, 337, 338, 1247, 1248, 1249, 1250, 1251, 1252, 1253, 1254, 1255, 1256, 1302, 1303, 1304, 1305] (by decide +kernel) (by decide +kernel)
set_option maxRecDepth 20000 in
theorem gL_law_X9_start : GoodIn wsL_law (wsV RL 49 RX9 yX9_start wsX9_start) := goodIn_app (goodIn_of _ (by decide +kernel)) ggL_law_X9_start
set_option maxRecDepth 20000 in
theorem ggL_law_X10_start : GoodIn wsL_law wsX10_start := goodIn_r _ [695, 672, 673, 5, 674, 675, 178, 179, 180, 680, 681, 682, 683, 124, 1257, 1258, 1259, 1260, 1261, 1262, 1263, 1264, 1265, 1266, 1267, 1268, 1269, 1270, 1271, 1272, 1273, 1274, 1275, 1276, 1277, 1278, 1279, 1280, 1281, 1282, 1283, 1284, 1285, 1286] (by decide +kernel) (by decide +kernel)
set_option maxRecDepth 20000 in
theorem gL_law_X10_start : GoodIn wsL_law (wsV RL 52 RX10 yX10_start wsX10_start) := goodIn_app (goodIn_of _ (by decide +kernel)) ggL_law_X10_start
set_option maxRecDepth 20000 in
theorem ggL_law_X9_change : GoodIn wsL_law wsX9_change := goodIn_r _ [699, 23, 618, 242, 243, 22, 244, 74, 640, 641, 642, 643, 73, 257, 700, 254, 255, 256, 1247, 1248, 1249, 1250, 1251, 1252, 1253, 1254, 1255, 1256, 1302, 1303, 1304, 1305] (by decide +kernel) (by decide +kernel)
set_option maxRecDepth 20000 in
theorem gL_law_X9_change : GoodIn wsL_law (wsV RL 53 RX9 yX9_change wsX9_change) := goodIn_app (goodIn_of _ (by decide +kernel)) ggL_law_X9_change
set_option maxRecDepth 20000 in
theorem ggL_law_X10_change : GoodIn wsL_law wsX10_change := goodIn_r _ [704, 124, 629, 630, 631, 5, 632, 178, 179, 180, 1257, 1258, 1259, 1260, 1261, 1262, 1263, 1264, 1265, 1266, 1267, 1268, 1269, 1270, 1271, 1272, 1273, 1274, 1275, 1276, 1277, 1278, 1279, 1280, 1281, 1282, 1283, 1284, 1285, 1286] (by decide +kernel) (by decide +kernel)
set_option maxRecDepth 20000 in
theorem gL_law_X10_change : GoodIn wsL_law (wsV RL 56 RX10 yX10_change wsX10_change) := goodIn_app (goodIn_of _ (by decide +kernel)) ggL_law_X10_change
set_option maxRecDepth 20000 in
theorem ggL_law_X9_sew : GoodIn wsL_law wsX9_sew := goodIn_r _ [708, 23, 709, 710, 711, 22, 712, 713, 660, 661, 363, 370, 364, 365, 366, 157, 2, 158, 355, 348, 349, 350, 74, 714, 352, 353, 354, 73, 356, 357, 358, 359, 72, 474, 475, 476, 477, 1247, 1248, 1249, 1250, 1251, 1252, 1253, 1254, 1255, 1256, 1302, 1303, 1304, 1305] (by decide +kernel) (by decide +kernel)
set_option maxRecDepth 20000 in
theorem gL_law_X9_sew : GoodIn wsL_law (wsV RL 57 RX9 yX9_sew wsX9_sew) := goodIn_app (goodIn_of _ (by decide +kernel)) ggL_law_X9_sew
set_option maxRecDepth 20000 in
theorem ggL_law_X10_sew : GoodIn wsL_law wsX10_sew := goodIn_r _ [718, 124, 667, 668, 5, 669, 670, 671, 628, 178, 179, 180, 672, 673, 674, 675, 676, 677, 678, 679, 1257, 1258, 1259, 1260, 1261, 1262, 1263, 1264, 1265, 1266, 1267, 1268, 1269, 1270, 1271, 1272, 1273, 1274, 1275, 1276, 1277, 1278, 1279, 1280, 1281, 1282, 1283, 1284, 1285, 1286] (by decide +kernel) (by decide +kernel)
set_option maxRecDepth 20000 in
theorem gL_law_X10_sew : GoodIn wsL_law (wsV RL 60 RX10 yX10_sew wsX10_sew) := goodIn_app (goodIn_of _ (by decide +kernel)) ggL_law_X10_sew
set_option maxRecDepth 20000 in
theorem ggL_law_X9_clock : GoodIn wsL_law wsX9_clock := goodIn_r _ [722, 23, 723, 724, 2, 725, 156, 157, 158, 688, 689, 690, 637, 638, 639, 726, 538, 539, 22, 540, 525, 526, 527, 528, 74, 486, 487, 488, 489, 72, 517, 518, 519, 520, 541, 542, 543, 544, 521, 522, 523, 524, 75, 73, 502, 503, 504, 505, 727, 1247, 1248, 1249, 1250, 1251, 1252, 1253, 1254, 1255, 1256, 1302, 1303, 1304, 1305] (by decide +kernel) (by decide +kernel)
set_option maxRecDepth 20000 in
theorem gL_law_X9_clock : GoodIn wsL_law (wsV RL 61 RX9 yX9_clock wsX9_clock) := goodIn_app (goodIn_of _ (by decide +kernel)) ggL_law_X9_clock
set_option maxRecDepth 20000 in
theorem ggL_law_X10_clock : GoodIn wsL_law wsX10_clock := goodIn_r _ [731, 132, 131, 676, 677, 5, 678, 679, 178, 179, 180, 672, 673, 674, 675, 652, 653, 654, 556, 557, 558, 559, 560, 561, 562, 563, 125, 124, 564, 565, 566, 567, 568, 569, 570, 571, 572, 573, 574, 575, 576, 577, 578, 579, 580, 581, 582, 583, 584, 585, 586, 587, 588, 589, 590, 1257, 1258, 1259, 1260, 1261, 1262, 1263, 1264, 1265, 1266, 1267, 1268, 1269, 1270, 1271, 1272, 1273, 1274, 1275, 1276, 1277, 1278, 1279, 1280, 1281, 1282, 1283, 1284, 1285, 1286] (by decide +kernel) (by decide +kernel)
set_option maxRecDepth 20000 in
theorem gL_law_X10_clock : GoodIn wsL_law (wsV RL 64 RX10 yX10_clock wsX10_clock) := goodIn_app (goodIn_of _ (by decide +kernel)) ggL_law_X10_clock
set_option maxRecDepth 20000 in
theorem ggL_law_X9_room : GoodIn wsL_law wsX9_room := goodIn_r _ [735, 23, 723, 724, 2, 725, 156, 157, 158, 637, 638, 639, 736, 737, 738, 22, 739, 74, 486, 487, 488, 489, 72, 510, 511, 512, 513, 498, 499, 500, 501, 514, 515, 516, 517, 518, 519, 520, 521, 522, 523, 524, 75, 73, 525, 526, 527, 528, 740, 534, 535, 536, 537, 538, 539, 540, 541, 542, 543, 544, 502, 503, 504, 505, 1247, 1248, 1249, 1250, 1251, 1252, 1253, 1254, 1255, 1256, 1302, 1303, 1304, 1305] (by decide +kernel) (by decide +kernel)
set_option maxRecDepth 20000 in
theorem gL_law_X9_room : GoodIn wsL_law (wsV RL 65 RX9 yX9_room wsX9_room) := goodIn_app (goodIn_of _ (by decide +kernel)) ggL_law_X9_room
set_option maxRecDepth 20000 in
theorem ggL_law_X10_room : GoodIn wsL_law wsX10_room := goodIn_r _ [744, 676, 677, 5, 678, 679, 178, 179, 180, 652, 653, 654, 556, 557, 558, 559, 560, 561, 562, 563, 125, 124, 564, 565, 566, 567, 131, 132, 568, 569, 570, 571, 572, 573, 574, 575, 576, 577, 578, 579, 580, 581, 582, 583, 584, 585, 586, 587, 588, 589, 590, 610, 611, 612, 613, 591, 592, 593, 745, 746, 747, 748, 1257, 1258, 1259, 1260, 1261, 1262, 1263, 1264, 1265, 1266, 1267, 1268, 1269, 1270, 1271, 1272, 1273, 1274, 1275, 1276, 1277, 1278, 1279, 1280, 1281, 1282, 1283, 1284, 1285, 1286] (by decide +kernel) (by decide +kernel)
set_option maxRecDepth 20000 in
theorem gL_law_X10_room : GoodIn wsL_law (wsV RL 68 RX10 yX10_room wsX10_room) := goodIn_app (goodIn_of _ (by decide +kernel)) ggL_law_X10_room
set_option maxRecDepth 20000 in
theorem ggL_law_X9_out : GoodIn wsL_law wsX9_out := goodIn_r _ [752, 23, 618, 242, 243, 22, 244, 74, 753, 754, 755, 756, 514, 515, 500, 516, 498, 499, 501, 486, 487, 488, 489, 72, 517, 518, 519, 520, 525, 526, 527, 528, 1247, 1248, 1249, 1250, 1251, 1252, 1253, 1254, 1255, 1256, 1302, 1303, 1304, 1305] (by decide +kernel) (by decide +kernel)
set_option maxRecDepth 20000 in
theorem gL_law_X9_out : GoodIn wsL_law (wsV RL 69 RX9 yX9_out wsX9_out) := goodIn_app (goodIn_of _ (by decide +kernel)) ggL_law_X9_out
set_option maxRecDepth 20000 in
theorem ggL_law_X10_out : GoodIn wsL_law wsX10_out := goodIn_r _ [760, 131, 629, 630, 631, 5, 632, 124, 178, 179, 180, 556, 557, 558, 559, 560, 561, 562, 563, 125, 564, 565, 566, 567, 132, 568, 569, 570, 571, 572, 573, 574, 575, 576, 577, 578, 579, 580, 581, 582, 583, 584, 585, 586, 587, 588, 589, 590, 591, 592, 593, 1257, 1258, 1259, 1260, 1261, 1262, 1263, 1264, 1265, 1266, 1267, 1268, 1269, 1270, 1271, 1272, 1273, 1274, 1275, 1276, 1277, 1278, 1279, 1280, 1281, 1282, 1283, 1284, 1285, 1286] (by decide +kernel) (by decide +kernel)
set_option maxRecDepth 20000 in
theorem gL_law_X10_out : GoodIn wsL_law (wsV RL 72 RX10 yX10_out wsX10_out) := goodIn_app (goodIn_of _ (by decide +kernel)) ggL_law_X10_out
set_option maxRecDepth 20000 in
theorem ggL_law_X9_meet : GoodIn wsL_law wsX9_meet := goodIn_r _ [764, 23, 723, 724, 2, 725, 156, 157, 158, 727, 526, 527, 22, 528, 74, 486, 487, 488, 489, 72, 517, 518, 519, 520, 726, 538, 539, 540, 525, 541, 542, 543, 544, 521, 522, 523, 524, 75, 73, 502, 503, 504, 505, 1247, 1248, 1249, 1250, 1251, 1252, 1253, 1254, 1255, 1256, 1302, 1303, 1304, 1305] (by decide +kernel) (by decide +kernel)
set_option maxRecDepth 20000 in
theorem gL_law_X9_meet : GoodIn wsL_law (wsV RL 73 RX9 yX9_meet wsX9_meet) := goodIn_app (goodIn_of _ (by decide +kernel)) ggL_law_X9_meet
set_option maxRecDepth 20000 in
theorem ggL_law_X10_meet : GoodIn wsL_law wsX10_meet := goodIn_r _ [768, 131, 132, 676, 677, 5, 678, 679, 178, 179, 180, 556, 557, 558, 559, 560, 561, 562, 563, 125, 124, 564, 565, 566, 567, 568, 569, 570, 571, 572, 573, 574, 575, 576, 577, 578, 579, 580, 581, 582, 583, 584, 585, 586, 587, 588, 589, 590, 1257, 1258, 1259, 1260, 1261, 1262, 1263, 1264, 1265, 1266, 1267, 1268, 1269, 1270, 1271, 1272, 1273, 1274, 1275, 1276, 1277, 1278, 1279, 1280, 1281, 1282, 1283, 1284, 1285, 1286] (by decide +kernel) (by decide +kernel)
set_option maxRecDepth 20000 in
theorem gL_law_X10_meet : GoodIn wsL_law (wsV RL 76 RX10 yX10_meet wsX10_meet) := goodIn_app (goodIn_of _ (by decide +kernel)) ggL_law_X10_meet
set_option maxRecDepth 20000 in
theorem ggL_law_X9_first : GoodIn wsL_law wsX9_first := goodIn_r _ [772, 23, 723, 724, 2, 725, 156, 157, 158, 688, 689, 690, 726, 538, 539, 22, 540, 525, 526, 527, 528, 74, 486, 487, 488, 489, 72, 517, 518, 519, 520, 541, 542, 543, 544, 521, 522, 523, 524, 75, 73, 502, 503, 504, 505, 1247, 1248, 1249, 1250, 1251, 1252, 1253, 1254, 1255, 1256, 1302, 1303, 1304, 1305] (by decide +kernel) (by decide +kernel)
set_option maxRecDepth 20000 in
theorem gL_law_X9_first : GoodIn wsL_law (wsV RL 77 RX9 yX9_first wsX9_first) := goodIn_app (goodIn_of _ (by decide +kernel)) ggL_law_X9_first
set_option maxRecDepth 20000 in
theorem ggL_law_X10_first : GoodIn wsL_law wsX10_first := goodIn_r _ [776, 132, 676, 677, 5, 678, 679, 178, 179, 180, 672, 673, 674, 675, 556, 557, 558, 559, 560, 561, 562, 563, 125, 124, 564, 565, 566, 567, 131, 568, 569, 570, 571, 572, 573, 574, 575, 576, 577, 578, 579, 580, 581, 582, 583, 584, 585, 586, 587, 588, 589, 590, 1257, 1258, 1259, 1260, 1261, 1262, 1263, 1264, 1265, 1266, 1267, 1268, 1269, 1270, 1271, 1272, 1273, 1274, 1275, 1276, 1277, 1278, 1279, 1280, 1281, 1282, 1283, 1284, 1285, 1286] (by decide +kernel) (by decide +kernel)
set_option maxRecDepth 20000 in
theorem gL_law_X10_first : GoodIn wsL_law (wsV RL 80 RX10 yX10_first wsX10_first) := goodIn_app (goodIn_of _ (by decide +kernel)) ggL_law_X10_first
set_option maxRecDepth 20000 in
theorem ggL_law_X9_best : GoodIn wsL_law wsX9_best := goodIn_r _ [780, 23, 39, 618, 242, 243, 22, 244, 74, 781, 782, 783, 38, 784, 101, 105, 785, 786, 385, 386, 387, 72, 388, 389, 390, 391, 73, 75, 787, 788, 789, 790, 791, 792, 793, 104, 794, 111, 112, 795, 491, 492, 493, 486, 487, 488, 489, 494, 495, 496, 497, 498, 499, 500, 501, 502, 503, 504, 505, 796, 797, 798, 799, 800, 801, 802, 803, 106, 804, 475, 476, 477, 805, 641, 642, 643, 257, 806, 807, 808, 809, 253, 254, 255, 256, 810, 811, 812, 813, 814, 815, 816, 817, 818, 819, 820, 821, 822, 823, 824, 825, 157, 2, 158, 1247, 1248, 1249, 1250, 1251, 1252, 1253, 1254, 1255, 1256, 1302, 1303, 1304, 1305, 1316, 1317, 1318, 1319, 1323, 1324] (by decide +kernel) (by decide +kernel)
set_option maxRecDepth 20000 in
theorem gL_law_X9_best : GoodIn wsL_law (wsV RL 81 RX9 yX9_best wsX9_best) := goodIn_app (goodIn_of _ (by decide +kernel)) ggL_law_X9_best
set_option maxRecDepth 20000 in
theorem ggL_law_X10_best : GoodIn wsL_law wsX10_best := goodIn_r _ [829, 133, 629, 630, 631, 5, 632, 124, 178, 179, 180, 830, 831, 832, 833, 834, 125, 560, 561, 562, 563, 835, 836, 837, 838, 598, 599, 600, 601, 602, 603, 604, 605, 568, 569, 570, 571, 572, 573, 574, 575, 576, 577, 578, 579, 580, 581, 582, 583, 588, 589, 590, 1257, 1258, 1259, 1260, 1261, 1262, 1263, 1264, 1265, 1266, 1267, 1268, 1269, 1270, 1271, 1272, 1273, 1274, 1275, 1276, 1277, 1278, 1279, 1280, 1281, 1282, 1283, 1284, 1285, 1286] (by decide +kernel) (by decide +kernel)
set_option maxRecDepth 20000 in
theorem gL_law_X10_best : GoodIn wsL_law (wsV RL 84 RX10 yX10_best wsX10_best) := goodIn_app (goodIn_of _ (by decide +kernel)) ggL_law_X10_best
set_option maxRecDepth 20000 in
theorem ggL_law_X9_begin : GoodIn wsL_law wsX9_begin := goodIn_r _ [842, 39, 23, 637, 638, 2, 639, 843, 844, 845, 38, 846, 101, 105, 785, 786, 385, 386, 22, 387, 72, 388, 389, 390, 391, 73, 74, 75, 791, 792, 793, 104, 794, 111, 112, 847, 336, 337, 338, 795, 491, 492, 493, 486, 487, 488, 489, 494, 495, 496, 497, 498, 499, 500, 501, 502, 503, 504, 505, 796, 797, 798, 799, 810, 811, 812, 813, 814, 815, 816, 817, 818, 819, 820, 821, 1247, 1248, 1249, 1250, 1251, 1252, 1253, 1254, 1255, 1256, 1316, 1317, 1318, 1319, 1302, 1303, 1304, 1305, 1323, 1324] (by decide +kernel) (by decide +kernel)
set_option maxRecDepth 20000 in
theorem gL_law_X9_begin : GoodIn wsL_law (wsV RL 85 RX9 yX9_begin wsX9_begin) := goodIn_app (goodIn_of _ (by decide +kernel)) ggL_law_X9_begin
set_option maxRecDepth 20000 in
theorem ggL_law_X10_begin : GoodIn wsL_law wsX10_begin := goodIn_r _ [851, 834, 125, 652, 653, 5, 654, 178, 179, 180, 560, 561, 562, 563, 124, 598, 599, 600, 601, 602, 603, 604, 605, 568, 569, 570, 571, 572, 573, 574, 575, 576, 577, 578, 579, 580, 581, 582, 583, 588, 589, 590, 1257, 1258, 1259, 1260, 1261, 1262, 1263, 1264, 1265, 1266, 1267, 1268, 1269, 1270, 1271, 1272, 1273, 1274, 1275, 1276, 1277, 1278, 1279, 1280, 1281, 1282, 1283, 1284, 1285, 1286] (by decide +kernel) (by decide +kernel)
set_option maxRecDepth 20000 in
theorem gL_law_X10_begin : GoodIn wsL_law (wsV RL 88 RX10 yX10_begin wsX10_begin) := goodIn_app (goodIn_of _ (by decide +kernel)) ggL_law_X10_begin
set_option maxRecDepth 20000 in
theorem ggL_law_X9_swap : GoodIn wsL_law wsX9_swap := goodIn_r _ [855, 39, 23, 637, 638, 2, 639, 856, 857, 858, 38, 859, 101, 105, 786, 385, 386, 22, 387, 72, 388, 389, 390, 391, 73, 74, 75, 795, 491, 492, 493, 486, 487, 488, 489, 494, 495, 496, 497, 498, 499, 500, 501, 502, 503, 504, 505, 791, 792, 793, 104, 794, 111, 112, 804, 475, 476, 477, 860, 254, 255, 256, 257, 242, 243, 244, 796, 797, 798, 799, 810, 811, 812, 813, 814, 815, 816, 817, 818, 819, 820, 821, 1247, 1248, 1249, 1250, 1251, 1252, 1253, 1254, 1255, 1256, 1316, 1317, 1318, 1319, 1302, 1303, 1304, 1305, 1323, 1324] (by decide +kernel) (by decide +kernel)
set_option maxRecDepth 20000 in
theorem gL_law_X9_swap : GoodIn wsL_law (wsV RL 89 RX9 yX9_swap wsX9_swap) := goodIn_app (goodIn_of _ (by decide +kernel)) ggL_law_X9_swap
set_option maxRecDepth 20000 in
theorem ggL_law_X10_swap : GoodIn wsL_law wsX10_swap := goodIn_r _ [864, 124, 125, 652, 653, 5, 654, 178, 179, 180, 560, 561, 562, 563, 598, 599, 600, 601, 602, 603, 604, 605, 568, 569, 570, 571, 572, 573, 574, 575, 576, 577, 578, 579, 580, 581, 582, 583, 588, 589, 590, 1257, 1258, 1259, 1260, 1261, 1262, 1263, 1264, 1265, 1266, 1267, 1268, 1269, 1270, 1271, 1272, 1273, 1274, 1275, 1276, 1277, 1278, 1279, 1280, 1281, 1282, 1283, 1284, 1285, 1286] (by decide +kernel) (by decide +kernel)
set_option maxRecDepth 20000 in
theorem gL_law_X10_swap : GoodIn wsL_law (wsV RL 92 RX10 yX10_swap wsX10_swap) := goodIn_app (goodIn_of _ (by decide +kernel)) ggL_law_X10_swap
set_option maxRecDepth 20000 in
theorem ggL_law_X9_longer : GoodIn wsL_law wsX9_longer := goodIn_r _ [868, 23, 39, 618, 242, 243, 22, 244, 74, 869, 870, 871, 38, 872, 101, 786, 385, 386, 387, 72, 388, 389, 390, 391, 73, 75, 873, 487, 488, 489, 874, 357, 358, 359, 875, 522, 523, 524, 486, 1247, 1248, 1249, 1250, 1251, 1252, 1253, 1254, 1255, 1256, 1302, 1303, 1304, 1305, 1316, 1317, 1318, 1319] (by decide +kernel) (by decide +kernel)
set_option maxRecDepth 20000 in
theorem gL_law_X9_longer : GoodIn wsL_law (wsV RL 93 RX9 yX9_longer wsX9_longer) := goodIn_app (goodIn_of _ (by decide +kernel)) ggL_law_X9_longer
set_option maxRecDepth 20000 in
theorem ggL_law_X10_longer : GoodIn wsL_law wsX10_longer := goodIn_r _ [879, 124, 629, 630, 631, 5, 632, 178, 179, 180, 560, 561, 562, 563, 125, 880, 881, 882, 883, 568, 569, 570, 571, 572, 573, 574, 575, 576, 577, 578, 579, 580, 581, 582, 583, 1257, 1258, 1259, 1260, 1261, 1262, 1263, 1264, 1265, 1266, 1267, 1268, 1269, 1270, 1271, 1272, 1273, 1274, 1275, 1276, 1277, 1278, 1279, 1280, 1281, 1282, 1283, 1284, 1285, 1286] (by decide +kernel) (by decide +kernel)
set_option maxRecDepth 20000 in
theorem gL_law_X10_longer : GoodIn wsL_law (wsV RL 96 RX10 yX10_longer wsX10_longer) := goodIn_app (goodIn_of _ (by decide +kernel)) ggL_law_X10_longer
set_option maxRecDepth 20000 in
theorem ggL_law_X9_when : GoodIn wsL_law wsX9_when := goodIn_r _ [887, 23, 39, 618, 242, 243, 22, 244, 74, 688, 689, 2, 690, 156, 157, 158, 888, 889, 890, 38, 891, 101, 786, 385, 386, 387, 72, 388, 389, 390, 391, 73, 75, 873, 487, 488, 489, 874, 357, 358, 359, 892, 538, 539, 540, 525, 526, 527, 528, 486, 517, 518, 519, 520, 541, 542, 543, 544, 521, 522, 523, 524, 502, 503, 504, 505, 1247, 1248, 1249, 1250, 1251, 1252, 1253, 1254, 1255, 1256, 1302, 1303, 1304, 1305, 1316, 1317, 1318, 1319] (by decide +kernel) (by decide +kernel)
set_option maxRecDepth 20000 in
theorem gL_law_X9_when : GoodIn wsL_law (wsV RL 97 RX9 yX9_when wsX9_when) := goodIn_app (goodIn_of _ (by decide +kernel)) ggL_law_X9_when
set_option maxRecDepth 20000 in
theorem ggL_law_X10_when : GoodIn wsL_law wsX10_when := goodIn_r _ [896, 132, 629, 630, 631, 5, 632, 124, 178, 179, 180, 672, 673, 674, 675, 560, 561, 562, 563, 125, 880, 881, 882, 883, 564, 565, 566, 567, 131, 568, 569, 570, 571, 572, 573, 574, 575, 576, 577, 578, 579, 580, 581, 582, 583, 584, 585, 586, 587, 588, 589, 590, 1257, 1258, 1259, 1260, 1261, 1262, 1263, 1264, 1265, 1266, 1267, 1268, 1269, 1270, 1271, 1272, 1273, 1274, 1275, 1276, 1277, 1278, 1279, 1280, 1281, 1282, 1283, 1284, 1285, 1286] (by decide +kernel) (by decide +kernel)
set_option maxRecDepth 20000 in
theorem gL_law_X10_when : GoodIn wsL_law (wsV RL 100 RX10 yX10_when wsX10_when) := goodIn_app (goodIn_of _ (by decide +kernel)) ggL_law_X10_when
set_option maxRecDepth 20000 in
theorem ggL_law_X9_wake : GoodIn wsL_law wsX9_wake := goodIn_r _ [900, 901, 902, 903, 2, 904, 23, 39, 618, 242, 243, 22, 244, 74, 637, 638, 639, 905, 906, 907, 38, 908, 101, 105, 785, 786, 385, 386, 387, 72, 388, 389, 390, 391, 73, 75, 791, 792, 793, 104, 794, 111, 112, 909, 361, 362, 363, 364, 365, 366, 157, 158, 910, 368, 369, 370, 874, 357, 358, 359, 911, 507, 508, 509, 510, 511, 512, 513, 498, 499, 500, 501, 514, 515, 516, 486, 487, 488, 489, 517, 518, 519, 520, 521, 522, 523, 524, 525, 526, 527, 528, 796, 797, 798, 799, 810, 811, 812, 813, 814, 815, 816, 817, 818, 819, 820, 821, 1247, 1248, 1249, 1250, 1251, 1252, 1253, 1254, 1255, 1256, 1302, 1303, 1304, 1305, 1316, 1317, 1318, 1319, 1323, 1324] (by decide +kernel) (by decide +kernel)
set_option maxRecDepth 20000 in
theorem gL_law_X9_wake : GoodIn wsL_law (wsV RL 101 RX9 yX9_wake wsX9_wake) := goodIn_app (goodIn_of _ (by decide +kernel)) ggL_law_X9_wake
set_option maxRecDepth 20000 in
theorem ggL_law_X10_wake : GoodIn wsL_law wsX10_wake := goodIn_r _ [915, 629, 630, 631, 5, 632, 124, 178, 179, 180, 652, 653, 654, 916, 917, 918, 919, 834, 560, 561, 562, 563, 125, 880, 881, 882, 883, 564, 565, 566, 567, 131, 132, 568, 569, 570, 571, 572, 573, 574, 575, 576, 577, 578, 579, 580, 581, 582, 583, 584, 585, 586, 587, 588, 589, 590, 606, 607, 608, 609, 610, 611, 612, 613, 591, 592, 593, 1257, 1258, 1259, 1260, 1261, 1262, 1263, 1264, 1265, 1266, 1267, 1268, 1269, 1270, 1271, 1272, 1273, 1274, 1275, 1276, 1277, 1278, 1279, 1280, 1281, 1282, 1283, 1284, 1285, 1286] (by decide +kernel) (by decide +kernel)
set_option maxRecDepth 20000 in
theorem gL_law_X10_wake : GoodIn wsL_law (wsV RL 104 RX10 yX10_wake wsX10_wake) := goodIn_app (goodIn_of _ (by decide +kernel)) ggL_law_X10_wake
set_option maxRecDepth 20000 in
theorem ggL_law_X9_where : GoodIn wsL_law wsX9_where := goodIn_r _ [923, 901, 902, 903, 2, 904, 23, 39, 618, 242, 243, 22, 244, 74, 637, 638, 639, 905, 906, 907, 38, 908, 101, 105, 785, 786, 385, 386, 387, 72, 388, 389, 390, 391, 73, 75, 791, 792, 793, 104, 794, 111, 112, 909, 361, 362, 363, 364, 365, 366, 157, 158, 910, 368, 369, 370, 874, 357, 358, 359, 911, 507, 508, 509, 510, 511, 512, 513, 498, 499, 500, 501, 514, 515, 516, 486, 487, 488, 489, 517, 518, 519, 520, 521, 522, 523, 524, 525, 526, 527, 528, 796, 797, 798, 799, 810, 811, 812, 813, 814, 815, 816, 817, 818, 819, 820, 821, 1247, 1248, 1249, 1250, 1251, 1252, 1253, 1254, 1255, 1256, 1302, 1303, 1304, 1305, 1316, 1317, 1318, 1319, 1323, 1324] (by decide +kernel) (by decide +kernel)
set_option maxRecDepth 20000 in
theorem gL_law_X9_where : GoodIn wsL_law (wsV RL 105 RX9 yX9_where wsX9_where) := goodIn_app (goodIn_of _ (by decide +kernel)) ggL_law_X9_where
set_option maxRecDepth 20000 in
theorem ggL_law_X10_where : GoodIn wsL_law wsX10_where := goodIn_r _ [927, 629, 630, 631, 5, 632, 124, 178, 179, 180, 652, 653, 654, 916, 917, 918, 919, 834, 560, 561, 562, 563, 125, 880, 881, 882, 883, 564, 565, 566, 567, 131, 132, 568, 569, 570, 571, 572, 573, 574, 575, 576, 577, 578, 579, 580, 581, 582, 583, 584, 585, 586, 587, 588, 589, 590, 606, 607, 608, 609, 610, 611, 612, 613, 591, 592, 593, 1257, 1258, 1259, 1260, 1261, 1262, 1263, 1264, 1265, 1266, 1267, 1268, 1269, 1270, 1271, 1272, 1273, 1274, 1275, 1276, 1277, 1278, 1279, 1280, 1281, 1282, 1283, 1284, 1285, 1286] (by decide +kernel) (by decide +kernel)
set_option maxRecDepth 20000 in
theorem gL_law_X10_where : GoodIn wsL_law (wsV RL 108 RX10 yX10_where wsX10_where) := goodIn_app (goodIn_of _ (by decide +kernel)) ggL_law_X10_where
set_option maxRecDepth 20000 in
theorem ggL_law_X9_luck : GoodIn wsL_law wsX9_luck := goodIn_r _ [931, 23, 932, 43, 156, 157, 2, 158, 618, 242, 243, 22, 244, 74, 637, 638, 639, 933, 934, 935, 42, 936, 117, 118, 937, 938, 939, 940, 119, 941, 250, 251, 252, 73, 942, 943, 944, 945, 946, 947, 645, 646, 647, 75, 486, 487, 488, 489, 72, 948, 949, 950, 951, 952, 953, 954, 955, 956, 1247, 1248, 1249, 1250, 1251, 1252, 1253, 1254, 1255, 1256, 1302, 1303, 1304, 1305, 1320, 1321, 1322] (by decide +kernel) (by decide +kernel)
set_option maxRecDepth 20000 in
theorem gL_law_X9_luck : GoodIn wsL_law (wsV RL 109 RX9 yX9_luck wsX9_luck) := goodIn_app (goodIn_of _ (by decide +kernel)) ggL_law_X9_luck
set_option maxRecDepth 20000 in
theorem ggL_law_X10_luck : GoodIn wsL_law wsX10_luck := goodIn_r _ [960, 961, 962, 963, 964, 178, 179, 5, 180, 629, 630, 631, 632, 124, 652, 653, 654, 965, 966, 967, 968, 969, 560, 561, 562, 563, 125, 580, 581, 582, 583, 591, 592, 593, 880, 881, 882, 883, 568, 569, 570, 571, 572, 573, 574, 575, 576, 577, 578, 579, 598, 599, 600, 601, 602, 603, 604, 605, 588, 589, 590, 970, 971, 972, 973, 974, 975, 1257, 1258, 1259, 1260, 1261, 1262, 1263, 1264, 1265, 1266, 1267, 1268, 1269, 1270, 1271, 1272, 1273, 1274, 1275, 1276, 1277, 1278, 1279, 1280, 1281, 1282, 1283, 1284, 1285, 1286] (by decide +kernel) (by decide +kernel)
set_option maxRecDepth 20000 in
theorem gL_law_X10_luck : GoodIn wsL_law (wsV RL 113 RX10 yX10_luck wsX10_luck) := goodIn_app (goodIn_of _ (by decide +kernel)) ggL_law_X10_luck
set_option maxRecDepth 20000 in
theorem ggL_law_X9_mean : GoodIn wsL_law wsX9_mean := goodIn_r _ [979, 932, 43, 23, 156, 157, 2, 158, 637, 638, 639, 980, 981, 982, 42, 983, 117, 118, 937, 938, 939, 940, 119, 984, 475, 476, 22, 477, 74, 942, 943, 944, 945, 946, 947, 645, 646, 647, 75, 73, 486, 487, 488, 489, 72, 985, 641, 642, 643, 257, 242, 243, 244, 986, 495, 496, 497, 498, 499, 500, 501, 502, 503, 504, 505, 949, 950, 951, 952, 953, 954, 955, 956, 1247, 1248, 1249, 1250, 1251, 1252, 1253, 1254, 1255, 1256, 1320, 1321, 1322, 1302, 1303, 1304, 1305] (by decide +kernel) (by decide +kernel)
set_option maxRecDepth 20000 in
theorem gL_law_X9_mean : GoodIn wsL_law (wsV RL 114 RX9 yX9_mean wsX9_mean) := goodIn_app (goodIn_of _ (by decide +kernel)) ggL_law_X9_mean
set_option maxRecDepth 20000 in
theorem ggL_law_X10_mean : GoodIn wsL_law wsX10_mean := goodIn_r _ [990, 961, 962, 969, 964, 178, 179, 5, 180, 652, 653, 654, 965, 966, 967, 968, 963, 124, 560, 561, 562, 563, 125, 580, 581, 582, 583, 591, 592, 593, 880, 881, 882, 883, 568, 569, 570, 571, 572, 573, 574, 575, 576, 577, 578, 579, 598, 599, 600, 601, 602, 603, 604, 605, 588, 589, 590, 970, 971, 972, 973, 974, 975, 1257, 1258, 1259, 1260, 1261, 1262, 1263, 1264, 1265, 1266, 1267, 1268, 1269, 1270, 1271, 1272, 1273, 1274, 1275, 1276, 1277, 1278, 1279, 1280, 1281, 1282, 1283, 1284, 1285, 1286] (by decide +kernel) (by decide +kernel)
set_option maxRecDepth 20000 in
theorem gL_law_X10_mean : GoodIn wsL_law (wsV RL 118 RX10 yX10_mean wsX10_mean) := goodIn_app (goodIn_of _ (by decide +kernel)) ggL_law_X10_mean
set_option maxRecDepth 20000 in
theorem ggL_law_X9_see : GoodIn wsL_law wsX9_see := goodIn_r _ [994, 27, 723, 724, 2, 725, 156, 157, 158, 688, 689, 690, 995, 996, 997, 26, 998, 82, 999, 1000, 1001, 1002, 79, 80, 81, 1003, 1004, 1005, 1006, 1007, 1247, 1248, 1249, 1250, 1251, 1252, 1253, 1254, 1255, 1256, 1306, 1307, 1308, 1309] (by decide +kernel) (by decide +kernel)
set_option maxRecDepth 20000 in
theorem gL_law_X9_see : GoodIn wsL_law (wsV RL 119 RX9 yX9_see wsX9_see) := goodIn_app (goodIn_of _ (by decide +kernel)) ggL_law_X9_see
set_option maxRecDepth 20000 in
theorem ggL_law_X10_see : GoodIn wsL_law wsX10_see := goodIn_r _ [1011, 124, 676, 677, 5, 678, 679, 178, 179, 180, 672, 673, 674, 675, 1257, 1258, 1259, 1260, 1261, 1262, 1263, 1264, 1265, 1266, 1267, 1268, 1269, 1270, 1271, 1272, 1273, 1274, 1275, 1276, 1277, 1278, 1279, 1280, 1281, 1282, 1283, 1284, 1285, 1286] (by decide +kernel) (by decide +kernel)
set_option maxRecDepth 20000 in
theorem gL_law_X10_see : GoodIn wsL_law (wsV RL 122 RX10 yX10_see wsX10_see) := goodIn_app (goodIn_of _ (by decide +kernel)) ggL_law_X10_see
set_option maxRecDepth 20000 in
theorem ggL_law_X9_forget : GoodIn wsL_law wsX9_forget := goodIn_r _ [1015, 27, 1004, 1005, 1006, 26, 1007, 82, 156, 157, 2, 158, 392, 393, 394, 395, 1247, 1248, 1249, 1250, 1251, 1252, 1253, 1254, 1255, 1256, 1306, 1307, 1308, 1309] (by decide +kernel) (by decide +kernel)
set_option maxRecDepth 20000 in
theorem gL_law_X9_forget : GoodIn wsL_law (wsV RL 123 RX9 yX9_forget wsX9_forget) := goodIn_app (goodIn_of _ (by decide +kernel)) ggL_law_X9_forget
set_option maxRecDepth 20000 in
theorem ggL_law_X10_forget : GoodIn wsL_law wsX10_forget := goodIn_r _ [1019, 124, 178, 179, 5, 180, 680, 681, 682, 683, 1257, 1258, 1259, 1260, 1261, 1262, 1263, 1264, 1265, 1266, 1267, 1268, 1269, 1270, 1271, 1272, 1273, 1274, 1275, 1276, 1277, 1278, 1279, 1280, 1281, 1282, 1283, 1284, 1285, 1286] (by decide +kernel) (by decide +kernel)
set_option maxRecDepth 20000 in
theorem gL_law_X10_forget : GoodIn wsL_law (wsV RL 126 RX10 yX10_forget wsX10_forget) := goodIn_app (goodIn_of _ (by decide +kernel)) ggL_law_X10_forget
set_option maxRecDepth 20000 in
theorem ggL_law_X9_starts : GoodIn wsL_law wsX9_starts := goodIn_r _ [1023, 39, 23, 27, 1024, 1025, 1026, 38, 1027, 101, 786, 385, 386, 22, 387, 72, 388, 389, 390, 391, 73, 74, 75, 847, 336, 337, 338, 1028, 1029, 1030, 26, 1031, 82, 79, 80, 81, 1032, 538, 539, 540, 525, 526, 527, 528, 486, 487, 488, 489, 517, 518, 519, 520, 541, 542, 543, 544, 521, 522, 523, 524, 502, 503, 504, 505, 1247, 1248, 1249, 1250, 1251, 1252, 1253, 1254, 1255, 1256, 1316, 1317, 1318, 1319, 1302, 1303, 1304, 1305, 1306, 1307, 1308, 1309] (by decide +kernel) (by decide +kernel)
set_option maxRecDepth 20000 in
theorem gL_law_X9_starts : GoodIn wsL_law (wsV RL 127 RX9 yX9_starts wsX9_starts) := goodIn_app (goodIn_of _ (by decide +kernel)) ggL_law_X9_starts
set_option maxRecDepth 20000 in
theorem ggL_law_X10_starts : GoodIn wsL_law wsX10_starts := goodIn_r _ [1036, 1037, 1038, 1039, 5, 1040, 125, 560, 561, 562, 563, 124, 1041, 1042, 1043, 1044, 132, 564, 565, 566, 567, 131, 568, 569, 570, 571, 572, 573, 574, 575, 576, 577, 578, 579, 580, 581, 582, 583, 584, 585, 586, 587, 588, 589, 590, 591, 592, 593, 1257, 1258, 1259, 1260, 1261, 1262, 1263, 1264, 1265, 1266, 1267, 1268, 1269, 1270, 1271, 1272, 1273, 1274, 1275, 1276, 1277, 1278, 1279, 1280, 1281, 1282, 1283, 1284, 1285, 1286] (by decide +kernel) (by decide +kernel)
set_option maxRecDepth 20000 in
theorem gL_law_X10_starts : GoodIn wsL_law (wsV RL 130 RX10 yX10_starts wsX10_starts) := goodIn_app (goodIn_of _ (by decide +kernel)) ggL_law_X10_starts
set_option maxRecDepth 20000 in
theorem ggL_law_X9_kinds : GoodIn wsL_law wsX9_kinds := goodIn_r _ [1048, 23, 39, 27, 618, 242, 243, 22, 244, 74, 1049, 1050, 1051, 38, 1052, 101, 786, 385, 386, 387, 72, 388, 389, 390, 391, 73, 75, 909, 361, 362, 363, 364, 365, 366, 157, 2, 158, 910, 368, 369, 370, 874, 357, 358, 359, 1028, 1029, 1030, 26, 1031, 82, 79, 80, 81, 1032, 538, 539, 540, 525, 526, 527, 528, 486, 487, 488, 489, 517, 518, 519, 520, 541, 542, 543, 544, 521, 522, 523, 524, 502, 503, 504, 505, 1247, 1248, 1249, 1250, 1251, 1252, 1253, 1254, 1255, 1256, 1302, 1303, 1304, 1305, 1316, 1317, 1318, 1319, 1306, 1307, 1308, 1309] (by decide +kernel) (by decide +kernel)
set_option maxRecDepth 20000 in
theorem gL_law_X9_kinds : GoodIn wsL_law (wsV RL 131 RX9 yX9_kinds wsX9_kinds) := goodIn_app (goodIn_of _ (by decide +kernel)) ggL_law_X9_kinds
set_option maxRecDepth 20000 in
theorem ggL_law_X10_kinds : GoodIn wsL_law wsX10_kinds := goodIn_r _ [1056, 629, 630, 631, 5, 632, 124, 178, 179, 180, 1037, 1038, 1039, 1040, 125, 560, 561, 562, 563, 1041, 1042, 1043, 1044, 132, 564, 565, 566, 567, 131, 568, 569, 570, 571, 572, 573, 574, 575, 576, 577, 578, 579, 580, 581, 582, 583, 584, 585, 586, 587, 588, 589, 590, 591, 592, 593, 1257, 1258, 1259, 1260, 1261, 1262, 1263, 1264, 1265, 1266, 1267, 1268, 1269, 1270, 1271, 1272, 1273, 1274, 1275, 1276, 1277, 1278, 1279, 1280, 1281, 1282, 1283, 1284, 1285, 1286] (by decide +kernel) (by decide +kernel)
set_option maxRecDepth 20000 in
theorem gL_law_X10_kinds : GoodIn wsL_law (wsV RL 134 RX10 yX10_kinds wsX10_kinds) := goodIn_app (goodIn_of _ (by decide +kernel)) ggL_law_X10_kinds
set_option maxRecDepth 20000 in
theorem ggL_law_X9_works : GoodIn wsL_law wsX9_works := goodIn_r _ [1060, 23, 39, 27, 618, 242, 243, 22, 244, 74, 1049, 1050, 1051, 38, 1052, 101, 786, 385, 386, 387, 72, 388, 389, 390, 391, 73, 75, 909, 361, 362, 363, 364, 365, 366, 157, 2, 158, 910, 368, 369, 370, 874, 357, 358, 359, 1028, 1029, 1030, 26, 1031, 82, 79, 80, 81, 1032, 538, 539, 540, 525, 526, 527, 528, 486, 487, 488, 489, 517, 518, 519, 520, 541, 542, 543, 544, 521, 522, 523, 524, 502, 503, 504, 505, 1247, 1248, 1249, 1250, 1251, 1252, 1253, 1254, 1255, 1256, 1302, 1303, 1304, 1305, 1316, 1317, 1318, 1319, 1306, 1307, 1308, 1309] (by decide +kernel) (by decide +kernel)
set_option maxRecDepth 20000 in
theorem gL_law_X9_works : GoodIn wsL_law (wsV RL 135 RX9 yX9_works wsX9_works) := goodIn_app (goodIn_of _ (by decide +kernel)) ggL_law_X9_works
set_option maxRecDepth 20000 in
theorem ggL_law_X10_works : GoodIn wsL_law wsX10_works := goodIn_r _ [1064, 629, 630, 631, 5, 632, 124, 178, 179, 180, 1037, 1038, 1039, 1040, 125, 560, 561, 562, 563, 1041, 1042, 1043, 1044, 132, 564, 565, 566, 567, 131, 568, 569, 570, 571, 572, 573, 574, 575, 576, 577, 578, 579, 580, 581, 582, 583, 584, 585, 586, 587, 588, 589, 590, 591, 592, 593, 1257, 1258, 1259, 1260, 1261, 1262, 1263, 1264, 1265, 1266, 1267, 1268, 1269, 1270, 1271, 1272, 1273, 1274, 1275, 1276, 1277, 1278, 1279, 1280, 1281, 1282, 1283, 1284, 1285, 1286] (by decide +kernel) (by decide +kernel)
set_option maxRecDepth 20000 in
theorem gL_law_X10_works : GoodIn wsL_law (wsV RL 138 RX10 yX10_works wsX10_works) := goodIn_app (goodIn_of _ (by decide +kernel)) ggL_law_X10_works
set_option maxRecDepth 20000 in
theorem ggL_law_X9_ask : GoodIn wsL_law wsX9_ask := goodIn_r _ [1068, 39, 23, 27, 637, 638, 2, 639, 1024, 1025, 1026, 38, 1027, 101, 786, 385, 386, 22, 387, 72, 388, 389, 390, 391, 73, 74, 75, 847, 336, 337, 338, 1028, 1029, 1030, 26, 1031, 82, 79, 80, 81, 1032, 538, 539, 540, 525, 526, 527, 528, 486, 487, 488, 489, 517, 518, 519, 520, 541, 542, 543, 544, 521, 522, 523, 524, 502, 503, 504, 505, 1069, 1070, 1071, 1072, 105, 1073, 546, 547, 548, 549, 550, 551, 791, 792, 793, 104, 794, 111, 112, 1074, 1075, 1076, 1077, 1078, 1079, 1080, 1081, 107, 1082, 515, 500, 516, 1083, 1084, 689, 690, 156, 157, 158, 796, 797, 798, 799, 810, 811, 812, 813, 814, 815, 816, 817, 818, 819, 820, 821, 1247, 1248, 1249, 1250, 1251, 1252, 1253, 1254, 1255, 1256, 1316, 1317, 1318, 1319, 1302, 1303, 1304, 1305, 1306, 1307, 1308, 1309, 1323, 1324] (by decide +kernel) (by decide +kernel)
set_option maxRecDepth 20000 in
theorem gL_law_X9_ask : GoodIn wsL_law (wsV RL 139 RX9 yX9_ask wsX9_ask) := goodIn_app (goodIn_of _ (by decide +kernel)) ggL_law_X9_ask
set_option maxRecDepth 20000 in
theorem ggL_law_X10_ask : GoodIn wsL_law wsX10_ask := goodIn_r _ [1088, 134, 125, 132, 652, 653, 5, 654, 178, 179, 180, 560, 561, 562, 563, 124, 1041, 1042, 1043, 1044, 564, 565, 566, 567, 131, 568, 569, 570, 571, 572, 573, 574, 575, 576, 577, 578, 579, 580, 581, 582, 583, 584, 585, 586, 587, 588, 589, 590, 1257, 1258, 1259, 1260, 1261, 1262, 1263, 1264, 1265, 1266, 1267, 1268, 1269, 1270, 1271, 1272, 1273, 1274, 1275, 1276, 1277, 1278, 1279, 1280, 1281, 1282, 1283, 1284, 1285, 1286] (by decide +kernel) (by decide +kernel)
set_option maxRecDepth 20000 in
theorem gL_law_X10_ask : GoodIn wsL_law (wsV RL 142 RX10 yX10_ask wsX10_ask) := goodIn_app (goodIn_of _ (by decide +kernel)) ggL_law_X10_ask
set_option maxRecDepth 20000 in
theorem ggL_law_X9_drift : GoodIn wsL_law wsX9_drift := goodIn_r _ [1092, 23, 39, 156, 157, 2, 158, 637, 638, 639, 474, 475, 476, 22, 477, 74, 1093, 1094, 1095, 38, 1096, 101, 1097, 804, 786, 385, 386, 387, 72, 388, 389, 390, 391, 73, 75, 860, 254, 255, 256, 257, 242, 243, 244, 847, 336, 337, 338, 795, 491, 492, 493, 486, 487, 488, 489, 494, 495, 496, 497, 498, 499, 500, 501, 502, 503, 504, 505, 911, 507, 508, 509, 510, 511, 512, 513, 514, 515, 516, 517, 518, 519, 520, 521, 522, 523, 524, 525, 526, 527, 528, 1247, 1248, 1249, 1250, 1251, 1252, 1253, 1254, 1255, 1256, 1302, 1303, 1304, 1305, 1316, 1317, 1318, 1319] (by decide +kernel) (by decide +kernel)
set_option maxRecDepth 20000 in
theorem gL_law_X9_drift : GoodIn wsL_law (wsV RL 143 RX9 yX9_drift wsX9_drift) := goodIn_app (goodIn_of _ (by decide +kernel)) ggL_law_X9_drift
set_option maxRecDepth 20000 in
theorem ggL_law_X10_drift : GoodIn wsL_law wsX10_drift := goodIn_r _ [1101, 1102, 124, 1103, 125, 178, 179, 5, 180, 652, 653, 654, 560, 561, 562, 563, 598, 599, 600, 601, 602, 603, 604, 605, 568, 569, 570, 571, 572, 573, 574, 575, 576, 577, 578, 579, 580, 581, 582, 583, 588, 589, 590, 564, 565, 566, 567, 131, 132, 584, 585, 586, 587, 606, 607, 608, 609, 610, 611, 612, 613, 591, 592, 593, 1257, 1258, 1259, 1260, 1261, 1262, 1263, 1264, 1265, 1266, 1267, 1268, 1269, 1270, 1271, 1272, 1273, 1274, 1275, 1276, 1277, 1278, 1279, 1280, 1281, 1282, 1283, 1284, 1285, 1286] (by decide +kernel) (by decide +kernel)
set_option maxRecDepth 20000 in
theorem gL_law_X10_drift : GoodIn wsL_law (wsV RL 146 RX10 yX10_drift wsX10_drift) := goodIn_app (goodIn_of _ (by decide +kernel)) ggL_law_X10_drift
set_option maxRecDepth 20000 in
theorem ggL_law_X9_keep : GoodIn wsL_law wsX9_keep := goodIn_r _ [1107, 31, 23, 27, 637, 638, 2, 639, 1108, 1109, 1110, 30, 1111, 90, 1112, 1113, 1114, 1115, 87, 89, 1116, 385, 386, 22, 387, 72, 388, 389, 390, 391, 73, 74, 75, 1117, 1118, 1119, 26, 1120, 79, 1121, 80, 81, 82, 1247, 1248, 1249, 1250, 1251, 1252, 1253, 1254, 1255, 1256, 1310, 1311, 1312, 1302, 1303, 1304, 1305, 1306, 1307, 1308, 1309] (by decide +kernel) (by decide +kernel)
set_option maxRecDepth 20000 in
theorem gL_law_X9_keep : GoodIn wsL_law (wsV RL 147 RX9 yX9_keep wsX9_keep) := goodIn_app (goodIn_of _ (by decide +kernel)) ggL_law_X9_keep
set_option maxRecDepth 20000 in
theorem ggL_law_X10_keep : GoodIn wsL_law wsX10_keep := goodIn_r _ [1125, 127, 178, 179, 5, 180, 591, 592, 593, 1126, 1127, 1128, 1129, 124, 1257, 1258, 1259, 1260, 1261, 1262, 1263, 1264, 1265, 1266, 1267, 1268, 1269, 1270, 1271, 1272, 1273, 1274, 1275, 1276, 1277, 1278, 1279, 1280, 1281, 1282, 1283, 1284, 1285, 1286] (by decide +kernel) (by decide +kernel)
set_option maxRecDepth 20000 in
theorem gL_law_X10_keep : GoodIn wsL_law (wsV RL 150 RX10 yX10_keep wsX10_keep) := goodIn_app (goodIn_of _ (by decide +kernel)) ggL_law_X10_keep
set_option maxRecDepth 20000 in
theorem ggL_law_X9_back : GoodIn wsL_law wsX9_back := goodIn_r _ [1133, 31, 23, 27, 637, 638, 2, 639, 1108, 1109, 1110, 30, 1111, 90, 1134, 1135, 1136, 1137, 87, 89, 1116, 385, 386, 22, 387, 72, 388, 389, 390, 391, 73, 74, 75, 1117, 1118, 1119, 26, 1120, 79, 1121, 80, 81, 82, 478, 479, 480, 481, 1247, 1248, 1249, 1250, 1251, 1252, 1253, 1254, 1255, 1256, 1310, 1311, 1312, 1302, 1303, 1304, 1305, 1306, 1307, 1308, 1309] (by decide +kernel) (by decide +kernel)
set_option maxRecDepth 20000 in
theorem gL_law_X9_back : GoodIn wsL_law (wsV RL 151 RX9 yX9_back wsX9_back) := goodIn_app (goodIn_of _ (by decide +kernel)) ggL_law_X9_back
set_option maxRecDepth 20000 in
theorem ggL_law_X10_back : GoodIn wsL_law wsX10_back := goodIn_r _ [1141, 127, 124, 178, 179, 5, 180, 1126, 1127, 1128, 1129, 1257, 1258, 1259, 1260, 1261, 1262, 1263, 1264, 1265, 1266, 1267, 1268, 1269, 1270, 1271, 1272, 1273, 1274, 1275, 1276, 1277, 1278, 1279, 1280, 1281, 1282, 1283, 1284, 1285, 1286] (by decide +kernel) (by decide +kernel)
set_option maxRecDepth 20000 in
theorem gL_law_X10_back : GoodIn wsL_law (wsV RL 154 RX10 yX10_back wsX10_back) := goodIn_app (goodIn_of _ (by decide +kernel)) ggL_law_X10_back
set_option maxRecDepth 20000 in
theorem ggL_law_X9_sheet : GoodIn wsL_law wsX9_sheet := goodIn_r _ [1145, 35, 1146, 1147, 34, 1148, 157, 2, 158, 1149, 1150, 1151, 1152, 1153, 1154, 1155, 94, 95, 96, 1156, 1247, 1248, 1249, 1250, 1251, 1252, 1253, 1254, 1255, 1256, 1313, 1314, 1315] (by decide +kernel) (by decide +kernel)
set_option maxRecDepth 20000 in
theorem gL_law_X9_sheet : GoodIn wsL_law (wsV RL 155 RX9 yX9_sheet wsX9_sheet) := goodIn_app (goodIn_of _ (by decide +kernel)) ggL_law_X9_sheet
set_option maxRecDepth 20000 in
theorem ggL_law_X10_sheet : GoodIn wsL_law wsX10_sheet := goodIn_r _ [1160, 135, 136, 137, 1161, 1162, 5, 1163, 670, 1164, 178, 179, 180, 1257, 1258, 1259, 1260, 1261, 1262, 1263, 1264, 1265, 1266, 1267, 1268, 1269, 1270, 1271, 1272, 1273, 1274, 1275, 1276, 1277, 1278, 1279, 1280, 1281, 1282, 1283, 1284, 1285, 1286] (by decide +kernel) (by decide +kernel)
set_option maxRecDepth 20000 in
theorem gL_law_X10_sheet : GoodIn wsL_law (wsV RL 158 RX10 yX10_sheet wsX10_sheet) := goodIn_app (goodIn_of _ (by decide +kernel)) ggL_law_X10_sheet
set_option maxRecDepth 20000 in
theorem ggL_law_X9_lay : GoodIn wsL_law wsX9_lay := goodIn_r _ [1168, 35, 1146, 1147, 34, 1148, 157, 2, 158, 1169, 1170, 1171, 1172, 95, 1156, 1173, 1174, 1175, 1176, 1177, 1178, 1179, 1180, 96, 1181, 1182, 1183, 1184, 1185, 1186, 1187, 1188, 1189, 94, 1190, 1191, 1192, 1247, 1248, 1249, 1250, 1251, 1252, 1253, 1254, 1255, 1256, 1313, 1314, 1315] (by decide +kernel) (by decide +kernel)
set_option maxRecDepth 20000 in
theorem gL_law_X9_lay : GoodIn wsL_law (wsV RL 159 RX9 yX9_lay wsX9_lay) := goodIn_app (goodIn_of _ (by decide +kernel)) ggL_law_X9_lay
set_option maxRecDepth 20000 in
theorem ggL_law_X10_lay : GoodIn wsL_law wsX10_lay := goodIn_r _ [1196, 135, 136, 137, 1161, 1162, 5, 1163, 670, 1164, 178, 179, 180, 1257, 1258, 1259, 1260, 1261, 1262, 1263, 1264, 1265, 1266, 1267, 1268, 1269, 1270, 1271, 1272, 1273, 1274, 1275, 1276, 1277, 1278, 1279, 1280, 1281, 1282, 1283, 1284, 1285, 1286] (by decide +kernel) (by decide +kernel)
set_option maxRecDepth 20000 in
theorem gL_law_X10_lay : GoodIn wsL_law (wsV RL 162 RX10 yX10_lay wsX10_lay) := goodIn_app (goodIn_of _ (by decide +kernel)) ggL_law_X10_lay
set_option maxRecDepth 20000 in
theorem ggL_law_X9_read : GoodIn wsL_law wsX9_read := goodIn_r _ [1200, 39, 23, 35, 1201, 1146, 1147, 34, 1148, 157, 2, 158, 1149, 1150, 1151, 156, 1202, 1203, 1204, 38, 1205, 101, 786, 385, 386, 22, 387, 72, 388, 389, 390, 391, 73, 74, 75, 1206, 1207, 1208, 1209, 1210, 1174, 1175, 1176, 1177, 1178, 1179, 1180, 96, 1156, 1181, 1170, 1171, 1172, 95, 1182, 1183, 1184, 1185, 1211, 1212, 1213, 1214, 1215, 1216, 1217, 1218, 94, 709, 710, 711, 712, 713, 660, 661, 363, 370, 364, 365, 366, 355, 348, 349, 350, 714, 352, 353, 354, 356, 357, 358, 359, 384, 1247, 1248, 1249, 1250, 1251, 1252, 1253, 1254, 1255, 1256, 1316, 1317, 1318, 1319, 1302, 1303, 1304, 1305, 1313, 1314, 1315] (by decide +kernel) (by decide +kernel)
set_option maxRecDepth 20000 in
theorem gL_law_X9_read : GoodIn wsL_law (wsV RL 163 RX9 yX9_read wsX9_read) := goodIn_app (goodIn_of _ (by decide +kernel)) ggL_law_X9_read
set_option maxRecDepth 20000 in
theorem ggL_law_X10_read : GoodIn wsL_law wsX10_read := goodIn_r _ [1222, 1223, 138, 124, 135, 136, 137, 1224, 1161, 1162, 5, 1163, 670, 1164, 178, 179, 180, 1225, 716, 717, 718, 667, 668, 669, 671, 628, 672, 673, 674, 675, 676, 677, 678, 679, 1257, 1258, 1259, 1260, 1261, 1262, 1263, 1264, 1265, 1266, 1267, 1268, 1269, 1270, 1271, 1272, 1273, 1274, 1275, 1276, 1277, 1278, 1279, 1280, 1281, 1282, 1283, 1284, 1285, 1286] (by decide +kernel) (by decide +kernel)
set_option maxRecDepth 20000 in
theorem gL_law_X10_read : GoodIn wsL_law (wsV RL 167 RX10 yX10_read wsX10_read) := goodIn_app (goodIn_of _ (by decide +kernel)) ggL_law_X10_read
set_option maxRecDepth 20000 in
theorem ggL_law_X9_torn : GoodIn wsL_law wsX9_torn := goodIn_r _ [1229, 1201, 1247, 1248, 1249, 1250, 1251, 1252, 1253, 1254, 1255, 1256] (by decide +kernel) (by decide +kernel)
set_option maxRecDepth 20000 in
theorem gL_law_X9_torn : GoodIn wsL_law (wsV RL 168 RX9 yX9_torn wsX9_torn) := goodIn_app (goodIn_of _ (by decide +kernel)) ggL_law_X9_torn
set_option maxRecDepth 20000 in
theorem ggL_law_X10_torn : GoodIn wsL_law wsX10_torn := goodIn_r _ [1233, 1224, 1257, 1258, 1259, 1260, 1261, 1262, 1263, 1264, 1265, 1266, 1267, 1268, 1269, 1270, 1271, 1272, 1273, 1274, 1275, 1276, 1277, 1278, 1279, 1280, 1281, 1282, 1283, 1284, 1285, 1286] (by decide +kernel) (by decide +kernel)
set_option maxRecDepth 20000 in
theorem gL_law_X10_torn : GoodIn wsL_law (wsV RL 171 RX10 yX10_torn wsX10_torn) := goodIn_app (goodIn_of _ (by decide +kernel)) ggL_law_X10_torn
set_option maxRecDepth 20000 in
theorem ggL_law_X9_count : GoodIn wsL_law wsX9_count := goodIn_r _ [1237, 27, 15, 35, 23, 1004, 1005, 1006, 26, 1007, 82, 1238, 1239, 1240, 2, 1241, 31, 1108, 1109, 1110, 30, 1111, 90, 168, 169, 170, 14, 171, 49, 1242, 1178, 1179, 34, 1180, 96, 1156, 1147, 1148, 157, 158, 482, 483, 484, 22, 485, 74, 486, 487, 488, 489, 72, 1247, 1248, 1249, 1250, 1251, 1252, 1253, 1254, 1255, 1256, 1306, 1307, 1308, 1309, 1310, 1311, 1312, 1287, 1288, 1313, 1314, 1315, 1302, 1303, 1304, 1305] (by decide +kernel) (by decide +kernel)
set_option maxRecDepth 20000 in
theorem gL_law_X9_count : GoodIn wsL_law (wsV RL 172 RX9 yX9_count wsX9_count) := goodIn_app (goodIn_of _ (by decide +kernel)) ggL_law_X9_count
set_option maxRecDepth 20000 in
theorem ggL_law_X10_count : GoodIn wsL_law wsX10_count := goodIn_r _ [1246, 124, 127, 177, 135, 136, 560, 561, 562, 5, 563, 125, 591, 592, 593, 594, 595, 596, 597, 580, 581, 582, 583, 1257, 1258, 1259, 1260, 1261, 1262, 1263, 1264, 1265, 1266, 1267, 1268, 1269, 1270, 1271, 1272, 1273, 1274, 1275, 1276, 1277, 1278, 1279, 1280, 1281, 1282, 1283, 1284, 1285, 1286] (by decide +kernel) (by decide +kernel)
set_option maxRecDepth 20000 in
theorem gL_law_X10_count : GoodIn wsL_law (wsV RL 175 RX10 yX10_count wsX10_count) := goodIn_app (goodIn_of _ (by decide +kernel)) ggL_law_X10_count
theorem dL_law_0 : decode cL_law 0 = .ok (.new 7, 3) := by decide +kernel
theorem dL_law_3 : decode cL_law 3 = .ok (.dup, 1) := by decide +kernel
theorem dL_law_4 : decode cL_law 4 = .ok (.invokespecial 9, 3) := by decide +kernel
theorem dL_law_7 : decode cL_law 7 = .ok (.astore_n 1, 1) := by decide +kernel
theorem dL_law_8 : decode cL_law 8 = .ok (.new 10, 3) := by decide +kernel
theorem dL_law_11 : decode cL_law 11 = .ok (.dup, 1) := by decide +kernel
theorem dL_law_12 : decode cL_law 12 = .ok (.invokespecial 12, 3) := by decide +kernel
theorem dL_law_15 : decode cL_law 15 = .ok (.astore_n 2, 1) := by decide +kernel
theorem dL_law_16 : decode cL_law 16 = .ok (.iconst 0, 1) := by decide +kernel
theorem dL_law_17 : decode cL_law 17 = .ok (.istore_n 3, 1) := by decide +kernel
theorem dL_law_18 : decode cL_law 18 = .ok (.iload_n 3, 1) := by decide +kernel
theorem dL_law_19 : decode cL_law 19 = .ok (.aload_n 0, 1) := by decide +kernel
theorem dL_law_20 : decode cL_law 20 = .ok (.arraylength, 1) := by decide +kernel
theorem dL_law_21 : decode cL_law 21 = .ok (.iconst 5, 1) := by decide +kernel
theorem dL_law_22 : decode cL_law 22 = .ok (.isub, 1) := by decide +kernel
theorem dL_law_23 : decode cL_law 23 = .ok (.if_icmp .gt 1346, 3) := by decide +kernel
theorem dL_law_26 : decode cL_law 26 = .ok (.aload_n 0, 1) := by decide +kernel
theorem dL_law_27 : decode cL_law 27 = .ok (.iload_n 3, 1) := by decide +kernel
theorem dL_law_28 : decode cL_law 28 = .ok (.iaload, 1) := by decide +kernel
theorem dL_law_29 : decode cL_law 29 = .ok (.bipush 63, 2) := by decide +kernel
theorem dL_law_31 : decode cL_law 31 = .ok (.iand, 1) := by decide +kernel
theorem dL_law_32 : decode cL_law 32 = .ok (.tableswitch 1331 0 38 #[172, 195, 218, 231, 244, 267, 300, 333, 376, 399, 432, 475, 518, 551, 574, 607, 640, 663, 686, 709, 732, 775, 808, 841, 885, 919, 962, 985, 998, 1021, 1044, 1067, 1110, 1133, 1156, 1199, 1242, 1295, 1308], 172) := by decide +kernel
theorem dL_law_204 : decode cL_law 204 = .ok (.aload_n 1, 1) := by decide +kernel
theorem dL_law_205 : decode cL_law 205 = .ok (.aload_n 0, 1) := by decide +kernel
theorem dL_law_206 : decode cL_law 206 = .ok (.iload_n 3, 1) := by decide +kernel
theorem dL_law_207 : decode cL_law 207 = .ok (.iconst 1, 1) := by decide +kernel
theorem dL_law_208 : decode cL_law 208 = .ok (.iadd, 1) := by decide +kernel
theorem dL_law_209 : decode cL_law 209 = .ok (.iaload, 1) := by decide +kernel
theorem dL_law_210 : decode cL_law 210 = .ok (.invokevirtual 13, 3) := by decide +kernel
theorem dL_law_213 : decode cL_law 213 = .ok (.aload_n 2, 1) := by decide +kernel
theorem dL_law_214 : decode cL_law 214 = .ok (.aload_n 0, 1) := by decide +kernel
theorem dL_law_215 : decode cL_law 215 = .ok (.iload_n 3, 1) := by decide +kernel
theorem dL_law_216 : decode cL_law 216 = .ok (.iconst 1, 1) := by decide +kernel
theorem dL_law_217 : decode cL_law 217 = .ok (.iadd, 1) := by decide +kernel
theorem dL_law_218 : decode cL_law 218 = .ok (.iaload, 1) := by decide +kernel
theorem dL_law_219 : decode cL_law 219 = .ok (.invokevirtual 17, 3) := by decide +kernel
theorem dL_law_222 : decode cL_law 222 = .ok (.if_icmp .eq 1141, 3) := by decide +kernel
theorem dL_law_225 : decode cL_law 225 = .ok (.iconst 0, 1) := by decide +kernel
theorem dL_law_226 : decode cL_law 226 = .ok (.ireturn, 1) := by decide +kernel
theorem dL_law_227 : decode cL_law 227 = .ok (.aload_n 1, 1) := by decide +kernel
theorem dL_law_228 : decode cL_law 228 = .ok (.aload_n 0, 1) := by decide +kernel
theorem dL_law_229 : decode cL_law 229 = .ok (.iload_n 3, 1) := by decide +kernel
theorem dL_law_230 : decode cL_law 230 = .ok (.iconst 1, 1) := by decide +kernel
theorem dL_law_231 : decode cL_law 231 = .ok (.iadd, 1) := by decide +kernel
theorem dL_law_232 : decode cL_law 232 = .ok (.iaload, 1) := by decide +kernel
theorem dL_law_233 : decode cL_law 233 = .ok (.invokevirtual 18, 3) := by decide +kernel
theorem dL_law_236 : decode cL_law 236 = .ok (.aload_n 2, 1) := by decide +kernel
theorem dL_law_237 : decode cL_law 237 = .ok (.aload_n 0, 1) := by decide +kernel
theorem dL_law_238 : decode cL_law 238 = .ok (.iload_n 3, 1) := by decide +kernel
theorem dL_law_239 : decode cL_law 239 = .ok (.iconst 1, 1) := by decide +kernel
theorem dL_law_240 : decode cL_law 240 = .ok (.iadd, 1) := by decide +kernel
theorem dL_law_241 : decode cL_law 241 = .ok (.iaload, 1) := by decide +kernel
theorem dL_law_242 : decode cL_law 242 = .ok (.invokevirtual 21, 3) := by decide +kernel
theorem dL_law_245 : decode cL_law 245 = .ok (.if_icmp .eq 1118, 3) := by decide +kernel
theorem dL_law_248 : decode cL_law 248 = .ok (.iconst 0, 1) := by decide +kernel
theorem dL_law_249 : decode cL_law 249 = .ok (.ireturn, 1) := by decide +kernel
theorem dL_law_250 : decode cL_law 250 = .ok (.aload_n 1, 1) := by decide +kernel
theorem dL_law_251 : decode cL_law 251 = .ok (.invokevirtual 22, 3) := by decide +kernel
theorem dL_law_254 : decode cL_law 254 = .ok (.aload_n 2, 1) := by decide +kernel
theorem dL_law_255 : decode cL_law 255 = .ok (.invokevirtual 26, 3) := by decide +kernel
theorem dL_law_258 : decode cL_law 258 = .ok (.if_icmp .eq 1105, 3) := by decide +kernel
theorem dL_law_261 : decode cL_law 261 = .ok (.iconst 0, 1) := by decide +kernel
theorem dL_law_262 : decode cL_law 262 = .ok (.ireturn, 1) := by decide +kernel
theorem dL_law_263 : decode cL_law 263 = .ok (.aload_n 1, 1) := by decide +kernel
theorem dL_law_264 : decode cL_law 264 = .ok (.invokevirtual 27, 3) := by decide +kernel
theorem dL_law_267 : decode cL_law 267 = .ok (.aload_n 2, 1) := by decide +kernel
theorem dL_law_268 : decode cL_law 268 = .ok (.invokevirtual 30, 3) := by decide +kernel
theorem dL_law_271 : decode cL_law 271 = .ok (.if_icmp .eq 1092, 3) := by decide +kernel
theorem dL_law_274 : decode cL_law 274 = .ok (.iconst 0, 1) := by decide +kernel
theorem dL_law_275 : decode cL_law 275 = .ok (.ireturn, 1) := by decide +kernel
theorem dL_law_276 : decode cL_law 276 = .ok (.aload_n 1, 1) := by decide +kernel
theorem dL_law_277 : decode cL_law 277 = .ok (.aload_n 0, 1) := by decide +kernel
theorem dL_law_278 : decode cL_law 278 = .ok (.iload_n 3, 1) := by decide +kernel
theorem dL_law_279 : decode cL_law 279 = .ok (.iconst 1, 1) := by decide +kernel
theorem dL_law_280 : decode cL_law 280 = .ok (.iadd, 1) := by decide +kernel
theorem dL_law_281 : decode cL_law 281 = .ok (.iaload, 1) := by decide +kernel
theorem dL_law_282 : decode cL_law 282 = .ok (.invokevirtual 31, 3) := by decide +kernel
theorem dL_law_285 : decode cL_law 285 = .ok (.aload_n 2, 1) := by decide +kernel
theorem dL_law_286 : decode cL_law 286 = .ok (.aload_n 0, 1) := by decide +kernel
theorem dL_law_287 : decode cL_law 287 = .ok (.iload_n 3, 1) := by decide +kernel
theorem dL_law_288 : decode cL_law 288 = .ok (.iconst 1, 1) := by decide +kernel
theorem dL_law_289 : decode cL_law 289 = .ok (.iadd, 1) := by decide +kernel
theorem dL_law_290 : decode cL_law 290 = .ok (.iaload, 1) := by decide +kernel
theorem dL_law_291 : decode cL_law 291 = .ok (.invokevirtual 34, 3) := by decide +kernel
theorem dL_law_294 : decode cL_law 294 = .ok (.if_icmp .eq 1069, 3) := by decide +kernel
theorem dL_law_297 : decode cL_law 297 = .ok (.iconst 0, 1) := by decide +kernel
theorem dL_law_298 : decode cL_law 298 = .ok (.ireturn, 1) := by decide +kernel
theorem dL_law_299 : decode cL_law 299 = .ok (.aload_n 1, 1) := by decide +kernel
theorem dL_law_300 : decode cL_law 300 = .ok (.aload_n 0, 1) := by decide +kernel
theorem dL_law_301 : decode cL_law 301 = .ok (.iload_n 3, 1) := by decide +kernel
theorem dL_law_302 : decode cL_law 302 = .ok (.iconst 1, 1) := by decide +kernel
theorem dL_law_303 : decode cL_law 303 = .ok (.iadd, 1) := by decide +kernel
theorem dL_law_304 : decode cL_law 304 = .ok (.iaload, 1) := by decide +kernel
theorem dL_law_305 : decode cL_law 305 = .ok (.aload_n 0, 1) := by decide +kernel
theorem dL_law_306 : decode cL_law 306 = .ok (.iload_n 3, 1) := by decide +kernel
theorem dL_law_307 : decode cL_law 307 = .ok (.iconst 2, 1) := by decide +kernel
theorem dL_law_308 : decode cL_law 308 = .ok (.iadd, 1) := by decide +kernel
theorem dL_law_309 : decode cL_law 309 = .ok (.iaload, 1) := by decide +kernel
theorem dL_law_310 : decode cL_law 310 = .ok (.invokevirtual 35, 3) := by decide +kernel
theorem dL_law_313 : decode cL_law 313 = .ok (.aload_n 2, 1) := by decide +kernel
theorem dL_law_314 : decode cL_law 314 = .ok (.aload_n 0, 1) := by decide +kernel
theorem dL_law_315 : decode cL_law 315 = .ok (.iload_n 3, 1) := by decide +kernel
theorem dL_law_316 : decode cL_law 316 = .ok (.iconst 1, 1) := by decide +kernel
theorem dL_law_317 : decode cL_law 317 = .ok (.iadd, 1) := by decide +kernel
theorem dL_law_318 : decode cL_law 318 = .ok (.iaload, 1) := by decide +kernel
theorem dL_law_319 : decode cL_law 319 = .ok (.aload_n 0, 1) := by decide +kernel
theorem dL_law_320 : decode cL_law 320 = .ok (.iload_n 3, 1) := by decide +kernel
theorem dL_law_321 : decode cL_law 321 = .ok (.iconst 2, 1) := by decide +kernel
theorem dL_law_322 : decode cL_law 322 = .ok (.iadd, 1) := by decide +kernel
theorem dL_law_323 : decode cL_law 323 = .ok (.iaload, 1) := by decide +kernel
theorem dL_law_324 : decode cL_law 324 = .ok (.invokevirtual 39, 3) := by decide +kernel
theorem dL_law_327 : decode cL_law 327 = .ok (.if_icmp .eq 1036, 3) := by decide +kernel
theorem dL_law_330 : decode cL_law 330 = .ok (.iconst 0, 1) := by decide +kernel
theorem dL_law_331 : decode cL_law 331 = .ok (.ireturn, 1) := by decide +kernel
theorem dL_law_332 : decode cL_law 332 = .ok (.aload_n 1, 1) := by decide +kernel
theorem dL_law_333 : decode cL_law 333 = .ok (.aload_n 0, 1) := by decide +kernel
theorem dL_law_334 : decode cL_law 334 = .ok (.iload_n 3, 1) := by decide +kernel
theorem dL_law_335 : decode cL_law 335 = .ok (.iconst 1, 1) := by decide +kernel
theorem dL_law_336 : decode cL_law 336 = .ok (.iadd, 1) := by decide +kernel
theorem dL_law_337 : decode cL_law 337 = .ok (.iaload, 1) := by decide +kernel
theorem dL_law_338 : decode cL_law 338 = .ok (.aload_n 0, 1) := by decide +kernel
theorem dL_law_339 : decode cL_law 339 = .ok (.iload_n 3, 1) := by decide +kernel
theorem dL_law_340 : decode cL_law 340 = .ok (.iconst 2, 1) := by decide +kernel
theorem dL_law_341 : decode cL_law 341 = .ok (.iadd, 1) := by decide +kernel
theorem dL_law_342 : decode cL_law 342 = .ok (.iaload, 1) := by decide +kernel
theorem dL_law_343 : decode cL_law 343 = .ok (.invokevirtual 40, 3) := by decide +kernel
theorem dL_law_346 : decode cL_law 346 = .ok (.aload_n 2, 1) := by decide +kernel
theorem dL_law_347 : decode cL_law 347 = .ok (.aload_n 0, 1) := by decide +kernel
theorem dL_law_348 : decode cL_law 348 = .ok (.iload_n 3, 1) := by decide +kernel
theorem dL_law_349 : decode cL_law 349 = .ok (.iconst 1, 1) := by decide +kernel
theorem dL_law_350 : decode cL_law 350 = .ok (.iadd, 1) := by decide +kernel
theorem dL_law_351 : decode cL_law 351 = .ok (.iaload, 1) := by decide +kernel
theorem dL_law_352 : decode cL_law 352 = .ok (.aload_n 0, 1) := by decide +kernel
theorem dL_law_353 : decode cL_law 353 = .ok (.iload_n 3, 1) := by decide +kernel
theorem dL_law_354 : decode cL_law 354 = .ok (.iconst 2, 1) := by decide +kernel
theorem dL_law_355 : decode cL_law 355 = .ok (.iadd, 1) := by decide +kernel
theorem dL_law_356 : decode cL_law 356 = .ok (.iaload, 1) := by decide +kernel
theorem dL_law_357 : decode cL_law 357 = .ok (.invokevirtual 43, 3) := by decide +kernel
theorem dL_law_360 : decode cL_law 360 = .ok (.if_icmp .eq 1003, 3) := by decide +kernel
theorem dL_law_363 : decode cL_law 363 = .ok (.iconst 0, 1) := by decide +kernel
theorem dL_law_364 : decode cL_law 364 = .ok (.ireturn, 1) := by decide +kernel
theorem dL_law_365 : decode cL_law 365 = .ok (.aload_n 1, 1) := by decide +kernel
theorem dL_law_366 : decode cL_law 366 = .ok (.aload_n 0, 1) := by decide +kernel
theorem dL_law_367 : decode cL_law 367 = .ok (.iload_n 3, 1) := by decide +kernel
theorem dL_law_368 : decode cL_law 368 = .ok (.iconst 1, 1) := by decide +kernel
theorem dL_law_369 : decode cL_law 369 = .ok (.iadd, 1) := by decide +kernel
theorem dL_law_370 : decode cL_law 370 = .ok (.iaload, 1) := by decide +kernel
theorem dL_law_371 : decode cL_law 371 = .ok (.aload_n 0, 1) := by decide +kernel
theorem dL_law_372 : decode cL_law 372 = .ok (.iload_n 3, 1) := by decide +kernel
theorem dL_law_373 : decode cL_law 373 = .ok (.iconst 2, 1) := by decide +kernel
theorem dL_law_374 : decode cL_law 374 = .ok (.iadd, 1) := by decide +kernel
theorem dL_law_375 : decode cL_law 375 = .ok (.iaload, 1) := by decide +kernel
theorem dL_law_376 : decode cL_law 376 = .ok (.aload_n 0, 1) := by decide +kernel
theorem dL_law_377 : decode cL_law 377 = .ok (.iload_n 3, 1) := by decide +kernel
theorem dL_law_378 : decode cL_law 378 = .ok (.iconst 3, 1) := by decide +kernel
theorem dL_law_379 : decode cL_law 379 = .ok (.iadd, 1) := by decide +kernel
theorem dL_law_380 : decode cL_law 380 = .ok (.iaload, 1) := by decide +kernel
theorem dL_law_381 : decode cL_law 381 = .ok (.invokevirtual 44, 3) := by decide +kernel
theorem dL_law_384 : decode cL_law 384 = .ok (.aload_n 2, 1) := by decide +kernel
theorem dL_law_385 : decode cL_law 385 = .ok (.aload_n 0, 1) := by decide +kernel
theorem dL_law_386 : decode cL_law 386 = .ok (.iload_n 3, 1) := by decide +kernel
theorem dL_law_387 : decode cL_law 387 = .ok (.iconst 1, 1) := by decide +kernel
theorem dL_law_388 : decode cL_law 388 = .ok (.iadd, 1) := by decide +kernel
theorem dL_law_389 : decode cL_law 389 = .ok (.iaload, 1) := by decide +kernel
theorem dL_law_390 : decode cL_law 390 = .ok (.aload_n 0, 1) := by decide +kernel
theorem dL_law_391 : decode cL_law 391 = .ok (.iload_n 3, 1) := by decide +kernel
theorem dL_law_392 : decode cL_law 392 = .ok (.iconst 2, 1) := by decide +kernel
theorem dL_law_393 : decode cL_law 393 = .ok (.iadd, 1) := by decide +kernel
theorem dL_law_394 : decode cL_law 394 = .ok (.iaload, 1) := by decide +kernel
theorem dL_law_395 : decode cL_law 395 = .ok (.aload_n 0, 1) := by decide +kernel
theorem dL_law_396 : decode cL_law 396 = .ok (.iload_n 3, 1) := by decide +kernel
theorem dL_law_397 : decode cL_law 397 = .ok (.iconst 3, 1) := by decide +kernel
theorem dL_law_398 : decode cL_law 398 = .ok (.iadd, 1) := by decide +kernel
theorem dL_law_399 : decode cL_law 399 = .ok (.iaload, 1) := by decide +kernel
theorem dL_law_400 : decode cL_law 400 = .ok (.invokevirtual 48, 3) := by decide +kernel
theorem dL_law_403 : decode cL_law 403 = .ok (.if_icmp .eq 960, 3) := by decide +kernel
theorem dL_law_406 : decode cL_law 406 = .ok (.iconst 0, 1) := by decide +kernel
theorem dL_law_407 : decode cL_law 407 = .ok (.ireturn, 1) := by decide +kernel
theorem dL_law_408 : decode cL_law 408 = .ok (.aload_n 1, 1) := by decide +kernel
theorem dL_law_409 : decode cL_law 409 = .ok (.aload_n 0, 1) := by decide +kernel
theorem dL_law_410 : decode cL_law 410 = .ok (.iload_n 3, 1) := by decide +kernel
theorem dL_law_411 : decode cL_law 411 = .ok (.iconst 1, 1) := by decide +kernel
theorem dL_law_412 : decode cL_law 412 = .ok (.iadd, 1) := by decide +kernel
theorem dL_law_413 : decode cL_law 413 = .ok (.iaload, 1) := by decide +kernel
theorem dL_law_414 : decode cL_law 414 = .ok (.invokevirtual 49, 3) := by decide +kernel
theorem dL_law_417 : decode cL_law 417 = .ok (.aload_n 2, 1) := by decide +kernel
theorem dL_law_418 : decode cL_law 418 = .ok (.aload_n 0, 1) := by decide +kernel
theorem dL_law_419 : decode cL_law 419 = .ok (.iload_n 3, 1) := by decide +kernel
theorem dL_law_420 : decode cL_law 420 = .ok (.iconst 1, 1) := by decide +kernel
theorem dL_law_421 : decode cL_law 421 = .ok (.iadd, 1) := by decide +kernel
theorem dL_law_422 : decode cL_law 422 = .ok (.iaload, 1) := by decide +kernel
theorem dL_law_423 : decode cL_law 423 = .ok (.invokevirtual 52, 3) := by decide +kernel
theorem dL_law_426 : decode cL_law 426 = .ok (.if_icmp .eq 937, 3) := by decide +kernel
theorem dL_law_429 : decode cL_law 429 = .ok (.iconst 0, 1) := by decide +kernel
theorem dL_law_430 : decode cL_law 430 = .ok (.ireturn, 1) := by decide +kernel
theorem dL_law_431 : decode cL_law 431 = .ok (.aload_n 1, 1) := by decide +kernel
theorem dL_law_432 : decode cL_law 432 = .ok (.aload_n 0, 1) := by decide +kernel
theorem dL_law_433 : decode cL_law 433 = .ok (.iload_n 3, 1) := by decide +kernel
theorem dL_law_434 : decode cL_law 434 = .ok (.iconst 1, 1) := by decide +kernel
theorem dL_law_435 : decode cL_law 435 = .ok (.iadd, 1) := by decide +kernel
theorem dL_law_436 : decode cL_law 436 = .ok (.iaload, 1) := by decide +kernel
theorem dL_law_437 : decode cL_law 437 = .ok (.aload_n 0, 1) := by decide +kernel
theorem dL_law_438 : decode cL_law 438 = .ok (.iload_n 3, 1) := by decide +kernel
theorem dL_law_439 : decode cL_law 439 = .ok (.iconst 2, 1) := by decide +kernel
theorem dL_law_440 : decode cL_law 440 = .ok (.iadd, 1) := by decide +kernel
theorem dL_law_441 : decode cL_law 441 = .ok (.iaload, 1) := by decide +kernel
theorem dL_law_442 : decode cL_law 442 = .ok (.invokevirtual 53, 3) := by decide +kernel
theorem dL_law_445 : decode cL_law 445 = .ok (.aload_n 2, 1) := by decide +kernel
theorem dL_law_446 : decode cL_law 446 = .ok (.aload_n 0, 1) := by decide +kernel
theorem dL_law_447 : decode cL_law 447 = .ok (.iload_n 3, 1) := by decide +kernel
theorem dL_law_448 : decode cL_law 448 = .ok (.iconst 1, 1) := by decide +kernel
theorem dL_law_449 : decode cL_law 449 = .ok (.iadd, 1) := by decide +kernel
theorem dL_law_450 : decode cL_law 450 = .ok (.iaload, 1) := by decide +kernel
theorem dL_law_451 : decode cL_law 451 = .ok (.aload_n 0, 1) := by decide +kernel
theorem dL_law_452 : decode cL_law 452 = .ok (.iload_n 3, 1) := by decide +kernel
theorem dL_law_453 : decode cL_law 453 = .ok (.iconst 2, 1) := by decide +kernel
theorem dL_law_454 : decode cL_law 454 = .ok (.iadd, 1) := by decide +kernel
theorem dL_law_455 : decode cL_law 455 = .ok (.iaload, 1) := by decide +kernel
theorem dL_law_456 : decode cL_law 456 = .ok (.invokevirtual 56, 3) := by decide +kernel
theorem dL_law_459 : decode cL_law 459 = .ok (.if_icmp .eq 904, 3) := by decide +kernel
theorem dL_law_462 : decode cL_law 462 = .ok (.iconst 0, 1) := by decide +kernel
theorem dL_law_463 : decode cL_law 463 = .ok (.ireturn, 1) := by decide +kernel
theorem dL_law_464 : decode cL_law 464 = .ok (.aload_n 1, 1) := by decide +kernel
theorem dL_law_465 : decode cL_law 465 = .ok (.aload_n 0, 1) := by decide +kernel
theorem dL_law_466 : decode cL_law 466 = .ok (.iload_n 3, 1) := by decide +kernel
theorem dL_law_467 : decode cL_law 467 = .ok (.iconst 1, 1) := by decide +kernel
theorem dL_law_468 : decode cL_law 468 = .ok (.iadd, 1) := by decide +kernel
theorem dL_law_469 : decode cL_law 469 = .ok (.iaload, 1) := by decide +kernel
theorem dL_law_470 : decode cL_law 470 = .ok (.aload_n 0, 1) := by decide +kernel
theorem dL_law_471 : decode cL_law 471 = .ok (.iload_n 3, 1) := by decide +kernel
theorem dL_law_472 : decode cL_law 472 = .ok (.iconst 2, 1) := by decide +kernel
theorem dL_law_473 : decode cL_law 473 = .ok (.iadd, 1) := by decide +kernel
theorem dL_law_474 : decode cL_law 474 = .ok (.iaload, 1) := by decide +kernel
theorem dL_law_475 : decode cL_law 475 = .ok (.aload_n 0, 1) := by decide +kernel
theorem dL_law_476 : decode cL_law 476 = .ok (.iload_n 3, 1) := by decide +kernel
theorem dL_law_477 : decode cL_law 477 = .ok (.iconst 3, 1) := by decide +kernel
theorem dL_law_478 : decode cL_law 478 = .ok (.iadd, 1) := by decide +kernel
theorem dL_law_479 : decode cL_law 479 = .ok (.iaload, 1) := by decide +kernel
theorem dL_law_480 : decode cL_law 480 = .ok (.invokevirtual 57, 3) := by decide +kernel
theorem dL_law_483 : decode cL_law 483 = .ok (.aload_n 2, 1) := by decide +kernel
theorem dL_law_484 : decode cL_law 484 = .ok (.aload_n 0, 1) := by decide +kernel
theorem dL_law_485 : decode cL_law 485 = .ok (.iload_n 3, 1) := by decide +kernel
theorem dL_law_486 : decode cL_law 486 = .ok (.iconst 1, 1) := by decide +kernel
theorem dL_law_487 : decode cL_law 487 = .ok (.iadd, 1) := by decide +kernel
theorem dL_law_488 : decode cL_law 488 = .ok (.iaload, 1) := by decide +kernel
theorem dL_law_489 : decode cL_law 489 = .ok (.aload_n 0, 1) := by decide +kernel
theorem dL_law_490 : decode cL_law 490 = .ok (.iload_n 3, 1) := by decide +kernel
theorem dL_law_491 : decode cL_law 491 = .ok (.iconst 2, 1) := by decide +kernel
theorem dL_law_492 : decode cL_law 492 = .ok (.iadd, 1) := by decide +kernel
theorem dL_law_493 : decode cL_law 493 = .ok (.iaload, 1) := by decide +kernel
theorem dL_law_494 : decode cL_law 494 = .ok (.aload_n 0, 1) := by decide +kernel
theorem dL_law_495 : decode cL_law 495 = .ok (.iload_n 3, 1) := by decide +kernel
theorem dL_law_496 : decode cL_law 496 = .ok (.iconst 3, 1) := by decide +kernel
theorem dL_law_497 : decode cL_law 497 = .ok (.iadd, 1) := by decide +kernel
theorem dL_law_498 : decode cL_law 498 = .ok (.iaload, 1) := by decide +kernel
theorem dL_law_499 : decode cL_law 499 = .ok (.invokevirtual 60, 3) := by decide +kernel
theorem dL_law_502 : decode cL_law 502 = .ok (.if_icmp .eq 861, 3) := by decide +kernel
theorem dL_law_505 : decode cL_law 505 = .ok (.iconst 0, 1) := by decide +kernel
theorem dL_law_506 : decode cL_law 506 = .ok (.ireturn, 1) := by decide +kernel
theorem dL_law_507 : decode cL_law 507 = .ok (.aload_n 1, 1) := by decide +kernel
theorem dL_law_508 : decode cL_law 508 = .ok (.aload_n 0, 1) := by decide +kernel
theorem dL_law_509 : decode cL_law 509 = .ok (.iload_n 3, 1) := by decide +kernel
theorem dL_law_510 : decode cL_law 510 = .ok (.iconst 1, 1) := by decide +kernel
theorem dL_law_511 : decode cL_law 511 = .ok (.iadd, 1) := by decide +kernel
theorem dL_law_512 : decode cL_law 512 = .ok (.iaload, 1) := by decide +kernel
theorem dL_law_513 : decode cL_law 513 = .ok (.aload_n 0, 1) := by decide +kernel
theorem dL_law_514 : decode cL_law 514 = .ok (.iload_n 3, 1) := by decide +kernel
theorem dL_law_515 : decode cL_law 515 = .ok (.iconst 2, 1) := by decide +kernel
theorem dL_law_516 : decode cL_law 516 = .ok (.iadd, 1) := by decide +kernel
theorem dL_law_517 : decode cL_law 517 = .ok (.iaload, 1) := by decide +kernel
theorem dL_law_518 : decode cL_law 518 = .ok (.aload_n 0, 1) := by decide +kernel
theorem dL_law_519 : decode cL_law 519 = .ok (.iload_n 3, 1) := by decide +kernel
theorem dL_law_520 : decode cL_law 520 = .ok (.iconst 3, 1) := by decide +kernel
theorem dL_law_521 : decode cL_law 521 = .ok (.iadd, 1) := by decide +kernel
theorem dL_law_522 : decode cL_law 522 = .ok (.iaload, 1) := by decide +kernel
theorem dL_law_523 : decode cL_law 523 = .ok (.invokevirtual 61, 3) := by decide +kernel
theorem dL_law_526 : decode cL_law 526 = .ok (.aload_n 2, 1) := by decide +kernel
theorem dL_law_527 : decode cL_law 527 = .ok (.aload_n 0, 1) := by decide +kernel
theorem dL_law_528 : decode cL_law 528 = .ok (.iload_n 3, 1) := by decide +kernel
theorem dL_law_529 : decode cL_law 529 = .ok (.iconst 1, 1) := by decide +kernel
theorem dL_law_530 : decode cL_law 530 = .ok (.iadd, 1) := by decide +kernel
theorem dL_law_531 : decode cL_law 531 = .ok (.iaload, 1) := by decide +kernel
theorem dL_law_532 : decode cL_law 532 = .ok (.aload_n 0, 1) := by decide +kernel
theorem dL_law_533 : decode cL_law 533 = .ok (.iload_n 3, 1) := by decide +kernel
theorem dL_law_534 : decode cL_law 534 = .ok (.iconst 2, 1) := by decide +kernel
theorem dL_law_535 : decode cL_law 535 = .ok (.iadd, 1) := by decide +kernel
theorem dL_law_536 : decode cL_law 536 = .ok (.iaload, 1) := by decide +kernel
theorem dL_law_537 : decode cL_law 537 = .ok (.aload_n 0, 1) := by decide +kernel
theorem dL_law_538 : decode cL_law 538 = .ok (.iload_n 3, 1) := by decide +kernel
theorem dL_law_539 : decode cL_law 539 = .ok (.iconst 3, 1) := by decide +kernel
theorem dL_law_540 : decode cL_law 540 = .ok (.iadd, 1) := by decide +kernel
theorem dL_law_541 : decode cL_law 541 = .ok (.iaload, 1) := by decide +kernel
theorem dL_law_542 : decode cL_law 542 = .ok (.invokevirtual 64, 3) := by decide +kernel
theorem dL_law_545 : decode cL_law 545 = .ok (.if_icmp .eq 818, 3) := by decide +kernel
theorem dL_law_548 : decode cL_law 548 = .ok (.iconst 0, 1) := by decide +kernel
theorem dL_law_549 : decode cL_law 549 = .ok (.ireturn, 1) := by decide +kernel
theorem dL_law_550 : decode cL_law 550 = .ok (.aload_n 1, 1) := by decide +kernel
theorem dL_law_551 : decode cL_law 551 = .ok (.aload_n 0, 1) := by decide +kernel
theorem dL_law_552 : decode cL_law 552 = .ok (.iload_n 3, 1) := by decide +kernel
theorem dL_law_553 : decode cL_law 553 = .ok (.iconst 1, 1) := by decide +kernel
theorem dL_law_554 : decode cL_law 554 = .ok (.iadd, 1) := by decide +kernel
theorem dL_law_555 : decode cL_law 555 = .ok (.iaload, 1) := by decide +kernel
theorem dL_law_556 : decode cL_law 556 = .ok (.aload_n 0, 1) := by decide +kernel
theorem dL_law_557 : decode cL_law 557 = .ok (.iload_n 3, 1) := by decide +kernel
theorem dL_law_558 : decode cL_law 558 = .ok (.iconst 2, 1) := by decide +kernel
theorem dL_law_559 : decode cL_law 559 = .ok (.iadd, 1) := by decide +kernel
theorem dL_law_560 : decode cL_law 560 = .ok (.iaload, 1) := by decide +kernel
theorem dL_law_561 : decode cL_law 561 = .ok (.invokevirtual 65, 3) := by decide +kernel
theorem dL_law_564 : decode cL_law 564 = .ok (.aload_n 2, 1) := by decide +kernel
theorem dL_law_565 : decode cL_law 565 = .ok (.aload_n 0, 1) := by decide +kernel
theorem dL_law_566 : decode cL_law 566 = .ok (.iload_n 3, 1) := by decide +kernel
theorem dL_law_567 : decode cL_law 567 = .ok (.iconst 1, 1) := by decide +kernel
theorem dL_law_568 : decode cL_law 568 = .ok (.iadd, 1) := by decide +kernel
theorem dL_law_569 : decode cL_law 569 = .ok (.iaload, 1) := by decide +kernel
theorem dL_law_570 : decode cL_law 570 = .ok (.aload_n 0, 1) := by decide +kernel
theorem dL_law_571 : decode cL_law 571 = .ok (.iload_n 3, 1) := by decide +kernel
theorem dL_law_572 : decode cL_law 572 = .ok (.iconst 2, 1) := by decide +kernel
theorem dL_law_573 : decode cL_law 573 = .ok (.iadd, 1) := by decide +kernel
theorem dL_law_574 : decode cL_law 574 = .ok (.iaload, 1) := by decide +kernel
theorem dL_law_575 : decode cL_law 575 = .ok (.invokevirtual 68, 3) := by decide +kernel
theorem dL_law_578 : decode cL_law 578 = .ok (.if_icmp .eq 785, 3) := by decide +kernel
theorem dL_law_581 : decode cL_law 581 = .ok (.iconst 0, 1) := by decide +kernel
theorem dL_law_582 : decode cL_law 582 = .ok (.ireturn, 1) := by decide +kernel
theorem dL_law_583 : decode cL_law 583 = .ok (.aload_n 1, 1) := by decide +kernel
theorem dL_law_584 : decode cL_law 584 = .ok (.aload_n 0, 1) := by decide +kernel
theorem dL_law_585 : decode cL_law 585 = .ok (.iload_n 3, 1) := by decide +kernel
theorem dL_law_586 : decode cL_law 586 = .ok (.iconst 1, 1) := by decide +kernel
theorem dL_law_587 : decode cL_law 587 = .ok (.iadd, 1) := by decide +kernel
theorem dL_law_588 : decode cL_law 588 = .ok (.iaload, 1) := by decide +kernel
theorem dL_law_589 : decode cL_law 589 = .ok (.invokevirtual 69, 3) := by decide +kernel
theorem dL_law_592 : decode cL_law 592 = .ok (.aload_n 2, 1) := by decide +kernel
theorem dL_law_593 : decode cL_law 593 = .ok (.aload_n 0, 1) := by decide +kernel
theorem dL_law_594 : decode cL_law 594 = .ok (.iload_n 3, 1) := by decide +kernel
theorem dL_law_595 : decode cL_law 595 = .ok (.iconst 1, 1) := by decide +kernel
theorem dL_law_596 : decode cL_law 596 = .ok (.iadd, 1) := by decide +kernel
theorem dL_law_597 : decode cL_law 597 = .ok (.iaload, 1) := by decide +kernel
theorem dL_law_598 : decode cL_law 598 = .ok (.invokevirtual 72, 3) := by decide +kernel
theorem dL_law_601 : decode cL_law 601 = .ok (.if_icmp .eq 762, 3) := by decide +kernel
theorem dL_law_604 : decode cL_law 604 = .ok (.iconst 0, 1) := by decide +kernel
theorem dL_law_605 : decode cL_law 605 = .ok (.ireturn, 1) := by decide +kernel
theorem dL_law_606 : decode cL_law 606 = .ok (.aload_n 1, 1) := by decide +kernel
theorem dL_law_607 : decode cL_law 607 = .ok (.aload_n 0, 1) := by decide +kernel
theorem dL_law_608 : decode cL_law 608 = .ok (.iload_n 3, 1) := by decide +kernel
theorem dL_law_609 : decode cL_law 609 = .ok (.iconst 1, 1) := by decide +kernel
theorem dL_law_610 : decode cL_law 610 = .ok (.iadd, 1) := by decide +kernel
theorem dL_law_611 : decode cL_law 611 = .ok (.iaload, 1) := by decide +kernel
theorem dL_law_612 : decode cL_law 612 = .ok (.aload_n 0, 1) := by decide +kernel
theorem dL_law_613 : decode cL_law 613 = .ok (.iload_n 3, 1) := by decide +kernel
theorem dL_law_614 : decode cL_law 614 = .ok (.iconst 2, 1) := by decide +kernel
theorem dL_law_615 : decode cL_law 615 = .ok (.iadd, 1) := by decide +kernel
theorem dL_law_616 : decode cL_law 616 = .ok (.iaload, 1) := by decide +kernel
theorem dL_law_617 : decode cL_law 617 = .ok (.invokevirtual 73, 3) := by decide +kernel
theorem dL_law_620 : decode cL_law 620 = .ok (.aload_n 2, 1) := by decide +kernel
theorem dL_law_621 : decode cL_law 621 = .ok (.aload_n 0, 1) := by decide +kernel
theorem dL_law_622 : decode cL_law 622 = .ok (.iload_n 3, 1) := by decide +kernel
theorem dL_law_623 : decode cL_law 623 = .ok (.iconst 1, 1) := by decide +kernel
theorem dL_law_624 : decode cL_law 624 = .ok (.iadd, 1) := by decide +kernel
theorem dL_law_625 : decode cL_law 625 = .ok (.iaload, 1) := by decide +kernel
theorem dL_law_626 : decode cL_law 626 = .ok (.aload_n 0, 1) := by decide +kernel
theorem dL_law_627 : decode cL_law 627 = .ok (.iload_n 3, 1) := by decide +kernel
theorem dL_law_628 : decode cL_law 628 = .ok (.iconst 2, 1) := by decide +kernel
theorem dL_law_629 : decode cL_law 629 = .ok (.iadd, 1) := by decide +kernel
theorem dL_law_630 : decode cL_law 630 = .ok (.iaload, 1) := by decide +kernel
theorem dL_law_631 : decode cL_law 631 = .ok (.invokevirtual 76, 3) := by decide +kernel
theorem dL_law_634 : decode cL_law 634 = .ok (.if_icmp .eq 729, 3) := by decide +kernel
theorem dL_law_637 : decode cL_law 637 = .ok (.iconst 0, 1) := by decide +kernel
theorem dL_law_638 : decode cL_law 638 = .ok (.ireturn, 1) := by decide +kernel
theorem dL_law_639 : decode cL_law 639 = .ok (.aload_n 1, 1) := by decide +kernel
theorem dL_law_640 : decode cL_law 640 = .ok (.aload_n 0, 1) := by decide +kernel
theorem dL_law_641 : decode cL_law 641 = .ok (.iload_n 3, 1) := by decide +kernel
theorem dL_law_642 : decode cL_law 642 = .ok (.iconst 1, 1) := by decide +kernel
theorem dL_law_643 : decode cL_law 643 = .ok (.iadd, 1) := by decide +kernel
theorem dL_law_644 : decode cL_law 644 = .ok (.iaload, 1) := by decide +kernel
theorem dL_law_645 : decode cL_law 645 = .ok (.aload_n 0, 1) := by decide +kernel
theorem dL_law_646 : decode cL_law 646 = .ok (.iload_n 3, 1) := by decide +kernel
theorem dL_law_647 : decode cL_law 647 = .ok (.iconst 2, 1) := by decide +kernel
theorem dL_law_648 : decode cL_law 648 = .ok (.iadd, 1) := by decide +kernel
theorem dL_law_649 : decode cL_law 649 = .ok (.iaload, 1) := by decide +kernel
theorem dL_law_650 : decode cL_law 650 = .ok (.invokevirtual 77, 3) := by decide +kernel
theorem dL_law_653 : decode cL_law 653 = .ok (.aload_n 2, 1) := by decide +kernel
theorem dL_law_654 : decode cL_law 654 = .ok (.aload_n 0, 1) := by decide +kernel
theorem dL_law_655 : decode cL_law 655 = .ok (.iload_n 3, 1) := by decide +kernel
theorem dL_law_656 : decode cL_law 656 = .ok (.iconst 1, 1) := by decide +kernel
theorem dL_law_657 : decode cL_law 657 = .ok (.iadd, 1) := by decide +kernel
theorem dL_law_658 : decode cL_law 658 = .ok (.iaload, 1) := by decide +kernel
theorem dL_law_659 : decode cL_law 659 = .ok (.aload_n 0, 1) := by decide +kernel
theorem dL_law_660 : decode cL_law 660 = .ok (.iload_n 3, 1) := by decide +kernel
theorem dL_law_661 : decode cL_law 661 = .ok (.iconst 2, 1) := by decide +kernel
theorem dL_law_662 : decode cL_law 662 = .ok (.iadd, 1) := by decide +kernel
theorem dL_law_663 : decode cL_law 663 = .ok (.iaload, 1) := by decide +kernel
theorem dL_law_664 : decode cL_law 664 = .ok (.invokevirtual 80, 3) := by decide +kernel
theorem dL_law_667 : decode cL_law 667 = .ok (.if_icmp .eq 696, 3) := by decide +kernel
theorem dL_law_670 : decode cL_law 670 = .ok (.iconst 0, 1) := by decide +kernel
theorem dL_law_671 : decode cL_law 671 = .ok (.ireturn, 1) := by decide +kernel
theorem dL_law_672 : decode cL_law 672 = .ok (.aload_n 1, 1) := by decide +kernel
theorem dL_law_673 : decode cL_law 673 = .ok (.aload_n 0, 1) := by decide +kernel
theorem dL_law_674 : decode cL_law 674 = .ok (.iload_n 3, 1) := by decide +kernel
theorem dL_law_675 : decode cL_law 675 = .ok (.iconst 1, 1) := by decide +kernel
theorem dL_law_676 : decode cL_law 676 = .ok (.iadd, 1) := by decide +kernel
theorem dL_law_677 : decode cL_law 677 = .ok (.iaload, 1) := by decide +kernel
theorem dL_law_678 : decode cL_law 678 = .ok (.invokevirtual 81, 3) := by decide +kernel
theorem dL_law_681 : decode cL_law 681 = .ok (.aload_n 2, 1) := by decide +kernel
theorem dL_law_682 : decode cL_law 682 = .ok (.aload_n 0, 1) := by decide +kernel
theorem dL_law_683 : decode cL_law 683 = .ok (.iload_n 3, 1) := by decide +kernel
theorem dL_law_684 : decode cL_law 684 = .ok (.iconst 1, 1) := by decide +kernel
theorem dL_law_685 : decode cL_law 685 = .ok (.iadd, 1) := by decide +kernel
theorem dL_law_686 : decode cL_law 686 = .ok (.iaload, 1) := by decide +kernel
theorem dL_law_687 : decode cL_law 687 = .ok (.invokevirtual 84, 3) := by decide +kernel
theorem dL_law_690 : decode cL_law 690 = .ok (.if_icmp .eq 673, 3) := by decide +kernel
theorem dL_law_693 : decode cL_law 693 = .ok (.iconst 0, 1) := by decide +kernel
theorem dL_law_694 : decode cL_law 694 = .ok (.ireturn, 1) := by decide +kernel
theorem dL_law_695 : decode cL_law 695 = .ok (.aload_n 1, 1) := by decide +kernel
theorem dL_law_696 : decode cL_law 696 = .ok (.aload_n 0, 1) := by decide +kernel
theorem dL_law_697 : decode cL_law 697 = .ok (.iload_n 3, 1) := by decide +kernel
theorem dL_law_698 : decode cL_law 698 = .ok (.iconst 1, 1) := by decide +kernel
theorem dL_law_699 : decode cL_law 699 = .ok (.iadd, 1) := by decide +kernel
theorem dL_law_700 : decode cL_law 700 = .ok (.iaload, 1) := by decide +kernel
theorem dL_law_701 : decode cL_law 701 = .ok (.invokevirtual 85, 3) := by decide +kernel
theorem dL_law_704 : decode cL_law 704 = .ok (.aload_n 2, 1) := by decide +kernel
theorem dL_law_705 : decode cL_law 705 = .ok (.aload_n 0, 1) := by decide +kernel
theorem dL_law_706 : decode cL_law 706 = .ok (.iload_n 3, 1) := by decide +kernel
theorem dL_law_707 : decode cL_law 707 = .ok (.iconst 1, 1) := by decide +kernel
theorem dL_law_708 : decode cL_law 708 = .ok (.iadd, 1) := by decide +kernel
theorem dL_law_709 : decode cL_law 709 = .ok (.iaload, 1) := by decide +kernel
theorem dL_law_710 : decode cL_law 710 = .ok (.invokevirtual 88, 3) := by decide +kernel
theorem dL_law_713 : decode cL_law 713 = .ok (.if_icmp .eq 650, 3) := by decide +kernel
theorem dL_law_716 : decode cL_law 716 = .ok (.iconst 0, 1) := by decide +kernel
theorem dL_law_717 : decode cL_law 717 = .ok (.ireturn, 1) := by decide +kernel
theorem dL_law_718 : decode cL_law 718 = .ok (.aload_n 1, 1) := by decide +kernel
theorem dL_law_719 : decode cL_law 719 = .ok (.aload_n 0, 1) := by decide +kernel
theorem dL_law_720 : decode cL_law 720 = .ok (.iload_n 3, 1) := by decide +kernel
theorem dL_law_721 : decode cL_law 721 = .ok (.iconst 1, 1) := by decide +kernel
theorem dL_law_722 : decode cL_law 722 = .ok (.iadd, 1) := by decide +kernel
theorem dL_law_723 : decode cL_law 723 = .ok (.iaload, 1) := by decide +kernel
theorem dL_law_724 : decode cL_law 724 = .ok (.invokevirtual 89, 3) := by decide +kernel
theorem dL_law_727 : decode cL_law 727 = .ok (.aload_n 2, 1) := by decide +kernel
theorem dL_law_728 : decode cL_law 728 = .ok (.aload_n 0, 1) := by decide +kernel
theorem dL_law_729 : decode cL_law 729 = .ok (.iload_n 3, 1) := by decide +kernel
theorem dL_law_730 : decode cL_law 730 = .ok (.iconst 1, 1) := by decide +kernel
theorem dL_law_731 : decode cL_law 731 = .ok (.iadd, 1) := by decide +kernel
theorem dL_law_732 : decode cL_law 732 = .ok (.iaload, 1) := by decide +kernel
theorem dL_law_733 : decode cL_law 733 = .ok (.invokevirtual 92, 3) := by decide +kernel
theorem dL_law_736 : decode cL_law 736 = .ok (.if_icmp .eq 627, 3) := by decide +kernel
theorem dL_law_739 : decode cL_law 739 = .ok (.iconst 0, 1) := by decide +kernel
theorem dL_law_740 : decode cL_law 740 = .ok (.ireturn, 1) := by decide +kernel
theorem dL_law_741 : decode cL_law 741 = .ok (.aload_n 1, 1) := by decide +kernel
theorem dL_law_742 : decode cL_law 742 = .ok (.aload_n 0, 1) := by decide +kernel
theorem dL_law_743 : decode cL_law 743 = .ok (.iload_n 3, 1) := by decide +kernel
theorem dL_law_744 : decode cL_law 744 = .ok (.iconst 1, 1) := by decide +kernel
theorem dL_law_745 : decode cL_law 745 = .ok (.iadd, 1) := by decide +kernel
theorem dL_law_746 : decode cL_law 746 = .ok (.iaload, 1) := by decide +kernel
theorem dL_law_747 : decode cL_law 747 = .ok (.invokevirtual 93, 3) := by decide +kernel
theorem dL_law_750 : decode cL_law 750 = .ok (.aload_n 2, 1) := by decide +kernel
theorem dL_law_751 : decode cL_law 751 = .ok (.aload_n 0, 1) := by decide +kernel
theorem dL_law_752 : decode cL_law 752 = .ok (.iload_n 3, 1) := by decide +kernel
theorem dL_law_753 : decode cL_law 753 = .ok (.iconst 1, 1) := by decide +kernel
theorem dL_law_754 : decode cL_law 754 = .ok (.iadd, 1) := by decide +kernel
theorem dL_law_755 : decode cL_law 755 = .ok (.iaload, 1) := by decide +kernel
theorem dL_law_756 : decode cL_law 756 = .ok (.invokevirtual 96, 3) := by decide +kernel
theorem dL_law_759 : decode cL_law 759 = .ok (.if_icmp .eq 604, 3) := by decide +kernel
theorem dL_law_762 : decode cL_law 762 = .ok (.iconst 0, 1) := by decide +kernel
theorem dL_law_763 : decode cL_law 763 = .ok (.ireturn, 1) := by decide +kernel
theorem dL_law_764 : decode cL_law 764 = .ok (.aload_n 1, 1) := by decide +kernel
theorem dL_law_765 : decode cL_law 765 = .ok (.aload_n 0, 1) := by decide +kernel
theorem dL_law_766 : decode cL_law 766 = .ok (.iload_n 3, 1) := by decide +kernel
theorem dL_law_767 : decode cL_law 767 = .ok (.iconst 1, 1) := by decide +kernel
theorem dL_law_768 : decode cL_law 768 = .ok (.iadd, 1) := by decide +kernel
theorem dL_law_769 : decode cL_law 769 = .ok (.iaload, 1) := by decide +kernel
theorem dL_law_770 : decode cL_law 770 = .ok (.aload_n 0, 1) := by decide +kernel
theorem dL_law_771 : decode cL_law 771 = .ok (.iload_n 3, 1) := by decide +kernel
theorem dL_law_772 : decode cL_law 772 = .ok (.iconst 2, 1) := by decide +kernel
theorem dL_law_773 : decode cL_law 773 = .ok (.iadd, 1) := by decide +kernel
theorem dL_law_774 : decode cL_law 774 = .ok (.iaload, 1) := by decide +kernel
theorem dL_law_775 : decode cL_law 775 = .ok (.aload_n 0, 1) := by decide +kernel
theorem dL_law_776 : decode cL_law 776 = .ok (.iload_n 3, 1) := by decide +kernel
theorem dL_law_777 : decode cL_law 777 = .ok (.iconst 3, 1) := by decide +kernel
theorem dL_law_778 : decode cL_law 778 = .ok (.iadd, 1) := by decide +kernel
theorem dL_law_779 : decode cL_law 779 = .ok (.iaload, 1) := by decide +kernel
theorem dL_law_780 : decode cL_law 780 = .ok (.invokevirtual 97, 3) := by decide +kernel
theorem dL_law_783 : decode cL_law 783 = .ok (.aload_n 2, 1) := by decide +kernel
theorem dL_law_784 : decode cL_law 784 = .ok (.aload_n 0, 1) := by decide +kernel
theorem dL_law_785 : decode cL_law 785 = .ok (.iload_n 3, 1) := by decide +kernel
theorem dL_law_786 : decode cL_law 786 = .ok (.iconst 1, 1) := by decide +kernel
theorem dL_law_787 : decode cL_law 787 = .ok (.iadd, 1) := by decide +kernel
theorem dL_law_788 : decode cL_law 788 = .ok (.iaload, 1) := by decide +kernel
theorem dL_law_789 : decode cL_law 789 = .ok (.aload_n 0, 1) := by decide +kernel
theorem dL_law_790 : decode cL_law 790 = .ok (.iload_n 3, 1) := by decide +kernel
theorem dL_law_791 : decode cL_law 791 = .ok (.iconst 2, 1) := by decide +kernel
theorem dL_law_792 : decode cL_law 792 = .ok (.iadd, 1) := by decide +kernel
theorem dL_law_793 : decode cL_law 793 = .ok (.iaload, 1) := by decide +kernel
theorem dL_law_794 : decode cL_law 794 = .ok (.aload_n 0, 1) := by decide +kernel
theorem dL_law_795 : decode cL_law 795 = .ok (.iload_n 3, 1) := by decide +kernel
theorem dL_law_796 : decode cL_law 796 = .ok (.iconst 3, 1) := by decide +kernel
theorem dL_law_797 : decode cL_law 797 = .ok (.iadd, 1) := by decide +kernel
theorem dL_law_798 : decode cL_law 798 = .ok (.iaload, 1) := by decide +kernel
theorem dL_law_799 : decode cL_law 799 = .ok (.invokevirtual 100, 3) := by decide +kernel
theorem dL_law_802 : decode cL_law 802 = .ok (.if_icmp .eq 561, 3) := by decide +kernel
theorem dL_law_805 : decode cL_law 805 = .ok (.iconst 0, 1) := by decide +kernel
theorem dL_law_806 : decode cL_law 806 = .ok (.ireturn, 1) := by decide +kernel
theorem dL_law_807 : decode cL_law 807 = .ok (.aload_n 1, 1) := by decide +kernel
theorem dL_law_808 : decode cL_law 808 = .ok (.aload_n 0, 1) := by decide +kernel
theorem dL_law_809 : decode cL_law 809 = .ok (.iload_n 3, 1) := by decide +kernel
theorem dL_law_810 : decode cL_law 810 = .ok (.iconst 1, 1) := by decide +kernel
theorem dL_law_811 : decode cL_law 811 = .ok (.iadd, 1) := by decide +kernel
theorem dL_law_812 : decode cL_law 812 = .ok (.iaload, 1) := by decide +kernel
theorem dL_law_813 : decode cL_law 813 = .ok (.aload_n 0, 1) := by decide +kernel
theorem dL_law_814 : decode cL_law 814 = .ok (.iload_n 3, 1) := by decide +kernel
theorem dL_law_815 : decode cL_law 815 = .ok (.iconst 2, 1) := by decide +kernel
theorem dL_law_816 : decode cL_law 816 = .ok (.iadd, 1) := by decide +kernel
theorem dL_law_817 : decode cL_law 817 = .ok (.iaload, 1) := by decide +kernel
theorem dL_law_818 : decode cL_law 818 = .ok (.invokevirtual 101, 3) := by decide +kernel
theorem dL_law_821 : decode cL_law 821 = .ok (.aload_n 2, 1) := by decide +kernel
theorem dL_law_822 : decode cL_law 822 = .ok (.aload_n 0, 1) := by decide +kernel
theorem dL_law_823 : decode cL_law 823 = .ok (.iload_n 3, 1) := by decide +kernel
theorem dL_law_824 : decode cL_law 824 = .ok (.iconst 1, 1) := by decide +kernel
theorem dL_law_825 : decode cL_law 825 = .ok (.iadd, 1) := by decide +kernel
theorem dL_law_826 : decode cL_law 826 = .ok (.iaload, 1) := by decide +kernel
theorem dL_law_827 : decode cL_law 827 = .ok (.aload_n 0, 1) := by decide +kernel
theorem dL_law_828 : decode cL_law 828 = .ok (.iload_n 3, 1) := by decide +kernel
theorem dL_law_829 : decode cL_law 829 = .ok (.iconst 2, 1) := by decide +kernel
theorem dL_law_830 : decode cL_law 830 = .ok (.iadd, 1) := by decide +kernel
theorem dL_law_831 : decode cL_law 831 = .ok (.iaload, 1) := by decide +kernel
theorem dL_law_832 : decode cL_law 832 = .ok (.invokevirtual 104, 3) := by decide +kernel
theorem dL_law_835 : decode cL_law 835 = .ok (.if_icmp .eq 528, 3) := by decide +kernel
theorem dL_law_838 : decode cL_law 838 = .ok (.iconst 0, 1) := by decide +kernel
theorem dL_law_839 : decode cL_law 839 = .ok (.ireturn, 1) := by decide +kernel
theorem dL_law_840 : decode cL_law 840 = .ok (.aload_n 1, 1) := by decide +kernel
theorem dL_law_841 : decode cL_law 841 = .ok (.aload_n 0, 1) := by decide +kernel
theorem dL_law_842 : decode cL_law 842 = .ok (.iload_n 3, 1) := by decide +kernel
theorem dL_law_843 : decode cL_law 843 = .ok (.iconst 1, 1) := by decide +kernel
theorem dL_law_844 : decode cL_law 844 = .ok (.iadd, 1) := by decide +kernel
theorem dL_law_845 : decode cL_law 845 = .ok (.iaload, 1) := by decide +kernel
theorem dL_law_846 : decode cL_law 846 = .ok (.aload_n 0, 1) := by decide +kernel
theorem dL_law_847 : decode cL_law 847 = .ok (.iload_n 3, 1) := by decide +kernel
theorem dL_law_848 : decode cL_law 848 = .ok (.iconst 2, 1) := by decide +kernel
theorem dL_law_849 : decode cL_law 849 = .ok (.iadd, 1) := by decide +kernel
theorem dL_law_850 : decode cL_law 850 = .ok (.iaload, 1) := by decide +kernel
theorem dL_law_851 : decode cL_law 851 = .ok (.invokevirtual 105, 3) := by decide +kernel
theorem dL_law_854 : decode cL_law 854 = .ok (.aload_n 2, 1) := by decide +kernel
theorem dL_law_855 : decode cL_law 855 = .ok (.aload_n 0, 1) := by decide +kernel
theorem dL_law_856 : decode cL_law 856 = .ok (.iload_n 3, 1) := by decide +kernel
theorem dL_law_857 : decode cL_law 857 = .ok (.iconst 1, 1) := by decide +kernel
theorem dL_law_858 : decode cL_law 858 = .ok (.iadd, 1) := by decide +kernel
theorem dL_law_859 : decode cL_law 859 = .ok (.iaload, 1) := by decide +kernel
theorem dL_law_860 : decode cL_law 860 = .ok (.aload_n 0, 1) := by decide +kernel
theorem dL_law_861 : decode cL_law 861 = .ok (.iload_n 3, 1) := by decide +kernel
theorem dL_law_862 : decode cL_law 862 = .ok (.iconst 2, 1) := by decide +kernel
theorem dL_law_863 : decode cL_law 863 = .ok (.iadd, 1) := by decide +kernel
theorem dL_law_864 : decode cL_law 864 = .ok (.iaload, 1) := by decide +kernel
theorem dL_law_865 : decode cL_law 865 = .ok (.invokevirtual 108, 3) := by decide +kernel
theorem dL_law_868 : decode cL_law 868 = .ok (.if_icmp .eq 495, 3) := by decide +kernel
theorem dL_law_871 : decode cL_law 871 = .ok (.iconst 0, 1) := by decide +kernel
theorem dL_law_872 : decode cL_law 872 = .ok (.ireturn, 1) := by decide +kernel
theorem dL_law_873 : decode cL_law 873 = .ok (.aload_n 1, 1) := by decide +kernel
theorem dL_law_874 : decode cL_law 874 = .ok (.aload_n 0, 1) := by decide +kernel
theorem dL_law_875 : decode cL_law 875 = .ok (.iload_n 3, 1) := by decide +kernel
theorem dL_law_876 : decode cL_law 876 = .ok (.iconst 1, 1) := by decide +kernel
theorem dL_law_877 : decode cL_law 877 = .ok (.iadd, 1) := by decide +kernel
theorem dL_law_878 : decode cL_law 878 = .ok (.iaload, 1) := by decide +kernel
theorem dL_law_879 : decode cL_law 879 = .ok (.aload_n 0, 1) := by decide +kernel
theorem dL_law_880 : decode cL_law 880 = .ok (.iload_n 3, 1) := by decide +kernel
theorem dL_law_881 : decode cL_law 881 = .ok (.iconst 2, 1) := by decide +kernel
theorem dL_law_882 : decode cL_law 882 = .ok (.iadd, 1) := by decide +kernel
theorem dL_law_883 : decode cL_law 883 = .ok (.iaload, 1) := by decide +kernel
theorem dL_law_884 : decode cL_law 884 = .ok (.aload_n 0, 1) := by decide +kernel
theorem dL_law_885 : decode cL_law 885 = .ok (.iload_n 3, 1) := by decide +kernel
theorem dL_law_886 : decode cL_law 886 = .ok (.iconst 3, 1) := by decide +kernel
theorem dL_law_887 : decode cL_law 887 = .ok (.iadd, 1) := by decide +kernel
theorem dL_law_888 : decode cL_law 888 = .ok (.iaload, 1) := by decide +kernel
theorem dL_law_889 : decode cL_law 889 = .ok (.invokevirtual 109, 3) := by decide +kernel
theorem dL_law_892 : decode cL_law 892 = .ok (.aload_n 2, 1) := by decide +kernel
theorem dL_law_893 : decode cL_law 893 = .ok (.aload_n 0, 1) := by decide +kernel
theorem dL_law_894 : decode cL_law 894 = .ok (.iload_n 3, 1) := by decide +kernel
theorem dL_law_895 : decode cL_law 895 = .ok (.iconst 1, 1) := by decide +kernel
theorem dL_law_896 : decode cL_law 896 = .ok (.iadd, 1) := by decide +kernel
theorem dL_law_897 : decode cL_law 897 = .ok (.iaload, 1) := by decide +kernel
theorem dL_law_898 : decode cL_law 898 = .ok (.aload_n 0, 1) := by decide +kernel
theorem dL_law_899 : decode cL_law 899 = .ok (.iload_n 3, 1) := by decide +kernel
theorem dL_law_900 : decode cL_law 900 = .ok (.iconst 2, 1) := by decide +kernel
theorem dL_law_901 : decode cL_law 901 = .ok (.iadd, 1) := by decide +kernel
theorem dL_law_902 : decode cL_law 902 = .ok (.iaload, 1) := by decide +kernel
theorem dL_law_903 : decode cL_law 903 = .ok (.aload_n 0, 1) := by decide +kernel
theorem dL_law_904 : decode cL_law 904 = .ok (.iload_n 3, 1) := by decide +kernel
theorem dL_law_905 : decode cL_law 905 = .ok (.iconst 3, 1) := by decide +kernel
theorem dL_law_906 : decode cL_law 906 = .ok (.iadd, 1) := by decide +kernel
theorem dL_law_907 : decode cL_law 907 = .ok (.iaload, 1) := by decide +kernel
theorem dL_law_908 : decode cL_law 908 = .ok (.invokevirtual 113, 3) := by decide +kernel
theorem dL_law_911 : decode cL_law 911 = .ok (.lcmp, 1) := by decide +kernel
theorem dL_law_912 : decode cL_law 912 = .ok (.ifCond .eq 451, 3) := by decide +kernel
theorem dL_law_915 : decode cL_law 915 = .ok (.iconst 0, 1) := by decide +kernel
theorem dL_law_916 : decode cL_law 916 = .ok (.ireturn, 1) := by decide +kernel
theorem dL_law_917 : decode cL_law 917 = .ok (.aload_n 1, 1) := by decide +kernel
theorem dL_law_918 : decode cL_law 918 = .ok (.aload_n 0, 1) := by decide +kernel
theorem dL_law_919 : decode cL_law 919 = .ok (.iload_n 3, 1) := by decide +kernel
theorem dL_law_920 : decode cL_law 920 = .ok (.iconst 1, 1) := by decide +kernel
theorem dL_law_921 : decode cL_law 921 = .ok (.iadd, 1) := by decide +kernel
theorem dL_law_922 : decode cL_law 922 = .ok (.iaload, 1) := by decide +kernel
theorem dL_law_923 : decode cL_law 923 = .ok (.aload_n 0, 1) := by decide +kernel
theorem dL_law_924 : decode cL_law 924 = .ok (.iload_n 3, 1) := by decide +kernel
theorem dL_law_925 : decode cL_law 925 = .ok (.iconst 2, 1) := by decide +kernel
theorem dL_law_926 : decode cL_law 926 = .ok (.iadd, 1) := by decide +kernel
theorem dL_law_927 : decode cL_law 927 = .ok (.iaload, 1) := by decide +kernel
theorem dL_law_928 : decode cL_law 928 = .ok (.invokevirtual 114, 3) := by decide +kernel
theorem dL_law_931 : decode cL_law 931 = .ok (.aload_n 2, 1) := by decide +kernel
theorem dL_law_932 : decode cL_law 932 = .ok (.aload_n 0, 1) := by decide +kernel
theorem dL_law_933 : decode cL_law 933 = .ok (.iload_n 3, 1) := by decide +kernel
theorem dL_law_934 : decode cL_law 934 = .ok (.iconst 1, 1) := by decide +kernel
theorem dL_law_935 : decode cL_law 935 = .ok (.iadd, 1) := by decide +kernel
theorem dL_law_936 : decode cL_law 936 = .ok (.iaload, 1) := by decide +kernel
theorem dL_law_937 : decode cL_law 937 = .ok (.aload_n 0, 1) := by decide +kernel
theorem dL_law_938 : decode cL_law 938 = .ok (.iload_n 3, 1) := by decide +kernel
theorem dL_law_939 : decode cL_law 939 = .ok (.iconst 2, 1) := by decide +kernel
theorem dL_law_940 : decode cL_law 940 = .ok (.iadd, 1) := by decide +kernel
theorem dL_law_941 : decode cL_law 941 = .ok (.iaload, 1) := by decide +kernel
theorem dL_law_942 : decode cL_law 942 = .ok (.invokevirtual 118, 3) := by decide +kernel
theorem dL_law_945 : decode cL_law 945 = .ok (.lcmp, 1) := by decide +kernel
theorem dL_law_946 : decode cL_law 946 = .ok (.ifCond .eq 417, 3) := by decide +kernel
theorem dL_law_949 : decode cL_law 949 = .ok (.iconst 0, 1) := by decide +kernel
theorem dL_law_950 : decode cL_law 950 = .ok (.ireturn, 1) := by decide +kernel
theorem dL_law_951 : decode cL_law 951 = .ok (.aload_n 1, 1) := by decide +kernel
theorem dL_law_952 : decode cL_law 952 = .ok (.aload_n 0, 1) := by decide +kernel
theorem dL_law_953 : decode cL_law 953 = .ok (.iload_n 3, 1) := by decide +kernel
theorem dL_law_954 : decode cL_law 954 = .ok (.iconst 1, 1) := by decide +kernel
theorem dL_law_955 : decode cL_law 955 = .ok (.iadd, 1) := by decide +kernel
theorem dL_law_956 : decode cL_law 956 = .ok (.iaload, 1) := by decide +kernel
theorem dL_law_957 : decode cL_law 957 = .ok (.aload_n 0, 1) := by decide +kernel
theorem dL_law_958 : decode cL_law 958 = .ok (.iload_n 3, 1) := by decide +kernel
theorem dL_law_959 : decode cL_law 959 = .ok (.iconst 2, 1) := by decide +kernel
theorem dL_law_960 : decode cL_law 960 = .ok (.iadd, 1) := by decide +kernel
theorem dL_law_961 : decode cL_law 961 = .ok (.iaload, 1) := by decide +kernel
theorem dL_law_962 : decode cL_law 962 = .ok (.aload_n 0, 1) := by decide +kernel
theorem dL_law_963 : decode cL_law 963 = .ok (.iload_n 3, 1) := by decide +kernel
theorem dL_law_964 : decode cL_law 964 = .ok (.iconst 3, 1) := by decide +kernel
theorem dL_law_965 : decode cL_law 965 = .ok (.iadd, 1) := by decide +kernel
theorem dL_law_966 : decode cL_law 966 = .ok (.iaload, 1) := by decide +kernel
theorem dL_law_967 : decode cL_law 967 = .ok (.invokevirtual 119, 3) := by decide +kernel
theorem dL_law_970 : decode cL_law 970 = .ok (.aload_n 2, 1) := by decide +kernel
theorem dL_law_971 : decode cL_law 971 = .ok (.aload_n 0, 1) := by decide +kernel
theorem dL_law_972 : decode cL_law 972 = .ok (.iload_n 3, 1) := by decide +kernel
theorem dL_law_973 : decode cL_law 973 = .ok (.iconst 1, 1) := by decide +kernel
theorem dL_law_974 : decode cL_law 974 = .ok (.iadd, 1) := by decide +kernel
theorem dL_law_975 : decode cL_law 975 = .ok (.iaload, 1) := by decide +kernel
theorem dL_law_976 : decode cL_law 976 = .ok (.aload_n 0, 1) := by decide +kernel
theorem dL_law_977 : decode cL_law 977 = .ok (.iload_n 3, 1) := by decide +kernel
theorem dL_law_978 : decode cL_law 978 = .ok (.iconst 2, 1) := by decide +kernel
theorem dL_law_979 : decode cL_law 979 = .ok (.iadd, 1) := by decide +kernel
theorem dL_law_980 : decode cL_law 980 = .ok (.iaload, 1) := by decide +kernel
theorem dL_law_981 : decode cL_law 981 = .ok (.aload_n 0, 1) := by decide +kernel
theorem dL_law_982 : decode cL_law 982 = .ok (.iload_n 3, 1) := by decide +kernel
theorem dL_law_983 : decode cL_law 983 = .ok (.iconst 3, 1) := by decide +kernel
theorem dL_law_984 : decode cL_law 984 = .ok (.iadd, 1) := by decide +kernel
theorem dL_law_985 : decode cL_law 985 = .ok (.iaload, 1) := by decide +kernel
theorem dL_law_986 : decode cL_law 986 = .ok (.invokevirtual 122, 3) := by decide +kernel
theorem dL_law_989 : decode cL_law 989 = .ok (.if_icmp .eq 374, 3) := by decide +kernel
theorem dL_law_992 : decode cL_law 992 = .ok (.iconst 0, 1) := by decide +kernel
theorem dL_law_993 : decode cL_law 993 = .ok (.ireturn, 1) := by decide +kernel
theorem dL_law_994 : decode cL_law 994 = .ok (.aload_n 1, 1) := by decide +kernel
theorem dL_law_995 : decode cL_law 995 = .ok (.aload_n 0, 1) := by decide +kernel
theorem dL_law_996 : decode cL_law 996 = .ok (.iload_n 3, 1) := by decide +kernel
theorem dL_law_997 : decode cL_law 997 = .ok (.iconst 1, 1) := by decide +kernel
theorem dL_law_998 : decode cL_law 998 = .ok (.iadd, 1) := by decide +kernel
theorem dL_law_999 : decode cL_law 999 = .ok (.iaload, 1) := by decide +kernel
theorem dL_law_1000 : decode cL_law 1000 = .ok (.invokevirtual 123, 3) := by decide +kernel
theorem dL_law_1003 : decode cL_law 1003 = .ok (.aload_n 2, 1) := by decide +kernel
theorem dL_law_1004 : decode cL_law 1004 = .ok (.aload_n 0, 1) := by decide +kernel
theorem dL_law_1005 : decode cL_law 1005 = .ok (.iload_n 3, 1) := by decide +kernel
theorem dL_law_1006 : decode cL_law 1006 = .ok (.iconst 1, 1) := by decide +kernel
theorem dL_law_1007 : decode cL_law 1007 = .ok (.iadd, 1) := by decide +kernel
theorem dL_law_1008 : decode cL_law 1008 = .ok (.iaload, 1) := by decide +kernel
theorem dL_law_1009 : decode cL_law 1009 = .ok (.invokevirtual 126, 3) := by decide +kernel
theorem dL_law_1012 : decode cL_law 1012 = .ok (.if_icmp .eq 351, 3) := by decide +kernel
theorem dL_law_1015 : decode cL_law 1015 = .ok (.iconst 0, 1) := by decide +kernel
theorem dL_law_1016 : decode cL_law 1016 = .ok (.ireturn, 1) := by decide +kernel
theorem dL_law_1017 : decode cL_law 1017 = .ok (.aload_n 1, 1) := by decide +kernel
theorem dL_law_1018 : decode cL_law 1018 = .ok (.invokevirtual 127, 3) := by decide +kernel
theorem dL_law_1021 : decode cL_law 1021 = .ok (.aload_n 2, 1) := by decide +kernel
theorem dL_law_1022 : decode cL_law 1022 = .ok (.invokevirtual 130, 3) := by decide +kernel
theorem dL_law_1025 : decode cL_law 1025 = .ok (.if_icmp .eq 338, 3) := by decide +kernel
theorem dL_law_1028 : decode cL_law 1028 = .ok (.iconst 0, 1) := by decide +kernel
theorem dL_law_1029 : decode cL_law 1029 = .ok (.ireturn, 1) := by decide +kernel
theorem dL_law_1030 : decode cL_law 1030 = .ok (.aload_n 1, 1) := by decide +kernel
theorem dL_law_1031 : decode cL_law 1031 = .ok (.aload_n 0, 1) := by decide +kernel
theorem dL_law_1032 : decode cL_law 1032 = .ok (.iload_n 3, 1) := by decide +kernel
theorem dL_law_1033 : decode cL_law 1033 = .ok (.iconst 1, 1) := by decide +kernel
theorem dL_law_1034 : decode cL_law 1034 = .ok (.iadd, 1) := by decide +kernel
theorem dL_law_1035 : decode cL_law 1035 = .ok (.iaload, 1) := by decide +kernel
theorem dL_law_1036 : decode cL_law 1036 = .ok (.invokevirtual 131, 3) := by decide +kernel
theorem dL_law_1039 : decode cL_law 1039 = .ok (.aload_n 2, 1) := by decide +kernel
theorem dL_law_1040 : decode cL_law 1040 = .ok (.aload_n 0, 1) := by decide +kernel
