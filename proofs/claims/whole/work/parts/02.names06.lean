theorem dX10_readLineOf_29 : decode cX10_readLineOf 29 = .ok (.invokevirtual 134, 3) := by decide +kernel
theorem dX10_readLineOf_32 : decode cX10_readLineOf 32 = .ok (.goto 168, 3) := by decide +kernel
theorem dX10_readLineOf_35 : decode cX10_readLineOf 35 = .ok (.aload_n 0, 1) := by decide +kernel
theorem dX10_readLineOf_36 : decode cX10_readLineOf 36 = .ok (.getfield 20, 3) := by decide +kernel
theorem dX10_readLineOf_39 : decode cX10_readLineOf 39 = .ok (.bipush 36, 2) := by decide +kernel
theorem dX10_readLineOf_41 : decode cX10_readLineOf 41 = .ok (.aload_n 0, 1) := by decide +kernel
theorem dX10_readLineOf_42 : decode cX10_readLineOf 42 = .ok (.iconst 0, 1) := by decide +kernel
theorem dX10_readLineOf_43 : decode cX10_readLineOf 43 = .ok (.bipush 23, 2) := by decide +kernel
theorem dX10_readLineOf_45 : decode cX10_readLineOf 45 = .ok (.invokevirtual 137, 3) := by decide +kernel
theorem dX10_readLineOf_48 : decode cX10_readLineOf 48 = .ok (.iastore, 1) := by decide +kernel
theorem dX10_readLineOf_49 : decode cX10_readLineOf 49 = .ok (.goto 151, 3) := by decide +kernel
theorem dX10_readLineOf_52 : decode cX10_readLineOf 52 = .ok (.aload_n 0, 1) := by decide +kernel
theorem dX10_readLineOf_53 : decode cX10_readLineOf 53 = .ok (.getfield 20, 3) := by decide +kernel
theorem dX10_readLineOf_56 : decode cX10_readLineOf 56 = .ok (.bipush 6, 2) := by decide +kernel
theorem dX10_readLineOf_58 : decode cX10_readLineOf 58 = .ok (.aload_n 0, 1) := by decide +kernel
theorem dX10_readLineOf_59 : decode cX10_readLineOf 59 = .ok (.getfield 20, 3) := by decide +kernel
theorem dX10_readLineOf_62 : decode cX10_readLineOf 62 = .ok (.bipush 30, 2) := by decide +kernel
theorem dX10_readLineOf_64 : decode cX10_readLineOf 64 = .ok (.iaload, 1) := by decide +kernel
theorem dX10_readLineOf_65 : decode cX10_readLineOf 65 = .ok (.imul, 1) := by decide +kernel
theorem dX10_readLineOf_66 : decode cX10_readLineOf 66 = .ok (.iconst 0, 1) := by decide +kernel
theorem dX10_readLineOf_67 : decode cX10_readLineOf 67 = .ok (.iadd, 1) := by decide +kernel
theorem dX10_readLineOf_68 : decode cX10_readLineOf 68 = .ok (.iload_n 1, 1) := by decide +kernel
theorem dX10_readLineOf_69 : decode cX10_readLineOf 69 = .ok (.iastore, 1) := by decide +kernel
theorem dX10_readLineOf_70 : decode cX10_readLineOf 70 = .ok (.aload_n 0, 1) := by decide +kernel
theorem dX10_readLineOf_71 : decode cX10_readLineOf 71 = .ok (.getfield 20, 3) := by decide +kernel
theorem dX10_readLineOf_74 : decode cX10_readLineOf 74 = .ok (.bipush 6, 2) := by decide +kernel
theorem dX10_readLineOf_76 : decode cX10_readLineOf 76 = .ok (.aload_n 0, 1) := by decide +kernel
theorem dX10_readLineOf_77 : decode cX10_readLineOf 77 = .ok (.getfield 20, 3) := by decide +kernel
theorem dX10_readLineOf_80 : decode cX10_readLineOf 80 = .ok (.bipush 30, 2) := by decide +kernel
theorem dX10_readLineOf_82 : decode cX10_readLineOf 82 = .ok (.iaload, 1) := by decide +kernel
theorem dX10_readLineOf_83 : decode cX10_readLineOf 83 = .ok (.imul, 1) := by decide +kernel
theorem dX10_readLineOf_84 : decode cX10_readLineOf 84 = .ok (.iconst 1, 1) := by decide +kernel
theorem dX10_readLineOf_85 : decode cX10_readLineOf 85 = .ok (.iadd, 1) := by decide +kernel
theorem dX10_readLineOf_86 : decode cX10_readLineOf 86 = .ok (.aload_n 0, 1) := by decide +kernel
theorem dX10_readLineOf_87 : decode cX10_readLineOf 87 = .ok (.iconst 1, 1) := by decide +kernel
theorem dX10_readLineOf_88 : decode cX10_readLineOf 88 = .ok (.bipush 12, 2) := by decide +kernel
theorem dX10_readLineOf_90 : decode cX10_readLineOf 90 = .ok (.invokevirtual 137, 3) := by decide +kernel
theorem dX10_readLineOf_93 : decode cX10_readLineOf 93 = .ok (.iastore, 1) := by decide +kernel
theorem dX10_readLineOf_94 : decode cX10_readLineOf 94 = .ok (.aload_n 0, 1) := by decide +kernel
theorem dX10_readLineOf_95 : decode cX10_readLineOf 95 = .ok (.getfield 20, 3) := by decide +kernel
theorem dX10_readLineOf_98 : decode cX10_readLineOf 98 = .ok (.bipush 6, 2) := by decide +kernel
theorem dX10_readLineOf_100 : decode cX10_readLineOf 100 = .ok (.aload_n 0, 1) := by decide +kernel
theorem dX10_readLineOf_101 : decode cX10_readLineOf 101 = .ok (.getfield 20, 3) := by decide +kernel
theorem dX10_readLineOf_104 : decode cX10_readLineOf 104 = .ok (.bipush 30, 2) := by decide +kernel
theorem dX10_readLineOf_106 : decode cX10_readLineOf 106 = .ok (.iaload, 1) := by decide +kernel
theorem dX10_readLineOf_107 : decode cX10_readLineOf 107 = .ok (.imul, 1) := by decide +kernel
theorem dX10_readLineOf_108 : decode cX10_readLineOf 108 = .ok (.iconst 2, 1) := by decide +kernel
theorem dX10_readLineOf_109 : decode cX10_readLineOf 109 = .ok (.iadd, 1) := by decide +kernel
theorem dX10_readLineOf_110 : decode cX10_readLineOf 110 = .ok (.aload_n 0, 1) := by decide +kernel
theorem dX10_readLineOf_111 : decode cX10_readLineOf 111 = .ok (.iconst 0, 1) := by decide +kernel
theorem dX10_readLineOf_112 : decode cX10_readLineOf 112 = .ok (.bipush 23, 2) := by decide +kernel
theorem dX10_readLineOf_114 : decode cX10_readLineOf 114 = .ok (.invokevirtual 137, 3) := by decide +kernel
theorem dX10_readLineOf_117 : decode cX10_readLineOf 117 = .ok (.iastore, 1) := by decide +kernel
theorem dX10_readLineOf_118 : decode cX10_readLineOf 118 = .ok (.aload_n 0, 1) := by decide +kernel
theorem dX10_readLineOf_119 : decode cX10_readLineOf 119 = .ok (.getfield 20, 3) := by decide +kernel
theorem dX10_readLineOf_122 : decode cX10_readLineOf 122 = .ok (.bipush 6, 2) := by decide +kernel
theorem dX10_readLineOf_124 : decode cX10_readLineOf 124 = .ok (.aload_n 0, 1) := by decide +kernel
theorem dX10_readLineOf_125 : decode cX10_readLineOf 125 = .ok (.getfield 20, 3) := by decide +kernel
theorem dX10_readLineOf_128 : decode cX10_readLineOf 128 = .ok (.bipush 30, 2) := by decide +kernel
theorem dX10_readLineOf_130 : decode cX10_readLineOf 130 = .ok (.iaload, 1) := by decide +kernel
theorem dX10_readLineOf_131 : decode cX10_readLineOf 131 = .ok (.imul, 1) := by decide +kernel
theorem dX10_readLineOf_132 : decode cX10_readLineOf 132 = .ok (.iconst 3, 1) := by decide +kernel
theorem dX10_readLineOf_133 : decode cX10_readLineOf 133 = .ok (.iadd, 1) := by decide +kernel
theorem dX10_readLineOf_134 : decode cX10_readLineOf 134 = .ok (.aload_n 0, 1) := by decide +kernel
theorem dX10_readLineOf_135 : decode cX10_readLineOf 135 = .ok (.iconst 1, 1) := by decide +kernel
theorem dX10_readLineOf_136 : decode cX10_readLineOf 136 = .ok (.bipush 9, 2) := by decide +kernel
theorem dX10_readLineOf_138 : decode cX10_readLineOf 138 = .ok (.invokevirtual 137, 3) := by decide +kernel
theorem dX10_readLineOf_141 : decode cX10_readLineOf 141 = .ok (.iastore, 1) := by decide +kernel
theorem dX10_readLineOf_142 : decode cX10_readLineOf 142 = .ok (.aload_n 0, 1) := by decide +kernel
theorem dX10_readLineOf_143 : decode cX10_readLineOf 143 = .ok (.getfield 20, 3) := by decide +kernel
theorem dX10_readLineOf_146 : decode cX10_readLineOf 146 = .ok (.bipush 6, 2) := by decide +kernel
theorem dX10_readLineOf_148 : decode cX10_readLineOf 148 = .ok (.aload_n 0, 1) := by decide +kernel
theorem dX10_readLineOf_149 : decode cX10_readLineOf 149 = .ok (.getfield 20, 3) := by decide +kernel
theorem dX10_readLineOf_152 : decode cX10_readLineOf 152 = .ok (.bipush 30, 2) := by decide +kernel
theorem dX10_readLineOf_154 : decode cX10_readLineOf 154 = .ok (.iaload, 1) := by decide +kernel
theorem dX10_readLineOf_155 : decode cX10_readLineOf 155 = .ok (.imul, 1) := by decide +kernel
theorem dX10_readLineOf_156 : decode cX10_readLineOf 156 = .ok (.iconst 4, 1) := by decide +kernel
theorem dX10_readLineOf_157 : decode cX10_readLineOf 157 = .ok (.iadd, 1) := by decide +kernel
theorem dX10_readLineOf_158 : decode cX10_readLineOf 158 = .ok (.aload_n 0, 1) := by decide +kernel
theorem dX10_readLineOf_159 : decode cX10_readLineOf 159 = .ok (.iconst 0, 1) := by decide +kernel
theorem dX10_readLineOf_160 : decode cX10_readLineOf 160 = .ok (.bipush 23, 2) := by decide +kernel
theorem dX10_readLineOf_162 : decode cX10_readLineOf 162 = .ok (.invokevirtual 137, 3) := by decide +kernel
theorem dX10_readLineOf_165 : decode cX10_readLineOf 165 = .ok (.iastore, 1) := by decide +kernel
theorem dX10_readLineOf_166 : decode cX10_readLineOf 166 = .ok (.aload_n 0, 1) := by decide +kernel
theorem dX10_readLineOf_167 : decode cX10_readLineOf 167 = .ok (.getfield 20, 3) := by decide +kernel
theorem dX10_readLineOf_170 : decode cX10_readLineOf 170 = .ok (.bipush 6, 2) := by decide +kernel
theorem dX10_readLineOf_172 : decode cX10_readLineOf 172 = .ok (.aload_n 0, 1) := by decide +kernel
theorem dX10_readLineOf_173 : decode cX10_readLineOf 173 = .ok (.getfield 20, 3) := by decide +kernel
theorem dX10_readLineOf_176 : decode cX10_readLineOf 176 = .ok (.bipush 30, 2) := by decide +kernel
theorem dX10_readLineOf_178 : decode cX10_readLineOf 178 = .ok (.iaload, 1) := by decide +kernel
theorem dX10_readLineOf_179 : decode cX10_readLineOf 179 = .ok (.imul, 1) := by decide +kernel
theorem dX10_readLineOf_180 : decode cX10_readLineOf 180 = .ok (.iconst 5, 1) := by decide +kernel
theorem dX10_readLineOf_181 : decode cX10_readLineOf 181 = .ok (.iadd, 1) := by decide +kernel
theorem dX10_readLineOf_182 : decode cX10_readLineOf 182 = .ok (.aload_n 0, 1) := by decide +kernel
theorem dX10_readLineOf_183 : decode cX10_readLineOf 183 = .ok (.iconst 0, 1) := by decide +kernel
theorem dX10_readLineOf_184 : decode cX10_readLineOf 184 = .ok (.iconst 4, 1) := by decide +kernel
theorem dX10_readLineOf_185 : decode cX10_readLineOf 185 = .ok (.invokevirtual 137, 3) := by decide +kernel
theorem dX10_readLineOf_188 : decode cX10_readLineOf 188 = .ok (.iastore, 1) := by decide +kernel
theorem dX10_readLineOf_189 : decode cX10_readLineOf 189 = .ok (.aload_n 0, 1) := by decide +kernel
theorem dX10_readLineOf_190 : decode cX10_readLineOf 190 = .ok (.getfield 20, 3) := by decide +kernel
theorem dX10_readLineOf_193 : decode cX10_readLineOf 193 = .ok (.bipush 30, 2) := by decide +kernel
theorem dX10_readLineOf_195 : decode cX10_readLineOf 195 = .ok (.dup2, 1) := by decide +kernel
theorem dX10_readLineOf_196 : decode cX10_readLineOf 196 = .ok (.iaload, 1) := by decide +kernel
theorem dX10_readLineOf_197 : decode cX10_readLineOf 197 = .ok (.iconst 1, 1) := by decide +kernel
theorem dX10_readLineOf_198 : decode cX10_readLineOf 198 = .ok (.iadd, 1) := by decide +kernel
theorem dX10_readLineOf_199 : decode cX10_readLineOf 199 = .ok (.iastore, 1) := by decide +kernel
theorem dX10_readLineOf_200 : decode cX10_readLineOf 200 = .ok (.return_, 1) := by decide +kernel
set_option maxRecDepth 20000 in
theorem ggX10_readLine_X10_lineNow : GoodIn wsX10_readLine wsX10_lineNow := goodIn_r _ [10, 11, 12, 13, 9, 14, 15, 16, 17, 18, 19, 20, 21, 22, 23, 24, 25, 26, 64, 65, 66, 67, 68, 69, 70, 71, 72, 73, 74, 75, 76, 77, 78, 79, 80, 81, 82, 83, 84, 85, 86, 87, 88, 89, 90, 91, 92, 93] (by decide +kernel) (by decide +kernel)
set_option maxRecDepth 20000 in
theorem gX10_readLine_X10_lineNow : GoodIn wsX10_readLine (wsV RX10 140 RX10 yX10_lineNow wsX10_lineNow) := goodIn_app (goodIn_of _ (by decide +kernel)) ggX10_readLine_X10_lineNow
set_option maxRecDepth 20000 in
theorem ggX10_readLine_X10_needs : GoodIn wsX10_readLine wsX10_needs := goodIn_r _ [30, 5, 16, 31, 64, 65, 66, 67, 68, 69, 70, 71, 72, 73, 74, 75, 76, 77, 78, 79, 80, 81, 82, 83, 84, 85, 86, 87, 88, 89, 90, 91, 92, 93] (by decide +kernel) (by decide +kernel)
set_option maxRecDepth 20000 in
theorem gX10_readLine_X10_needs : GoodIn wsX10_readLine (wsV RX10 123 RX10 yX10_needs wsX10_needs) := goodIn_app (goodIn_of _ (by decide +kernel)) ggX10_readLine_X10_needs
set_option maxRecDepth 20000 in
theorem ggX10_readLine_X10_takes : GoodIn wsX10_readLine wsX10_takes := goodIn_r _ [35, 5, 15, 16, 1, 36, 37, 38, 39, 40, 17, 18, 19, 9, 20, 21, 22, 41, 42, 43, 27, 28, 29, 30, 31, 64, 65, 66, 67, 68, 69, 70, 71, 72, 73, 74, 75, 76, 77, 78, 79, 80, 81, 82, 83, 84, 85, 86, 87, 88, 89, 90, 91, 92, 93] (by decide +kernel) (by decide +kernel)
set_option maxRecDepth 20000 in
theorem gX10_readLine_X10_takes : GoodIn wsX10_readLine (wsV RX10 131 RX10 yX10_takes wsX10_takes) := goodIn_app (goodIn_of _ (by decide +kernel)) ggX10_readLine_X10_takes
set_option maxRecDepth 20000 in
theorem ggX10_readLine_X10_readLineOf : GoodIn wsX10_readLine wsX10_readLineOf := goodIn_r _ [47, 2, 48, 49, 50, 9, 51, 5, 1, 52, 53, 54, 55, 56, 57, 58, 59, 40, 27, 28, 29, 30, 16, 31, 41, 42, 43, 32, 33, 34, 35, 15, 36, 37, 38, 39, 17, 18, 19, 20, 21, 22, 60, 61, 62, 63, 64, 65, 66, 67, 68, 69, 70, 71, 72, 73, 74, 75, 76, 77, 78, 79, 80, 81, 82, 83, 84, 85, 86, 87, 88, 89, 90, 91, 92, 93] (by decide +kernel) (by decide +kernel)
set_option maxRecDepth 20000 in
theorem gX10_readLine_X10_readLineOf : GoodIn wsX10_readLine (wsV RX10 144 RX10 yX10_readLineOf wsX10_readLineOf) := goodIn_app (goodIn_of _ (by decide +kernel)) ggX10_readLine_X10_readLineOf
theorem dX10_readLine_0 : decode cX10_readLine 0 = .ok (.aload_n 0, 1) := by decide +kernel
theorem dX10_readLine_1 : decode cX10_readLine 1 = .ok (.getfield 109, 3) := by decide +kernel
theorem dX10_readLine_4 : decode cX10_readLine 4 = .ok (.iconst 1, 1) := by decide +kernel
theorem dX10_readLine_5 : decode cX10_readLine 5 = .ok (.if_icmp .ne 10, 3) := by decide +kernel
theorem dX10_readLine_8 : decode cX10_readLine 8 = .ok (.aload_n 0, 1) := by decide +kernel
theorem dX10_readLine_9 : decode cX10_readLine 9 = .ok (.invokevirtual 140, 3) := by decide +kernel
theorem dX10_readLine_12 : decode cX10_readLine 12 = .ok (.goto 5, 3) := by decide +kernel
theorem dX10_readLine_15 : decode cX10_readLine 15 = .ok (.bipush (-4), 2) := by decide +kernel
theorem dX10_readLine_17 : decode cX10_readLine 17 = .ok (.istore_n 1, 1) := by decide +kernel
theorem dX10_readLine_18 : decode cX10_readLine 18 = .ok (.aload_n 0, 1) := by decide +kernel
theorem dX10_readLine_19 : decode cX10_readLine 19 = .ok (.iload_n 1, 1) := by decide +kernel
theorem dX10_readLine_20 : decode cX10_readLine 20 = .ok (.bipush (-4), 2) := by decide +kernel
theorem dX10_readLine_22 : decode cX10_readLine 22 = .ok (.if_icmp .eq 7, 3) := by decide +kernel
theorem dX10_readLine_25 : decode cX10_readLine 25 = .ok (.iconst 1, 1) := by decide +kernel
theorem dX10_readLine_26 : decode cX10_readLine 26 = .ok (.goto 4, 3) := by decide +kernel
theorem dX10_readLine_29 : decode cX10_readLine 29 = .ok (.iconst 0, 1) := by decide +kernel
theorem dX10_readLine_30 : decode cX10_readLine 30 = .ok (.iconst 2, 1) := by decide +kernel
theorem dX10_readLine_31 : decode cX10_readLine 31 = .ok (.invokevirtual 123, 3) := by decide +kernel
theorem dX10_readLine_34 : decode cX10_readLine 34 = .ok (.aload_n 0, 1) := by decide +kernel
theorem dX10_readLine_35 : decode cX10_readLine 35 = .ok (.iload_n 1, 1) := by decide +kernel
theorem dX10_readLine_36 : decode cX10_readLine 36 = .ok (.iconst 4, 1) := by decide +kernel
theorem dX10_readLine_37 : decode cX10_readLine 37 = .ok (.if_icmp .ge 14, 3) := by decide +kernel
theorem dX10_readLine_40 : decode cX10_readLine 40 = .ok (.aload_n 0, 1) := by decide +kernel
theorem dX10_readLine_41 : decode cX10_readLine 41 = .ok (.getfield 20, 3) := by decide +kernel
theorem dX10_readLine_44 : decode cX10_readLine 44 = .ok (.bipush 30, 2) := by decide +kernel
theorem dX10_readLine_46 : decode cX10_readLine 46 = .ok (.iaload, 1) := by decide +kernel
theorem dX10_readLine_47 : decode cX10_readLine 47 = .ok (.iconst 5, 1) := by decide +kernel
theorem dX10_readLine_48 : decode cX10_readLine 48 = .ok (.if_icmp .ge 7, 3) := by decide +kernel
theorem dX10_readLine_51 : decode cX10_readLine 51 = .ok (.iconst 1, 1) := by decide +kernel
theorem dX10_readLine_52 : decode cX10_readLine 52 = .ok (.goto 4, 3) := by decide +kernel
theorem dX10_readLine_55 : decode cX10_readLine 55 = .ok (.iconst 0, 1) := by decide +kernel
theorem dX10_readLine_56 : decode cX10_readLine 56 = .ok (.iconst 5, 1) := by decide +kernel
theorem dX10_readLine_57 : decode cX10_readLine 57 = .ok (.invokevirtual 123, 3) := by decide +kernel
theorem dX10_readLine_60 : decode cX10_readLine 60 = .ok (.aload_n 0, 1) := by decide +kernel
theorem dX10_readLine_61 : decode cX10_readLine 61 = .ok (.iload_n 1, 1) := by decide +kernel
theorem dX10_readLine_62 : decode cX10_readLine 62 = .ok (.iconst 4, 1) := by decide +kernel
theorem dX10_readLine_63 : decode cX10_readLine 63 = .ok (.if_icmp .ne 10, 3) := by decide +kernel
theorem dX10_readLine_66 : decode cX10_readLine 66 = .ok (.aload_n 0, 1) := by decide +kernel
theorem dX10_readLine_67 : decode cX10_readLine 67 = .ok (.getfield 59, 3) := by decide +kernel
theorem dX10_readLine_70 : decode cX10_readLine 70 = .ok (.ifCond .ne 7, 3) := by decide +kernel
theorem dX10_readLine_73 : decode cX10_readLine 73 = .ok (.iconst 1, 1) := by decide +kernel
theorem dX10_readLine_74 : decode cX10_readLine 74 = .ok (.goto 4, 3) := by decide +kernel
theorem dX10_readLine_77 : decode cX10_readLine 77 = .ok (.iconst 0, 1) := by decide +kernel
theorem dX10_readLine_78 : decode cX10_readLine 78 = .ok (.iconst 4, 1) := by decide +kernel
theorem dX10_readLine_79 : decode cX10_readLine 79 = .ok (.invokevirtual 123, 3) := by decide +kernel
theorem dX10_readLine_82 : decode cX10_readLine 82 = .ok (.aload_n 0, 1) := by decide +kernel
theorem dX10_readLine_83 : decode cX10_readLine 83 = .ok (.iload_n 1, 1) := by decide +kernel
theorem dX10_readLine_84 : decode cX10_readLine 84 = .ok (.iconst 5, 1) := by decide +kernel
theorem dX10_readLine_85 : decode cX10_readLine 85 = .ok (.if_icmp .ne 10, 3) := by decide +kernel
theorem dX10_readLine_88 : decode cX10_readLine 88 = .ok (.aload_n 0, 1) := by decide +kernel
theorem dX10_readLine_89 : decode cX10_readLine 89 = .ok (.getfield 63, 3) := by decide +kernel
theorem dX10_readLine_92 : decode cX10_readLine 92 = .ok (.ifCond .ne 7, 3) := by decide +kernel
theorem dX10_readLine_95 : decode cX10_readLine 95 = .ok (.iconst 1, 1) := by decide +kernel
theorem dX10_readLine_96 : decode cX10_readLine 96 = .ok (.goto 4, 3) := by decide +kernel
theorem dX10_readLine_99 : decode cX10_readLine 99 = .ok (.iconst 0, 1) := by decide +kernel
theorem dX10_readLine_100 : decode cX10_readLine 100 = .ok (.iconst 4, 1) := by decide +kernel
theorem dX10_readLine_101 : decode cX10_readLine 101 = .ok (.invokevirtual 123, 3) := by decide +kernel
theorem dX10_readLine_104 : decode cX10_readLine 104 = .ok (.aload_n 0, 1) := by decide +kernel
theorem dX10_readLine_105 : decode cX10_readLine 105 = .ok (.aload_n 0, 1) := by decide +kernel
theorem dX10_readLine_106 : decode cX10_readLine 106 = .ok (.getfield 59, 3) := by decide +kernel
theorem dX10_readLine_109 : decode cX10_readLine 109 = .ok (.ifCond .ne 8, 3) := by decide +kernel
theorem dX10_readLine_112 : decode cX10_readLine 112 = .ok (.iload_n 1, 1) := by decide +kernel
theorem dX10_readLine_113 : decode cX10_readLine 113 = .ok (.iconst 4, 1) := by decide +kernel
theorem dX10_readLine_114 : decode cX10_readLine 114 = .ok (.if_icmp .ne 7, 3) := by decide +kernel
theorem dX10_readLine_117 : decode cX10_readLine 117 = .ok (.iconst 1, 1) := by decide +kernel
theorem dX10_readLine_118 : decode cX10_readLine 118 = .ok (.goto 4, 3) := by decide +kernel
theorem dX10_readLine_121 : decode cX10_readLine 121 = .ok (.iconst 0, 1) := by decide +kernel
theorem dX10_readLine_122 : decode cX10_readLine 122 = .ok (.putfield 59, 3) := by decide +kernel
theorem dX10_readLine_125 : decode cX10_readLine 125 = .ok (.aload_n 0, 1) := by decide +kernel
theorem dX10_readLine_126 : decode cX10_readLine 126 = .ok (.aload_n 0, 1) := by decide +kernel
theorem dX10_readLine_127 : decode cX10_readLine 127 = .ok (.getfield 63, 3) := by decide +kernel
theorem dX10_readLine_130 : decode cX10_readLine 130 = .ok (.ifCond .ne 8, 3) := by decide +kernel
theorem dX10_readLine_133 : decode cX10_readLine 133 = .ok (.iload_n 1, 1) := by decide +kernel
theorem dX10_readLine_134 : decode cX10_readLine 134 = .ok (.iconst 5, 1) := by decide +kernel
theorem dX10_readLine_135 : decode cX10_readLine 135 = .ok (.if_icmp .ne 7, 3) := by decide +kernel
theorem dX10_readLine_138 : decode cX10_readLine 138 = .ok (.iconst 1, 1) := by decide +kernel
theorem dX10_readLine_139 : decode cX10_readLine 139 = .ok (.goto 4, 3) := by decide +kernel
theorem dX10_readLine_142 : decode cX10_readLine 142 = .ok (.iconst 0, 1) := by decide +kernel
theorem dX10_readLine_143 : decode cX10_readLine 143 = .ok (.putfield 63, 3) := by decide +kernel
theorem dX10_readLine_146 : decode cX10_readLine 146 = .ok (.aload_n 0, 1) := by decide +kernel
theorem dX10_readLine_147 : decode cX10_readLine 147 = .ok (.invokevirtual 131, 3) := by decide +kernel
theorem dX10_readLine_150 : decode cX10_readLine 150 = .ok (.aload_n 0, 1) := by decide +kernel
theorem dX10_readLine_151 : decode cX10_readLine 151 = .ok (.getfield 85, 3) := by decide +kernel
theorem dX10_readLine_154 : decode cX10_readLine 154 = .ok (.ifCond .le 4, 3) := by decide +kernel
theorem dX10_readLine_157 : decode cX10_readLine 157 = .ok (.return_, 1) := by decide +kernel
theorem dX10_readLine_158 : decode cX10_readLine 158 = .ok (.aload_n 0, 1) := by decide +kernel
theorem dX10_readLine_159 : decode cX10_readLine 159 = .ok (.iload_n 1, 1) := by decide +kernel
theorem dX10_readLine_160 : decode cX10_readLine 160 = .ok (.invokevirtual 144, 3) := by decide +kernel
theorem dX10_readLine_163 : decode cX10_readLine 163 = .ok (.aload_n 0, 1) := by decide +kernel
theorem dX10_readLine_164 : decode cX10_readLine 164 = .ok (.getfield 85, 3) := by decide +kernel
theorem dX10_readLine_167 : decode cX10_readLine 167 = .ok (.ifCond .ne 21, 3) := by decide +kernel
theorem dX10_readLine_170 : decode cX10_readLine 170 = .ok (.aload_n 0, 1) := by decide +kernel
theorem dX10_readLine_171 : decode cX10_readLine 171 = .ok (.aload_n 0, 1) := by decide +kernel
theorem dX10_readLine_172 : decode cX10_readLine 172 = .ok (.getfield 109, 3) := by decide +kernel
theorem dX10_readLine_175 : decode cX10_readLine 175 = .ok (.iconst 3, 1) := by decide +kernel
theorem dX10_readLine_176 : decode cX10_readLine 176 = .ok (.if_icmp .ne 7, 3) := by decide +kernel
theorem dX10_readLine_179 : decode cX10_readLine 179 = .ok (.iconst 1, 1) := by decide +kernel
theorem dX10_readLine_180 : decode cX10_readLine 180 = .ok (.goto 4, 3) := by decide +kernel
theorem dX10_readLine_183 : decode cX10_readLine 183 = .ok (.iconst 0, 1) := by decide +kernel
theorem dX10_readLine_184 : decode cX10_readLine 184 = .ok (.iconst 2, 1) := by decide +kernel
theorem dX10_readLine_185 : decode cX10_readLine 185 = .ok (.invokevirtual 123, 3) := by decide +kernel
theorem dX10_readLine_188 : decode cX10_readLine 188 = .ok (.aload_n 0, 1) := by decide +kernel
theorem dX10_readLine_189 : decode cX10_readLine 189 = .ok (.invokevirtual 131, 3) := by decide +kernel
theorem dX10_readLine_192 : decode cX10_readLine 192 = .ok (.return_, 1) := by decide +kernel
set_option maxRecDepth 20000 in
theorem ggX10_text_X10_firstDraft : GoodIn wsX10_text wsX10_firstDraft := goodIn_r _ [12, 5, 13, 14, 15, 16, 4, 78, 79, 80, 81, 82, 83, 84, 85, 86, 87, 88, 89, 90, 91, 92, 93, 94, 95, 96, 97, 98, 99, 100, 101, 102, 103, 104, 105, 106, 107] (by decide +kernel) (by decide +kernel)
set_option maxRecDepth 20000 in
theorem gX10_text_X10_firstDraft : GoodIn wsX10_text (wsV RX10 53 RX10 yX10_firstDraft wsX10_firstDraft) := goodIn_app (goodIn_of _ (by decide +kernel)) ggX10_text_X10_firstDraft
set_option maxRecDepth 20000 in
theorem ggX10_text_X10_takes : GoodIn wsX10_text wsX10_takes := goodIn_r _ [20, 1, 2, 21, 3, 22, 23, 24, 25, 26, 27, 28, 29, 11, 30, 6, 31, 32, 33, 34, 35, 36, 37, 38, 7, 78, 79, 80, 81, 82, 83, 84, 85, 86, 87, 88, 89, 90, 91, 92, 93, 94, 95, 96, 97, 98, 99, 100, 101, 102, 103, 104, 105, 106, 107] (by decide +kernel) (by decide +kernel)
set_option maxRecDepth 20000 in
theorem gX10_text_X10_takes : GoodIn wsX10_text (wsV RX10 131 RX10 yX10_takes wsX10_takes) := goodIn_app (goodIn_of _ (by decide +kernel)) ggX10_text_X10_takes
set_option maxRecDepth 20000 in
theorem ggX10_text_X10_readLine : GoodIn wsX10_text wsX10_readLine := goodIn_r _ [42, 3, 5, 13, 14, 1, 43, 44, 45, 11, 46, 47, 48, 49, 50, 2, 21, 27, 28, 29, 30, 6, 31, 51, 52, 53, 54, 35, 36, 37, 38, 7, 17, 18, 19, 20, 22, 23, 24, 25, 26, 32, 33, 34, 55, 56, 57, 58, 59, 60, 61, 62, 15, 63, 16, 4, 64, 65, 66, 67, 68, 69, 70, 71, 78, 79, 80, 81, 82, 83, 84, 85, 86, 87, 88, 89, 90, 91, 92, 93, 94, 95, 96, 97, 98, 99, 100, 101, 102, 103, 104, 105, 106, 107] (by decide +kernel) (by decide +kernel)
set_option maxRecDepth 20000 in
theorem gX10_text_X10_readLine : GoodIn wsX10_text (wsV RX10 148 RX10 yX10_readLine wsX10_readLine) := goodIn_app (goodIn_of _ (by decide +kernel)) ggX10_text_X10_readLine
set_option maxRecDepth 20000 in
theorem ggX10_text_X10_needs : GoodIn wsX10_text wsX10_needs := goodIn_r _ [38, 1, 21, 7, 78, 79, 80, 81, 82, 83, 84, 85, 86, 87, 88, 89, 90, 91, 92, 93, 94, 95, 96, 97, 98, 99, 100, 101, 102, 103, 104, 105, 106, 107] (by decide +kernel) (by decide +kernel)
set_option maxRecDepth 20000 in
theorem gX10_text_X10_needs : GoodIn wsX10_text (wsV RX10 123 RX10 yX10_needs wsX10_needs) := goodIn_app (goodIn_of _ (by decide +kernel)) ggX10_text_X10_needs
set_option maxRecDepth 20000 in
theorem ggX10_text_X10_keepDraft : GoodIn wsX10_text wsX10_keepDraft := goodIn_r _ [75, 76, 5, 16, 63, 15, 77, 78, 79, 80, 81, 82, 83, 84, 85, 86, 87, 88, 89, 90, 91, 92, 93, 94, 95, 96, 97, 98, 99, 100, 101, 102, 103, 104, 105, 106, 107] (by decide +kernel) (by decide +kernel)
set_option maxRecDepth 20000 in
theorem gX10_text_X10_keepDraft : GoodIn wsX10_text (wsV RX10 56 RX10 yX10_keepDraft wsX10_keepDraft) := goodIn_app (goodIn_of _ (by decide +kernel)) ggX10_text_X10_keepDraft
theorem dX10_text_0 : decode cX10_text 0 = .ok (.iconst 0, 1) := by decide +kernel
theorem dX10_text_1 : decode cX10_text 1 = .ok (.istore_n 1, 1) := by decide +kernel
theorem dX10_text_2 : decode cX10_text 2 = .ok (.aload_n 0, 1) := by decide +kernel
theorem dX10_text_3 : decode cX10_text 3 = .ok (.iconst 0, 1) := by decide +kernel
theorem dX10_text_4 : decode cX10_text 4 = .ok (.putfield 85, 3) := by decide +kernel
theorem dX10_text_7 : decode cX10_text 7 = .ok (.aload_n 0, 1) := by decide +kernel
theorem dX10_text_8 : decode cX10_text 8 = .ok (.iconst 0, 1) := by decide +kernel
theorem dX10_text_9 : decode cX10_text 9 = .ok (.putfield 94, 3) := by decide +kernel
theorem dX10_text_12 : decode cX10_text 12 = .ok (.aload_n 0, 1) := by decide +kernel
theorem dX10_text_13 : decode cX10_text 13 = .ok (.invokevirtual 53, 3) := by decide +kernel
theorem dX10_text_16 : decode cX10_text 16 = .ok (.aload_n 0, 1) := by decide +kernel
theorem dX10_text_17 : decode cX10_text 17 = .ok (.invokevirtual 131, 3) := by decide +kernel
theorem dX10_text_20 : decode cX10_text 20 = .ok (.aload_n 0, 1) := by decide +kernel
theorem dX10_text_21 : decode cX10_text 21 = .ok (.getfield 85, 3) := by decide +kernel
theorem dX10_text_24 : decode cX10_text 24 = .ok (.ifCond .ne 20, 3) := by decide +kernel
theorem dX10_text_27 : decode cX10_text 27 = .ok (.aload_n 0, 1) := by decide +kernel
theorem dX10_text_28 : decode cX10_text 28 = .ok (.getfield 109, 3) := by decide +kernel
theorem dX10_text_31 : decode cX10_text 31 = .ok (.ifCond .eq 13, 3) := by decide +kernel
theorem dX10_text_34 : decode cX10_text 34 = .ok (.aload_n 0, 1) := by decide +kernel
theorem dX10_text_35 : decode cX10_text 35 = .ok (.invokevirtual 148, 3) := by decide +kernel
theorem dX10_text_38 : decode cX10_text 38 = .ok (.iinc 1 1, 3) := by decide +kernel
theorem dX10_text_41 : decode cX10_text 41 = .ok (.goto (-21), 3) := by decide +kernel
theorem dX10_text_44 : decode cX10_text 44 = .ok (.aload_n 0, 1) := by decide +kernel
theorem dX10_text_45 : decode cX10_text 45 = .ok (.getfield 85, 3) := by decide +kernel
theorem dX10_text_48 : decode cX10_text 48 = .ok (.ifCond .ne 28, 3) := by decide +kernel
theorem dX10_text_51 : decode cX10_text 51 = .ok (.aload_n 0, 1) := by decide +kernel
theorem dX10_text_52 : decode cX10_text 52 = .ok (.aload_n 0, 1) := by decide +kernel
theorem dX10_text_53 : decode cX10_text 53 = .ok (.getfield 73, 3) := by decide +kernel
theorem dX10_text_56 : decode cX10_text 56 = .ok (.aload_n 0, 1) := by decide +kernel
theorem dX10_text_57 : decode cX10_text 57 = .ok (.getfield 20, 3) := by decide +kernel
theorem dX10_text_60 : decode cX10_text 60 = .ok (.bipush 30, 2) := by decide +kernel
theorem dX10_text_62 : decode cX10_text 62 = .ok (.iaload, 1) := by decide +kernel
theorem dX10_text_63 : decode cX10_text 63 = .ok (.if_icmp .ge 7, 3) := by decide +kernel
theorem dX10_text_66 : decode cX10_text 66 = .ok (.iconst 1, 1) := by decide +kernel
theorem dX10_text_67 : decode cX10_text 67 = .ok (.goto 4, 3) := by decide +kernel
theorem dX10_text_70 : decode cX10_text 70 = .ok (.iconst 0, 1) := by decide +kernel
theorem dX10_text_71 : decode cX10_text 71 = .ok (.bipush 6, 2) := by decide +kernel
theorem dX10_text_73 : decode cX10_text 73 = .ok (.invokevirtual 123, 3) := by decide +kernel
theorem dX10_text_76 : decode cX10_text 76 = .ok (.aload_n 0, 1) := by decide +kernel
theorem dX10_text_77 : decode cX10_text 77 = .ok (.iconst 0, 1) := by decide +kernel
theorem dX10_text_78 : decode cX10_text 78 = .ok (.putfield 82, 3) := by decide +kernel
theorem dX10_text_81 : decode cX10_text 81 = .ok (.aload_n 0, 1) := by decide +kernel
theorem dX10_text_82 : decode cX10_text 82 = .ok (.getfield 85, 3) := by decide +kernel
theorem dX10_text_85 : decode cX10_text 85 = .ok (.ifCond .le 11, 3) := by decide +kernel
theorem dX10_text_88 : decode cX10_text 88 = .ok (.bipush (-10), 2) := by decide +kernel
theorem dX10_text_90 : decode cX10_text 90 = .ok (.aload_n 0, 1) := by decide +kernel
theorem dX10_text_91 : decode cX10_text 91 = .ok (.getfield 91, 3) := by decide +kernel
theorem dX10_text_94 : decode cX10_text 94 = .ok (.isub, 1) := by decide +kernel
theorem dX10_text_95 : decode cX10_text 95 = .ok (.ireturn, 1) := by decide +kernel
theorem dX10_text_96 : decode cX10_text 96 = .ok (.aload_n 0, 1) := by decide +kernel
theorem dX10_text_97 : decode cX10_text 97 = .ok (.invokevirtual 56, 3) := by decide +kernel
theorem dX10_text_100 : decode cX10_text 100 = .ok (.iload_n 1, 1) := by decide +kernel
theorem dX10_text_101 : decode cX10_text 101 = .ok (.ireturn, 1) := by decide +kernel
theorem dX10_fault_0 : decode cX10_fault 0 = .ok (.aload_n 0, 1) := by decide +kernel
theorem dX10_fault_1 : decode cX10_fault 1 = .ok (.getfield 85, 3) := by decide +kernel
theorem dX10_fault_4 : decode cX10_fault 4 = .ok (.ireturn, 1) := by decide +kernel
set_option maxRecDepth 20000 in
theorem ggX10_isBox_X10_in : GoodIn wsX10_isBox wsX10_in := goodIn_r _ [5] (by decide +kernel) (by decide +kernel)
set_option maxRecDepth 20000 in
theorem gX10_isBox_X10_in : GoodIn wsX10_isBox (va_wsS RX10 78 yX10_in wsX10_in) := goodIn_app (goodIn_of _ (by decide +kernel)) ggX10_isBox_X10_in
theorem dX10_isBox_0 : decode cX10_isBox 0 = .ok (.iload_n 1, 1) := by decide +kernel
theorem dX10_isBox_1 : decode cX10_isBox 1 = .ok (.i2l, 1) := by decide +kernel
theorem dX10_isBox_2 : decode cX10_isBox 2 = .ok (.lconst 0, 1) := by decide +kernel
theorem dX10_isBox_3 : decode cX10_isBox 3 = .ok (.aload_n 0, 1) := by decide +kernel
theorem dX10_isBox_4 : decode cX10_isBox 4 = .ok (.getfield 7, 3) := by decide +kernel
theorem dX10_isBox_7 : decode cX10_isBox 7 = .ok (.bipush 30, 2) := by decide +kernel
theorem dX10_isBox_9 : decode cX10_isBox 9 = .ok (.iaload, 1) := by decide +kernel
theorem dX10_isBox_10 : decode cX10_isBox 10 = .ok (.iconst 1, 1) := by decide +kernel
theorem dX10_isBox_11 : decode cX10_isBox 11 = .ok (.isub, 1) := by decide +kernel
theorem dX10_isBox_12 : decode cX10_isBox 12 = .ok (.i2l, 1) := by decide +kernel
theorem dX10_isBox_13 : decode cX10_isBox 13 = .ok (.invokestatic 78, 3) := by decide +kernel
theorem dX10_isBox_16 : decode cX10_isBox 16 = .ok (.ireturn, 1) := by decide +kernel
set_option maxRecDepth 20000 in
theorem ggX10_isHour_X10_in : GoodIn wsX10_isHour wsX10_in := goodIn_r _ [5] (by decide +kernel) (by decide +kernel)
set_option maxRecDepth 20000 in
theorem gX10_isHour_X10_in : GoodIn wsX10_isHour (va_wsS RX10 78 yX10_in wsX10_in) := goodIn_app (goodIn_of _ (by decide +kernel)) ggX10_isHour_X10_in
theorem dX10_isHour_0 : decode cX10_isHour 0 = .ok (.iload_n 0, 1) := by decide +kernel
theorem dX10_isHour_1 : decode cX10_isHour 1 = .ok (.i2l, 1) := by decide +kernel
theorem dX10_isHour_2 : decode cX10_isHour 2 = .ok (.lconst 0, 1) := by decide +kernel
theorem dX10_isHour_3 : decode cX10_isHour 3 = .ok (.ldc2_w 151, 3) := by decide +kernel
theorem dX10_isHour_6 : decode cX10_isHour 6 = .ok (.invokestatic 78, 3) := by decide +kernel
theorem dX10_isHour_9 : decode cX10_isHour 9 = .ok (.ireturn, 1) := by decide +kernel
set_option maxRecDepth 20000 in
theorem ggX10_isRoom_X10_in : GoodIn wsX10_isRoom wsX10_in := goodIn_r _ [5] (by decide +kernel) (by decide +kernel)
set_option maxRecDepth 20000 in
theorem gX10_isRoom_X10_in : GoodIn wsX10_isRoom (va_wsS RX10 78 yX10_in wsX10_in) := goodIn_app (goodIn_of _ (by decide +kernel)) ggX10_isRoom_X10_in
theorem dX10_isRoom_0 : decode cX10_isRoom 0 = .ok (.iload_n 0, 1) := by decide +kernel
theorem dX10_isRoom_1 : decode cX10_isRoom 1 = .ok (.i2l, 1) := by decide +kernel
theorem dX10_isRoom_2 : decode cX10_isRoom 2 = .ok (.lconst 0, 1) := by decide +kernel
theorem dX10_isRoom_3 : decode cX10_isRoom 3 = .ok (.ldc2_w 153, 3) := by decide +kernel
theorem dX10_isRoom_6 : decode cX10_isRoom 6 = .ok (.invokestatic 78, 3) := by decide +kernel
theorem dX10_isRoom_9 : decode cX10_isRoom 9 = .ok (.ireturn, 1) := by decide +kernel
set_option maxRecDepth 20000 in
theorem ggX10_isPart_X10_in : GoodIn wsX10_isPart wsX10_in := goodIn_r _ [4] (by decide +kernel) (by decide +kernel)
set_option maxRecDepth 20000 in
theorem gX10_isPart_X10_in : GoodIn wsX10_isPart (va_wsS RX10 78 yX10_in wsX10_in) := goodIn_app (goodIn_of _ (by decide +kernel)) ggX10_isPart_X10_in
theorem dX10_isPart_0 : decode cX10_isPart 0 = .ok (.iload_n 0, 1) := by decide +kernel
theorem dX10_isPart_1 : decode cX10_isPart 1 = .ok (.i2l, 1) := by decide +kernel
theorem dX10_isPart_2 : decode cX10_isPart 2 = .ok (.lconst 0, 1) := by decide +kernel
theorem dX10_isPart_3 : decode cX10_isPart 3 = .ok (.lconst 1, 1) := by decide +kernel
theorem dX10_isPart_4 : decode cX10_isPart 4 = .ok (.invokestatic 78, 3) := by decide +kernel
theorem dX10_isPart_7 : decode cX10_isPart 7 = .ok (.ireturn, 1) := by decide +kernel
theorem dX10_fetches_0 : decode cX10_fetches 0 = .ok (.iconst 0, 1) := by decide +kernel
theorem dX10_fetches_1 : decode cX10_fetches 1 = .ok (.istore_n 1, 1) := by decide +kernel
theorem dX10_fetches_2 : decode cX10_fetches 2 = .ok (.iload_n 1, 1) := by decide +kernel
theorem dX10_fetches_3 : decode cX10_fetches 3 = .ok (.bipush 56, 2) := by decide +kernel
theorem dX10_fetches_5 : decode cX10_fetches 5 = .ok (.if_icmp .ge 21, 3) := by decide +kernel
theorem dX10_fetches_8 : decode cX10_fetches 8 = .ok (.aload_n 0, 1) := by decide +kernel
theorem dX10_fetches_9 : decode cX10_fetches 9 = .ok (.getfield 13, 3) := by decide +kernel
theorem dX10_fetches_12 : decode cX10_fetches 12 = .ok (.iload_n 1, 1) := by decide +kernel
theorem dX10_fetches_13 : decode cX10_fetches 13 = .ok (.aload_n 0, 1) := by decide +kernel
theorem dX10_fetches_14 : decode cX10_fetches 14 = .ok (.getfield 7, 3) := by decide +kernel
theorem dX10_fetches_17 : decode cX10_fetches 17 = .ok (.iload_n 1, 1) := by decide +kernel
theorem dX10_fetches_18 : decode cX10_fetches 18 = .ok (.iaload, 1) := by decide +kernel
theorem dX10_fetches_19 : decode cX10_fetches 19 = .ok (.iastore, 1) := by decide +kernel
theorem dX10_fetches_20 : decode cX10_fetches 20 = .ok (.iinc 1 1, 3) := by decide +kernel
theorem dX10_fetches_23 : decode cX10_fetches 23 = .ok (.goto (-21), 3) := by decide +kernel
theorem dX10_fetches_26 : decode cX10_fetches 26 = .ok (.return_, 1) := by decide +kernel
theorem dX10_of_0 : decode cX10_of 0 = .ok (.aload_n 0, 1) := by decide +kernel
theorem dX10_of_1 : decode cX10_of 1 = .ok (.getfield 13, 3) := by decide +kernel
theorem dX10_of_4 : decode cX10_of 4 = .ok (.bipush 6, 2) := by decide +kernel
theorem dX10_of_6 : decode cX10_of 6 = .ok (.iload_n 1, 1) := by decide +kernel
theorem dX10_of_7 : decode cX10_of 7 = .ok (.imul, 1) := by decide +kernel
theorem dX10_of_8 : decode cX10_of 8 = .ok (.iload_n 2, 1) := by decide +kernel
theorem dX10_of_9 : decode cX10_of 9 = .ok (.iadd, 1) := by decide +kernel
theorem dX10_of_10 : decode cX10_of 10 = .ok (.iaload, 1) := by decide +kernel
theorem dX10_of_11 : decode cX10_of 11 = .ok (.ireturn, 1) := by decide +kernel
theorem dX10_becomesOf_0 : decode cX10_becomesOf 0 = .ok (.aload_n 0, 1) := by decide +kernel
theorem dX10_becomesOf_1 : decode cX10_becomesOf 1 = .ok (.getfield 13, 3) := by decide +kernel
theorem dX10_becomesOf_4 : decode cX10_becomesOf 4 = .ok (.bipush 6, 2) := by decide +kernel
theorem dX10_becomesOf_6 : decode cX10_becomesOf 6 = .ok (.iload_n 1, 1) := by decide +kernel
theorem dX10_becomesOf_7 : decode cX10_becomesOf 7 = .ok (.imul, 1) := by decide +kernel
theorem dX10_becomesOf_8 : decode cX10_becomesOf 8 = .ok (.iload_n 2, 1) := by decide +kernel
theorem dX10_becomesOf_9 : decode cX10_becomesOf 9 = .ok (.iadd, 1) := by decide +kernel
theorem dX10_becomesOf_10 : decode cX10_becomesOf 10 = .ok (.iload_n 3, 1) := by decide +kernel
theorem dX10_becomesOf_11 : decode cX10_becomesOf 11 = .ok (.iastore, 1) := by decide +kernel
theorem dX10_becomesOf_12 : decode cX10_becomesOf 12 = .ok (.return_, 1) := by decide +kernel
set_option maxRecDepth 20000 in
theorem ggX10_lasts_X10_of : GoodIn wsX10_lasts wsX10_of := goodIn_r _ [5, 6, 7, 8, 9, 10, 11, 12, 13, 14, 15, 16, 17, 18, 19, 20, 21, 22, 23, 24, 25, 26, 27, 28, 29, 30, 31, 32, 33, 34, 35, 36] (by decide +kernel) (by decide +kernel)
set_option maxRecDepth 20000 in
theorem gX10_lasts_X10_of : GoodIn wsX10_lasts (wsV RX10 155 RX10 yX10_of wsX10_of) := goodIn_app (goodIn_of _ (by decide +kernel)) ggX10_lasts_X10_of
theorem dX10_lasts_0 : decode cX10_lasts 0 = .ok (.aload_n 0, 1) := by decide +kernel
theorem dX10_lasts_1 : decode cX10_lasts 1 = .ok (.iload_n 1, 1) := by decide +kernel
theorem dX10_lasts_2 : decode cX10_lasts 2 = .ok (.iconst 0, 1) := by decide +kernel
theorem dX10_lasts_3 : decode cX10_lasts 3 = .ok (.invokevirtual 155, 3) := by decide +kernel
theorem dX10_lasts_6 : decode cX10_lasts 6 = .ok (.istore_n 2, 1) := by decide +kernel
theorem dX10_lasts_7 : decode cX10_lasts 7 = .ok (.iload_n 2, 1) := by decide +kernel
theorem dX10_lasts_8 : decode cX10_lasts 8 = .ok (.iconst 1, 1) := by decide +kernel
theorem dX10_lasts_9 : decode cX10_lasts 9 = .ok (.if_icmp .ne 7, 3) := by decide +kernel
theorem dX10_lasts_12 : decode cX10_lasts 12 = .ok (.iconst 2, 1) := by decide +kernel
theorem dX10_lasts_13 : decode cX10_lasts 13 = .ok (.goto 23, 3) := by decide +kernel
theorem dX10_lasts_16 : decode cX10_lasts 16 = .ok (.iload_n 2, 1) := by decide +kernel
theorem dX10_lasts_17 : decode cX10_lasts 17 = .ok (.iconst 2, 1) := by decide +kernel
theorem dX10_lasts_18 : decode cX10_lasts 18 = .ok (.if_icmp .ne 7, 3) := by decide +kernel
theorem dX10_lasts_21 : decode cX10_lasts 21 = .ok (.iconst 3, 1) := by decide +kernel
theorem dX10_lasts_22 : decode cX10_lasts 22 = .ok (.goto 14, 3) := by decide +kernel
theorem dX10_lasts_25 : decode cX10_lasts 25 = .ok (.iload_n 2, 1) := by decide +kernel
theorem dX10_lasts_26 : decode cX10_lasts 26 = .ok (.iconst 3, 1) := by decide +kernel
theorem dX10_lasts_27 : decode cX10_lasts 27 = .ok (.if_icmp .ne 8, 3) := by decide +kernel
theorem dX10_lasts_30 : decode cX10_lasts 30 = .ok (.bipush 8, 2) := by decide +kernel
theorem dX10_lasts_32 : decode cX10_lasts 32 = .ok (.goto 4, 3) := by decide +kernel
theorem dX10_lasts_35 : decode cX10_lasts 35 = .ok (.iconst 4, 1) := by decide +kernel
theorem dX10_lasts_36 : decode cX10_lasts 36 = .ok (.ireturn, 1) := by decide +kernel
set_option maxRecDepth 20000 in
theorem ggX10_doneIn_X10_of : GoodIn wsX10_doneIn wsX10_of := goodIn_r _ [6, 1, 7, 8, 9, 10, 11, 12, 13, 14, 15, 16, 17, 18, 19, 20, 21, 22, 23, 24, 25, 26, 27, 28, 29, 30, 31, 32, 33, 34, 35, 36] (by decide +kernel) (by decide +kernel)
set_option maxRecDepth 20000 in
theorem gX10_doneIn_X10_of : GoodIn wsX10_doneIn (wsV RX10 155 RX10 yX10_of wsX10_of) := goodIn_app (goodIn_of _ (by decide +kernel)) ggX10_doneIn_X10_of
theorem dX10_doneIn_0 : decode cX10_doneIn 0 = .ok (.aload_n 0, 1) := by decide +kernel
theorem dX10_doneIn_1 : decode cX10_doneIn 1 = .ok (.getfield 13, 3) := by decide +kernel
theorem dX10_doneIn_4 : decode cX10_doneIn 4 = .ok (.bipush 36, 2) := by decide +kernel
theorem dX10_doneIn_6 : decode cX10_doneIn 6 = .ok (.iaload, 1) := by decide +kernel
theorem dX10_doneIn_7 : decode cX10_doneIn 7 = .ok (.istore_n 2, 1) := by decide +kernel
theorem dX10_doneIn_8 : decode cX10_doneIn 8 = .ok (.iconst 0, 1) := by decide +kernel
theorem dX10_doneIn_9 : decode cX10_doneIn 9 = .ok (.istore_n 3, 1) := by decide +kernel
theorem dX10_doneIn_10 : decode cX10_doneIn 10 = .ok (.iload_n 3, 1) := by decide +kernel
theorem dX10_doneIn_11 : decode cX10_doneIn 11 = .ok (.iload_n 1, 1) := by decide +kernel
theorem dX10_doneIn_12 : decode cX10_doneIn 12 = .ok (.if_icmp .gt 26, 3) := by decide +kernel
theorem dX10_doneIn_15 : decode cX10_doneIn 15 = .ok (.iload_n 2, 1) := by decide +kernel
theorem dX10_doneIn_16 : decode cX10_doneIn 16 = .ok (.aload_n 0, 1) := by decide +kernel
theorem dX10_doneIn_17 : decode cX10_doneIn 17 = .ok (.aload_n 0, 1) := by decide +kernel
theorem dX10_doneIn_18 : decode cX10_doneIn 18 = .ok (.getfield 13, 3) := by decide +kernel
theorem dX10_doneIn_21 : decode cX10_doneIn 21 = .ok (.bipush 31, 2) := by decide +kernel
theorem dX10_doneIn_23 : decode cX10_doneIn 23 = .ok (.iload_n 3, 1) := by decide +kernel
theorem dX10_doneIn_24 : decode cX10_doneIn 24 = .ok (.iadd, 1) := by decide +kernel
theorem dX10_doneIn_25 : decode cX10_doneIn 25 = .ok (.iaload, 1) := by decide +kernel
theorem dX10_doneIn_26 : decode cX10_doneIn 26 = .ok (.iconst 1, 1) := by decide +kernel
theorem dX10_doneIn_27 : decode cX10_doneIn 27 = .ok (.invokevirtual 155, 3) := by decide +kernel
theorem dX10_doneIn_30 : decode cX10_doneIn 30 = .ok (.iadd, 1) := by decide +kernel
theorem dX10_doneIn_31 : decode cX10_doneIn 31 = .ok (.istore_n 2, 1) := by decide +kernel
theorem dX10_doneIn_32 : decode cX10_doneIn 32 = .ok (.iinc 3 1, 3) := by decide +kernel
theorem dX10_doneIn_35 : decode cX10_doneIn 35 = .ok (.goto (-25), 3) := by decide +kernel
theorem dX10_doneIn_38 : decode cX10_doneIn 38 = .ok (.iload_n 2, 1) := by decide +kernel
theorem dX10_doneIn_39 : decode cX10_doneIn 39 = .ok (.ireturn, 1) := by decide +kernel
theorem dX10_placeOf_0 : decode cX10_placeOf 0 = .ok (.iconst 0, 1) := by decide +kernel
theorem dX10_placeOf_1 : decode cX10_placeOf 1 = .ok (.istore_n 2, 1) := by decide +kernel
theorem dX10_placeOf_2 : decode cX10_placeOf 2 = .ok (.iconst 0, 1) := by decide +kernel
theorem dX10_placeOf_3 : decode cX10_placeOf 3 = .ok (.istore_n 3, 1) := by decide +kernel
theorem dX10_placeOf_4 : decode cX10_placeOf 4 = .ok (.iload_n 3, 1) := by decide +kernel
theorem dX10_placeOf_5 : decode cX10_placeOf 5 = .ok (.aload_n 0, 1) := by decide +kernel
theorem dX10_placeOf_6 : decode cX10_placeOf 6 = .ok (.getfield 13, 3) := by decide +kernel
theorem dX10_placeOf_9 : decode cX10_placeOf 9 = .ok (.bipush 30, 2) := by decide +kernel
theorem dX10_placeOf_11 : decode cX10_placeOf 11 = .ok (.iaload, 1) := by decide +kernel
theorem dX10_placeOf_12 : decode cX10_placeOf 12 = .ok (.if_icmp .ge 28, 3) := by decide +kernel
theorem dX10_placeOf_15 : decode cX10_placeOf 15 = .ok (.aload_n 0, 1) := by decide +kernel
theorem dX10_placeOf_16 : decode cX10_placeOf 16 = .ok (.getfield 13, 3) := by decide +kernel
theorem dX10_placeOf_19 : decode cX10_placeOf 19 = .ok (.bipush 31, 2) := by decide +kernel
theorem dX10_placeOf_21 : decode cX10_placeOf 21 = .ok (.iload_n 3, 1) := by decide +kernel
theorem dX10_placeOf_22 : decode cX10_placeOf 22 = .ok (.iadd, 1) := by decide +kernel
theorem dX10_placeOf_23 : decode cX10_placeOf 23 = .ok (.iaload, 1) := by decide +kernel
theorem dX10_placeOf_24 : decode cX10_placeOf 24 = .ok (.iload_n 1, 1) := by decide +kernel
theorem dX10_placeOf_25 : decode cX10_placeOf 25 = .ok (.if_icmp .ne 7, 3) := by decide +kernel
theorem dX10_placeOf_28 : decode cX10_placeOf 28 = .ok (.iload_n 3, 1) := by decide +kernel
theorem dX10_placeOf_29 : decode cX10_placeOf 29 = .ok (.goto 4, 3) := by decide +kernel
theorem dX10_placeOf_32 : decode cX10_placeOf 32 = .ok (.iload_n 2, 1) := by decide +kernel
theorem dX10_placeOf_33 : decode cX10_placeOf 33 = .ok (.istore_n 2, 1) := by decide +kernel
theorem dX10_placeOf_34 : decode cX10_placeOf 34 = .ok (.iinc 3 1, 3) := by decide +kernel
theorem dX10_placeOf_37 : decode cX10_placeOf 37 = .ok (.goto (-33), 3) := by decide +kernel
theorem dX10_placeOf_40 : decode cX10_placeOf 40 = .ok (.iload_n 2, 1) := by decide +kernel
theorem dX10_placeOf_41 : decode cX10_placeOf 41 = .ok (.ireturn, 1) := by decide +kernel
set_option maxRecDepth 20000 in
theorem ggX10_ownHour_X10_placeOf : GoodIn wsX10_ownHour wsX10_placeOf := goodIn_r _ [5, 6, 15, 16, 17, 18, 19, 20, 21, 22, 23, 24, 25, 26, 27, 28, 29, 30, 31, 32, 33, 34, 35, 36, 37, 38, 39, 40, 41, 42, 43, 44] (by decide +kernel) (by decide +kernel)
set_option maxRecDepth 20000 in
theorem gX10_ownHour_X10_placeOf : GoodIn wsX10_ownHour (wsV RX10 158 RX10 yX10_placeOf wsX10_placeOf) := goodIn_app (goodIn_of _ (by decide +kernel)) ggX10_ownHour_X10_placeOf
set_option maxRecDepth 20000 in
theorem ggX10_ownHour_X10_doneIn : GoodIn wsX10_ownHour wsX10_doneIn := goodIn_r _ [10, 6, 11, 12, 13, 4, 14, 15, 16, 17, 18, 19, 20, 21, 22, 23, 24, 25, 26, 27, 28, 29, 30, 31, 32, 33, 34, 35, 36, 37, 38, 39, 40, 41, 42, 43, 44] (by decide +kernel) (by decide +kernel)
set_option maxRecDepth 20000 in
theorem gX10_ownHour_X10_doneIn : GoodIn wsX10_ownHour (wsV RX10 161 RX10 yX10_doneIn wsX10_doneIn) := goodIn_app (goodIn_of _ (by decide +kernel)) ggX10_ownHour_X10_doneIn
theorem dX10_ownHour_0 : decode cX10_ownHour 0 = .ok (.aload_n 0, 1) := by decide +kernel
theorem dX10_ownHour_1 : decode cX10_ownHour 1 = .ok (.aload_n 0, 1) := by decide +kernel
theorem dX10_ownHour_2 : decode cX10_ownHour 2 = .ok (.iload_n 1, 1) := by decide +kernel
theorem dX10_ownHour_3 : decode cX10_ownHour 3 = .ok (.invokevirtual 158, 3) := by decide +kernel
theorem dX10_ownHour_6 : decode cX10_ownHour 6 = .ok (.invokevirtual 161, 3) := by decide +kernel
theorem dX10_ownHour_9 : decode cX10_ownHour 9 = .ok (.bipush 24, 2) := by decide +kernel
theorem dX10_ownHour_11 : decode cX10_ownHour 11 = .ok (.irem, 1) := by decide +kernel
theorem dX10_ownHour_12 : decode cX10_ownHour 12 = .ok (.ireturn, 1) := by decide +kernel
set_option maxRecDepth 20000 in
theorem ggX10_wrong_X10_ownHour : GoodIn wsX10_wrong wsX10_ownHour := goodIn_r _ [5, 6, 7, 8, 4, 9, 10, 11, 12, 13, 14, 15, 16, 17, 18, 22, 23, 24, 25, 26, 27, 28, 29, 30, 31, 32, 33, 34, 35, 36, 37, 38, 39, 40, 41, 42, 43, 44, 45, 46, 47, 48, 49, 50, 51] (by decide +kernel) (by decide +kernel)
set_option maxRecDepth 20000 in
theorem gX10_wrong_X10_ownHour : GoodIn wsX10_wrong (wsV RX10 164 RX10 yX10_ownHour wsX10_ownHour) := goodIn_app (goodIn_of _ (by decide +kernel)) ggX10_wrong_X10_ownHour
set_option maxRecDepth 20000 in
theorem ggX10_wrong_X10_of : GoodIn wsX10_wrong wsX10_of := goodIn_r _ [18, 10, 22, 23, 24, 25, 26, 27, 28, 29, 30, 31, 32, 33, 34, 35, 36, 37, 38, 39, 40, 41, 42, 43, 44, 45, 46, 47, 48, 49, 50, 51] (by decide +kernel) (by decide +kernel)
set_option maxRecDepth 20000 in
theorem gX10_wrong_X10_of : GoodIn wsX10_wrong (wsV RX10 155 RX10 yX10_of wsX10_of) := goodIn_app (goodIn_of _ (by decide +kernel)) ggX10_wrong_X10_of
set_option maxRecDepth 20000 in
theorem ggX10_wrong_X10_lesser : GoodIn wsX10_wrong wsX10_lesser := goodIn_r _ [21] (by decide +kernel) (by decide +kernel)
set_option maxRecDepth 20000 in
theorem gX10_wrong_X10_lesser : GoodIn wsX10_wrong (va_wsS RX10 167 yX10_lesser wsX10_lesser) := goodIn_app (goodIn_of _ (by decide +kernel)) ggX10_wrong_X10_lesser
theorem dX10_wrong_0 : decode cX10_wrong 0 = .ok (.aload_n 0, 1) := by decide +kernel
theorem dX10_wrong_1 : decode cX10_wrong 1 = .ok (.iload_n 1, 1) := by decide +kernel
theorem dX10_wrong_2 : decode cX10_wrong 2 = .ok (.invokevirtual 164, 3) := by decide +kernel
theorem dX10_wrong_5 : decode cX10_wrong 5 = .ok (.aload_n 0, 1) := by decide +kernel
theorem dX10_wrong_6 : decode cX10_wrong 6 = .ok (.iload_n 1, 1) := by decide +kernel
theorem dX10_wrong_7 : decode cX10_wrong 7 = .ok (.iconst 2, 1) := by decide +kernel
theorem dX10_wrong_8 : decode cX10_wrong 8 = .ok (.invokevirtual 155, 3) := by decide +kernel
theorem dX10_wrong_11 : decode cX10_wrong 11 = .ok (.isub, 1) := by decide +kernel
theorem dX10_wrong_12 : decode cX10_wrong 12 = .ok (.istore_n 2, 1) := by decide +kernel
theorem dX10_wrong_13 : decode cX10_wrong 13 = .ok (.iload_n 2, 1) := by decide +kernel
theorem dX10_wrong_14 : decode cX10_wrong 14 = .ok (.ifCond .ge 8, 3) := by decide +kernel
theorem dX10_wrong_17 : decode cX10_wrong 17 = .ok (.iload_n 2, 1) := by decide +kernel
theorem dX10_wrong_18 : decode cX10_wrong 18 = .ok (.ineg, 1) := by decide +kernel
theorem dX10_wrong_19 : decode cX10_wrong 19 = .ok (.goto 4, 3) := by decide +kernel
theorem dX10_wrong_22 : decode cX10_wrong 22 = .ok (.iload_n 2, 1) := by decide +kernel
theorem dX10_wrong_23 : decode cX10_wrong 23 = .ok (.istore_n 3, 1) := by decide +kernel
theorem dX10_wrong_24 : decode cX10_wrong 24 = .ok (.aload_n 0, 1) := by decide +kernel
theorem dX10_wrong_25 : decode cX10_wrong 25 = .ok (.iload_n 1, 1) := by decide +kernel
theorem dX10_wrong_26 : decode cX10_wrong 26 = .ok (.iconst 3, 1) := by decide +kernel
theorem dX10_wrong_27 : decode cX10_wrong 27 = .ok (.invokevirtual 155, 3) := by decide +kernel
theorem dX10_wrong_30 : decode cX10_wrong 30 = .ok (.iload_n 3, 1) := by decide +kernel
theorem dX10_wrong_31 : decode cX10_wrong 31 = .ok (.bipush 24, 2) := by decide +kernel
theorem dX10_wrong_33 : decode cX10_wrong 33 = .ok (.iload_n 3, 1) := by decide +kernel
theorem dX10_wrong_34 : decode cX10_wrong 34 = .ok (.isub, 1) := by decide +kernel
theorem dX10_wrong_35 : decode cX10_wrong 35 = .ok (.invokestatic 167, 3) := by decide +kernel
theorem dX10_wrong_38 : decode cX10_wrong 38 = .ok (.imul, 1) := by decide +kernel
theorem dX10_wrong_39 : decode cX10_wrong 39 = .ok (.ireturn, 1) := by decide +kernel
set_option maxRecDepth 20000 in
theorem ggX10_allWrong_X10_wrong : GoodIn wsX10_allWrong wsX10_wrong := goodIn_r _ [6, 7, 8, 9, 5, 10, 11, 12, 13, 14, 1, 15, 16, 17, 18, 19, 20, 21, 22, 23, 24, 25, 26, 27, 28, 29, 30, 31, 32, 33, 34, 35, 36, 37, 38, 39, 40, 41, 42, 43, 44, 45, 46, 47, 48, 49, 50, 51, 52, 53, 54, 55] (by decide +kernel) (by decide +kernel)
set_option maxRecDepth 20000 in
theorem gX10_allWrong_X10_wrong : GoodIn wsX10_allWrong (wsV RX10 170 RX10 yX10_wrong wsX10_wrong) := goodIn_app (goodIn_of _ (by decide +kernel)) ggX10_allWrong_X10_wrong
theorem dX10_allWrong_0 : decode cX10_allWrong 0 = .ok (.iconst 0, 1) := by decide +kernel
theorem dX10_allWrong_1 : decode cX10_allWrong 1 = .ok (.istore_n 1, 1) := by decide +kernel
theorem dX10_allWrong_2 : decode cX10_allWrong 2 = .ok (.iconst 0, 1) := by decide +kernel
theorem dX10_allWrong_3 : decode cX10_allWrong 3 = .ok (.istore_n 2, 1) := by decide +kernel
theorem dX10_allWrong_4 : decode cX10_allWrong 4 = .ok (.iload_n 2, 1) := by decide +kernel
theorem dX10_allWrong_5 : decode cX10_allWrong 5 = .ok (.aload_n 0, 1) := by decide +kernel
theorem dX10_allWrong_6 : decode cX10_allWrong 6 = .ok (.getfield 13, 3) := by decide +kernel
theorem dX10_allWrong_9 : decode cX10_allWrong 9 = .ok (.bipush 30, 2) := by decide +kernel
theorem dX10_allWrong_11 : decode cX10_allWrong 11 = .ok (.iaload, 1) := by decide +kernel
theorem dX10_allWrong_12 : decode cX10_allWrong 12 = .ok (.if_icmp .ge 17, 3) := by decide +kernel
theorem dX10_allWrong_15 : decode cX10_allWrong 15 = .ok (.iload_n 1, 1) := by decide +kernel
theorem dX10_allWrong_16 : decode cX10_allWrong 16 = .ok (.aload_n 0, 1) := by decide +kernel
theorem dX10_allWrong_17 : decode cX10_allWrong 17 = .ok (.iload_n 2, 1) := by decide +kernel
theorem dX10_allWrong_18 : decode cX10_allWrong 18 = .ok (.invokevirtual 170, 3) := by decide +kernel
theorem dX10_allWrong_21 : decode cX10_allWrong 21 = .ok (.iadd, 1) := by decide +kernel
theorem dX10_allWrong_22 : decode cX10_allWrong 22 = .ok (.istore_n 1, 1) := by decide +kernel
theorem dX10_allWrong_23 : decode cX10_allWrong 23 = .ok (.iinc 2 1, 3) := by decide +kernel
theorem dX10_allWrong_26 : decode cX10_allWrong 26 = .ok (.goto (-22), 3) := by decide +kernel
theorem dX10_allWrong_29 : decode cX10_allWrong 29 = .ok (.iload_n 1, 1) := by decide +kernel
theorem dX10_allWrong_30 : decode cX10_allWrong 30 = .ok (.ireturn, 1) := by decide +kernel
set_option maxRecDepth 20000 in
theorem ggX10_allOf_X10_of : GoodIn wsX10_allOf wsX10_of := goodIn_r _ [6, 1, 7, 8, 9, 10, 11, 12, 13, 14, 15, 16, 17, 18, 19, 20, 21, 22, 23, 24, 25, 26, 27, 28, 29, 30, 31, 32, 33, 34, 35, 36] (by decide +kernel) (by decide +kernel)
set_option maxRecDepth 20000 in
theorem gX10_allOf_X10_of : GoodIn wsX10_allOf (wsV RX10 155 RX10 yX10_of wsX10_of) := goodIn_app (goodIn_of _ (by decide +kernel)) ggX10_allOf_X10_of
theorem dX10_allOf_0 : decode cX10_allOf 0 = .ok (.iconst 0, 1) := by decide +kernel
theorem dX10_allOf_1 : decode cX10_allOf 1 = .ok (.istore_n 2, 1) := by decide +kernel
theorem dX10_allOf_2 : decode cX10_allOf 2 = .ok (.iconst 0, 1) := by decide +kernel
theorem dX10_allOf_3 : decode cX10_allOf 3 = .ok (.istore_n 3, 1) := by decide +kernel
theorem dX10_allOf_4 : decode cX10_allOf 4 = .ok (.iload_n 3, 1) := by decide +kernel
theorem dX10_allOf_5 : decode cX10_allOf 5 = .ok (.aload_n 0, 1) := by decide +kernel
theorem dX10_allOf_6 : decode cX10_allOf 6 = .ok (.getfield 13, 3) := by decide +kernel
theorem dX10_allOf_9 : decode cX10_allOf 9 = .ok (.bipush 30, 2) := by decide +kernel
theorem dX10_allOf_11 : decode cX10_allOf 11 = .ok (.iaload, 1) := by decide +kernel
theorem dX10_allOf_12 : decode cX10_allOf 12 = .ok (.if_icmp .ge 18, 3) := by decide +kernel
theorem dX10_allOf_15 : decode cX10_allOf 15 = .ok (.iload_n 2, 1) := by decide +kernel
theorem dX10_allOf_16 : decode cX10_allOf 16 = .ok (.aload_n 0, 1) := by decide +kernel
theorem dX10_allOf_17 : decode cX10_allOf 17 = .ok (.iload_n 3, 1) := by decide +kernel
theorem dX10_allOf_18 : decode cX10_allOf 18 = .ok (.iload_n 1, 1) := by decide +kernel
theorem dX10_allOf_19 : decode cX10_allOf 19 = .ok (.invokevirtual 155, 3) := by decide +kernel
theorem dX10_allOf_22 : decode cX10_allOf 22 = .ok (.iadd, 1) := by decide +kernel
theorem dX10_allOf_23 : decode cX10_allOf 23 = .ok (.istore_n 2, 1) := by decide +kernel
theorem dX10_allOf_24 : decode cX10_allOf 24 = .ok (.iinc 3 1, 3) := by decide +kernel
theorem dX10_allOf_27 : decode cX10_allOf 27 = .ok (.goto (-23), 3) := by decide +kernel
theorem dX10_allOf_30 : decode cX10_allOf 30 = .ok (.iload_n 2, 1) := by decide +kernel
theorem dX10_allOf_31 : decode cX10_allOf 31 = .ok (.ireturn, 1) := by decide +kernel
set_option maxRecDepth 20000 in
theorem ggX10_dayGoes_X10_ownHour : GoodIn wsX10_dayGoes wsX10_ownHour := goodIn_r _ [8, 9, 10, 11, 7, 12, 3, 13, 14, 15, 16, 17, 18, 19, 20, 28, 29, 30, 31, 32, 33, 34, 35, 36, 37, 38, 39, 40, 41, 42, 43, 44, 45, 46, 47, 48, 49, 50, 51, 52, 53, 54, 55, 56, 57] (by decide +kernel) (by decide +kernel)
set_option maxRecDepth 20000 in
theorem gX10_dayGoes_X10_ownHour : GoodIn wsX10_dayGoes (wsV RX10 164 RX10 yX10_ownHour wsX10_ownHour) := goodIn_app (goodIn_of _ (by decide +kernel)) ggX10_dayGoes_X10_ownHour
set_option maxRecDepth 20000 in
theorem ggX10_dayGoes_X10_of : GoodIn wsX10_dayGoes wsX10_of := goodIn_r _ [20, 3, 28, 29, 30, 31, 32, 33, 34, 35, 36, 37, 38, 39, 40, 41, 42, 43, 44, 45, 46, 47, 48, 49, 50, 51, 52, 53, 54, 55, 56, 57] (by decide +kernel) (by decide +kernel)
set_option maxRecDepth 20000 in
theorem gX10_dayGoes_X10_of : GoodIn wsX10_dayGoes (wsV RX10 155 RX10 yX10_of wsX10_of) := goodIn_app (goodIn_of _ (by decide +kernel)) ggX10_dayGoes_X10_of
set_option maxRecDepth 20000 in
theorem ggX10_dayGoes_X10_lasts : GoodIn wsX10_dayGoes wsX10_lasts := goodIn_r _ [24, 17, 18, 19, 7, 20, 3, 28, 29, 30, 31, 32, 33, 34, 35, 36, 37, 38, 39, 40, 41, 42, 43, 44, 45, 46, 47, 48, 49, 50, 51, 52, 53, 54, 55, 56, 57] (by decide +kernel) (by decide +kernel)
set_option maxRecDepth 20000 in
theorem gX10_dayGoes_X10_lasts : GoodIn wsX10_dayGoes (wsV RX10 173 RX10 yX10_lasts wsX10_lasts) := goodIn_app (goodIn_of _ (by decide +kernel)) ggX10_dayGoes_X10_lasts
set_option maxRecDepth 20000 in
theorem ggX10_dayGoes_X10_lesser : GoodIn wsX10_dayGoes wsX10_lesser := goodIn_r _ [27] (by decide +kernel) (by decide +kernel)
set_option maxRecDepth 20000 in
theorem gX10_dayGoes_X10_lesser : GoodIn wsX10_dayGoes (va_wsS RX10 167 yX10_lesser wsX10_lesser) := goodIn_app (goodIn_of _ (by decide +kernel)) ggX10_dayGoes_X10_lesser
theorem dX10_dayGoes_0 : decode cX10_dayGoes 0 = .ok (.iconst 0, 1) := by decide +kernel
theorem dX10_dayGoes_1 : decode cX10_dayGoes 1 = .ok (.istore_n 1, 1) := by decide +kernel
theorem dX10_dayGoes_2 : decode cX10_dayGoes 2 = .ok (.iload_n 1, 1) := by decide +kernel
theorem dX10_dayGoes_3 : decode cX10_dayGoes 3 = .ok (.bipush 120, 2) := by decide +kernel
theorem dX10_dayGoes_5 : decode cX10_dayGoes 5 = .ok (.if_icmp .ge 27, 3) := by decide +kernel
theorem dX10_dayGoes_8 : decode cX10_dayGoes 8 = .ok (.aload_n 0, 1) := by decide +kernel
theorem dX10_dayGoes_9 : decode cX10_dayGoes 9 = .ok (.getfield 29, 3) := by decide +kernel
theorem dX10_dayGoes_12 : decode cX10_dayGoes 12 = .ok (.iload_n 1, 1) := by decide +kernel
theorem dX10_dayGoes_13 : decode cX10_dayGoes 13 = .ok (.bipush (-4), 2) := by decide +kernel
theorem dX10_dayGoes_15 : decode cX10_dayGoes 15 = .ok (.iastore, 1) := by decide +kernel
theorem dX10_dayGoes_16 : decode cX10_dayGoes 16 = .ok (.aload_n 0, 1) := by decide +kernel
theorem dX10_dayGoes_17 : decode cX10_dayGoes 17 = .ok (.getfield 32, 3) := by decide +kernel
theorem dX10_dayGoes_20 : decode cX10_dayGoes 20 = .ok (.iload_n 1, 1) := by decide +kernel
theorem dX10_dayGoes_21 : decode cX10_dayGoes 21 = .ok (.iload_n 1, 1) := by decide +kernel
theorem dX10_dayGoes_22 : decode cX10_dayGoes 22 = .ok (.bipush 24, 2) := by decide +kernel
theorem dX10_dayGoes_24 : decode cX10_dayGoes 24 = .ok (.irem, 1) := by decide +kernel
theorem dX10_dayGoes_25 : decode cX10_dayGoes 25 = .ok (.iastore, 1) := by decide +kernel
theorem dX10_dayGoes_26 : decode cX10_dayGoes 26 = .ok (.iinc 1 1, 3) := by decide +kernel
theorem dX10_dayGoes_29 : decode cX10_dayGoes 29 = .ok (.goto (-27), 3) := by decide +kernel
theorem dX10_dayGoes_32 : decode cX10_dayGoes 32 = .ok (.iconst 0, 1) := by decide +kernel
theorem dX10_dayGoes_33 : decode cX10_dayGoes 33 = .ok (.istore_n 1, 1) := by decide +kernel
theorem dX10_dayGoes_34 : decode cX10_dayGoes 34 = .ok (.iload_n 1, 1) := by decide +kernel
theorem dX10_dayGoes_35 : decode cX10_dayGoes 35 = .ok (.aload_n 0, 1) := by decide +kernel
theorem dX10_dayGoes_36 : decode cX10_dayGoes 36 = .ok (.getfield 13, 3) := by decide +kernel
theorem dX10_dayGoes_39 : decode cX10_dayGoes 39 = .ok (.bipush 30, 2) := by decide +kernel
theorem dX10_dayGoes_41 : decode cX10_dayGoes 41 = .ok (.iaload, 1) := by decide +kernel
theorem dX10_dayGoes_42 : decode cX10_dayGoes 42 = .ok (.if_icmp .ge 129, 3) := by decide +kernel
theorem dX10_dayGoes_45 : decode cX10_dayGoes 45 = .ok (.aload_n 0, 1) := by decide +kernel
theorem dX10_dayGoes_46 : decode cX10_dayGoes 46 = .ok (.iload_n 1, 1) := by decide +kernel
theorem dX10_dayGoes_47 : decode cX10_dayGoes 47 = .ok (.invokevirtual 164, 3) := by decide +kernel
theorem dX10_dayGoes_50 : decode cX10_dayGoes 50 = .ok (.istore_n 2, 1) := by decide +kernel
theorem dX10_dayGoes_51 : decode cX10_dayGoes 51 = .ok (.bipush 24, 2) := by decide +kernel
theorem dX10_dayGoes_53 : decode cX10_dayGoes 53 = .ok (.aload_n 0, 1) := by decide +kernel
theorem dX10_dayGoes_54 : decode cX10_dayGoes 54 = .ok (.iload_n 1, 1) := by decide +kernel
theorem dX10_dayGoes_55 : decode cX10_dayGoes 55 = .ok (.iconst 4, 1) := by decide +kernel
theorem dX10_dayGoes_56 : decode cX10_dayGoes 56 = .ok (.invokevirtual 155, 3) := by decide +kernel
theorem dX10_dayGoes_59 : decode cX10_dayGoes 59 = .ok (.aload_n 0, 1) := by decide +kernel
theorem dX10_dayGoes_60 : decode cX10_dayGoes 60 = .ok (.iload_n 1, 1) := by decide +kernel
theorem dX10_dayGoes_61 : decode cX10_dayGoes 61 = .ok (.invokevirtual 173, 3) := by decide +kernel
theorem dX10_dayGoes_64 : decode cX10_dayGoes 64 = .ok (.iadd, 1) := by decide +kernel
theorem dX10_dayGoes_65 : decode cX10_dayGoes 65 = .ok (.invokestatic 167, 3) := by decide +kernel
theorem dX10_dayGoes_68 : decode cX10_dayGoes 68 = .ok (.istore_n 3, 1) := by decide +kernel
theorem dX10_dayGoes_69 : decode cX10_dayGoes 69 = .ok (.aload_n 0, 1) := by decide +kernel
theorem dX10_dayGoes_70 : decode cX10_dayGoes 70 = .ok (.iload_n 1, 1) := by decide +kernel
theorem dX10_dayGoes_71 : decode cX10_dayGoes 71 = .ok (.iconst 4, 1) := by decide +kernel
theorem dX10_dayGoes_72 : decode cX10_dayGoes 72 = .ok (.invokevirtual 155, 3) := by decide +kernel
theorem dX10_dayGoes_75 : decode cX10_dayGoes 75 = .ok (.istore 4, 2) := by decide +kernel
theorem dX10_dayGoes_77 : decode cX10_dayGoes 77 = .ok (.iload 4, 2) := by decide +kernel
theorem dX10_dayGoes_79 : decode cX10_dayGoes 79 = .ok (.iload_n 3, 1) := by decide +kernel
theorem dX10_dayGoes_80 : decode cX10_dayGoes 80 = .ok (.if_icmp .ge 85, 3) := by decide +kernel
theorem dX10_dayGoes_83 : decode cX10_dayGoes 83 = .ok (.bipush 24, 2) := by decide +kernel
theorem dX10_dayGoes_85 : decode cX10_dayGoes 85 = .ok (.aload_n 0, 1) := by decide +kernel
theorem dX10_dayGoes_86 : decode cX10_dayGoes 86 = .ok (.iload_n 1, 1) := by decide +kernel
theorem dX10_dayGoes_87 : decode cX10_dayGoes 87 = .ok (.iconst 5, 1) := by decide +kernel
theorem dX10_dayGoes_88 : decode cX10_dayGoes 88 = .ok (.invokevirtual 155, 3) := by decide +kernel
theorem dX10_dayGoes_91 : decode cX10_dayGoes 91 = .ok (.imul, 1) := by decide +kernel
theorem dX10_dayGoes_92 : decode cX10_dayGoes 92 = .ok (.iload 4, 2) := by decide +kernel
theorem dX10_dayGoes_94 : decode cX10_dayGoes 94 = .ok (.iadd, 1) := by decide +kernel
theorem dX10_dayGoes_95 : decode cX10_dayGoes 95 = .ok (.istore 5, 2) := by decide +kernel
theorem dX10_dayGoes_97 : decode cX10_dayGoes 97 = .ok (.aload_n 0, 1) := by decide +kernel
theorem dX10_dayGoes_98 : decode cX10_dayGoes 98 = .ok (.getfield 29, 3) := by decide +kernel
theorem dX10_dayGoes_101 : decode cX10_dayGoes 101 = .ok (.iload 5, 2) := by decide +kernel
theorem dX10_dayGoes_103 : decode cX10_dayGoes 103 = .ok (.iaload, 1) := by decide +kernel
theorem dX10_dayGoes_104 : decode cX10_dayGoes 104 = .ok (.bipush (-4), 2) := by decide +kernel
theorem dX10_dayGoes_106 : decode cX10_dayGoes 106 = .ok (.if_icmp .eq 24, 3) := by decide +kernel
theorem dX10_dayGoes_109 : decode cX10_dayGoes 109 = .ok (.aload_n 0, 1) := by decide +kernel
theorem dX10_dayGoes_110 : decode cX10_dayGoes 110 = .ok (.iload_n 1, 1) := by decide +kernel
theorem dX10_dayGoes_111 : decode cX10_dayGoes 111 = .ok (.iconst 4, 1) := by decide +kernel
theorem dX10_dayGoes_112 : decode cX10_dayGoes 112 = .ok (.invokevirtual 155, 3) := by decide +kernel
theorem dX10_dayGoes_115 : decode cX10_dayGoes 115 = .ok (.aload_n 0, 1) := by decide +kernel
theorem dX10_dayGoes_116 : decode cX10_dayGoes 116 = .ok (.aload_n 0, 1) := by decide +kernel
theorem dX10_dayGoes_117 : decode cX10_dayGoes 117 = .ok (.getfield 29, 3) := by decide +kernel
theorem dX10_dayGoes_120 : decode cX10_dayGoes 120 = .ok (.iload 5, 2) := by decide +kernel
theorem dX10_dayGoes_122 : decode cX10_dayGoes 122 = .ok (.iaload, 1) := by decide +kernel
theorem dX10_dayGoes_123 : decode cX10_dayGoes 123 = .ok (.iconst 4, 1) := by decide +kernel
theorem dX10_dayGoes_124 : decode cX10_dayGoes 124 = .ok (.invokevirtual 155, 3) := by decide +kernel
theorem dX10_dayGoes_127 : decode cX10_dayGoes 127 = .ok (.if_icmp .lt 32, 3) := by decide +kernel
theorem dX10_dayGoes_130 : decode cX10_dayGoes 130 = .ok (.aload_n 0, 1) := by decide +kernel
theorem dX10_dayGoes_131 : decode cX10_dayGoes 131 = .ok (.getfield 29, 3) := by decide +kernel
theorem dX10_dayGoes_134 : decode cX10_dayGoes 134 = .ok (.iload 5, 2) := by decide +kernel
theorem dX10_dayGoes_136 : decode cX10_dayGoes 136 = .ok (.iload_n 1, 1) := by decide +kernel
theorem dX10_dayGoes_137 : decode cX10_dayGoes 137 = .ok (.iastore, 1) := by decide +kernel
theorem dX10_dayGoes_138 : decode cX10_dayGoes 138 = .ok (.aload_n 0, 1) := by decide +kernel
theorem dX10_dayGoes_139 : decode cX10_dayGoes 139 = .ok (.getfield 32, 3) := by decide +kernel
theorem dX10_dayGoes_142 : decode cX10_dayGoes 142 = .ok (.iload 5, 2) := by decide +kernel
theorem dX10_dayGoes_144 : decode cX10_dayGoes 144 = .ok (.iload_n 2, 1) := by decide +kernel
theorem dX10_dayGoes_145 : decode cX10_dayGoes 145 = .ok (.iload 4, 2) := by decide +kernel
theorem dX10_dayGoes_147 : decode cX10_dayGoes 147 = .ok (.iadd, 1) := by decide +kernel
theorem dX10_dayGoes_148 : decode cX10_dayGoes 148 = .ok (.aload_n 0, 1) := by decide +kernel
theorem dX10_dayGoes_149 : decode cX10_dayGoes 149 = .ok (.iload_n 1, 1) := by decide +kernel
theorem dX10_dayGoes_150 : decode cX10_dayGoes 150 = .ok (.iconst 4, 1) := by decide +kernel
theorem dX10_dayGoes_151 : decode cX10_dayGoes 151 = .ok (.invokevirtual 155, 3) := by decide +kernel
theorem dX10_dayGoes_154 : decode cX10_dayGoes 154 = .ok (.isub, 1) := by decide +kernel
theorem dX10_dayGoes_155 : decode cX10_dayGoes 155 = .ok (.bipush 24, 2) := by decide +kernel
theorem dX10_dayGoes_157 : decode cX10_dayGoes 157 = .ok (.irem, 1) := by decide +kernel
theorem dX10_dayGoes_158 : decode cX10_dayGoes 158 = .ok (.iastore, 1) := by decide +kernel
theorem dX10_dayGoes_159 : decode cX10_dayGoes 159 = .ok (.iinc 4 1, 3) := by decide +kernel
theorem dX10_dayGoes_162 : decode cX10_dayGoes 162 = .ok (.goto (-85), 3) := by decide +kernel
theorem dX10_dayGoes_165 : decode cX10_dayGoes 165 = .ok (.iinc 1 1, 3) := by decide +kernel
theorem dX10_dayGoes_168 : decode cX10_dayGoes 168 = .ok (.goto (-134), 3) := by decide +kernel
theorem dX10_dayGoes_171 : decode cX10_dayGoes 171 = .ok (.return_, 1) := by decide +kernel
set_option maxRecDepth 20000 in
theorem ggX10_yawnsOf_X10_flag : GoodIn wsX10_yawnsOf wsX10_flag := goodIn_r _ [5] (by decide +kernel) (by decide +kernel)
set_option maxRecDepth 20000 in
theorem gX10_yawnsOf_X10_flag : GoodIn wsX10_yawnsOf (va_wsS RX10 176 yX10_flag wsX10_flag) := goodIn_app (goodIn_of _ (by decide +kernel)) ggX10_yawnsOf_X10_flag
theorem dX10_yawnsOf_0 : decode cX10_yawnsOf 0 = .ok (.iconst 0, 1) := by decide +kernel
theorem dX10_yawnsOf_1 : decode cX10_yawnsOf 1 = .ok (.istore_n 2, 1) := by decide +kernel
theorem dX10_yawnsOf_2 : decode cX10_yawnsOf 2 = .ok (.bipush 6, 2) := by decide +kernel
theorem dX10_yawnsOf_4 : decode cX10_yawnsOf 4 = .ok (.istore_n 3, 1) := by decide +kernel
theorem dX10_yawnsOf_5 : decode cX10_yawnsOf 5 = .ok (.iload_n 3, 1) := by decide +kernel
theorem dX10_yawnsOf_6 : decode cX10_yawnsOf 6 = .ok (.bipush 24, 2) := by decide +kernel
theorem dX10_yawnsOf_8 : decode cX10_yawnsOf 8 = .ok (.if_icmp .ge 36, 3) := by decide +kernel
theorem dX10_yawnsOf_11 : decode cX10_yawnsOf 11 = .ok (.iload_n 2, 1) := by decide +kernel
theorem dX10_yawnsOf_12 : decode cX10_yawnsOf 12 = .ok (.aload_n 0, 1) := by decide +kernel
theorem dX10_yawnsOf_13 : decode cX10_yawnsOf 13 = .ok (.getfield 32, 3) := by decide +kernel
theorem dX10_yawnsOf_16 : decode cX10_yawnsOf 16 = .ok (.bipush 24, 2) := by decide +kernel
theorem dX10_yawnsOf_18 : decode cX10_yawnsOf 18 = .ok (.iload_n 1, 1) := by decide +kernel
theorem dX10_yawnsOf_19 : decode cX10_yawnsOf 19 = .ok (.imul, 1) := by decide +kernel
theorem dX10_yawnsOf_20 : decode cX10_yawnsOf 20 = .ok (.iload_n 3, 1) := by decide +kernel
theorem dX10_yawnsOf_21 : decode cX10_yawnsOf 21 = .ok (.iadd, 1) := by decide +kernel
theorem dX10_yawnsOf_22 : decode cX10_yawnsOf 22 = .ok (.iaload, 1) := by decide +kernel
theorem dX10_yawnsOf_23 : decode cX10_yawnsOf 23 = .ok (.bipush 6, 2) := by decide +kernel
theorem dX10_yawnsOf_25 : decode cX10_yawnsOf 25 = .ok (.if_icmp .ge 7, 3) := by decide +kernel
theorem dX10_yawnsOf_28 : decode cX10_yawnsOf 28 = .ok (.iconst 1, 1) := by decide +kernel
theorem dX10_yawnsOf_29 : decode cX10_yawnsOf 29 = .ok (.goto 4, 3) := by decide +kernel
theorem dX10_yawnsOf_32 : decode cX10_yawnsOf 32 = .ok (.iconst 0, 1) := by decide +kernel
theorem dX10_yawnsOf_33 : decode cX10_yawnsOf 33 = .ok (.invokestatic 176, 3) := by decide +kernel
theorem dX10_yawnsOf_36 : decode cX10_yawnsOf 36 = .ok (.iadd, 1) := by decide +kernel
theorem dX10_yawnsOf_37 : decode cX10_yawnsOf 37 = .ok (.istore_n 2, 1) := by decide +kernel
theorem dX10_yawnsOf_38 : decode cX10_yawnsOf 38 = .ok (.iinc 3 1, 3) := by decide +kernel
theorem dX10_yawnsOf_41 : decode cX10_yawnsOf 41 = .ok (.goto (-36), 3) := by decide +kernel
theorem dX10_yawnsOf_44 : decode cX10_yawnsOf 44 = .ok (.iload_n 2, 1) := by decide +kernel
theorem dX10_yawnsOf_45 : decode cX10_yawnsOf 45 = .ok (.ireturn, 1) := by decide +kernel
set_option maxRecDepth 20000 in
theorem ggX10_yawns_X10_yawnsOf : GoodIn wsX10_yawns wsX10_yawnsOf := goodIn_r _ [5, 6, 7, 8, 4, 9, 10, 11, 12, 13, 14, 15, 16, 17, 18, 19, 20, 21, 22, 23, 24, 25, 26, 27, 28, 29, 30, 31, 32, 33, 34, 35, 36, 37, 38, 39] (by decide +kernel) (by decide +kernel)
set_option maxRecDepth 20000 in
theorem gX10_yawns_X10_yawnsOf : GoodIn wsX10_yawns (wsV RX10 180 RX10 yX10_yawnsOf wsX10_yawnsOf) := goodIn_app (goodIn_of _ (by decide +kernel)) ggX10_yawns_X10_yawnsOf
theorem dX10_yawns_0 : decode cX10_yawns 0 = .ok (.iconst 0, 1) := by decide +kernel
theorem dX10_yawns_1 : decode cX10_yawns 1 = .ok (.istore_n 1, 1) := by decide +kernel
theorem dX10_yawns_2 : decode cX10_yawns 2 = .ok (.iconst 0, 1) := by decide +kernel
theorem dX10_yawns_3 : decode cX10_yawns 3 = .ok (.istore_n 2, 1) := by decide +kernel
theorem dX10_yawns_4 : decode cX10_yawns 4 = .ok (.iload_n 2, 1) := by decide +kernel
theorem dX10_yawns_5 : decode cX10_yawns 5 = .ok (.iconst 5, 1) := by decide +kernel
theorem dX10_yawns_6 : decode cX10_yawns 6 = .ok (.if_icmp .ge 17, 3) := by decide +kernel
theorem dX10_yawns_9 : decode cX10_yawns 9 = .ok (.iload_n 1, 1) := by decide +kernel
theorem dX10_yawns_10 : decode cX10_yawns 10 = .ok (.aload_n 0, 1) := by decide +kernel
theorem dX10_yawns_11 : decode cX10_yawns 11 = .ok (.iload_n 2, 1) := by decide +kernel
theorem dX10_yawns_12 : decode cX10_yawns 12 = .ok (.invokevirtual 180, 3) := by decide +kernel
theorem dX10_yawns_15 : decode cX10_yawns 15 = .ok (.iadd, 1) := by decide +kernel
theorem dX10_yawns_16 : decode cX10_yawns 16 = .ok (.istore_n 1, 1) := by decide +kernel
theorem dX10_yawns_17 : decode cX10_yawns 17 = .ok (.iinc 2 1, 3) := by decide +kernel
theorem dX10_yawns_20 : decode cX10_yawns 20 = .ok (.goto (-16), 3) := by decide +kernel
theorem dX10_yawns_23 : decode cX10_yawns 23 = .ok (.iload_n 1, 1) := by decide +kernel
theorem dX10_yawns_24 : decode cX10_yawns 24 = .ok (.ireturn, 1) := by decide +kernel
set_option maxRecDepth 20000 in
theorem ggX10_otherwise_X10_flag : GoodIn wsX10_otherwise wsX10_flag := goodIn_r _ [5] (by decide +kernel) (by decide +kernel)
set_option maxRecDepth 20000 in
theorem gX10_otherwise_X10_flag : GoodIn wsX10_otherwise (va_wsS RX10 176 yX10_flag wsX10_flag) := goodIn_app (goodIn_of _ (by decide +kernel)) ggX10_otherwise_X10_flag
theorem dX10_otherwise_0 : decode cX10_otherwise 0 = .ok (.iconst 0, 1) := by decide +kernel
theorem dX10_otherwise_1 : decode cX10_otherwise 1 = .ok (.istore_n 2, 1) := by decide +kernel
theorem dX10_otherwise_2 : decode cX10_otherwise 2 = .ok (.iconst 0, 1) := by decide +kernel
theorem dX10_otherwise_3 : decode cX10_otherwise 3 = .ok (.istore_n 3, 1) := by decide +kernel
theorem dX10_otherwise_4 : decode cX10_otherwise 4 = .ok (.iload_n 3, 1) := by decide +kernel
theorem dX10_otherwise_5 : decode cX10_otherwise 5 = .ok (.bipush 24, 2) := by decide +kernel
theorem dX10_otherwise_7 : decode cX10_otherwise 7 = .ok (.if_icmp .ge 37, 3) := by decide +kernel
theorem dX10_otherwise_10 : decode cX10_otherwise 10 = .ok (.iload_n 2, 1) := by decide +kernel
theorem dX10_otherwise_11 : decode cX10_otherwise 11 = .ok (.aload_n 0, 1) := by decide +kernel
theorem dX10_otherwise_12 : decode cX10_otherwise 12 = .ok (.getfield 32, 3) := by decide +kernel
theorem dX10_otherwise_15 : decode cX10_otherwise 15 = .ok (.bipush 24, 2) := by decide +kernel
theorem dX10_otherwise_17 : decode cX10_otherwise 17 = .ok (.iload_n 1, 1) := by decide +kernel
theorem dX10_otherwise_18 : decode cX10_otherwise 18 = .ok (.imul, 1) := by decide +kernel
theorem dX10_otherwise_19 : decode cX10_otherwise 19 = .ok (.iload_n 3, 1) := by decide +kernel
theorem dX10_otherwise_20 : decode cX10_otherwise 20 = .ok (.iadd, 1) := by decide +kernel
theorem dX10_otherwise_21 : decode cX10_otherwise 21 = .ok (.iaload, 1) := by decide +kernel
theorem dX10_otherwise_22 : decode cX10_otherwise 22 = .ok (.iload_n 3, 1) := by decide +kernel
theorem dX10_otherwise_23 : decode cX10_otherwise 23 = .ok (.if_icmp .eq 7, 3) := by decide +kernel
theorem dX10_otherwise_26 : decode cX10_otherwise 26 = .ok (.iconst 1, 1) := by decide +kernel
theorem dX10_otherwise_27 : decode cX10_otherwise 27 = .ok (.goto 4, 3) := by decide +kernel
theorem dX10_otherwise_30 : decode cX10_otherwise 30 = .ok (.iconst 0, 1) := by decide +kernel
theorem dX10_otherwise_31 : decode cX10_otherwise 31 = .ok (.invokestatic 176, 3) := by decide +kernel
theorem dX10_otherwise_34 : decode cX10_otherwise 34 = .ok (.iload_n 3, 1) := by decide +kernel
theorem dX10_otherwise_35 : decode cX10_otherwise 35 = .ok (.ishl, 1) := by decide +kernel
theorem dX10_otherwise_36 : decode cX10_otherwise 36 = .ok (.ior, 1) := by decide +kernel
theorem dX10_otherwise_37 : decode cX10_otherwise 37 = .ok (.istore_n 2, 1) := by decide +kernel
theorem dX10_otherwise_38 : decode cX10_otherwise 38 = .ok (.iinc 3 1, 3) := by decide +kernel
theorem dX10_otherwise_41 : decode cX10_otherwise 41 = .ok (.goto (-37), 3) := by decide +kernel
theorem dX10_otherwise_44 : decode cX10_otherwise 44 = .ok (.iload_n 2, 1) := by decide +kernel
theorem dX10_otherwise_45 : decode cX10_otherwise 45 = .ok (.ireturn, 1) := by decide +kernel
set_option maxRecDepth 20000 in
theorem ggX10_looksAtDay_X10_fetches : GoodIn wsX10_looksAtDay wsX10_fetches := goodIn_r _ [5, 6, 7, 37, 38, 39, 40, 41, 42, 43, 44, 45, 46, 47, 48, 49, 50, 51, 52, 53, 54, 55, 56, 57, 58, 59, 60, 61, 62, 63, 64, 65, 66] (by decide +kernel) (by decide +kernel)
set_option maxRecDepth 20000 in
theorem gX10_looksAtDay_X10_fetches : GoodIn wsX10_looksAtDay (wsV RX10 183 RX10 yX10_fetches wsX10_fetches) := goodIn_app (goodIn_of _ (by decide +kernel)) ggX10_looksAtDay_X10_fetches
set_option maxRecDepth 20000 in
theorem ggX10_looksAtDay_X10_dayGoes : GoodIn wsX10_looksAtDay wsX10_dayGoes := goodIn_r _ [11, 12, 13, 6, 14, 15, 16, 4, 17, 18, 19, 20, 21, 22, 23, 24, 25, 26, 27, 28, 29, 30, 31, 32, 33, 34, 35, 36, 37, 38, 39, 40, 41, 42, 43, 44, 45, 46, 47, 48, 49, 50, 51, 52, 53, 54, 55, 56, 57, 58, 59, 60, 61, 62, 63, 64, 65, 66] (by decide +kernel) (by decide +kernel)
set_option maxRecDepth 20000 in
theorem gX10_looksAtDay_X10_dayGoes : GoodIn wsX10_looksAtDay (wsV RX10 186 RX10 yX10_dayGoes wsX10_dayGoes) := goodIn_app (goodIn_of _ (by decide +kernel)) ggX10_looksAtDay_X10_dayGoes
theorem dX10_looksAtDay_0 : decode cX10_looksAtDay 0 = .ok (.aload_n 0, 1) := by decide +kernel
theorem dX10_looksAtDay_1 : decode cX10_looksAtDay 1 = .ok (.invokevirtual 183, 3) := by decide +kernel
theorem dX10_looksAtDay_4 : decode cX10_looksAtDay 4 = .ok (.aload_n 0, 1) := by decide +kernel
theorem dX10_looksAtDay_5 : decode cX10_looksAtDay 5 = .ok (.invokevirtual 186, 3) := by decide +kernel
theorem dX10_looksAtDay_8 : decode cX10_looksAtDay 8 = .ok (.return_, 1) := by decide +kernel
set_option maxRecDepth 20000 in
theorem ggX10_rule_X10_looksAtDay : GoodIn wsX10_rule wsX10_looksAtDay := goodIn_r _ [7, 8, 9, 10, 6, 11, 12, 2, 13, 14, 15, 16, 17, 1, 18, 19, 20, 21, 22, 23, 24, 25, 26, 27, 28, 29, 30, 31, 32, 33, 34, 35, 36, 37, 38, 39, 40, 64, 65, 66, 67, 68, 69, 70, 71, 72, 73, 74, 75, 76, 77, 78, 79, 80, 81, 82, 83, 84, 85, 86, 87, 88, 89, 90, 91, 92, 93] (by decide +kernel) (by decide +kernel)
set_option maxRecDepth 20000 in
theorem gX10_rule_X10_looksAtDay : GoodIn wsX10_rule (wsV RX10 189 RX10 yX10_looksAtDay wsX10_looksAtDay) := goodIn_app (goodIn_of _ (by decide +kernel)) ggX10_rule_X10_looksAtDay
set_option maxRecDepth 20000 in
theorem ggX10_rule_X10_flag : GoodIn wsX10_rule wsX10_flag := goodIn_r _ [43] (by decide +kernel) (by decide +kernel)
set_option maxRecDepth 20000 in
theorem gX10_rule_X10_flag : GoodIn wsX10_rule (va_wsS RX10 176 yX10_flag wsX10_flag) := goodIn_app (goodIn_of _ (by decide +kernel)) ggX10_rule_X10_flag
set_option maxRecDepth 20000 in
theorem ggX10_rule_X10_allOf : GoodIn wsX10_rule wsX10_allOf := goodIn_r _ [47, 12, 30, 31, 32, 6, 33, 64, 65, 66, 67, 68, 69, 70, 71, 72, 73, 74, 75, 76, 77, 78, 79, 80, 81, 82, 83, 84, 85, 86, 87, 88, 89, 90, 91, 92, 93] (by decide +kernel) (by decide +kernel)
set_option maxRecDepth 20000 in
theorem gX10_rule_X10_allOf : GoodIn wsX10_rule (wsV RX10 192 RX10 yX10_allOf wsX10_allOf) := goodIn_app (goodIn_of _ (by decide +kernel)) ggX10_rule_X10_allOf
set_option maxRecDepth 20000 in
theorem ggX10_rule_X10_allWrong : GoodIn wsX10_rule wsX10_allWrong := goodIn_r _ [51, 12, 52, 53, 54, 6, 55, 18, 19, 20, 21, 22, 23, 24, 25, 26, 27, 28, 29, 30, 31, 32, 33, 38, 39, 40, 64, 65, 66, 67, 68, 69, 70, 71, 72, 73, 74, 75, 76, 77, 78, 79, 80, 81, 82, 83, 84, 85, 86, 87, 88, 89, 90, 91, 92, 93] (by decide +kernel) (by decide +kernel)
set_option maxRecDepth 20000 in
theorem gX10_rule_X10_allWrong : GoodIn wsX10_rule (wsV RX10 195 RX10 yX10_allWrong wsX10_allWrong) := goodIn_app (goodIn_of _ (by decide +kernel)) ggX10_rule_X10_allWrong
set_option maxRecDepth 20000 in
theorem ggX10_rule_X10_yawns : GoodIn wsX10_rule wsX10_yawns := goodIn_r _ [59, 60, 61, 62, 6, 63, 1, 41, 42, 43, 64, 65, 66, 67, 68, 69, 70, 71, 72, 73, 74, 75, 76, 77, 78, 79, 80, 81, 82, 83, 84, 85, 86, 87, 88, 89, 90, 91, 92, 93] (by decide +kernel) (by decide +kernel)
set_option maxRecDepth 20000 in
theorem gX10_rule_X10_yawns : GoodIn wsX10_rule (wsV RX10 198 RX10 yX10_yawns wsX10_yawns) := goodIn_app (goodIn_of _ (by decide +kernel)) ggX10_rule_X10_yawns
theorem dX10_rule_0 : decode cX10_rule 0 = .ok (.aload_n 0, 1) := by decide +kernel
theorem dX10_rule_1 : decode cX10_rule 1 = .ok (.invokevirtual 189, 3) := by decide +kernel
theorem dX10_rule_4 : decode cX10_rule 4 = .ok (.iconst 0, 1) := by decide +kernel
theorem dX10_rule_5 : decode cX10_rule 5 = .ok (.istore_n 2, 1) := by decide +kernel
theorem dX10_rule_6 : decode cX10_rule 6 = .ok (.iconst 0, 1) := by decide +kernel
theorem dX10_rule_7 : decode cX10_rule 7 = .ok (.istore_n 3, 1) := by decide +kernel
theorem dX10_rule_8 : decode cX10_rule 8 = .ok (.iload_n 3, 1) := by decide +kernel
theorem dX10_rule_9 : decode cX10_rule 9 = .ok (.bipush 120, 2) := by decide +kernel
theorem dX10_rule_11 : decode cX10_rule 11 = .ok (.if_icmp .ge 33, 3) := by decide +kernel
theorem dX10_rule_14 : decode cX10_rule 14 = .ok (.iload_n 2, 1) := by decide +kernel
theorem dX10_rule_15 : decode cX10_rule 15 = .ok (.aload_n 0, 1) := by decide +kernel
theorem dX10_rule_16 : decode cX10_rule 16 = .ok (.getfield 32, 3) := by decide +kernel
theorem dX10_rule_19 : decode cX10_rule 19 = .ok (.iload_n 3, 1) := by decide +kernel
theorem dX10_rule_20 : decode cX10_rule 20 = .ok (.iaload, 1) := by decide +kernel
theorem dX10_rule_21 : decode cX10_rule 21 = .ok (.iload_n 3, 1) := by decide +kernel
theorem dX10_rule_22 : decode cX10_rule 22 = .ok (.bipush 24, 2) := by decide +kernel
theorem dX10_rule_24 : decode cX10_rule 24 = .ok (.irem, 1) := by decide +kernel
theorem dX10_rule_25 : decode cX10_rule 25 = .ok (.if_icmp .eq 7, 3) := by decide +kernel
theorem dX10_rule_28 : decode cX10_rule 28 = .ok (.iconst 1, 1) := by decide +kernel
theorem dX10_rule_29 : decode cX10_rule 29 = .ok (.goto 4, 3) := by decide +kernel
theorem dX10_rule_32 : decode cX10_rule 32 = .ok (.iconst 0, 1) := by decide +kernel
theorem dX10_rule_33 : decode cX10_rule 33 = .ok (.invokestatic 176, 3) := by decide +kernel
theorem dX10_rule_36 : decode cX10_rule 36 = .ok (.iadd, 1) := by decide +kernel
theorem dX10_rule_37 : decode cX10_rule 37 = .ok (.istore_n 2, 1) := by decide +kernel
theorem dX10_rule_38 : decode cX10_rule 38 = .ok (.iinc 3 1, 3) := by decide +kernel
theorem dX10_rule_41 : decode cX10_rule 41 = .ok (.goto (-33), 3) := by decide +kernel
theorem dX10_rule_44 : decode cX10_rule 44 = .ok (.iload_n 1, 1) := by decide +kernel
theorem dX10_rule_45 : decode cX10_rule 45 = .ok (.tableswitch 73 0 5 #[39, 47, 55, 61, 66, 71], 39) := by decide +kernel
theorem dX10_rule_84 : decode cX10_rule 84 = .ok (.aload_n 0, 1) := by decide +kernel
theorem dX10_rule_85 : decode cX10_rule 85 = .ok (.getfield 7, 3) := by decide +kernel
theorem dX10_rule_88 : decode cX10_rule 88 = .ok (.bipush 30, 2) := by decide +kernel
theorem dX10_rule_90 : decode cX10_rule 90 = .ok (.iaload, 1) := by decide +kernel
theorem dX10_rule_91 : decode cX10_rule 91 = .ok (.ireturn, 1) := by decide +kernel
theorem dX10_rule_92 : decode cX10_rule 92 = .ok (.aload_n 0, 1) := by decide +kernel
theorem dX10_rule_93 : decode cX10_rule 93 = .ok (.getfield 7, 3) := by decide +kernel
theorem dX10_rule_96 : decode cX10_rule 96 = .ok (.bipush 36, 2) := by decide +kernel
theorem dX10_rule_98 : decode cX10_rule 98 = .ok (.iaload, 1) := by decide +kernel
theorem dX10_rule_99 : decode cX10_rule 99 = .ok (.ireturn, 1) := by decide +kernel
theorem dX10_rule_100 : decode cX10_rule 100 = .ok (.aload_n 0, 1) := by decide +kernel
theorem dX10_rule_101 : decode cX10_rule 101 = .ok (.iconst 1, 1) := by decide +kernel
theorem dX10_rule_102 : decode cX10_rule 102 = .ok (.invokevirtual 192, 3) := by decide +kernel
theorem dX10_rule_105 : decode cX10_rule 105 = .ok (.ireturn, 1) := by decide +kernel
theorem dX10_rule_106 : decode cX10_rule 106 = .ok (.aload_n 0, 1) := by decide +kernel
theorem dX10_rule_107 : decode cX10_rule 107 = .ok (.invokevirtual 195, 3) := by decide +kernel
theorem dX10_rule_110 : decode cX10_rule 110 = .ok (.ireturn, 1) := by decide +kernel
theorem dX10_rule_111 : decode cX10_rule 111 = .ok (.aload_n 0, 1) := by decide +kernel
theorem dX10_rule_112 : decode cX10_rule 112 = .ok (.invokevirtual 198, 3) := by decide +kernel
theorem dX10_rule_115 : decode cX10_rule 115 = .ok (.ireturn, 1) := by decide +kernel
theorem dX10_rule_116 : decode cX10_rule 116 = .ok (.iload_n 2, 1) := by decide +kernel
theorem dX10_rule_117 : decode cX10_rule 117 = .ok (.ireturn, 1) := by decide +kernel
theorem dX10_rule_118 : decode cX10_rule 118 = .ok (.iconst (-1), 1) := by decide +kernel
theorem dX10_rule_119 : decode cX10_rule 119 = .ok (.ireturn, 1) := by decide +kernel
set_option maxRecDepth 20000 in
theorem ggX10_box_X10_isBox : GoodIn wsX10_box wsX10_isBox := goodIn_r _ [6, 7, 8, 9, 5, 10, 43, 44, 45, 46, 47, 48, 49, 50, 51, 52, 53, 54, 55, 56, 57, 58, 59, 60, 61, 62, 63, 64, 65, 66, 67, 68, 69, 70, 71, 72] (by decide +kernel) (by decide +kernel)
set_option maxRecDepth 20000 in
theorem gX10_box_X10_isBox : GoodIn wsX10_box (wsV RX10 201 RX10 yX10_isBox wsX10_isBox) := goodIn_app (goodIn_of _ (by decide +kernel)) ggX10_box_X10_isBox
set_option maxRecDepth 20000 in
theorem ggX10_box_X10_in : GoodIn wsX10_box wsX10_in := goodIn_r _ [10] (by decide +kernel) (by decide +kernel)
set_option maxRecDepth 20000 in
theorem gX10_box_X10_in : GoodIn wsX10_box (va_wsS RX10 78 yX10_in wsX10_in) := goodIn_app (goodIn_of _ (by decide +kernel)) ggX10_box_X10_in
set_option maxRecDepth 20000 in
theorem ggX10_box_X10_fetches : GoodIn wsX10_box wsX10_fetches := goodIn_r _ [14, 15, 7, 43, 44, 45, 46, 47, 48, 49, 50, 51, 52, 53, 54, 55, 56, 57, 58, 59, 60, 61, 62, 63, 64, 65, 66, 67, 68, 69, 70, 71, 72] (by decide +kernel) (by decide +kernel)
set_option maxRecDepth 20000 in
theorem gX10_box_X10_fetches : GoodIn wsX10_box (wsV RX10 183 RX10 yX10_fetches wsX10_fetches) := goodIn_app (goodIn_of _ (by decide +kernel)) ggX10_box_X10_fetches
set_option maxRecDepth 20000 in
theorem ggX10_box_X10_lasts : GoodIn wsX10_box wsX10_lasts := goodIn_r _ [19, 20, 21, 22, 5, 23, 15, 43, 44, 45, 46, 47, 48, 49, 50, 51, 52, 53, 54, 55, 56, 57, 58, 59, 60, 61, 62, 63, 64, 65, 66, 67, 68, 69, 70, 71, 72] (by decide +kernel) (by decide +kernel)
set_option maxRecDepth 20000 in
theorem gX10_box_X10_lasts : GoodIn wsX10_box (wsV RX10 173 RX10 yX10_lasts wsX10_lasts) := goodIn_app (goodIn_of _ (by decide +kernel)) ggX10_box_X10_lasts
set_option maxRecDepth 20000 in
theorem ggX10_box_X10_ownHour : GoodIn wsX10_box wsX10_ownHour := goodIn_r _ [27, 28, 29, 30, 5, 31, 15, 32, 33, 34, 35, 20, 21, 22, 23, 43, 44, 45, 46, 47, 48, 49, 50, 51, 52, 53, 54, 55, 56, 57, 58, 59, 60, 61, 62, 63, 64, 65, 66, 67, 68, 69, 70, 71, 72] (by decide +kernel) (by decide +kernel)
set_option maxRecDepth 20000 in
theorem gX10_box_X10_ownHour : GoodIn wsX10_box (wsV RX10 164 RX10 yX10_ownHour wsX10_ownHour) := goodIn_app (goodIn_of _ (by decide +kernel)) ggX10_box_X10_ownHour
set_option maxRecDepth 20000 in
theorem ggX10_box_X10_wrong : GoodIn wsX10_box wsX10_wrong := goodIn_r _ [39, 24, 25, 26, 5, 27, 28, 29, 30, 31, 15, 32, 33, 34, 35, 20, 21, 22, 23, 40, 41, 42, 43, 44, 45, 46, 47, 48, 49, 50, 51, 52, 53, 54, 55, 56, 57, 58, 59, 60, 61, 62, 63, 64, 65, 66, 67, 68, 69, 70, 71, 72] (by decide +kernel) (by decide +kernel)
set_option maxRecDepth 20000 in
theorem gX10_box_X10_wrong : GoodIn wsX10_box (wsV RX10 170 RX10 yX10_wrong wsX10_wrong) := goodIn_app (goodIn_of _ (by decide +kernel)) ggX10_box_X10_wrong
set_option maxRecDepth 20000 in
theorem ggX10_box_X10_placeOf : GoodIn wsX10_box wsX10_placeOf := goodIn_r _ [31, 15, 43, 44, 45, 46, 47, 48, 49, 50, 51, 52, 53, 54, 55, 56, 57, 58, 59, 60, 61, 62, 63, 64, 65, 66, 67, 68, 69, 70, 71, 72] (by decide +kernel) (by decide +kernel)
set_option maxRecDepth 20000 in
theorem gX10_box_X10_placeOf : GoodIn wsX10_box (wsV RX10 158 RX10 yX10_placeOf wsX10_placeOf) := goodIn_app (goodIn_of _ (by decide +kernel)) ggX10_box_X10_placeOf
set_option maxRecDepth 20000 in
theorem ggX10_box_X10_of : GoodIn wsX10_box wsX10_of := goodIn_r _ [23, 15, 43, 44, 45, 46, 47, 48, 49, 50, 51, 52, 53, 54, 55, 56, 57, 58, 59, 60, 61, 62, 63, 64, 65, 66, 67, 68, 69, 70, 71, 72] (by decide +kernel) (by decide +kernel)
set_option maxRecDepth 20000 in
theorem gX10_box_X10_of : GoodIn wsX10_box (wsV RX10 155 RX10 yX10_of wsX10_of) := goodIn_app (goodIn_of _ (by decide +kernel)) ggX10_box_X10_of
theorem dX10_box_0 : decode cX10_box 0 = .ok (.aload_n 0, 1) := by decide +kernel
theorem dX10_box_1 : decode cX10_box 1 = .ok (.iload_n 1, 1) := by decide +kernel
theorem dX10_box_2 : decode cX10_box 2 = .ok (.invokevirtual 201, 3) := by decide +kernel
theorem dX10_box_5 : decode cX10_box 5 = .ok (.ifCond .eq 15, 3) := by decide +kernel
theorem dX10_box_8 : decode cX10_box 8 = .ok (.iload_n 2, 1) := by decide +kernel
theorem dX10_box_9 : decode cX10_box 9 = .ok (.i2l, 1) := by decide +kernel
theorem dX10_box_10 : decode cX10_box 10 = .ok (.lconst 0, 1) := by decide +kernel
theorem dX10_box_11 : decode cX10_box 11 = .ok (.ldc2_w 205, 3) := by decide +kernel
theorem dX10_box_14 : decode cX10_box 14 = .ok (.invokestatic 78, 3) := by decide +kernel
theorem dX10_box_17 : decode cX10_box 17 = .ok (.ifCond .ne 5, 3) := by decide +kernel
theorem dX10_box_20 : decode cX10_box 20 = .ok (.iconst (-1), 1) := by decide +kernel
theorem dX10_box_21 : decode cX10_box 21 = .ok (.ireturn, 1) := by decide +kernel
theorem dX10_box_22 : decode cX10_box 22 = .ok (.aload_n 0, 1) := by decide +kernel
theorem dX10_box_23 : decode cX10_box 23 = .ok (.invokevirtual 183, 3) := by decide +kernel
theorem dX10_box_26 : decode cX10_box 26 = .ok (.iload_n 2, 1) := by decide +kernel
theorem dX10_box_27 : decode cX10_box 27 = .ok (.tableswitch 53 6 9 #[29, 35, 41, 47], 29) := by decide +kernel
theorem dX10_box_56 : decode cX10_box 56 = .ok (.aload_n 0, 1) := by decide +kernel
theorem dX10_box_57 : decode cX10_box 57 = .ok (.iload_n 1, 1) := by decide +kernel
theorem dX10_box_58 : decode cX10_box 58 = .ok (.invokevirtual 173, 3) := by decide +kernel
theorem dX10_box_61 : decode cX10_box 61 = .ok (.ireturn, 1) := by decide +kernel
theorem dX10_box_62 : decode cX10_box 62 = .ok (.aload_n 0, 1) := by decide +kernel
theorem dX10_box_63 : decode cX10_box 63 = .ok (.iload_n 1, 1) := by decide +kernel
theorem dX10_box_64 : decode cX10_box 64 = .ok (.invokevirtual 164, 3) := by decide +kernel
theorem dX10_box_67 : decode cX10_box 67 = .ok (.ireturn, 1) := by decide +kernel
theorem dX10_box_68 : decode cX10_box 68 = .ok (.aload_n 0, 1) := by decide +kernel
theorem dX10_box_69 : decode cX10_box 69 = .ok (.iload_n 1, 1) := by decide +kernel
theorem dX10_box_70 : decode cX10_box 70 = .ok (.invokevirtual 170, 3) := by decide +kernel
theorem dX10_box_73 : decode cX10_box 73 = .ok (.ireturn, 1) := by decide +kernel
theorem dX10_box_74 : decode cX10_box 74 = .ok (.aload_n 0, 1) := by decide +kernel
theorem dX10_box_75 : decode cX10_box 75 = .ok (.iload_n 1, 1) := by decide +kernel
theorem dX10_box_76 : decode cX10_box 76 = .ok (.invokevirtual 158, 3) := by decide +kernel
theorem dX10_box_79 : decode cX10_box 79 = .ok (.ireturn, 1) := by decide +kernel
theorem dX10_box_80 : decode cX10_box 80 = .ok (.aload_n 0, 1) := by decide +kernel
theorem dX10_box_81 : decode cX10_box 81 = .ok (.iload_n 1, 1) := by decide +kernel
theorem dX10_box_82 : decode cX10_box 82 = .ok (.iload_n 2, 1) := by decide +kernel
theorem dX10_box_83 : decode cX10_box 83 = .ok (.invokevirtual 155, 3) := by decide +kernel
theorem dX10_box_86 : decode cX10_box 86 = .ok (.ireturn, 1) := by decide +kernel
set_option maxRecDepth 20000 in
theorem ggX10_order_X10_isBox : GoodIn wsX10_order wsX10_isBox := goodIn_r _ [6, 1, 7, 8, 5, 9, 26, 27, 28, 29, 30, 31, 32, 33, 34, 35, 36, 37, 38, 39, 40, 41, 42, 43, 44, 45, 46, 47, 48, 49, 50, 51, 52, 53, 54, 55] (by decide +kernel) (by decide +kernel)
set_option maxRecDepth 20000 in
theorem gX10_order_X10_isBox : GoodIn wsX10_order (wsV RX10 201 RX10 yX10_isBox wsX10_isBox) := goodIn_app (goodIn_of _ (by decide +kernel)) ggX10_order_X10_isBox
set_option maxRecDepth 20000 in
theorem ggX10_order_X10_isPart : GoodIn wsX10_order wsX10_isPart := goodIn_r _ [12, 7, 8, 5, 9] (by decide +kernel) (by decide +kernel)
set_option maxRecDepth 20000 in
theorem gX10_order_X10_isPart : GoodIn wsX10_order (va_wsS RX10 207 yX10_isPart wsX10_isPart) := goodIn_app (goodIn_of _ (by decide +kernel)) ggX10_order_X10_isPart
set_option maxRecDepth 20000 in
theorem ggX10_order_X10_fetches : GoodIn wsX10_order wsX10_fetches := goodIn_r _ [16, 17, 1, 26, 27, 28, 29, 30, 31, 32, 33, 34, 35, 36, 37, 38, 39, 40, 41, 42, 43, 44, 45, 46, 47, 48, 49, 50, 51, 52, 53, 54, 55] (by decide +kernel) (by decide +kernel)
set_option maxRecDepth 20000 in
theorem gX10_order_X10_fetches : GoodIn wsX10_order (wsV RX10 183 RX10 yX10_fetches wsX10_fetches) := goodIn_app (goodIn_of _ (by decide +kernel)) ggX10_order_X10_fetches
set_option maxRecDepth 20000 in
theorem ggX10_order_X10_doneIn : GoodIn wsX10_order wsX10_doneIn := goodIn_r _ [21, 17, 22, 23, 24, 5, 25, 26, 27, 28, 29, 30, 31, 32, 33, 34, 35, 36, 37, 38, 39, 40, 41, 42, 43, 44, 45, 46, 47, 48, 49, 50, 51, 52, 53, 54, 55] (by decide +kernel) (by decide +kernel)
set_option maxRecDepth 20000 in
theorem gX10_order_X10_doneIn : GoodIn wsX10_order (wsV RX10 161 RX10 yX10_doneIn wsX10_doneIn) := goodIn_app (goodIn_of _ (by decide +kernel)) ggX10_order_X10_doneIn
theorem dX10_order_0 : decode cX10_order 0 = .ok (.aload_n 0, 1) := by decide +kernel
theorem dX10_order_1 : decode cX10_order 1 = .ok (.iload_n 1, 1) := by decide +kernel
theorem dX10_order_2 : decode cX10_order 2 = .ok (.invokevirtual 201, 3) := by decide +kernel
theorem dX10_order_5 : decode cX10_order 5 = .ok (.ifCond .eq 10, 3) := by decide +kernel
theorem dX10_order_8 : decode cX10_order 8 = .ok (.iload_n 2, 1) := by decide +kernel
theorem dX10_order_9 : decode cX10_order 9 = .ok (.invokestatic 207, 3) := by decide +kernel
theorem dX10_order_12 : decode cX10_order 12 = .ok (.ifCond .ne 5, 3) := by decide +kernel
theorem dX10_order_15 : decode cX10_order 15 = .ok (.iconst (-1), 1) := by decide +kernel
theorem dX10_order_16 : decode cX10_order 16 = .ok (.ireturn, 1) := by decide +kernel
theorem dX10_order_17 : decode cX10_order 17 = .ok (.aload_n 0, 1) := by decide +kernel
theorem dX10_order_18 : decode cX10_order 18 = .ok (.invokevirtual 183, 3) := by decide +kernel
theorem dX10_order_21 : decode cX10_order 21 = .ok (.iload_n 2, 1) := by decide +kernel
theorem dX10_order_22 : decode cX10_order 22 = .ok (.ifCond .ne 15, 3) := by decide +kernel
theorem dX10_order_25 : decode cX10_order 25 = .ok (.aload_n 0, 1) := by decide +kernel
theorem dX10_order_26 : decode cX10_order 26 = .ok (.getfield 7, 3) := by decide +kernel
theorem dX10_order_29 : decode cX10_order 29 = .ok (.bipush 31, 2) := by decide +kernel
theorem dX10_order_31 : decode cX10_order 31 = .ok (.iload_n 1, 1) := by decide +kernel
theorem dX10_order_32 : decode cX10_order 32 = .ok (.iadd, 1) := by decide +kernel
theorem dX10_order_33 : decode cX10_order 33 = .ok (.iaload, 1) := by decide +kernel
theorem dX10_order_34 : decode cX10_order 34 = .ok (.goto 8, 3) := by decide +kernel
theorem dX10_order_37 : decode cX10_order 37 = .ok (.aload_n 0, 1) := by decide +kernel
theorem dX10_order_38 : decode cX10_order 38 = .ok (.iload_n 1, 1) := by decide +kernel
theorem dX10_order_39 : decode cX10_order 39 = .ok (.invokevirtual 161, 3) := by decide +kernel
theorem dX10_order_42 : decode cX10_order 42 = .ok (.ireturn, 1) := by decide +kernel
theorem dX10_becomes_0 : decode cX10_becomes 0 = .ok (.aload_n 0, 1) := by decide +kernel
theorem dX10_becomes_1 : decode cX10_becomes 1 = .ok (.getfield 7, 3) := by decide +kernel
theorem dX10_becomes_4 : decode cX10_becomes 4 = .ok (.iload_n 1, 1) := by decide +kernel
theorem dX10_becomes_5 : decode cX10_becomes 5 = .ok (.iaload, 1) := by decide +kernel
theorem dX10_becomes_6 : decode cX10_becomes 6 = .ok (.istore_n 3, 1) := by decide +kernel
theorem dX10_becomes_7 : decode cX10_becomes 7 = .ok (.aload_n 0, 1) := by decide +kernel
theorem dX10_becomes_8 : decode cX10_becomes 8 = .ok (.getfield 7, 3) := by decide +kernel
theorem dX10_becomes_11 : decode cX10_becomes 11 = .ok (.iload_n 1, 1) := by decide +kernel
theorem dX10_becomes_12 : decode cX10_becomes 12 = .ok (.iload_n 2, 1) := by decide +kernel
theorem dX10_becomes_13 : decode cX10_becomes 13 = .ok (.iastore, 1) := by decide +kernel
theorem dX10_becomes_14 : decode cX10_becomes 14 = .ok (.iload_n 3, 1) := by decide +kernel
theorem dX10_becomes_15 : decode cX10_becomes 15 = .ok (.ireturn, 1) := by decide +kernel
set_option maxRecDepth 20000 in
theorem ggX10_canBe_X10_in : GoodIn wsX10_canBe wsX10_in := goodIn_r _ [7] (by decide +kernel) (by decide +kernel)
set_option maxRecDepth 20000 in
theorem gX10_canBe_X10_in : GoodIn wsX10_canBe (va_wsS RX10 78 yX10_in wsX10_in) := goodIn_app (goodIn_of _ (by decide +kernel)) ggX10_canBe_X10_in
set_option maxRecDepth 20000 in
theorem ggX10_canBe_X10_isHour : GoodIn wsX10_canBe wsX10_isHour := goodIn_r _ [10, 11, 4, 5, 6, 7] (by decide +kernel) (by decide +kernel)
set_option maxRecDepth 20000 in
theorem gX10_canBe_X10_isHour : GoodIn wsX10_canBe (va_wsS RX10 214 yX10_isHour wsX10_isHour) := goodIn_app (goodIn_of _ (by decide +kernel)) ggX10_canBe_X10_isHour
set_option maxRecDepth 20000 in
theorem ggX10_canBe_X10_isRoom : GoodIn wsX10_canBe wsX10_isRoom := goodIn_r _ [14, 15, 4, 5, 6, 7] (by decide +kernel) (by decide +kernel)
set_option maxRecDepth 20000 in
theorem gX10_canBe_X10_isRoom : GoodIn wsX10_canBe (va_wsS RX10 217 yX10_isRoom wsX10_isRoom) := goodIn_app (goodIn_of _ (by decide +kernel)) ggX10_canBe_X10_isRoom
theorem dX10_canBe_0 : decode cX10_canBe 0 = .ok (.iload_n 0, 1) := by decide +kernel
theorem dX10_canBe_1 : decode cX10_canBe 1 = .ok (.tableswitch 79 0 5 #[39, 49, 59, 64, 59, 74], 39) := by decide +kernel
theorem dX10_canBe_40 : decode cX10_canBe 40 = .ok (.iload_n 1, 1) := by decide +kernel
theorem dX10_canBe_41 : decode cX10_canBe 41 = .ok (.i2l, 1) := by decide +kernel
theorem dX10_canBe_42 : decode cX10_canBe 42 = .ok (.lconst 0, 1) := by decide +kernel
theorem dX10_canBe_43 : decode cX10_canBe 43 = .ok (.ldc2_w 210, 3) := by decide +kernel
theorem dX10_canBe_46 : decode cX10_canBe 46 = .ok (.invokestatic 78, 3) := by decide +kernel
theorem dX10_canBe_49 : decode cX10_canBe 49 = .ok (.ireturn, 1) := by decide +kernel
theorem dX10_canBe_50 : decode cX10_canBe 50 = .ok (.iload_n 1, 1) := by decide +kernel
theorem dX10_canBe_51 : decode cX10_canBe 51 = .ok (.i2l, 1) := by decide +kernel
theorem dX10_canBe_52 : decode cX10_canBe 52 = .ok (.lconst 1, 1) := by decide +kernel
theorem dX10_canBe_53 : decode cX10_canBe 53 = .ok (.ldc2_w 212, 3) := by decide +kernel
theorem dX10_canBe_56 : decode cX10_canBe 56 = .ok (.invokestatic 78, 3) := by decide +kernel
theorem dX10_canBe_59 : decode cX10_canBe 59 = .ok (.ireturn, 1) := by decide +kernel
theorem dX10_canBe_60 : decode cX10_canBe 60 = .ok (.iload_n 1, 1) := by decide +kernel
theorem dX10_canBe_61 : decode cX10_canBe 61 = .ok (.invokestatic 214, 3) := by decide +kernel
theorem dX10_canBe_64 : decode cX10_canBe 64 = .ok (.ireturn, 1) := by decide +kernel
theorem dX10_canBe_65 : decode cX10_canBe 65 = .ok (.iload_n 1, 1) := by decide +kernel
theorem dX10_canBe_66 : decode cX10_canBe 66 = .ok (.i2l, 1) := by decide +kernel
theorem dX10_canBe_67 : decode cX10_canBe 67 = .ok (.lconst 1, 1) := by decide +kernel
theorem dX10_canBe_68 : decode cX10_canBe 68 = .ok (.ldc2_w 205, 3) := by decide +kernel
theorem dX10_canBe_71 : decode cX10_canBe 71 = .ok (.invokestatic 78, 3) := by decide +kernel
theorem dX10_canBe_74 : decode cX10_canBe 74 = .ok (.ireturn, 1) := by decide +kernel
theorem dX10_canBe_75 : decode cX10_canBe 75 = .ok (.iload_n 1, 1) := by decide +kernel
theorem dX10_canBe_76 : decode cX10_canBe 76 = .ok (.invokestatic 217, 3) := by decide +kernel
theorem dX10_canBe_79 : decode cX10_canBe 79 = .ok (.ireturn, 1) := by decide +kernel
theorem dX10_canBe_80 : decode cX10_canBe 80 = .ok (.iconst 0, 1) := by decide +kernel
theorem dX10_canBe_81 : decode cX10_canBe 81 = .ok (.ireturn, 1) := by decide +kernel
set_option maxRecDepth 20000 in
theorem ggX10_alter_X10_isBox : GoodIn wsX10_alter wsX10_isBox := goodIn_r _ [5, 6, 7, 8, 4, 9, 28, 29, 30, 31, 32, 33, 34, 35, 36, 37, 38, 39, 40, 41, 42, 43, 44, 45, 46, 47, 48, 49, 50, 51, 52, 53, 54, 55, 56, 57] (by decide +kernel) (by decide +kernel)
set_option maxRecDepth 20000 in
theorem gX10_alter_X10_isBox : GoodIn wsX10_alter (wsV RX10 201 RX10 yX10_isBox wsX10_isBox) := goodIn_app (goodIn_of _ (by decide +kernel)) ggX10_alter_X10_isBox
set_option maxRecDepth 20000 in
theorem ggX10_alter_X10_canBe : GoodIn wsX10_alter wsX10_canBe := goodIn_r _ [12, 13, 14, 15, 7, 8, 4, 9, 16, 17, 18, 19, 20, 21, 22, 23] (by decide +kernel) (by decide +kernel)
set_option maxRecDepth 20000 in
theorem gX10_alter_X10_canBe : GoodIn wsX10_alter (va_wsS RX10 220 yX10_canBe wsX10_canBe) := goodIn_app (goodIn_of _ (by decide +kernel)) ggX10_alter_X10_canBe
set_option maxRecDepth 20000 in
theorem ggX10_alter_X10_becomes : GoodIn wsX10_alter wsX10_becomes := goodIn_r _ [27, 6, 28, 29, 30, 31, 32, 33, 34, 35, 36, 37, 38, 39, 40, 41, 42, 43, 44, 45, 46, 47, 48, 49, 50, 51, 52, 53, 54, 55, 56, 57] (by decide +kernel) (by decide +kernel)
set_option maxRecDepth 20000 in
theorem gX10_alter_X10_becomes : GoodIn wsX10_alter (wsV RX10 223 RX10 yX10_becomes wsX10_becomes) := goodIn_app (goodIn_of _ (by decide +kernel)) ggX10_alter_X10_becomes
theorem dX10_alter_0 : decode cX10_alter 0 = .ok (.aload_n 0, 1) := by decide +kernel
theorem dX10_alter_1 : decode cX10_alter 1 = .ok (.iload_n 1, 1) := by decide +kernel
theorem dX10_alter_2 : decode cX10_alter 2 = .ok (.invokevirtual 201, 3) := by decide +kernel
theorem dX10_alter_5 : decode cX10_alter 5 = .ok (.ifCond .eq 25, 3) := by decide +kernel
theorem dX10_alter_8 : decode cX10_alter 8 = .ok (.iload_n 2, 1) := by decide +kernel
theorem dX10_alter_9 : decode cX10_alter 9 = .ok (.iload_n 3, 1) := by decide +kernel
theorem dX10_alter_10 : decode cX10_alter 10 = .ok (.invokestatic 220, 3) := by decide +kernel
theorem dX10_alter_13 : decode cX10_alter 13 = .ok (.ifCond .eq 17, 3) := by decide +kernel
theorem dX10_alter_16 : decode cX10_alter 16 = .ok (.aload_n 0, 1) := by decide +kernel
theorem dX10_alter_17 : decode cX10_alter 17 = .ok (.bipush 6, 2) := by decide +kernel
theorem dX10_alter_19 : decode cX10_alter 19 = .ok (.iload_n 1, 1) := by decide +kernel
theorem dX10_alter_20 : decode cX10_alter 20 = .ok (.imul, 1) := by decide +kernel
theorem dX10_alter_21 : decode cX10_alter 21 = .ok (.iload_n 2, 1) := by decide +kernel
theorem dX10_alter_22 : decode cX10_alter 22 = .ok (.iadd, 1) := by decide +kernel
theorem dX10_alter_23 : decode cX10_alter 23 = .ok (.iload_n 3, 1) := by decide +kernel
theorem dX10_alter_24 : decode cX10_alter 24 = .ok (.invokevirtual 223, 3) := by decide +kernel
theorem dX10_alter_27 : decode cX10_alter 27 = .ok (.goto 4, 3) := by decide +kernel
theorem dX10_alter_30 : decode cX10_alter 30 = .ok (.iconst (-1), 1) := by decide +kernel
theorem dX10_alter_31 : decode cX10_alter 31 = .ok (.ireturn, 1) := by decide +kernel
set_option maxRecDepth 20000 in
theorem ggX10_start_X10_isHour : GoodIn wsX10_start wsX10_isHour := goodIn_r _ [4, 5, 6, 7, 3, 8] (by decide +kernel) (by decide +kernel)
set_option maxRecDepth 20000 in
theorem gX10_start_X10_isHour : GoodIn wsX10_start (va_wsS RX10 214 yX10_isHour wsX10_isHour) := goodIn_app (goodIn_of _ (by decide +kernel)) ggX10_start_X10_isHour
set_option maxRecDepth 20000 in
theorem ggX10_start_X10_becomes : GoodIn wsX10_start wsX10_becomes := goodIn_r _ [12, 13, 14, 15, 16, 17, 18, 19, 20, 21, 22, 23, 24, 25, 26, 27, 28, 29, 30, 31, 32, 33, 34, 35, 36, 37, 38, 39, 40, 41, 42, 43] (by decide +kernel) (by decide +kernel)
set_option maxRecDepth 20000 in
theorem gX10_start_X10_becomes : GoodIn wsX10_start (wsV RX10 223 RX10 yX10_becomes wsX10_becomes) := goodIn_app (goodIn_of _ (by decide +kernel)) ggX10_start_X10_becomes
theorem dX10_start_0 : decode cX10_start 0 = .ok (.iload_n 1, 1) := by decide +kernel
theorem dX10_start_1 : decode cX10_start 1 = .ok (.invokestatic 214, 3) := by decide +kernel
theorem dX10_start_4 : decode cX10_start 4 = .ok (.ifCond .eq 13, 3) := by decide +kernel
theorem dX10_start_7 : decode cX10_start 7 = .ok (.aload_n 0, 1) := by decide +kernel
theorem dX10_start_8 : decode cX10_start 8 = .ok (.bipush 36, 2) := by decide +kernel
theorem dX10_start_10 : decode cX10_start 10 = .ok (.iload_n 1, 1) := by decide +kernel
theorem dX10_start_11 : decode cX10_start 11 = .ok (.invokevirtual 223, 3) := by decide +kernel
theorem dX10_start_14 : decode cX10_start 14 = .ok (.goto 4, 3) := by decide +kernel
theorem dX10_start_17 : decode cX10_start 17 = .ok (.iconst (-1), 1) := by decide +kernel
theorem dX10_start_18 : decode cX10_start 18 = .ok (.ireturn, 1) := by decide +kernel
set_option maxRecDepth 20000 in
theorem ggX10_change_X10_isBox : GoodIn wsX10_change wsX10_isBox := goodIn_r _ [6, 1, 7, 8, 5, 9, 10, 11, 12, 13, 14, 15, 16, 17, 18, 19, 20, 21, 22, 23, 24, 25, 26, 27, 28, 29, 30, 31, 32, 33, 34, 35, 36, 37, 38, 39] (by decide +kernel) (by decide +kernel)
set_option maxRecDepth 20000 in
theorem gX10_change_X10_isBox : GoodIn wsX10_change (wsV RX10 201 RX10 yX10_isBox wsX10_isBox) := goodIn_app (goodIn_of _ (by decide +kernel)) ggX10_change_X10_isBox
theorem dX10_change_0 : decode cX10_change 0 = .ok (.aload_n 0, 1) := by decide +kernel
theorem dX10_change_1 : decode cX10_change 1 = .ok (.iload_n 1, 1) := by decide +kernel
theorem dX10_change_2 : decode cX10_change 2 = .ok (.invokevirtual 201, 3) := by decide +kernel
theorem dX10_change_5 : decode cX10_change 5 = .ok (.ifCond .eq 16, 3) := by decide +kernel
theorem dX10_change_8 : decode cX10_change 8 = .ok (.aload_n 0, 1) := by decide +kernel
theorem dX10_change_9 : decode cX10_change 9 = .ok (.iload_n 2, 1) := by decide +kernel
theorem dX10_change_10 : decode cX10_change 10 = .ok (.invokevirtual 201, 3) := by decide +kernel
theorem dX10_change_13 : decode cX10_change 13 = .ok (.ifCond .eq 8, 3) := by decide +kernel
theorem dX10_change_16 : decode cX10_change 16 = .ok (.iload_n 1, 1) := by decide +kernel
theorem dX10_change_17 : decode cX10_change 17 = .ok (.iload_n 2, 1) := by decide +kernel
theorem dX10_change_18 : decode cX10_change 18 = .ok (.if_icmp .ne 5, 3) := by decide +kernel
theorem dX10_change_21 : decode cX10_change 21 = .ok (.iconst (-1), 1) := by decide +kernel
theorem dX10_change_22 : decode cX10_change 22 = .ok (.ireturn, 1) := by decide +kernel
theorem dX10_change_23 : decode cX10_change 23 = .ok (.aload_n 0, 1) := by decide +kernel
theorem dX10_change_24 : decode cX10_change 24 = .ok (.getfield 7, 3) := by decide +kernel
theorem dX10_change_27 : decode cX10_change 27 = .ok (.bipush 31, 2) := by decide +kernel
theorem dX10_change_29 : decode cX10_change 29 = .ok (.iload_n 1, 1) := by decide +kernel
theorem dX10_change_30 : decode cX10_change 30 = .ok (.iadd, 1) := by decide +kernel
theorem dX10_change_31 : decode cX10_change 31 = .ok (.iaload, 1) := by decide +kernel
theorem dX10_change_32 : decode cX10_change 32 = .ok (.istore_n 3, 1) := by decide +kernel
theorem dX10_change_33 : decode cX10_change 33 = .ok (.aload_n 0, 1) := by decide +kernel
theorem dX10_change_34 : decode cX10_change 34 = .ok (.getfield 7, 3) := by decide +kernel
theorem dX10_change_37 : decode cX10_change 37 = .ok (.bipush 31, 2) := by decide +kernel
theorem dX10_change_39 : decode cX10_change 39 = .ok (.iload_n 1, 1) := by decide +kernel
theorem dX10_change_40 : decode cX10_change 40 = .ok (.iadd, 1) := by decide +kernel
theorem dX10_change_41 : decode cX10_change 41 = .ok (.aload_n 0, 1) := by decide +kernel
theorem dX10_change_42 : decode cX10_change 42 = .ok (.getfield 7, 3) := by decide +kernel
theorem dX10_change_45 : decode cX10_change 45 = .ok (.bipush 31, 2) := by decide +kernel
theorem dX10_change_47 : decode cX10_change 47 = .ok (.iload_n 2, 1) := by decide +kernel
theorem dX10_change_48 : decode cX10_change 48 = .ok (.iadd, 1) := by decide +kernel
theorem dX10_change_49 : decode cX10_change 49 = .ok (.iaload, 1) := by decide +kernel
theorem dX10_change_50 : decode cX10_change 50 = .ok (.iastore, 1) := by decide +kernel
theorem dX10_change_51 : decode cX10_change 51 = .ok (.aload_n 0, 1) := by decide +kernel
theorem dX10_change_52 : decode cX10_change 52 = .ok (.getfield 7, 3) := by decide +kernel
theorem dX10_change_55 : decode cX10_change 55 = .ok (.bipush 31, 2) := by decide +kernel
theorem dX10_change_57 : decode cX10_change 57 = .ok (.iload_n 2, 1) := by decide +kernel
theorem dX10_change_58 : decode cX10_change 58 = .ok (.iadd, 1) := by decide +kernel
theorem dX10_change_59 : decode cX10_change 59 = .ok (.iload_n 3, 1) := by decide +kernel
theorem dX10_change_60 : decode cX10_change 60 = .ok (.iastore, 1) := by decide +kernel
theorem dX10_change_61 : decode cX10_change 61 = .ok (.iload_n 3, 1) := by decide +kernel
theorem dX10_change_62 : decode cX10_change 62 = .ok (.ireturn, 1) := by decide +kernel
set_option maxRecDepth 20000 in
theorem ggX10_sew_X10_canBe : GoodIn wsX10_sew wsX10_canBe := goodIn_r _ [5, 6, 7, 8, 9, 10, 4, 11, 12, 13, 14, 15, 16, 17, 18, 19] (by decide +kernel) (by decide +kernel)
set_option maxRecDepth 20000 in
theorem gX10_sew_X10_canBe : GoodIn wsX10_sew (va_wsS RX10 220 yX10_canBe wsX10_canBe) := goodIn_app (goodIn_of _ (by decide +kernel)) ggX10_sew_X10_canBe
theorem dX10_sew_0 : decode cX10_sew 0 = .ok (.iconst 0, 1) := by decide +kernel
theorem dX10_sew_1 : decode cX10_sew 1 = .ok (.iload_n 1, 1) := by decide +kernel
theorem dX10_sew_2 : decode cX10_sew 2 = .ok (.invokestatic 220, 3) := by decide +kernel
theorem dX10_sew_5 : decode cX10_sew 5 = .ok (.ifCond .eq 19, 3) := by decide +kernel
theorem dX10_sew_8 : decode cX10_sew 8 = .ok (.iconst 1, 1) := by decide +kernel
theorem dX10_sew_9 : decode cX10_sew 9 = .ok (.iload_n 2, 1) := by decide +kernel
theorem dX10_sew_10 : decode cX10_sew 10 = .ok (.invokestatic 220, 3) := by decide +kernel
theorem dX10_sew_13 : decode cX10_sew 13 = .ok (.ifCond .eq 11, 3) := by decide +kernel
theorem dX10_sew_16 : decode cX10_sew 16 = .ok (.iconst 2, 1) := by decide +kernel
theorem dX10_sew_17 : decode cX10_sew 17 = .ok (.iload_n 3, 1) := by decide +kernel
theorem dX10_sew_18 : decode cX10_sew 18 = .ok (.invokestatic 220, 3) := by decide +kernel
theorem dX10_sew_21 : decode cX10_sew 21 = .ok (.ifCond .ne 5, 3) := by decide +kernel
theorem dX10_sew_24 : decode cX10_sew 24 = .ok (.iconst (-1), 1) := by decide +kernel
theorem dX10_sew_25 : decode cX10_sew 25 = .ok (.ireturn, 1) := by decide +kernel
theorem dX10_sew_26 : decode cX10_sew 26 = .ok (.aload_n 0, 1) := by decide +kernel
theorem dX10_sew_27 : decode cX10_sew 27 = .ok (.getfield 7, 3) := by decide +kernel
theorem dX10_sew_30 : decode cX10_sew 30 = .ok (.bipush 30, 2) := by decide +kernel
theorem dX10_sew_32 : decode cX10_sew 32 = .ok (.iaload, 1) := by decide +kernel
theorem dX10_sew_33 : decode cX10_sew 33 = .ok (.iconst 5, 1) := by decide +kernel
theorem dX10_sew_34 : decode cX10_sew 34 = .ok (.if_icmp .ne 6, 3) := by decide +kernel
theorem dX10_sew_37 : decode cX10_sew 37 = .ok (.bipush (-3), 2) := by decide +kernel
theorem dX10_sew_39 : decode cX10_sew 39 = .ok (.ireturn, 1) := by decide +kernel
theorem dX10_sew_40 : decode cX10_sew 40 = .ok (.bipush 6, 2) := by decide +kernel
theorem dX10_sew_42 : decode cX10_sew 42 = .ok (.aload_n 0, 1) := by decide +kernel
theorem dX10_sew_43 : decode cX10_sew 43 = .ok (.getfield 7, 3) := by decide +kernel
theorem dX10_sew_46 : decode cX10_sew 46 = .ok (.bipush 30, 2) := by decide +kernel
theorem dX10_sew_48 : decode cX10_sew 48 = .ok (.iaload, 1) := by decide +kernel
theorem dX10_sew_49 : decode cX10_sew 49 = .ok (.imul, 1) := by decide +kernel
theorem dX10_sew_50 : decode cX10_sew 50 = .ok (.istore 4, 2) := by decide +kernel
theorem dX10_sew_52 : decode cX10_sew 52 = .ok (.aload_n 0, 1) := by decide +kernel
theorem dX10_sew_53 : decode cX10_sew 53 = .ok (.getfield 7, 3) := by decide +kernel
theorem dX10_sew_56 : decode cX10_sew 56 = .ok (.iload 4, 2) := by decide +kernel
theorem dX10_sew_58 : decode cX10_sew 58 = .ok (.iconst 0, 1) := by decide +kernel
theorem dX10_sew_59 : decode cX10_sew 59 = .ok (.iadd, 1) := by decide +kernel
theorem dX10_sew_60 : decode cX10_sew 60 = .ok (.iload_n 1, 1) := by decide +kernel
theorem dX10_sew_61 : decode cX10_sew 61 = .ok (.iastore, 1) := by decide +kernel
theorem dX10_sew_62 : decode cX10_sew 62 = .ok (.aload_n 0, 1) := by decide +kernel
theorem dX10_sew_63 : decode cX10_sew 63 = .ok (.getfield 7, 3) := by decide +kernel
theorem dX10_sew_66 : decode cX10_sew 66 = .ok (.iload 4, 2) := by decide +kernel
theorem dX10_sew_68 : decode cX10_sew 68 = .ok (.iconst 1, 1) := by decide +kernel
theorem dX10_sew_69 : decode cX10_sew 69 = .ok (.iadd, 1) := by decide +kernel
theorem dX10_sew_70 : decode cX10_sew 70 = .ok (.iload_n 2, 1) := by decide +kernel
theorem dX10_sew_71 : decode cX10_sew 71 = .ok (.iastore, 1) := by decide +kernel
theorem dX10_sew_72 : decode cX10_sew 72 = .ok (.aload_n 0, 1) := by decide +kernel
theorem dX10_sew_73 : decode cX10_sew 73 = .ok (.getfield 7, 3) := by decide +kernel
theorem dX10_sew_76 : decode cX10_sew 76 = .ok (.iload 4, 2) := by decide +kernel
theorem dX10_sew_78 : decode cX10_sew 78 = .ok (.iconst 2, 1) := by decide +kernel
theorem dX10_sew_79 : decode cX10_sew 79 = .ok (.iadd, 1) := by decide +kernel
theorem dX10_sew_80 : decode cX10_sew 80 = .ok (.iload_n 3, 1) := by decide +kernel
theorem dX10_sew_81 : decode cX10_sew 81 = .ok (.iastore, 1) := by decide +kernel
theorem dX10_sew_82 : decode cX10_sew 82 = .ok (.aload_n 0, 1) := by decide +kernel
theorem dX10_sew_83 : decode cX10_sew 83 = .ok (.getfield 7, 3) := by decide +kernel
theorem dX10_sew_86 : decode cX10_sew 86 = .ok (.iload 4, 2) := by decide +kernel
theorem dX10_sew_88 : decode cX10_sew 88 = .ok (.iconst 3, 1) := by decide +kernel
theorem dX10_sew_89 : decode cX10_sew 89 = .ok (.iadd, 1) := by decide +kernel
theorem dX10_sew_90 : decode cX10_sew 90 = .ok (.iconst 1, 1) := by decide +kernel
theorem dX10_sew_91 : decode cX10_sew 91 = .ok (.iastore, 1) := by decide +kernel
theorem dX10_sew_92 : decode cX10_sew 92 = .ok (.aload_n 0, 1) := by decide +kernel
theorem dX10_sew_93 : decode cX10_sew 93 = .ok (.getfield 7, 3) := by decide +kernel
theorem dX10_sew_96 : decode cX10_sew 96 = .ok (.iload 4, 2) := by decide +kernel
theorem dX10_sew_98 : decode cX10_sew 98 = .ok (.iconst 4, 1) := by decide +kernel
theorem dX10_sew_99 : decode cX10_sew 99 = .ok (.iadd, 1) := by decide +kernel
theorem dX10_sew_100 : decode cX10_sew 100 = .ok (.bipush 8, 2) := by decide +kernel
theorem dX10_sew_102 : decode cX10_sew 102 = .ok (.iastore, 1) := by decide +kernel
theorem dX10_sew_103 : decode cX10_sew 103 = .ok (.aload_n 0, 1) := by decide +kernel
theorem dX10_sew_104 : decode cX10_sew 104 = .ok (.getfield 7, 3) := by decide +kernel
theorem dX10_sew_107 : decode cX10_sew 107 = .ok (.iload 4, 2) := by decide +kernel
theorem dX10_sew_109 : decode cX10_sew 109 = .ok (.iconst 5, 1) := by decide +kernel
theorem dX10_sew_110 : decode cX10_sew 110 = .ok (.iadd, 1) := by decide +kernel
theorem dX10_sew_111 : decode cX10_sew 111 = .ok (.iconst 0, 1) := by decide +kernel
theorem dX10_sew_112 : decode cX10_sew 112 = .ok (.iastore, 1) := by decide +kernel
theorem dX10_sew_113 : decode cX10_sew 113 = .ok (.aload_n 0, 1) := by decide +kernel
theorem dX10_sew_114 : decode cX10_sew 114 = .ok (.getfield 7, 3) := by decide +kernel
theorem dX10_sew_117 : decode cX10_sew 117 = .ok (.bipush 31, 2) := by decide +kernel
theorem dX10_sew_119 : decode cX10_sew 119 = .ok (.aload_n 0, 1) := by decide +kernel
theorem dX10_sew_120 : decode cX10_sew 120 = .ok (.getfield 7, 3) := by decide +kernel
theorem dX10_sew_123 : decode cX10_sew 123 = .ok (.bipush 30, 2) := by decide +kernel
theorem dX10_sew_125 : decode cX10_sew 125 = .ok (.iaload, 1) := by decide +kernel
theorem dX10_sew_126 : decode cX10_sew 126 = .ok (.iadd, 1) := by decide +kernel
theorem dX10_sew_127 : decode cX10_sew 127 = .ok (.aload_n 0, 1) := by decide +kernel
theorem dX10_sew_128 : decode cX10_sew 128 = .ok (.getfield 7, 3) := by decide +kernel
theorem dX10_sew_131 : decode cX10_sew 131 = .ok (.bipush 30, 2) := by decide +kernel
theorem dX10_sew_133 : decode cX10_sew 133 = .ok (.iaload, 1) := by decide +kernel
theorem dX10_sew_134 : decode cX10_sew 134 = .ok (.iastore, 1) := by decide +kernel
theorem dX10_sew_135 : decode cX10_sew 135 = .ok (.aload_n 0, 1) := by decide +kernel
theorem dX10_sew_136 : decode cX10_sew 136 = .ok (.getfield 7, 3) := by decide +kernel
theorem dX10_sew_139 : decode cX10_sew 139 = .ok (.bipush 30, 2) := by decide +kernel
theorem dX10_sew_141 : decode cX10_sew 141 = .ok (.dup2, 1) := by decide +kernel
theorem dX10_sew_142 : decode cX10_sew 142 = .ok (.iaload, 1) := by decide +kernel
theorem dX10_sew_143 : decode cX10_sew 143 = .ok (.iconst 1, 1) := by decide +kernel
theorem dX10_sew_144 : decode cX10_sew 144 = .ok (.iadd, 1) := by decide +kernel
theorem dX10_sew_145 : decode cX10_sew 145 = .ok (.iastore, 1) := by decide +kernel
theorem dX10_sew_146 : decode cX10_sew 146 = .ok (.aload_n 0, 1) := by decide +kernel
theorem dX10_sew_147 : decode cX10_sew 147 = .ok (.getfield 7, 3) := by decide +kernel
theorem dX10_sew_150 : decode cX10_sew 150 = .ok (.bipush 30, 2) := by decide +kernel
theorem dX10_sew_152 : decode cX10_sew 152 = .ok (.iaload, 1) := by decide +kernel
theorem dX10_sew_153 : decode cX10_sew 153 = .ok (.ireturn, 1) := by decide +kernel
set_option maxRecDepth 20000 in
theorem ggX10_clock_X10_isRoom : GoodIn wsX10_clock wsX10_isRoom := goodIn_r _ [6, 7, 8, 9, 5, 10] (by decide +kernel) (by decide +kernel)
set_option maxRecDepth 20000 in
theorem gX10_clock_X10_isRoom : GoodIn wsX10_clock (va_wsS RX10 217 yX10_isRoom wsX10_isRoom) := goodIn_app (goodIn_of _ (by decide +kernel)) ggX10_clock_X10_isRoom
set_option maxRecDepth 20000 in
theorem ggX10_clock_X10_isHour : GoodIn wsX10_clock wsX10_isHour := goodIn_r _ [13, 14, 8, 9, 5, 10] (by decide +kernel) (by decide +kernel)
set_option maxRecDepth 20000 in
theorem gX10_clock_X10_isHour : GoodIn wsX10_clock (va_wsS RX10 214 yX10_isHour wsX10_isHour) := goodIn_app (goodIn_of _ (by decide +kernel)) ggX10_clock_X10_isHour
set_option maxRecDepth 20000 in
theorem ggX10_clock_X10_isPart : GoodIn wsX10_clock wsX10_isPart := goodIn_r _ [17, 8, 9, 5, 10] (by decide +kernel) (by decide +kernel)
set_option maxRecDepth 20000 in
theorem gX10_clock_X10_isPart : GoodIn wsX10_clock (va_wsS RX10 207 yX10_isPart wsX10_isPart) := goodIn_app (goodIn_of _ (by decide +kernel)) ggX10_clock_X10_isPart
set_option maxRecDepth 20000 in
theorem ggX10_clock_X10_looksAtDay : GoodIn wsX10_clock wsX10_looksAtDay := goodIn_r _ [21, 22, 23, 24, 5, 25, 26, 27, 28, 29, 30, 31, 2, 1, 32, 33, 34, 35, 36, 37, 38, 39, 40, 41, 42, 43, 44, 45, 46, 47, 48, 49, 50, 51, 52, 53, 54, 55, 56, 57, 58, 59, 60, 61, 62, 63, 64, 65, 66, 67, 68, 69, 70, 71, 72, 73, 74, 75, 76, 77, 78, 79, 80, 81, 82, 83, 84] (by decide +kernel) (by decide +kernel)
set_option maxRecDepth 20000 in
theorem gX10_clock_X10_looksAtDay : GoodIn wsX10_clock (wsV RX10 189 RX10 yX10_looksAtDay wsX10_looksAtDay) := goodIn_app (goodIn_of _ (by decide +kernel)) ggX10_clock_X10_looksAtDay
theorem dX10_clock_0 : decode cX10_clock 0 = .ok (.iload_n 1, 1) := by decide +kernel
theorem dX10_clock_1 : decode cX10_clock 1 = .ok (.invokestatic 217, 3) := by decide +kernel
theorem dX10_clock_4 : decode cX10_clock 4 = .ok (.ifCond .eq 17, 3) := by decide +kernel
theorem dX10_clock_7 : decode cX10_clock 7 = .ok (.iload_n 2, 1) := by decide +kernel
theorem dX10_clock_8 : decode cX10_clock 8 = .ok (.invokestatic 214, 3) := by decide +kernel
theorem dX10_clock_11 : decode cX10_clock 11 = .ok (.ifCond .eq 10, 3) := by decide +kernel
theorem dX10_clock_14 : decode cX10_clock 14 = .ok (.iload_n 3, 1) := by decide +kernel
theorem dX10_clock_15 : decode cX10_clock 15 = .ok (.invokestatic 207, 3) := by decide +kernel
theorem dX10_clock_18 : decode cX10_clock 18 = .ok (.ifCond .ne 5, 3) := by decide +kernel
theorem dX10_clock_21 : decode cX10_clock 21 = .ok (.iconst (-1), 1) := by decide +kernel
theorem dX10_clock_22 : decode cX10_clock 22 = .ok (.ireturn, 1) := by decide +kernel
theorem dX10_clock_23 : decode cX10_clock 23 = .ok (.aload_n 0, 1) := by decide +kernel
theorem dX10_clock_24 : decode cX10_clock 24 = .ok (.invokevirtual 189, 3) := by decide +kernel
theorem dX10_clock_27 : decode cX10_clock 27 = .ok (.iload_n 3, 1) := by decide +kernel
theorem dX10_clock_28 : decode cX10_clock 28 = .ok (.ifCond .ne 17, 3) := by decide +kernel
theorem dX10_clock_31 : decode cX10_clock 31 = .ok (.aload_n 0, 1) := by decide +kernel
theorem dX10_clock_32 : decode cX10_clock 32 = .ok (.getfield 32, 3) := by decide +kernel
theorem dX10_clock_35 : decode cX10_clock 35 = .ok (.bipush 24, 2) := by decide +kernel
theorem dX10_clock_37 : decode cX10_clock 37 = .ok (.iload_n 1, 1) := by decide +kernel
theorem dX10_clock_38 : decode cX10_clock 38 = .ok (.imul, 1) := by decide +kernel
theorem dX10_clock_39 : decode cX10_clock 39 = .ok (.iload_n 2, 1) := by decide +kernel
theorem dX10_clock_40 : decode cX10_clock 40 = .ok (.iadd, 1) := by decide +kernel
theorem dX10_clock_41 : decode cX10_clock 41 = .ok (.iaload, 1) := by decide +kernel
theorem dX10_clock_42 : decode cX10_clock 42 = .ok (.goto 14, 3) := by decide +kernel
theorem dX10_clock_45 : decode cX10_clock 45 = .ok (.aload_n 0, 1) := by decide +kernel
theorem dX10_clock_46 : decode cX10_clock 46 = .ok (.getfield 29, 3) := by decide +kernel
theorem dX10_clock_49 : decode cX10_clock 49 = .ok (.bipush 24, 2) := by decide +kernel
theorem dX10_clock_51 : decode cX10_clock 51 = .ok (.iload_n 1, 1) := by decide +kernel
theorem dX10_clock_52 : decode cX10_clock 52 = .ok (.imul, 1) := by decide +kernel
theorem dX10_clock_53 : decode cX10_clock 53 = .ok (.iload_n 2, 1) := by decide +kernel
theorem dX10_clock_54 : decode cX10_clock 54 = .ok (.iadd, 1) := by decide +kernel
theorem dX10_clock_55 : decode cX10_clock 55 = .ok (.iaload, 1) := by decide +kernel
theorem dX10_clock_56 : decode cX10_clock 56 = .ok (.ireturn, 1) := by decide +kernel
set_option maxRecDepth 20000 in
theorem ggX10_room_X10_isRoom : GoodIn wsX10_room wsX10_isRoom := goodIn_r _ [4, 5, 6, 7, 3, 8] (by decide +kernel) (by decide +kernel)
set_option maxRecDepth 20000 in
theorem gX10_room_X10_isRoom : GoodIn wsX10_room (va_wsS RX10 217 yX10_isRoom wsX10_isRoom) := goodIn_app (goodIn_of _ (by decide +kernel)) ggX10_room_X10_isRoom
set_option maxRecDepth 20000 in
theorem ggX10_room_X10_isPart : GoodIn wsX10_room wsX10_isPart := goodIn_r _ [11, 6, 7, 3, 8] (by decide +kernel) (by decide +kernel)
set_option maxRecDepth 20000 in
theorem gX10_room_X10_isPart : GoodIn wsX10_room (va_wsS RX10 207 yX10_isPart wsX10_isPart) := goodIn_app (goodIn_of _ (by decide +kernel)) ggX10_room_X10_isPart
set_option maxRecDepth 20000 in
theorem ggX10_room_X10_looksAtDay : GoodIn wsX10_room wsX10_looksAtDay := goodIn_r _ [15, 16, 17, 18, 3, 19, 20, 21, 22, 23, 24, 25, 26, 27, 28, 29, 30, 31, 32, 33, 34, 35, 36, 37, 38, 39, 40, 41, 42, 43, 44, 45, 46, 47, 48, 49, 50, 62, 63, 64, 65, 66, 67, 68, 69, 70, 71, 72, 73, 74, 75, 76, 77, 78, 79, 80, 81, 82, 83, 84, 85, 86, 87, 88, 89, 90, 91] (by decide +kernel) (by decide +kernel)
set_option maxRecDepth 20000 in
theorem gX10_room_X10_looksAtDay : GoodIn wsX10_room (wsV RX10 189 RX10 yX10_looksAtDay wsX10_looksAtDay) := goodIn_app (goodIn_of _ (by decide +kernel)) ggX10_room_X10_looksAtDay
set_option maxRecDepth 20000 in
theorem ggX10_room_X10_yawnsOf : GoodIn wsX10_room wsX10_yawnsOf := goodIn_r _ [54, 27, 55, 56, 3, 57, 62, 63, 64, 65, 66, 67, 68, 69, 70, 71, 72, 73, 74, 75, 76, 77, 78, 79, 80, 81, 82, 83, 84, 85, 86, 87, 88, 89, 90, 91] (by decide +kernel) (by decide +kernel)
set_option maxRecDepth 20000 in
theorem gX10_room_X10_yawnsOf : GoodIn wsX10_room (wsV RX10 180 RX10 yX10_yawnsOf wsX10_yawnsOf) := goodIn_app (goodIn_of _ (by decide +kernel)) ggX10_room_X10_yawnsOf
set_option maxRecDepth 20000 in
theorem ggX10_room_X10_otherwise : GoodIn wsX10_room wsX10_otherwise := goodIn_r _ [61, 27, 55, 56, 3, 57, 62, 63, 64, 65, 66, 67, 68, 69, 70, 71, 72, 73, 74, 75, 76, 77, 78, 79, 80, 81, 82, 83, 84, 85, 86, 87, 88, 89, 90, 91] (by decide +kernel) (by decide +kernel)
set_option maxRecDepth 20000 in
theorem gX10_room_X10_otherwise : GoodIn wsX10_room (wsV RX10 226 RX10 yX10_otherwise wsX10_otherwise) := goodIn_app (goodIn_of _ (by decide +kernel)) ggX10_room_X10_otherwise
theorem dX10_room_0 : decode cX10_room 0 = .ok (.iload_n 1, 1) := by decide +kernel
theorem dX10_room_1 : decode cX10_room 1 = .ok (.invokestatic 217, 3) := by decide +kernel
theorem dX10_room_4 : decode cX10_room 4 = .ok (.ifCond .eq 10, 3) := by decide +kernel
theorem dX10_room_7 : decode cX10_room 7 = .ok (.iload_n 2, 1) := by decide +kernel
theorem dX10_room_8 : decode cX10_room 8 = .ok (.invokestatic 207, 3) := by decide +kernel
theorem dX10_room_11 : decode cX10_room 11 = .ok (.ifCond .ne 5, 3) := by decide +kernel
theorem dX10_room_14 : decode cX10_room 14 = .ok (.iconst (-1), 1) := by decide +kernel
theorem dX10_room_15 : decode cX10_room 15 = .ok (.ireturn, 1) := by decide +kernel
theorem dX10_room_16 : decode cX10_room 16 = .ok (.aload_n 0, 1) := by decide +kernel
theorem dX10_room_17 : decode cX10_room 17 = .ok (.invokevirtual 189, 3) := by decide +kernel
theorem dX10_room_20 : decode cX10_room 20 = .ok (.iload_n 2, 1) := by decide +kernel
theorem dX10_room_21 : decode cX10_room 21 = .ok (.ifCond .ne 11, 3) := by decide +kernel
theorem dX10_room_24 : decode cX10_room 24 = .ok (.aload_n 0, 1) := by decide +kernel
theorem dX10_room_25 : decode cX10_room 25 = .ok (.iload_n 1, 1) := by decide +kernel
theorem dX10_room_26 : decode cX10_room 26 = .ok (.invokevirtual 180, 3) := by decide +kernel
theorem dX10_room_29 : decode cX10_room 29 = .ok (.goto 8, 3) := by decide +kernel
theorem dX10_room_32 : decode cX10_room 32 = .ok (.aload_n 0, 1) := by decide +kernel
theorem dX10_room_33 : decode cX10_room 33 = .ok (.iload_n 1, 1) := by decide +kernel
theorem dX10_room_34 : decode cX10_room 34 = .ok (.invokevirtual 226, 3) := by decide +kernel
theorem dX10_room_37 : decode cX10_room 37 = .ok (.ireturn, 1) := by decide +kernel
set_option maxRecDepth 20000 in
theorem ggX10_out_X10_isBox : GoodIn wsX10_out wsX10_isBox := goodIn_r _ [6, 7, 8, 9, 5, 10, 51, 52, 53, 54, 55, 56, 57, 58, 59, 60, 61, 62, 63, 64, 65, 66, 67, 68, 69, 70, 71, 72, 73, 74, 75, 76, 77, 78, 79, 80] (by decide +kernel) (by decide +kernel)
set_option maxRecDepth 20000 in
theorem gX10_out_X10_isBox : GoodIn wsX10_out (wsV RX10 201 RX10 yX10_isBox wsX10_isBox) := goodIn_app (goodIn_of _ (by decide +kernel)) ggX10_out_X10_isBox
set_option maxRecDepth 20000 in
theorem ggX10_out_X10_looksAtDay : GoodIn wsX10_out wsX10_looksAtDay := goodIn_r _ [14, 15, 16, 17, 5, 18, 19, 7, 20, 21, 22, 23, 1, 24, 25, 26, 27, 28, 29, 30, 31, 32, 33, 34, 35, 36, 37, 38, 39, 40, 41, 42, 43, 44, 45, 46, 47, 51, 52, 53, 54, 55, 56, 57, 58, 59, 60, 61, 62, 63, 64, 65, 66, 67, 68, 69, 70, 71, 72, 73, 74, 75, 76, 77, 78, 79, 80] (by decide +kernel) (by decide +kernel)
set_option maxRecDepth 20000 in
theorem gX10_out_X10_looksAtDay : GoodIn wsX10_out (wsV RX10 189 RX10 yX10_looksAtDay wsX10_looksAtDay) := goodIn_app (goodIn_of _ (by decide +kernel)) ggX10_out_X10_looksAtDay
set_option maxRecDepth 20000 in
theorem ggX10_out_X10_flag : GoodIn wsX10_out wsX10_flag := goodIn_r _ [50] (by decide +kernel) (by decide +kernel)
set_option maxRecDepth 20000 in
theorem gX10_out_X10_flag : GoodIn wsX10_out (va_wsS RX10 176 yX10_flag wsX10_flag) := goodIn_app (goodIn_of _ (by decide +kernel)) ggX10_out_X10_flag
theorem dX10_out_0 : decode cX10_out 0 = .ok (.aload_n 0, 1) := by decide +kernel
theorem dX10_out_1 : decode cX10_out 1 = .ok (.iload_n 1, 1) := by decide +kernel
theorem dX10_out_2 : decode cX10_out 2 = .ok (.invokevirtual 201, 3) := by decide +kernel
theorem dX10_out_5 : decode cX10_out 5 = .ok (.ifCond .ne 5, 3) := by decide +kernel
theorem dX10_out_8 : decode cX10_out 8 = .ok (.iconst (-1), 1) := by decide +kernel
theorem dX10_out_9 : decode cX10_out 9 = .ok (.ireturn, 1) := by decide +kernel
theorem dX10_out_10 : decode cX10_out 10 = .ok (.aload_n 0, 1) := by decide +kernel
theorem dX10_out_11 : decode cX10_out 11 = .ok (.invokevirtual 189, 3) := by decide +kernel
theorem dX10_out_14 : decode cX10_out 14 = .ok (.iconst 0, 1) := by decide +kernel
theorem dX10_out_15 : decode cX10_out 15 = .ok (.istore_n 2, 1) := by decide +kernel
theorem dX10_out_16 : decode cX10_out 16 = .ok (.iconst 0, 1) := by decide +kernel
theorem dX10_out_17 : decode cX10_out 17 = .ok (.istore_n 3, 1) := by decide +kernel
theorem dX10_out_18 : decode cX10_out 18 = .ok (.iload_n 3, 1) := by decide +kernel
theorem dX10_out_19 : decode cX10_out 19 = .ok (.bipush 120, 2) := by decide +kernel
theorem dX10_out_21 : decode cX10_out 21 = .ok (.if_icmp .ge 35, 3) := by decide +kernel
theorem dX10_out_24 : decode cX10_out 24 = .ok (.iload_n 2, 1) := by decide +kernel
theorem dX10_out_25 : decode cX10_out 25 = .ok (.aload_n 0, 1) := by decide +kernel
theorem dX10_out_26 : decode cX10_out 26 = .ok (.getfield 29, 3) := by decide +kernel
theorem dX10_out_29 : decode cX10_out 29 = .ok (.iload_n 3, 1) := by decide +kernel
theorem dX10_out_30 : decode cX10_out 30 = .ok (.iaload, 1) := by decide +kernel
theorem dX10_out_31 : decode cX10_out 31 = .ok (.iload_n 1, 1) := by decide +kernel
theorem dX10_out_32 : decode cX10_out 32 = .ok (.if_icmp .ne 7, 3) := by decide +kernel
theorem dX10_out_35 : decode cX10_out 35 = .ok (.iconst 1, 1) := by decide +kernel
theorem dX10_out_36 : decode cX10_out 36 = .ok (.goto 4, 3) := by decide +kernel
theorem dX10_out_39 : decode cX10_out 39 = .ok (.iconst 0, 1) := by decide +kernel
theorem dX10_out_40 : decode cX10_out 40 = .ok (.invokestatic 176, 3) := by decide +kernel
theorem dX10_out_43 : decode cX10_out 43 = .ok (.iload_n 3, 1) := by decide +kernel
theorem dX10_out_44 : decode cX10_out 44 = .ok (.bipush 24, 2) := by decide +kernel
theorem dX10_out_46 : decode cX10_out 46 = .ok (.irem, 1) := by decide +kernel
theorem dX10_out_47 : decode cX10_out 47 = .ok (.ishl, 1) := by decide +kernel
theorem dX10_out_48 : decode cX10_out 48 = .ok (.ior, 1) := by decide +kernel
theorem dX10_out_49 : decode cX10_out 49 = .ok (.istore_n 2, 1) := by decide +kernel
theorem dX10_out_50 : decode cX10_out 50 = .ok (.iinc 3 1, 3) := by decide +kernel
theorem dX10_out_53 : decode cX10_out 53 = .ok (.goto (-35), 3) := by decide +kernel
theorem dX10_out_56 : decode cX10_out 56 = .ok (.iload_n 2, 1) := by decide +kernel
theorem dX10_out_57 : decode cX10_out 57 = .ok (.ireturn, 1) := by decide +kernel
set_option maxRecDepth 20000 in
theorem ggX10_meet_X10_isRoom : GoodIn wsX10_meet wsX10_isRoom := goodIn_r _ [6, 7, 8, 9, 5, 10] (by decide +kernel) (by decide +kernel)
set_option maxRecDepth 20000 in
theorem gX10_meet_X10_isRoom : GoodIn wsX10_meet (va_wsS RX10 217 yX10_isRoom wsX10_isRoom) := goodIn_app (goodIn_of _ (by decide +kernel)) ggX10_meet_X10_isRoom
set_option maxRecDepth 20000 in
theorem ggX10_meet_X10_looksAtDay : GoodIn wsX10_meet wsX10_looksAtDay := goodIn_r _ [14, 15, 16, 17, 5, 18, 19, 20, 21, 22, 23, 24, 1, 2, 25, 26, 27, 28, 29, 30, 31, 32, 33, 34, 35, 36, 37, 38, 39, 40, 41, 42, 43, 44, 45, 46, 47, 48, 49, 50, 51, 52, 53, 54, 55, 56, 57, 58, 59, 60, 61, 62, 63, 64, 65, 66, 67, 68, 69, 70, 71, 72, 73, 74, 75, 76, 77] (by decide +kernel) (by decide +kernel)
set_option maxRecDepth 20000 in
theorem gX10_meet_X10_looksAtDay : GoodIn wsX10_meet (wsV RX10 189 RX10 yX10_looksAtDay wsX10_looksAtDay) := goodIn_app (goodIn_of _ (by decide +kernel)) ggX10_meet_X10_looksAtDay
theorem dX10_meet_0 : decode cX10_meet 0 = .ok (.iload_n 1, 1) := by decide +kernel
theorem dX10_meet_1 : decode cX10_meet 1 = .ok (.invokestatic 217, 3) := by decide +kernel
theorem dX10_meet_4 : decode cX10_meet 4 = .ok (.ifCond .eq 15, 3) := by decide +kernel
theorem dX10_meet_7 : decode cX10_meet 7 = .ok (.iload_n 2, 1) := by decide +kernel
theorem dX10_meet_8 : decode cX10_meet 8 = .ok (.invokestatic 217, 3) := by decide +kernel
theorem dX10_meet_11 : decode cX10_meet 11 = .ok (.ifCond .eq 8, 3) := by decide +kernel
theorem dX10_meet_14 : decode cX10_meet 14 = .ok (.iload_n 1, 1) := by decide +kernel
theorem dX10_meet_15 : decode cX10_meet 15 = .ok (.iload_n 2, 1) := by decide +kernel
theorem dX10_meet_16 : decode cX10_meet 16 = .ok (.if_icmp .ne 5, 3) := by decide +kernel
theorem dX10_meet_19 : decode cX10_meet 19 = .ok (.iconst (-1), 1) := by decide +kernel
theorem dX10_meet_20 : decode cX10_meet 20 = .ok (.ireturn, 1) := by decide +kernel
theorem dX10_meet_21 : decode cX10_meet 21 = .ok (.aload_n 0, 1) := by decide +kernel
theorem dX10_meet_22 : decode cX10_meet 22 = .ok (.invokevirtual 189, 3) := by decide +kernel
theorem dX10_meet_25 : decode cX10_meet 25 = .ok (.iconst 0, 1) := by decide +kernel
theorem dX10_meet_26 : decode cX10_meet 26 = .ok (.istore_n 3, 1) := by decide +kernel
theorem dX10_meet_27 : decode cX10_meet 27 = .ok (.iload_n 3, 1) := by decide +kernel
theorem dX10_meet_28 : decode cX10_meet 28 = .ok (.bipush 24, 2) := by decide +kernel
theorem dX10_meet_30 : decode cX10_meet 30 = .ok (.if_icmp .ge 68, 3) := by decide +kernel
theorem dX10_meet_33 : decode cX10_meet 33 = .ok (.bipush 24, 2) := by decide +kernel
theorem dX10_meet_35 : decode cX10_meet 35 = .ok (.iload_n 1, 1) := by decide +kernel
theorem dX10_meet_36 : decode cX10_meet 36 = .ok (.imul, 1) := by decide +kernel
theorem dX10_meet_37 : decode cX10_meet 37 = .ok (.iload_n 3, 1) := by decide +kernel
theorem dX10_meet_38 : decode cX10_meet 38 = .ok (.iadd, 1) := by decide +kernel
theorem dX10_meet_39 : decode cX10_meet 39 = .ok (.istore 4, 2) := by decide +kernel
theorem dX10_meet_41 : decode cX10_meet 41 = .ok (.bipush 24, 2) := by decide +kernel
theorem dX10_meet_43 : decode cX10_meet 43 = .ok (.iload_n 2, 1) := by decide +kernel
theorem dX10_meet_44 : decode cX10_meet 44 = .ok (.imul, 1) := by decide +kernel
theorem dX10_meet_45 : decode cX10_meet 45 = .ok (.iload_n 3, 1) := by decide +kernel
theorem dX10_meet_46 : decode cX10_meet 46 = .ok (.iadd, 1) := by decide +kernel
theorem dX10_meet_47 : decode cX10_meet 47 = .ok (.istore 5, 2) := by decide +kernel
theorem dX10_meet_49 : decode cX10_meet 49 = .ok (.aload_n 0, 1) := by decide +kernel
theorem dX10_meet_50 : decode cX10_meet 50 = .ok (.getfield 29, 3) := by decide +kernel
theorem dX10_meet_53 : decode cX10_meet 53 = .ok (.iload 4, 2) := by decide +kernel
theorem dX10_meet_55 : decode cX10_meet 55 = .ok (.iaload, 1) := by decide +kernel
theorem dX10_meet_56 : decode cX10_meet 56 = .ok (.bipush (-4), 2) := by decide +kernel
theorem dX10_meet_58 : decode cX10_meet 58 = .ok (.if_icmp .eq 34, 3) := by decide +kernel
theorem dX10_meet_61 : decode cX10_meet 61 = .ok (.aload_n 0, 1) := by decide +kernel
theorem dX10_meet_62 : decode cX10_meet 62 = .ok (.getfield 29, 3) := by decide +kernel
theorem dX10_meet_65 : decode cX10_meet 65 = .ok (.iload 5, 2) := by decide +kernel
theorem dX10_meet_67 : decode cX10_meet 67 = .ok (.iaload, 1) := by decide +kernel
theorem dX10_meet_68 : decode cX10_meet 68 = .ok (.bipush (-4), 2) := by decide +kernel
theorem dX10_meet_70 : decode cX10_meet 70 = .ok (.if_icmp .eq 22, 3) := by decide +kernel
theorem dX10_meet_73 : decode cX10_meet 73 = .ok (.aload_n 0, 1) := by decide +kernel
theorem dX10_meet_74 : decode cX10_meet 74 = .ok (.getfield 32, 3) := by decide +kernel
theorem dX10_meet_77 : decode cX10_meet 77 = .ok (.iload 4, 2) := by decide +kernel
theorem dX10_meet_79 : decode cX10_meet 79 = .ok (.iaload, 1) := by decide +kernel
theorem dX10_meet_80 : decode cX10_meet 80 = .ok (.aload_n 0, 1) := by decide +kernel
theorem dX10_meet_81 : decode cX10_meet 81 = .ok (.getfield 32, 3) := by decide +kernel
theorem dX10_meet_84 : decode cX10_meet 84 = .ok (.iload 5, 2) := by decide +kernel
theorem dX10_meet_86 : decode cX10_meet 86 = .ok (.iaload, 1) := by decide +kernel
theorem dX10_meet_87 : decode cX10_meet 87 = .ok (.if_icmp .ne 5, 3) := by decide +kernel
theorem dX10_meet_90 : decode cX10_meet 90 = .ok (.iload_n 3, 1) := by decide +kernel
theorem dX10_meet_91 : decode cX10_meet 91 = .ok (.ireturn, 1) := by decide +kernel
theorem dX10_meet_92 : decode cX10_meet 92 = .ok (.iinc 3 1, 3) := by decide +kernel
theorem dX10_meet_95 : decode cX10_meet 95 = .ok (.goto (-68), 3) := by decide +kernel
theorem dX10_meet_98 : decode cX10_meet 98 = .ok (.bipush (-4), 2) := by decide +kernel
theorem dX10_meet_100 : decode cX10_meet 100 = .ok (.ireturn, 1) := by decide +kernel
set_option maxRecDepth 20000 in
theorem ggX10_first_X10_isRoom : GoodIn wsX10_first wsX10_isRoom := goodIn_r _ [5, 6, 7, 8, 4, 9] (by decide +kernel) (by decide +kernel)
set_option maxRecDepth 20000 in
theorem gX10_first_X10_isRoom : GoodIn wsX10_first (va_wsS RX10 217 yX10_isRoom wsX10_isRoom) := goodIn_app (goodIn_of _ (by decide +kernel)) ggX10_first_X10_isRoom
set_option maxRecDepth 20000 in
theorem ggX10_first_X10_isHour : GoodIn wsX10_first wsX10_isHour := goodIn_r _ [12, 13, 7, 8, 4, 9] (by decide +kernel) (by decide +kernel)
set_option maxRecDepth 20000 in
theorem gX10_first_X10_isHour : GoodIn wsX10_first (va_wsS RX10 214 yX10_isHour wsX10_isHour) := goodIn_app (goodIn_of _ (by decide +kernel)) ggX10_first_X10_isHour
set_option maxRecDepth 20000 in
theorem ggX10_first_X10_looksAtDay : GoodIn wsX10_first wsX10_looksAtDay := goodIn_r _ [17, 18, 19, 20, 4, 21, 22, 23, 24, 25, 26, 27, 28, 1, 29, 30, 31, 32, 33, 34, 35, 36, 37, 38, 39, 40, 41, 42, 43, 44, 45, 46, 47, 48, 49, 50, 51, 52, 53, 54, 55, 56, 57, 58, 59, 60, 61, 62, 63, 64, 65, 66, 67, 68, 69, 70, 71, 72, 73, 74, 75, 76, 77, 78, 79, 80, 81] (by decide +kernel) (by decide +kernel)
set_option maxRecDepth 20000 in
theorem gX10_first_X10_looksAtDay : GoodIn wsX10_first (wsV RX10 189 RX10 yX10_looksAtDay wsX10_looksAtDay) := goodIn_app (goodIn_of _ (by decide +kernel)) ggX10_first_X10_looksAtDay
theorem dX10_first_0 : decode cX10_first 0 = .ok (.iload_n 1, 1) := by decide +kernel
theorem dX10_first_1 : decode cX10_first 1 = .ok (.invokestatic 217, 3) := by decide +kernel
theorem dX10_first_4 : decode cX10_first 4 = .ok (.ifCond .eq 10, 3) := by decide +kernel
theorem dX10_first_7 : decode cX10_first 7 = .ok (.iload_n 2, 1) := by decide +kernel
theorem dX10_first_8 : decode cX10_first 8 = .ok (.invokestatic 214, 3) := by decide +kernel
theorem dX10_first_11 : decode cX10_first 11 = .ok (.ifCond .ne 5, 3) := by decide +kernel
theorem dX10_first_14 : decode cX10_first 14 = .ok (.iconst (-1), 1) := by decide +kernel
theorem dX10_first_15 : decode cX10_first 15 = .ok (.ireturn, 1) := by decide +kernel
theorem dX10_first_16 : decode cX10_first 16 = .ok (.aload_n 0, 1) := by decide +kernel
theorem dX10_first_17 : decode cX10_first 17 = .ok (.invokevirtual 189, 3) := by decide +kernel
theorem dX10_first_20 : decode cX10_first 20 = .ok (.iconst 0, 1) := by decide +kernel
theorem dX10_first_21 : decode cX10_first 21 = .ok (.istore_n 3, 1) := by decide +kernel
theorem dX10_first_22 : decode cX10_first 22 = .ok (.iload_n 3, 1) := by decide +kernel
theorem dX10_first_23 : decode cX10_first 23 = .ok (.bipush 24, 2) := by decide +kernel
theorem dX10_first_25 : decode cX10_first 25 = .ok (.if_icmp .ge 26, 3) := by decide +kernel
theorem dX10_first_28 : decode cX10_first 28 = .ok (.aload_n 0, 1) := by decide +kernel
theorem dX10_first_29 : decode cX10_first 29 = .ok (.getfield 32, 3) := by decide +kernel
theorem dX10_first_32 : decode cX10_first 32 = .ok (.bipush 24, 2) := by decide +kernel
theorem dX10_first_34 : decode cX10_first 34 = .ok (.iload_n 1, 1) := by decide +kernel
theorem dX10_first_35 : decode cX10_first 35 = .ok (.imul, 1) := by decide +kernel
theorem dX10_first_36 : decode cX10_first 36 = .ok (.iload_n 3, 1) := by decide +kernel
theorem dX10_first_37 : decode cX10_first 37 = .ok (.iadd, 1) := by decide +kernel
theorem dX10_first_38 : decode cX10_first 38 = .ok (.iaload, 1) := by decide +kernel
theorem dX10_first_39 : decode cX10_first 39 = .ok (.iload_n 2, 1) := by decide +kernel
theorem dX10_first_40 : decode cX10_first 40 = .ok (.if_icmp .ne 5, 3) := by decide +kernel
theorem dX10_first_43 : decode cX10_first 43 = .ok (.iload_n 3, 1) := by decide +kernel
theorem dX10_first_44 : decode cX10_first 44 = .ok (.ireturn, 1) := by decide +kernel
theorem dX10_first_45 : decode cX10_first 45 = .ok (.iinc 3 1, 3) := by decide +kernel
theorem dX10_first_48 : decode cX10_first 48 = .ok (.goto (-26), 3) := by decide +kernel
theorem dX10_first_51 : decode cX10_first 51 = .ok (.bipush (-4), 2) := by decide +kernel
theorem dX10_first_53 : decode cX10_first 53 = .ok (.ireturn, 1) := by decide +kernel
theorem dX10_isOrderBy_0 : decode cX10_isOrderBy 0 = .ok (.iload_n 1, 1) := by decide +kernel
theorem dX10_isOrderBy_1 : decode cX10_isOrderBy 1 = .ok (.istore_n 2, 1) := by decide +kernel
theorem dX10_isOrderBy_2 : decode cX10_isOrderBy 2 = .ok (.iconst 0, 1) := by decide +kernel
theorem dX10_isOrderBy_3 : decode cX10_isOrderBy 3 = .ok (.istore_n 3, 1) := by decide +kernel
theorem dX10_isOrderBy_4 : decode cX10_isOrderBy 4 = .ok (.aload_n 0, 1) := by decide +kernel
theorem dX10_isOrderBy_5 : decode cX10_isOrderBy 5 = .ok (.getfield 13, 3) := by decide +kernel
theorem dX10_isOrderBy_8 : decode cX10_isOrderBy 8 = .ok (.bipush 30, 2) := by decide +kernel
theorem dX10_isOrderBy_10 : decode cX10_isOrderBy 10 = .ok (.iaload, 1) := by decide +kernel
theorem dX10_isOrderBy_11 : decode cX10_isOrderBy 11 = .ok (.iconst 1, 1) := by decide +kernel
theorem dX10_isOrderBy_12 : decode cX10_isOrderBy 12 = .ok (.isub, 1) := by decide +kernel
theorem dX10_isOrderBy_13 : decode cX10_isOrderBy 13 = .ok (.istore 4, 2) := by decide +kernel
theorem dX10_isOrderBy_15 : decode cX10_isOrderBy 15 = .ok (.iload 4, 2) := by decide +kernel
theorem dX10_isOrderBy_17 : decode cX10_isOrderBy 17 = .ok (.ifCond .lt 34, 3) := by decide +kernel
theorem dX10_isOrderBy_20 : decode cX10_isOrderBy 20 = .ok (.aload_n 0, 1) := by decide +kernel
theorem dX10_isOrderBy_21 : decode cX10_isOrderBy 21 = .ok (.getfield 13, 3) := by decide +kernel
theorem dX10_isOrderBy_24 : decode cX10_isOrderBy 24 = .ok (.bipush 31, 2) := by decide +kernel
theorem dX10_isOrderBy_26 : decode cX10_isOrderBy 26 = .ok (.iload 4, 2) := by decide +kernel
theorem dX10_isOrderBy_28 : decode cX10_isOrderBy 28 = .ok (.iadd, 1) := by decide +kernel
theorem dX10_isOrderBy_29 : decode cX10_isOrderBy 29 = .ok (.iload_n 2, 1) := by decide +kernel
theorem dX10_isOrderBy_30 : decode cX10_isOrderBy 30 = .ok (.iconst 5, 1) := by decide +kernel
theorem dX10_isOrderBy_31 : decode cX10_isOrderBy 31 = .ok (.irem, 1) := by decide +kernel
theorem dX10_isOrderBy_32 : decode cX10_isOrderBy 32 = .ok (.iastore, 1) := by decide +kernel
theorem dX10_isOrderBy_33 : decode cX10_isOrderBy 33 = .ok (.iload_n 3, 1) := by decide +kernel
theorem dX10_isOrderBy_34 : decode cX10_isOrderBy 34 = .ok (.iconst 1, 1) := by decide +kernel
theorem dX10_isOrderBy_35 : decode cX10_isOrderBy 35 = .ok (.iload_n 2, 1) := by decide +kernel
theorem dX10_isOrderBy_36 : decode cX10_isOrderBy 36 = .ok (.iconst 5, 1) := by decide +kernel
theorem dX10_isOrderBy_37 : decode cX10_isOrderBy 37 = .ok (.irem, 1) := by decide +kernel
theorem dX10_isOrderBy_38 : decode cX10_isOrderBy 38 = .ok (.ishl, 1) := by decide +kernel
theorem dX10_isOrderBy_39 : decode cX10_isOrderBy 39 = .ok (.ior, 1) := by decide +kernel
theorem dX10_isOrderBy_40 : decode cX10_isOrderBy 40 = .ok (.istore_n 3, 1) := by decide +kernel
theorem dX10_isOrderBy_41 : decode cX10_isOrderBy 41 = .ok (.iload_n 2, 1) := by decide +kernel
theorem dX10_isOrderBy_42 : decode cX10_isOrderBy 42 = .ok (.iconst 5, 1) := by decide +kernel
theorem dX10_isOrderBy_43 : decode cX10_isOrderBy 43 = .ok (.idiv, 1) := by decide +kernel
theorem dX10_isOrderBy_44 : decode cX10_isOrderBy 44 = .ok (.istore_n 2, 1) := by decide +kernel
theorem dX10_isOrderBy_45 : decode cX10_isOrderBy 45 = .ok (.iinc 4 (-1), 3) := by decide +kernel
theorem dX10_isOrderBy_48 : decode cX10_isOrderBy 48 = .ok (.goto (-33), 3) := by decide +kernel
theorem dX10_isOrderBy_51 : decode cX10_isOrderBy 51 = .ok (.iload_n 3, 1) := by decide +kernel
theorem dX10_isOrderBy_52 : decode cX10_isOrderBy 52 = .ok (.iconst 1, 1) := by decide +kernel
theorem dX10_isOrderBy_53 : decode cX10_isOrderBy 53 = .ok (.aload_n 0, 1) := by decide +kernel
theorem dX10_isOrderBy_54 : decode cX10_isOrderBy 54 = .ok (.getfield 13, 3) := by decide +kernel
