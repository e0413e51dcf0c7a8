theorem dX10_isOrderBy_57 : decode cX10_isOrderBy 57 = .ok (.bipush 30, 2) := by decide +kernel
theorem dX10_isOrderBy_59 : decode cX10_isOrderBy 59 = .ok (.iaload, 1) := by decide +kernel
theorem dX10_isOrderBy_60 : decode cX10_isOrderBy 60 = .ok (.ishl, 1) := by decide +kernel
theorem dX10_isOrderBy_61 : decode cX10_isOrderBy 61 = .ok (.iconst 1, 1) := by decide +kernel
theorem dX10_isOrderBy_62 : decode cX10_isOrderBy 62 = .ok (.isub, 1) := by decide +kernel
theorem dX10_isOrderBy_63 : decode cX10_isOrderBy 63 = .ok (.if_icmp .ne 7, 3) := by decide +kernel
theorem dX10_isOrderBy_66 : decode cX10_isOrderBy 66 = .ok (.iconst 1, 1) := by decide +kernel
theorem dX10_isOrderBy_67 : decode cX10_isOrderBy 67 = .ok (.goto 4, 3) := by decide +kernel
theorem dX10_isOrderBy_70 : decode cX10_isOrderBy 70 = .ok (.iconst 0, 1) := by decide +kernel
theorem dX10_isOrderBy_71 : decode cX10_isOrderBy 71 = .ok (.ireturn, 1) := by decide +kernel
set_option maxRecDepth 20000 in
theorem ggX10_findBest_X10_fetches : GoodIn wsX10_findBest wsX10_fetches := goodIn_r _ [8, 2, 9, 41, 42, 43, 44, 45, 46, 47, 48, 49, 50, 51, 52, 53, 54, 55, 56, 57, 58, 59, 60, 61, 62, 63, 64, 65, 66, 67, 68, 69, 70] (by decide +kernel) (by decide +kernel)
set_option maxRecDepth 20000 in
theorem gX10_findBest_X10_fetches : GoodIn wsX10_findBest (wsV RX10 183 RX10 yX10_fetches wsX10_fetches) := goodIn_app (goodIn_of _ (by decide +kernel)) ggX10_findBest_X10_fetches
set_option maxRecDepth 20000 in
theorem ggX10_findBest_X10_isOrderBy : GoodIn wsX10_findBest wsX10_isOrderBy := goodIn_r _ [13, 2, 41, 42, 43, 44, 45, 46, 47, 48, 49, 50, 51, 52, 53, 54, 55, 56, 57, 58, 59, 60, 61, 62, 63, 64, 65, 66, 67, 68, 69, 70] (by decide +kernel) (by decide +kernel)
set_option maxRecDepth 20000 in
theorem gX10_findBest_X10_isOrderBy : GoodIn wsX10_findBest (wsV RX10 230 RX10 yX10_isOrderBy wsX10_isOrderBy) := goodIn_app (goodIn_of _ (by decide +kernel)) ggX10_findBest_X10_isOrderBy
set_option maxRecDepth 20000 in
theorem ggX10_findBest_X10_allWrong : GoodIn wsX10_findBest wsX10_allWrong := goodIn_r _ [17, 2, 18, 19, 20, 7, 21, 22, 23, 24, 25, 26, 27, 28, 29, 30, 31, 32, 33, 34, 35, 36, 37, 38, 39, 40, 41, 42, 43, 44, 45, 46, 47, 48, 49, 50, 51, 52, 53, 54, 55, 56, 57, 58, 59, 60, 61, 62, 63, 64, 65, 66, 67, 68, 69, 70] (by decide +kernel) (by decide +kernel)
set_option maxRecDepth 20000 in
theorem gX10_findBest_X10_allWrong : GoodIn wsX10_findBest (wsV RX10 195 RX10 yX10_allWrong wsX10_allWrong) := goodIn_app (goodIn_of _ (by decide +kernel)) ggX10_findBest_X10_allWrong
theorem dX10_findBest_0 : decode cX10_findBest 0 = .ok (.iconst 1, 1) := by decide +kernel
theorem dX10_findBest_1 : decode cX10_findBest 1 = .ok (.istore_n 1, 1) := by decide +kernel
theorem dX10_findBest_2 : decode cX10_findBest 2 = .ok (.ldc 229, 2) := by decide +kernel
theorem dX10_findBest_4 : decode cX10_findBest 4 = .ok (.istore_n 2, 1) := by decide +kernel
theorem dX10_findBest_5 : decode cX10_findBest 5 = .ok (.aload_n 0, 1) := by decide +kernel
theorem dX10_findBest_6 : decode cX10_findBest 6 = .ok (.invokevirtual 183, 3) := by decide +kernel
theorem dX10_findBest_9 : decode cX10_findBest 9 = .ok (.iconst 0, 1) := by decide +kernel
theorem dX10_findBest_10 : decode cX10_findBest 10 = .ok (.istore_n 3, 1) := by decide +kernel
theorem dX10_findBest_11 : decode cX10_findBest 11 = .ok (.iload_n 3, 1) := by decide +kernel
theorem dX10_findBest_12 : decode cX10_findBest 12 = .ok (.aload_n 0, 1) := by decide +kernel
theorem dX10_findBest_13 : decode cX10_findBest 13 = .ok (.getfield 13, 3) := by decide +kernel
theorem dX10_findBest_16 : decode cX10_findBest 16 = .ok (.bipush 30, 2) := by decide +kernel
theorem dX10_findBest_18 : decode cX10_findBest 18 = .ok (.iaload, 1) := by decide +kernel
theorem dX10_findBest_19 : decode cX10_findBest 19 = .ok (.if_icmp .ge 13, 3) := by decide +kernel
theorem dX10_findBest_22 : decode cX10_findBest 22 = .ok (.iload_n 1, 1) := by decide +kernel
theorem dX10_findBest_23 : decode cX10_findBest 23 = .ok (.iconst 5, 1) := by decide +kernel
theorem dX10_findBest_24 : decode cX10_findBest 24 = .ok (.imul, 1) := by decide +kernel
theorem dX10_findBest_25 : decode cX10_findBest 25 = .ok (.istore_n 1, 1) := by decide +kernel
theorem dX10_findBest_26 : decode cX10_findBest 26 = .ok (.iinc 3 1, 3) := by decide +kernel
theorem dX10_findBest_29 : decode cX10_findBest 29 = .ok (.goto (-18), 3) := by decide +kernel
theorem dX10_findBest_32 : decode cX10_findBest 32 = .ok (.iconst 0, 1) := by decide +kernel
theorem dX10_findBest_33 : decode cX10_findBest 33 = .ok (.istore_n 3, 1) := by decide +kernel
theorem dX10_findBest_34 : decode cX10_findBest 34 = .ok (.iload_n 3, 1) := by decide +kernel
theorem dX10_findBest_35 : decode cX10_findBest 35 = .ok (.iload_n 1, 1) := by decide +kernel
theorem dX10_findBest_36 : decode cX10_findBest 36 = .ok (.if_icmp .ge 75, 3) := by decide +kernel
theorem dX10_findBest_39 : decode cX10_findBest 39 = .ok (.aload_n 0, 1) := by decide +kernel
theorem dX10_findBest_40 : decode cX10_findBest 40 = .ok (.iload_n 3, 1) := by decide +kernel
theorem dX10_findBest_41 : decode cX10_findBest 41 = .ok (.invokevirtual 230, 3) := by decide +kernel
theorem dX10_findBest_44 : decode cX10_findBest 44 = .ok (.ifCond .eq 10, 3) := by decide +kernel
theorem dX10_findBest_47 : decode cX10_findBest 47 = .ok (.aload_n 0, 1) := by decide +kernel
theorem dX10_findBest_48 : decode cX10_findBest 48 = .ok (.invokevirtual 195, 3) := by decide +kernel
theorem dX10_findBest_51 : decode cX10_findBest 51 = .ok (.goto 5, 3) := by decide +kernel
theorem dX10_findBest_54 : decode cX10_findBest 54 = .ok (.ldc 229, 2) := by decide +kernel
theorem dX10_findBest_56 : decode cX10_findBest 56 = .ok (.istore 4, 2) := by decide +kernel
theorem dX10_findBest_58 : decode cX10_findBest 58 = .ok (.iload 4, 2) := by decide +kernel
theorem dX10_findBest_60 : decode cX10_findBest 60 = .ok (.iload_n 2, 1) := by decide +kernel
theorem dX10_findBest_61 : decode cX10_findBest 61 = .ok (.if_icmp .ge 44, 3) := by decide +kernel
theorem dX10_findBest_64 : decode cX10_findBest 64 = .ok (.iload 4, 2) := by decide +kernel
theorem dX10_findBest_66 : decode cX10_findBest 66 = .ok (.istore_n 2, 1) := by decide +kernel
theorem dX10_findBest_67 : decode cX10_findBest 67 = .ok (.iconst 0, 1) := by decide +kernel
theorem dX10_findBest_68 : decode cX10_findBest 68 = .ok (.istore 5, 2) := by decide +kernel
theorem dX10_findBest_70 : decode cX10_findBest 70 = .ok (.iload 5, 2) := by decide +kernel
theorem dX10_findBest_72 : decode cX10_findBest 72 = .ok (.aload_n 0, 1) := by decide +kernel
theorem dX10_findBest_73 : decode cX10_findBest 73 = .ok (.getfield 13, 3) := by decide +kernel
theorem dX10_findBest_76 : decode cX10_findBest 76 = .ok (.bipush 30, 2) := by decide +kernel
theorem dX10_findBest_78 : decode cX10_findBest 78 = .ok (.iaload, 1) := by decide +kernel
theorem dX10_findBest_79 : decode cX10_findBest 79 = .ok (.if_icmp .ge 26, 3) := by decide +kernel
theorem dX10_findBest_82 : decode cX10_findBest 82 = .ok (.aload_n 0, 1) := by decide +kernel
theorem dX10_findBest_83 : decode cX10_findBest 83 = .ok (.getfield 35, 3) := by decide +kernel
theorem dX10_findBest_86 : decode cX10_findBest 86 = .ok (.iload 5, 2) := by decide +kernel
theorem dX10_findBest_88 : decode cX10_findBest 88 = .ok (.aload_n 0, 1) := by decide +kernel
theorem dX10_findBest_89 : decode cX10_findBest 89 = .ok (.getfield 13, 3) := by decide +kernel
theorem dX10_findBest_92 : decode cX10_findBest 92 = .ok (.bipush 31, 2) := by decide +kernel
theorem dX10_findBest_94 : decode cX10_findBest 94 = .ok (.iload 5, 2) := by decide +kernel
theorem dX10_findBest_96 : decode cX10_findBest 96 = .ok (.iadd, 1) := by decide +kernel
theorem dX10_findBest_97 : decode cX10_findBest 97 = .ok (.iaload, 1) := by decide +kernel
theorem dX10_findBest_98 : decode cX10_findBest 98 = .ok (.iastore, 1) := by decide +kernel
theorem dX10_findBest_99 : decode cX10_findBest 99 = .ok (.iinc 5 1, 3) := by decide +kernel
theorem dX10_findBest_102 : decode cX10_findBest 102 = .ok (.goto (-32), 3) := by decide +kernel
theorem dX10_findBest_105 : decode cX10_findBest 105 = .ok (.iinc 3 1, 3) := by decide +kernel
theorem dX10_findBest_108 : decode cX10_findBest 108 = .ok (.goto (-74), 3) := by decide +kernel
theorem dX10_findBest_111 : decode cX10_findBest 111 = .ok (.iload_n 2, 1) := by decide +kernel
theorem dX10_findBest_112 : decode cX10_findBest 112 = .ok (.ireturn, 1) := by decide +kernel
set_option maxRecDepth 20000 in
theorem ggX10_best_X10_isBox : GoodIn wsX10_best wsX10_isBox := goodIn_r _ [6, 7, 8, 9, 5, 10, 52, 53, 54, 55, 56, 57, 58, 59, 60, 61, 62, 63, 64, 65, 66, 67, 68, 69, 70, 71, 72, 73, 74, 75, 76, 77, 78, 79, 80, 81] (by decide +kernel) (by decide +kernel)
set_option maxRecDepth 20000 in
theorem gX10_best_X10_isBox : GoodIn wsX10_best (wsV RX10 201 RX10 yX10_isBox wsX10_isBox) := goodIn_app (goodIn_of _ (by decide +kernel)) ggX10_best_X10_isBox
set_option maxRecDepth 20000 in
theorem ggX10_best_X10_findBest : GoodIn wsX10_best wsX10_findBest := goodIn_r _ [14, 15, 16, 1, 17, 18, 19, 5, 20, 7, 21, 22, 23, 24, 25, 26, 27, 28, 29, 30, 31, 32, 33, 34, 35, 36, 37, 38, 39, 40, 41, 42, 43, 44, 45, 46, 47, 48, 49, 50, 51, 52, 53, 54, 55, 56, 57, 58, 59, 60, 61, 62, 63, 64, 65, 66, 67, 68, 69, 70, 71, 72, 73, 74, 75, 76, 77, 78, 79, 80, 81] (by decide +kernel) (by decide +kernel)
set_option maxRecDepth 20000 in
theorem gX10_best_X10_findBest : GoodIn wsX10_best (wsV RX10 233 RX10 yX10_findBest wsX10_findBest) := goodIn_app (goodIn_of _ (by decide +kernel)) ggX10_best_X10_findBest
theorem dX10_best_0 : decode cX10_best 0 = .ok (.iload_n 1, 1) := by decide +kernel
theorem dX10_best_1 : decode cX10_best 1 = .ok (.ifCond .eq 16, 3) := by decide +kernel
theorem dX10_best_4 : decode cX10_best 4 = .ok (.aload_n 0, 1) := by decide +kernel
theorem dX10_best_5 : decode cX10_best 5 = .ok (.iload_n 1, 1) := by decide +kernel
theorem dX10_best_6 : decode cX10_best 6 = .ok (.bipush 10, 2) := by decide +kernel
theorem dX10_best_8 : decode cX10_best 8 = .ok (.isub, 1) := by decide +kernel
theorem dX10_best_9 : decode cX10_best 9 = .ok (.invokevirtual 201, 3) := by decide +kernel
theorem dX10_best_12 : decode cX10_best 12 = .ok (.ifCond .ne 5, 3) := by decide +kernel
theorem dX10_best_15 : decode cX10_best 15 = .ok (.iconst (-1), 1) := by decide +kernel
theorem dX10_best_16 : decode cX10_best 16 = .ok (.ireturn, 1) := by decide +kernel
theorem dX10_best_17 : decode cX10_best 17 = .ok (.aload_n 0, 1) := by decide +kernel
theorem dX10_best_18 : decode cX10_best 18 = .ok (.invokevirtual 233, 3) := by decide +kernel
theorem dX10_best_21 : decode cX10_best 21 = .ok (.istore_n 2, 1) := by decide +kernel
theorem dX10_best_22 : decode cX10_best 22 = .ok (.iload_n 1, 1) := by decide +kernel
theorem dX10_best_23 : decode cX10_best 23 = .ok (.ifCond .ne 7, 3) := by decide +kernel
theorem dX10_best_26 : decode cX10_best 26 = .ok (.iload_n 2, 1) := by decide +kernel
theorem dX10_best_27 : decode cX10_best 27 = .ok (.goto 12, 3) := by decide +kernel
theorem dX10_best_30 : decode cX10_best 30 = .ok (.aload_n 0, 1) := by decide +kernel
theorem dX10_best_31 : decode cX10_best 31 = .ok (.getfield 35, 3) := by decide +kernel
theorem dX10_best_34 : decode cX10_best 34 = .ok (.iload_n 1, 1) := by decide +kernel
theorem dX10_best_35 : decode cX10_best 35 = .ok (.bipush 10, 2) := by decide +kernel
theorem dX10_best_37 : decode cX10_best 37 = .ok (.isub, 1) := by decide +kernel
theorem dX10_best_38 : decode cX10_best 38 = .ok (.iaload, 1) := by decide +kernel
theorem dX10_best_39 : decode cX10_best 39 = .ok (.ireturn, 1) := by decide +kernel
set_option maxRecDepth 20000 in
theorem ggX10_begin_X10_isPart : GoodIn wsX10_begin wsX10_isPart := goodIn_r _ [6, 7, 8, 5, 9] (by decide +kernel) (by decide +kernel)
set_option maxRecDepth 20000 in
theorem gX10_begin_X10_isPart : GoodIn wsX10_begin (va_wsS RX10 207 yX10_isPart wsX10_isPart) := goodIn_app (goodIn_of _ (by decide +kernel)) ggX10_begin_X10_isPart
set_option maxRecDepth 20000 in
theorem ggX10_begin_X10_fetches : GoodIn wsX10_begin wsX10_fetches := goodIn_r _ [13, 2, 14, 42, 43, 44, 45, 46, 47, 48, 49, 50, 51, 52, 53, 54, 55, 56, 57, 58, 59, 60, 61, 62, 63, 64, 65, 66, 67, 68, 69, 70, 71] (by decide +kernel) (by decide +kernel)
set_option maxRecDepth 20000 in
theorem gX10_begin_X10_fetches : GoodIn wsX10_begin (wsV RX10 183 RX10 yX10_fetches wsX10_fetches) := goodIn_app (goodIn_of _ (by decide +kernel)) ggX10_begin_X10_fetches
set_option maxRecDepth 20000 in
theorem ggX10_begin_X10_allWrong : GoodIn wsX10_begin wsX10_allWrong := goodIn_r _ [18, 2, 19, 20, 21, 5, 22, 23, 24, 25, 26, 27, 28, 29, 30, 31, 32, 33, 34, 35, 36, 37, 38, 39, 40, 41, 42, 43, 44, 45, 46, 47, 48, 49, 50, 51, 52, 53, 54, 55, 56, 57, 58, 59, 60, 61, 62, 63, 64, 65, 66, 67, 68, 69, 70, 71] (by decide +kernel) (by decide +kernel)
set_option maxRecDepth 20000 in
theorem gX10_begin_X10_allWrong : GoodIn wsX10_begin (wsV RX10 195 RX10 yX10_allWrong wsX10_allWrong) := goodIn_app (goodIn_of _ (by decide +kernel)) ggX10_begin_X10_allWrong
set_option maxRecDepth 20000 in
theorem ggX10_begin_X10_lesser : GoodIn wsX10_begin wsX10_lesser := goodIn_r _ [41] (by decide +kernel) (by decide +kernel)
set_option maxRecDepth 20000 in
theorem gX10_begin_X10_lesser : GoodIn wsX10_begin (va_wsS RX10 167 yX10_lesser wsX10_lesser) := goodIn_app (goodIn_of _ (by decide +kernel)) ggX10_begin_X10_lesser
theorem dX10_begin_0 : decode cX10_begin 0 = .ok (.iload_n 1, 1) := by decide +kernel
theorem dX10_begin_1 : decode cX10_begin 1 = .ok (.invokestatic 207, 3) := by decide +kernel
theorem dX10_begin_4 : decode cX10_begin 4 = .ok (.ifCond .ne 5, 3) := by decide +kernel
theorem dX10_begin_7 : decode cX10_begin 7 = .ok (.iconst (-1), 1) := by decide +kernel
theorem dX10_begin_8 : decode cX10_begin 8 = .ok (.ireturn, 1) := by decide +kernel
theorem dX10_begin_9 : decode cX10_begin 9 = .ok (.ldc 229, 2) := by decide +kernel
theorem dX10_begin_11 : decode cX10_begin 11 = .ok (.istore_n 2, 1) := by decide +kernel
theorem dX10_begin_12 : decode cX10_begin 12 = .ok (.iconst 0, 1) := by decide +kernel
theorem dX10_begin_13 : decode cX10_begin 13 = .ok (.istore_n 3, 1) := by decide +kernel
theorem dX10_begin_14 : decode cX10_begin 14 = .ok (.aload_n 0, 1) := by decide +kernel
theorem dX10_begin_15 : decode cX10_begin 15 = .ok (.invokevirtual 183, 3) := by decide +kernel
theorem dX10_begin_18 : decode cX10_begin 18 = .ok (.iconst 0, 1) := by decide +kernel
theorem dX10_begin_19 : decode cX10_begin 19 = .ok (.istore 4, 2) := by decide +kernel
theorem dX10_begin_21 : decode cX10_begin 21 = .ok (.iload 4, 2) := by decide +kernel
theorem dX10_begin_23 : decode cX10_begin 23 = .ok (.bipush 24, 2) := by decide +kernel
theorem dX10_begin_25 : decode cX10_begin 25 = .ok (.if_icmp .ge 44, 3) := by decide +kernel
theorem dX10_begin_28 : decode cX10_begin 28 = .ok (.aload_n 0, 1) := by decide +kernel
theorem dX10_begin_29 : decode cX10_begin 29 = .ok (.getfield 13, 3) := by decide +kernel
theorem dX10_begin_32 : decode cX10_begin 32 = .ok (.bipush 36, 2) := by decide +kernel
theorem dX10_begin_34 : decode cX10_begin 34 = .ok (.iload 4, 2) := by decide +kernel
theorem dX10_begin_36 : decode cX10_begin 36 = .ok (.iastore, 1) := by decide +kernel
theorem dX10_begin_37 : decode cX10_begin 37 = .ok (.aload_n 0, 1) := by decide +kernel
theorem dX10_begin_38 : decode cX10_begin 38 = .ok (.invokevirtual 195, 3) := by decide +kernel
theorem dX10_begin_41 : decode cX10_begin 41 = .ok (.istore 5, 2) := by decide +kernel
theorem dX10_begin_43 : decode cX10_begin 43 = .ok (.iload 5, 2) := by decide +kernel
theorem dX10_begin_45 : decode cX10_begin 45 = .ok (.iload_n 2, 1) := by decide +kernel
theorem dX10_begin_46 : decode cX10_begin 46 = .ok (.if_icmp .ge 8, 3) := by decide +kernel
theorem dX10_begin_49 : decode cX10_begin 49 = .ok (.iload 4, 2) := by decide +kernel
theorem dX10_begin_51 : decode cX10_begin 51 = .ok (.goto 4, 3) := by decide +kernel
theorem dX10_begin_54 : decode cX10_begin 54 = .ok (.iload_n 3, 1) := by decide +kernel
theorem dX10_begin_55 : decode cX10_begin 55 = .ok (.istore_n 3, 1) := by decide +kernel
theorem dX10_begin_56 : decode cX10_begin 56 = .ok (.iload 5, 2) := by decide +kernel
theorem dX10_begin_58 : decode cX10_begin 58 = .ok (.iload_n 2, 1) := by decide +kernel
theorem dX10_begin_59 : decode cX10_begin 59 = .ok (.invokestatic 167, 3) := by decide +kernel
theorem dX10_begin_62 : decode cX10_begin 62 = .ok (.istore_n 2, 1) := by decide +kernel
theorem dX10_begin_63 : decode cX10_begin 63 = .ok (.iinc 4 1, 3) := by decide +kernel
theorem dX10_begin_66 : decode cX10_begin 66 = .ok (.goto (-45), 3) := by decide +kernel
theorem dX10_begin_69 : decode cX10_begin 69 = .ok (.iload_n 1, 1) := by decide +kernel
theorem dX10_begin_70 : decode cX10_begin 70 = .ok (.ifCond .ne 7, 3) := by decide +kernel
theorem dX10_begin_73 : decode cX10_begin 73 = .ok (.iload_n 3, 1) := by decide +kernel
theorem dX10_begin_74 : decode cX10_begin 74 = .ok (.goto 4, 3) := by decide +kernel
theorem dX10_begin_77 : decode cX10_begin 77 = .ok (.iload_n 2, 1) := by decide +kernel
theorem dX10_begin_78 : decode cX10_begin 78 = .ok (.ireturn, 1) := by decide +kernel
set_option maxRecDepth 20000 in
theorem ggX10_swap_X10_isPart : GoodIn wsX10_swap wsX10_isPart := goodIn_r _ [6, 7, 8, 5, 9] (by decide +kernel) (by decide +kernel)
set_option maxRecDepth 20000 in
theorem gX10_swap_X10_isPart : GoodIn wsX10_swap (va_wsS RX10 207 yX10_isPart wsX10_isPart) := goodIn_app (goodIn_of _ (by decide +kernel)) ggX10_swap_X10_isPart
set_option maxRecDepth 20000 in
theorem ggX10_swap_X10_fetches : GoodIn wsX10_swap wsX10_fetches := goodIn_r _ [13, 2, 1, 41, 42, 43, 44, 45, 46, 47, 48, 49, 50, 51, 52, 53, 54, 55, 56, 57, 58, 59, 60, 61, 62, 63, 64, 65, 66, 67, 68, 69, 70] (by decide +kernel) (by decide +kernel)
set_option maxRecDepth 20000 in
theorem gX10_swap_X10_fetches : GoodIn wsX10_swap (wsV RX10 183 RX10 yX10_fetches wsX10_fetches) := goodIn_app (goodIn_of _ (by decide +kernel)) ggX10_swap_X10_fetches
set_option maxRecDepth 20000 in
theorem ggX10_swap_X10_allWrong : GoodIn wsX10_swap wsX10_allWrong := goodIn_r _ [17, 2, 18, 19, 20, 5, 21, 22, 23, 24, 25, 26, 27, 28, 29, 30, 31, 32, 33, 34, 35, 36, 37, 38, 39, 40, 41, 42, 43, 44, 45, 46, 47, 48, 49, 50, 51, 52, 53, 54, 55, 56, 57, 58, 59, 60, 61, 62, 63, 64, 65, 66, 67, 68, 69, 70] (by decide +kernel) (by decide +kernel)
set_option maxRecDepth 20000 in
theorem gX10_swap_X10_allWrong : GoodIn wsX10_swap (wsV RX10 195 RX10 yX10_allWrong wsX10_allWrong) := goodIn_app (goodIn_of _ (by decide +kernel)) ggX10_swap_X10_allWrong
set_option maxRecDepth 20000 in
theorem ggX10_swap_X10_lesser : GoodIn wsX10_swap wsX10_lesser := goodIn_r _ [40] (by decide +kernel) (by decide +kernel)
set_option maxRecDepth 20000 in
theorem gX10_swap_X10_lesser : GoodIn wsX10_swap (va_wsS RX10 167 yX10_lesser wsX10_lesser) := goodIn_app (goodIn_of _ (by decide +kernel)) ggX10_swap_X10_lesser
theorem dX10_swap_0 : decode cX10_swap 0 = .ok (.iload_n 1, 1) := by decide +kernel
theorem dX10_swap_1 : decode cX10_swap 1 = .ok (.invokestatic 207, 3) := by decide +kernel
theorem dX10_swap_4 : decode cX10_swap 4 = .ok (.ifCond .ne 5, 3) := by decide +kernel
theorem dX10_swap_7 : decode cX10_swap 7 = .ok (.iconst (-1), 1) := by decide +kernel
theorem dX10_swap_8 : decode cX10_swap 8 = .ok (.ireturn, 1) := by decide +kernel
theorem dX10_swap_9 : decode cX10_swap 9 = .ok (.aload_n 0, 1) := by decide +kernel
theorem dX10_swap_10 : decode cX10_swap 10 = .ok (.invokevirtual 183, 3) := by decide +kernel
theorem dX10_swap_13 : decode cX10_swap 13 = .ok (.aload_n 0, 1) := by decide +kernel
theorem dX10_swap_14 : decode cX10_swap 14 = .ok (.invokevirtual 195, 3) := by decide +kernel
theorem dX10_swap_17 : decode cX10_swap 17 = .ok (.istore_n 2, 1) := by decide +kernel
theorem dX10_swap_18 : decode cX10_swap 18 = .ok (.bipush (-4), 2) := by decide +kernel
theorem dX10_swap_20 : decode cX10_swap 20 = .ok (.istore_n 3, 1) := by decide +kernel
theorem dX10_swap_21 : decode cX10_swap 21 = .ok (.iconst 0, 1) := by decide +kernel
theorem dX10_swap_22 : decode cX10_swap 22 = .ok (.istore 4, 2) := by decide +kernel
theorem dX10_swap_24 : decode cX10_swap 24 = .ok (.iload 4, 2) := by decide +kernel
theorem dX10_swap_26 : decode cX10_swap 26 = .ok (.aload_n 0, 1) := by decide +kernel
theorem dX10_swap_27 : decode cX10_swap 27 = .ok (.getfield 7, 3) := by decide +kernel
theorem dX10_swap_30 : decode cX10_swap 30 = .ok (.bipush 30, 2) := by decide +kernel
theorem dX10_swap_32 : decode cX10_swap 32 = .ok (.iaload, 1) := by decide +kernel
theorem dX10_swap_33 : decode cX10_swap 33 = .ok (.if_icmp .ge 109, 3) := by decide +kernel
theorem dX10_swap_36 : decode cX10_swap 36 = .ok (.iload 4, 2) := by decide +kernel
theorem dX10_swap_38 : decode cX10_swap 38 = .ok (.iconst 1, 1) := by decide +kernel
theorem dX10_swap_39 : decode cX10_swap 39 = .ok (.iadd, 1) := by decide +kernel
theorem dX10_swap_40 : decode cX10_swap 40 = .ok (.istore 5, 2) := by decide +kernel
theorem dX10_swap_42 : decode cX10_swap 42 = .ok (.iload 5, 2) := by decide +kernel
theorem dX10_swap_44 : decode cX10_swap 44 = .ok (.aload_n 0, 1) := by decide +kernel
theorem dX10_swap_45 : decode cX10_swap 45 = .ok (.getfield 7, 3) := by decide +kernel
theorem dX10_swap_48 : decode cX10_swap 48 = .ok (.bipush 30, 2) := by decide +kernel
theorem dX10_swap_50 : decode cX10_swap 50 = .ok (.iaload, 1) := by decide +kernel
theorem dX10_swap_51 : decode cX10_swap 51 = .ok (.if_icmp .ge 85, 3) := by decide +kernel
theorem dX10_swap_54 : decode cX10_swap 54 = .ok (.aload_n 0, 1) := by decide +kernel
theorem dX10_swap_55 : decode cX10_swap 55 = .ok (.invokevirtual 183, 3) := by decide +kernel
theorem dX10_swap_58 : decode cX10_swap 58 = .ok (.aload_n 0, 1) := by decide +kernel
theorem dX10_swap_59 : decode cX10_swap 59 = .ok (.getfield 13, 3) := by decide +kernel
theorem dX10_swap_62 : decode cX10_swap 62 = .ok (.bipush 31, 2) := by decide +kernel
theorem dX10_swap_64 : decode cX10_swap 64 = .ok (.iload 4, 2) := by decide +kernel
theorem dX10_swap_66 : decode cX10_swap 66 = .ok (.iadd, 1) := by decide +kernel
theorem dX10_swap_67 : decode cX10_swap 67 = .ok (.aload_n 0, 1) := by decide +kernel
theorem dX10_swap_68 : decode cX10_swap 68 = .ok (.getfield 7, 3) := by decide +kernel
theorem dX10_swap_71 : decode cX10_swap 71 = .ok (.bipush 31, 2) := by decide +kernel
theorem dX10_swap_73 : decode cX10_swap 73 = .ok (.iload 5, 2) := by decide +kernel
theorem dX10_swap_75 : decode cX10_swap 75 = .ok (.iadd, 1) := by decide +kernel
theorem dX10_swap_76 : decode cX10_swap 76 = .ok (.iaload, 1) := by decide +kernel
theorem dX10_swap_77 : decode cX10_swap 77 = .ok (.iastore, 1) := by decide +kernel
theorem dX10_swap_78 : decode cX10_swap 78 = .ok (.aload_n 0, 1) := by decide +kernel
theorem dX10_swap_79 : decode cX10_swap 79 = .ok (.getfield 13, 3) := by decide +kernel
theorem dX10_swap_82 : decode cX10_swap 82 = .ok (.bipush 31, 2) := by decide +kernel
theorem dX10_swap_84 : decode cX10_swap 84 = .ok (.iload 5, 2) := by decide +kernel
theorem dX10_swap_86 : decode cX10_swap 86 = .ok (.iadd, 1) := by decide +kernel
theorem dX10_swap_87 : decode cX10_swap 87 = .ok (.aload_n 0, 1) := by decide +kernel
theorem dX10_swap_88 : decode cX10_swap 88 = .ok (.getfield 7, 3) := by decide +kernel
theorem dX10_swap_91 : decode cX10_swap 91 = .ok (.bipush 31, 2) := by decide +kernel
theorem dX10_swap_93 : decode cX10_swap 93 = .ok (.iload 4, 2) := by decide +kernel
theorem dX10_swap_95 : decode cX10_swap 95 = .ok (.iadd, 1) := by decide +kernel
theorem dX10_swap_96 : decode cX10_swap 96 = .ok (.iaload, 1) := by decide +kernel
theorem dX10_swap_97 : decode cX10_swap 97 = .ok (.iastore, 1) := by decide +kernel
theorem dX10_swap_98 : decode cX10_swap 98 = .ok (.aload_n 0, 1) := by decide +kernel
theorem dX10_swap_99 : decode cX10_swap 99 = .ok (.invokevirtual 195, 3) := by decide +kernel
theorem dX10_swap_102 : decode cX10_swap 102 = .ok (.istore 6, 2) := by decide +kernel
theorem dX10_swap_104 : decode cX10_swap 104 = .ok (.iload 6, 2) := by decide +kernel
theorem dX10_swap_106 : decode cX10_swap 106 = .ok (.iload_n 2, 1) := by decide +kernel
theorem dX10_swap_107 : decode cX10_swap 107 = .ok (.if_icmp .ge 14, 3) := by decide +kernel
theorem dX10_swap_110 : decode cX10_swap 110 = .ok (.bipush 10, 2) := by decide +kernel
theorem dX10_swap_112 : decode cX10_swap 112 = .ok (.iload 4, 2) := by decide +kernel
theorem dX10_swap_114 : decode cX10_swap 114 = .ok (.imul, 1) := by decide +kernel
theorem dX10_swap_115 : decode cX10_swap 115 = .ok (.iload 5, 2) := by decide +kernel
theorem dX10_swap_117 : decode cX10_swap 117 = .ok (.iadd, 1) := by decide +kernel
theorem dX10_swap_118 : decode cX10_swap 118 = .ok (.goto 4, 3) := by decide +kernel
theorem dX10_swap_121 : decode cX10_swap 121 = .ok (.iload_n 3, 1) := by decide +kernel
theorem dX10_swap_122 : decode cX10_swap 122 = .ok (.istore_n 3, 1) := by decide +kernel
theorem dX10_swap_123 : decode cX10_swap 123 = .ok (.iload 6, 2) := by decide +kernel
theorem dX10_swap_125 : decode cX10_swap 125 = .ok (.iload_n 2, 1) := by decide +kernel
theorem dX10_swap_126 : decode cX10_swap 126 = .ok (.invokestatic 167, 3) := by decide +kernel
theorem dX10_swap_129 : decode cX10_swap 129 = .ok (.istore_n 2, 1) := by decide +kernel
theorem dX10_swap_130 : decode cX10_swap 130 = .ok (.iinc 5 1, 3) := by decide +kernel
theorem dX10_swap_133 : decode cX10_swap 133 = .ok (.goto (-91), 3) := by decide +kernel
theorem dX10_swap_136 : decode cX10_swap 136 = .ok (.iinc 4 1, 3) := by decide +kernel
theorem dX10_swap_139 : decode cX10_swap 139 = .ok (.goto (-115), 3) := by decide +kernel
theorem dX10_swap_142 : decode cX10_swap 142 = .ok (.iload_n 3, 1) := by decide +kernel
theorem dX10_swap_143 : decode cX10_swap 143 = .ok (.bipush (-4), 2) := by decide +kernel
theorem dX10_swap_145 : decode cX10_swap 145 = .ok (.if_icmp .ne 8, 3) := by decide +kernel
theorem dX10_swap_148 : decode cX10_swap 148 = .ok (.bipush (-4), 2) := by decide +kernel
theorem dX10_swap_150 : decode cX10_swap 150 = .ok (.goto 12, 3) := by decide +kernel
theorem dX10_swap_153 : decode cX10_swap 153 = .ok (.iload_n 1, 1) := by decide +kernel
theorem dX10_swap_154 : decode cX10_swap 154 = .ok (.ifCond .ne 7, 3) := by decide +kernel
theorem dX10_swap_157 : decode cX10_swap 157 = .ok (.iload_n 3, 1) := by decide +kernel
theorem dX10_swap_158 : decode cX10_swap 158 = .ok (.goto 4, 3) := by decide +kernel
theorem dX10_swap_161 : decode cX10_swap 161 = .ok (.iload_n 2, 1) := by decide +kernel
theorem dX10_swap_162 : decode cX10_swap 162 = .ok (.ireturn, 1) := by decide +kernel
set_option maxRecDepth 20000 in
theorem ggX10_longer_X10_isBox : GoodIn wsX10_longer wsX10_isBox := goodIn_r _ [6, 1, 7, 8, 5, 9, 35, 36, 37, 38, 39, 40, 41, 42, 43, 44, 45, 46, 47, 48, 49, 50, 51, 52, 53, 54, 55, 56, 57, 58, 59, 60, 61, 62, 63, 64] (by decide +kernel) (by decide +kernel)
set_option maxRecDepth 20000 in
theorem gX10_longer_X10_isBox : GoodIn wsX10_longer (wsV RX10 201 RX10 yX10_isBox wsX10_isBox) := goodIn_app (goodIn_of _ (by decide +kernel)) ggX10_longer_X10_isBox
set_option maxRecDepth 20000 in
theorem ggX10_longer_X10_fetches : GoodIn wsX10_longer wsX10_fetches := goodIn_r _ [13, 14, 1, 35, 36, 37, 38, 39, 40, 41, 42, 43, 44, 45, 46, 47, 48, 49, 50, 51, 52, 53, 54, 55, 56, 57, 58, 59, 60, 61, 62, 63, 64] (by decide +kernel) (by decide +kernel)
set_option maxRecDepth 20000 in
theorem gX10_longer_X10_fetches : GoodIn wsX10_longer (wsV RX10 183 RX10 yX10_fetches wsX10_fetches) := goodIn_app (goodIn_of _ (by decide +kernel)) ggX10_longer_X10_fetches
set_option maxRecDepth 20000 in
theorem ggX10_longer_X10_becomesOf : GoodIn wsX10_longer wsX10_becomesOf := goodIn_r _ [18, 14, 35, 36, 37, 38, 39, 40, 41, 42, 43, 44, 45, 46, 47, 48, 49, 50, 51, 52, 53, 54, 55, 56, 57, 58, 59, 60, 61, 62, 63, 64] (by decide +kernel) (by decide +kernel)
set_option maxRecDepth 20000 in
theorem gX10_longer_X10_becomesOf : GoodIn wsX10_longer (wsV RX10 236 RX10 yX10_becomesOf wsX10_becomesOf) := goodIn_app (goodIn_of _ (by decide +kernel)) ggX10_longer_X10_becomesOf
set_option maxRecDepth 20000 in
theorem ggX10_longer_X10_ownHour : GoodIn wsX10_longer wsX10_ownHour := goodIn_r _ [22, 23, 24, 25, 5, 26, 14, 27, 28, 29, 30, 31, 32, 33, 34, 35, 36, 37, 38, 39, 40, 41, 42, 43, 44, 45, 46, 47, 48, 49, 50, 51, 52, 53, 54, 55, 56, 57, 58, 59, 60, 61, 62, 63, 64] (by decide +kernel) (by decide +kernel)
set_option maxRecDepth 20000 in
theorem gX10_longer_X10_ownHour : GoodIn wsX10_longer (wsV RX10 164 RX10 yX10_ownHour wsX10_ownHour) := goodIn_app (goodIn_of _ (by decide +kernel)) ggX10_longer_X10_ownHour
set_option maxRecDepth 20000 in
theorem ggX10_longer_X10_of : GoodIn wsX10_longer wsX10_of := goodIn_r _ [34, 14, 35, 36, 37, 38, 39, 40, 41, 42, 43, 44, 45, 46, 47, 48, 49, 50, 51, 52, 53, 54, 55, 56, 57, 58, 59, 60, 61, 62, 63, 64] (by decide +kernel) (by decide +kernel)
set_option maxRecDepth 20000 in
theorem gX10_longer_X10_of : GoodIn wsX10_longer (wsV RX10 155 RX10 yX10_of wsX10_of) := goodIn_app (goodIn_of _ (by decide +kernel)) ggX10_longer_X10_of
theorem dX10_longer_0 : decode cX10_longer 0 = .ok (.aload_n 0, 1) := by decide +kernel
theorem dX10_longer_1 : decode cX10_longer 1 = .ok (.iload_n 1, 1) := by decide +kernel
theorem dX10_longer_2 : decode cX10_longer 2 = .ok (.invokevirtual 201, 3) := by decide +kernel
theorem dX10_longer_5 : decode cX10_longer 5 = .ok (.ifCond .ne 5, 3) := by decide +kernel
theorem dX10_longer_8 : decode cX10_longer 8 = .ok (.iconst (-1), 1) := by decide +kernel
theorem dX10_longer_9 : decode cX10_longer 9 = .ok (.ireturn, 1) := by decide +kernel
theorem dX10_longer_10 : decode cX10_longer 10 = .ok (.aload_n 0, 1) := by decide +kernel
theorem dX10_longer_11 : decode cX10_longer 11 = .ok (.invokevirtual 183, 3) := by decide +kernel
theorem dX10_longer_14 : decode cX10_longer 14 = .ok (.aload_n 0, 1) := by decide +kernel
theorem dX10_longer_15 : decode cX10_longer 15 = .ok (.getfield 7, 3) := by decide +kernel
theorem dX10_longer_18 : decode cX10_longer 18 = .ok (.bipush 6, 2) := by decide +kernel
theorem dX10_longer_20 : decode cX10_longer 20 = .ok (.iload_n 1, 1) := by decide +kernel
theorem dX10_longer_21 : decode cX10_longer 21 = .ok (.imul, 1) := by decide +kernel
theorem dX10_longer_22 : decode cX10_longer 22 = .ok (.iconst 1, 1) := by decide +kernel
theorem dX10_longer_23 : decode cX10_longer 23 = .ok (.iadd, 1) := by decide +kernel
theorem dX10_longer_24 : decode cX10_longer 24 = .ok (.iaload, 1) := by decide +kernel
theorem dX10_longer_25 : decode cX10_longer 25 = .ok (.istore_n 2, 1) := by decide +kernel
theorem dX10_longer_26 : decode cX10_longer 26 = .ok (.iload_n 2, 1) := by decide +kernel
theorem dX10_longer_27 : decode cX10_longer 27 = .ok (.bipush 12, 2) := by decide +kernel
theorem dX10_longer_29 : decode cX10_longer 29 = .ok (.if_icmp .gt 44, 3) := by decide +kernel
theorem dX10_longer_32 : decode cX10_longer 32 = .ok (.aload_n 0, 1) := by decide +kernel
theorem dX10_longer_33 : decode cX10_longer 33 = .ok (.iload_n 1, 1) := by decide +kernel
theorem dX10_longer_34 : decode cX10_longer 34 = .ok (.iconst 1, 1) := by decide +kernel
theorem dX10_longer_35 : decode cX10_longer 35 = .ok (.iload_n 2, 1) := by decide +kernel
theorem dX10_longer_36 : decode cX10_longer 36 = .ok (.invokevirtual 236, 3) := by decide +kernel
theorem dX10_longer_39 : decode cX10_longer 39 = .ok (.aload_n 0, 1) := by decide +kernel
theorem dX10_longer_40 : decode cX10_longer 40 = .ok (.iload_n 1, 1) := by decide +kernel
theorem dX10_longer_41 : decode cX10_longer 41 = .ok (.invokevirtual 164, 3) := by decide +kernel
theorem dX10_longer_44 : decode cX10_longer 44 = .ok (.aload_n 0, 1) := by decide +kernel
theorem dX10_longer_45 : decode cX10_longer 45 = .ok (.iload_n 1, 1) := by decide +kernel
theorem dX10_longer_46 : decode cX10_longer 46 = .ok (.iconst 2, 1) := by decide +kernel
theorem dX10_longer_47 : decode cX10_longer 47 = .ok (.invokevirtual 155, 3) := by decide +kernel
theorem dX10_longer_50 : decode cX10_longer 50 = .ok (.if_icmp .ne 17, 3) := by decide +kernel
theorem dX10_longer_53 : decode cX10_longer 53 = .ok (.iload_n 2, 1) := by decide +kernel
theorem dX10_longer_54 : decode cX10_longer 54 = .ok (.aload_n 0, 1) := by decide +kernel
theorem dX10_longer_55 : decode cX10_longer 55 = .ok (.getfield 7, 3) := by decide +kernel
theorem dX10_longer_58 : decode cX10_longer 58 = .ok (.bipush 6, 2) := by decide +kernel
theorem dX10_longer_60 : decode cX10_longer 60 = .ok (.iload_n 1, 1) := by decide +kernel
theorem dX10_longer_61 : decode cX10_longer 61 = .ok (.imul, 1) := by decide +kernel
theorem dX10_longer_62 : decode cX10_longer 62 = .ok (.iconst 1, 1) := by decide +kernel
theorem dX10_longer_63 : decode cX10_longer 63 = .ok (.iadd, 1) := by decide +kernel
theorem dX10_longer_64 : decode cX10_longer 64 = .ok (.iaload, 1) := by decide +kernel
theorem dX10_longer_65 : decode cX10_longer 65 = .ok (.isub, 1) := by decide +kernel
theorem dX10_longer_66 : decode cX10_longer 66 = .ok (.ireturn, 1) := by decide +kernel
theorem dX10_longer_67 : decode cX10_longer 67 = .ok (.iinc 2 1, 3) := by decide +kernel
theorem dX10_longer_70 : decode cX10_longer 70 = .ok (.goto (-44), 3) := by decide +kernel
theorem dX10_longer_73 : decode cX10_longer 73 = .ok (.bipush (-4), 2) := by decide +kernel
theorem dX10_longer_75 : decode cX10_longer 75 = .ok (.ireturn, 1) := by decide +kernel
set_option maxRecDepth 20000 in
theorem ggX10_when_X10_isBox : GoodIn wsX10_when wsX10_isBox := goodIn_r _ [6, 7, 8, 9, 5, 10, 52, 53, 54, 55, 56, 57, 58, 59, 60, 61, 62, 63, 64, 65, 66, 67, 68, 69, 70, 71, 72, 73, 74, 75, 76, 77, 78, 79, 80, 81] (by decide +kernel) (by decide +kernel)
set_option maxRecDepth 20000 in
theorem gX10_when_X10_isBox : GoodIn wsX10_when (wsV RX10 201 RX10 yX10_isBox wsX10_isBox) := goodIn_app (goodIn_of _ (by decide +kernel)) ggX10_when_X10_isBox
set_option maxRecDepth 20000 in
theorem ggX10_when_X10_isHour : GoodIn wsX10_when wsX10_isHour := goodIn_r _ [13, 14, 8, 9, 5, 10] (by decide +kernel) (by decide +kernel)
set_option maxRecDepth 20000 in
theorem gX10_when_X10_isHour : GoodIn wsX10_when (va_wsS RX10 214 yX10_isHour wsX10_isHour) := goodIn_app (goodIn_of _ (by decide +kernel)) ggX10_when_X10_isHour
set_option maxRecDepth 20000 in
theorem ggX10_when_X10_fetches : GoodIn wsX10_when wsX10_fetches := goodIn_r _ [18, 19, 7, 52, 53, 54, 55, 56, 57, 58, 59, 60, 61, 62, 63, 64, 65, 66, 67, 68, 69, 70, 71, 72, 73, 74, 75, 76, 77, 78, 79, 80, 81] (by decide +kernel) (by decide +kernel)
set_option maxRecDepth 20000 in
theorem gX10_when_X10_fetches : GoodIn wsX10_when (wsV RX10 183 RX10 yX10_fetches wsX10_fetches) := goodIn_app (goodIn_of _ (by decide +kernel)) ggX10_when_X10_fetches
set_option maxRecDepth 20000 in
theorem ggX10_when_X10_becomesOf : GoodIn wsX10_when wsX10_becomesOf := goodIn_r _ [23, 19, 52, 53, 54, 55, 56, 57, 58, 59, 60, 61, 62, 63, 64, 65, 66, 67, 68, 69, 70, 71, 72, 73, 74, 75, 76, 77, 78, 79, 80, 81] (by decide +kernel) (by decide +kernel)
set_option maxRecDepth 20000 in
theorem gX10_when_X10_becomesOf : GoodIn wsX10_when (wsV RX10 236 RX10 yX10_becomesOf wsX10_becomesOf) := goodIn_app (goodIn_of _ (by decide +kernel)) ggX10_when_X10_becomesOf
set_option maxRecDepth 20000 in
theorem ggX10_when_X10_dayGoes : GoodIn wsX10_when wsX10_dayGoes := goodIn_r _ [27, 28, 1, 19, 29, 30, 31, 5, 32, 33, 34, 35, 36, 37, 38, 39, 40, 41, 42, 43, 44, 45, 46, 47, 48, 49, 50, 51, 52, 53, 54, 55, 56, 57, 58, 59, 60, 61, 62, 63, 64, 65, 66, 67, 68, 69, 70, 71, 72, 73, 74, 75, 76, 77, 78, 79, 80, 81] (by decide +kernel) (by decide +kernel)
set_option maxRecDepth 20000 in
theorem gX10_when_X10_dayGoes : GoodIn wsX10_when (wsV RX10 186 RX10 yX10_dayGoes wsX10_dayGoes) := goodIn_app (goodIn_of _ (by decide +kernel)) ggX10_when_X10_dayGoes
set_option maxRecDepth 20000 in
theorem ggX10_when_X10_of : GoodIn wsX10_when wsX10_of := goodIn_r _ [44, 19, 52, 53, 54, 55, 56, 57, 58, 59, 60, 61, 62, 63, 64, 65, 66, 67, 68, 69, 70, 71, 72, 73, 74, 75, 76, 77, 78, 79, 80, 81] (by decide +kernel) (by decide +kernel)
set_option maxRecDepth 20000 in
theorem gX10_when_X10_of : GoodIn wsX10_when (wsV RX10 155 RX10 yX10_of wsX10_of) := goodIn_app (goodIn_of _ (by decide +kernel)) ggX10_when_X10_of
theorem dX10_when_0 : decode cX10_when 0 = .ok (.aload_n 0, 1) := by decide +kernel
theorem dX10_when_1 : decode cX10_when 1 = .ok (.iload_n 1, 1) := by decide +kernel
theorem dX10_when_2 : decode cX10_when 2 = .ok (.invokevirtual 201, 3) := by decide +kernel
theorem dX10_when_5 : decode cX10_when 5 = .ok (.ifCond .eq 17, 3) := by decide +kernel
theorem dX10_when_8 : decode cX10_when 8 = .ok (.iload_n 2, 1) := by decide +kernel
theorem dX10_when_9 : decode cX10_when 9 = .ok (.invokestatic 214, 3) := by decide +kernel
theorem dX10_when_12 : decode cX10_when 12 = .ok (.ifCond .eq 10, 3) := by decide +kernel
theorem dX10_when_15 : decode cX10_when 15 = .ok (.iload_n 3, 1) := by decide +kernel
theorem dX10_when_16 : decode cX10_when 16 = .ok (.invokestatic 214, 3) := by decide +kernel
theorem dX10_when_19 : decode cX10_when 19 = .ok (.ifCond .ne 5, 3) := by decide +kernel
theorem dX10_when_22 : decode cX10_when 22 = .ok (.iconst (-1), 1) := by decide +kernel
theorem dX10_when_23 : decode cX10_when 23 = .ok (.ireturn, 1) := by decide +kernel
theorem dX10_when_24 : decode cX10_when 24 = .ok (.aload_n 0, 1) := by decide +kernel
theorem dX10_when_25 : decode cX10_when 25 = .ok (.invokevirtual 183, 3) := by decide +kernel
theorem dX10_when_28 : decode cX10_when 28 = .ok (.iconst 0, 1) := by decide +kernel
theorem dX10_when_29 : decode cX10_when 29 = .ok (.istore 4, 2) := by decide +kernel
theorem dX10_when_31 : decode cX10_when 31 = .ok (.iload 4, 2) := by decide +kernel
theorem dX10_when_33 : decode cX10_when 33 = .ok (.bipush 24, 2) := by decide +kernel
theorem dX10_when_35 : decode cX10_when 35 = .ok (.if_icmp .ge 44, 3) := by decide +kernel
theorem dX10_when_38 : decode cX10_when 38 = .ok (.aload_n 0, 1) := by decide +kernel
theorem dX10_when_39 : decode cX10_when 39 = .ok (.iload_n 1, 1) := by decide +kernel
theorem dX10_when_40 : decode cX10_when 40 = .ok (.iconst 4, 1) := by decide +kernel
theorem dX10_when_41 : decode cX10_when 41 = .ok (.iload 4, 2) := by decide +kernel
theorem dX10_when_43 : decode cX10_when 43 = .ok (.invokevirtual 236, 3) := by decide +kernel
theorem dX10_when_46 : decode cX10_when 46 = .ok (.aload_n 0, 1) := by decide +kernel
theorem dX10_when_47 : decode cX10_when 47 = .ok (.invokevirtual 186, 3) := by decide +kernel
theorem dX10_when_50 : decode cX10_when 50 = .ok (.aload_n 0, 1) := by decide +kernel
theorem dX10_when_51 : decode cX10_when 51 = .ok (.getfield 32, 3) := by decide +kernel
theorem dX10_when_54 : decode cX10_when 54 = .ok (.bipush 24, 2) := by decide +kernel
theorem dX10_when_56 : decode cX10_when 56 = .ok (.aload_n 0, 1) := by decide +kernel
theorem dX10_when_57 : decode cX10_when 57 = .ok (.iload_n 1, 1) := by decide +kernel
theorem dX10_when_58 : decode cX10_when 58 = .ok (.iconst 5, 1) := by decide +kernel
theorem dX10_when_59 : decode cX10_when 59 = .ok (.invokevirtual 155, 3) := by decide +kernel
theorem dX10_when_62 : decode cX10_when 62 = .ok (.imul, 1) := by decide +kernel
theorem dX10_when_63 : decode cX10_when 63 = .ok (.iload_n 2, 1) := by decide +kernel
theorem dX10_when_64 : decode cX10_when 64 = .ok (.iadd, 1) := by decide +kernel
theorem dX10_when_65 : decode cX10_when 65 = .ok (.iaload, 1) := by decide +kernel
theorem dX10_when_66 : decode cX10_when 66 = .ok (.iload_n 3, 1) := by decide +kernel
theorem dX10_when_67 : decode cX10_when 67 = .ok (.if_icmp .ne 6, 3) := by decide +kernel
theorem dX10_when_70 : decode cX10_when 70 = .ok (.iload 4, 2) := by decide +kernel
theorem dX10_when_72 : decode cX10_when 72 = .ok (.ireturn, 1) := by decide +kernel
theorem dX10_when_73 : decode cX10_when 73 = .ok (.iinc 4 1, 3) := by decide +kernel
theorem dX10_when_76 : decode cX10_when 76 = .ok (.goto (-45), 3) := by decide +kernel
theorem dX10_when_79 : decode cX10_when 79 = .ok (.bipush (-4), 2) := by decide +kernel
theorem dX10_when_81 : decode cX10_when 81 = .ok (.ireturn, 1) := by decide +kernel
set_option maxRecDepth 20000 in
theorem ggX10_fewestBy_X10_fetches : GoodIn wsX10_fewestBy wsX10_fetches := goodIn_r _ [6, 7, 8, 53, 54, 55, 56, 57, 58, 59, 60, 61, 62, 63, 64, 65, 66, 67, 68, 69, 70, 71, 72, 73, 74, 75, 76, 77, 78, 79, 80, 81, 82] (by decide +kernel) (by decide +kernel)
set_option maxRecDepth 20000 in
theorem gX10_fewestBy_X10_fetches : GoodIn wsX10_fewestBy (wsV RX10 183 RX10 yX10_fetches wsX10_fetches) := goodIn_app (goodIn_of _ (by decide +kernel)) ggX10_fewestBy_X10_fetches
set_option maxRecDepth 20000 in
theorem ggX10_fewestBy_X10_becomesOf : GoodIn wsX10_fewestBy wsX10_becomesOf := goodIn_r _ [12, 7, 53, 54, 55, 56, 57, 58, 59, 60, 61, 62, 63, 64, 65, 66, 67, 68, 69, 70, 71, 72, 73, 74, 75, 76, 77, 78, 79, 80, 81, 82] (by decide +kernel) (by decide +kernel)
set_option maxRecDepth 20000 in
theorem gX10_fewestBy_X10_becomesOf : GoodIn wsX10_fewestBy (wsV RX10 236 RX10 yX10_becomesOf wsX10_becomesOf) := goodIn_app (goodIn_of _ (by decide +kernel)) ggX10_fewestBy_X10_becomesOf
set_option maxRecDepth 20000 in
theorem ggX10_fewestBy_X10_dayGoes : GoodIn wsX10_fewestBy wsX10_dayGoes := goodIn_r _ [16, 17, 18, 7, 19, 20, 21, 5, 22, 23, 24, 25, 26, 27, 28, 29, 30, 31, 32, 33, 34, 35, 36, 37, 38, 39, 40, 41, 53, 54, 55, 56, 57, 58, 59, 60, 61, 62, 63, 64, 65, 66, 67, 68, 69, 70, 71, 72, 73, 74, 75, 76, 77, 78, 79, 80, 81, 82] (by decide +kernel) (by decide +kernel)
set_option maxRecDepth 20000 in
theorem gX10_fewestBy_X10_dayGoes : GoodIn wsX10_fewestBy (wsV RX10 186 RX10 yX10_dayGoes wsX10_dayGoes) := goodIn_app (goodIn_of _ (by decide +kernel)) ggX10_fewestBy_X10_dayGoes
set_option maxRecDepth 20000 in
theorem ggX10_fewestBy_X10_yawns : GoodIn wsX10_fewestBy wsX10_yawns := goodIn_r _ [45, 46, 47, 48, 5, 49, 18, 50, 51, 52, 53, 54, 55, 56, 57, 58, 59, 60, 61, 62, 63, 64, 65, 66, 67, 68, 69, 70, 71, 72, 73, 74, 75, 76, 77, 78, 79, 80, 81, 82] (by decide +kernel) (by decide +kernel)
set_option maxRecDepth 20000 in
theorem gX10_fewestBy_X10_yawns : GoodIn wsX10_fewestBy (wsV RX10 198 RX10 yX10_yawns wsX10_yawns) := goodIn_app (goodIn_of _ (by decide +kernel)) ggX10_fewestBy_X10_yawns
set_option maxRecDepth 20000 in
theorem ggX10_fewestBy_X10_lesser : GoodIn wsX10_fewestBy wsX10_lesser := goodIn_r _ [41] (by decide +kernel) (by decide +kernel)
set_option maxRecDepth 20000 in
theorem gX10_fewestBy_X10_lesser : GoodIn wsX10_fewestBy (va_wsS RX10 167 yX10_lesser wsX10_lesser) := goodIn_app (goodIn_of _ (by decide +kernel)) ggX10_fewestBy_X10_lesser
theorem dX10_fewestBy_0 : decode cX10_fewestBy 0 = .ok (.ldc 229, 2) := by decide +kernel
theorem dX10_fewestBy_2 : decode cX10_fewestBy 2 = .ok (.istore 5, 2) := by decide +kernel
theorem dX10_fewestBy_4 : decode cX10_fewestBy 4 = .ok (.iconst 0, 1) := by decide +kernel
theorem dX10_fewestBy_5 : decode cX10_fewestBy 5 = .ok (.istore 6, 2) := by decide +kernel
theorem dX10_fewestBy_7 : decode cX10_fewestBy 7 = .ok (.aload_n 0, 1) := by decide +kernel
theorem dX10_fewestBy_8 : decode cX10_fewestBy 8 = .ok (.invokevirtual 183, 3) := by decide +kernel
theorem dX10_fewestBy_11 : decode cX10_fewestBy 11 = .ok (.iconst 0, 1) := by decide +kernel
theorem dX10_fewestBy_12 : decode cX10_fewestBy 12 = .ok (.istore 7, 2) := by decide +kernel
theorem dX10_fewestBy_14 : decode cX10_fewestBy 14 = .ok (.iload 7, 2) := by decide +kernel
theorem dX10_fewestBy_16 : decode cX10_fewestBy 16 = .ok (.iload_n 3, 1) := by decide +kernel
theorem dX10_fewestBy_17 : decode cX10_fewestBy 17 = .ok (.if_icmp .ge 52, 3) := by decide +kernel
theorem dX10_fewestBy_20 : decode cX10_fewestBy 20 = .ok (.aload_n 0, 1) := by decide +kernel
theorem dX10_fewestBy_21 : decode cX10_fewestBy 21 = .ok (.iload_n 1, 1) := by decide +kernel
theorem dX10_fewestBy_22 : decode cX10_fewestBy 22 = .ok (.iload_n 2, 1) := by decide +kernel
theorem dX10_fewestBy_23 : decode cX10_fewestBy 23 = .ok (.iload 7, 2) := by decide +kernel
theorem dX10_fewestBy_25 : decode cX10_fewestBy 25 = .ok (.invokevirtual 236, 3) := by decide +kernel
theorem dX10_fewestBy_28 : decode cX10_fewestBy 28 = .ok (.aload_n 0, 1) := by decide +kernel
theorem dX10_fewestBy_29 : decode cX10_fewestBy 29 = .ok (.invokevirtual 186, 3) := by decide +kernel
theorem dX10_fewestBy_32 : decode cX10_fewestBy 32 = .ok (.aload_n 0, 1) := by decide +kernel
theorem dX10_fewestBy_33 : decode cX10_fewestBy 33 = .ok (.invokevirtual 198, 3) := by decide +kernel
theorem dX10_fewestBy_36 : decode cX10_fewestBy 36 = .ok (.istore 8, 2) := by decide +kernel
theorem dX10_fewestBy_38 : decode cX10_fewestBy 38 = .ok (.iload 8, 2) := by decide +kernel
theorem dX10_fewestBy_40 : decode cX10_fewestBy 40 = .ok (.iload 5, 2) := by decide +kernel
theorem dX10_fewestBy_42 : decode cX10_fewestBy 42 = .ok (.if_icmp .ge 8, 3) := by decide +kernel
theorem dX10_fewestBy_45 : decode cX10_fewestBy 45 = .ok (.iload 7, 2) := by decide +kernel
theorem dX10_fewestBy_47 : decode cX10_fewestBy 47 = .ok (.goto 5, 3) := by decide +kernel
theorem dX10_fewestBy_50 : decode cX10_fewestBy 50 = .ok (.iload 6, 2) := by decide +kernel
theorem dX10_fewestBy_52 : decode cX10_fewestBy 52 = .ok (.istore 6, 2) := by decide +kernel
theorem dX10_fewestBy_54 : decode cX10_fewestBy 54 = .ok (.iload 8, 2) := by decide +kernel
theorem dX10_fewestBy_56 : decode cX10_fewestBy 56 = .ok (.iload 5, 2) := by decide +kernel
theorem dX10_fewestBy_58 : decode cX10_fewestBy 58 = .ok (.invokestatic 167, 3) := by decide +kernel
theorem dX10_fewestBy_61 : decode cX10_fewestBy 61 = .ok (.istore 5, 2) := by decide +kernel
theorem dX10_fewestBy_63 : decode cX10_fewestBy 63 = .ok (.iinc 7 1, 3) := by decide +kernel
theorem dX10_fewestBy_66 : decode cX10_fewestBy 66 = .ok (.goto (-52), 3) := by decide +kernel
theorem dX10_fewestBy_69 : decode cX10_fewestBy 69 = .ok (.iload 4, 2) := by decide +kernel
theorem dX10_fewestBy_71 : decode cX10_fewestBy 71 = .ok (.ifCond .ne 8, 3) := by decide +kernel
theorem dX10_fewestBy_74 : decode cX10_fewestBy 74 = .ok (.iload 6, 2) := by decide +kernel
theorem dX10_fewestBy_76 : decode cX10_fewestBy 76 = .ok (.goto 5, 3) := by decide +kernel
theorem dX10_fewestBy_79 : decode cX10_fewestBy 79 = .ok (.iload 5, 2) := by decide +kernel
theorem dX10_fewestBy_81 : decode cX10_fewestBy 81 = .ok (.ireturn, 1) := by decide +kernel
set_option maxRecDepth 20000 in
theorem ggX10_wake_X10_isBox : GoodIn wsX10_wake wsX10_isBox := goodIn_r _ [5, 6, 7, 8, 4, 9, 67, 68, 69, 70, 71, 72, 73, 74, 75, 76, 77, 78, 79, 80, 81, 82, 83, 84, 85, 86, 87, 88, 89, 90, 91, 92, 93, 94, 95, 96] (by decide +kernel) (by decide +kernel)
set_option maxRecDepth 20000 in
theorem gX10_wake_X10_isBox : GoodIn wsX10_wake (wsV RX10 201 RX10 yX10_isBox wsX10_isBox) := goodIn_app (goodIn_of _ (by decide +kernel)) ggX10_wake_X10_isBox
set_option maxRecDepth 20000 in
theorem ggX10_wake_X10_isPart : GoodIn wsX10_wake wsX10_isPart := goodIn_r _ [12, 7, 8, 4, 9] (by decide +kernel) (by decide +kernel)
set_option maxRecDepth 20000 in
theorem gX10_wake_X10_isPart : GoodIn wsX10_wake (va_wsS RX10 207 yX10_isPart wsX10_isPart) := goodIn_app (goodIn_of _ (by decide +kernel)) ggX10_wake_X10_isPart
set_option maxRecDepth 20000 in
theorem ggX10_wake_X10_fewestBy : GoodIn wsX10_wake wsX10_fewestBy := goodIn_r _ [16, 17, 18, 19, 20, 4, 21, 22, 6, 23, 24, 25, 26, 27, 28, 29, 30, 31, 32, 33, 34, 35, 36, 37, 38, 39, 40, 41, 42, 43, 44, 45, 46, 47, 48, 49, 50, 51, 52, 53, 54, 55, 56, 57, 58, 59, 60, 61, 62, 63, 64, 65, 66, 67, 68, 69, 70, 71, 72, 73, 74, 75, 76, 77, 78, 79, 80, 81, 82, 83, 84, 85, 86, 87, 88, 89, 90, 91, 92, 93, 94, 95, 96] (by decide +kernel) (by decide +kernel)
set_option maxRecDepth 20000 in
theorem gX10_wake_X10_fewestBy : GoodIn wsX10_wake (wsV RX10 240 RX10 yX10_fewestBy wsX10_fewestBy) := goodIn_app (goodIn_of _ (by decide +kernel)) ggX10_wake_X10_fewestBy
theorem dX10_wake_0 : decode cX10_wake 0 = .ok (.aload_n 0, 1) := by decide +kernel
theorem dX10_wake_1 : decode cX10_wake 1 = .ok (.iload_n 1, 1) := by decide +kernel
theorem dX10_wake_2 : decode cX10_wake 2 = .ok (.invokevirtual 201, 3) := by decide +kernel
theorem dX10_wake_5 : decode cX10_wake 5 = .ok (.ifCond .eq 22, 3) := by decide +kernel
theorem dX10_wake_8 : decode cX10_wake 8 = .ok (.iload_n 2, 1) := by decide +kernel
theorem dX10_wake_9 : decode cX10_wake 9 = .ok (.invokestatic 207, 3) := by decide +kernel
theorem dX10_wake_12 : decode cX10_wake 12 = .ok (.ifCond .eq 15, 3) := by decide +kernel
theorem dX10_wake_15 : decode cX10_wake 15 = .ok (.aload_n 0, 1) := by decide +kernel
theorem dX10_wake_16 : decode cX10_wake 16 = .ok (.iload_n 1, 1) := by decide +kernel
theorem dX10_wake_17 : decode cX10_wake 17 = .ok (.iconst 4, 1) := by decide +kernel
theorem dX10_wake_18 : decode cX10_wake 18 = .ok (.bipush 24, 2) := by decide +kernel
theorem dX10_wake_20 : decode cX10_wake 20 = .ok (.iload_n 2, 1) := by decide +kernel
theorem dX10_wake_21 : decode cX10_wake 21 = .ok (.invokevirtual 240, 3) := by decide +kernel
theorem dX10_wake_24 : decode cX10_wake 24 = .ok (.goto 4, 3) := by decide +kernel
theorem dX10_wake_27 : decode cX10_wake 27 = .ok (.iconst (-1), 1) := by decide +kernel
theorem dX10_wake_28 : decode cX10_wake 28 = .ok (.ireturn, 1) := by decide +kernel
set_option maxRecDepth 20000 in
theorem ggX10_where_X10_isBox : GoodIn wsX10_where wsX10_isBox := goodIn_r _ [5, 6, 7, 8, 4, 9, 67, 68, 69, 70, 71, 72, 73, 74, 75, 76, 77, 78, 79, 80, 81, 82, 83, 84, 85, 86, 87, 88, 89, 90, 91, 92, 93, 94, 95, 96] (by decide +kernel) (by decide +kernel)
set_option maxRecDepth 20000 in
theorem gX10_where_X10_isBox : GoodIn wsX10_where (wsV RX10 201 RX10 yX10_isBox wsX10_isBox) := goodIn_app (goodIn_of _ (by decide +kernel)) ggX10_where_X10_isBox
set_option maxRecDepth 20000 in
theorem ggX10_where_X10_isPart : GoodIn wsX10_where wsX10_isPart := goodIn_r _ [12, 7, 8, 4, 9] (by decide +kernel) (by decide +kernel)
set_option maxRecDepth 20000 in
theorem gX10_where_X10_isPart : GoodIn wsX10_where (va_wsS RX10 207 yX10_isPart wsX10_isPart) := goodIn_app (goodIn_of _ (by decide +kernel)) ggX10_where_X10_isPart
set_option maxRecDepth 20000 in
theorem ggX10_where_X10_fewestBy : GoodIn wsX10_where wsX10_fewestBy := goodIn_r _ [16, 17, 18, 19, 20, 4, 21, 22, 6, 23, 24, 25, 26, 27, 28, 29, 30, 31, 32, 33, 34, 35, 36, 37, 38, 39, 40, 41, 42, 43, 44, 45, 46, 47, 48, 49, 50, 51, 52, 53, 54, 55, 56, 57, 58, 59, 60, 61, 62, 63, 64, 65, 66, 67, 68, 69, 70, 71, 72, 73, 74, 75, 76, 77, 78, 79, 80, 81, 82, 83, 84, 85, 86, 87, 88, 89, 90, 91, 92, 93, 94, 95, 96] (by decide +kernel) (by decide +kernel)
set_option maxRecDepth 20000 in
theorem gX10_where_X10_fewestBy : GoodIn wsX10_where (wsV RX10 240 RX10 yX10_fewestBy wsX10_fewestBy) := goodIn_app (goodIn_of _ (by decide +kernel)) ggX10_where_X10_fewestBy
theorem dX10_where_0 : decode cX10_where 0 = .ok (.aload_n 0, 1) := by decide +kernel
theorem dX10_where_1 : decode cX10_where 1 = .ok (.iload_n 1, 1) := by decide +kernel
theorem dX10_where_2 : decode cX10_where 2 = .ok (.invokevirtual 201, 3) := by decide +kernel
theorem dX10_where_5 : decode cX10_where 5 = .ok (.ifCond .eq 21, 3) := by decide +kernel
theorem dX10_where_8 : decode cX10_where 8 = .ok (.iload_n 2, 1) := by decide +kernel
theorem dX10_where_9 : decode cX10_where 9 = .ok (.invokestatic 207, 3) := by decide +kernel
theorem dX10_where_12 : decode cX10_where 12 = .ok (.ifCond .eq 14, 3) := by decide +kernel
theorem dX10_where_15 : decode cX10_where 15 = .ok (.aload_n 0, 1) := by decide +kernel
theorem dX10_where_16 : decode cX10_where 16 = .ok (.iload_n 1, 1) := by decide +kernel
theorem dX10_where_17 : decode cX10_where 17 = .ok (.iconst 5, 1) := by decide +kernel
theorem dX10_where_18 : decode cX10_where 18 = .ok (.iconst 5, 1) := by decide +kernel
theorem dX10_where_19 : decode cX10_where 19 = .ok (.iload_n 2, 1) := by decide +kernel
theorem dX10_where_20 : decode cX10_where 20 = .ok (.invokevirtual 240, 3) := by decide +kernel
theorem dX10_where_23 : decode cX10_where 23 = .ok (.goto 4, 3) := by decide +kernel
theorem dX10_where_26 : decode cX10_where 26 = .ok (.iconst (-1), 1) := by decide +kernel
theorem dX10_where_27 : decode cX10_where 27 = .ok (.ireturn, 1) := by decide +kernel
theorem dX10_common_0 : decode cX10_common 0 = .ok (.lload_n 0, 1) := by decide +kernel
theorem dX10_common_1 : decode cX10_common 1 = .ok (.lstore 4, 2) := by decide +kernel
theorem dX10_common_3 : decode cX10_common 3 = .ok (.lload_n 2, 1) := by decide +kernel
theorem dX10_common_4 : decode cX10_common 4 = .ok (.lstore 6, 2) := by decide +kernel
theorem dX10_common_6 : decode cX10_common 6 = .ok (.lload 6, 2) := by decide +kernel
theorem dX10_common_8 : decode cX10_common 8 = .ok (.lconst 0, 1) := by decide +kernel
theorem dX10_common_9 : decode cX10_common 9 = .ok (.lcmp, 1) := by decide +kernel
theorem dX10_common_10 : decode cX10_common 10 = .ok (.ifCond .eq 21, 3) := by decide +kernel
theorem dX10_common_13 : decode cX10_common 13 = .ok (.lload 4, 2) := by decide +kernel
theorem dX10_common_15 : decode cX10_common 15 = .ok (.lload 6, 2) := by decide +kernel
theorem dX10_common_17 : decode cX10_common 17 = .ok (.lrem, 1) := by decide +kernel
theorem dX10_common_18 : decode cX10_common 18 = .ok (.lstore 8, 2) := by decide +kernel
theorem dX10_common_20 : decode cX10_common 20 = .ok (.lload 6, 2) := by decide +kernel
theorem dX10_common_22 : decode cX10_common 22 = .ok (.lstore 4, 2) := by decide +kernel
theorem dX10_common_24 : decode cX10_common 24 = .ok (.lload 8, 2) := by decide +kernel
theorem dX10_common_26 : decode cX10_common 26 = .ok (.lstore 6, 2) := by decide +kernel
theorem dX10_common_28 : decode cX10_common 28 = .ok (.goto (-22), 3) := by decide +kernel
theorem dX10_common_31 : decode cX10_common 31 = .ok (.lload 4, 2) := by decide +kernel
theorem dX10_common_33 : decode cX10_common 33 = .ok (.lreturn, 1) := by decide +kernel
set_option maxRecDepth 20000 in
theorem ggX10_lowest_X10_common : GoodIn wsX10_lowest wsX10_common := goodIn_r _ [4] (by decide +kernel) (by decide +kernel)
set_option maxRecDepth 20000 in
theorem gX10_lowest_X10_common : GoodIn wsX10_lowest (va_wsS RX10 244 yX10_common wsX10_common) := goodIn_app (goodIn_of _ (by decide +kernel)) ggX10_lowest_X10_common
theorem dX10_lowest_0 : decode cX10_lowest 0 = .ok (.lload_n 2, 1) := by decide +kernel
theorem dX10_lowest_1 : decode cX10_lowest 1 = .ok (.lload_n 0, 1) := by decide +kernel
theorem dX10_lowest_2 : decode cX10_lowest 2 = .ok (.invokestatic 244, 3) := by decide +kernel
theorem dX10_lowest_5 : decode cX10_lowest 5 = .ok (.lstore 5, 2) := by decide +kernel
theorem dX10_lowest_7 : decode cX10_lowest 7 = .ok (.iload 4, 2) := by decide +kernel
theorem dX10_lowest_9 : decode cX10_lowest 9 = .ok (.ifCond .ne 10, 3) := by decide +kernel
theorem dX10_lowest_12 : decode cX10_lowest 12 = .ok (.lload_n 0, 1) := by decide +kernel
theorem dX10_lowest_13 : decode cX10_lowest 13 = .ok (.lload 5, 2) := by decide +kernel
theorem dX10_lowest_15 : decode cX10_lowest 15 = .ok (.ldiv, 1) := by decide +kernel
theorem dX10_lowest_16 : decode cX10_lowest 16 = .ok (.goto 7, 3) := by decide +kernel
theorem dX10_lowest_19 : decode cX10_lowest 19 = .ok (.lload_n 2, 1) := by decide +kernel
theorem dX10_lowest_20 : decode cX10_lowest 20 = .ok (.lload 5, 2) := by decide +kernel
theorem dX10_lowest_22 : decode cX10_lowest 22 = .ok (.ldiv, 1) := by decide +kernel
theorem dX10_lowest_23 : decode cX10_lowest 23 = .ok (.lreturn, 1) := by decide +kernel
set_option maxRecDepth 20000 in
theorem ggX10_findOdds_X10_fetches : GoodIn wsX10_findOdds wsX10_fetches := goodIn_r _ [10, 11, 4, 46, 47, 48, 49, 50, 51, 52, 53, 54, 55, 56, 57, 58, 59, 60, 61, 62, 63, 64, 65, 66, 67, 68, 69, 70, 71, 72, 73, 74, 75] (by decide +kernel) (by decide +kernel)
set_option maxRecDepth 20000 in
theorem gX10_findOdds_X10_fetches : GoodIn wsX10_findOdds (wsV RX10 183 RX10 yX10_fetches wsX10_fetches) := goodIn_app (goodIn_of _ (by decide +kernel)) ggX10_findOdds_X10_fetches
set_option maxRecDepth 20000 in
theorem ggX10_findOdds_X10_of : GoodIn wsX10_findOdds wsX10_of := goodIn_r _ [15, 11, 46, 47, 48, 49, 50, 51, 52, 53, 54, 55, 56, 57, 58, 59, 60, 61, 62, 63, 64, 65, 66, 67, 68, 69, 70, 71, 72, 73, 74, 75] (by decide +kernel) (by decide +kernel)
set_option maxRecDepth 20000 in
theorem gX10_findOdds_X10_of : GoodIn wsX10_findOdds (wsV RX10 155 RX10 yX10_of wsX10_of) := goodIn_app (goodIn_of _ (by decide +kernel)) ggX10_findOdds_X10_of
set_option maxRecDepth 20000 in
theorem ggX10_findOdds_X10_flag : GoodIn wsX10_findOdds wsX10_flag := goodIn_r _ [18] (by decide +kernel) (by decide +kernel)
set_option maxRecDepth 20000 in
theorem gX10_findOdds_X10_flag : GoodIn wsX10_findOdds (va_wsS RX10 176 yX10_flag wsX10_flag) := goodIn_app (goodIn_of _ (by decide +kernel)) ggX10_findOdds_X10_flag
set_option maxRecDepth 20000 in
theorem ggX10_findOdds_X10_becomesOf : GoodIn wsX10_findOdds wsX10_becomesOf := goodIn_r _ [22, 11, 46, 47, 48, 49, 50, 51, 52, 53, 54, 55, 56, 57, 58, 59, 60, 61, 62, 63, 64, 65, 66, 67, 68, 69, 70, 71, 72, 73, 74, 75] (by decide +kernel) (by decide +kernel)
set_option maxRecDepth 20000 in
theorem gX10_findOdds_X10_becomesOf : GoodIn wsX10_findOdds (wsV RX10 236 RX10 yX10_becomesOf wsX10_becomesOf) := goodIn_app (goodIn_of _ (by decide +kernel)) ggX10_findOdds_X10_becomesOf
set_option maxRecDepth 20000 in
theorem ggX10_findOdds_X10_ownHour : GoodIn wsX10_findOdds wsX10_ownHour := goodIn_r _ [26, 27, 28, 29, 9, 30, 11, 31, 32, 33, 34, 12, 13, 14, 15, 46, 47, 48, 49, 50, 51, 52, 53, 54, 55, 56, 57, 58, 59, 60, 61, 62, 63, 64, 65, 66, 67, 68, 69, 70, 71, 72, 73, 74, 75] (by decide +kernel) (by decide +kernel)
set_option maxRecDepth 20000 in
theorem gX10_findOdds_X10_ownHour : GoodIn wsX10_findOdds (wsV RX10 164 RX10 yX10_ownHour wsX10_ownHour) := goodIn_app (goodIn_of _ (by decide +kernel)) ggX10_findOdds_X10_ownHour
set_option maxRecDepth 20000 in
theorem ggX10_findOdds_X10_allWrong : GoodIn wsX10_findOdds wsX10_allWrong := goodIn_r _ [38, 11, 39, 40, 41, 9, 42, 23, 24, 25, 26, 27, 28, 29, 30, 31, 32, 33, 34, 12, 13, 14, 15, 43, 44, 45, 46, 47, 48, 49, 50, 51, 52, 53, 54, 55, 56, 57, 58, 59, 60, 61, 62, 63, 64, 65, 66, 67, 68, 69, 70, 71, 72, 73, 74, 75] (by decide +kernel) (by decide +kernel)
set_option maxRecDepth 20000 in
theorem gX10_findOdds_X10_allWrong : GoodIn wsX10_findOdds (wsV RX10 195 RX10 yX10_allWrong wsX10_allWrong) := goodIn_app (goodIn_of _ (by decide +kernel)) ggX10_findOdds_X10_allWrong
theorem dX10_findOdds_0 : decode cX10_findOdds 0 = .ok (.aload_n 0, 1) := by decide +kernel
theorem dX10_findOdds_1 : decode cX10_findOdds 1 = .ok (.lconst 0, 1) := by decide +kernel
theorem dX10_findOdds_2 : decode cX10_findOdds 2 = .ok (.putfield 248, 3) := by decide +kernel
theorem dX10_findOdds_5 : decode cX10_findOdds 5 = .ok (.aload_n 0, 1) := by decide +kernel
theorem dX10_findOdds_6 : decode cX10_findOdds 6 = .ok (.lconst 0, 1) := by decide +kernel
theorem dX10_findOdds_7 : decode cX10_findOdds 7 = .ok (.putfield 252, 3) := by decide +kernel
theorem dX10_findOdds_10 : decode cX10_findOdds 10 = .ok (.aload_n 0, 1) := by decide +kernel
theorem dX10_findOdds_11 : decode cX10_findOdds 11 = .ok (.lconst 1, 1) := by decide +kernel
theorem dX10_findOdds_12 : decode cX10_findOdds 12 = .ok (.putfield 255, 3) := by decide +kernel
theorem dX10_findOdds_15 : decode cX10_findOdds 15 = .ok (.iconst 0, 1) := by decide +kernel
theorem dX10_findOdds_16 : decode cX10_findOdds 16 = .ok (.istore_n 3, 1) := by decide +kernel
theorem dX10_findOdds_17 : decode cX10_findOdds 17 = .ok (.iload_n 3, 1) := by decide +kernel
theorem dX10_findOdds_18 : decode cX10_findOdds 18 = .ok (.aload_n 0, 1) := by decide +kernel
theorem dX10_findOdds_19 : decode cX10_findOdds 19 = .ok (.getfield 7, 3) := by decide +kernel
theorem dX10_findOdds_22 : decode cX10_findOdds 22 = .ok (.bipush 30, 2) := by decide +kernel
theorem dX10_findOdds_24 : decode cX10_findOdds 24 = .ok (.iaload, 1) := by decide +kernel
theorem dX10_findOdds_25 : decode cX10_findOdds 25 = .ok (.if_icmp .ge 21, 3) := by decide +kernel
theorem dX10_findOdds_28 : decode cX10_findOdds 28 = .ok (.aload_n 0, 1) := by decide +kernel
theorem dX10_findOdds_29 : decode cX10_findOdds 29 = .ok (.dup, 1) := by decide +kernel
theorem dX10_findOdds_30 : decode cX10_findOdds 30 = .ok (.getfield 255, 3) := by decide +kernel
theorem dX10_findOdds_33 : decode cX10_findOdds 33 = .ok (.ldc2_w 258, 3) := by decide +kernel
theorem dX10_findOdds_36 : decode cX10_findOdds 36 = .ok (.lmul, 1) := by decide +kernel
theorem dX10_findOdds_37 : decode cX10_findOdds 37 = .ok (.putfield 255, 3) := by decide +kernel
theorem dX10_findOdds_40 : decode cX10_findOdds 40 = .ok (.iinc 3 1, 3) := by decide +kernel
theorem dX10_findOdds_43 : decode cX10_findOdds 43 = .ok (.goto (-26), 3) := by decide +kernel
theorem dX10_findOdds_46 : decode cX10_findOdds 46 = .ok (.iconst 0, 1) := by decide +kernel
theorem dX10_findOdds_47 : decode cX10_findOdds 47 = .ok (.istore_n 3, 1) := by decide +kernel
theorem dX10_findOdds_48 : decode cX10_findOdds 48 = .ok (.iload_n 3, 1) := by decide +kernel
theorem dX10_findOdds_49 : decode cX10_findOdds 49 = .ok (.iconst 1, 1) := by decide +kernel
theorem dX10_findOdds_50 : decode cX10_findOdds 50 = .ok (.aload_n 0, 1) := by decide +kernel
theorem dX10_findOdds_51 : decode cX10_findOdds 51 = .ok (.getfield 7, 3) := by decide +kernel
theorem dX10_findOdds_54 : decode cX10_findOdds 54 = .ok (.bipush 30, 2) := by decide +kernel
theorem dX10_findOdds_56 : decode cX10_findOdds 56 = .ok (.iaload, 1) := by decide +kernel
theorem dX10_findOdds_57 : decode cX10_findOdds 57 = .ok (.ishl, 1) := by decide +kernel
theorem dX10_findOdds_58 : decode cX10_findOdds 58 = .ok (.if_icmp .ge 146, 3) := by decide +kernel
theorem dX10_findOdds_61 : decode cX10_findOdds 61 = .ok (.lconst 1, 1) := by decide +kernel
theorem dX10_findOdds_62 : decode cX10_findOdds 62 = .ok (.lstore 4, 2) := by decide +kernel
theorem dX10_findOdds_64 : decode cX10_findOdds 64 = .ok (.aload_n 0, 1) := by decide +kernel
theorem dX10_findOdds_65 : decode cX10_findOdds 65 = .ok (.invokevirtual 183, 3) := by decide +kernel
theorem dX10_findOdds_68 : decode cX10_findOdds 68 = .ok (.iconst 0, 1) := by decide +kernel
theorem dX10_findOdds_69 : decode cX10_findOdds 69 = .ok (.istore 6, 2) := by decide +kernel
theorem dX10_findOdds_71 : decode cX10_findOdds 71 = .ok (.iload 6, 2) := by decide +kernel
theorem dX10_findOdds_73 : decode cX10_findOdds 73 = .ok (.aload_n 0, 1) := by decide +kernel
theorem dX10_findOdds_74 : decode cX10_findOdds 74 = .ok (.getfield 7, 3) := by decide +kernel
theorem dX10_findOdds_77 : decode cX10_findOdds 77 = .ok (.bipush 30, 2) := by decide +kernel
theorem dX10_findOdds_79 : decode cX10_findOdds 79 = .ok (.iaload, 1) := by decide +kernel
theorem dX10_findOdds_80 : decode cX10_findOdds 80 = .ok (.if_icmp .ge 66, 3) := by decide +kernel
theorem dX10_findOdds_83 : decode cX10_findOdds 83 = .ok (.iload_n 3, 1) := by decide +kernel
theorem dX10_findOdds_84 : decode cX10_findOdds 84 = .ok (.iload 6, 2) := by decide +kernel
theorem dX10_findOdds_86 : decode cX10_findOdds 86 = .ok (.ishr, 1) := by decide +kernel
theorem dX10_findOdds_87 : decode cX10_findOdds 87 = .ok (.iconst 1, 1) := by decide +kernel
theorem dX10_findOdds_88 : decode cX10_findOdds 88 = .ok (.iand, 1) := by decide +kernel
theorem dX10_findOdds_89 : decode cX10_findOdds 89 = .ok (.iconst 1, 1) := by decide +kernel
theorem dX10_findOdds_90 : decode cX10_findOdds 90 = .ok (.if_icmp .ne 7, 3) := by decide +kernel
theorem dX10_findOdds_93 : decode cX10_findOdds 93 = .ok (.iconst 1, 1) := by decide +kernel
theorem dX10_findOdds_94 : decode cX10_findOdds 94 = .ok (.goto 4, 3) := by decide +kernel
theorem dX10_findOdds_97 : decode cX10_findOdds 97 = .ok (.iconst 0, 1) := by decide +kernel
theorem dX10_findOdds_98 : decode cX10_findOdds 98 = .ok (.istore 7, 2) := by decide +kernel
theorem dX10_findOdds_100 : decode cX10_findOdds 100 = .ok (.lload 4, 2) := by decide +kernel
theorem dX10_findOdds_102 : decode cX10_findOdds 102 = .ok (.iload 7, 2) := by decide +kernel
theorem dX10_findOdds_104 : decode cX10_findOdds 104 = .ok (.ifCond .eq 8, 3) := by decide +kernel
theorem dX10_findOdds_107 : decode cX10_findOdds 107 = .ok (.iload_n 1, 1) := by decide +kernel
theorem dX10_findOdds_108 : decode cX10_findOdds 108 = .ok (.i2l, 1) := by decide +kernel
theorem dX10_findOdds_109 : decode cX10_findOdds 109 = .ok (.goto 8, 3) := by decide +kernel
theorem dX10_findOdds_112 : decode cX10_findOdds 112 = .ok (.bipush 10, 2) := by decide +kernel
theorem dX10_findOdds_114 : decode cX10_findOdds 114 = .ok (.iload_n 1, 1) := by decide +kernel
theorem dX10_findOdds_115 : decode cX10_findOdds 115 = .ok (.isub, 1) := by decide +kernel
theorem dX10_findOdds_116 : decode cX10_findOdds 116 = .ok (.i2l, 1) := by decide +kernel
theorem dX10_findOdds_117 : decode cX10_findOdds 117 = .ok (.lmul, 1) := by decide +kernel
theorem dX10_findOdds_118 : decode cX10_findOdds 118 = .ok (.lstore 4, 2) := by decide +kernel
theorem dX10_findOdds_120 : decode cX10_findOdds 120 = .ok (.aload_n 0, 1) := by decide +kernel
theorem dX10_findOdds_121 : decode cX10_findOdds 121 = .ok (.iload 6, 2) := by decide +kernel
theorem dX10_findOdds_123 : decode cX10_findOdds 123 = .ok (.iconst 1, 1) := by decide +kernel
theorem dX10_findOdds_124 : decode cX10_findOdds 124 = .ok (.aload_n 0, 1) := by decide +kernel
theorem dX10_findOdds_125 : decode cX10_findOdds 125 = .ok (.iload 6, 2) := by decide +kernel
theorem dX10_findOdds_127 : decode cX10_findOdds 127 = .ok (.iconst 1, 1) := by decide +kernel
theorem dX10_findOdds_128 : decode cX10_findOdds 128 = .ok (.invokevirtual 155, 3) := by decide +kernel
theorem dX10_findOdds_131 : decode cX10_findOdds 131 = .ok (.iload 7, 2) := by decide +kernel
theorem dX10_findOdds_133 : decode cX10_findOdds 133 = .ok (.invokestatic 176, 3) := by decide +kernel
theorem dX10_findOdds_136 : decode cX10_findOdds 136 = .ok (.iadd, 1) := by decide +kernel
theorem dX10_findOdds_137 : decode cX10_findOdds 137 = .ok (.invokevirtual 236, 3) := by decide +kernel
theorem dX10_findOdds_140 : decode cX10_findOdds 140 = .ok (.iinc 6 1, 3) := by decide +kernel
theorem dX10_findOdds_143 : decode cX10_findOdds 143 = .ok (.goto (-72), 3) := by decide +kernel
theorem dX10_findOdds_146 : decode cX10_findOdds 146 = .ok (.aload_n 0, 1) := by decide +kernel
theorem dX10_findOdds_147 : decode cX10_findOdds 147 = .ok (.dup, 1) := by decide +kernel
theorem dX10_findOdds_148 : decode cX10_findOdds 148 = .ok (.getfield 248, 3) := by decide +kernel
theorem dX10_findOdds_151 : decode cX10_findOdds 151 = .ok (.iload_n 2, 1) := by decide +kernel
theorem dX10_findOdds_152 : decode cX10_findOdds 152 = .ok (.bipush (-4), 2) := by decide +kernel
theorem dX10_findOdds_154 : decode cX10_findOdds 154 = .ok (.if_icmp .eq 22, 3) := by decide +kernel
theorem dX10_findOdds_157 : decode cX10_findOdds 157 = .ok (.aload_n 0, 1) := by decide +kernel
theorem dX10_findOdds_158 : decode cX10_findOdds 158 = .ok (.iload_n 2, 1) := by decide +kernel
theorem dX10_findOdds_159 : decode cX10_findOdds 159 = .ok (.invokevirtual 164, 3) := by decide +kernel
theorem dX10_findOdds_162 : decode cX10_findOdds 162 = .ok (.aload_n 0, 1) := by decide +kernel
theorem dX10_findOdds_163 : decode cX10_findOdds 163 = .ok (.iload_n 2, 1) := by decide +kernel
theorem dX10_findOdds_164 : decode cX10_findOdds 164 = .ok (.iconst 2, 1) := by decide +kernel
theorem dX10_findOdds_165 : decode cX10_findOdds 165 = .ok (.invokevirtual 155, 3) := by decide +kernel
theorem dX10_findOdds_168 : decode cX10_findOdds 168 = .ok (.if_icmp .ne 8, 3) := by decide +kernel
theorem dX10_findOdds_171 : decode cX10_findOdds 171 = .ok (.lload 4, 2) := by decide +kernel
theorem dX10_findOdds_173 : decode cX10_findOdds 173 = .ok (.goto 4, 3) := by decide +kernel
theorem dX10_findOdds_176 : decode cX10_findOdds 176 = .ok (.lconst 0, 1) := by decide +kernel
theorem dX10_findOdds_177 : decode cX10_findOdds 177 = .ok (.ladd, 1) := by decide +kernel
theorem dX10_findOdds_178 : decode cX10_findOdds 178 = .ok (.putfield 248, 3) := by decide +kernel
theorem dX10_findOdds_181 : decode cX10_findOdds 181 = .ok (.aload_n 0, 1) := by decide +kernel
theorem dX10_findOdds_182 : decode cX10_findOdds 182 = .ok (.dup, 1) := by decide +kernel
theorem dX10_findOdds_183 : decode cX10_findOdds 183 = .ok (.getfield 252, 3) := by decide +kernel
theorem dX10_findOdds_186 : decode cX10_findOdds 186 = .ok (.lload 4, 2) := by decide +kernel
theorem dX10_findOdds_188 : decode cX10_findOdds 188 = .ok (.aload_n 0, 1) := by decide +kernel
theorem dX10_findOdds_189 : decode cX10_findOdds 189 = .ok (.invokevirtual 195, 3) := by decide +kernel
theorem dX10_findOdds_192 : decode cX10_findOdds 192 = .ok (.i2l, 1) := by decide +kernel
theorem dX10_findOdds_193 : decode cX10_findOdds 193 = .ok (.lmul, 1) := by decide +kernel
theorem dX10_findOdds_194 : decode cX10_findOdds 194 = .ok (.ladd, 1) := by decide +kernel
theorem dX10_findOdds_195 : decode cX10_findOdds 195 = .ok (.putfield 252, 3) := by decide +kernel
theorem dX10_findOdds_198 : decode cX10_findOdds 198 = .ok (.iinc 3 1, 3) := by decide +kernel
theorem dX10_findOdds_201 : decode cX10_findOdds 201 = .ok (.goto (-153), 3) := by decide +kernel
theorem dX10_findOdds_204 : decode cX10_findOdds 204 = .ok (.return_, 1) := by decide +kernel
set_option maxRecDepth 20000 in
theorem ggX10_luck_X10_in : GoodIn wsX10_luck wsX10_in := goodIn_r _ [8] (by decide +kernel) (by decide +kernel)
set_option maxRecDepth 20000 in
theorem gX10_luck_X10_in : GoodIn wsX10_luck (va_wsS RX10 78 yX10_in wsX10_in) := goodIn_app (goodIn_of _ (by decide +kernel)) ggX10_luck_X10_in
set_option maxRecDepth 20000 in
theorem ggX10_luck_X10_isBox : GoodIn wsX10_luck wsX10_isBox := goodIn_r _ [12, 13, 5, 6, 7, 8, 67, 68, 69, 70, 71, 72, 73, 74, 75, 76, 77, 78, 79, 80, 81, 82, 83, 84, 85, 86, 87, 88, 89, 90, 91, 92, 93, 94, 95, 96] (by decide +kernel) (by decide +kernel)
set_option maxRecDepth 20000 in
theorem gX10_luck_X10_isBox : GoodIn wsX10_luck (wsV RX10 201 RX10 yX10_isBox wsX10_isBox) := goodIn_app (goodIn_of _ (by decide +kernel)) ggX10_luck_X10_isBox
set_option maxRecDepth 20000 in
theorem ggX10_luck_X10_isPart : GoodIn wsX10_luck wsX10_isPart := goodIn_r _ [16, 5, 6, 7, 8] (by decide +kernel) (by decide +kernel)
set_option maxRecDepth 20000 in
theorem gX10_luck_X10_isPart : GoodIn wsX10_luck (va_wsS RX10 207 yX10_isPart wsX10_isPart) := goodIn_app (goodIn_of _ (by decide +kernel)) ggX10_luck_X10_isPart
set_option maxRecDepth 20000 in
theorem ggX10_luck_X10_findOdds : GoodIn wsX10_luck wsX10_findOdds := goodIn_r _ [20, 3, 21, 4, 13, 1, 22, 23, 24, 7, 25, 26, 27, 28, 29, 30, 31, 32, 33, 34, 35, 36, 37, 38, 39, 40, 41, 42, 43, 44, 45, 46, 47, 48, 49, 50, 51, 52, 53, 54, 55, 56, 57, 58, 59, 60, 67, 68, 69, 70, 71, 72, 73, 74, 75, 76, 77, 78, 79, 80, 81, 82, 83, 84, 85, 86, 87, 88, 89, 90, 91, 92, 93, 94, 95, 96] (by decide +kernel) (by decide +kernel)
set_option maxRecDepth 20000 in
theorem gX10_luck_X10_findOdds : GoodIn wsX10_luck (wsV RX10 262 RX10 yX10_findOdds wsX10_findOdds) := goodIn_app (goodIn_of _ (by decide +kernel)) ggX10_luck_X10_findOdds
set_option maxRecDepth 20000 in
theorem ggX10_luck_X10_lowest : GoodIn wsX10_luck wsX10_lowest := goodIn_r _ [63, 64, 65, 7, 66] (by decide +kernel) (by decide +kernel)
set_option maxRecDepth 20000 in
theorem gX10_luck_X10_lowest : GoodIn wsX10_luck (va_wsS RX10 266 yX10_lowest wsX10_lowest) := goodIn_app (goodIn_of _ (by decide +kernel)) ggX10_luck_X10_lowest
theorem dX10_luck_0 : decode cX10_luck 0 = .ok (.iload_n 1, 1) := by decide +kernel
theorem dX10_luck_1 : decode cX10_luck 1 = .ok (.i2l, 1) := by decide +kernel
theorem dX10_luck_2 : decode cX10_luck 2 = .ok (.lconst 0, 1) := by decide +kernel
theorem dX10_luck_3 : decode cX10_luck 3 = .ok (.ldc2_w 258, 3) := by decide +kernel
theorem dX10_luck_6 : decode cX10_luck 6 = .ok (.invokestatic 78, 3) := by decide +kernel
theorem dX10_luck_9 : decode cX10_luck 9 = .ok (.ifCond .eq 18, 3) := by decide +kernel
theorem dX10_luck_12 : decode cX10_luck 12 = .ok (.aload_n 0, 1) := by decide +kernel
theorem dX10_luck_13 : decode cX10_luck 13 = .ok (.iload_n 2, 1) := by decide +kernel
theorem dX10_luck_14 : decode cX10_luck 14 = .ok (.invokevirtual 201, 3) := by decide +kernel
theorem dX10_luck_17 : decode cX10_luck 17 = .ok (.ifCond .eq 10, 3) := by decide +kernel
theorem dX10_luck_20 : decode cX10_luck 20 = .ok (.iload_n 3, 1) := by decide +kernel
theorem dX10_luck_21 : decode cX10_luck 21 = .ok (.invokestatic 207, 3) := by decide +kernel
theorem dX10_luck_24 : decode cX10_luck 24 = .ok (.ifCond .ne 7, 3) := by decide +kernel
theorem dX10_luck_27 : decode cX10_luck 27 = .ok (.ldc2_w 260, 3) := by decide +kernel
theorem dX10_luck_30 : decode cX10_luck 30 = .ok (.lreturn, 1) := by decide +kernel
theorem dX10_luck_31 : decode cX10_luck 31 = .ok (.aload_n 0, 1) := by decide +kernel
theorem dX10_luck_32 : decode cX10_luck 32 = .ok (.iload_n 1, 1) := by decide +kernel
theorem dX10_luck_33 : decode cX10_luck 33 = .ok (.iload_n 2, 1) := by decide +kernel
theorem dX10_luck_34 : decode cX10_luck 34 = .ok (.invokevirtual 262, 3) := by decide +kernel
theorem dX10_luck_37 : decode cX10_luck 37 = .ok (.aload_n 0, 1) := by decide +kernel
theorem dX10_luck_38 : decode cX10_luck 38 = .ok (.getfield 248, 3) := by decide +kernel
theorem dX10_luck_41 : decode cX10_luck 41 = .ok (.aload_n 0, 1) := by decide +kernel
theorem dX10_luck_42 : decode cX10_luck 42 = .ok (.getfield 255, 3) := by decide +kernel
theorem dX10_luck_45 : decode cX10_luck 45 = .ok (.iload_n 3, 1) := by decide +kernel
theorem dX10_luck_46 : decode cX10_luck 46 = .ok (.invokestatic 266, 3) := by decide +kernel
theorem dX10_luck_49 : decode cX10_luck 49 = .ok (.lreturn, 1) := by decide +kernel
set_option maxRecDepth 20000 in
theorem ggX10_mean_X10_in : GoodIn wsX10_mean wsX10_in := goodIn_r _ [8] (by decide +kernel) (by decide +kernel)
set_option maxRecDepth 20000 in
theorem gX10_mean_X10_in : GoodIn wsX10_mean (va_wsS RX10 78 yX10_in wsX10_in) := goodIn_app (goodIn_of _ (by decide +kernel)) ggX10_mean_X10_in
set_option maxRecDepth 20000 in
theorem ggX10_mean_X10_isPart : GoodIn wsX10_mean wsX10_isPart := goodIn_r _ [11, 5, 6, 7, 8] (by decide +kernel) (by decide +kernel)
set_option maxRecDepth 20000 in
theorem gX10_mean_X10_isPart : GoodIn wsX10_mean (va_wsS RX10 207 yX10_isPart wsX10_isPart) := goodIn_app (goodIn_of _ (by decide +kernel)) ggX10_mean_X10_isPart
set_option maxRecDepth 20000 in
theorem ggX10_mean_X10_findOdds : GoodIn wsX10_mean wsX10_findOdds := goodIn_r _ [15, 16, 3, 4, 17, 1, 18, 19, 20, 7, 21, 22, 23, 24, 25, 26, 27, 28, 29, 30, 31, 32, 33, 34, 35, 36, 37, 38, 39, 40, 41, 42, 43, 44, 45, 46, 47, 48, 49, 50, 51, 52, 53, 54, 55, 56, 63, 64, 65, 66, 67, 68, 69, 70, 71, 72, 73, 74, 75, 76, 77, 78, 79, 80, 81, 82, 83, 84, 85, 86, 87, 88, 89, 90, 91, 92] (by decide +kernel) (by decide +kernel)
set_option maxRecDepth 20000 in
theorem gX10_mean_X10_findOdds : GoodIn wsX10_mean (wsV RX10 262 RX10 yX10_findOdds wsX10_findOdds) := goodIn_app (goodIn_of _ (by decide +kernel)) ggX10_mean_X10_findOdds
set_option maxRecDepth 20000 in
theorem ggX10_mean_X10_lowest : GoodIn wsX10_mean wsX10_lowest := goodIn_r _ [59, 60, 61, 7, 62] (by decide +kernel) (by decide +kernel)
set_option maxRecDepth 20000 in
theorem gX10_mean_X10_lowest : GoodIn wsX10_mean (va_wsS RX10 266 yX10_lowest wsX10_lowest) := goodIn_app (goodIn_of _ (by decide +kernel)) ggX10_mean_X10_lowest
theorem dX10_mean_0 : decode cX10_mean 0 = .ok (.iload_n 1, 1) := by decide +kernel
theorem dX10_mean_1 : decode cX10_mean 1 = .ok (.i2l, 1) := by decide +kernel
theorem dX10_mean_2 : decode cX10_mean 2 = .ok (.lconst 0, 1) := by decide +kernel
theorem dX10_mean_3 : decode cX10_mean 3 = .ok (.ldc2_w 258, 3) := by decide +kernel
theorem dX10_mean_6 : decode cX10_mean 6 = .ok (.invokestatic 78, 3) := by decide +kernel
theorem dX10_mean_9 : decode cX10_mean 9 = .ok (.ifCond .eq 10, 3) := by decide +kernel
theorem dX10_mean_12 : decode cX10_mean 12 = .ok (.iload_n 2, 1) := by decide +kernel
theorem dX10_mean_13 : decode cX10_mean 13 = .ok (.invokestatic 207, 3) := by decide +kernel
theorem dX10_mean_16 : decode cX10_mean 16 = .ok (.ifCond .ne 7, 3) := by decide +kernel
theorem dX10_mean_19 : decode cX10_mean 19 = .ok (.ldc2_w 260, 3) := by decide +kernel
theorem dX10_mean_22 : decode cX10_mean 22 = .ok (.lreturn, 1) := by decide +kernel
theorem dX10_mean_23 : decode cX10_mean 23 = .ok (.aload_n 0, 1) := by decide +kernel
theorem dX10_mean_24 : decode cX10_mean 24 = .ok (.iload_n 1, 1) := by decide +kernel
theorem dX10_mean_25 : decode cX10_mean 25 = .ok (.bipush (-4), 2) := by decide +kernel
theorem dX10_mean_27 : decode cX10_mean 27 = .ok (.invokevirtual 262, 3) := by decide +kernel
theorem dX10_mean_30 : decode cX10_mean 30 = .ok (.aload_n 0, 1) := by decide +kernel
theorem dX10_mean_31 : decode cX10_mean 31 = .ok (.getfield 252, 3) := by decide +kernel
theorem dX10_mean_34 : decode cX10_mean 34 = .ok (.aload_n 0, 1) := by decide +kernel
theorem dX10_mean_35 : decode cX10_mean 35 = .ok (.getfield 255, 3) := by decide +kernel
theorem dX10_mean_38 : decode cX10_mean 38 = .ok (.iload_n 2, 1) := by decide +kernel
theorem dX10_mean_39 : decode cX10_mean 39 = .ok (.invokestatic 266, 3) := by decide +kernel
theorem dX10_mean_42 : decode cX10_mean 42 = .ok (.lreturn, 1) := by decide +kernel
set_option maxRecDepth 20000 in
theorem ggX10_see_X10_isRoom : GoodIn wsX10_see wsX10_isRoom := goodIn_r _ [5, 6, 7, 8, 4, 9] (by decide +kernel) (by decide +kernel)
set_option maxRecDepth 20000 in
theorem gX10_see_X10_isRoom : GoodIn wsX10_see (va_wsS RX10 217 yX10_isRoom wsX10_isRoom) := goodIn_app (goodIn_of _ (by decide +kernel)) ggX10_see_X10_isRoom
set_option maxRecDepth 20000 in
theorem ggX10_see_X10_isHour : GoodIn wsX10_see wsX10_isHour := goodIn_r _ [12, 13, 7, 8, 4, 9] (by decide +kernel) (by decide +kernel)
set_option maxRecDepth 20000 in
theorem gX10_see_X10_isHour : GoodIn wsX10_see (va_wsS RX10 214 yX10_isHour wsX10_isHour) := goodIn_app (goodIn_of _ (by decide +kernel)) ggX10_see_X10_isHour
theorem dX10_see_0 : decode cX10_see 0 = .ok (.iload_n 1, 1) := by decide +kernel
theorem dX10_see_1 : decode cX10_see 1 = .ok (.invokestatic 217, 3) := by decide +kernel
theorem dX10_see_4 : decode cX10_see 4 = .ok (.ifCond .eq 17, 3) := by decide +kernel
theorem dX10_see_7 : decode cX10_see 7 = .ok (.iload_n 2, 1) := by decide +kernel
theorem dX10_see_8 : decode cX10_see 8 = .ok (.invokestatic 214, 3) := by decide +kernel
theorem dX10_see_11 : decode cX10_see 11 = .ok (.ifCond .eq 10, 3) := by decide +kernel
theorem dX10_see_14 : decode cX10_see 14 = .ok (.iload_n 3, 1) := by decide +kernel
theorem dX10_see_15 : decode cX10_see 15 = .ok (.invokestatic 214, 3) := by decide +kernel
theorem dX10_see_18 : decode cX10_see 18 = .ok (.ifCond .ne 5, 3) := by decide +kernel
theorem dX10_see_21 : decode cX10_see 21 = .ok (.iconst (-1), 1) := by decide +kernel
theorem dX10_see_22 : decode cX10_see 22 = .ok (.ireturn, 1) := by decide +kernel
theorem dX10_see_23 : decode cX10_see 23 = .ok (.aload_n 0, 1) := by decide +kernel
theorem dX10_see_24 : decode cX10_see 24 = .ok (.getfield 7, 3) := by decide +kernel
theorem dX10_see_27 : decode cX10_see 27 = .ok (.bipush 37, 2) := by decide +kernel
theorem dX10_see_29 : decode cX10_see 29 = .ok (.iaload, 1) := by decide +kernel
theorem dX10_see_30 : decode cX10_see 30 = .ok (.bipush 6, 2) := by decide +kernel
theorem dX10_see_32 : decode cX10_see 32 = .ok (.if_icmp .ne 6, 3) := by decide +kernel
theorem dX10_see_35 : decode cX10_see 35 = .ok (.bipush (-3), 2) := by decide +kernel
theorem dX10_see_37 : decode cX10_see 37 = .ok (.ireturn, 1) := by decide +kernel
theorem dX10_see_38 : decode cX10_see 38 = .ok (.bipush 38, 2) := by decide +kernel
theorem dX10_see_40 : decode cX10_see 40 = .ok (.iconst 3, 1) := by decide +kernel
theorem dX10_see_41 : decode cX10_see 41 = .ok (.aload_n 0, 1) := by decide +kernel
theorem dX10_see_42 : decode cX10_see 42 = .ok (.getfield 7, 3) := by decide +kernel
theorem dX10_see_45 : decode cX10_see 45 = .ok (.bipush 37, 2) := by decide +kernel
theorem dX10_see_47 : decode cX10_see 47 = .ok (.iaload, 1) := by decide +kernel
theorem dX10_see_48 : decode cX10_see 48 = .ok (.imul, 1) := by decide +kernel
theorem dX10_see_49 : decode cX10_see 49 = .ok (.iadd, 1) := by decide +kernel
theorem dX10_see_50 : decode cX10_see 50 = .ok (.istore 4, 2) := by decide +kernel
theorem dX10_see_52 : decode cX10_see 52 = .ok (.aload_n 0, 1) := by decide +kernel
theorem dX10_see_53 : decode cX10_see 53 = .ok (.getfield 7, 3) := by decide +kernel
theorem dX10_see_56 : decode cX10_see 56 = .ok (.iload 4, 2) := by decide +kernel
theorem dX10_see_58 : decode cX10_see 58 = .ok (.iload_n 1, 1) := by decide +kernel
theorem dX10_see_59 : decode cX10_see 59 = .ok (.iastore, 1) := by decide +kernel
theorem dX10_see_60 : decode cX10_see 60 = .ok (.aload_n 0, 1) := by decide +kernel
theorem dX10_see_61 : decode cX10_see 61 = .ok (.getfield 7, 3) := by decide +kernel
theorem dX10_see_64 : decode cX10_see 64 = .ok (.iload 4, 2) := by decide +kernel
theorem dX10_see_66 : decode cX10_see 66 = .ok (.iconst 1, 1) := by decide +kernel
theorem dX10_see_67 : decode cX10_see 67 = .ok (.iadd, 1) := by decide +kernel
theorem dX10_see_68 : decode cX10_see 68 = .ok (.iload_n 2, 1) := by decide +kernel
theorem dX10_see_69 : decode cX10_see 69 = .ok (.iastore, 1) := by decide +kernel
theorem dX10_see_70 : decode cX10_see 70 = .ok (.aload_n 0, 1) := by decide +kernel
theorem dX10_see_71 : decode cX10_see 71 = .ok (.getfield 7, 3) := by decide +kernel
theorem dX10_see_74 : decode cX10_see 74 = .ok (.iload 4, 2) := by decide +kernel
theorem dX10_see_76 : decode cX10_see 76 = .ok (.iconst 2, 1) := by decide +kernel
theorem dX10_see_77 : decode cX10_see 77 = .ok (.iadd, 1) := by decide +kernel
theorem dX10_see_78 : decode cX10_see 78 = .ok (.iload_n 3, 1) := by decide +kernel
theorem dX10_see_79 : decode cX10_see 79 = .ok (.iastore, 1) := by decide +kernel
theorem dX10_see_80 : decode cX10_see 80 = .ok (.aload_n 0, 1) := by decide +kernel
theorem dX10_see_81 : decode cX10_see 81 = .ok (.getfield 7, 3) := by decide +kernel
theorem dX10_see_84 : decode cX10_see 84 = .ok (.bipush 37, 2) := by decide +kernel
theorem dX10_see_86 : decode cX10_see 86 = .ok (.dup2, 1) := by decide +kernel
theorem dX10_see_87 : decode cX10_see 87 = .ok (.iaload, 1) := by decide +kernel
theorem dX10_see_88 : decode cX10_see 88 = .ok (.iconst 1, 1) := by decide +kernel
theorem dX10_see_89 : decode cX10_see 89 = .ok (.iadd, 1) := by decide +kernel
theorem dX10_see_90 : decode cX10_see 90 = .ok (.iastore, 1) := by decide +kernel
theorem dX10_see_91 : decode cX10_see 91 = .ok (.aload_n 0, 1) := by decide +kernel
theorem dX10_see_92 : decode cX10_see 92 = .ok (.getfield 7, 3) := by decide +kernel
theorem dX10_see_95 : decode cX10_see 95 = .ok (.bipush 37, 2) := by decide +kernel
theorem dX10_see_97 : decode cX10_see 97 = .ok (.iaload, 1) := by decide +kernel
theorem dX10_see_98 : decode cX10_see 98 = .ok (.ireturn, 1) := by decide +kernel
set_option maxRecDepth 20000 in
theorem ggX10_forget_X10_in : GoodIn wsX10_forget wsX10_in := goodIn_r _ [5] (by decide +kernel) (by decide +kernel)
set_option maxRecDepth 20000 in
theorem gX10_forget_X10_in : GoodIn wsX10_forget (va_wsS RX10 78 yX10_in wsX10_in) := goodIn_app (goodIn_of _ (by decide +kernel)) ggX10_forget_X10_in
set_option maxRecDepth 20000 in
theorem ggX10_forget_X10_becomes : GoodIn wsX10_forget wsX10_becomes := goodIn_r _ [9, 1, 10, 11, 12, 13, 14, 15, 16, 17, 18, 19, 20, 21, 22, 23, 24, 25, 26, 27, 28, 29, 30, 31, 32, 33, 34, 35, 36, 37, 38, 39] (by decide +kernel) (by decide +kernel)
set_option maxRecDepth 20000 in
theorem gX10_forget_X10_becomes : GoodIn wsX10_forget (wsV RX10 223 RX10 yX10_becomes wsX10_becomes) := goodIn_app (goodIn_of _ (by decide +kernel)) ggX10_forget_X10_becomes
theorem dX10_forget_0 : decode cX10_forget 0 = .ok (.iload_n 1, 1) := by decide +kernel
theorem dX10_forget_1 : decode cX10_forget 1 = .ok (.i2l, 1) := by decide +kernel
theorem dX10_forget_2 : decode cX10_forget 2 = .ok (.lconst 0, 1) := by decide +kernel
theorem dX10_forget_3 : decode cX10_forget 3 = .ok (.aload_n 0, 1) := by decide +kernel
theorem dX10_forget_4 : decode cX10_forget 4 = .ok (.getfield 7, 3) := by decide +kernel
theorem dX10_forget_7 : decode cX10_forget 7 = .ok (.bipush 37, 2) := by decide +kernel
theorem dX10_forget_9 : decode cX10_forget 9 = .ok (.iaload, 1) := by decide +kernel
theorem dX10_forget_10 : decode cX10_forget 10 = .ok (.i2l, 1) := by decide +kernel
theorem dX10_forget_11 : decode cX10_forget 11 = .ok (.invokestatic 78, 3) := by decide +kernel
theorem dX10_forget_14 : decode cX10_forget 14 = .ok (.ifCond .eq 13, 3) := by decide +kernel
theorem dX10_forget_17 : decode cX10_forget 17 = .ok (.aload_n 0, 1) := by decide +kernel
theorem dX10_forget_18 : decode cX10_forget 18 = .ok (.bipush 37, 2) := by decide +kernel
theorem dX10_forget_20 : decode cX10_forget 20 = .ok (.iload_n 1, 1) := by decide +kernel
theorem dX10_forget_21 : decode cX10_forget 21 = .ok (.invokevirtual 223, 3) := by decide +kernel
theorem dX10_forget_24 : decode cX10_forget 24 = .ok (.goto 4, 3) := by decide +kernel
theorem dX10_forget_27 : decode cX10_forget 27 = .ok (.iconst (-1), 1) := by decide +kernel
theorem dX10_forget_28 : decode cX10_forget 28 = .ok (.ireturn, 1) := by decide +kernel
set_option maxRecDepth 20000 in
theorem ggX10_isSo_X10_dayGoes : GoodIn wsX10_isSo wsX10_dayGoes := goodIn_r _ [7, 8, 2, 9, 10, 11, 12, 6, 13, 14, 15, 16, 17, 18, 19, 20, 21, 22, 23, 24, 25, 26, 27, 28, 29, 30, 31, 32, 33, 34, 35, 36, 37, 38, 39, 40, 41, 42, 43, 44, 45, 46, 47, 48, 49, 50, 51, 52, 53, 54, 55, 56, 57, 58, 59, 60, 61, 62] (by decide +kernel) (by decide +kernel)
set_option maxRecDepth 20000 in
theorem gX10_isSo_X10_dayGoes : GoodIn wsX10_isSo (wsV RX10 186 RX10 yX10_dayGoes wsX10_dayGoes) := goodIn_app (goodIn_of _ (by decide +kernel)) ggX10_isSo_X10_dayGoes
theorem dX10_isSo_0 : decode cX10_isSo 0 = .ok (.iconst 1, 1) := by decide +kernel
theorem dX10_isSo_1 : decode cX10_isSo 1 = .ok (.istore_n 1, 1) := by decide +kernel
theorem dX10_isSo_2 : decode cX10_isSo 2 = .ok (.aload_n 0, 1) := by decide +kernel
theorem dX10_isSo_3 : decode cX10_isSo 3 = .ok (.invokevirtual 186, 3) := by decide +kernel
theorem dX10_isSo_6 : decode cX10_isSo 6 = .ok (.iconst 0, 1) := by decide +kernel
theorem dX10_isSo_7 : decode cX10_isSo 7 = .ok (.istore_n 2, 1) := by decide +kernel
theorem dX10_isSo_8 : decode cX10_isSo 8 = .ok (.iload_n 2, 1) := by decide +kernel
theorem dX10_isSo_9 : decode cX10_isSo 9 = .ok (.aload_n 0, 1) := by decide +kernel
theorem dX10_isSo_10 : decode cX10_isSo 10 = .ok (.getfield 7, 3) := by decide +kernel
theorem dX10_isSo_13 : decode cX10_isSo 13 = .ok (.bipush 37, 2) := by decide +kernel
theorem dX10_isSo_15 : decode cX10_isSo 15 = .ok (.iaload, 1) := by decide +kernel
theorem dX10_isSo_16 : decode cX10_isSo 16 = .ok (.if_icmp .ge 60, 3) := by decide +kernel
theorem dX10_isSo_19 : decode cX10_isSo 19 = .ok (.bipush 38, 2) := by decide +kernel
theorem dX10_isSo_21 : decode cX10_isSo 21 = .ok (.iconst 3, 1) := by decide +kernel
theorem dX10_isSo_22 : decode cX10_isSo 22 = .ok (.iload_n 2, 1) := by decide +kernel
theorem dX10_isSo_23 : decode cX10_isSo 23 = .ok (.imul, 1) := by decide +kernel
theorem dX10_isSo_24 : decode cX10_isSo 24 = .ok (.iadd, 1) := by decide +kernel
theorem dX10_isSo_25 : decode cX10_isSo 25 = .ok (.istore_n 3, 1) := by decide +kernel
theorem dX10_isSo_26 : decode cX10_isSo 26 = .ok (.iload_n 1, 1) := by decide +kernel
theorem dX10_isSo_27 : decode cX10_isSo 27 = .ok (.ifCond .eq 41, 3) := by decide +kernel
theorem dX10_isSo_30 : decode cX10_isSo 30 = .ok (.aload_n 0, 1) := by decide +kernel
theorem dX10_isSo_31 : decode cX10_isSo 31 = .ok (.getfield 32, 3) := by decide +kernel
theorem dX10_isSo_34 : decode cX10_isSo 34 = .ok (.bipush 24, 2) := by decide +kernel
theorem dX10_isSo_36 : decode cX10_isSo 36 = .ok (.aload_n 0, 1) := by decide +kernel
theorem dX10_isSo_37 : decode cX10_isSo 37 = .ok (.getfield 7, 3) := by decide +kernel
theorem dX10_isSo_40 : decode cX10_isSo 40 = .ok (.iload_n 3, 1) := by decide +kernel
theorem dX10_isSo_41 : decode cX10_isSo 41 = .ok (.iaload, 1) := by decide +kernel
theorem dX10_isSo_42 : decode cX10_isSo 42 = .ok (.imul, 1) := by decide +kernel
theorem dX10_isSo_43 : decode cX10_isSo 43 = .ok (.aload_n 0, 1) := by decide +kernel
theorem dX10_isSo_44 : decode cX10_isSo 44 = .ok (.getfield 7, 3) := by decide +kernel
theorem dX10_isSo_47 : decode cX10_isSo 47 = .ok (.iload_n 3, 1) := by decide +kernel
theorem dX10_isSo_48 : decode cX10_isSo 48 = .ok (.iconst 1, 1) := by decide +kernel
theorem dX10_isSo_49 : decode cX10_isSo 49 = .ok (.iadd, 1) := by decide +kernel
theorem dX10_isSo_50 : decode cX10_isSo 50 = .ok (.iaload, 1) := by decide +kernel
theorem dX10_isSo_51 : decode cX10_isSo 51 = .ok (.iadd, 1) := by decide +kernel
theorem dX10_isSo_52 : decode cX10_isSo 52 = .ok (.iaload, 1) := by decide +kernel
theorem dX10_isSo_53 : decode cX10_isSo 53 = .ok (.aload_n 0, 1) := by decide +kernel
theorem dX10_isSo_54 : decode cX10_isSo 54 = .ok (.getfield 7, 3) := by decide +kernel
theorem dX10_isSo_57 : decode cX10_isSo 57 = .ok (.iload_n 3, 1) := by decide +kernel
theorem dX10_isSo_58 : decode cX10_isSo 58 = .ok (.iconst 2, 1) := by decide +kernel
theorem dX10_isSo_59 : decode cX10_isSo 59 = .ok (.iadd, 1) := by decide +kernel
theorem dX10_isSo_60 : decode cX10_isSo 60 = .ok (.iaload, 1) := by decide +kernel
theorem dX10_isSo_61 : decode cX10_isSo 61 = .ok (.if_icmp .ne 7, 3) := by decide +kernel
theorem dX10_isSo_64 : decode cX10_isSo 64 = .ok (.iconst 1, 1) := by decide +kernel
theorem dX10_isSo_65 : decode cX10_isSo 65 = .ok (.goto 4, 3) := by decide +kernel
theorem dX10_isSo_68 : decode cX10_isSo 68 = .ok (.iconst 0, 1) := by decide +kernel
theorem dX10_isSo_69 : decode cX10_isSo 69 = .ok (.istore_n 1, 1) := by decide +kernel
theorem dX10_isSo_70 : decode cX10_isSo 70 = .ok (.iinc 2 1, 3) := by decide +kernel
theorem dX10_isSo_73 : decode cX10_isSo 73 = .ok (.goto (-65), 3) := by decide +kernel
theorem dX10_isSo_76 : decode cX10_isSo 76 = .ok (.iload_n 1, 1) := by decide +kernel
theorem dX10_isSo_77 : decode cX10_isSo 77 = .ok (.ireturn, 1) := by decide +kernel
set_option maxRecDepth 20000 in
theorem ggX10_which_X10_fetches : GoodIn wsX10_which wsX10_fetches := goodIn_r _ [6, 1, 7, 44, 45, 46, 47, 48, 49, 50, 51, 52, 53, 54, 55, 56, 57, 58, 59, 60, 61, 62, 63, 64, 65, 66, 67, 68, 69, 70, 71, 72, 73] (by decide +kernel) (by decide +kernel)
set_option maxRecDepth 20000 in
theorem gX10_which_X10_fetches : GoodIn wsX10_which (wsV RX10 183 RX10 yX10_fetches wsX10_fetches) := goodIn_app (goodIn_of _ (by decide +kernel)) ggX10_which_X10_fetches
set_option maxRecDepth 20000 in
theorem ggX10_which_X10_isSo : GoodIn wsX10_which wsX10_isSo := goodIn_r _ [11, 7, 12, 13, 14, 15, 5, 16, 17, 1, 18, 19, 20, 21, 22, 23, 24, 25, 26, 27, 28, 29, 30, 31, 32, 33, 34, 35, 36, 37, 38, 39, 40, 44, 45, 46, 47, 48, 49, 50, 51, 52, 53, 54, 55, 56, 57, 58, 59, 60, 61, 62, 63, 64, 65, 66, 67, 68, 69, 70, 71, 72, 73] (by decide +kernel) (by decide +kernel)
set_option maxRecDepth 20000 in
theorem gX10_which_X10_isSo : GoodIn wsX10_which (wsV RX10 270 RX10 yX10_isSo wsX10_isSo) := goodIn_app (goodIn_of _ (by decide +kernel)) ggX10_which_X10_isSo
set_option maxRecDepth 20000 in
theorem ggX10_which_X10_flag : GoodIn wsX10_which wsX10_flag := goodIn_r _ [43] (by decide +kernel) (by decide +kernel)
set_option maxRecDepth 20000 in
theorem gX10_which_X10_flag : GoodIn wsX10_which (va_wsS RX10 176 yX10_flag wsX10_flag) := goodIn_app (goodIn_of _ (by decide +kernel)) ggX10_which_X10_flag
theorem dX10_which_0 : decode cX10_which 0 = .ok (.iconst 0, 1) := by decide +kernel
theorem dX10_which_1 : decode cX10_which 1 = .ok (.istore 4, 2) := by decide +kernel
theorem dX10_which_3 : decode cX10_which 3 = .ok (.aload_n 0, 1) := by decide +kernel
theorem dX10_which_4 : decode cX10_which 4 = .ok (.invokevirtual 183, 3) := by decide +kernel
theorem dX10_which_7 : decode cX10_which 7 = .ok (.iload_n 2, 1) := by decide +kernel
theorem dX10_which_8 : decode cX10_which 8 = .ok (.istore 5, 2) := by decide +kernel
theorem dX10_which_10 : decode cX10_which 10 = .ok (.iload 5, 2) := by decide +kernel
theorem dX10_which_12 : decode cX10_which 12 = .ok (.iload_n 3, 1) := by decide +kernel
theorem dX10_which_13 : decode cX10_which 13 = .ok (.if_icmp .gt 32, 3) := by decide +kernel
theorem dX10_which_16 : decode cX10_which 16 = .ok (.aload_n 0, 1) := by decide +kernel
theorem dX10_which_17 : decode cX10_which 17 = .ok (.getfield 13, 3) := by decide +kernel
theorem dX10_which_20 : decode cX10_which 20 = .ok (.iload_n 1, 1) := by decide +kernel
theorem dX10_which_21 : decode cX10_which 21 = .ok (.iload 5, 2) := by decide +kernel
theorem dX10_which_23 : decode cX10_which 23 = .ok (.iastore, 1) := by decide +kernel
theorem dX10_which_24 : decode cX10_which 24 = .ok (.iload 4, 2) := by decide +kernel
theorem dX10_which_26 : decode cX10_which 26 = .ok (.aload_n 0, 1) := by decide +kernel
theorem dX10_which_27 : decode cX10_which 27 = .ok (.invokevirtual 270, 3) := by decide +kernel
theorem dX10_which_30 : decode cX10_which 30 = .ok (.invokestatic 176, 3) := by decide +kernel
theorem dX10_which_33 : decode cX10_which 33 = .ok (.iload 5, 2) := by decide +kernel
theorem dX10_which_35 : decode cX10_which 35 = .ok (.ishl, 1) := by decide +kernel
theorem dX10_which_36 : decode cX10_which 36 = .ok (.ior, 1) := by decide +kernel
theorem dX10_which_37 : decode cX10_which 37 = .ok (.istore 4, 2) := by decide +kernel
theorem dX10_which_39 : decode cX10_which 39 = .ok (.iinc 5 1, 3) := by decide +kernel
theorem dX10_which_42 : decode cX10_which 42 = .ok (.goto (-32), 3) := by decide +kernel
theorem dX10_which_45 : decode cX10_which 45 = .ok (.iload 4, 2) := by decide +kernel
theorem dX10_which_47 : decode cX10_which 47 = .ok (.ireturn, 1) := by decide +kernel
set_option maxRecDepth 20000 in
theorem ggX10_starts_X10_which : GoodIn wsX10_starts wsX10_which := goodIn_r _ [5, 6, 7, 8, 9, 4, 10, 11, 12, 13, 14, 15, 16, 17, 18, 19, 20, 21, 22, 23, 24, 25, 26, 27, 28, 29, 30, 31, 32, 33, 34, 35, 36, 37, 38, 39, 40, 41, 42, 43, 44, 45, 46, 47, 48, 49, 50, 51, 52, 53, 54, 55, 56, 57, 58, 59, 60, 61, 62, 63, 64, 65, 66, 67, 68, 69, 70, 71, 72, 73, 74, 75, 76, 77] (by decide +kernel) (by decide +kernel)
set_option maxRecDepth 20000 in
theorem gX10_starts_X10_which : GoodIn wsX10_starts (wsV RX10 274 RX10 yX10_which wsX10_which) := goodIn_app (goodIn_of _ (by decide +kernel)) ggX10_starts_X10_which
theorem dX10_starts_0 : decode cX10_starts 0 = .ok (.aload_n 0, 1) := by decide +kernel
theorem dX10_starts_1 : decode cX10_starts 1 = .ok (.bipush 36, 2) := by decide +kernel
theorem dX10_starts_3 : decode cX10_starts 3 = .ok (.iconst 0, 1) := by decide +kernel
theorem dX10_starts_4 : decode cX10_starts 4 = .ok (.bipush 23, 2) := by decide +kernel
theorem dX10_starts_6 : decode cX10_starts 6 = .ok (.invokevirtual 274, 3) := by decide +kernel
theorem dX10_starts_9 : decode cX10_starts 9 = .ok (.ireturn, 1) := by decide +kernel
set_option maxRecDepth 20000 in
theorem ggX10_kinds_X10_isBox : GoodIn wsX10_kinds wsX10_isBox := goodIn_r _ [5, 6, 7, 8, 4, 9, 55, 56, 57, 58, 59, 60, 61, 62, 63, 64, 65, 66, 67, 68, 69, 70, 71, 72, 73, 74, 75, 76, 77, 78, 79, 80, 81, 82, 83, 84] (by decide +kernel) (by decide +kernel)
set_option maxRecDepth 20000 in
theorem gX10_kinds_X10_isBox : GoodIn wsX10_kinds (wsV RX10 201 RX10 yX10_isBox wsX10_isBox) := goodIn_app (goodIn_of _ (by decide +kernel)) ggX10_kinds_X10_isBox
set_option maxRecDepth 20000 in
theorem ggX10_kinds_X10_which : GoodIn wsX10_kinds wsX10_which := goodIn_r _ [13, 14, 15, 16, 17, 4, 18, 6, 19, 20, 21, 22, 23, 24, 25, 26, 27, 28, 29, 30, 31, 32, 33, 34, 35, 36, 37, 38, 39, 40, 41, 42, 43, 44, 45, 46, 47, 48, 49, 50, 51, 52, 53, 54, 55, 56, 57, 58, 59, 60, 61, 62, 63, 64, 65, 66, 67, 68, 69, 70, 71, 72, 73, 74, 75, 76, 77, 78, 79, 80, 81, 82, 83, 84] (by decide +kernel) (by decide +kernel)
set_option maxRecDepth 20000 in
theorem gX10_kinds_X10_which : GoodIn wsX10_kinds (wsV RX10 274 RX10 yX10_which wsX10_which) := goodIn_app (goodIn_of _ (by decide +kernel)) ggX10_kinds_X10_which
theorem dX10_kinds_0 : decode cX10_kinds 0 = .ok (.aload_n 0, 1) := by decide +kernel
theorem dX10_kinds_1 : decode cX10_kinds 1 = .ok (.iload_n 1, 1) := by decide +kernel
theorem dX10_kinds_2 : decode cX10_kinds 2 = .ok (.invokevirtual 201, 3) := by decide +kernel
theorem dX10_kinds_5 : decode cX10_kinds 5 = .ok (.ifCond .eq 18, 3) := by decide +kernel
theorem dX10_kinds_8 : decode cX10_kinds 8 = .ok (.aload_n 0, 1) := by decide +kernel
theorem dX10_kinds_9 : decode cX10_kinds 9 = .ok (.bipush 6, 2) := by decide +kernel
theorem dX10_kinds_11 : decode cX10_kinds 11 = .ok (.iload_n 1, 1) := by decide +kernel
theorem dX10_kinds_12 : decode cX10_kinds 12 = .ok (.imul, 1) := by decide +kernel
theorem dX10_kinds_13 : decode cX10_kinds 13 = .ok (.iconst 0, 1) := by decide +kernel
theorem dX10_kinds_14 : decode cX10_kinds 14 = .ok (.iadd, 1) := by decide +kernel
theorem dX10_kinds_15 : decode cX10_kinds 15 = .ok (.iconst 0, 1) := by decide +kernel
theorem dX10_kinds_16 : decode cX10_kinds 16 = .ok (.iconst 3, 1) := by decide +kernel
theorem dX10_kinds_17 : decode cX10_kinds 17 = .ok (.invokevirtual 274, 3) := by decide +kernel
theorem dX10_kinds_20 : decode cX10_kinds 20 = .ok (.goto 4, 3) := by decide +kernel
theorem dX10_kinds_23 : decode cX10_kinds 23 = .ok (.iconst (-1), 1) := by decide +kernel
theorem dX10_kinds_24 : decode cX10_kinds 24 = .ok (.ireturn, 1) := by decide +kernel
set_option maxRecDepth 20000 in
theorem ggX10_works_X10_isBox : GoodIn wsX10_works wsX10_isBox := goodIn_r _ [5, 6, 7, 8, 4, 9, 55, 56, 57, 58, 59, 60, 61, 62, 63, 64, 65, 66, 67, 68, 69, 70, 71, 72, 73, 74, 75, 76, 77, 78, 79, 80, 81, 82, 83, 84] (by decide +kernel) (by decide +kernel)
set_option maxRecDepth 20000 in
theorem gX10_works_X10_isBox : GoodIn wsX10_works (wsV RX10 201 RX10 yX10_isBox wsX10_isBox) := goodIn_app (goodIn_of _ (by decide +kernel)) ggX10_works_X10_isBox
set_option maxRecDepth 20000 in
theorem ggX10_works_X10_which : GoodIn wsX10_works wsX10_which := goodIn_r _ [13, 14, 15, 16, 17, 4, 18, 6, 19, 20, 21, 22, 23, 24, 25, 26, 27, 28, 29, 30, 31, 32, 33, 34, 35, 36, 37, 38, 39, 40, 41, 42, 43, 44, 45, 46, 47, 48, 49, 50, 51, 52, 53, 54, 55, 56, 57, 58, 59, 60, 61, 62, 63, 64, 65, 66, 67, 68, 69, 70, 71, 72, 73, 74, 75, 76, 77, 78, 79, 80, 81, 82, 83, 84] (by decide +kernel) (by decide +kernel)
set_option maxRecDepth 20000 in
theorem gX10_works_X10_which : GoodIn wsX10_works (wsV RX10 274 RX10 yX10_which wsX10_which) := goodIn_app (goodIn_of _ (by decide +kernel)) ggX10_works_X10_which
theorem dX10_works_0 : decode cX10_works 0 = .ok (.aload_n 0, 1) := by decide +kernel
theorem dX10_works_1 : decode cX10_works 1 = .ok (.iload_n 1, 1) := by decide +kernel
theorem dX10_works_2 : decode cX10_works 2 = .ok (.invokevirtual 201, 3) := by decide +kernel
theorem dX10_works_5 : decode cX10_works 5 = .ok (.ifCond .eq 19, 3) := by decide +kernel
theorem dX10_works_8 : decode cX10_works 8 = .ok (.aload_n 0, 1) := by decide +kernel
theorem dX10_works_9 : decode cX10_works 9 = .ok (.bipush 6, 2) := by decide +kernel
theorem dX10_works_11 : decode cX10_works 11 = .ok (.iload_n 1, 1) := by decide +kernel
theorem dX10_works_12 : decode cX10_works 12 = .ok (.imul, 1) := by decide +kernel
theorem dX10_works_13 : decode cX10_works 13 = .ok (.iconst 1, 1) := by decide +kernel
theorem dX10_works_14 : decode cX10_works 14 = .ok (.iadd, 1) := by decide +kernel
theorem dX10_works_15 : decode cX10_works 15 = .ok (.iconst 1, 1) := by decide +kernel
theorem dX10_works_16 : decode cX10_works 16 = .ok (.bipush 12, 2) := by decide +kernel
theorem dX10_works_18 : decode cX10_works 18 = .ok (.invokevirtual 274, 3) := by decide +kernel
theorem dX10_works_21 : decode cX10_works 21 = .ok (.goto 4, 3) := by decide +kernel
theorem dX10_works_24 : decode cX10_works 24 = .ok (.iconst (-1), 1) := by decide +kernel
theorem dX10_works_25 : decode cX10_works 25 = .ok (.ireturn, 1) := by decide +kernel
set_option maxRecDepth 20000 in
theorem ggX10_ask_X10_isPart : GoodIn wsX10_ask wsX10_isPart := goodIn_r _ [7, 8, 9, 6, 10] (by decide +kernel) (by decide +kernel)
set_option maxRecDepth 20000 in
theorem gX10_ask_X10_isPart : GoodIn wsX10_ask (va_wsS RX10 207 yX10_isPart wsX10_isPart) := goodIn_app (goodIn_of _ (by decide +kernel)) ggX10_ask_X10_isPart
set_option maxRecDepth 20000 in
theorem ggX10_ask_X10_fetches : GoodIn wsX10_ask wsX10_fetches := goodIn_r _ [14, 2, 15, 48, 49, 50, 51, 52, 53, 54, 55, 56, 57, 58, 59, 60, 61, 62, 63, 64, 65, 66, 67, 68, 69, 70, 71, 72, 73, 74, 75, 76, 77] (by decide +kernel) (by decide +kernel)
set_option maxRecDepth 20000 in
theorem gX10_ask_X10_fetches : GoodIn wsX10_ask (wsV RX10 183 RX10 yX10_fetches wsX10_fetches) := goodIn_app (goodIn_of _ (by decide +kernel)) ggX10_ask_X10_fetches
set_option maxRecDepth 20000 in
theorem ggX10_ask_X10_isSo : GoodIn wsX10_ask wsX10_isSo := goodIn_r _ [19, 15, 3, 20, 21, 22, 6, 23, 24, 2, 25, 26, 27, 28, 29, 30, 31, 32, 33, 34, 35, 36, 37, 38, 39, 40, 41, 42, 43, 44, 45, 46, 47, 48, 49, 50, 51, 52, 53, 54, 55, 56, 57, 58, 59, 60, 61, 62, 63, 64, 65, 66, 67, 68, 69, 70, 71, 72, 73, 74, 75, 76, 77] (by decide +kernel) (by decide +kernel)
set_option maxRecDepth 20000 in
theorem gX10_ask_X10_isSo : GoodIn wsX10_ask (wsV RX10 270 RX10 yX10_isSo wsX10_isSo) := goodIn_app (goodIn_of _ (by decide +kernel)) ggX10_ask_X10_isSo
set_option maxRecDepth 20000 in
theorem ggX10_ask_X10_lesser : GoodIn wsX10_ask wsX10_lesser := goodIn_r _ [47] (by decide +kernel) (by decide +kernel)
set_option maxRecDepth 20000 in
theorem gX10_ask_X10_lesser : GoodIn wsX10_ask (va_wsS RX10 167 yX10_lesser wsX10_lesser) := goodIn_app (goodIn_of _ (by decide +kernel)) ggX10_ask_X10_lesser
theorem dX10_ask_0 : decode cX10_ask 0 = .ok (.iload_n 1, 1) := by decide +kernel
theorem dX10_ask_1 : decode cX10_ask 1 = .ok (.invokestatic 207, 3) := by decide +kernel
theorem dX10_ask_4 : decode cX10_ask 4 = .ok (.ifCond .ne 5, 3) := by decide +kernel
theorem dX10_ask_7 : decode cX10_ask 7 = .ok (.iconst (-1), 1) := by decide +kernel
theorem dX10_ask_8 : decode cX10_ask 8 = .ok (.ireturn, 1) := by decide +kernel
theorem dX10_ask_9 : decode cX10_ask 9 = .ok (.iconst 0, 1) := by decide +kernel
theorem dX10_ask_10 : decode cX10_ask 10 = .ok (.istore_n 2, 1) := by decide +kernel
theorem dX10_ask_11 : decode cX10_ask 11 = .ok (.bipush (-4), 2) := by decide +kernel
theorem dX10_ask_13 : decode cX10_ask 13 = .ok (.istore_n 3, 1) := by decide +kernel
theorem dX10_ask_14 : decode cX10_ask 14 = .ok (.iconst 0, 1) := by decide +kernel
theorem dX10_ask_15 : decode cX10_ask 15 = .ok (.istore 4, 2) := by decide +kernel
theorem dX10_ask_17 : decode cX10_ask 17 = .ok (.iload 4, 2) := by decide +kernel
theorem dX10_ask_19 : decode cX10_ask 19 = .ok (.sipush 2880, 3) := by decide +kernel
theorem dX10_ask_22 : decode cX10_ask 22 = .ok (.if_icmp .ge 17, 3) := by decide +kernel
theorem dX10_ask_25 : decode cX10_ask 25 = .ok (.aload_n 0, 1) := by decide +kernel
theorem dX10_ask_26 : decode cX10_ask 26 = .ok (.getfield 38, 3) := by decide +kernel
theorem dX10_ask_29 : decode cX10_ask 29 = .ok (.iload 4, 2) := by decide +kernel
theorem dX10_ask_31 : decode cX10_ask 31 = .ok (.iconst 0, 1) := by decide +kernel
theorem dX10_ask_32 : decode cX10_ask 32 = .ok (.iastore, 1) := by decide +kernel
theorem dX10_ask_33 : decode cX10_ask 33 = .ok (.iinc 4 1, 3) := by decide +kernel
theorem dX10_ask_36 : decode cX10_ask 36 = .ok (.goto (-19), 3) := by decide +kernel
theorem dX10_ask_39 : decode cX10_ask 39 = .ok (.aload_n 0, 1) := by decide +kernel
theorem dX10_ask_40 : decode cX10_ask 40 = .ok (.invokevirtual 183, 3) := by decide +kernel
theorem dX10_ask_43 : decode cX10_ask 43 = .ok (.iconst 0, 1) := by decide +kernel
theorem dX10_ask_44 : decode cX10_ask 44 = .ok (.istore 4, 2) := by decide +kernel
theorem dX10_ask_46 : decode cX10_ask 46 = .ok (.iload 4, 2) := by decide +kernel
theorem dX10_ask_48 : decode cX10_ask 48 = .ok (.bipush 24, 2) := by decide +kernel
theorem dX10_ask_50 : decode cX10_ask 50 = .ok (.if_icmp .ge 66, 3) := by decide +kernel
theorem dX10_ask_53 : decode cX10_ask 53 = .ok (.aload_n 0, 1) := by decide +kernel
theorem dX10_ask_54 : decode cX10_ask 54 = .ok (.getfield 13, 3) := by decide +kernel
theorem dX10_ask_57 : decode cX10_ask 57 = .ok (.bipush 36, 2) := by decide +kernel
theorem dX10_ask_59 : decode cX10_ask 59 = .ok (.iload 4, 2) := by decide +kernel
theorem dX10_ask_61 : decode cX10_ask 61 = .ok (.iastore, 1) := by decide +kernel
theorem dX10_ask_62 : decode cX10_ask 62 = .ok (.aload_n 0, 1) := by decide +kernel
theorem dX10_ask_63 : decode cX10_ask 63 = .ok (.invokevirtual 270, 3) := by decide +kernel
theorem dX10_ask_66 : decode cX10_ask 66 = .ok (.ifCond .eq 44, 3) := by decide +kernel
theorem dX10_ask_69 : decode cX10_ask 69 = .ok (.iinc 2 1, 3) := by decide +kernel
theorem dX10_ask_72 : decode cX10_ask 72 = .ok (.iconst 0, 1) := by decide +kernel
theorem dX10_ask_73 : decode cX10_ask 73 = .ok (.istore 5, 2) := by decide +kernel
theorem dX10_ask_75 : decode cX10_ask 75 = .ok (.iload 5, 2) := by decide +kernel
theorem dX10_ask_77 : decode cX10_ask 77 = .ok (.bipush 120, 2) := by decide +kernel
theorem dX10_ask_79 : decode cX10_ask 79 = .ok (.if_icmp .ge 31, 3) := by decide +kernel
theorem dX10_ask_82 : decode cX10_ask 82 = .ok (.aload_n 0, 1) := by decide +kernel
theorem dX10_ask_83 : decode cX10_ask 83 = .ok (.getfield 38, 3) := by decide +kernel
theorem dX10_ask_86 : decode cX10_ask 86 = .ok (.bipush 24, 2) := by decide +kernel
theorem dX10_ask_88 : decode cX10_ask 88 = .ok (.iload 5, 2) := by decide +kernel
theorem dX10_ask_90 : decode cX10_ask 90 = .ok (.imul, 1) := by decide +kernel
theorem dX10_ask_91 : decode cX10_ask 91 = .ok (.aload_n 0, 1) := by decide +kernel
theorem dX10_ask_92 : decode cX10_ask 92 = .ok (.getfield 32, 3) := by decide +kernel
theorem dX10_ask_95 : decode cX10_ask 95 = .ok (.iload 5, 2) := by decide +kernel
theorem dX10_ask_97 : decode cX10_ask 97 = .ok (.iaload, 1) := by decide +kernel
theorem dX10_ask_98 : decode cX10_ask 98 = .ok (.iadd, 1) := by decide +kernel
theorem dX10_ask_99 : decode cX10_ask 99 = .ok (.dup2, 1) := by decide +kernel
theorem dX10_ask_100 : decode cX10_ask 100 = .ok (.iaload, 1) := by decide +kernel
theorem dX10_ask_101 : decode cX10_ask 101 = .ok (.iconst 1, 1) := by decide +kernel
theorem dX10_ask_102 : decode cX10_ask 102 = .ok (.iadd, 1) := by decide +kernel
theorem dX10_ask_103 : decode cX10_ask 103 = .ok (.iastore, 1) := by decide +kernel
theorem dX10_ask_104 : decode cX10_ask 104 = .ok (.iinc 5 1, 3) := by decide +kernel
theorem dX10_ask_107 : decode cX10_ask 107 = .ok (.goto (-32), 3) := by decide +kernel
theorem dX10_ask_110 : decode cX10_ask 110 = .ok (.iinc 4 1, 3) := by decide +kernel
theorem dX10_ask_113 : decode cX10_ask 113 = .ok (.goto (-67), 3) := by decide +kernel
theorem dX10_ask_116 : decode cX10_ask 116 = .ok (.iconst 0, 1) := by decide +kernel
theorem dX10_ask_117 : decode cX10_ask 117 = .ok (.istore 4, 2) := by decide +kernel
theorem dX10_ask_119 : decode cX10_ask 119 = .ok (.iload 4, 2) := by decide +kernel
theorem dX10_ask_121 : decode cX10_ask 121 = .ok (.bipush 120, 2) := by decide +kernel
theorem dX10_ask_123 : decode cX10_ask 123 = .ok (.if_icmp .ge 86, 3) := by decide +kernel
theorem dX10_ask_126 : decode cX10_ask 126 = .ok (.iconst 0, 1) := by decide +kernel
theorem dX10_ask_127 : decode cX10_ask 127 = .ok (.istore 5, 2) := by decide +kernel
theorem dX10_ask_129 : decode cX10_ask 129 = .ok (.iconst 0, 1) := by decide +kernel
theorem dX10_ask_130 : decode cX10_ask 130 = .ok (.istore 6, 2) := by decide +kernel
theorem dX10_ask_132 : decode cX10_ask 132 = .ok (.iload 6, 2) := by decide +kernel
theorem dX10_ask_134 : decode cX10_ask 134 = .ok (.bipush 24, 2) := by decide +kernel
theorem dX10_ask_136 : decode cX10_ask 136 = .ok (.if_icmp .ge 47, 3) := by decide +kernel
theorem dX10_ask_139 : decode cX10_ask 139 = .ok (.aload_n 0, 1) := by decide +kernel
theorem dX10_ask_140 : decode cX10_ask 140 = .ok (.getfield 38, 3) := by decide +kernel
theorem dX10_ask_143 : decode cX10_ask 143 = .ok (.bipush 24, 2) := by decide +kernel
theorem dX10_ask_145 : decode cX10_ask 145 = .ok (.iload 4, 2) := by decide +kernel
theorem dX10_ask_147 : decode cX10_ask 147 = .ok (.imul, 1) := by decide +kernel
theorem dX10_ask_148 : decode cX10_ask 148 = .ok (.iload 6, 2) := by decide +kernel
theorem dX10_ask_150 : decode cX10_ask 150 = .ok (.iadd, 1) := by decide +kernel
theorem dX10_ask_151 : decode cX10_ask 151 = .ok (.iaload, 1) := by decide +kernel
theorem dX10_ask_152 : decode cX10_ask 152 = .ok (.iload 5, 2) := by decide +kernel
theorem dX10_ask_154 : decode cX10_ask 154 = .ok (.if_icmp .le 19, 3) := by decide +kernel
theorem dX10_ask_157 : decode cX10_ask 157 = .ok (.aload_n 0, 1) := by decide +kernel
theorem dX10_ask_158 : decode cX10_ask 158 = .ok (.getfield 38, 3) := by decide +kernel
theorem dX10_ask_161 : decode cX10_ask 161 = .ok (.bipush 24, 2) := by decide +kernel
theorem dX10_ask_163 : decode cX10_ask 163 = .ok (.iload 4, 2) := by decide +kernel
theorem dX10_ask_165 : decode cX10_ask 165 = .ok (.imul, 1) := by decide +kernel
theorem dX10_ask_166 : decode cX10_ask 166 = .ok (.iload 6, 2) := by decide +kernel
theorem dX10_ask_168 : decode cX10_ask 168 = .ok (.iadd, 1) := by decide +kernel
theorem dX10_ask_169 : decode cX10_ask 169 = .ok (.iaload, 1) := by decide +kernel
theorem dX10_ask_170 : decode cX10_ask 170 = .ok (.goto 5, 3) := by decide +kernel
theorem dX10_ask_173 : decode cX10_ask 173 = .ok (.iload 5, 2) := by decide +kernel
theorem dX10_ask_175 : decode cX10_ask 175 = .ok (.istore 5, 2) := by decide +kernel
theorem dX10_ask_177 : decode cX10_ask 177 = .ok (.iinc 6 1, 3) := by decide +kernel
theorem dX10_ask_180 : decode cX10_ask 180 = .ok (.goto (-48), 3) := by decide +kernel
theorem dX10_ask_183 : decode cX10_ask 183 = .ok (.iload 5, 2) := by decide +kernel
theorem dX10_ask_185 : decode cX10_ask 185 = .ok (.iload_n 2, 1) := by decide +kernel
theorem dX10_ask_186 : decode cX10_ask 186 = .ok (.if_icmp .ge 8, 3) := by decide +kernel
theorem dX10_ask_189 : decode cX10_ask 189 = .ok (.iload 4, 2) := by decide +kernel
theorem dX10_ask_191 : decode cX10_ask 191 = .ok (.goto 4, 3) := by decide +kernel
theorem dX10_ask_194 : decode cX10_ask 194 = .ok (.iload_n 3, 1) := by decide +kernel
theorem dX10_ask_195 : decode cX10_ask 195 = .ok (.istore_n 3, 1) := by decide +kernel
theorem dX10_ask_196 : decode cX10_ask 196 = .ok (.iload 5, 2) := by decide +kernel
theorem dX10_ask_198 : decode cX10_ask 198 = .ok (.iload_n 2, 1) := by decide +kernel
theorem dX10_ask_199 : decode cX10_ask 199 = .ok (.invokestatic 167, 3) := by decide +kernel
theorem dX10_ask_202 : decode cX10_ask 202 = .ok (.istore_n 2, 1) := by decide +kernel
theorem dX10_ask_203 : decode cX10_ask 203 = .ok (.iinc 4 1, 3) := by decide +kernel
theorem dX10_ask_206 : decode cX10_ask 206 = .ok (.goto (-87), 3) := by decide +kernel
theorem dX10_ask_209 : decode cX10_ask 209 = .ok (.iload_n 3, 1) := by decide +kernel
theorem dX10_ask_210 : decode cX10_ask 210 = .ok (.bipush (-4), 2) := by decide +kernel
theorem dX10_ask_212 : decode cX10_ask 212 = .ok (.if_icmp .ne 8, 3) := by decide +kernel
theorem dX10_ask_215 : decode cX10_ask 215 = .ok (.bipush (-4), 2) := by decide +kernel
theorem dX10_ask_217 : decode cX10_ask 217 = .ok (.goto 23, 3) := by decide +kernel
theorem dX10_ask_220 : decode cX10_ask 220 = .ok (.iload_n 1, 1) := by decide +kernel
theorem dX10_ask_221 : decode cX10_ask 221 = .ok (.ifCond .ne 18, 3) := by decide +kernel
theorem dX10_ask_224 : decode cX10_ask 224 = .ok (.bipush 100, 2) := by decide +kernel
theorem dX10_ask_226 : decode cX10_ask 226 = .ok (.iload_n 3, 1) := by decide +kernel
theorem dX10_ask_227 : decode cX10_ask 227 = .ok (.bipush 24, 2) := by decide +kernel
theorem dX10_ask_229 : decode cX10_ask 229 = .ok (.idiv, 1) := by decide +kernel
theorem dX10_ask_230 : decode cX10_ask 230 = .ok (.imul, 1) := by decide +kernel
theorem dX10_ask_231 : decode cX10_ask 231 = .ok (.iload_n 3, 1) := by decide +kernel
theorem dX10_ask_232 : decode cX10_ask 232 = .ok (.bipush 24, 2) := by decide +kernel
theorem dX10_ask_234 : decode cX10_ask 234 = .ok (.irem, 1) := by decide +kernel
theorem dX10_ask_235 : decode cX10_ask 235 = .ok (.iadd, 1) := by decide +kernel
theorem dX10_ask_236 : decode cX10_ask 236 = .ok (.goto 4, 3) := by decide +kernel
theorem dX10_ask_239 : decode cX10_ask 239 = .ok (.iload_n 2, 1) := by decide +kernel
theorem dX10_ask_240 : decode cX10_ask 240 = .ok (.ireturn, 1) := by decide +kernel
set_option maxRecDepth 20000 in
theorem ggX10_drift_X10_in : GoodIn wsX10_drift wsX10_in := goodIn_r _ [8] (by decide +kernel) (by decide +kernel)
set_option maxRecDepth 20000 in
theorem gX10_drift_X10_in : GoodIn wsX10_drift (va_wsS RX10 78 yX10_in wsX10_in) := goodIn_app (goodIn_of _ (by decide +kernel)) ggX10_drift_X10_in
set_option maxRecDepth 20000 in
theorem ggX10_drift_X10_isPart : GoodIn wsX10_drift wsX10_isPart := goodIn_r _ [11, 5, 6, 7, 8] (by decide +kernel) (by decide +kernel)
set_option maxRecDepth 20000 in
theorem gX10_drift_X10_isPart : GoodIn wsX10_drift (va_wsS RX10 207 yX10_isPart wsX10_isPart) := goodIn_app (goodIn_of _ (by decide +kernel)) ggX10_drift_X10_isPart
set_option maxRecDepth 20000 in
theorem ggX10_drift_X10_fetches : GoodIn wsX10_drift wsX10_fetches := goodIn_r _ [15, 4, 2, 64, 65, 66, 67, 68, 69, 70, 71, 72, 73, 74, 75, 76, 77, 78, 79, 80, 81, 82, 83, 84, 85, 86, 87, 88, 89, 90, 91, 92, 93] (by decide +kernel) (by decide +kernel)
set_option maxRecDepth 20000 in
theorem gX10_drift_X10_fetches : GoodIn wsX10_drift (wsV RX10 183 RX10 yX10_fetches wsX10_fetches) := goodIn_app (goodIn_of _ (by decide +kernel)) ggX10_drift_X10_fetches
set_option maxRecDepth 20000 in
theorem ggX10_drift_X10_allWrong : GoodIn wsX10_drift wsX10_allWrong := goodIn_r _ [19, 4, 20, 21, 22, 7, 23, 24, 25, 26, 27, 28, 29, 30, 31, 32, 33, 34, 35, 36, 37, 38, 39, 40, 41, 42, 64, 65, 66, 67, 68, 69, 70, 71, 72, 73, 74, 75, 76, 77, 78, 79, 80, 81, 82, 83, 84, 85, 86, 87, 88, 89, 90, 91, 92, 93] (by decide +kernel) (by decide +kernel)
set_option maxRecDepth 20000 in
theorem gX10_drift_X10_allWrong : GoodIn wsX10_drift (wsV RX10 195 RX10 yX10_allWrong wsX10_allWrong) := goodIn_app (goodIn_of _ (by decide +kernel)) ggX10_drift_X10_allWrong
set_option maxRecDepth 20000 in
theorem ggX10_drift_X10_dayGoes : GoodIn wsX10_drift wsX10_dayGoes := goodIn_r _ [46, 47, 48, 4, 24, 25, 26, 7, 27, 28, 29, 30, 31, 32, 33, 34, 35, 36, 37, 38, 39, 49, 50, 51, 52, 40, 41, 42, 64, 65, 66, 67, 68, 69, 70, 71, 72, 73, 74, 75, 76, 77, 78, 79, 80, 81, 82, 83, 84, 85, 86, 87, 88, 89, 90, 91, 92, 93] (by decide +kernel) (by decide +kernel)
set_option maxRecDepth 20000 in
theorem gX10_drift_X10_dayGoes : GoodIn wsX10_drift (wsV RX10 186 RX10 yX10_dayGoes wsX10_dayGoes) := goodIn_app (goodIn_of _ (by decide +kernel)) ggX10_drift_X10_dayGoes
set_option maxRecDepth 20000 in
theorem ggX10_drift_X10_yawns : GoodIn wsX10_drift wsX10_yawns := goodIn_r _ [56, 57, 58, 59, 7, 60, 48, 61, 62, 63, 64, 65, 66, 67, 68, 69, 70, 71, 72, 73, 74, 75, 76, 77, 78, 79, 80, 81, 82, 83, 84, 85, 86, 87, 88, 89, 90, 91, 92, 93] (by decide +kernel) (by decide +kernel)
set_option maxRecDepth 20000 in
theorem gX10_drift_X10_yawns : GoodIn wsX10_drift (wsV RX10 198 RX10 yX10_yawns wsX10_yawns) := goodIn_app (goodIn_of _ (by decide +kernel)) ggX10_drift_X10_yawns
theorem dX10_drift_0 : decode cX10_drift 0 = .ok (.iload_n 2, 1) := by decide +kernel
theorem dX10_drift_1 : decode cX10_drift 1 = .ok (.i2l, 1) := by decide +kernel
theorem dX10_drift_2 : decode cX10_drift 2 = .ok (.lconst 1, 1) := by decide +kernel
theorem dX10_drift_3 : decode cX10_drift 3 = .ok (.ldc2_w 278, 3) := by decide +kernel
theorem dX10_drift_6 : decode cX10_drift 6 = .ok (.invokestatic 78, 3) := by decide +kernel
theorem dX10_drift_9 : decode cX10_drift 9 = .ok (.ifCond .eq 10, 3) := by decide +kernel
theorem dX10_drift_12 : decode cX10_drift 12 = .ok (.iload_n 3, 1) := by decide +kernel
theorem dX10_drift_13 : decode cX10_drift 13 = .ok (.invokestatic 207, 3) := by decide +kernel
theorem dX10_drift_16 : decode cX10_drift 16 = .ok (.ifCond .ne 5, 3) := by decide +kernel
theorem dX10_drift_19 : decode cX10_drift 19 = .ok (.iconst (-1), 1) := by decide +kernel
theorem dX10_drift_20 : decode cX10_drift 20 = .ok (.ireturn, 1) := by decide +kernel
theorem dX10_drift_21 : decode cX10_drift 21 = .ok (.aload_n 0, 1) := by decide +kernel
theorem dX10_drift_22 : decode cX10_drift 22 = .ok (.getfield 7, 3) := by decide +kernel
theorem dX10_drift_25 : decode cX10_drift 25 = .ok (.bipush 30, 2) := by decide +kernel
theorem dX10_drift_27 : decode cX10_drift 27 = .ok (.iaload, 1) := by decide +kernel
theorem dX10_drift_28 : decode cX10_drift 28 = .ok (.ifCond .ne 6, 3) := by decide +kernel
theorem dX10_drift_31 : decode cX10_drift 31 = .ok (.bipush (-2), 2) := by decide +kernel
theorem dX10_drift_33 : decode cX10_drift 33 = .ok (.ireturn, 1) := by decide +kernel
theorem dX10_drift_34 : decode cX10_drift 34 = .ok (.iload_n 1, 1) := by decide +kernel
theorem dX10_drift_35 : decode cX10_drift 35 = .ok (.istore 4, 2) := by decide +kernel
theorem dX10_drift_37 : decode cX10_drift 37 = .ok (.iconst 0, 1) := by decide +kernel
theorem dX10_drift_38 : decode cX10_drift 38 = .ok (.istore 5, 2) := by decide +kernel
theorem dX10_drift_40 : decode cX10_drift 40 = .ok (.aload_n 0, 1) := by decide +kernel
theorem dX10_drift_41 : decode cX10_drift 41 = .ok (.invokevirtual 183, 3) := by decide +kernel
theorem dX10_drift_44 : decode cX10_drift 44 = .ok (.iconst 0, 1) := by decide +kernel
theorem dX10_drift_45 : decode cX10_drift 45 = .ok (.istore 6, 2) := by decide +kernel
theorem dX10_drift_47 : decode cX10_drift 47 = .ok (.iload 6, 2) := by decide +kernel
theorem dX10_drift_49 : decode cX10_drift 49 = .ok (.iload_n 2, 1) := by decide +kernel
theorem dX10_drift_50 : decode cX10_drift 50 = .ok (.if_icmp .ge 127, 3) := by decide +kernel
theorem dX10_drift_53 : decode cX10_drift 53 = .ok (.iload 4, 2) := by decide +kernel
theorem dX10_drift_55 : decode cX10_drift 55 = .ok (.ldc_w 280, 3) := by decide +kernel
theorem dX10_drift_58 : decode cX10_drift 58 = .ok (.imul, 1) := by decide +kernel
theorem dX10_drift_59 : decode cX10_drift 59 = .ok (.sipush 12345, 3) := by decide +kernel
theorem dX10_drift_62 : decode cX10_drift 62 = .ok (.iadd, 1) := by decide +kernel
theorem dX10_drift_63 : decode cX10_drift 63 = .ok (.istore 4, 2) := by decide +kernel
theorem dX10_drift_65 : decode cX10_drift 65 = .ok (.iload 4, 2) := by decide +kernel
theorem dX10_drift_67 : decode cX10_drift 67 = .ok (.bipush 16, 2) := by decide +kernel
theorem dX10_drift_69 : decode cX10_drift 69 = .ok (.ishr, 1) := by decide +kernel
theorem dX10_drift_70 : decode cX10_drift 70 = .ok (.sipush 32767, 3) := by decide +kernel
theorem dX10_drift_73 : decode cX10_drift 73 = .ok (.iand, 1) := by decide +kernel
theorem dX10_drift_74 : decode cX10_drift 74 = .ok (.istore 7, 2) := by decide +kernel
theorem dX10_drift_76 : decode cX10_drift 76 = .ok (.iload 7, 2) := by decide +kernel
theorem dX10_drift_78 : decode cX10_drift 78 = .ok (.aload_n 0, 1) := by decide +kernel
theorem dX10_drift_79 : decode cX10_drift 79 = .ok (.getfield 13, 3) := by decide +kernel
theorem dX10_drift_82 : decode cX10_drift 82 = .ok (.bipush 30, 2) := by decide +kernel
theorem dX10_drift_84 : decode cX10_drift 84 = .ok (.iaload, 1) := by decide +kernel
theorem dX10_drift_85 : decode cX10_drift 85 = .ok (.irem, 1) := by decide +kernel
theorem dX10_drift_86 : decode cX10_drift 86 = .ok (.istore 8, 2) := by decide +kernel
theorem dX10_drift_88 : decode cX10_drift 88 = .ok (.iload 7, 2) := by decide +kernel
theorem dX10_drift_90 : decode cX10_drift 90 = .ok (.bipush 8, 2) := by decide +kernel
theorem dX10_drift_92 : decode cX10_drift 92 = .ok (.idiv, 1) := by decide +kernel
theorem dX10_drift_93 : decode cX10_drift 93 = .ok (.aload_n 0, 1) := by decide +kernel
theorem dX10_drift_94 : decode cX10_drift 94 = .ok (.getfield 13, 3) := by decide +kernel
theorem dX10_drift_97 : decode cX10_drift 97 = .ok (.bipush 30, 2) := by decide +kernel
theorem dX10_drift_99 : decode cX10_drift 99 = .ok (.iaload, 1) := by decide +kernel
theorem dX10_drift_100 : decode cX10_drift 100 = .ok (.irem, 1) := by decide +kernel
theorem dX10_drift_101 : decode cX10_drift 101 = .ok (.istore 9, 2) := by decide +kernel
theorem dX10_drift_103 : decode cX10_drift 103 = .ok (.aload_n 0, 1) := by decide +kernel
theorem dX10_drift_104 : decode cX10_drift 104 = .ok (.getfield 13, 3) := by decide +kernel
theorem dX10_drift_107 : decode cX10_drift 107 = .ok (.bipush 31, 2) := by decide +kernel
theorem dX10_drift_109 : decode cX10_drift 109 = .ok (.iload 8, 2) := by decide +kernel
theorem dX10_drift_111 : decode cX10_drift 111 = .ok (.iadd, 1) := by decide +kernel
theorem dX10_drift_112 : decode cX10_drift 112 = .ok (.iaload, 1) := by decide +kernel
theorem dX10_drift_113 : decode cX10_drift 113 = .ok (.istore 10, 2) := by decide +kernel
theorem dX10_drift_115 : decode cX10_drift 115 = .ok (.aload_n 0, 1) := by decide +kernel
theorem dX10_drift_116 : decode cX10_drift 116 = .ok (.getfield 13, 3) := by decide +kernel
theorem dX10_drift_119 : decode cX10_drift 119 = .ok (.bipush 31, 2) := by decide +kernel
theorem dX10_drift_121 : decode cX10_drift 121 = .ok (.iload 8, 2) := by decide +kernel
theorem dX10_drift_123 : decode cX10_drift 123 = .ok (.iadd, 1) := by decide +kernel
theorem dX10_drift_124 : decode cX10_drift 124 = .ok (.aload_n 0, 1) := by decide +kernel
theorem dX10_drift_125 : decode cX10_drift 125 = .ok (.getfield 13, 3) := by decide +kernel
theorem dX10_drift_128 : decode cX10_drift 128 = .ok (.bipush 31, 2) := by decide +kernel
theorem dX10_drift_130 : decode cX10_drift 130 = .ok (.iload 9, 2) := by decide +kernel
theorem dX10_drift_132 : decode cX10_drift 132 = .ok (.iadd, 1) := by decide +kernel
theorem dX10_drift_133 : decode cX10_drift 133 = .ok (.iaload, 1) := by decide +kernel
theorem dX10_drift_134 : decode cX10_drift 134 = .ok (.iastore, 1) := by decide +kernel
theorem dX10_drift_135 : decode cX10_drift 135 = .ok (.aload_n 0, 1) := by decide +kernel
theorem dX10_drift_136 : decode cX10_drift 136 = .ok (.getfield 13, 3) := by decide +kernel
theorem dX10_drift_139 : decode cX10_drift 139 = .ok (.bipush 31, 2) := by decide +kernel
theorem dX10_drift_141 : decode cX10_drift 141 = .ok (.iload 9, 2) := by decide +kernel
theorem dX10_drift_143 : decode cX10_drift 143 = .ok (.iadd, 1) := by decide +kernel
theorem dX10_drift_144 : decode cX10_drift 144 = .ok (.iload 10, 2) := by decide +kernel
theorem dX10_drift_146 : decode cX10_drift 146 = .ok (.iastore, 1) := by decide +kernel
theorem dX10_drift_147 : decode cX10_drift 147 = .ok (.aload_n 0, 1) := by decide +kernel
theorem dX10_drift_148 : decode cX10_drift 148 = .ok (.getfield 13, 3) := by decide +kernel
theorem dX10_drift_151 : decode cX10_drift 151 = .ok (.bipush 36, 2) := by decide +kernel
theorem dX10_drift_153 : decode cX10_drift 153 = .ok (.iload 7, 2) := by decide +kernel
theorem dX10_drift_155 : decode cX10_drift 155 = .ok (.bipush 64, 2) := by decide +kernel
theorem dX10_drift_157 : decode cX10_drift 157 = .ok (.idiv, 1) := by decide +kernel
theorem dX10_drift_158 : decode cX10_drift 158 = .ok (.bipush 24, 2) := by decide +kernel
theorem dX10_drift_160 : decode cX10_drift 160 = .ok (.irem, 1) := by decide +kernel
theorem dX10_drift_161 : decode cX10_drift 161 = .ok (.iastore, 1) := by decide +kernel
theorem dX10_drift_162 : decode cX10_drift 162 = .ok (.iload 5, 2) := by decide +kernel
theorem dX10_drift_164 : decode cX10_drift 164 = .ok (.aload_n 0, 1) := by decide +kernel
theorem dX10_drift_165 : decode cX10_drift 165 = .ok (.invokevirtual 195, 3) := by decide +kernel
theorem dX10_drift_168 : decode cX10_drift 168 = .ok (.iadd, 1) := by decide +kernel
theorem dX10_drift_169 : decode cX10_drift 169 = .ok (.istore 5, 2) := by decide +kernel
theorem dX10_drift_171 : decode cX10_drift 171 = .ok (.iinc 6 1, 3) := by decide +kernel
theorem dX10_drift_174 : decode cX10_drift 174 = .ok (.goto (-127), 3) := by decide +kernel
theorem dX10_drift_177 : decode cX10_drift 177 = .ok (.aload_n 0, 1) := by decide +kernel
theorem dX10_drift_178 : decode cX10_drift 178 = .ok (.invokevirtual 186, 3) := by decide +kernel
theorem dX10_drift_181 : decode cX10_drift 181 = .ok (.iload_n 3, 1) := by decide +kernel
theorem dX10_drift_182 : decode cX10_drift 182 = .ok (.ifCond .ne 8, 3) := by decide +kernel
theorem dX10_drift_185 : decode cX10_drift 185 = .ok (.iload 5, 2) := by decide +kernel
theorem dX10_drift_187 : decode cX10_drift 187 = .ok (.goto 7, 3) := by decide +kernel
theorem dX10_drift_190 : decode cX10_drift 190 = .ok (.aload_n 0, 1) := by decide +kernel
theorem dX10_drift_191 : decode cX10_drift 191 = .ok (.invokevirtual 198, 3) := by decide +kernel
theorem dX10_drift_194 : decode cX10_drift 194 = .ok (.ireturn, 1) := by decide +kernel
theorem dX10_copies_0 : decode cX10_copies 0 = .ok (.iconst 0, 1) := by decide +kernel
theorem dX10_copies_1 : decode cX10_copies 1 = .ok (.istore_n 3, 1) := by decide +kernel
theorem dX10_copies_2 : decode cX10_copies 2 = .ok (.iload_n 3, 1) := by decide +kernel
theorem dX10_copies_3 : decode cX10_copies 3 = .ok (.bipush 56, 2) := by decide +kernel
theorem dX10_copies_5 : decode cX10_copies 5 = .ok (.if_icmp .ge 25, 3) := by decide +kernel
theorem dX10_copies_8 : decode cX10_copies 8 = .ok (.aload_n 0, 1) := by decide +kernel
theorem dX10_copies_9 : decode cX10_copies 9 = .ok (.getfield 7, 3) := by decide +kernel
theorem dX10_copies_12 : decode cX10_copies 12 = .ok (.iload_n 1, 1) := by decide +kernel
theorem dX10_copies_13 : decode cX10_copies 13 = .ok (.iload_n 3, 1) := by decide +kernel
theorem dX10_copies_14 : decode cX10_copies 14 = .ok (.iadd, 1) := by decide +kernel
theorem dX10_copies_15 : decode cX10_copies 15 = .ok (.aload_n 0, 1) := by decide +kernel
theorem dX10_copies_16 : decode cX10_copies 16 = .ok (.getfield 7, 3) := by decide +kernel
theorem dX10_copies_19 : decode cX10_copies 19 = .ok (.iload_n 2, 1) := by decide +kernel
theorem dX10_copies_20 : decode cX10_copies 20 = .ok (.iload_n 3, 1) := by decide +kernel
theorem dX10_copies_21 : decode cX10_copies 21 = .ok (.iadd, 1) := by decide +kernel
theorem dX10_copies_22 : decode cX10_copies 22 = .ok (.iaload, 1) := by decide +kernel
theorem dX10_copies_23 : decode cX10_copies 23 = .ok (.iastore, 1) := by decide +kernel
theorem dX10_copies_24 : decode cX10_copies 24 = .ok (.iinc 3 1, 3) := by decide +kernel
theorem dX10_copies_27 : decode cX10_copies 27 = .ok (.goto (-25), 3) := by decide +kernel
theorem dX10_copies_30 : decode cX10_copies 30 = .ok (.return_, 1) := by decide +kernel
set_option maxRecDepth 20000 in
theorem ggX10_keep_X10_in : GoodIn wsX10_keep wsX10_in := goodIn_r _ [5] (by decide +kernel) (by decide +kernel)
set_option maxRecDepth 20000 in
theorem gX10_keep_X10_in : GoodIn wsX10_keep (va_wsS RX10 78 yX10_in wsX10_in) := goodIn_app (goodIn_of _ (by decide +kernel)) ggX10_keep_X10_in
set_option maxRecDepth 20000 in
theorem ggX10_keep_X10_flag : GoodIn wsX10_keep wsX10_flag := goodIn_r _ [8] (by decide +kernel) (by decide +kernel)
set_option maxRecDepth 20000 in
theorem gX10_keep_X10_flag : GoodIn wsX10_keep (va_wsS RX10 176 yX10_flag wsX10_flag) := goodIn_app (goodIn_of _ (by decide +kernel)) ggX10_keep_X10_flag
set_option maxRecDepth 20000 in
theorem ggX10_keep_X10_copies : GoodIn wsX10_keep wsX10_copies := goodIn_r _ [12, 13, 14, 15, 16, 17, 18, 19, 20, 21, 22, 23, 24, 25, 26, 27, 28, 29, 30, 31, 32, 33, 34, 35, 36, 37, 38, 39, 40, 41, 42, 43] (by decide +kernel) (by decide +kernel)
set_option maxRecDepth 20000 in
theorem gX10_keep_X10_copies : GoodIn wsX10_keep (wsV RX10 281 RX10 yX10_copies wsX10_copies) := goodIn_app (goodIn_of _ (by decide +kernel)) ggX10_keep_X10_copies
theorem dX10_keep_0 : decode cX10_keep 0 = .ok (.iload_n 1, 1) := by decide +kernel
theorem dX10_keep_1 : decode cX10_keep 1 = .ok (.i2l, 1) := by decide +kernel
theorem dX10_keep_2 : decode cX10_keep 2 = .ok (.lconst 0, 1) := by decide +kernel
theorem dX10_keep_3 : decode cX10_keep 3 = .ok (.lconst 1, 1) := by decide +kernel
theorem dX10_keep_4 : decode cX10_keep 4 = .ok (.invokestatic 78, 3) := by decide +kernel
theorem dX10_keep_7 : decode cX10_keep 7 = .ok (.ifCond .ne 5, 3) := by decide +kernel
theorem dX10_keep_10 : decode cX10_keep 10 = .ok (.iconst (-1), 1) := by decide +kernel
theorem dX10_keep_11 : decode cX10_keep 11 = .ok (.ireturn, 1) := by decide +kernel
theorem dX10_keep_12 : decode cX10_keep 12 = .ok (.aload_n 0, 1) := by decide +kernel
theorem dX10_keep_13 : decode cX10_keep 13 = .ok (.getfield 16, 3) := by decide +kernel
theorem dX10_keep_16 : decode cX10_keep 16 = .ok (.iload_n 1, 1) := by decide +kernel
theorem dX10_keep_17 : decode cX10_keep 17 = .ok (.baload, 1) := by decide +kernel
theorem dX10_keep_18 : decode cX10_keep 18 = .ok (.invokestatic 176, 3) := by decide +kernel
theorem dX10_keep_21 : decode cX10_keep 21 = .ok (.istore_n 2, 1) := by decide +kernel
theorem dX10_keep_22 : decode cX10_keep 22 = .ok (.aload_n 0, 1) := by decide +kernel
theorem dX10_keep_23 : decode cX10_keep 23 = .ok (.getfield 16, 3) := by decide +kernel
theorem dX10_keep_26 : decode cX10_keep 26 = .ok (.iload_n 1, 1) := by decide +kernel
theorem dX10_keep_27 : decode cX10_keep 27 = .ok (.iconst 1, 1) := by decide +kernel
theorem dX10_keep_28 : decode cX10_keep 28 = .ok (.bastore, 1) := by decide +kernel
theorem dX10_keep_29 : decode cX10_keep 29 = .ok (.aload_n 0, 1) := by decide +kernel
theorem dX10_keep_30 : decode cX10_keep 30 = .ok (.bipush 56, 2) := by decide +kernel
theorem dX10_keep_32 : decode cX10_keep 32 = .ok (.iload_n 1, 1) := by decide +kernel
theorem dX10_keep_33 : decode cX10_keep 33 = .ok (.iconst 1, 1) := by decide +kernel
theorem dX10_keep_34 : decode cX10_keep 34 = .ok (.iadd, 1) := by decide +kernel
theorem dX10_keep_35 : decode cX10_keep 35 = .ok (.imul, 1) := by decide +kernel
theorem dX10_keep_36 : decode cX10_keep 36 = .ok (.iconst 0, 1) := by decide +kernel
theorem dX10_keep_37 : decode cX10_keep 37 = .ok (.invokevirtual 281, 3) := by decide +kernel
theorem dX10_keep_40 : decode cX10_keep 40 = .ok (.iload_n 2, 1) := by decide +kernel
theorem dX10_keep_41 : decode cX10_keep 41 = .ok (.ireturn, 1) := by decide +kernel
set_option maxRecDepth 20000 in
theorem ggX10_back_X10_in : GoodIn wsX10_back wsX10_in := goodIn_r _ [6] (by decide +kernel) (by decide +kernel)
set_option maxRecDepth 20000 in
theorem gX10_back_X10_in : GoodIn wsX10_back (va_wsS RX10 78 yX10_in wsX10_in) := goodIn_app (goodIn_of _ (by decide +kernel)) ggX10_back_X10_in
set_option maxRecDepth 20000 in
theorem ggX10_back_X10_copies : GoodIn wsX10_back wsX10_copies := goodIn_r _ [10, 2, 11, 12, 13, 14, 15, 16, 17, 18, 19, 20, 21, 22, 23, 24, 25, 26, 27, 28, 29, 30, 31, 32, 33, 34, 35, 36, 37, 38, 39, 40] (by decide +kernel) (by decide +kernel)
set_option maxRecDepth 20000 in
theorem gX10_back_X10_copies : GoodIn wsX10_back (wsV RX10 281 RX10 yX10_copies wsX10_copies) := goodIn_app (goodIn_of _ (by decide +kernel)) ggX10_back_X10_copies
theorem dX10_back_0 : decode cX10_back 0 = .ok (.iload_n 1, 1) := by decide +kernel
theorem dX10_back_1 : decode cX10_back 1 = .ok (.i2l, 1) := by decide +kernel
theorem dX10_back_2 : decode cX10_back 2 = .ok (.lconst 0, 1) := by decide +kernel
theorem dX10_back_3 : decode cX10_back 3 = .ok (.lconst 1, 1) := by decide +kernel
theorem dX10_back_4 : decode cX10_back 4 = .ok (.invokestatic 78, 3) := by decide +kernel
theorem dX10_back_7 : decode cX10_back 7 = .ok (.ifCond .ne 5, 3) := by decide +kernel
theorem dX10_back_10 : decode cX10_back 10 = .ok (.iconst (-1), 1) := by decide +kernel
theorem dX10_back_11 : decode cX10_back 11 = .ok (.ireturn, 1) := by decide +kernel
theorem dX10_back_12 : decode cX10_back 12 = .ok (.aload_n 0, 1) := by decide +kernel
theorem dX10_back_13 : decode cX10_back 13 = .ok (.getfield 16, 3) := by decide +kernel
theorem dX10_back_16 : decode cX10_back 16 = .ok (.iload_n 1, 1) := by decide +kernel
theorem dX10_back_17 : decode cX10_back 17 = .ok (.baload, 1) := by decide +kernel
theorem dX10_back_18 : decode cX10_back 18 = .ok (.ifCond .ne 6, 3) := by decide +kernel
theorem dX10_back_21 : decode cX10_back 21 = .ok (.bipush (-2), 2) := by decide +kernel
theorem dX10_back_23 : decode cX10_back 23 = .ok (.ireturn, 1) := by decide +kernel
theorem dX10_back_24 : decode cX10_back 24 = .ok (.aload_n 0, 1) := by decide +kernel
theorem dX10_back_25 : decode cX10_back 25 = .ok (.iconst 0, 1) := by decide +kernel
theorem dX10_back_26 : decode cX10_back 26 = .ok (.bipush 56, 2) := by decide +kernel
theorem dX10_back_28 : decode cX10_back 28 = .ok (.iload_n 1, 1) := by decide +kernel
theorem dX10_back_29 : decode cX10_back 29 = .ok (.iconst 1, 1) := by decide +kernel
theorem dX10_back_30 : decode cX10_back 30 = .ok (.iadd, 1) := by decide +kernel
theorem dX10_back_31 : decode cX10_back 31 = .ok (.imul, 1) := by decide +kernel
theorem dX10_back_32 : decode cX10_back 32 = .ok (.invokevirtual 281, 3) := by decide +kernel
theorem dX10_back_35 : decode cX10_back 35 = .ok (.aload_n 0, 1) := by decide +kernel
theorem dX10_back_36 : decode cX10_back 36 = .ok (.getfield 7, 3) := by decide +kernel
theorem dX10_back_39 : decode cX10_back 39 = .ok (.bipush 36, 2) := by decide +kernel
theorem dX10_back_41 : decode cX10_back 41 = .ok (.iaload, 1) := by decide +kernel
theorem dX10_back_42 : decode cX10_back 42 = .ok (.ireturn, 1) := by decide +kernel
set_option maxRecDepth 20000 in
theorem ggX10_isSheet_X10_in : GoodIn wsX10_isSheet wsX10_in := goodIn_r _ [6] (by decide +kernel) (by decide +kernel)
set_option maxRecDepth 20000 in
theorem gX10_isSheet_X10_in : GoodIn wsX10_isSheet (va_wsS RX10 78 yX10_in wsX10_in) := goodIn_app (goodIn_of _ (by decide +kernel)) ggX10_isSheet_X10_in
theorem dX10_isSheet_0 : decode cX10_isSheet 0 = .ok (.iload_n 0, 1) := by decide +kernel
theorem dX10_isSheet_1 : decode cX10_isSheet 1 = .ok (.i2l, 1) := by decide +kernel
theorem dX10_isSheet_2 : decode cX10_isSheet 2 = .ok (.lconst 0, 1) := by decide +kernel
theorem dX10_isSheet_3 : decode cX10_isSheet 3 = .ok (.ldc2_w 210, 3) := by decide +kernel
theorem dX10_isSheet_6 : decode cX10_isSheet 6 = .ok (.invokestatic 78, 3) := by decide +kernel
theorem dX10_isSheet_9 : decode cX10_isSheet 9 = .ok (.ifCond .eq 19, 3) := by decide +kernel
theorem dX10_isSheet_12 : decode cX10_isSheet 12 = .ok (.iload_n 1, 1) := by decide +kernel
theorem dX10_isSheet_13 : decode cX10_isSheet 13 = .ok (.i2l, 1) := by decide +kernel
theorem dX10_isSheet_14 : decode cX10_isSheet 14 = .ok (.lconst 0, 1) := by decide +kernel
theorem dX10_isSheet_15 : decode cX10_isSheet 15 = .ok (.ldc2_w 284, 3) := by decide +kernel
theorem dX10_isSheet_18 : decode cX10_isSheet 18 = .ok (.invokestatic 78, 3) := by decide +kernel
theorem dX10_isSheet_21 : decode cX10_isSheet 21 = .ok (.ifCond .eq 7, 3) := by decide +kernel
theorem dX10_isSheet_24 : decode cX10_isSheet 24 = .ok (.iconst 1, 1) := by decide +kernel
theorem dX10_isSheet_25 : decode cX10_isSheet 25 = .ok (.goto 4, 3) := by decide +kernel
theorem dX10_isSheet_28 : decode cX10_isSheet 28 = .ok (.iconst 0, 1) := by decide +kernel
theorem dX10_isSheet_29 : decode cX10_isSheet 29 = .ok (.ireturn, 1) := by decide +kernel
set_option maxRecDepth 20000 in
theorem ggX10_sheet_X10_isSheet : GoodIn wsX10_sheet wsX10_isSheet := goodIn_r _ [7, 8, 9, 10, 11, 6, 12] (by decide +kernel) (by decide +kernel)
set_option maxRecDepth 20000 in
theorem gX10_sheet_X10_isSheet : GoodIn wsX10_sheet (va_wsS RX10 286 yX10_isSheet wsX10_isSheet) := goodIn_app (goodIn_of _ (by decide +kernel)) ggX10_sheet_X10_isSheet
theorem dX10_sheet_0 : decode cX10_sheet 0 = .ok (.iload_n 1, 1) := by decide +kernel
theorem dX10_sheet_1 : decode cX10_sheet 1 = .ok (.iload_n 2, 1) := by decide +kernel
theorem dX10_sheet_2 : decode cX10_sheet 2 = .ok (.invokestatic 286, 3) := by decide +kernel
theorem dX10_sheet_5 : decode cX10_sheet 5 = .ok (.ifCond .eq 9, 3) := by decide +kernel
theorem dX10_sheet_8 : decode cX10_sheet 8 = .ok (.iload_n 3, 1) := by decide +kernel
theorem dX10_sheet_9 : decode cX10_sheet 9 = .ok (.bipush 40, 2) := by decide +kernel
theorem dX10_sheet_11 : decode cX10_sheet 11 = .ok (.if_icmp .le 5, 3) := by decide +kernel
theorem dX10_sheet_14 : decode cX10_sheet 14 = .ok (.iconst (-1), 1) := by decide +kernel
theorem dX10_sheet_15 : decode cX10_sheet 15 = .ok (.ireturn, 1) := by decide +kernel
theorem dX10_sheet_16 : decode cX10_sheet 16 = .ok (.iload_n 3, 1) := by decide +kernel
theorem dX10_sheet_17 : decode cX10_sheet 17 = .ok (.ifCond .ge 6, 3) := by decide +kernel
theorem dX10_sheet_20 : decode cX10_sheet 20 = .ok (.bipush (-14), 2) := by decide +kernel
theorem dX10_sheet_22 : decode cX10_sheet 22 = .ok (.ireturn, 1) := by decide +kernel
theorem dX10_sheet_23 : decode cX10_sheet 23 = .ok (.aload_n 0, 1) := by decide +kernel
theorem dX10_sheet_24 : decode cX10_sheet 24 = .ok (.getfield 41, 3) := by decide +kernel
theorem dX10_sheet_27 : decode cX10_sheet 27 = .ok (.iload_n 1, 1) := by decide +kernel
theorem dX10_sheet_28 : decode cX10_sheet 28 = .ok (.iload_n 2, 1) := by decide +kernel
theorem dX10_sheet_29 : decode cX10_sheet 29 = .ok (.iastore, 1) := by decide +kernel
theorem dX10_sheet_30 : decode cX10_sheet 30 = .ok (.aload_n 0, 1) := by decide +kernel
theorem dX10_sheet_31 : decode cX10_sheet 31 = .ok (.getfield 44, 3) := by decide +kernel
theorem dX10_sheet_34 : decode cX10_sheet 34 = .ok (.iload_n 1, 1) := by decide +kernel
theorem dX10_sheet_35 : decode cX10_sheet 35 = .ok (.iload_n 3, 1) := by decide +kernel
theorem dX10_sheet_36 : decode cX10_sheet 36 = .ok (.iastore, 1) := by decide +kernel
theorem dX10_sheet_37 : decode cX10_sheet 37 = .ok (.iconst 0, 1) := by decide +kernel
theorem dX10_sheet_38 : decode cX10_sheet 38 = .ok (.istore 4, 2) := by decide +kernel
theorem dX10_sheet_40 : decode cX10_sheet 40 = .ok (.iload 4, 2) := by decide +kernel
theorem dX10_sheet_42 : decode cX10_sheet 42 = .ok (.bipush 40, 2) := by decide +kernel
theorem dX10_sheet_44 : decode cX10_sheet 44 = .ok (.if_icmp .ge 22, 3) := by decide +kernel
theorem dX10_sheet_47 : decode cX10_sheet 47 = .ok (.aload_n 0, 1) := by decide +kernel
theorem dX10_sheet_48 : decode cX10_sheet 48 = .ok (.getfield 47, 3) := by decide +kernel
theorem dX10_sheet_51 : decode cX10_sheet 51 = .ok (.bipush 40, 2) := by decide +kernel
theorem dX10_sheet_53 : decode cX10_sheet 53 = .ok (.iload_n 1, 1) := by decide +kernel
theorem dX10_sheet_54 : decode cX10_sheet 54 = .ok (.imul, 1) := by decide +kernel
theorem dX10_sheet_55 : decode cX10_sheet 55 = .ok (.iload 4, 2) := by decide +kernel
theorem dX10_sheet_57 : decode cX10_sheet 57 = .ok (.iadd, 1) := by decide +kernel
theorem dX10_sheet_58 : decode cX10_sheet 58 = .ok (.iconst 0, 1) := by decide +kernel
theorem dX10_sheet_59 : decode cX10_sheet 59 = .ok (.iastore, 1) := by decide +kernel
theorem dX10_sheet_60 : decode cX10_sheet 60 = .ok (.iinc 4 1, 3) := by decide +kernel
theorem dX10_sheet_63 : decode cX10_sheet 63 = .ok (.goto (-23), 3) := by decide +kernel
theorem dX10_sheet_66 : decode cX10_sheet 66 = .ok (.iconst 1, 1) := by decide +kernel
theorem dX10_sheet_67 : decode cX10_sheet 67 = .ok (.ireturn, 1) := by decide +kernel
set_option maxRecDepth 20000 in
theorem ggX10_lay_X10_isSheet : GoodIn wsX10_lay wsX10_isSheet := goodIn_r _ [7, 8, 9, 10, 11, 6, 12] (by decide +kernel) (by decide +kernel)
set_option maxRecDepth 20000 in
theorem gX10_lay_X10_isSheet : GoodIn wsX10_lay (va_wsS RX10 286 yX10_isSheet wsX10_isSheet) := goodIn_app (goodIn_of _ (by decide +kernel)) ggX10_lay_X10_isSheet
set_option maxRecDepth 20000 in
theorem ggX10_lay_X10_in : GoodIn wsX10_lay wsX10_in := goodIn_r _ [12] (by decide +kernel) (by decide +kernel)
set_option maxRecDepth 20000 in
theorem gX10_lay_X10_in : GoodIn wsX10_lay (va_wsS RX10 78 yX10_in wsX10_in) := goodIn_app (goodIn_of _ (by decide +kernel)) ggX10_lay_X10_in
theorem dX10_lay_0 : decode cX10_lay 0 = .ok (.iload_n 1, 1) := by decide +kernel
theorem dX10_lay_1 : decode cX10_lay 1 = .ok (.iconst 0, 1) := by decide +kernel
theorem dX10_lay_2 : decode cX10_lay 2 = .ok (.invokestatic 286, 3) := by decide +kernel
theorem dX10_lay_5 : decode cX10_lay 5 = .ok (.ifCond .ne 5, 3) := by decide +kernel
theorem dX10_lay_8 : decode cX10_lay 8 = .ok (.iconst (-1), 1) := by decide +kernel
theorem dX10_lay_9 : decode cX10_lay 9 = .ok (.ireturn, 1) := by decide +kernel
theorem dX10_lay_10 : decode cX10_lay 10 = .ok (.aload_n 0, 1) := by decide +kernel
theorem dX10_lay_11 : decode cX10_lay 11 = .ok (.getfield 41, 3) := by decide +kernel
theorem dX10_lay_14 : decode cX10_lay 14 = .ok (.iload_n 1, 1) := by decide +kernel
theorem dX10_lay_15 : decode cX10_lay 15 = .ok (.iaload, 1) := by decide +kernel
theorem dX10_lay_16 : decode cX10_lay 16 = .ok (.bipush (-4), 2) := by decide +kernel
theorem dX10_lay_18 : decode cX10_lay 18 = .ok (.if_icmp .ne 6, 3) := by decide +kernel
theorem dX10_lay_21 : decode cX10_lay 21 = .ok (.bipush (-11), 2) := by decide +kernel
theorem dX10_lay_23 : decode cX10_lay 23 = .ok (.ireturn, 1) := by decide +kernel
theorem dX10_lay_24 : decode cX10_lay 24 = .ok (.iload_n 2, 1) := by decide +kernel
theorem dX10_lay_25 : decode cX10_lay 25 = .ok (.i2l, 1) := by decide +kernel
