set_option maxRecDepth 20000 in
theorem gX8_takesBoxLine_X5_isFull : GoodIn wsX8_takesBoxLine (wsV RX8 126 RX5 yX5_isFull wsX5_isFull) := goodIn_app (goodIn_of _ (by decide +kernel)) ggX8_takesBoxLine_X5_isFull
set_option maxRecDepth 20000 in
theorem ggX8_takesBoxLine_X8_failed : GoodIn wsX8_takesBoxLine wsX8_failed := goodIn_r _ [14, 15, 16, 79, 80, 81, 82, 83, 84, 85, 86, 87, 88, 89, 90, 91] (by decide +kernel) (by decide +kernel)
set_option maxRecDepth 20000 in
theorem gX8_takesBoxLine_X8_failed : GoodIn wsX8_takesBoxLine (wsV RX8 73 RX8 yX8_failed wsX8_failed) := goodIn_app (goodIn_of _ (by decide +kernel)) ggX8_takesBoxLine_X8_failed
set_option maxRecDepth 20000 in
theorem ggX8_takesBoxLine_X5_addPlain : GoodIn wsX8_takesBoxLine wsX5_addPlain := goodIn_r _ [20, 9, 21, 22, 5, 6, 7, 8, 23, 24, 25, 26, 27, 92, 93, 94, 95] (by decide +kernel) (by decide +kernel)
set_option maxRecDepth 20000 in
theorem gX8_takesBoxLine_X5_addPlain : GoodIn wsX8_takesBoxLine (wsV RX8 129 RX5 yX5_addPlain wsX5_addPlain) := goodIn_app (goodIn_of _ (by decide +kernel)) ggX8_takesBoxLine_X5_addPlain
set_option maxRecDepth 20000 in
theorem ggX8_takesBoxLine_X8_takesToken : GoodIn wsX8_takesBoxLine wsX8_takesToken := goodIn_r _ [31, 32, 33, 2, 34, 35, 36, 37, 38, 39, 40, 41, 42, 43, 44, 45, 46, 47, 13, 48, 49, 50, 51, 52, 53, 54, 55, 56, 57, 58, 59, 3, 10, 11, 12, 14, 15, 16, 79, 80, 81, 82, 83, 84, 85, 86, 87, 88, 89, 90, 91, 96, 97] (by decide +kernel) (by decide +kernel)
set_option maxRecDepth 20000 in
theorem gX8_takesBoxLine_X8_takesToken : GoodIn wsX8_takesBoxLine (wsV RX8 63 RX8 yX8_takesToken wsX8_takesToken) := goodIn_app (goodIn_of _ (by decide +kernel)) ggX8_takesBoxLine_X8_takesToken
set_option maxRecDepth 20000 in
theorem ggX8_takesBoxLine_X5_least : GoodIn wsX8_takesBoxLine wsX5_least := goodIn_r _ [62, 63, 64, 65, 7, 66, 67, 68, 69] (by decide +kernel) (by decide +kernel)
set_option maxRecDepth 20000 in
theorem gX8_takesBoxLine_X5_least : GoodIn wsX8_takesBoxLine (va_wsS RX8 133 yX5_least wsX5_least) := goodIn_app (goodIn_of _ (by decide +kernel)) ggX8_takesBoxLine_X5_least
set_option maxRecDepth 20000 in
theorem ggX8_takesBoxLine_X5_most : GoodIn wsX8_takesBoxLine wsX5_most := goodIn_r _ [72, 73, 64, 65, 7, 66, 67, 68, 69] (by decide +kernel) (by decide +kernel)
set_option maxRecDepth 20000 in
theorem gX8_takesBoxLine_X5_most : GoodIn wsX8_takesBoxLine (va_wsS RX8 136 yX5_most wsX5_most) := goodIn_app (goodIn_of _ (by decide +kernel)) ggX8_takesBoxLine_X5_most
set_option maxRecDepth 20000 in
theorem ggX8_takesBoxLine_X8_isNumberWithin : GoodIn wsX8_takesBoxLine wsX8_isNumberWithin := goodIn_r _ [77, 34, 2, 3, 10, 11, 12, 13, 14, 15, 16, 67, 68, 69, 79, 80, 81, 82, 83, 84, 85, 86, 87, 88, 89, 90, 91] (by decide +kernel) (by decide +kernel)
set_option maxRecDepth 20000 in
theorem gX8_takesBoxLine_X8_isNumberWithin : GoodIn wsX8_takesBoxLine (wsV RX8 139 RX8 yX8_isNumberWithin wsX8_isNumberWithin) := goodIn_app (goodIn_of _ (by decide +kernel)) ggX8_takesBoxLine_X8_isNumberWithin
set_option maxRecDepth 20000 in
theorem ggX8_takesBoxLine_X5_setFact : GoodIn wsX8_takesBoxLine wsX5_setFact := goodIn_r _ [26, 9, 27, 92, 93, 94, 95] (by decide +kernel) (by decide +kernel)
set_option maxRecDepth 20000 in
theorem gX8_takesBoxLine_X5_setFact : GoodIn wsX8_takesBoxLine (wsV RX8 142 RX5 yX5_setFact wsX5_setFact) := goodIn_app (goodIn_of _ (by decide +kernel)) ggX8_takesBoxLine_X5_setFact
theorem dX8_takesBoxLine_0 : decode cX8_takesBoxLine 0 = .ok (.aload_n 0, 1) := by decide +kernel
theorem dX8_takesBoxLine_1 : decode cX8_takesBoxLine 1 = .ok (.getfield 12, 3) := by decide +kernel
theorem dX8_takesBoxLine_4 : decode cX8_takesBoxLine 4 = .ok (.invokevirtual 126, 3) := by decide +kernel
theorem dX8_takesBoxLine_7 : decode cX8_takesBoxLine 7 = .ok (.ifCond .eq 13, 3) := by decide +kernel
theorem dX8_takesBoxLine_10 : decode cX8_takesBoxLine 10 = .ok (.aload_n 0, 1) := by decide +kernel
theorem dX8_takesBoxLine_11 : decode cX8_takesBoxLine 11 = .ok (.iconst 5, 1) := by decide +kernel
theorem dX8_takesBoxLine_12 : decode cX8_takesBoxLine 12 = .ok (.aload_n 0, 1) := by decide +kernel
theorem dX8_takesBoxLine_13 : decode cX8_takesBoxLine 13 = .ok (.getfield 48, 3) := by decide +kernel
theorem dX8_takesBoxLine_16 : decode cX8_takesBoxLine 16 = .ok (.invokevirtual 73, 3) := by decide +kernel
theorem dX8_takesBoxLine_19 : decode cX8_takesBoxLine 19 = .ok (.ireturn, 1) := by decide +kernel
theorem dX8_takesBoxLine_20 : decode cX8_takesBoxLine 20 = .ok (.aload_n 0, 1) := by decide +kernel
theorem dX8_takesBoxLine_21 : decode cX8_takesBoxLine 21 = .ok (.getfield 12, 3) := by decide +kernel
theorem dX8_takesBoxLine_24 : decode cX8_takesBoxLine 24 = .ok (.iload_n 1, 1) := by decide +kernel
theorem dX8_takesBoxLine_25 : decode cX8_takesBoxLine 25 = .ok (.iconst 1, 1) := by decide +kernel
theorem dX8_takesBoxLine_26 : decode cX8_takesBoxLine 26 = .ok (.iconst 0, 1) := by decide +kernel
theorem dX8_takesBoxLine_27 : decode cX8_takesBoxLine 27 = .ok (.invokevirtual 129, 3) := by decide +kernel
theorem dX8_takesBoxLine_30 : decode cX8_takesBoxLine 30 = .ok (.istore_n 2, 1) := by decide +kernel
theorem dX8_takesBoxLine_31 : decode cX8_takesBoxLine 31 = .ok (.iconst 1, 1) := by decide +kernel
theorem dX8_takesBoxLine_32 : decode cX8_takesBoxLine 32 = .ok (.istore_n 3, 1) := by decide +kernel
theorem dX8_takesBoxLine_33 : decode cX8_takesBoxLine 33 = .ok (.iload_n 3, 1) := by decide +kernel
theorem dX8_takesBoxLine_34 : decode cX8_takesBoxLine 34 = .ok (.iconst 5, 1) := by decide +kernel
theorem dX8_takesBoxLine_35 : decode cX8_takesBoxLine 35 = .ok (.if_icmp .gt 46, 3) := by decide +kernel
theorem dX8_takesBoxLine_38 : decode cX8_takesBoxLine 38 = .ok (.aload_n 0, 1) := by decide +kernel
theorem dX8_takesBoxLine_39 : decode cX8_takesBoxLine 39 = .ok (.invokevirtual 63, 3) := by decide +kernel
theorem dX8_takesBoxLine_42 : decode cX8_takesBoxLine 42 = .ok (.ifCond .eq 18, 3) := by decide +kernel
theorem dX8_takesBoxLine_45 : decode cX8_takesBoxLine 45 = .ok (.aload_n 0, 1) := by decide +kernel
theorem dX8_takesBoxLine_46 : decode cX8_takesBoxLine 46 = .ok (.iload_n 3, 1) := by decide +kernel
theorem dX8_takesBoxLine_47 : decode cX8_takesBoxLine 47 = .ok (.invokestatic 133, 3) := by decide +kernel
theorem dX8_takesBoxLine_50 : decode cX8_takesBoxLine 50 = .ok (.iload_n 3, 1) := by decide +kernel
theorem dX8_takesBoxLine_51 : decode cX8_takesBoxLine 51 = .ok (.invokestatic 136, 3) := by decide +kernel
theorem dX8_takesBoxLine_54 : decode cX8_takesBoxLine 54 = .ok (.invokevirtual 139, 3) := by decide +kernel
theorem dX8_takesBoxLine_57 : decode cX8_takesBoxLine 57 = .ok (.ifCond .ne 5, 3) := by decide +kernel
theorem dX8_takesBoxLine_60 : decode cX8_takesBoxLine 60 = .ok (.iconst 0, 1) := by decide +kernel
theorem dX8_takesBoxLine_61 : decode cX8_takesBoxLine 61 = .ok (.ireturn, 1) := by decide +kernel
theorem dX8_takesBoxLine_62 : decode cX8_takesBoxLine 62 = .ok (.aload_n 0, 1) := by decide +kernel
theorem dX8_takesBoxLine_63 : decode cX8_takesBoxLine 63 = .ok (.getfield 12, 3) := by decide +kernel
theorem dX8_takesBoxLine_66 : decode cX8_takesBoxLine 66 = .ok (.iload_n 2, 1) := by decide +kernel
theorem dX8_takesBoxLine_67 : decode cX8_takesBoxLine 67 = .ok (.iload_n 3, 1) := by decide +kernel
theorem dX8_takesBoxLine_68 : decode cX8_takesBoxLine 68 = .ok (.aload_n 0, 1) := by decide +kernel
theorem dX8_takesBoxLine_69 : decode cX8_takesBoxLine 69 = .ok (.getfield 51, 3) := by decide +kernel
theorem dX8_takesBoxLine_72 : decode cX8_takesBoxLine 72 = .ok (.invokevirtual 142, 3) := by decide +kernel
theorem dX8_takesBoxLine_75 : decode cX8_takesBoxLine 75 = .ok (.iinc 3 1, 3) := by decide +kernel
theorem dX8_takesBoxLine_78 : decode cX8_takesBoxLine 78 = .ok (.goto (-45), 3) := by decide +kernel
theorem dX8_takesBoxLine_81 : decode cX8_takesBoxLine 81 = .ok (.iconst 1, 1) := by decide +kernel
theorem dX8_takesBoxLine_82 : decode cX8_takesBoxLine 82 = .ok (.ireturn, 1) := by decide +kernel
set_option maxRecDepth 20000 in
theorem ggX8_takesStartLine_X8_failed : GoodIn wsX8_takesStartLine wsX8_failed := goodIn_r _ [9, 10, 11, 57, 58, 59, 60, 61, 62, 63, 64, 65, 66, 67, 68, 69] (by decide +kernel) (by decide +kernel)
set_option maxRecDepth 20000 in
theorem gX8_takesStartLine_X8_failed : GoodIn wsX8_takesStartLine (wsV RX8 73 RX8 yX8_failed wsX8_failed) := goodIn_app (goodIn_of _ (by decide +kernel)) ggX8_takesStartLine_X8_failed
set_option maxRecDepth 20000 in
theorem ggX8_takesStartLine_X8_takesToken : GoodIn wsX8_takesStartLine wsX8_takesToken := goodIn_r _ [15, 16, 17, 2, 18, 19, 20, 21, 22, 23, 24, 25, 26, 27, 28, 29, 30, 31, 8, 32, 33, 34, 35, 36, 37, 38, 39, 40, 41, 42, 43, 4, 5, 6, 7, 9, 10, 11, 57, 58, 59, 60, 61, 62, 63, 64, 65, 66, 67, 68, 69, 70, 71] (by decide +kernel) (by decide +kernel)
set_option maxRecDepth 20000 in
theorem gX8_takesStartLine_X8_takesToken : GoodIn wsX8_takesStartLine (wsV RX8 63 RX8 yX8_takesToken wsX8_takesToken) := goodIn_app (goodIn_of _ (by decide +kernel)) ggX8_takesStartLine_X8_takesToken
set_option maxRecDepth 20000 in
theorem ggX8_takesStartLine_X8_isNumberWithin : GoodIn wsX8_takesStartLine wsX8_isNumberWithin := goodIn_r _ [47, 18, 2, 4, 5, 6, 7, 8, 9, 10, 11, 48, 49, 50, 57, 58, 59, 60, 61, 62, 63, 64, 65, 66, 67, 68, 69] (by decide +kernel) (by decide +kernel)
set_option maxRecDepth 20000 in
theorem gX8_takesStartLine_X8_isNumberWithin : GoodIn wsX8_takesStartLine (wsV RX8 139 RX8 yX8_isNumberWithin wsX8_isNumberWithin) := goodIn_app (goodIn_of _ (by decide +kernel)) ggX8_takesStartLine_X8_isNumberWithin
set_option maxRecDepth 20000 in
theorem ggX8_takesStartLine_X5_setStart : GoodIn wsX8_takesStartLine wsX5_setStart := goodIn_r _ [55, 56, 72, 73, 74, 75] (by decide +kernel) (by decide +kernel)
set_option maxRecDepth 20000 in
theorem gX8_takesStartLine_X5_setStart : GoodIn wsX8_takesStartLine (wsV RX8 146 RX5 yX5_setStart wsX5_setStart) := goodIn_app (goodIn_of _ (by decide +kernel)) ggX8_takesStartLine_X5_setStart
theorem dX8_takesStartLine_0 : decode cX8_takesStartLine 0 = .ok (.aload_n 0, 1) := by decide +kernel
theorem dX8_takesStartLine_1 : decode cX8_takesStartLine 1 = .ok (.getfield 30, 3) := by decide +kernel
theorem dX8_takesStartLine_4 : decode cX8_takesStartLine 4 = .ok (.ifCond .eq 13, 3) := by decide +kernel
theorem dX8_takesStartLine_7 : decode cX8_takesStartLine 7 = .ok (.aload_n 0, 1) := by decide +kernel
theorem dX8_takesStartLine_8 : decode cX8_takesStartLine 8 = .ok (.iconst 4, 1) := by decide +kernel
theorem dX8_takesStartLine_9 : decode cX8_takesStartLine 9 = .ok (.aload_n 0, 1) := by decide +kernel
theorem dX8_takesStartLine_10 : decode cX8_takesStartLine 10 = .ok (.getfield 48, 3) := by decide +kernel
theorem dX8_takesStartLine_13 : decode cX8_takesStartLine 13 = .ok (.invokevirtual 73, 3) := by decide +kernel
theorem dX8_takesStartLine_16 : decode cX8_takesStartLine 16 = .ok (.ireturn, 1) := by decide +kernel
theorem dX8_takesStartLine_17 : decode cX8_takesStartLine 17 = .ok (.aload_n 0, 1) := by decide +kernel
theorem dX8_takesStartLine_18 : decode cX8_takesStartLine 18 = .ok (.iconst 1, 1) := by decide +kernel
theorem dX8_takesStartLine_19 : decode cX8_takesStartLine 19 = .ok (.putfield 30, 3) := by decide +kernel
theorem dX8_takesStartLine_22 : decode cX8_takesStartLine 22 = .ok (.aload_n 0, 1) := by decide +kernel
theorem dX8_takesStartLine_23 : decode cX8_takesStartLine 23 = .ok (.invokevirtual 63, 3) := by decide +kernel
theorem dX8_takesStartLine_26 : decode cX8_takesStartLine 26 = .ok (.ifCond .eq 13, 3) := by decide +kernel
theorem dX8_takesStartLine_29 : decode cX8_takesStartLine 29 = .ok (.aload_n 0, 1) := by decide +kernel
theorem dX8_takesStartLine_30 : decode cX8_takesStartLine 30 = .ok (.iconst 0, 1) := by decide +kernel
theorem dX8_takesStartLine_31 : decode cX8_takesStartLine 31 = .ok (.bipush 23, 2) := by decide +kernel
theorem dX8_takesStartLine_33 : decode cX8_takesStartLine 33 = .ok (.invokevirtual 139, 3) := by decide +kernel
theorem dX8_takesStartLine_36 : decode cX8_takesStartLine 36 = .ok (.ifCond .ne 5, 3) := by decide +kernel
theorem dX8_takesStartLine_39 : decode cX8_takesStartLine 39 = .ok (.iconst 0, 1) := by decide +kernel
theorem dX8_takesStartLine_40 : decode cX8_takesStartLine 40 = .ok (.ireturn, 1) := by decide +kernel
theorem dX8_takesStartLine_41 : decode cX8_takesStartLine 41 = .ok (.aload_n 0, 1) := by decide +kernel
theorem dX8_takesStartLine_42 : decode cX8_takesStartLine 42 = .ok (.getfield 12, 3) := by decide +kernel
theorem dX8_takesStartLine_45 : decode cX8_takesStartLine 45 = .ok (.aload_n 0, 1) := by decide +kernel
theorem dX8_takesStartLine_46 : decode cX8_takesStartLine 46 = .ok (.getfield 51, 3) := by decide +kernel
theorem dX8_takesStartLine_49 : decode cX8_takesStartLine 49 = .ok (.invokevirtual 146, 3) := by decide +kernel
theorem dX8_takesStartLine_52 : decode cX8_takesStartLine 52 = .ok (.iconst 1, 1) := by decide +kernel
theorem dX8_takesStartLine_53 : decode cX8_takesStartLine 53 = .ok (.ireturn, 1) := by decide +kernel
set_option maxRecDepth 20000 in
theorem ggX8_takesOrderLine_X8_failed : GoodIn wsX8_takesOrderLine wsX8_failed := goodIn_r _ [11, 12, 13, 56, 57, 58, 59, 60, 61, 62, 63, 64, 65, 66, 67, 68] (by decide +kernel) (by decide +kernel)
set_option maxRecDepth 20000 in
theorem gX8_takesOrderLine_X8_failed : GoodIn wsX8_takesOrderLine (wsV RX8 73 RX8 yX8_failed wsX8_failed) := goodIn_app (goodIn_of _ (by decide +kernel)) ggX8_takesOrderLine_X8_failed
set_option maxRecDepth 20000 in
theorem ggX8_takesOrderLine_X8_takesToken : GoodIn wsX8_takesOrderLine wsX8_takesToken := goodIn_r _ [17, 18, 19, 2, 3, 20, 21, 22, 23, 24, 25, 26, 27, 28, 29, 30, 31, 32, 10, 33, 34, 35, 36, 37, 38, 39, 40, 41, 42, 43, 44, 4, 7, 8, 9, 11, 12, 13, 56, 57, 58, 59, 60, 61, 62, 63, 64, 65, 66, 67, 68, 69, 70] (by decide +kernel) (by decide +kernel)
set_option maxRecDepth 20000 in
theorem gX8_takesOrderLine_X8_takesToken : GoodIn wsX8_takesOrderLine (wsV RX8 63 RX8 yX8_takesToken wsX8_takesToken) := goodIn_app (goodIn_of _ (by decide +kernel)) ggX8_takesOrderLine_X8_takesToken
set_option maxRecDepth 20000 in
theorem ggX8_takesOrderLine_X8_isNumberWithin : GoodIn wsX8_takesOrderLine wsX8_isNumberWithin := goodIn_r _ [48, 3, 2, 4, 7, 8, 9, 10, 11, 12, 13, 49, 50, 51, 56, 57, 58, 59, 60, 61, 62, 63, 64, 65, 66, 67, 68] (by decide +kernel) (by decide +kernel)
set_option maxRecDepth 20000 in
theorem gX8_takesOrderLine_X8_isNumberWithin : GoodIn wsX8_takesOrderLine (wsV RX8 139 RX8 yX8_isNumberWithin wsX8_isNumberWithin) := goodIn_app (goodIn_of _ (by decide +kernel)) ggX8_takesOrderLine_X8_isNumberWithin
set_option maxRecDepth 20000 in
theorem ggX8_takesOrderLine_X8_isAhead : GoodIn wsX8_takesOrderLine wsX8_isAhead := goodIn_r _ [55, 5, 6, 56, 57, 58, 59, 60, 61, 62, 63, 64, 65, 66, 67, 68] (by decide +kernel) (by decide +kernel)
set_option maxRecDepth 20000 in
theorem gX8_takesOrderLine_X8_isAhead : GoodIn wsX8_takesOrderLine (wsV RX8 150 RX8 yX8_isAhead wsX8_isAhead) := goodIn_app (goodIn_of _ (by decide +kernel)) ggX8_takesOrderLine_X8_isAhead
theorem dX8_takesOrderLine_0 : decode cX8_takesOrderLine 0 = .ok (.aload_n 0, 1) := by decide +kernel
theorem dX8_takesOrderLine_1 : decode cX8_takesOrderLine 1 = .ok (.getfield 26, 3) := by decide +kernel
theorem dX8_takesOrderLine_4 : decode cX8_takesOrderLine 4 = .ok (.ifCond .eq 13, 3) := by decide +kernel
theorem dX8_takesOrderLine_7 : decode cX8_takesOrderLine 7 = .ok (.aload_n 0, 1) := by decide +kernel
theorem dX8_takesOrderLine_8 : decode cX8_takesOrderLine 8 = .ok (.iconst 4, 1) := by decide +kernel
theorem dX8_takesOrderLine_9 : decode cX8_takesOrderLine 9 = .ok (.aload_n 0, 1) := by decide +kernel
theorem dX8_takesOrderLine_10 : decode cX8_takesOrderLine 10 = .ok (.getfield 48, 3) := by decide +kernel
theorem dX8_takesOrderLine_13 : decode cX8_takesOrderLine 13 = .ok (.invokevirtual 73, 3) := by decide +kernel
theorem dX8_takesOrderLine_16 : decode cX8_takesOrderLine 16 = .ok (.ireturn, 1) := by decide +kernel
theorem dX8_takesOrderLine_17 : decode cX8_takesOrderLine 17 = .ok (.aload_n 0, 1) := by decide +kernel
theorem dX8_takesOrderLine_18 : decode cX8_takesOrderLine 18 = .ok (.iconst 1, 1) := by decide +kernel
theorem dX8_takesOrderLine_19 : decode cX8_takesOrderLine 19 = .ok (.putfield 26, 3) := by decide +kernel
theorem dX8_takesOrderLine_22 : decode cX8_takesOrderLine 22 = .ok (.iconst 0, 1) := by decide +kernel
theorem dX8_takesOrderLine_23 : decode cX8_takesOrderLine 23 = .ok (.istore_n 1, 1) := by decide +kernel
theorem dX8_takesOrderLine_24 : decode cX8_takesOrderLine 24 = .ok (.iload_n 1, 1) := by decide +kernel
theorem dX8_takesOrderLine_25 : decode cX8_takesOrderLine 25 = .ok (.iconst 5, 1) := by decide +kernel
theorem dX8_takesOrderLine_26 : decode cX8_takesOrderLine 26 = .ok (.if_icmp .gt 95, 3) := by decide +kernel
theorem dX8_takesOrderLine_29 : decode cX8_takesOrderLine 29 = .ok (.aload_n 0, 1) := by decide +kernel
theorem dX8_takesOrderLine_30 : decode cX8_takesOrderLine 30 = .ok (.invokevirtual 63, 3) := by decide +kernel
theorem dX8_takesOrderLine_33 : decode cX8_takesOrderLine 33 = .ok (.ifCond .ne 5, 3) := by decide +kernel
theorem dX8_takesOrderLine_36 : decode cX8_takesOrderLine 36 = .ok (.iconst 0, 1) := by decide +kernel
theorem dX8_takesOrderLine_37 : decode cX8_takesOrderLine 37 = .ok (.ireturn, 1) := by decide +kernel
theorem dX8_takesOrderLine_38 : decode cX8_takesOrderLine 38 = .ok (.aload_n 0, 1) := by decide +kernel
theorem dX8_takesOrderLine_39 : decode cX8_takesOrderLine 39 = .ok (.getfield 45, 3) := by decide +kernel
theorem dX8_takesOrderLine_42 : decode cX8_takesOrderLine 42 = .ok (.iconst 3, 1) := by decide +kernel
theorem dX8_takesOrderLine_43 : decode cX8_takesOrderLine 43 = .ok (.if_icmp .ne 5, 3) := by decide +kernel
theorem dX8_takesOrderLine_46 : decode cX8_takesOrderLine 46 = .ok (.iconst 1, 1) := by decide +kernel
theorem dX8_takesOrderLine_47 : decode cX8_takesOrderLine 47 = .ok (.ireturn, 1) := by decide +kernel
theorem dX8_takesOrderLine_48 : decode cX8_takesOrderLine 48 = .ok (.aload_n 0, 1) := by decide +kernel
theorem dX8_takesOrderLine_49 : decode cX8_takesOrderLine 49 = .ok (.iconst 0, 1) := by decide +kernel
theorem dX8_takesOrderLine_50 : decode cX8_takesOrderLine 50 = .ok (.iconst 4, 1) := by decide +kernel
theorem dX8_takesOrderLine_51 : decode cX8_takesOrderLine 51 = .ok (.invokevirtual 139, 3) := by decide +kernel
theorem dX8_takesOrderLine_54 : decode cX8_takesOrderLine 54 = .ok (.ifCond .ne 5, 3) := by decide +kernel
theorem dX8_takesOrderLine_57 : decode cX8_takesOrderLine 57 = .ok (.iconst 0, 1) := by decide +kernel
theorem dX8_takesOrderLine_58 : decode cX8_takesOrderLine 58 = .ok (.ireturn, 1) := by decide +kernel
theorem dX8_takesOrderLine_59 : decode cX8_takesOrderLine 59 = .ok (.aload_n 0, 1) := by decide +kernel
theorem dX8_takesOrderLine_60 : decode cX8_takesOrderLine 60 = .ok (.aload_n 0, 1) := by decide +kernel
theorem dX8_takesOrderLine_61 : decode cX8_takesOrderLine 61 = .ok (.getfield 51, 3) := by decide +kernel
theorem dX8_takesOrderLine_64 : decode cX8_takesOrderLine 64 = .ok (.invokevirtual 150, 3) := by decide +kernel
theorem dX8_takesOrderLine_67 : decode cX8_takesOrderLine 67 = .ok (.ifCond .ne 15, 3) := by decide +kernel
theorem dX8_takesOrderLine_70 : decode cX8_takesOrderLine 70 = .ok (.aload_n 0, 1) := by decide +kernel
theorem dX8_takesOrderLine_71 : decode cX8_takesOrderLine 71 = .ok (.getfield 22, 3) := by decide +kernel
theorem dX8_takesOrderLine_74 : decode cX8_takesOrderLine 74 = .ok (.aload_n 0, 1) := by decide +kernel
theorem dX8_takesOrderLine_75 : decode cX8_takesOrderLine 75 = .ok (.getfield 18, 3) := by decide +kernel
theorem dX8_takesOrderLine_78 : decode cX8_takesOrderLine 78 = .ok (.arraylength, 1) := by decide +kernel
theorem dX8_takesOrderLine_79 : decode cX8_takesOrderLine 79 = .ok (.if_icmp .lt 13, 3) := by decide +kernel
theorem dX8_takesOrderLine_82 : decode cX8_takesOrderLine 82 = .ok (.aload_n 0, 1) := by decide +kernel
theorem dX8_takesOrderLine_83 : decode cX8_takesOrderLine 83 = .ok (.iconst 4, 1) := by decide +kernel
theorem dX8_takesOrderLine_84 : decode cX8_takesOrderLine 84 = .ok (.aload_n 0, 1) := by decide +kernel
theorem dX8_takesOrderLine_85 : decode cX8_takesOrderLine 85 = .ok (.getfield 48, 3) := by decide +kernel
theorem dX8_takesOrderLine_88 : decode cX8_takesOrderLine 88 = .ok (.invokevirtual 73, 3) := by decide +kernel
theorem dX8_takesOrderLine_91 : decode cX8_takesOrderLine 91 = .ok (.ireturn, 1) := by decide +kernel
theorem dX8_takesOrderLine_92 : decode cX8_takesOrderLine 92 = .ok (.aload_n 0, 1) := by decide +kernel
theorem dX8_takesOrderLine_93 : decode cX8_takesOrderLine 93 = .ok (.getfield 18, 3) := by decide +kernel
theorem dX8_takesOrderLine_96 : decode cX8_takesOrderLine 96 = .ok (.aload_n 0, 1) := by decide +kernel
theorem dX8_takesOrderLine_97 : decode cX8_takesOrderLine 97 = .ok (.getfield 22, 3) := by decide +kernel
theorem dX8_takesOrderLine_100 : decode cX8_takesOrderLine 100 = .ok (.aload_n 0, 1) := by decide +kernel
theorem dX8_takesOrderLine_101 : decode cX8_takesOrderLine 101 = .ok (.getfield 51, 3) := by decide +kernel
theorem dX8_takesOrderLine_104 : decode cX8_takesOrderLine 104 = .ok (.iastore, 1) := by decide +kernel
theorem dX8_takesOrderLine_105 : decode cX8_takesOrderLine 105 = .ok (.aload_n 0, 1) := by decide +kernel
theorem dX8_takesOrderLine_106 : decode cX8_takesOrderLine 106 = .ok (.dup, 1) := by decide +kernel
theorem dX8_takesOrderLine_107 : decode cX8_takesOrderLine 107 = .ok (.getfield 22, 3) := by decide +kernel
theorem dX8_takesOrderLine_110 : decode cX8_takesOrderLine 110 = .ok (.iconst 1, 1) := by decide +kernel
theorem dX8_takesOrderLine_111 : decode cX8_takesOrderLine 111 = .ok (.iadd, 1) := by decide +kernel
theorem dX8_takesOrderLine_112 : decode cX8_takesOrderLine 112 = .ok (.putfield 22, 3) := by decide +kernel
theorem dX8_takesOrderLine_115 : decode cX8_takesOrderLine 115 = .ok (.iinc 1 1, 3) := by decide +kernel
theorem dX8_takesOrderLine_118 : decode cX8_takesOrderLine 118 = .ok (.goto (-94), 3) := by decide +kernel
theorem dX8_takesOrderLine_121 : decode cX8_takesOrderLine 121 = .ok (.aload_n 0, 1) := by decide +kernel
theorem dX8_takesOrderLine_122 : decode cX8_takesOrderLine 122 = .ok (.iconst 2, 1) := by decide +kernel
theorem dX8_takesOrderLine_123 : decode cX8_takesOrderLine 123 = .ok (.aload_n 0, 1) := by decide +kernel
theorem dX8_takesOrderLine_124 : decode cX8_takesOrderLine 124 = .ok (.getfield 48, 3) := by decide +kernel
theorem dX8_takesOrderLine_127 : decode cX8_takesOrderLine 127 = .ok (.invokevirtual 73, 3) := by decide +kernel
theorem dX8_takesOrderLine_130 : decode cX8_takesOrderLine 130 = .ok (.ireturn, 1) := by decide +kernel
theorem dX8_isAhead_0 : decode cX8_isAhead 0 = .ok (.iconst 0, 1) := by decide +kernel
theorem dX8_isAhead_1 : decode cX8_isAhead 1 = .ok (.istore_n 2, 1) := by decide +kernel
theorem dX8_isAhead_2 : decode cX8_isAhead 2 = .ok (.iload_n 2, 1) := by decide +kernel
theorem dX8_isAhead_3 : decode cX8_isAhead 3 = .ok (.aload_n 0, 1) := by decide +kernel
theorem dX8_isAhead_4 : decode cX8_isAhead 4 = .ok (.getfield 22, 3) := by decide +kernel
theorem dX8_isAhead_7 : decode cX8_isAhead 7 = .ok (.if_icmp .ge 21, 3) := by decide +kernel
theorem dX8_isAhead_10 : decode cX8_isAhead 10 = .ok (.aload_n 0, 1) := by decide +kernel
theorem dX8_isAhead_11 : decode cX8_isAhead 11 = .ok (.getfield 18, 3) := by decide +kernel
theorem dX8_isAhead_14 : decode cX8_isAhead 14 = .ok (.iload_n 2, 1) := by decide +kernel
theorem dX8_isAhead_15 : decode cX8_isAhead 15 = .ok (.iaload, 1) := by decide +kernel
theorem dX8_isAhead_16 : decode cX8_isAhead 16 = .ok (.iload_n 1, 1) := by decide +kernel
theorem dX8_isAhead_17 : decode cX8_isAhead 17 = .ok (.if_icmp .ne 5, 3) := by decide +kernel
theorem dX8_isAhead_20 : decode cX8_isAhead 20 = .ok (.iconst 1, 1) := by decide +kernel
theorem dX8_isAhead_21 : decode cX8_isAhead 21 = .ok (.ireturn, 1) := by decide +kernel
theorem dX8_isAhead_22 : decode cX8_isAhead 22 = .ok (.iinc 2 1, 3) := by decide +kernel
theorem dX8_isAhead_25 : decode cX8_isAhead 25 = .ok (.goto (-23), 3) := by decide +kernel
theorem dX8_isAhead_28 : decode cX8_isAhead 28 = .ok (.iconst 0, 1) := by decide +kernel
theorem dX8_isAhead_29 : decode cX8_isAhead 29 = .ok (.ireturn, 1) := by decide +kernel
set_option maxRecDepth 20000 in
theorem ggX8_takesOrder_X5_has : GoodIn wsX8_takesOrder wsX5_has := goodIn_r _ [9, 10, 51, 52, 53, 54] (by decide +kernel) (by decide +kernel)
set_option maxRecDepth 20000 in
theorem gX8_takesOrder_X5_has : GoodIn wsX8_takesOrder (wsV RX8 153 RX5 yX5_has wsX5_has) := goodIn_app (goodIn_of _ (by decide +kernel)) ggX8_takesOrder_X5_has
set_option maxRecDepth 20000 in
theorem ggX8_takesOrder_X7_size : GoodIn wsX8_takesOrder wsX7_size := goodIn_r _ [15, 16, 55, 56] (by decide +kernel) (by decide +kernel)
set_option maxRecDepth 20000 in
theorem gX8_takesOrder_X7_size : GoodIn wsX8_takesOrder (wsV RX8 156 RX7 yX7_size wsX7_size) := goodIn_app (goodIn_of _ (by decide +kernel)) ggX8_takesOrder_X7_size
set_option maxRecDepth 20000 in
theorem ggX8_takesOrder_X8_failed : GoodIn wsX8_takesOrder wsX8_failed := goodIn_r _ [21, 22, 23, 38, 39, 40, 41, 42, 43, 44, 45, 46, 47, 48, 49, 50] (by decide +kernel) (by decide +kernel)
set_option maxRecDepth 20000 in
theorem gX8_takesOrder_X8_failed : GoodIn wsX8_takesOrder (wsV RX8 73 RX8 yX8_failed wsX8_failed) := goodIn_app (goodIn_of _ (by decide +kernel)) ggX8_takesOrder_X8_failed
set_option maxRecDepth 20000 in
theorem ggX8_takesOrder_X5_bringTo : GoodIn wsX8_takesOrder wsX5_bringTo := goodIn_r _ [27, 28, 29, 30, 8, 31, 10, 32, 33, 34, 35, 36, 37, 6, 7, 9, 51, 52, 53, 54] (by decide +kernel) (by decide +kernel)
set_option maxRecDepth 20000 in
theorem gX8_takesOrder_X5_bringTo : GoodIn wsX8_takesOrder (wsV RX8 159 RX5 yX5_bringTo wsX5_bringTo) := goodIn_app (goodIn_of _ (by decide +kernel)) ggX8_takesOrder_X5_bringTo
theorem dX8_takesOrder_0 : decode cX8_takesOrder 0 = .ok (.iconst 0, 1) := by decide +kernel
theorem dX8_takesOrder_1 : decode cX8_takesOrder 1 = .ok (.istore_n 1, 1) := by decide +kernel
theorem dX8_takesOrder_2 : decode cX8_takesOrder 2 = .ok (.iload_n 1, 1) := by decide +kernel
theorem dX8_takesOrder_3 : decode cX8_takesOrder 3 = .ok (.aload_n 0, 1) := by decide +kernel
theorem dX8_takesOrder_4 : decode cX8_takesOrder 4 = .ok (.getfield 22, 3) := by decide +kernel
theorem dX8_takesOrder_7 : decode cX8_takesOrder 7 = .ok (.if_icmp .ge 53, 3) := by decide +kernel
theorem dX8_takesOrder_10 : decode cX8_takesOrder 10 = .ok (.aload_n 0, 1) := by decide +kernel
theorem dX8_takesOrder_11 : decode cX8_takesOrder 11 = .ok (.getfield 12, 3) := by decide +kernel
theorem dX8_takesOrder_14 : decode cX8_takesOrder 14 = .ok (.aload_n 0, 1) := by decide +kernel
theorem dX8_takesOrder_15 : decode cX8_takesOrder 15 = .ok (.getfield 18, 3) := by decide +kernel
theorem dX8_takesOrder_18 : decode cX8_takesOrder 18 = .ok (.iload_n 1, 1) := by decide +kernel
theorem dX8_takesOrder_19 : decode cX8_takesOrder 19 = .ok (.iaload, 1) := by decide +kernel
theorem dX8_takesOrder_20 : decode cX8_takesOrder 20 = .ok (.invokevirtual 153, 3) := by decide +kernel
theorem dX8_takesOrder_23 : decode cX8_takesOrder 23 = .ok (.ifCond .ne 17, 3) := by decide +kernel
theorem dX8_takesOrder_26 : decode cX8_takesOrder 26 = .ok (.aload_n 0, 1) := by decide +kernel
theorem dX8_takesOrder_27 : decode cX8_takesOrder 27 = .ok (.bipush 6, 2) := by decide +kernel
theorem dX8_takesOrder_29 : decode cX8_takesOrder 29 = .ok (.aload_n 0, 1) := by decide +kernel
theorem dX8_takesOrder_30 : decode cX8_takesOrder 30 = .ok (.getfield 54, 3) := by decide +kernel
theorem dX8_takesOrder_33 : decode cX8_takesOrder 33 = .ok (.invokevirtual 156, 3) := by decide +kernel
theorem dX8_takesOrder_36 : decode cX8_takesOrder 36 = .ok (.invokevirtual 73, 3) := by decide +kernel
theorem dX8_takesOrder_39 : decode cX8_takesOrder 39 = .ok (.ireturn, 1) := by decide +kernel
theorem dX8_takesOrder_40 : decode cX8_takesOrder 40 = .ok (.aload_n 0, 1) := by decide +kernel
theorem dX8_takesOrder_41 : decode cX8_takesOrder 41 = .ok (.getfield 12, 3) := by decide +kernel
theorem dX8_takesOrder_44 : decode cX8_takesOrder 44 = .ok (.iload_n 1, 1) := by decide +kernel
theorem dX8_takesOrder_45 : decode cX8_takesOrder 45 = .ok (.aload_n 0, 1) := by decide +kernel
theorem dX8_takesOrder_46 : decode cX8_takesOrder 46 = .ok (.getfield 18, 3) := by decide +kernel
theorem dX8_takesOrder_49 : decode cX8_takesOrder 49 = .ok (.iload_n 1, 1) := by decide +kernel
theorem dX8_takesOrder_50 : decode cX8_takesOrder 50 = .ok (.iaload, 1) := by decide +kernel
theorem dX8_takesOrder_51 : decode cX8_takesOrder 51 = .ok (.invokevirtual 159, 3) := by decide +kernel
theorem dX8_takesOrder_54 : decode cX8_takesOrder 54 = .ok (.iinc 1 1, 3) := by decide +kernel
theorem dX8_takesOrder_57 : decode cX8_takesOrder 57 = .ok (.goto (-55), 3) := by decide +kernel
theorem dX8_takesOrder_60 : decode cX8_takesOrder 60 = .ok (.iconst 1, 1) := by decide +kernel
theorem dX8_takesOrder_61 : decode cX8_takesOrder 61 = .ok (.ireturn, 1) := by decide +kernel
set_option maxRecDepth 20000 in
theorem ggX8_isNumberWithin_X8_failed : GoodIn wsX8_isNumberWithin wsX8_failed := goodIn_r _ [8, 9, 10, 14, 15, 16, 17, 18, 19, 20, 21, 22, 23, 24, 25, 26] (by decide +kernel) (by decide +kernel)
set_option maxRecDepth 20000 in
theorem gX8_isNumberWithin_X8_failed : GoodIn wsX8_isNumberWithin (wsV RX8 73 RX8 yX8_failed wsX8_failed) := goodIn_app (goodIn_of _ (by decide +kernel)) ggX8_isNumberWithin_X8_failed
set_option maxRecDepth 20000 in
theorem ggX8_isNumberWithin_X9_within : GoodIn wsX8_isNumberWithin wsX9_within := goodIn_r _ [13] (by decide +kernel) (by decide +kernel)
set_option maxRecDepth 20000 in
theorem gX8_isNumberWithin_X9_within_n163 : GoodIn wsX8_isNumberWithin (wsX9_within) := ggX8_isNumberWithin_X9_within
theorem dX8_isNumberWithin_0 : decode cX8_isNumberWithin 0 = .ok (.aload_n 0, 1) := by decide +kernel
theorem dX8_isNumberWithin_1 : decode cX8_isNumberWithin 1 = .ok (.getfield 45, 3) := by decide +kernel
theorem dX8_isNumberWithin_4 : decode cX8_isNumberWithin 4 = .ok (.iconst 2, 1) := by decide +kernel
theorem dX8_isNumberWithin_5 : decode cX8_isNumberWithin 5 = .ok (.if_icmp .eq 13, 3) := by decide +kernel
theorem dX8_isNumberWithin_8 : decode cX8_isNumberWithin 8 = .ok (.aload_n 0, 1) := by decide +kernel
theorem dX8_isNumberWithin_9 : decode cX8_isNumberWithin 9 = .ok (.iconst 2, 1) := by decide +kernel
theorem dX8_isNumberWithin_10 : decode cX8_isNumberWithin 10 = .ok (.aload_n 0, 1) := by decide +kernel
theorem dX8_isNumberWithin_11 : decode cX8_isNumberWithin 11 = .ok (.getfield 48, 3) := by decide +kernel
theorem dX8_isNumberWithin_14 : decode cX8_isNumberWithin 14 = .ok (.invokevirtual 73, 3) := by decide +kernel
theorem dX8_isNumberWithin_17 : decode cX8_isNumberWithin 17 = .ok (.ireturn, 1) := by decide +kernel
theorem dX8_isNumberWithin_18 : decode cX8_isNumberWithin 18 = .ok (.aload_n 0, 1) := by decide +kernel
theorem dX8_isNumberWithin_19 : decode cX8_isNumberWithin 19 = .ok (.getfield 51, 3) := by decide +kernel
theorem dX8_isNumberWithin_22 : decode cX8_isNumberWithin 22 = .ok (.iload_n 1, 1) := by decide +kernel
theorem dX8_isNumberWithin_23 : decode cX8_isNumberWithin 23 = .ok (.iload_n 2, 1) := by decide +kernel
theorem dX8_isNumberWithin_24 : decode cX8_isNumberWithin 24 = .ok (.invokestatic 163, 3) := by decide +kernel
theorem dX8_isNumberWithin_27 : decode cX8_isNumberWithin 27 = .ok (.ifCond .ne 15, 3) := by decide +kernel
theorem dX8_isNumberWithin_30 : decode cX8_isNumberWithin 30 = .ok (.aload_n 0, 1) := by decide +kernel
theorem dX8_isNumberWithin_31 : decode cX8_isNumberWithin 31 = .ok (.iconst 3, 1) := by decide +kernel
theorem dX8_isNumberWithin_32 : decode cX8_isNumberWithin 32 = .ok (.aload_n 0, 1) := by decide +kernel
theorem dX8_isNumberWithin_33 : decode cX8_isNumberWithin 33 = .ok (.getfield 48, 3) := by decide +kernel
theorem dX8_isNumberWithin_36 : decode cX8_isNumberWithin 36 = .ok (.invokevirtual 73, 3) := by decide +kernel
theorem dX8_isNumberWithin_39 : decode cX8_isNumberWithin 39 = .ok (.ifCond .eq 7, 3) := by decide +kernel
theorem dX8_isNumberWithin_42 : decode cX8_isNumberWithin 42 = .ok (.iconst 1, 1) := by decide +kernel
theorem dX8_isNumberWithin_43 : decode cX8_isNumberWithin 43 = .ok (.goto 4, 3) := by decide +kernel
theorem dX8_isNumberWithin_46 : decode cX8_isNumberWithin 46 = .ok (.iconst 0, 1) := by decide +kernel
theorem dX8_isNumberWithin_47 : decode cX8_isNumberWithin 47 = .ok (.ireturn, 1) := by decide +kernel
set_option maxRecDepth 20000 in
theorem ggX8_takesStop_X8_takesToken : GoodIn wsX8_takesStop wsX8_takesToken := goodIn_r _ [7, 8, 9, 2, 1, 10, 11, 12, 13, 14, 15, 16, 17, 18, 19, 20, 21, 22, 6, 23, 24, 25, 26, 27, 28, 29, 30, 31, 32, 33, 34, 35, 36, 37, 38, 39, 40, 41, 42, 43, 44, 45, 46, 47, 48, 49, 50, 51, 52, 53, 54, 55, 56] (by decide +kernel) (by decide +kernel)
set_option maxRecDepth 20000 in
theorem gX8_takesStop_X8_takesToken : GoodIn wsX8_takesStop (wsV RX8 63 RX8 yX8_takesToken wsX8_takesToken) := goodIn_app (goodIn_of _ (by decide +kernel)) ggX8_takesStop_X8_takesToken
set_option maxRecDepth 20000 in
theorem ggX8_takesStop_X8_failed : GoodIn wsX8_takesStop wsX8_failed := goodIn_r _ [39, 40, 41, 42, 43, 44, 45, 46, 47, 48, 49, 50, 51, 52, 53, 54] (by decide +kernel) (by decide +kernel)
set_option maxRecDepth 20000 in
theorem gX8_takesStop_X8_failed : GoodIn wsX8_takesStop (wsV RX8 73 RX8 yX8_failed wsX8_failed) := goodIn_app (goodIn_of _ (by decide +kernel)) ggX8_takesStop_X8_failed
theorem dX8_takesStop_0 : decode cX8_takesStop 0 = .ok (.aload_n 0, 1) := by decide +kernel
theorem dX8_takesStop_1 : decode cX8_takesStop 1 = .ok (.invokevirtual 63, 3) := by decide +kernel
theorem dX8_takesStop_4 : decode cX8_takesStop 4 = .ok (.ifCond .eq 27, 3) := by decide +kernel
theorem dX8_takesStop_7 : decode cX8_takesStop 7 = .ok (.aload_n 0, 1) := by decide +kernel
theorem dX8_takesStop_8 : decode cX8_takesStop 8 = .ok (.getfield 45, 3) := by decide +kernel
theorem dX8_takesStop_11 : decode cX8_takesStop 11 = .ok (.iconst 3, 1) := by decide +kernel
theorem dX8_takesStop_12 : decode cX8_takesStop 12 = .ok (.if_icmp .eq 15, 3) := by decide +kernel
theorem dX8_takesStop_15 : decode cX8_takesStop 15 = .ok (.aload_n 0, 1) := by decide +kernel
theorem dX8_takesStop_16 : decode cX8_takesStop 16 = .ok (.iconst 2, 1) := by decide +kernel
theorem dX8_takesStop_17 : decode cX8_takesStop 17 = .ok (.aload_n 0, 1) := by decide +kernel
theorem dX8_takesStop_18 : decode cX8_takesStop 18 = .ok (.getfield 48, 3) := by decide +kernel
theorem dX8_takesStop_21 : decode cX8_takesStop 21 = .ok (.invokevirtual 73, 3) := by decide +kernel
theorem dX8_takesStop_24 : decode cX8_takesStop 24 = .ok (.ifCond .eq 7, 3) := by decide +kernel
theorem dX8_takesStop_27 : decode cX8_takesStop 27 = .ok (.iconst 1, 1) := by decide +kernel
theorem dX8_takesStop_28 : decode cX8_takesStop 28 = .ok (.goto 4, 3) := by decide +kernel
theorem dX8_takesStop_31 : decode cX8_takesStop 31 = .ok (.iconst 0, 1) := by decide +kernel
theorem dX8_takesStop_32 : decode cX8_takesStop 32 = .ok (.ireturn, 1) := by decide +kernel
set_option maxRecDepth 20000 in
theorem ggX8_takesToken_X7_size : GoodIn wsX8_takesToken wsX7_size := goodIn_r _ [9, 10, 51, 52] (by decide +kernel) (by decide +kernel)
set_option maxRecDepth 20000 in
theorem gX8_takesToken_X7_size : GoodIn wsX8_takesToken (wsV RX8 156 RX7 yX7_size wsX7_size) := goodIn_app (goodIn_of _ (by decide +kernel)) ggX8_takesToken_X7_size
set_option maxRecDepth 20000 in
theorem ggX8_takesToken_X7_at : GoodIn wsX8_takesToken wsX7_at := goodIn_r _ [14, 10, 15, 51, 52] (by decide +kernel) (by decide +kernel)
set_option maxRecDepth 20000 in
theorem gX8_takesToken_X7_at : GoodIn wsX8_takesToken (wsV RX8 118 RX7 yX7_at wsX7_at) := goodIn_app (goodIn_of _ (by decide +kernel)) ggX8_takesToken_X7_at
set_option maxRecDepth 20000 in
theorem ggX8_takesToken_X8_isLetter : GoodIn wsX8_takesToken wsX8_isLetter := goodIn_r _ [19] (by decide +kernel) (by decide +kernel)
set_option maxRecDepth 20000 in
theorem gX8_takesToken_X8_isLetter : GoodIn wsX8_takesToken (va_wsS RX8 167 yX8_isLetter wsX8_isLetter) := goodIn_app (goodIn_of _ (by decide +kernel)) ggX8_takesToken_X8_isLetter
set_option maxRecDepth 20000 in
theorem ggX8_takesToken_X8_passName : GoodIn wsX8_takesToken wsX8_passName := goodIn_r _ [23, 1, 2, 5, 6, 7, 8, 9, 10, 11, 12, 13, 14, 15, 16, 17, 18, 19, 38, 39, 40, 41, 42, 43, 44, 45, 46, 47, 48, 49, 50, 51, 52] (by decide +kernel) (by decide +kernel)
set_option maxRecDepth 20000 in
theorem gX8_takesToken_X8_passName : GoodIn wsX8_takesToken (wsV RX8 170 RX8 yX8_passName wsX8_passName) := goodIn_app (goodIn_of _ (by decide +kernel)) ggX8_takesToken_X8_passName
set_option maxRecDepth 20000 in
theorem ggX8_takesToken_X8_isFigure : GoodIn wsX8_takesToken wsX8_isFigure := goodIn_r _ [26] (by decide +kernel) (by decide +kernel)
set_option maxRecDepth 20000 in
theorem gX8_takesToken_X8_isFigure : GoodIn wsX8_takesToken (va_wsS RX8 173 yX8_isFigure wsX8_isFigure) := goodIn_app (goodIn_of _ (by decide +kernel)) ggX8_takesToken_X8_isFigure
set_option maxRecDepth 20000 in
theorem ggX8_takesToken_X8_passNumber : GoodIn wsX8_takesToken wsX8_passNumber := goodIn_r _ [30, 31, 1, 2, 3, 5, 6, 7, 8, 9, 10, 11, 12, 13, 14, 15, 24, 25, 18, 26, 38, 39, 40, 41, 42, 43, 44, 45, 46, 47, 48, 49, 50, 51, 52] (by decide +kernel) (by decide +kernel)
set_option maxRecDepth 20000 in
theorem gX8_takesToken_X8_passNumber : GoodIn wsX8_takesToken (wsV RX8 176 RX8 yX8_passNumber wsX8_passNumber) := goodIn_app (goodIn_of _ (by decide +kernel)) ggX8_takesToken_X8_passNumber
set_option maxRecDepth 20000 in
theorem ggX8_takesToken_X8_failed : GoodIn wsX8_takesToken wsX8_failed := goodIn_r _ [35, 36, 37, 38, 39, 40, 41, 42, 43, 44, 45, 46, 47, 48, 49, 50] (by decide +kernel) (by decide +kernel)
set_option maxRecDepth 20000 in
theorem gX8_takesToken_X8_failed : GoodIn wsX8_takesToken (wsV RX8 73 RX8 yX8_failed wsX8_failed) := goodIn_app (goodIn_of _ (by decide +kernel)) ggX8_takesToken_X8_failed
theorem dX8_takesToken_0 : decode cX8_takesToken 0 = .ok (.aload_n 0, 1) := by decide +kernel
theorem dX8_takesToken_1 : decode cX8_takesToken 1 = .ok (.getfield 42, 3) := by decide +kernel
theorem dX8_takesToken_4 : decode cX8_takesToken 4 = .ok (.aload_n 0, 1) := by decide +kernel
theorem dX8_takesToken_5 : decode cX8_takesToken 5 = .ok (.getfield 54, 3) := by decide +kernel
theorem dX8_takesToken_8 : decode cX8_takesToken 8 = .ok (.invokevirtual 156, 3) := by decide +kernel
theorem dX8_takesToken_11 : decode cX8_takesToken 11 = .ok (.if_icmp .ge 32, 3) := by decide +kernel
theorem dX8_takesToken_14 : decode cX8_takesToken 14 = .ok (.aload_n 0, 1) := by decide +kernel
theorem dX8_takesToken_15 : decode cX8_takesToken 15 = .ok (.getfield 54, 3) := by decide +kernel
theorem dX8_takesToken_18 : decode cX8_takesToken 18 = .ok (.aload_n 0, 1) := by decide +kernel
theorem dX8_takesToken_19 : decode cX8_takesToken 19 = .ok (.getfield 42, 3) := by decide +kernel
theorem dX8_takesToken_22 : decode cX8_takesToken 22 = .ok (.invokevirtual 118, 3) := by decide +kernel
theorem dX8_takesToken_25 : decode cX8_takesToken 25 = .ok (.bipush 32, 2) := by decide +kernel
theorem dX8_takesToken_27 : decode cX8_takesToken 27 = .ok (.if_icmp .ne 16, 3) := by decide +kernel
theorem dX8_takesToken_30 : decode cX8_takesToken 30 = .ok (.aload_n 0, 1) := by decide +kernel
theorem dX8_takesToken_31 : decode cX8_takesToken 31 = .ok (.dup, 1) := by decide +kernel
theorem dX8_takesToken_32 : decode cX8_takesToken 32 = .ok (.getfield 42, 3) := by decide +kernel
theorem dX8_takesToken_35 : decode cX8_takesToken 35 = .ok (.iconst 1, 1) := by decide +kernel
theorem dX8_takesToken_36 : decode cX8_takesToken 36 = .ok (.iadd, 1) := by decide +kernel
theorem dX8_takesToken_37 : decode cX8_takesToken 37 = .ok (.putfield 42, 3) := by decide +kernel
theorem dX8_takesToken_40 : decode cX8_takesToken 40 = .ok (.goto (-40), 3) := by decide +kernel
theorem dX8_takesToken_43 : decode cX8_takesToken 43 = .ok (.aload_n 0, 1) := by decide +kernel
theorem dX8_takesToken_44 : decode cX8_takesToken 44 = .ok (.aload_n 0, 1) := by decide +kernel
theorem dX8_takesToken_45 : decode cX8_takesToken 45 = .ok (.getfield 42, 3) := by decide +kernel
theorem dX8_takesToken_48 : decode cX8_takesToken 48 = .ok (.putfield 48, 3) := by decide +kernel
theorem dX8_takesToken_51 : decode cX8_takesToken 51 = .ok (.aload_n 0, 1) := by decide +kernel
theorem dX8_takesToken_52 : decode cX8_takesToken 52 = .ok (.getfield 42, 3) := by decide +kernel
theorem dX8_takesToken_55 : decode cX8_takesToken 55 = .ok (.aload_n 0, 1) := by decide +kernel
theorem dX8_takesToken_56 : decode cX8_takesToken 56 = .ok (.getfield 54, 3) := by decide +kernel
theorem dX8_takesToken_59 : decode cX8_takesToken 59 = .ok (.invokevirtual 156, 3) := by decide +kernel
theorem dX8_takesToken_62 : decode cX8_takesToken 62 = .ok (.if_icmp .lt 10, 3) := by decide +kernel
theorem dX8_takesToken_65 : decode cX8_takesToken 65 = .ok (.aload_n 0, 1) := by decide +kernel
theorem dX8_takesToken_66 : decode cX8_takesToken 66 = .ok (.iconst 0, 1) := by decide +kernel
theorem dX8_takesToken_67 : decode cX8_takesToken 67 = .ok (.putfield 45, 3) := by decide +kernel
theorem dX8_takesToken_70 : decode cX8_takesToken 70 = .ok (.iconst 1, 1) := by decide +kernel
theorem dX8_takesToken_71 : decode cX8_takesToken 71 = .ok (.ireturn, 1) := by decide +kernel
theorem dX8_takesToken_72 : decode cX8_takesToken 72 = .ok (.aload_n 0, 1) := by decide +kernel
theorem dX8_takesToken_73 : decode cX8_takesToken 73 = .ok (.getfield 54, 3) := by decide +kernel
theorem dX8_takesToken_76 : decode cX8_takesToken 76 = .ok (.aload_n 0, 1) := by decide +kernel
theorem dX8_takesToken_77 : decode cX8_takesToken 77 = .ok (.getfield 42, 3) := by decide +kernel
theorem dX8_takesToken_80 : decode cX8_takesToken 80 = .ok (.invokevirtual 118, 3) := by decide +kernel
theorem dX8_takesToken_83 : decode cX8_takesToken 83 = .ok (.istore_n 1, 1) := by decide +kernel
theorem dX8_takesToken_84 : decode cX8_takesToken 84 = .ok (.iload_n 1, 1) := by decide +kernel
theorem dX8_takesToken_85 : decode cX8_takesToken 85 = .ok (.bipush 59, 2) := by decide +kernel
theorem dX8_takesToken_87 : decode cX8_takesToken 87 = .ok (.if_icmp .ne 20, 3) := by decide +kernel
theorem dX8_takesToken_90 : decode cX8_takesToken 90 = .ok (.aload_n 0, 1) := by decide +kernel
theorem dX8_takesToken_91 : decode cX8_takesToken 91 = .ok (.iconst 3, 1) := by decide +kernel
theorem dX8_takesToken_92 : decode cX8_takesToken 92 = .ok (.putfield 45, 3) := by decide +kernel
theorem dX8_takesToken_95 : decode cX8_takesToken 95 = .ok (.aload_n 0, 1) := by decide +kernel
theorem dX8_takesToken_96 : decode cX8_takesToken 96 = .ok (.dup, 1) := by decide +kernel
theorem dX8_takesToken_97 : decode cX8_takesToken 97 = .ok (.getfield 42, 3) := by decide +kernel
theorem dX8_takesToken_100 : decode cX8_takesToken 100 = .ok (.iconst 1, 1) := by decide +kernel
theorem dX8_takesToken_101 : decode cX8_takesToken 101 = .ok (.iadd, 1) := by decide +kernel
theorem dX8_takesToken_102 : decode cX8_takesToken 102 = .ok (.putfield 42, 3) := by decide +kernel
theorem dX8_takesToken_105 : decode cX8_takesToken 105 = .ok (.iconst 1, 1) := by decide +kernel
theorem dX8_takesToken_106 : decode cX8_takesToken 106 = .ok (.ireturn, 1) := by decide +kernel
theorem dX8_takesToken_107 : decode cX8_takesToken 107 = .ok (.iload_n 1, 1) := by decide +kernel
theorem dX8_takesToken_108 : decode cX8_takesToken 108 = .ok (.invokestatic 167, 3) := by decide +kernel
theorem dX8_takesToken_111 : decode cX8_takesToken 111 = .ok (.ifCond .eq 14, 3) := by decide +kernel
theorem dX8_takesToken_114 : decode cX8_takesToken 114 = .ok (.aload_n 0, 1) := by decide +kernel
theorem dX8_takesToken_115 : decode cX8_takesToken 115 = .ok (.iconst 1, 1) := by decide +kernel
theorem dX8_takesToken_116 : decode cX8_takesToken 116 = .ok (.putfield 45, 3) := by decide +kernel
theorem dX8_takesToken_119 : decode cX8_takesToken 119 = .ok (.aload_n 0, 1) := by decide +kernel
theorem dX8_takesToken_120 : decode cX8_takesToken 120 = .ok (.invokevirtual 170, 3) := by decide +kernel
theorem dX8_takesToken_123 : decode cX8_takesToken 123 = .ok (.iconst 1, 1) := by decide +kernel
theorem dX8_takesToken_124 : decode cX8_takesToken 124 = .ok (.ireturn, 1) := by decide +kernel
theorem dX8_takesToken_125 : decode cX8_takesToken 125 = .ok (.aload_n 0, 1) := by decide +kernel
theorem dX8_takesToken_126 : decode cX8_takesToken 126 = .ok (.iconst 2, 1) := by decide +kernel
theorem dX8_takesToken_127 : decode cX8_takesToken 127 = .ok (.putfield 45, 3) := by decide +kernel
theorem dX8_takesToken_130 : decode cX8_takesToken 130 = .ok (.iload_n 1, 1) := by decide +kernel
theorem dX8_takesToken_131 : decode cX8_takesToken 131 = .ok (.invokestatic 173, 3) := by decide +kernel
theorem dX8_takesToken_134 : decode cX8_takesToken 134 = .ok (.ifCond .eq 10, 3) := by decide +kernel
theorem dX8_takesToken_137 : decode cX8_takesToken 137 = .ok (.aload_n 0, 1) := by decide +kernel
theorem dX8_takesToken_138 : decode cX8_takesToken 138 = .ok (.invokevirtual 176, 3) := by decide +kernel
theorem dX8_takesToken_141 : decode cX8_takesToken 141 = .ok (.ifCond .ne 15, 3) := by decide +kernel
theorem dX8_takesToken_144 : decode cX8_takesToken 144 = .ok (.aload_n 0, 1) := by decide +kernel
theorem dX8_takesToken_145 : decode cX8_takesToken 145 = .ok (.iconst 1, 1) := by decide +kernel
theorem dX8_takesToken_146 : decode cX8_takesToken 146 = .ok (.aload_n 0, 1) := by decide +kernel
theorem dX8_takesToken_147 : decode cX8_takesToken 147 = .ok (.getfield 48, 3) := by decide +kernel
theorem dX8_takesToken_150 : decode cX8_takesToken 150 = .ok (.invokevirtual 73, 3) := by decide +kernel
theorem dX8_takesToken_153 : decode cX8_takesToken 153 = .ok (.ifCond .eq 7, 3) := by decide +kernel
theorem dX8_takesToken_156 : decode cX8_takesToken 156 = .ok (.iconst 1, 1) := by decide +kernel
theorem dX8_takesToken_157 : decode cX8_takesToken 157 = .ok (.goto 4, 3) := by decide +kernel
theorem dX8_takesToken_160 : decode cX8_takesToken 160 = .ok (.iconst 0, 1) := by decide +kernel
theorem dX8_takesToken_161 : decode cX8_takesToken 161 = .ok (.ireturn, 1) := by decide +kernel
set_option maxRecDepth 20000 in
theorem ggX8_passName_X7_size : GoodIn wsX8_passName wsX7_size := goodIn_r _ [7, 8, 31, 32] (by decide +kernel) (by decide +kernel)
set_option maxRecDepth 20000 in
theorem gX8_passName_X7_size : GoodIn wsX8_passName (wsV RX8 156 RX7 yX7_size wsX7_size) := goodIn_app (goodIn_of _ (by decide +kernel)) ggX8_passName_X7_size
set_option maxRecDepth 20000 in
theorem ggX8_passName_X7_at : GoodIn wsX8_passName wsX7_at := goodIn_r _ [12, 8, 13, 31, 32] (by decide +kernel) (by decide +kernel)
set_option maxRecDepth 20000 in
theorem gX8_passName_X7_at : GoodIn wsX8_passName (wsV RX8 118 RX7 yX7_at wsX7_at) := goodIn_app (goodIn_of _ (by decide +kernel)) ggX8_passName_X7_at
set_option maxRecDepth 20000 in
theorem ggX8_passName_X8_isLetter : GoodIn wsX8_passName wsX8_isLetter := goodIn_r _ [17] (by decide +kernel) (by decide +kernel)
set_option maxRecDepth 20000 in
theorem gX8_passName_X8_isLetter : GoodIn wsX8_passName (va_wsS RX8 167 yX8_isLetter wsX8_isLetter) := goodIn_app (goodIn_of _ (by decide +kernel)) ggX8_passName_X8_isLetter
theorem dX8_passName_0 : decode cX8_passName 0 = .ok (.aload_n 0, 1) := by decide +kernel
theorem dX8_passName_1 : decode cX8_passName 1 = .ok (.getfield 42, 3) := by decide +kernel
theorem dX8_passName_4 : decode cX8_passName 4 = .ok (.aload_n 0, 1) := by decide +kernel
theorem dX8_passName_5 : decode cX8_passName 5 = .ok (.getfield 54, 3) := by decide +kernel
theorem dX8_passName_8 : decode cX8_passName 8 = .ok (.invokevirtual 156, 3) := by decide +kernel
theorem dX8_passName_11 : decode cX8_passName 11 = .ok (.if_icmp .ge 33, 3) := by decide +kernel
theorem dX8_passName_14 : decode cX8_passName 14 = .ok (.aload_n 0, 1) := by decide +kernel
theorem dX8_passName_15 : decode cX8_passName 15 = .ok (.getfield 54, 3) := by decide +kernel
theorem dX8_passName_18 : decode cX8_passName 18 = .ok (.aload_n 0, 1) := by decide +kernel
theorem dX8_passName_19 : decode cX8_passName 19 = .ok (.getfield 42, 3) := by decide +kernel
theorem dX8_passName_22 : decode cX8_passName 22 = .ok (.invokevirtual 118, 3) := by decide +kernel
theorem dX8_passName_25 : decode cX8_passName 25 = .ok (.invokestatic 167, 3) := by decide +kernel
theorem dX8_passName_28 : decode cX8_passName 28 = .ok (.ifCond .eq 16, 3) := by decide +kernel
theorem dX8_passName_31 : decode cX8_passName 31 = .ok (.aload_n 0, 1) := by decide +kernel
theorem dX8_passName_32 : decode cX8_passName 32 = .ok (.dup, 1) := by decide +kernel
theorem dX8_passName_33 : decode cX8_passName 33 = .ok (.getfield 42, 3) := by decide +kernel
theorem dX8_passName_36 : decode cX8_passName 36 = .ok (.iconst 1, 1) := by decide +kernel
theorem dX8_passName_37 : decode cX8_passName 37 = .ok (.iadd, 1) := by decide +kernel
theorem dX8_passName_38 : decode cX8_passName 38 = .ok (.putfield 42, 3) := by decide +kernel
theorem dX8_passName_41 : decode cX8_passName 41 = .ok (.goto (-41), 3) := by decide +kernel
theorem dX8_passName_44 : decode cX8_passName 44 = .ok (.return_, 1) := by decide +kernel
set_option maxRecDepth 20000 in
theorem ggX8_passNumber_X7_size : GoodIn wsX8_passNumber wsX7_size := goodIn_r _ [9, 10, 33, 34] (by decide +kernel) (by decide +kernel)
set_option maxRecDepth 20000 in
theorem gX8_passNumber_X7_size : GoodIn wsX8_passNumber (wsV RX8 156 RX7 yX7_size wsX7_size) := goodIn_app (goodIn_of _ (by decide +kernel)) ggX8_passNumber_X7_size
set_option maxRecDepth 20000 in
theorem ggX8_passNumber_X7_at : GoodIn wsX8_passNumber wsX7_at := goodIn_r _ [14, 10, 15, 33, 34] (by decide +kernel) (by decide +kernel)
set_option maxRecDepth 20000 in
theorem gX8_passNumber_X7_at : GoodIn wsX8_passNumber (wsV RX8 118 RX7 yX7_at wsX7_at) := goodIn_app (goodIn_of _ (by decide +kernel)) ggX8_passNumber_X7_at
set_option maxRecDepth 20000 in
theorem ggX8_passNumber_X8_isFigure : GoodIn wsX8_passNumber wsX8_isFigure := goodIn_r _ [19] (by decide +kernel) (by decide +kernel)
set_option maxRecDepth 20000 in
theorem gX8_passNumber_X8_isFigure : GoodIn wsX8_passNumber (va_wsS RX8 173 yX8_isFigure wsX8_isFigure) := goodIn_app (goodIn_of _ (by decide +kernel)) ggX8_passNumber_X8_isFigure
theorem dX8_passNumber_0 : decode cX8_passNumber 0 = .ok (.aload_n 0, 1) := by decide +kernel
theorem dX8_passNumber_1 : decode cX8_passNumber 1 = .ok (.iconst 0, 1) := by decide +kernel
theorem dX8_passNumber_2 : decode cX8_passNumber 2 = .ok (.putfield 51, 3) := by decide +kernel
theorem dX8_passNumber_5 : decode cX8_passNumber 5 = .ok (.aload_n 0, 1) := by decide +kernel
theorem dX8_passNumber_6 : decode cX8_passNumber 6 = .ok (.getfield 42, 3) := by decide +kernel
theorem dX8_passNumber_9 : decode cX8_passNumber 9 = .ok (.aload_n 0, 1) := by decide +kernel
theorem dX8_passNumber_10 : decode cX8_passNumber 10 = .ok (.getfield 54, 3) := by decide +kernel
theorem dX8_passNumber_13 : decode cX8_passNumber 13 = .ok (.invokevirtual 156, 3) := by decide +kernel
theorem dX8_passNumber_16 : decode cX8_passNumber 16 = .ok (.if_icmp .ge 74, 3) := by decide +kernel
theorem dX8_passNumber_19 : decode cX8_passNumber 19 = .ok (.aload_n 0, 1) := by decide +kernel
theorem dX8_passNumber_20 : decode cX8_passNumber 20 = .ok (.getfield 54, 3) := by decide +kernel
theorem dX8_passNumber_23 : decode cX8_passNumber 23 = .ok (.aload_n 0, 1) := by decide +kernel
theorem dX8_passNumber_24 : decode cX8_passNumber 24 = .ok (.getfield 42, 3) := by decide +kernel
theorem dX8_passNumber_27 : decode cX8_passNumber 27 = .ok (.invokevirtual 118, 3) := by decide +kernel
theorem dX8_passNumber_30 : decode cX8_passNumber 30 = .ok (.invokestatic 173, 3) := by decide +kernel
theorem dX8_passNumber_33 : decode cX8_passNumber 33 = .ok (.ifCond .eq 57, 3) := by decide +kernel
theorem dX8_passNumber_36 : decode cX8_passNumber 36 = .ok (.aload_n 0, 1) := by decide +kernel
theorem dX8_passNumber_37 : decode cX8_passNumber 37 = .ok (.getfield 42, 3) := by decide +kernel
theorem dX8_passNumber_40 : decode cX8_passNumber 40 = .ok (.aload_n 0, 1) := by decide +kernel
theorem dX8_passNumber_41 : decode cX8_passNumber 41 = .ok (.getfield 48, 3) := by decide +kernel
theorem dX8_passNumber_44 : decode cX8_passNumber 44 = .ok (.isub, 1) := by decide +kernel
theorem dX8_passNumber_45 : decode cX8_passNumber 45 = .ok (.iconst 2, 1) := by decide +kernel
theorem dX8_passNumber_46 : decode cX8_passNumber 46 = .ok (.if_icmp .lt 5, 3) := by decide +kernel
theorem dX8_passNumber_49 : decode cX8_passNumber 49 = .ok (.iconst 0, 1) := by decide +kernel
theorem dX8_passNumber_50 : decode cX8_passNumber 50 = .ok (.ireturn, 1) := by decide +kernel
theorem dX8_passNumber_51 : decode cX8_passNumber 51 = .ok (.aload_n 0, 1) := by decide +kernel
theorem dX8_passNumber_52 : decode cX8_passNumber 52 = .ok (.aload_n 0, 1) := by decide +kernel
theorem dX8_passNumber_53 : decode cX8_passNumber 53 = .ok (.getfield 51, 3) := by decide +kernel
theorem dX8_passNumber_56 : decode cX8_passNumber 56 = .ok (.bipush 10, 2) := by decide +kernel
theorem dX8_passNumber_58 : decode cX8_passNumber 58 = .ok (.imul, 1) := by decide +kernel
theorem dX8_passNumber_59 : decode cX8_passNumber 59 = .ok (.aload_n 0, 1) := by decide +kernel
theorem dX8_passNumber_60 : decode cX8_passNumber 60 = .ok (.getfield 54, 3) := by decide +kernel
theorem dX8_passNumber_63 : decode cX8_passNumber 63 = .ok (.aload_n 0, 1) := by decide +kernel
theorem dX8_passNumber_64 : decode cX8_passNumber 64 = .ok (.getfield 42, 3) := by decide +kernel
theorem dX8_passNumber_67 : decode cX8_passNumber 67 = .ok (.invokevirtual 118, 3) := by decide +kernel
theorem dX8_passNumber_70 : decode cX8_passNumber 70 = .ok (.iadd, 1) := by decide +kernel
theorem dX8_passNumber_71 : decode cX8_passNumber 71 = .ok (.bipush 48, 2) := by decide +kernel
theorem dX8_passNumber_73 : decode cX8_passNumber 73 = .ok (.isub, 1) := by decide +kernel
theorem dX8_passNumber_74 : decode cX8_passNumber 74 = .ok (.putfield 51, 3) := by decide +kernel
theorem dX8_passNumber_77 : decode cX8_passNumber 77 = .ok (.aload_n 0, 1) := by decide +kernel
theorem dX8_passNumber_78 : decode cX8_passNumber 78 = .ok (.dup, 1) := by decide +kernel
theorem dX8_passNumber_79 : decode cX8_passNumber 79 = .ok (.getfield 42, 3) := by decide +kernel
theorem dX8_passNumber_82 : decode cX8_passNumber 82 = .ok (.iconst 1, 1) := by decide +kernel
theorem dX8_passNumber_83 : decode cX8_passNumber 83 = .ok (.iadd, 1) := by decide +kernel
theorem dX8_passNumber_84 : decode cX8_passNumber 84 = .ok (.putfield 42, 3) := by decide +kernel
theorem dX8_passNumber_87 : decode cX8_passNumber 87 = .ok (.goto (-82), 3) := by decide +kernel
theorem dX8_passNumber_90 : decode cX8_passNumber 90 = .ok (.iconst 1, 1) := by decide +kernel
theorem dX8_passNumber_91 : decode cX8_passNumber 91 = .ok (.ireturn, 1) := by decide +kernel
theorem dX8_isLetter_0 : decode cX8_isLetter 0 = .ok (.iload_n 0, 1) := by decide +kernel
theorem dX8_isLetter_1 : decode cX8_isLetter 1 = .ok (.bipush 97, 2) := by decide +kernel
theorem dX8_isLetter_3 : decode cX8_isLetter 3 = .ok (.if_icmp .lt 13, 3) := by decide +kernel
theorem dX8_isLetter_6 : decode cX8_isLetter 6 = .ok (.iload_n 0, 1) := by decide +kernel
theorem dX8_isLetter_7 : decode cX8_isLetter 7 = .ok (.bipush 122, 2) := by decide +kernel
theorem dX8_isLetter_9 : decode cX8_isLetter 9 = .ok (.if_icmp .gt 7, 3) := by decide +kernel
theorem dX8_isLetter_12 : decode cX8_isLetter 12 = .ok (.iconst 1, 1) := by decide +kernel
theorem dX8_isLetter_13 : decode cX8_isLetter 13 = .ok (.goto 4, 3) := by decide +kernel
theorem dX8_isLetter_16 : decode cX8_isLetter 16 = .ok (.iconst 0, 1) := by decide +kernel
theorem dX8_isLetter_17 : decode cX8_isLetter 17 = .ok (.ireturn, 1) := by decide +kernel
theorem dX8_isFigure_0 : decode cX8_isFigure 0 = .ok (.iload_n 0, 1) := by decide +kernel
theorem dX8_isFigure_1 : decode cX8_isFigure 1 = .ok (.bipush 48, 2) := by decide +kernel
theorem dX8_isFigure_3 : decode cX8_isFigure 3 = .ok (.if_icmp .lt 13, 3) := by decide +kernel
theorem dX8_isFigure_6 : decode cX8_isFigure 6 = .ok (.iload_n 0, 1) := by decide +kernel
theorem dX8_isFigure_7 : decode cX8_isFigure 7 = .ok (.bipush 57, 2) := by decide +kernel
theorem dX8_isFigure_9 : decode cX8_isFigure 9 = .ok (.if_icmp .gt 7, 3) := by decide +kernel
theorem dX8_isFigure_12 : decode cX8_isFigure 12 = .ok (.iconst 1, 1) := by decide +kernel
theorem dX8_isFigure_13 : decode cX8_isFigure 13 = .ok (.goto 4, 3) := by decide +kernel
theorem dX8_isFigure_16 : decode cX8_isFigure 16 = .ok (.iconst 0, 1) := by decide +kernel
theorem dX8_isFigure_17 : decode cX8_isFigure 17 = .ok (.ireturn, 1) := by decide +kernel
set_option maxRecDepth 20000 in
theorem ggX9_init_X7_init : GoodIn wsX9_init wsX7_init := goodIn_r _ [37, 38, 2, 3, 39, 40, 41, 112, 113] (by decide +kernel) (by decide +kernel)
set_option maxRecDepth 20000 in
theorem gX9_init_X7_init_n9 : GoodIn wsX9_init (wsX7_init) := ggX9_init_X7_init
set_option maxRecDepth 20000 in
theorem ggX9_init_X8_init : GoodIn wsX9_init wsX8_init := goodIn_r _ [44, 45, 2, 3, 46, 13, 14, 47, 48, 49, 50, 51, 52, 53, 54, 55, 56, 57, 58, 59, 60, 61, 62, 63, 64, 65, 66, 67, 137, 138, 139, 140, 124, 125, 126, 127, 128, 129, 130, 131, 132, 133, 134, 135, 136] (by decide +kernel) (by decide +kernel)
set_option maxRecDepth 20000 in
theorem gX9_init_X8_init : GoodIn wsX9_init (wsX8_init) := ggX9_init_X8_init
set_option maxRecDepth 20000 in
theorem ggX9_init_X5_init : GoodIn wsX9_init wsX5_init := goodIn_r _ [62, 63, 2, 3, 48, 64, 65, 66, 67, 137, 138, 139, 140] (by decide +kernel) (by decide +kernel)
set_option maxRecDepth 20000 in
theorem gX9_init_X5_init_n27 : GoodIn wsX9_init (wsX5_init) := ggX9_init_X5_init
set_option maxRecDepth 20000 in
theorem ggX9_init_X6_init : GoodIn wsX9_init wsX6_init := goodIn_r _ [69, 70, 2, 3, 48, 71, 72, 73, 74, 141, 142, 143, 144] (by decide +kernel) (by decide +kernel)
set_option maxRecDepth 20000 in
theorem gX9_init_X6_init_n34 : GoodIn wsX9_init (wsX6_init) := ggX9_init_X6_init
set_option maxRecDepth 20000 in
theorem ggX9_init_X0_init : GoodIn wsX9_init wsX0_init := goodIn_r _ [76, 77, 2, 3, 78, 13, 14, 79, 80, 17, 18, 81, 82, 61, 62, 63, 48, 64, 65, 66, 67, 68, 69, 70, 71, 72, 73, 74, 137, 138, 139, 140, 145, 146, 147, 141, 142, 143, 144] (by decide +kernel) (by decide +kernel)
set_option maxRecDepth 20000 in
theorem gX9_init_X0_init_n41 : GoodIn wsX9_init (wsX0_init) := ggX9_init_X0_init
set_option maxRecDepth 20000 in
theorem ggX9_init_X4_init : GoodIn wsX9_init wsX4_init := goodIn_r _ [84, 85, 2, 3, 48, 86, 87, 88, 148, 149, 150] (by decide +kernel) (by decide +kernel)
set_option maxRecDepth 20000 in
theorem gX9_init_X4_init_n48 : GoodIn wsX9_init (wsX4_init) := ggX9_init_X4_init
set_option maxRecDepth 20000 in
theorem ggX9_init_X3_init : GoodIn wsX9_init wsX3_init := goodIn_r _ [90, 91, 2, 3, 92, 13, 14, 93, 94, 95, 96, 97, 48, 98, 99, 61, 62, 63, 64, 65, 66, 67, 100, 101, 102, 103, 104, 137, 138, 139, 140, 151, 152, 153, 154, 158, 159] (by decide +kernel) (by decide +kernel)
set_option maxRecDepth 20000 in
theorem gX9_init_X3_init_n55 : GoodIn wsX9_init (wsX3_init) := ggX9_init_X3_init
set_option maxRecDepth 20000 in
theorem ggX9_init_X2_init : GoodIn wsX9_init wsX2_init := goodIn_r _ [106, 107, 2, 3, 108, 109, 110, 111, 155, 156, 157] (by decide +kernel) (by decide +kernel)
set_option maxRecDepth 20000 in
theorem gX9_init_X2_init_n62 : GoodIn wsX9_init (wsX2_init) := ggX9_init_X2_init
theorem dX9_init_0 : decode cX9_init 0 = .ok (.aload_n 0, 1) := by decide +kernel
theorem dX9_init_1 : decode cX9_init 1 = .ok (.invokespecial 1, 3) := by decide +kernel
theorem dX9_init_4 : decode cX9_init 4 = .ok (.aload_n 0, 1) := by decide +kernel
theorem dX9_init_5 : decode cX9_init 5 = .ok (.new 7, 3) := by decide +kernel
theorem dX9_init_8 : decode cX9_init 8 = .ok (.dup, 1) := by decide +kernel
theorem dX9_init_9 : decode cX9_init 9 = .ok (.invokespecial 9, 3) := by decide +kernel
theorem dX9_init_12 : decode cX9_init 12 = .ok (.putfield 10, 3) := by decide +kernel
theorem dX9_init_15 : decode cX9_init 15 = .ok (.aload_n 0, 1) := by decide +kernel
theorem dX9_init_16 : decode cX9_init 16 = .ok (.new 16, 3) := by decide +kernel
theorem dX9_init_19 : decode cX9_init 19 = .ok (.dup, 1) := by decide +kernel
theorem dX9_init_20 : decode cX9_init 20 = .ok (.aload_n 0, 1) := by decide +kernel
theorem dX9_init_21 : decode cX9_init 21 = .ok (.getfield 10, 3) := by decide +kernel
theorem dX9_init_24 : decode cX9_init 24 = .ok (.invokespecial 18, 3) := by decide +kernel
theorem dX9_init_27 : decode cX9_init 27 = .ok (.putfield 21, 3) := by decide +kernel
theorem dX9_init_30 : decode cX9_init 30 = .ok (.aload_n 0, 1) := by decide +kernel
theorem dX9_init_31 : decode cX9_init 31 = .ok (.new 25, 3) := by decide +kernel
theorem dX9_init_34 : decode cX9_init 34 = .ok (.dup, 1) := by decide +kernel
theorem dX9_init_35 : decode cX9_init 35 = .ok (.invokespecial 27, 3) := by decide +kernel
theorem dX9_init_38 : decode cX9_init 38 = .ok (.putfield 28, 3) := by decide +kernel
theorem dX9_init_41 : decode cX9_init 41 = .ok (.aload_n 0, 1) := by decide +kernel
theorem dX9_init_42 : decode cX9_init 42 = .ok (.new 32, 3) := by decide +kernel
theorem dX9_init_45 : decode cX9_init 45 = .ok (.dup, 1) := by decide +kernel
theorem dX9_init_46 : decode cX9_init 46 = .ok (.invokespecial 34, 3) := by decide +kernel
theorem dX9_init_49 : decode cX9_init 49 = .ok (.putfield 35, 3) := by decide +kernel
theorem dX9_init_52 : decode cX9_init 52 = .ok (.aload_n 0, 1) := by decide +kernel
theorem dX9_init_53 : decode cX9_init 53 = .ok (.iconst 2, 1) := by decide +kernel
theorem dX9_init_54 : decode cX9_init 54 = .ok (.anewarray 39, 3) := by decide +kernel
theorem dX9_init_57 : decode cX9_init 57 = .ok (.dup, 1) := by decide +kernel
theorem dX9_init_58 : decode cX9_init 58 = .ok (.iconst 0, 1) := by decide +kernel
theorem dX9_init_59 : decode cX9_init 59 = .ok (.new 39, 3) := by decide +kernel
theorem dX9_init_62 : decode cX9_init 62 = .ok (.dup, 1) := by decide +kernel
theorem dX9_init_63 : decode cX9_init 63 = .ok (.invokespecial 41, 3) := by decide +kernel
theorem dX9_init_66 : decode cX9_init 66 = .ok (.aastore, 1) := by decide +kernel
theorem dX9_init_67 : decode cX9_init 67 = .ok (.dup, 1) := by decide +kernel
theorem dX9_init_68 : decode cX9_init 68 = .ok (.iconst 1, 1) := by decide +kernel
theorem dX9_init_69 : decode cX9_init 69 = .ok (.new 39, 3) := by decide +kernel
theorem dX9_init_72 : decode cX9_init 72 = .ok (.dup, 1) := by decide +kernel
theorem dX9_init_73 : decode cX9_init 73 = .ok (.invokespecial 41, 3) := by decide +kernel
theorem dX9_init_76 : decode cX9_init 76 = .ok (.aastore, 1) := by decide +kernel
theorem dX9_init_77 : decode cX9_init 77 = .ok (.putfield 42, 3) := by decide +kernel
theorem dX9_init_80 : decode cX9_init 80 = .ok (.aload_n 0, 1) := by decide +kernel
theorem dX9_init_81 : decode cX9_init 81 = .ok (.new 46, 3) := by decide +kernel
theorem dX9_init_84 : decode cX9_init 84 = .ok (.dup, 1) := by decide +kernel
theorem dX9_init_85 : decode cX9_init 85 = .ok (.invokespecial 48, 3) := by decide +kernel
theorem dX9_init_88 : decode cX9_init 88 = .ok (.putfield 49, 3) := by decide +kernel
theorem dX9_init_91 : decode cX9_init 91 = .ok (.aload_n 0, 1) := by decide +kernel
theorem dX9_init_92 : decode cX9_init 92 = .ok (.new 53, 3) := by decide +kernel
theorem dX9_init_95 : decode cX9_init 95 = .ok (.dup, 1) := by decide +kernel
theorem dX9_init_96 : decode cX9_init 96 = .ok (.invokespecial 55, 3) := by decide +kernel
theorem dX9_init_99 : decode cX9_init 99 = .ok (.putfield 56, 3) := by decide +kernel
theorem dX9_init_102 : decode cX9_init 102 = .ok (.aload_n 0, 1) := by decide +kernel
theorem dX9_init_103 : decode cX9_init 103 = .ok (.new 60, 3) := by decide +kernel
theorem dX9_init_106 : decode cX9_init 106 = .ok (.dup, 1) := by decide +kernel
theorem dX9_init_107 : decode cX9_init 107 = .ok (.invokespecial 62, 3) := by decide +kernel
theorem dX9_init_110 : decode cX9_init 110 = .ok (.putfield 63, 3) := by decide +kernel
theorem dX9_init_113 : decode cX9_init 113 = .ok (.return_, 1) := by decide +kernel
set_option maxRecDepth 20000 in
theorem ggX9_feed_X9_within : GoodIn wsX9_feed wsX9_within := goodIn_r _ [5] (by decide +kernel) (by decide +kernel)
set_option maxRecDepth 20000 in
theorem gX9_feed_X9_within : GoodIn wsX9_feed (va_wsS RX9 67 yX9_within wsX9_within) := goodIn_app (goodIn_of _ (by decide +kernel)) ggX9_feed_X9_within
set_option maxRecDepth 20000 in
theorem ggX9_feed_X7_isFull : GoodIn wsX9_feed wsX7_isFull := goodIn_r _ [10, 11, 32, 33] (by decide +kernel) (by decide +kernel)
set_option maxRecDepth 20000 in
theorem gX9_feed_X7_isFull : GoodIn wsX9_feed (wsV RX9 71 RX7 yX7_isFull wsX7_isFull) := goodIn_app (goodIn_of _ (by decide +kernel)) ggX9_feed_X7_isFull
set_option maxRecDepth 20000 in
theorem ggX9_feed_X7_append : GoodIn wsX9_feed wsX7_append := goodIn_r _ [15, 16, 11, 17, 7, 8, 9, 10, 32, 33] (by decide +kernel) (by decide +kernel)
set_option maxRecDepth 20000 in
theorem gX9_feed_X7_append : GoodIn wsX9_feed (wsV RX9 75 RX7 yX7_append wsX7_append) := goodIn_app (goodIn_of _ (by decide +kernel)) ggX9_feed_X7_append
set_option maxRecDepth 20000 in
theorem ggX9_feed_X7_size : GoodIn wsX9_feed wsX7_size := goodIn_r _ [21, 11, 32, 33] (by decide +kernel) (by decide +kernel)
set_option maxRecDepth 20000 in
theorem gX9_feed_X7_size : GoodIn wsX9_feed (wsV RX9 79 RX7 yX7_size wsX7_size) := goodIn_app (goodIn_of _ (by decide +kernel)) ggX9_feed_X7_size
theorem dX9_feed_0 : decode cX9_feed 0 = .ok (.iload_n 1, 1) := by decide +kernel
theorem dX9_feed_1 : decode cX9_feed 1 = .ok (.iconst 0, 1) := by decide +kernel
theorem dX9_feed_2 : decode cX9_feed 2 = .ok (.bipush 127, 2) := by decide +kernel
theorem dX9_feed_4 : decode cX9_feed 4 = .ok (.invokestatic 67, 3) := by decide +kernel
theorem dX9_feed_7 : decode cX9_feed 7 = .ok (.ifCond .ne 5, 3) := by decide +kernel
theorem dX9_feed_10 : decode cX9_feed 10 = .ok (.iconst (-1), 1) := by decide +kernel
theorem dX9_feed_11 : decode cX9_feed 11 = .ok (.ireturn, 1) := by decide +kernel
theorem dX9_feed_12 : decode cX9_feed 12 = .ok (.aload_n 0, 1) := by decide +kernel
theorem dX9_feed_13 : decode cX9_feed 13 = .ok (.getfield 10, 3) := by decide +kernel
theorem dX9_feed_16 : decode cX9_feed 16 = .ok (.invokevirtual 71, 3) := by decide +kernel
theorem dX9_feed_19 : decode cX9_feed 19 = .ok (.ifCond .eq 6, 3) := by decide +kernel
theorem dX9_feed_22 : decode cX9_feed 22 = .ok (.bipush (-3), 2) := by decide +kernel
theorem dX9_feed_24 : decode cX9_feed 24 = .ok (.ireturn, 1) := by decide +kernel
theorem dX9_feed_25 : decode cX9_feed 25 = .ok (.aload_n 0, 1) := by decide +kernel
theorem dX9_feed_26 : decode cX9_feed 26 = .ok (.getfield 10, 3) := by decide +kernel
theorem dX9_feed_29 : decode cX9_feed 29 = .ok (.iload_n 1, 1) := by decide +kernel
theorem dX9_feed_30 : decode cX9_feed 30 = .ok (.invokevirtual 75, 3) := by decide +kernel
theorem dX9_feed_33 : decode cX9_feed 33 = .ok (.aload_n 0, 1) := by decide +kernel
theorem dX9_feed_34 : decode cX9_feed 34 = .ok (.getfield 10, 3) := by decide +kernel
theorem dX9_feed_37 : decode cX9_feed 37 = .ok (.invokevirtual 79, 3) := by decide +kernel
theorem dX9_feed_40 : decode cX9_feed 40 = .ok (.ireturn, 1) := by decide +kernel
set_option maxRecDepth 20000 in
theorem ggX9_end_X7_size : GoodIn wsX9_end wsX7_size := goodIn_r _ [6, 7, 26, 27] (by decide +kernel) (by decide +kernel)
set_option maxRecDepth 20000 in
theorem gX9_end_X7_size : GoodIn wsX9_end (wsV RX9 79 RX7 yX7_size wsX7_size) := goodIn_app (goodIn_of _ (by decide +kernel)) ggX9_end_X7_size
set_option maxRecDepth 20000 in
theorem ggX9_end_X9_within : GoodIn wsX9_end wsX9_within := goodIn_r _ [11] (by decide +kernel) (by decide +kernel)
set_option maxRecDepth 20000 in
theorem gX9_end_X9_within : GoodIn wsX9_end (va_wsS RX9 67 yX9_within wsX9_within) := goodIn_app (goodIn_of _ (by decide +kernel)) ggX9_end_X9_within
set_option maxRecDepth 20000 in
theorem ggX9_end_X7_cut : GoodIn wsX9_end wsX7_cut := goodIn_r _ [15, 7, 9, 10, 11, 26, 27] (by decide +kernel) (by decide +kernel)
set_option maxRecDepth 20000 in
theorem gX9_end_X7_cut : GoodIn wsX9_end (wsV RX9 83 RX7 yX7_cut wsX7_cut) := goodIn_app (goodIn_of _ (by decide +kernel)) ggX9_end_X7_cut
theorem dX9_end_0 : decode cX9_end 0 = .ok (.aload_n 0, 1) := by decide +kernel
theorem dX9_end_1 : decode cX9_end 1 = .ok (.getfield 10, 3) := by decide +kernel
theorem dX9_end_4 : decode cX9_end 4 = .ok (.invokevirtual 79, 3) := by decide +kernel
theorem dX9_end_7 : decode cX9_end 7 = .ok (.istore_n 2, 1) := by decide +kernel
theorem dX9_end_8 : decode cX9_end 8 = .ok (.iload_n 1, 1) := by decide +kernel
theorem dX9_end_9 : decode cX9_end 9 = .ok (.iconst 0, 1) := by decide +kernel
theorem dX9_end_10 : decode cX9_end 10 = .ok (.iload_n 2, 1) := by decide +kernel
theorem dX9_end_11 : decode cX9_end 11 = .ok (.invokestatic 67, 3) := by decide +kernel
theorem dX9_end_14 : decode cX9_end 14 = .ok (.ifCond .ne 5, 3) := by decide +kernel
theorem dX9_end_17 : decode cX9_end 17 = .ok (.iconst (-1), 1) := by decide +kernel
theorem dX9_end_18 : decode cX9_end 18 = .ok (.ireturn, 1) := by decide +kernel
theorem dX9_end_19 : decode cX9_end 19 = .ok (.aload_n 0, 1) := by decide +kernel
theorem dX9_end_20 : decode cX9_end 20 = .ok (.getfield 10, 3) := by decide +kernel
theorem dX9_end_23 : decode cX9_end 23 = .ok (.iload_n 1, 1) := by decide +kernel
theorem dX9_end_24 : decode cX9_end 24 = .ok (.invokevirtual 83, 3) := by decide +kernel
theorem dX9_end_27 : decode cX9_end 27 = .ok (.iload_n 2, 1) := by decide +kernel
theorem dX9_end_28 : decode cX9_end 28 = .ok (.ireturn, 1) := by decide +kernel
set_option maxRecDepth 20000 in
theorem ggX9_text_X8_takesAll : GoodIn wsX9_text wsX8_takesAll := goodIn_r _ [11, 12, 13, 14, 15, 16, 17, 10, 18, 19, 20, 21, 22, 23, 24, 25, 26, 27, 28, 29, 30, 31, 32, 33, 34, 35, 36, 37, 38, 39, 40, 41, 42, 43, 44, 45, 46, 47, 48, 49, 50, 51, 52, 53, 54, 55, 56, 57, 58, 59, 60, 61, 62, 63, 64, 65, 66, 67, 68, 69, 70, 71, 72, 73, 74, 75, 76, 77, 78, 79, 80, 81, 82, 83, 84, 85, 86, 87, 88, 89, 90, 91, 92, 93, 94, 95, 96, 97, 98, 99, 100, 101, 102, 103, 104, 105, 106, 107, 108, 109, 110, 111, 112, 113, 114, 115, 116, 117, 118, 119, 120, 121, 122, 123, 124, 125, 126, 127, 128, 129, 130, 131, 132, 133, 134, 135, 136, 137, 138, 139, 140, 141, 142, 143, 144, 145, 146, 147, 148, 149, 150, 151, 152, 153, 154, 155, 156, 157, 158, 159, 160, 161, 162, 163, 164, 165, 166, 167, 168, 169, 170, 171, 172, 173, 174, 175, 176, 177, 178, 179, 180, 181, 182, 183, 184, 185, 186, 187, 188, 189, 190, 191, 192, 193, 194, 195, 196, 197, 198, 199, 200, 201, 202, 203, 204, 205, 206, 207, 208, 259, 260, 261, 262, 263, 264, 265, 266, 267, 268, 269, 270, 271, 272, 273, 274, 275, 276, 277] (by decide +kernel) (by decide +kernel)
set_option maxRecDepth 20000 in
theorem gX9_text_X8_takesAll : GoodIn wsX9_text (wsV RX9 86 RX8 yX8_takesAll wsX8_takesAll) := goodIn_app (goodIn_of _ (by decide +kernel)) ggX9_text_X8_takesAll
set_option maxRecDepth 20000 in
theorem ggX9_text_X7_cut : GoodIn wsX9_text wsX7_cut := goodIn_r _ [212, 43, 160, 161, 162, 276, 277] (by decide +kernel) (by decide +kernel)
set_option maxRecDepth 20000 in
theorem gX9_text_X7_cut : GoodIn wsX9_text (wsV RX9 83 RX7 yX7_cut wsX7_cut) := goodIn_app (goodIn_of _ (by decide +kernel)) ggX9_text_X7_cut
set_option maxRecDepth 20000 in
theorem ggX9_text_X8_faultFound : GoodIn wsX9_text wsX8_faultFound := goodIn_r _ [216, 23, 259, 260, 261, 262, 263, 264, 265, 266, 267, 268, 269, 270, 271] (by decide +kernel) (by decide +kernel)
set_option maxRecDepth 20000 in
theorem gX9_text_X8_faultFound : GoodIn wsX9_text (wsV RX9 89 RX8 yX8_faultFound wsX8_faultFound) := goodIn_app (goodIn_of _ (by decide +kernel)) ggX9_text_X8_faultFound
set_option maxRecDepth 20000 in
theorem ggX9_text_X8_faultPlace : GoodIn wsX9_text wsX8_faultPlace := goodIn_r _ [220, 24, 259, 260, 261, 262, 263, 264, 265, 266, 267, 268, 269, 270, 271] (by decide +kernel) (by decide +kernel)
set_option maxRecDepth 20000 in
theorem gX9_text_X8_faultPlace : GoodIn wsX9_text (wsV RX9 96 RX8 yX8_faultPlace wsX8_faultPlace) := goodIn_app (goodIn_of _ (by decide +kernel)) ggX9_text_X8_faultPlace
set_option maxRecDepth 20000 in
theorem ggX9_text_X8_draft : GoodIn wsX9_text wsX8_draft := goodIn_r _ [224, 19, 259, 260, 261, 262, 263, 264, 265, 266, 267, 268, 269, 270, 271] (by decide +kernel) (by decide +kernel)
set_option maxRecDepth 20000 in
theorem gX9_text_X8_draft : GoodIn wsX9_text (wsV RX9 99 RX8 yX8_draft wsX8_draft) := goodIn_app (goodIn_of _ (by decide +kernel)) ggX9_text_X8_draft
set_option maxRecDepth 20000 in
theorem ggX9_text_X5_copyFrom : GoodIn wsX9_text wsX5_copyFrom := goodIn_r _ [228, 196, 229, 230, 231, 232, 85, 31, 32, 272, 273, 274, 275] (by decide +kernel) (by decide +kernel)
set_option maxRecDepth 20000 in
theorem gX9_text_X5_copyFrom : GoodIn wsX9_text (wsV RX9 103 RX5 yX5_copyFrom wsX5_copyFrom) := goodIn_app (goodIn_of _ (by decide +kernel)) ggX9_text_X5_copyFrom
set_option maxRecDepth 20000 in
theorem ggX9_text_X6_cut : GoodIn wsX9_text wsX6_cut := goodIn_r _ [237, 238, 160, 161, 162, 278, 279, 280, 281] (by decide +kernel) (by decide +kernel)
set_option maxRecDepth 20000 in
theorem gX9_text_X6_cut : GoodIn wsX9_text (wsV RX9 107 RX6 yX6_cut wsX6_cut) := goodIn_app (goodIn_of _ (by decide +kernel)) ggX9_text_X6_cut
set_option maxRecDepth 20000 in
theorem ggX9_text_X0_drop : GoodIn wsX9_text wsX0_drop := goodIn_r _ [243, 244, 282, 283, 284] (by decide +kernel) (by decide +kernel)
set_option maxRecDepth 20000 in
theorem gX9_text_X0_drop : GoodIn wsX9_text (wsV RX9 108 RX0 yX0_drop wsX0_drop) := goodIn_app (goodIn_of _ (by decide +kernel)) ggX9_text_X0_drop
set_option maxRecDepth 20000 in
theorem ggX9_text_X8_linesRead : GoodIn wsX9_text wsX8_linesRead := goodIn_r _ [248, 13, 259, 260, 261, 262, 263, 264, 265, 266, 267, 268, 269, 270, 271] (by decide +kernel) (by decide +kernel)
set_option maxRecDepth 20000 in
theorem gX9_text_X8_linesRead : GoodIn wsX9_text (wsV RX9 111 RX8 yX8_linesRead wsX8_linesRead) := goodIn_app (goodIn_of _ (by decide +kernel)) ggX9_text_X8_linesRead
theorem dX9_text_0 : decode cX9_text 0 = .ok (.aload_n 0, 1) := by decide +kernel
theorem dX9_text_1 : decode cX9_text 1 = .ok (.getfield 21, 3) := by decide +kernel
theorem dX9_text_4 : decode cX9_text 4 = .ok (.invokevirtual 86, 3) := by decide +kernel
theorem dX9_text_7 : decode cX9_text 7 = .ok (.istore_n 1, 1) := by decide +kernel
theorem dX9_text_8 : decode cX9_text 8 = .ok (.aload_n 0, 1) := by decide +kernel
theorem dX9_text_9 : decode cX9_text 9 = .ok (.getfield 10, 3) := by decide +kernel
theorem dX9_text_12 : decode cX9_text 12 = .ok (.iconst 0, 1) := by decide +kernel
theorem dX9_text_13 : decode cX9_text 13 = .ok (.invokevirtual 83, 3) := by decide +kernel
theorem dX9_text_16 : decode cX9_text 16 = .ok (.aload_n 0, 1) := by decide +kernel
theorem dX9_text_17 : decode cX9_text 17 = .ok (.aload_n 0, 1) := by decide +kernel
theorem dX9_text_18 : decode cX9_text 18 = .ok (.getfield 21, 3) := by decide +kernel
theorem dX9_text_21 : decode cX9_text 21 = .ok (.invokevirtual 89, 3) := by decide +kernel
theorem dX9_text_24 : decode cX9_text 24 = .ok (.putfield 92, 3) := by decide +kernel
theorem dX9_text_27 : decode cX9_text 27 = .ok (.iload_n 1, 1) := by decide +kernel
theorem dX9_text_28 : decode cX9_text 28 = .ok (.ifCond .ne 14, 3) := by decide +kernel
theorem dX9_text_31 : decode cX9_text 31 = .ok (.bipush (-10), 2) := by decide +kernel
theorem dX9_text_33 : decode cX9_text 33 = .ok (.aload_n 0, 1) := by decide +kernel
theorem dX9_text_34 : decode cX9_text 34 = .ok (.getfield 21, 3) := by decide +kernel
theorem dX9_text_37 : decode cX9_text 37 = .ok (.invokevirtual 96, 3) := by decide +kernel
theorem dX9_text_40 : decode cX9_text 40 = .ok (.isub, 1) := by decide +kernel
theorem dX9_text_41 : decode cX9_text 41 = .ok (.ireturn, 1) := by decide +kernel
theorem dX9_text_42 : decode cX9_text 42 = .ok (.aload_n 0, 1) := by decide +kernel
theorem dX9_text_43 : decode cX9_text 43 = .ok (.getfield 28, 3) := by decide +kernel
theorem dX9_text_46 : decode cX9_text 46 = .ok (.aload_n 0, 1) := by decide +kernel
theorem dX9_text_47 : decode cX9_text 47 = .ok (.getfield 21, 3) := by decide +kernel
theorem dX9_text_50 : decode cX9_text 50 = .ok (.invokevirtual 99, 3) := by decide +kernel
theorem dX9_text_53 : decode cX9_text 53 = .ok (.invokevirtual 103, 3) := by decide +kernel
theorem dX9_text_56 : decode cX9_text 56 = .ok (.aload_n 0, 1) := by decide +kernel
theorem dX9_text_57 : decode cX9_text 57 = .ok (.getfield 35, 3) := by decide +kernel
theorem dX9_text_60 : decode cX9_text 60 = .ok (.iconst 0, 1) := by decide +kernel
theorem dX9_text_61 : decode cX9_text 61 = .ok (.invokevirtual 107, 3) := by decide +kernel
theorem dX9_text_64 : decode cX9_text 64 = .ok (.aload_n 0, 1) := by decide +kernel
theorem dX9_text_65 : decode cX9_text 65 = .ok (.getfield 42, 3) := by decide +kernel
theorem dX9_text_68 : decode cX9_text 68 = .ok (.astore_n 2, 1) := by decide +kernel
theorem dX9_text_69 : decode cX9_text 69 = .ok (.aload_n 2, 1) := by decide +kernel
theorem dX9_text_70 : decode cX9_text 70 = .ok (.arraylength, 1) := by decide +kernel
theorem dX9_text_71 : decode cX9_text 71 = .ok (.istore_n 3, 1) := by decide +kernel
theorem dX9_text_72 : decode cX9_text 72 = .ok (.iconst 0, 1) := by decide +kernel
theorem dX9_text_73 : decode cX9_text 73 = .ok (.istore 4, 2) := by decide +kernel
theorem dX9_text_75 : decode cX9_text 75 = .ok (.iload 4, 2) := by decide +kernel
theorem dX9_text_77 : decode cX9_text 77 = .ok (.iload_n 3, 1) := by decide +kernel
theorem dX9_text_78 : decode cX9_text 78 = .ok (.if_icmp .ge 20, 3) := by decide +kernel
theorem dX9_text_81 : decode cX9_text 81 = .ok (.aload_n 2, 1) := by decide +kernel
theorem dX9_text_82 : decode cX9_text 82 = .ok (.iload 4, 2) := by decide +kernel
theorem dX9_text_84 : decode cX9_text 84 = .ok (.aaload, 1) := by decide +kernel
theorem dX9_text_85 : decode cX9_text 85 = .ok (.astore 5, 2) := by decide +kernel
theorem dX9_text_87 : decode cX9_text 87 = .ok (.aload 5, 2) := by decide +kernel
theorem dX9_text_89 : decode cX9_text 89 = .ok (.invokevirtual 108, 3) := by decide +kernel
theorem dX9_text_92 : decode cX9_text 92 = .ok (.iinc 4 1, 3) := by decide +kernel
theorem dX9_text_95 : decode cX9_text 95 = .ok (.goto (-20), 3) := by decide +kernel
theorem dX9_text_98 : decode cX9_text 98 = .ok (.aload_n 0, 1) := by decide +kernel
theorem dX9_text_99 : decode cX9_text 99 = .ok (.getfield 21, 3) := by decide +kernel
theorem dX9_text_102 : decode cX9_text 102 = .ok (.invokevirtual 111, 3) := by decide +kernel
theorem dX9_text_105 : decode cX9_text 105 = .ok (.ireturn, 1) := by decide +kernel
theorem dX9_fault_0 : decode cX9_fault 0 = .ok (.aload_n 0, 1) := by decide +kernel
theorem dX9_fault_1 : decode cX9_fault 1 = .ok (.getfield 92, 3) := by decide +kernel
theorem dX9_fault_4 : decode cX9_fault 4 = .ok (.ireturn, 1) := by decide +kernel
set_option maxRecDepth 20000 in
theorem ggX9_rule_X5_size : GoodIn wsX9_rule wsX5_size := goodIn_r _ [6, 7, 95, 96, 97, 98] (by decide +kernel) (by decide +kernel)
set_option maxRecDepth 20000 in
theorem gX9_rule_X5_size : GoodIn wsX9_rule (wsV RX9 114 RX5 yX5_size wsX5_size) := goodIn_app (goodIn_of _ (by decide +kernel)) ggX9_rule_X5_size
set_option maxRecDepth 20000 in
theorem ggX9_rule_X5_startHour : GoodIn wsX9_rule wsX5_startHour := goodIn_r _ [11, 12, 95, 96, 97, 98] (by decide +kernel) (by decide +kernel)
set_option maxRecDepth 20000 in
theorem gX9_rule_X5_startHour : GoodIn wsX9_rule (wsV RX9 115 RX5 yX5_startHour wsX5_startHour) := goodIn_app (goodIn_of _ (by decide +kernel)) ggX9_rule_X5_startHour
set_option maxRecDepth 20000 in
theorem ggX9_rule_X5_sumOf : GoodIn wsX9_rule wsX5_sumOf := goodIn_r _ [16, 7, 17, 18, 19, 5, 20, 21, 95, 96, 97, 98] (by decide +kernel) (by decide +kernel)
set_option maxRecDepth 20000 in
theorem gX9_rule_X5_sumOf : GoodIn wsX9_rule (wsV RX9 118 RX5 yX5_sumOf wsX5_sumOf) := goodIn_app (goodIn_of _ (by decide +kernel)) ggX9_rule_X5_sumOf
set_option maxRecDepth 20000 in
theorem ggX9_rule_X5_wrongOfAll : GoodIn wsX9_rule wsX5_wrongOfAll := goodIn_r _ [25, 12, 7, 26, 17, 18, 19, 5, 20, 21, 27, 28, 29, 30, 31, 32, 33, 34, 35, 36, 37, 38, 95, 96, 97, 98] (by decide +kernel) (by decide +kernel)
set_option maxRecDepth 20000 in
theorem gX9_rule_X5_wrongOfAll : GoodIn wsX9_rule (wsV RX9 122 RX5 yX5_wrongOfAll wsX5_wrongOfAll) := goodIn_app (goodIn_of _ (by decide +kernel)) ggX9_rule_X5_wrongOfAll
set_option maxRecDepth 20000 in
theorem ggX9_rule_X5_yawnsOfAll : GoodIn wsX9_rule wsX5_yawnsOfAll := goodIn_r _ [42, 7, 43, 44, 45, 5, 46, 31, 32, 33, 34, 47, 48, 49, 17, 18, 19, 20, 21, 50, 51, 52, 53, 54, 55, 56, 57, 12, 26, 58, 59, 60, 61, 95, 96, 97, 98] (by decide +kernel) (by decide +kernel)
set_option maxRecDepth 20000 in
theorem gX9_rule_X5_yawnsOfAll : GoodIn wsX9_rule (wsV RX9 125 RX5 yX5_yawnsOfAll wsX5_yawnsOfAll) := goodIn_app (goodIn_of _ (by decide +kernel)) ggX9_rule_X5_yawnsOfAll
set_option maxRecDepth 20000 in
theorem ggX9_rule_X5_strangeHoursOfAll : GoodIn wsX9_rule wsX5_strangeHoursOfAll := goodIn_r _ [65, 66, 67, 68, 5, 69, 70, 71, 72, 73, 58, 59, 60, 61, 7, 17, 18, 19, 20, 21, 50, 51, 52, 53, 74, 75, 76, 77, 54, 55, 56, 57, 12, 26, 35, 36, 37, 38, 78, 79, 80, 81, 82, 83, 84, 95, 96, 97, 98] (by decide +kernel) (by decide +kernel)
set_option maxRecDepth 20000 in
theorem gX9_rule_X5_strangeHoursOfAll : GoodIn wsX9_rule (wsV RX9 128 RX5 yX5_strangeHoursOfAll wsX5_strangeHoursOfAll) := goodIn_app (goodIn_of _ (by decide +kernel)) ggX9_rule_X5_strangeHoursOfAll
theorem dX9_rule_0 : decode cX9_rule 0 = .ok (.iload_n 1, 1) := by decide +kernel
theorem dX9_rule_1 : decode cX9_rule 1 = .ok (.tableswitch 88 0 5 #[39, 47, 55, 64, 72, 80], 39) := by decide +kernel
theorem dX9_rule_40 : decode cX9_rule 40 = .ok (.aload_n 0, 1) := by decide +kernel
theorem dX9_rule_41 : decode cX9_rule 41 = .ok (.getfield 28, 3) := by decide +kernel
theorem dX9_rule_44 : decode cX9_rule 44 = .ok (.invokevirtual 114, 3) := by decide +kernel
theorem dX9_rule_47 : decode cX9_rule 47 = .ok (.ireturn, 1) := by decide +kernel
theorem dX9_rule_48 : decode cX9_rule 48 = .ok (.aload_n 0, 1) := by decide +kernel
theorem dX9_rule_49 : decode cX9_rule 49 = .ok (.getfield 28, 3) := by decide +kernel
theorem dX9_rule_52 : decode cX9_rule 52 = .ok (.invokevirtual 115, 3) := by decide +kernel
theorem dX9_rule_55 : decode cX9_rule 55 = .ok (.ireturn, 1) := by decide +kernel
theorem dX9_rule_56 : decode cX9_rule 56 = .ok (.aload_n 0, 1) := by decide +kernel
theorem dX9_rule_57 : decode cX9_rule 57 = .ok (.getfield 28, 3) := by decide +kernel
theorem dX9_rule_60 : decode cX9_rule 60 = .ok (.iconst 1, 1) := by decide +kernel
theorem dX9_rule_61 : decode cX9_rule 61 = .ok (.invokevirtual 118, 3) := by decide +kernel
theorem dX9_rule_64 : decode cX9_rule 64 = .ok (.ireturn, 1) := by decide +kernel
theorem dX9_rule_65 : decode cX9_rule 65 = .ok (.aload_n 0, 1) := by decide +kernel
theorem dX9_rule_66 : decode cX9_rule 66 = .ok (.getfield 28, 3) := by decide +kernel
theorem dX9_rule_69 : decode cX9_rule 69 = .ok (.invokevirtual 122, 3) := by decide +kernel
theorem dX9_rule_72 : decode cX9_rule 72 = .ok (.ireturn, 1) := by decide +kernel
theorem dX9_rule_73 : decode cX9_rule 73 = .ok (.aload_n 0, 1) := by decide +kernel
theorem dX9_rule_74 : decode cX9_rule 74 = .ok (.getfield 28, 3) := by decide +kernel
theorem dX9_rule_77 : decode cX9_rule 77 = .ok (.invokevirtual 125, 3) := by decide +kernel
theorem dX9_rule_80 : decode cX9_rule 80 = .ok (.ireturn, 1) := by decide +kernel
theorem dX9_rule_81 : decode cX9_rule 81 = .ok (.aload_n 0, 1) := by decide +kernel
theorem dX9_rule_82 : decode cX9_rule 82 = .ok (.getfield 28, 3) := by decide +kernel
theorem dX9_rule_85 : decode cX9_rule 85 = .ok (.invokevirtual 128, 3) := by decide +kernel
theorem dX9_rule_88 : decode cX9_rule 88 = .ok (.ireturn, 1) := by decide +kernel
theorem dX9_rule_89 : decode cX9_rule 89 = .ok (.iconst (-1), 1) := by decide +kernel
theorem dX9_rule_90 : decode cX9_rule 90 = .ok (.ireturn, 1) := by decide +kernel
set_option maxRecDepth 20000 in
theorem ggX9_box_X5_has : GoodIn wsX9_box wsX5_has := goodIn_r _ [6, 7, 50, 51, 52, 53] (by decide +kernel) (by decide +kernel)
set_option maxRecDepth 20000 in
theorem gX9_box_X5_has : GoodIn wsX9_box (wsV RX9 131 RX5 yX5_has wsX5_has) := goodIn_app (goodIn_of _ (by decide +kernel)) ggX9_box_X5_has
set_option maxRecDepth 20000 in
theorem ggX9_box_X5_fact : GoodIn wsX9_box wsX5_fact := goodIn_r _ [11, 7, 12, 50, 51, 52, 53] (by decide +kernel) (by decide +kernel)
set_option maxRecDepth 20000 in
theorem gX9_box_X5_fact : GoodIn wsX9_box (wsV RX9 135 RX5 yX5_fact wsX5_fact) := goodIn_app (goodIn_of _ (by decide +kernel)) ggX9_box_X5_fact
set_option maxRecDepth 20000 in
theorem ggX9_box_X5_lastsOf : GoodIn wsX9_box wsX5_lastsOf := goodIn_r _ [15, 16] (by decide +kernel) (by decide +kernel)
set_option maxRecDepth 20000 in
theorem gX9_box_X5_lastsOf : GoodIn wsX9_box (va_wsS RX9 139 yX5_lastsOf wsX5_lastsOf) := goodIn_app (goodIn_of _ (by decide +kernel)) ggX9_box_X5_lastsOf
set_option maxRecDepth 20000 in
theorem ggX9_box_X5_ownHour : GoodIn wsX9_box wsX5_ownHour := goodIn_r _ [20, 21, 7, 22, 23, 9, 10, 5, 11, 12, 50, 51, 52, 53] (by decide +kernel) (by decide +kernel)
set_option maxRecDepth 20000 in
theorem gX9_box_X5_ownHour : GoodIn wsX9_box (wsV RX9 142 RX5 yX5_ownHour wsX5_ownHour) := goodIn_app (goodIn_of _ (by decide +kernel)) ggX9_box_X5_ownHour
set_option maxRecDepth 20000 in
theorem ggX9_box_X5_wrongOf : GoodIn wsX9_box wsX5_wrongOf := goodIn_r _ [27, 28, 29, 30, 31, 23, 9, 10, 5, 11, 7, 12, 32, 33, 34, 35, 50, 51, 52, 53] (by decide +kernel) (by decide +kernel)
set_option maxRecDepth 20000 in
theorem gX9_box_X5_wrongOf : GoodIn wsX9_box (wsV RX9 145 RX5 yX5_wrongOf wsX5_wrongOf) := goodIn_app (goodIn_of _ (by decide +kernel)) ggX9_box_X5_wrongOf
set_option maxRecDepth 20000 in
theorem ggX9_box_X5_placeOf : GoodIn wsX9_box wsX5_placeOf := goodIn_r _ [39, 7, 22, 50, 51, 52, 53] (by decide +kernel) (by decide +kernel)
set_option maxRecDepth 20000 in
theorem gX9_box_X5_placeOf : GoodIn wsX9_box (wsV RX9 148 RX5 yX5_placeOf wsX5_placeOf) := goodIn_app (goodIn_of _ (by decide +kernel)) ggX9_box_X5_placeOf
theorem dX9_box_0 : decode cX9_box 0 = .ok (.aload_n 0, 1) := by decide +kernel
theorem dX9_box_1 : decode cX9_box 1 = .ok (.getfield 28, 3) := by decide +kernel
theorem dX9_box_4 : decode cX9_box 4 = .ok (.iload_n 1, 1) := by decide +kernel
theorem dX9_box_5 : decode cX9_box 5 = .ok (.invokevirtual 131, 3) := by decide +kernel
theorem dX9_box_8 : decode cX9_box 8 = .ok (.ifCond .ne 5, 3) := by decide +kernel
theorem dX9_box_11 : decode cX9_box 11 = .ok (.iconst (-1), 1) := by decide +kernel
theorem dX9_box_12 : decode cX9_box 12 = .ok (.ireturn, 1) := by decide +kernel
theorem dX9_box_13 : decode cX9_box 13 = .ok (.iload_n 2, 1) := by decide +kernel
theorem dX9_box_14 : decode cX9_box 14 = .ok (.tableswitch 78 6 9 #[30, 43, 52, 69], 30) := by decide +kernel
theorem dX9_box_44 : decode cX9_box 44 = .ok (.aload_n 0, 1) := by decide +kernel
theorem dX9_box_45 : decode cX9_box 45 = .ok (.getfield 28, 3) := by decide +kernel
theorem dX9_box_48 : decode cX9_box 48 = .ok (.iload_n 1, 1) := by decide +kernel
theorem dX9_box_49 : decode cX9_box 49 = .ok (.iconst 0, 1) := by decide +kernel
theorem dX9_box_50 : decode cX9_box 50 = .ok (.invokevirtual 135, 3) := by decide +kernel
theorem dX9_box_53 : decode cX9_box 53 = .ok (.invokestatic 139, 3) := by decide +kernel
theorem dX9_box_56 : decode cX9_box 56 = .ok (.ireturn, 1) := by decide +kernel
theorem dX9_box_57 : decode cX9_box 57 = .ok (.aload_n 0, 1) := by decide +kernel
theorem dX9_box_58 : decode cX9_box 58 = .ok (.getfield 28, 3) := by decide +kernel
theorem dX9_box_61 : decode cX9_box 61 = .ok (.iload_n 1, 1) := by decide +kernel
theorem dX9_box_62 : decode cX9_box 62 = .ok (.invokevirtual 142, 3) := by decide +kernel
theorem dX9_box_65 : decode cX9_box 65 = .ok (.ireturn, 1) := by decide +kernel
theorem dX9_box_66 : decode cX9_box 66 = .ok (.aload_n 0, 1) := by decide +kernel
theorem dX9_box_67 : decode cX9_box 67 = .ok (.getfield 28, 3) := by decide +kernel
theorem dX9_box_70 : decode cX9_box 70 = .ok (.iload_n 1, 1) := by decide +kernel
theorem dX9_box_71 : decode cX9_box 71 = .ok (.aload_n 0, 1) := by decide +kernel
theorem dX9_box_72 : decode cX9_box 72 = .ok (.getfield 28, 3) := by decide +kernel
theorem dX9_box_75 : decode cX9_box 75 = .ok (.iload_n 1, 1) := by decide +kernel
theorem dX9_box_76 : decode cX9_box 76 = .ok (.invokevirtual 142, 3) := by decide +kernel
theorem dX9_box_79 : decode cX9_box 79 = .ok (.invokevirtual 145, 3) := by decide +kernel
theorem dX9_box_82 : decode cX9_box 82 = .ok (.ireturn, 1) := by decide +kernel
theorem dX9_box_83 : decode cX9_box 83 = .ok (.aload_n 0, 1) := by decide +kernel
theorem dX9_box_84 : decode cX9_box 84 = .ok (.getfield 28, 3) := by decide +kernel
theorem dX9_box_87 : decode cX9_box 87 = .ok (.iload_n 1, 1) := by decide +kernel
theorem dX9_box_88 : decode cX9_box 88 = .ok (.invokevirtual 148, 3) := by decide +kernel
theorem dX9_box_91 : decode cX9_box 91 = .ok (.ireturn, 1) := by decide +kernel
theorem dX9_box_92 : decode cX9_box 92 = .ok (.aload_n 0, 1) := by decide +kernel
theorem dX9_box_93 : decode cX9_box 93 = .ok (.getfield 28, 3) := by decide +kernel
theorem dX9_box_96 : decode cX9_box 96 = .ok (.iload_n 1, 1) := by decide +kernel
theorem dX9_box_97 : decode cX9_box 97 = .ok (.iload_n 2, 1) := by decide +kernel
theorem dX9_box_98 : decode cX9_box 98 = .ok (.invokevirtual 135, 3) := by decide +kernel
theorem dX9_box_101 : decode cX9_box 101 = .ok (.ireturn, 1) := by decide +kernel
set_option maxRecDepth 20000 in
theorem ggX9_order_X5_has : GoodIn wsX9_order wsX5_has := goodIn_r _ [6, 7, 38, 39, 40, 41] (by decide +kernel) (by decide +kernel)
set_option maxRecDepth 20000 in
theorem gX9_order_X5_has : GoodIn wsX9_order (wsV RX9 131 RX5 yX5_has wsX5_has) := goodIn_app (goodIn_of _ (by decide +kernel)) ggX9_order_X5_has
set_option maxRecDepth 20000 in
theorem ggX9_order_X9_isEither : GoodIn wsX9_order wsX9_isEither := goodIn_r _ [11] (by decide +kernel) (by decide +kernel)
set_option maxRecDepth 20000 in
theorem gX9_order_X9_isEither : GoodIn wsX9_order (va_wsS RX9 151 yX9_isEither wsX9_isEither) := goodIn_app (goodIn_of _ (by decide +kernel)) ggX9_order_X9_isEither
set_option maxRecDepth 20000 in
theorem ggX9_order_X5_boxIn : GoodIn wsX9_order wsX5_boxIn := goodIn_r _ [15, 16, 17, 3, 4, 5, 6, 7, 38, 39, 40, 41] (by decide +kernel) (by decide +kernel)
set_option maxRecDepth 20000 in
theorem gX9_order_X5_boxIn : GoodIn wsX9_order (wsV RX9 154 RX5 yX5_boxIn wsX5_boxIn) := goodIn_app (goodIn_of _ (by decide +kernel)) ggX9_order_X5_boxIn
set_option maxRecDepth 20000 in
theorem ggX9_order_X5_doneIn : GoodIn wsX9_order wsX5_doneIn := goodIn_r _ [21, 22, 7, 16, 23, 24, 25, 5, 26, 27, 38, 39, 40, 41] (by decide +kernel) (by decide +kernel)
set_option maxRecDepth 20000 in
theorem gX9_order_X5_doneIn : GoodIn wsX9_order (wsV RX9 157 RX5 yX5_doneIn wsX5_doneIn) := goodIn_app (goodIn_of _ (by decide +kernel)) ggX9_order_X5_doneIn
theorem dX9_order_0 : decode cX9_order 0 = .ok (.aload_n 0, 1) := by decide +kernel
theorem dX9_order_1 : decode cX9_order 1 = .ok (.getfield 28, 3) := by decide +kernel
theorem dX9_order_4 : decode cX9_order 4 = .ok (.iload_n 1, 1) := by decide +kernel
theorem dX9_order_5 : decode cX9_order 5 = .ok (.invokevirtual 131, 3) := by decide +kernel
theorem dX9_order_8 : decode cX9_order 8 = .ok (.ifCond .eq 10, 3) := by decide +kernel
theorem dX9_order_11 : decode cX9_order 11 = .ok (.iload_n 2, 1) := by decide +kernel
theorem dX9_order_12 : decode cX9_order 12 = .ok (.invokestatic 151, 3) := by decide +kernel
theorem dX9_order_15 : decode cX9_order 15 = .ok (.ifCond .ne 5, 3) := by decide +kernel
theorem dX9_order_18 : decode cX9_order 18 = .ok (.iconst (-1), 1) := by decide +kernel
theorem dX9_order_19 : decode cX9_order 19 = .ok (.ireturn, 1) := by decide +kernel
theorem dX9_order_20 : decode cX9_order 20 = .ok (.iload_n 2, 1) := by decide +kernel
theorem dX9_order_21 : decode cX9_order 21 = .ok (.ifCond .ne 14, 3) := by decide +kernel
theorem dX9_order_24 : decode cX9_order 24 = .ok (.aload_n 0, 1) := by decide +kernel
theorem dX9_order_25 : decode cX9_order 25 = .ok (.getfield 28, 3) := by decide +kernel
theorem dX9_order_28 : decode cX9_order 28 = .ok (.iload_n 1, 1) := by decide +kernel
theorem dX9_order_29 : decode cX9_order 29 = .ok (.invokevirtual 154, 3) := by decide +kernel
theorem dX9_order_32 : decode cX9_order 32 = .ok (.goto 11, 3) := by decide +kernel
theorem dX9_order_35 : decode cX9_order 35 = .ok (.aload_n 0, 1) := by decide +kernel
theorem dX9_order_36 : decode cX9_order 36 = .ok (.getfield 28, 3) := by decide +kernel
theorem dX9_order_39 : decode cX9_order 39 = .ok (.iload_n 1, 1) := by decide +kernel
theorem dX9_order_40 : decode cX9_order 40 = .ok (.invokevirtual 157, 3) := by decide +kernel
theorem dX9_order_43 : decode cX9_order 43 = .ok (.ireturn, 1) := by decide +kernel
set_option maxRecDepth 20000 in
theorem ggX9_alter_X5_has : GoodIn wsX9_alter wsX5_has := goodIn_r _ [6, 7, 38, 39, 40, 41] (by decide +kernel) (by decide +kernel)
set_option maxRecDepth 20000 in
theorem gX9_alter_X5_has : GoodIn wsX9_alter (wsV RX9 131 RX5 yX5_has wsX5_has) := goodIn_app (goodIn_of _ (by decide +kernel)) ggX9_alter_X5_has
set_option maxRecDepth 20000 in
theorem ggX9_alter_X5_fits : GoodIn wsX9_alter wsX5_fits := goodIn_r _ [10, 11, 12, 13, 14, 5, 15, 16, 17, 18] (by decide +kernel) (by decide +kernel)
set_option maxRecDepth 20000 in
theorem gX9_alter_X5_fits : GoodIn wsX9_alter (va_wsS RX9 160 yX5_fits wsX5_fits) := goodIn_app (goodIn_of _ (by decide +kernel)) ggX9_alter_X5_fits
set_option maxRecDepth 20000 in
theorem ggX9_alter_X5_fact : GoodIn wsX9_alter wsX5_fact := goodIn_r _ [22, 7, 23, 38, 39, 40, 41] (by decide +kernel) (by decide +kernel)
set_option maxRecDepth 20000 in
theorem gX9_alter_X5_fact : GoodIn wsX9_alter (wsV RX9 135 RX5 yX5_fact wsX5_fact) := goodIn_app (goodIn_of _ (by decide +kernel)) ggX9_alter_X5_fact
set_option maxRecDepth 20000 in
theorem ggX9_alter_X5_setFact : GoodIn wsX9_alter wsX5_setFact := goodIn_r _ [27, 7, 23, 38, 39, 40, 41] (by decide +kernel) (by decide +kernel)
set_option maxRecDepth 20000 in
theorem gX9_alter_X5_setFact : GoodIn wsX9_alter (wsV RX9 164 RX5 yX5_setFact wsX5_setFact) := goodIn_app (goodIn_of _ (by decide +kernel)) ggX9_alter_X5_setFact
theorem dX9_alter_0 : decode cX9_alter 0 = .ok (.aload_n 0, 1) := by decide +kernel
theorem dX9_alter_1 : decode cX9_alter 1 = .ok (.getfield 28, 3) := by decide +kernel
theorem dX9_alter_4 : decode cX9_alter 4 = .ok (.iload_n 1, 1) := by decide +kernel
theorem dX9_alter_5 : decode cX9_alter 5 = .ok (.invokevirtual 131, 3) := by decide +kernel
theorem dX9_alter_8 : decode cX9_alter 8 = .ok (.ifCond .eq 11, 3) := by decide +kernel
theorem dX9_alter_11 : decode cX9_alter 11 = .ok (.iload_n 2, 1) := by decide +kernel
theorem dX9_alter_12 : decode cX9_alter 12 = .ok (.iload_n 3, 1) := by decide +kernel
theorem dX9_alter_13 : decode cX9_alter 13 = .ok (.invokestatic 160, 3) := by decide +kernel
theorem dX9_alter_16 : decode cX9_alter 16 = .ok (.ifCond .ne 5, 3) := by decide +kernel
theorem dX9_alter_19 : decode cX9_alter 19 = .ok (.iconst (-1), 1) := by decide +kernel
theorem dX9_alter_20 : decode cX9_alter 20 = .ok (.ireturn, 1) := by decide +kernel
theorem dX9_alter_21 : decode cX9_alter 21 = .ok (.aload_n 0, 1) := by decide +kernel
theorem dX9_alter_22 : decode cX9_alter 22 = .ok (.getfield 28, 3) := by decide +kernel
theorem dX9_alter_25 : decode cX9_alter 25 = .ok (.iload_n 1, 1) := by decide +kernel
theorem dX9_alter_26 : decode cX9_alter 26 = .ok (.iload_n 2, 1) := by decide +kernel
theorem dX9_alter_27 : decode cX9_alter 27 = .ok (.invokevirtual 135, 3) := by decide +kernel
theorem dX9_alter_30 : decode cX9_alter 30 = .ok (.istore 4, 2) := by decide +kernel
theorem dX9_alter_32 : decode cX9_alter 32 = .ok (.aload_n 0, 1) := by decide +kernel
theorem dX9_alter_33 : decode cX9_alter 33 = .ok (.getfield 28, 3) := by decide +kernel
theorem dX9_alter_36 : decode cX9_alter 36 = .ok (.iload_n 1, 1) := by decide +kernel
theorem dX9_alter_37 : decode cX9_alter 37 = .ok (.iload_n 2, 1) := by decide +kernel
theorem dX9_alter_38 : decode cX9_alter 38 = .ok (.iload_n 3, 1) := by decide +kernel
theorem dX9_alter_39 : decode cX9_alter 39 = .ok (.invokevirtual 164, 3) := by decide +kernel
theorem dX9_alter_42 : decode cX9_alter 42 = .ok (.iload 4, 2) := by decide +kernel
theorem dX9_alter_44 : decode cX9_alter 44 = .ok (.ireturn, 1) := by decide +kernel
set_option maxRecDepth 20000 in
theorem ggX9_start_X9_isHour : GoodIn wsX9_start wsX9_isHour := goodIn_r _ [5, 6, 7, 4, 8] (by decide +kernel) (by decide +kernel)
set_option maxRecDepth 20000 in
theorem gX9_start_X9_isHour : GoodIn wsX9_start (va_wsS RX9 168 yX9_isHour wsX9_isHour) := goodIn_app (goodIn_of _ (by decide +kernel)) ggX9_start_X9_isHour
set_option maxRecDepth 20000 in
theorem ggX9_start_X5_startHour : GoodIn wsX9_start wsX5_startHour := goodIn_r _ [13, 14, 29, 30, 31, 32] (by decide +kernel) (by decide +kernel)
set_option maxRecDepth 20000 in
theorem gX9_start_X5_startHour : GoodIn wsX9_start (wsV RX9 115 RX5 yX5_startHour wsX5_startHour) := goodIn_app (goodIn_of _ (by decide +kernel)) ggX9_start_X5_startHour
set_option maxRecDepth 20000 in
theorem ggX9_start_X5_setStart : GoodIn wsX9_start wsX5_setStart := goodIn_r _ [18, 14, 29, 30, 31, 32] (by decide +kernel) (by decide +kernel)
set_option maxRecDepth 20000 in
theorem gX9_start_X5_setStart : GoodIn wsX9_start (wsV RX9 171 RX5 yX5_setStart wsX5_setStart) := goodIn_app (goodIn_of _ (by decide +kernel)) ggX9_start_X5_setStart
theorem dX9_start_0 : decode cX9_start 0 = .ok (.iload_n 1, 1) := by decide +kernel
theorem dX9_start_1 : decode cX9_start 1 = .ok (.invokestatic 168, 3) := by decide +kernel
theorem dX9_start_4 : decode cX9_start 4 = .ok (.ifCond .ne 5, 3) := by decide +kernel
theorem dX9_start_7 : decode cX9_start 7 = .ok (.iconst (-1), 1) := by decide +kernel
theorem dX9_start_8 : decode cX9_start 8 = .ok (.ireturn, 1) := by decide +kernel
theorem dX9_start_9 : decode cX9_start 9 = .ok (.aload_n 0, 1) := by decide +kernel
theorem dX9_start_10 : decode cX9_start 10 = .ok (.getfield 28, 3) := by decide +kernel
theorem dX9_start_13 : decode cX9_start 13 = .ok (.invokevirtual 115, 3) := by decide +kernel
theorem dX9_start_16 : decode cX9_start 16 = .ok (.istore_n 2, 1) := by decide +kernel
theorem dX9_start_17 : decode cX9_start 17 = .ok (.aload_n 0, 1) := by decide +kernel
theorem dX9_start_18 : decode cX9_start 18 = .ok (.getfield 28, 3) := by decide +kernel
theorem dX9_start_21 : decode cX9_start 21 = .ok (.iload_n 1, 1) := by decide +kernel
theorem dX9_start_22 : decode cX9_start 22 = .ok (.invokevirtual 171, 3) := by decide +kernel
theorem dX9_start_25 : decode cX9_start 25 = .ok (.iload_n 2, 1) := by decide +kernel
theorem dX9_start_26 : decode cX9_start 26 = .ok (.ireturn, 1) := by decide +kernel
set_option maxRecDepth 20000 in
theorem ggX9_change_X5_has : GoodIn wsX9_change wsX5_has := goodIn_r _ [6, 7, 28, 29, 30, 31] (by decide +kernel) (by decide +kernel)
set_option maxRecDepth 20000 in
theorem gX9_change_X5_has : GoodIn wsX9_change (wsV RX9 131 RX5 yX5_has wsX5_has) := goodIn_app (goodIn_of _ (by decide +kernel)) ggX9_change_X5_has
set_option maxRecDepth 20000 in
theorem ggX9_change_X5_boxIn : GoodIn wsX9_change wsX5_boxIn := goodIn_r _ [11, 12, 13, 3, 4, 5, 6, 7, 28, 29, 30, 31] (by decide +kernel) (by decide +kernel)
set_option maxRecDepth 20000 in
theorem gX9_change_X5_boxIn : GoodIn wsX9_change (wsV RX9 154 RX5 yX5_boxIn wsX5_boxIn) := goodIn_app (goodIn_of _ (by decide +kernel)) ggX9_change_X5_boxIn
set_option maxRecDepth 20000 in
theorem ggX9_change_X5_exchange : GoodIn wsX9_change wsX5_exchange := goodIn_r _ [17, 12, 13, 3, 4, 5, 6, 7, 28, 29, 30, 31] (by decide +kernel) (by decide +kernel)
set_option maxRecDepth 20000 in
theorem gX9_change_X5_exchange : GoodIn wsX9_change (wsV RX9 174 RX5 yX5_exchange wsX5_exchange) := goodIn_app (goodIn_of _ (by decide +kernel)) ggX9_change_X5_exchange
theorem dX9_change_0 : decode cX9_change 0 = .ok (.aload_n 0, 1) := by decide +kernel
theorem dX9_change_1 : decode cX9_change 1 = .ok (.getfield 28, 3) := by decide +kernel
theorem dX9_change_4 : decode cX9_change 4 = .ok (.iload_n 1, 1) := by decide +kernel
theorem dX9_change_5 : decode cX9_change 5 = .ok (.invokevirtual 131, 3) := by decide +kernel
theorem dX9_change_8 : decode cX9_change 8 = .ok (.ifCond .eq 19, 3) := by decide +kernel
theorem dX9_change_11 : decode cX9_change 11 = .ok (.aload_n 0, 1) := by decide +kernel
theorem dX9_change_12 : decode cX9_change 12 = .ok (.getfield 28, 3) := by decide +kernel
theorem dX9_change_15 : decode cX9_change 15 = .ok (.iload_n 2, 1) := by decide +kernel
theorem dX9_change_16 : decode cX9_change 16 = .ok (.invokevirtual 131, 3) := by decide +kernel
theorem dX9_change_19 : decode cX9_change 19 = .ok (.ifCond .eq 8, 3) := by decide +kernel
theorem dX9_change_22 : decode cX9_change 22 = .ok (.iload_n 1, 1) := by decide +kernel
theorem dX9_change_23 : decode cX9_change 23 = .ok (.iload_n 2, 1) := by decide +kernel
theorem dX9_change_24 : decode cX9_change 24 = .ok (.if_icmp .ne 5, 3) := by decide +kernel
theorem dX9_change_27 : decode cX9_change 27 = .ok (.iconst (-1), 1) := by decide +kernel
theorem dX9_change_28 : decode cX9_change 28 = .ok (.ireturn, 1) := by decide +kernel
theorem dX9_change_29 : decode cX9_change 29 = .ok (.aload_n 0, 1) := by decide +kernel
theorem dX9_change_30 : decode cX9_change 30 = .ok (.getfield 28, 3) := by decide +kernel
theorem dX9_change_33 : decode cX9_change 33 = .ok (.iload_n 1, 1) := by decide +kernel
theorem dX9_change_34 : decode cX9_change 34 = .ok (.invokevirtual 154, 3) := by decide +kernel
theorem dX9_change_37 : decode cX9_change 37 = .ok (.istore_n 3, 1) := by decide +kernel
theorem dX9_change_38 : decode cX9_change 38 = .ok (.aload_n 0, 1) := by decide +kernel
theorem dX9_change_39 : decode cX9_change 39 = .ok (.getfield 28, 3) := by decide +kernel
theorem dX9_change_42 : decode cX9_change 42 = .ok (.iload_n 1, 1) := by decide +kernel
theorem dX9_change_43 : decode cX9_change 43 = .ok (.iload_n 2, 1) := by decide +kernel
theorem dX9_change_44 : decode cX9_change 44 = .ok (.invokevirtual 174, 3) := by decide +kernel
theorem dX9_change_47 : decode cX9_change 47 = .ok (.iload_n 3, 1) := by decide +kernel
theorem dX9_change_48 : decode cX9_change 48 = .ok (.ireturn, 1) := by decide +kernel
set_option maxRecDepth 20000 in
theorem ggX9_sew_X5_refusal : GoodIn wsX9_sew wsX5_refusal := goodIn_r _ [6, 7, 8, 5, 9, 10, 11, 12, 13, 14, 15, 16, 17, 18, 19, 20, 21, 22, 47, 48, 49, 50] (by decide +kernel) (by decide +kernel)
set_option maxRecDepth 20000 in
theorem gX9_sew_X5_refusal : GoodIn wsX9_sew (wsV RX9 178 RX5 yX5_refusal wsX5_refusal) := goodIn_app (goodIn_of _ (by decide +kernel)) ggX9_sew_X5_refusal
set_option maxRecDepth 20000 in
theorem ggX9_sew_X5_addPlain : GoodIn wsX9_sew wsX5_addPlain := goodIn_r _ [26, 22, 27, 18, 19, 20, 5, 21, 28, 29, 30, 31, 32, 47, 48, 49, 50] (by decide +kernel) (by decide +kernel)
set_option maxRecDepth 20000 in
theorem gX9_sew_X5_addPlain : GoodIn wsX9_sew (wsV RX9 182 RX5 yX5_addPlain wsX5_addPlain) := goodIn_app (goodIn_of _ (by decide +kernel)) ggX9_sew_X5_addPlain
set_option maxRecDepth 20000 in
theorem ggX9_sew_X5_size : GoodIn wsX9_sew wsX5_size := goodIn_r _ [36, 22, 47, 48, 49, 50] (by decide +kernel) (by decide +kernel)
set_option maxRecDepth 20000 in
theorem gX9_sew_X5_size : GoodIn wsX9_sew (wsV RX9 114 RX5 yX5_size wsX5_size) := goodIn_app (goodIn_of _ (by decide +kernel)) ggX9_sew_X5_size
theorem dX9_sew_0 : decode cX9_sew 0 = .ok (.aload_n 0, 1) := by decide +kernel
theorem dX9_sew_1 : decode cX9_sew 1 = .ok (.getfield 28, 3) := by decide +kernel
theorem dX9_sew_4 : decode cX9_sew 4 = .ok (.iload_n 1, 1) := by decide +kernel
theorem dX9_sew_5 : decode cX9_sew 5 = .ok (.iload_n 2, 1) := by decide +kernel
theorem dX9_sew_6 : decode cX9_sew 6 = .ok (.iload_n 3, 1) := by decide +kernel
theorem dX9_sew_7 : decode cX9_sew 7 = .ok (.invokevirtual 178, 3) := by decide +kernel
theorem dX9_sew_10 : decode cX9_sew 10 = .ok (.istore 4, 2) := by decide +kernel
theorem dX9_sew_12 : decode cX9_sew 12 = .ok (.iload 4, 2) := by decide +kernel
theorem dX9_sew_14 : decode cX9_sew 14 = .ok (.ifCond .eq 6, 3) := by decide +kernel
theorem dX9_sew_17 : decode cX9_sew 17 = .ok (.iload 4, 2) := by decide +kernel
theorem dX9_sew_19 : decode cX9_sew 19 = .ok (.ireturn, 1) := by decide +kernel
theorem dX9_sew_20 : decode cX9_sew 20 = .ok (.aload_n 0, 1) := by decide +kernel
theorem dX9_sew_21 : decode cX9_sew 21 = .ok (.getfield 28, 3) := by decide +kernel
theorem dX9_sew_24 : decode cX9_sew 24 = .ok (.iload_n 1, 1) := by decide +kernel
theorem dX9_sew_25 : decode cX9_sew 25 = .ok (.iload_n 2, 1) := by decide +kernel
theorem dX9_sew_26 : decode cX9_sew 26 = .ok (.iload_n 3, 1) := by decide +kernel
theorem dX9_sew_27 : decode cX9_sew 27 = .ok (.invokevirtual 182, 3) := by decide +kernel
theorem dX9_sew_30 : decode cX9_sew 30 = .ok (.pop, 1) := by decide +kernel
theorem dX9_sew_31 : decode cX9_sew 31 = .ok (.aload_n 0, 1) := by decide +kernel
theorem dX9_sew_32 : decode cX9_sew 32 = .ok (.getfield 28, 3) := by decide +kernel
theorem dX9_sew_35 : decode cX9_sew 35 = .ok (.invokevirtual 114, 3) := by decide +kernel
theorem dX9_sew_38 : decode cX9_sew 38 = .ok (.ireturn, 1) := by decide +kernel
set_option maxRecDepth 20000 in
theorem ggX9_clock_X9_isRoom : GoodIn wsX9_clock wsX9_isRoom := goodIn_r _ [5, 6, 7, 4, 8] (by decide +kernel) (by decide +kernel)
set_option maxRecDepth 20000 in
theorem gX9_clock_X9_isRoom : GoodIn wsX9_clock (va_wsS RX9 185 yX9_isRoom wsX9_isRoom) := goodIn_app (goodIn_of _ (by decide +kernel)) ggX9_clock_X9_isRoom
set_option maxRecDepth 20000 in
theorem ggX9_clock_X9_isHour : GoodIn wsX9_clock wsX9_isHour := goodIn_r _ [11, 6, 7, 4, 8] (by decide +kernel) (by decide +kernel)
set_option maxRecDepth 20000 in
theorem gX9_clock_X9_isHour : GoodIn wsX9_clock (va_wsS RX9 168 yX9_isHour wsX9_isHour) := goodIn_app (goodIn_of _ (by decide +kernel)) ggX9_clock_X9_isHour
set_option maxRecDepth 20000 in
theorem ggX9_clock_X9_isEither : GoodIn wsX9_clock wsX9_isEither := goodIn_r _ [14] (by decide +kernel) (by decide +kernel)
set_option maxRecDepth 20000 in
theorem gX9_clock_X9_isEither : GoodIn wsX9_clock (va_wsS RX9 151 yX9_isEither wsX9_isEither) := goodIn_app (goodIn_of _ (by decide +kernel)) ggX9_clock_X9_isEither
set_option maxRecDepth 20000 in
theorem ggX9_clock_X5_oclock : GoodIn wsX9_clock wsX5_oclock := goodIn_r _ [19, 20, 21, 22, 18, 23, 24, 25, 26, 27, 28, 29, 30, 31, 32, 33, 34, 35, 36, 37, 38, 39, 40, 41, 42, 43, 44, 45, 46, 47, 59, 60, 61, 62] (by decide +kernel) (by decide +kernel)
set_option maxRecDepth 20000 in
theorem gX9_clock_X5_oclock : GoodIn wsX9_clock (wsV RX9 188 RX5 yX5_oclock wsX5_oclock) := goodIn_app (goodIn_of _ (by decide +kernel)) ggX9_clock_X5_oclock
set_option maxRecDepth 20000 in
theorem ggX9_clock_X5_boxAt : GoodIn wsX9_clock wsX5_boxAt := goodIn_r _ [23, 24, 25, 26, 27, 18, 28, 29, 30, 31, 32, 33, 59, 60, 61, 62] (by decide +kernel) (by decide +kernel)
set_option maxRecDepth 20000 in
theorem gX9_clock_X5_boxAt : GoodIn wsX9_clock (wsV RX9 191 RX5 yX5_boxAt wsX5_boxAt) := goodIn_app (goodIn_of _ (by decide +kernel)) ggX9_clock_X5_boxAt
theorem dX9_clock_0 : decode cX9_clock 0 = .ok (.iload_n 1, 1) := by decide +kernel
theorem dX9_clock_1 : decode cX9_clock 1 = .ok (.invokestatic 185, 3) := by decide +kernel
theorem dX9_clock_4 : decode cX9_clock 4 = .ok (.ifCond .eq 17, 3) := by decide +kernel
theorem dX9_clock_7 : decode cX9_clock 7 = .ok (.iload_n 2, 1) := by decide +kernel
theorem dX9_clock_8 : decode cX9_clock 8 = .ok (.invokestatic 168, 3) := by decide +kernel
theorem dX9_clock_11 : decode cX9_clock 11 = .ok (.ifCond .eq 10, 3) := by decide +kernel
theorem dX9_clock_14 : decode cX9_clock 14 = .ok (.iload_n 3, 1) := by decide +kernel
theorem dX9_clock_15 : decode cX9_clock 15 = .ok (.invokestatic 151, 3) := by decide +kernel
theorem dX9_clock_18 : decode cX9_clock 18 = .ok (.ifCond .ne 5, 3) := by decide +kernel
theorem dX9_clock_21 : decode cX9_clock 21 = .ok (.iconst (-1), 1) := by decide +kernel
theorem dX9_clock_22 : decode cX9_clock 22 = .ok (.ireturn, 1) := by decide +kernel
theorem dX9_clock_23 : decode cX9_clock 23 = .ok (.iload_n 3, 1) := by decide +kernel
theorem dX9_clock_24 : decode cX9_clock 24 = .ok (.ifCond .ne 15, 3) := by decide +kernel
theorem dX9_clock_27 : decode cX9_clock 27 = .ok (.aload_n 0, 1) := by decide +kernel
theorem dX9_clock_28 : decode cX9_clock 28 = .ok (.getfield 28, 3) := by decide +kernel
theorem dX9_clock_31 : decode cX9_clock 31 = .ok (.iload_n 1, 1) := by decide +kernel
theorem dX9_clock_32 : decode cX9_clock 32 = .ok (.iload_n 2, 1) := by decide +kernel
theorem dX9_clock_33 : decode cX9_clock 33 = .ok (.invokevirtual 188, 3) := by decide +kernel
theorem dX9_clock_36 : decode cX9_clock 36 = .ok (.goto 12, 3) := by decide +kernel
theorem dX9_clock_39 : decode cX9_clock 39 = .ok (.aload_n 0, 1) := by decide +kernel
theorem dX9_clock_40 : decode cX9_clock 40 = .ok (.getfield 28, 3) := by decide +kernel
theorem dX9_clock_43 : decode cX9_clock 43 = .ok (.iload_n 1, 1) := by decide +kernel
theorem dX9_clock_44 : decode cX9_clock 44 = .ok (.iload_n 2, 1) := by decide +kernel
theorem dX9_clock_45 : decode cX9_clock 45 = .ok (.invokevirtual 191, 3) := by decide +kernel
theorem dX9_clock_48 : decode cX9_clock 48 = .ok (.ireturn, 1) := by decide +kernel
set_option maxRecDepth 20000 in
theorem ggX9_room_X9_isRoom : GoodIn wsX9_room wsX9_isRoom := goodIn_r _ [5, 6, 7, 4, 8] (by decide +kernel) (by decide +kernel)
set_option maxRecDepth 20000 in
theorem gX9_room_X9_isRoom : GoodIn wsX9_room (va_wsS RX9 185 yX9_isRoom wsX9_isRoom) := goodIn_app (goodIn_of _ (by decide +kernel)) ggX9_room_X9_isRoom
set_option maxRecDepth 20000 in
theorem ggX9_room_X9_isEither : GoodIn wsX9_room wsX9_isEither := goodIn_r _ [11] (by decide +kernel) (by decide +kernel)
set_option maxRecDepth 20000 in
theorem gX9_room_X9_isEither : GoodIn wsX9_room (va_wsS RX9 151 yX9_isEither wsX9_isEither) := goodIn_app (goodIn_of _ (by decide +kernel)) ggX9_room_X9_isEither
set_option maxRecDepth 20000 in
theorem ggX9_room_X5_yawnsIn : GoodIn wsX9_room wsX5_yawnsIn := goodIn_r _ [16, 17, 18, 19, 20, 15, 21, 22, 23, 24, 25, 26, 27, 28, 29, 30, 31, 32, 33, 34, 35, 36, 37, 38, 39, 40, 41, 42, 43, 44, 45, 46, 47, 74, 75, 76, 77] (by decide +kernel) (by decide +kernel)
set_option maxRecDepth 20000 in
theorem gX9_room_X5_yawnsIn : GoodIn wsX9_room (wsV RX9 194 RX5 yX5_yawnsIn wsX5_yawnsIn) := goodIn_app (goodIn_of _ (by decide +kernel)) ggX9_room_X5_yawnsIn
set_option maxRecDepth 20000 in
theorem ggX9_room_X5_strangeHoursIn : GoodIn wsX9_room wsX5_strangeHoursIn := goodIn_r _ [51, 52, 53, 54, 15, 55, 44, 45, 46, 47, 17, 18, 19, 20, 21, 22, 34, 35, 36, 37, 56, 57, 58, 59, 38, 39, 40, 41, 42, 43, 60, 61, 62, 63, 74, 75, 76, 77] (by decide +kernel) (by decide +kernel)
set_option maxRecDepth 20000 in
theorem gX9_room_X5_strangeHoursIn : GoodIn wsX9_room (wsV RX9 197 RX5 yX5_strangeHoursIn wsX5_strangeHoursIn) := goodIn_app (goodIn_of _ (by decide +kernel)) ggX9_room_X5_strangeHoursIn
theorem dX9_room_0 : decode cX9_room 0 = .ok (.iload_n 1, 1) := by decide +kernel
theorem dX9_room_1 : decode cX9_room 1 = .ok (.invokestatic 185, 3) := by decide +kernel
theorem dX9_room_4 : decode cX9_room 4 = .ok (.ifCond .eq 10, 3) := by decide +kernel
theorem dX9_room_7 : decode cX9_room 7 = .ok (.iload_n 2, 1) := by decide +kernel
theorem dX9_room_8 : decode cX9_room 8 = .ok (.invokestatic 151, 3) := by decide +kernel
theorem dX9_room_11 : decode cX9_room 11 = .ok (.ifCond .ne 5, 3) := by decide +kernel
theorem dX9_room_14 : decode cX9_room 14 = .ok (.iconst (-1), 1) := by decide +kernel
theorem dX9_room_15 : decode cX9_room 15 = .ok (.ireturn, 1) := by decide +kernel
theorem dX9_room_16 : decode cX9_room 16 = .ok (.iload_n 2, 1) := by decide +kernel
theorem dX9_room_17 : decode cX9_room 17 = .ok (.ifCond .ne 14, 3) := by decide +kernel
theorem dX9_room_20 : decode cX9_room 20 = .ok (.aload_n 0, 1) := by decide +kernel
theorem dX9_room_21 : decode cX9_room 21 = .ok (.getfield 28, 3) := by decide +kernel
theorem dX9_room_24 : decode cX9_room 24 = .ok (.iload_n 1, 1) := by decide +kernel
theorem dX9_room_25 : decode cX9_room 25 = .ok (.invokevirtual 194, 3) := by decide +kernel
theorem dX9_room_28 : decode cX9_room 28 = .ok (.goto 11, 3) := by decide +kernel
theorem dX9_room_31 : decode cX9_room 31 = .ok (.aload_n 0, 1) := by decide +kernel
theorem dX9_room_32 : decode cX9_room 32 = .ok (.getfield 28, 3) := by decide +kernel
theorem dX9_room_35 : decode cX9_room 35 = .ok (.iload_n 1, 1) := by decide +kernel
theorem dX9_room_36 : decode cX9_room 36 = .ok (.invokevirtual 197, 3) := by decide +kernel
theorem dX9_room_39 : decode cX9_room 39 = .ok (.ireturn, 1) := by decide +kernel
set_option maxRecDepth 20000 in
theorem ggX9_out_X5_has : GoodIn wsX9_out wsX5_has := goodIn_r _ [6, 7, 42, 43, 44, 45] (by decide +kernel) (by decide +kernel)
set_option maxRecDepth 20000 in
theorem gX9_out_X5_has : GoodIn wsX9_out (wsV RX9 131 RX5 yX5_has wsX5_has) := goodIn_app (goodIn_of _ (by decide +kernel)) ggX9_out_X5_has
set_option maxRecDepth 20000 in
theorem ggX9_out_X5_hoursBy : GoodIn wsX9_out wsX5_hoursBy := goodIn_r _ [11, 12, 13, 14, 15, 16, 17, 18, 19, 20, 21, 5, 22, 7, 23, 24, 25, 26, 27, 28, 29, 30, 31, 42, 43, 44, 45] (by decide +kernel) (by decide +kernel)
set_option maxRecDepth 20000 in
theorem gX9_out_X5_hoursBy : GoodIn wsX9_out (wsV RX9 200 RX5 yX5_hoursBy wsX5_hoursBy) := goodIn_app (goodIn_of _ (by decide +kernel)) ggX9_out_X5_hoursBy
theorem dX9_out_0 : decode cX9_out 0 = .ok (.aload_n 0, 1) := by decide +kernel
theorem dX9_out_1 : decode cX9_out 1 = .ok (.getfield 28, 3) := by decide +kernel
theorem dX9_out_4 : decode cX9_out 4 = .ok (.iload_n 1, 1) := by decide +kernel
theorem dX9_out_5 : decode cX9_out 5 = .ok (.invokevirtual 131, 3) := by decide +kernel
theorem dX9_out_8 : decode cX9_out 8 = .ok (.ifCond .eq 14, 3) := by decide +kernel
theorem dX9_out_11 : decode cX9_out 11 = .ok (.aload_n 0, 1) := by decide +kernel
theorem dX9_out_12 : decode cX9_out 12 = .ok (.getfield 28, 3) := by decide +kernel
theorem dX9_out_15 : decode cX9_out 15 = .ok (.iload_n 1, 1) := by decide +kernel
theorem dX9_out_16 : decode cX9_out 16 = .ok (.invokevirtual 200, 3) := by decide +kernel
theorem dX9_out_19 : decode cX9_out 19 = .ok (.goto 4, 3) := by decide +kernel
theorem dX9_out_22 : decode cX9_out 22 = .ok (.iconst (-1), 1) := by decide +kernel
theorem dX9_out_23 : decode cX9_out 23 = .ok (.ireturn, 1) := by decide +kernel
set_option maxRecDepth 20000 in
theorem ggX9_meet_X9_isRoom : GoodIn wsX9_meet wsX9_isRoom := goodIn_r _ [5, 6, 7, 4, 8] (by decide +kernel) (by decide +kernel)
set_option maxRecDepth 20000 in
theorem gX9_meet_X9_isRoom : GoodIn wsX9_meet (va_wsS RX9 185 yX9_isRoom wsX9_isRoom) := goodIn_app (goodIn_of _ (by decide +kernel)) ggX9_meet_X9_isRoom
set_option maxRecDepth 20000 in
theorem ggX9_meet_X5_boxAt : GoodIn wsX9_meet wsX5_boxAt := goodIn_r _ [13, 14, 15, 16, 17, 12, 18, 19, 20, 21, 22, 23, 53, 54, 55, 56] (by decide +kernel) (by decide +kernel)
set_option maxRecDepth 20000 in
theorem gX9_meet_X5_boxAt : GoodIn wsX9_meet (wsV RX9 191 RX5 yX5_boxAt wsX5_boxAt) := goodIn_app (goodIn_of _ (by decide +kernel)) ggX9_meet_X5_boxAt
set_option maxRecDepth 20000 in
theorem ggX9_meet_X5_oclock : GoodIn wsX9_meet wsX5_oclock := goodIn_r _ [27, 28, 10, 11, 12, 13, 14, 15, 16, 17, 18, 19, 20, 21, 22, 23, 29, 30, 31, 32, 33, 34, 35, 36, 37, 38, 39, 40, 41, 42, 53, 54, 55, 56] (by decide +kernel) (by decide +kernel)
set_option maxRecDepth 20000 in
theorem gX9_meet_X5_oclock : GoodIn wsX9_meet (wsV RX9 188 RX5 yX5_oclock wsX5_oclock) := goodIn_app (goodIn_of _ (by decide +kernel)) ggX9_meet_X5_oclock
theorem dX9_meet_0 : decode cX9_meet 0 = .ok (.iload_n 1, 1) := by decide +kernel
theorem dX9_meet_1 : decode cX9_meet 1 = .ok (.invokestatic 185, 3) := by decide +kernel
theorem dX9_meet_4 : decode cX9_meet 4 = .ok (.ifCond .eq 15, 3) := by decide +kernel
theorem dX9_meet_7 : decode cX9_meet 7 = .ok (.iload_n 2, 1) := by decide +kernel
theorem dX9_meet_8 : decode cX9_meet 8 = .ok (.invokestatic 185, 3) := by decide +kernel
theorem dX9_meet_11 : decode cX9_meet 11 = .ok (.ifCond .eq 8, 3) := by decide +kernel
theorem dX9_meet_14 : decode cX9_meet 14 = .ok (.iload_n 1, 1) := by decide +kernel
theorem dX9_meet_15 : decode cX9_meet 15 = .ok (.iload_n 2, 1) := by decide +kernel
theorem dX9_meet_16 : decode cX9_meet 16 = .ok (.if_icmp .ne 5, 3) := by decide +kernel
theorem dX9_meet_19 : decode cX9_meet 19 = .ok (.iconst (-1), 1) := by decide +kernel
theorem dX9_meet_20 : decode cX9_meet 20 = .ok (.ireturn, 1) := by decide +kernel
theorem dX9_meet_21 : decode cX9_meet 21 = .ok (.iconst 0, 1) := by decide +kernel
theorem dX9_meet_22 : decode cX9_meet 22 = .ok (.istore_n 3, 1) := by decide +kernel
theorem dX9_meet_23 : decode cX9_meet 23 = .ok (.iload_n 3, 1) := by decide +kernel
theorem dX9_meet_24 : decode cX9_meet 24 = .ok (.bipush 24, 2) := by decide +kernel
theorem dX9_meet_26 : decode cX9_meet 26 = .ok (.if_icmp .ge 72, 3) := by decide +kernel
theorem dX9_meet_29 : decode cX9_meet 29 = .ok (.aload_n 0, 1) := by decide +kernel
theorem dX9_meet_30 : decode cX9_meet 30 = .ok (.getfield 28, 3) := by decide +kernel
theorem dX9_meet_33 : decode cX9_meet 33 = .ok (.iload_n 1, 1) := by decide +kernel
theorem dX9_meet_34 : decode cX9_meet 34 = .ok (.iload_n 3, 1) := by decide +kernel
theorem dX9_meet_35 : decode cX9_meet 35 = .ok (.invokevirtual 191, 3) := by decide +kernel
theorem dX9_meet_38 : decode cX9_meet 38 = .ok (.bipush (-4), 2) := by decide +kernel
theorem dX9_meet_40 : decode cX9_meet 40 = .ok (.if_icmp .eq 21, 3) := by decide +kernel
theorem dX9_meet_43 : decode cX9_meet 43 = .ok (.aload_n 0, 1) := by decide +kernel
theorem dX9_meet_44 : decode cX9_meet 44 = .ok (.getfield 28, 3) := by decide +kernel
theorem dX9_meet_47 : decode cX9_meet 47 = .ok (.iload_n 2, 1) := by decide +kernel
theorem dX9_meet_48 : decode cX9_meet 48 = .ok (.iload_n 3, 1) := by decide +kernel
theorem dX9_meet_49 : decode cX9_meet 49 = .ok (.invokevirtual 191, 3) := by decide +kernel
theorem dX9_meet_52 : decode cX9_meet 52 = .ok (.bipush (-4), 2) := by decide +kernel
theorem dX9_meet_54 : decode cX9_meet 54 = .ok (.if_icmp .eq 7, 3) := by decide +kernel
theorem dX9_meet_57 : decode cX9_meet 57 = .ok (.iconst 1, 1) := by decide +kernel
theorem dX9_meet_58 : decode cX9_meet 58 = .ok (.goto 4, 3) := by decide +kernel
theorem dX9_meet_61 : decode cX9_meet 61 = .ok (.iconst 0, 1) := by decide +kernel
theorem dX9_meet_62 : decode cX9_meet 62 = .ok (.istore 4, 2) := by decide +kernel
theorem dX9_meet_64 : decode cX9_meet 64 = .ok (.iload 4, 2) := by decide +kernel
theorem dX9_meet_66 : decode cX9_meet 66 = .ok (.ifCond .eq 26, 3) := by decide +kernel
theorem dX9_meet_69 : decode cX9_meet 69 = .ok (.aload_n 0, 1) := by decide +kernel
theorem dX9_meet_70 : decode cX9_meet 70 = .ok (.getfield 28, 3) := by decide +kernel
theorem dX9_meet_73 : decode cX9_meet 73 = .ok (.iload_n 1, 1) := by decide +kernel
theorem dX9_meet_74 : decode cX9_meet 74 = .ok (.iload_n 3, 1) := by decide +kernel
theorem dX9_meet_75 : decode cX9_meet 75 = .ok (.invokevirtual 188, 3) := by decide +kernel
theorem dX9_meet_78 : decode cX9_meet 78 = .ok (.aload_n 0, 1) := by decide +kernel
theorem dX9_meet_79 : decode cX9_meet 79 = .ok (.getfield 28, 3) := by decide +kernel
theorem dX9_meet_82 : decode cX9_meet 82 = .ok (.iload_n 2, 1) := by decide +kernel
theorem dX9_meet_83 : decode cX9_meet 83 = .ok (.iload_n 3, 1) := by decide +kernel
theorem dX9_meet_84 : decode cX9_meet 84 = .ok (.invokevirtual 188, 3) := by decide +kernel
theorem dX9_meet_87 : decode cX9_meet 87 = .ok (.if_icmp .ne 5, 3) := by decide +kernel
theorem dX9_meet_90 : decode cX9_meet 90 = .ok (.iload_n 3, 1) := by decide +kernel
theorem dX9_meet_91 : decode cX9_meet 91 = .ok (.ireturn, 1) := by decide +kernel
theorem dX9_meet_92 : decode cX9_meet 92 = .ok (.iinc 3 1, 3) := by decide +kernel
theorem dX9_meet_95 : decode cX9_meet 95 = .ok (.goto (-72), 3) := by decide +kernel
theorem dX9_meet_98 : decode cX9_meet 98 = .ok (.bipush (-4), 2) := by decide +kernel
theorem dX9_meet_100 : decode cX9_meet 100 = .ok (.ireturn, 1) := by decide +kernel
set_option maxRecDepth 20000 in
theorem ggX9_first_X9_isRoom : GoodIn wsX9_first wsX9_isRoom := goodIn_r _ [5, 6, 7, 4, 8] (by decide +kernel) (by decide +kernel)
set_option maxRecDepth 20000 in
theorem gX9_first_X9_isRoom : GoodIn wsX9_first (va_wsS RX9 185 yX9_isRoom wsX9_isRoom) := goodIn_app (goodIn_of _ (by decide +kernel)) ggX9_first_X9_isRoom
set_option maxRecDepth 20000 in
theorem ggX9_first_X9_isHour : GoodIn wsX9_first wsX9_isHour := goodIn_r _ [11, 6, 7, 4, 8] (by decide +kernel) (by decide +kernel)
set_option maxRecDepth 20000 in
theorem gX9_first_X9_isHour : GoodIn wsX9_first (va_wsS RX9 168 yX9_isHour wsX9_isHour) := goodIn_app (goodIn_of _ (by decide +kernel)) ggX9_first_X9_isHour
set_option maxRecDepth 20000 in
theorem ggX9_first_X5_oclock : GoodIn wsX9_first wsX5_oclock := goodIn_r _ [16, 17, 18, 19, 15, 20, 21, 22, 23, 24, 25, 26, 27, 28, 29, 30, 31, 32, 33, 34, 35, 36, 37, 38, 39, 40, 41, 42, 43, 44, 55, 56, 57, 58] (by decide +kernel) (by decide +kernel)
set_option maxRecDepth 20000 in
theorem gX9_first_X5_oclock : GoodIn wsX9_first (wsV RX9 188 RX5 yX5_oclock wsX5_oclock) := goodIn_app (goodIn_of _ (by decide +kernel)) ggX9_first_X5_oclock
theorem dX9_first_0 : decode cX9_first 0 = .ok (.iload_n 1, 1) := by decide +kernel
theorem dX9_first_1 : decode cX9_first 1 = .ok (.invokestatic 185, 3) := by decide +kernel
theorem dX9_first_4 : decode cX9_first 4 = .ok (.ifCond .eq 10, 3) := by decide +kernel
theorem dX9_first_7 : decode cX9_first 7 = .ok (.iload_n 2, 1) := by decide +kernel
theorem dX9_first_8 : decode cX9_first 8 = .ok (.invokestatic 168, 3) := by decide +kernel
theorem dX9_first_11 : decode cX9_first 11 = .ok (.ifCond .ne 5, 3) := by decide +kernel
theorem dX9_first_14 : decode cX9_first 14 = .ok (.iconst (-1), 1) := by decide +kernel
theorem dX9_first_15 : decode cX9_first 15 = .ok (.ireturn, 1) := by decide +kernel
theorem dX9_first_16 : decode cX9_first 16 = .ok (.iconst 0, 1) := by decide +kernel
theorem dX9_first_17 : decode cX9_first 17 = .ok (.istore_n 3, 1) := by decide +kernel
theorem dX9_first_18 : decode cX9_first 18 = .ok (.iload_n 3, 1) := by decide +kernel
theorem dX9_first_19 : decode cX9_first 19 = .ok (.bipush 24, 2) := by decide +kernel
theorem dX9_first_21 : decode cX9_first 21 = .ok (.if_icmp .ge 24, 3) := by decide +kernel
theorem dX9_first_24 : decode cX9_first 24 = .ok (.aload_n 0, 1) := by decide +kernel
theorem dX9_first_25 : decode cX9_first 25 = .ok (.getfield 28, 3) := by decide +kernel
theorem dX9_first_28 : decode cX9_first 28 = .ok (.iload_n 1, 1) := by decide +kernel
theorem dX9_first_29 : decode cX9_first 29 = .ok (.iload_n 3, 1) := by decide +kernel
theorem dX9_first_30 : decode cX9_first 30 = .ok (.invokevirtual 188, 3) := by decide +kernel
theorem dX9_first_33 : decode cX9_first 33 = .ok (.iload_n 2, 1) := by decide +kernel
theorem dX9_first_34 : decode cX9_first 34 = .ok (.if_icmp .ne 5, 3) := by decide +kernel
theorem dX9_first_37 : decode cX9_first 37 = .ok (.iload_n 3, 1) := by decide +kernel
theorem dX9_first_38 : decode cX9_first 38 = .ok (.ireturn, 1) := by decide +kernel
theorem dX9_first_39 : decode cX9_first 39 = .ok (.iinc 3 1, 3) := by decide +kernel
theorem dX9_first_42 : decode cX9_first 42 = .ok (.goto (-24), 3) := by decide +kernel
theorem dX9_first_45 : decode cX9_first 45 = .ok (.bipush (-4), 2) := by decide +kernel
theorem dX9_first_47 : decode cX9_first 47 = .ok (.ireturn, 1) := by decide +kernel
set_option maxRecDepth 20000 in
theorem ggX9_best_X5_has : GoodIn wsX9_best wsX5_has := goodIn_r _ [7, 8, 114, 115, 116, 117] (by decide +kernel) (by decide +kernel)
set_option maxRecDepth 20000 in
theorem gX9_best_X5_has : GoodIn wsX9_best (wsV RX9 131 RX5 yX5_has wsX5_has) := goodIn_app (goodIn_of _ (by decide +kernel)) ggX9_best_X5_has
set_option maxRecDepth 20000 in
theorem ggX9_best_X3_bestOrder : GoodIn wsX9_best wsX3_bestOrder := goodIn_r _ [13, 14, 15, 16, 17, 18, 19, 6, 20, 21, 22, 23, 24, 25, 26, 8, 27, 28, 29, 30, 31, 32, 33, 34, 35, 36, 37, 38, 39, 40, 41, 42, 43, 44, 45, 46, 47, 48, 49, 50, 51, 52, 53, 54, 55, 56, 57, 58, 59, 60, 61, 62, 63, 64, 65, 12, 66, 67, 68, 69, 70, 71, 72, 73, 74, 75, 76, 4, 5, 7, 77, 78, 79, 80, 81, 82, 83, 84, 118, 119, 120, 121, 114, 115, 116, 117, 122, 123] (by decide +kernel) (by decide +kernel)
set_option maxRecDepth 20000 in
theorem gX9_best_X3_bestOrder : GoodIn wsX9_best (wsV RX9 203 RX3 yX3_bestOrder wsX3_bestOrder) := goodIn_app (goodIn_of _ (by decide +kernel)) ggX9_best_X3_bestOrder
set_option maxRecDepth 20000 in
theorem ggX9_best_X3_told : GoodIn wsX9_best wsX3_told := goodIn_r _ [88, 15, 89, 90, 91, 35, 92, 37, 93, 94, 95, 96, 38, 118, 119, 120, 121, 122, 123] (by decide +kernel) (by decide +kernel)
set_option maxRecDepth 20000 in
theorem gX9_best_X3_told : GoodIn wsX9_best (wsV RX9 206 RX3 yX3_told wsX3_told) := goodIn_app (goodIn_of _ (by decide +kernel)) ggX9_best_X3_told
set_option maxRecDepth 20000 in
theorem ggX9_best_X3_bestBoxIn : GoodIn wsX9_best wsX3_bestBoxIn := goodIn_r _ [100, 67, 101, 102, 103, 118, 119, 120, 121] (by decide +kernel) (by decide +kernel)
set_option maxRecDepth 20000 in
theorem gX9_best_X3_bestBoxIn : GoodIn wsX9_best (wsV RX9 209 RX3 yX3_bestBoxIn wsX3_bestBoxIn) := goodIn_app (goodIn_of _ (by decide +kernel)) ggX9_best_X3_bestBoxIn
theorem dX9_best_0 : decode cX9_best 0 = .ok (.iload_n 1, 1) := by decide +kernel
theorem dX9_best_1 : decode cX9_best 1 = .ok (.bipush 10, 2) := by decide +kernel
theorem dX9_best_3 : decode cX9_best 3 = .ok (.isub, 1) := by decide +kernel
theorem dX9_best_4 : decode cX9_best 4 = .ok (.istore_n 2, 1) := by decide +kernel
theorem dX9_best_5 : decode cX9_best 5 = .ok (.iload_n 1, 1) := by decide +kernel
theorem dX9_best_6 : decode cX9_best 6 = .ok (.ifCond .eq 22, 3) := by decide +kernel
theorem dX9_best_9 : decode cX9_best 9 = .ok (.iload_n 1, 1) := by decide +kernel
theorem dX9_best_10 : decode cX9_best 10 = .ok (.bipush 10, 2) := by decide +kernel
theorem dX9_best_12 : decode cX9_best 12 = .ok (.if_icmp .lt 14, 3) := by decide +kernel
theorem dX9_best_15 : decode cX9_best 15 = .ok (.aload_n 0, 1) := by decide +kernel
theorem dX9_best_16 : decode cX9_best 16 = .ok (.getfield 28, 3) := by decide +kernel
theorem dX9_best_19 : decode cX9_best 19 = .ok (.iload_n 2, 1) := by decide +kernel
theorem dX9_best_20 : decode cX9_best 20 = .ok (.invokevirtual 131, 3) := by decide +kernel
theorem dX9_best_23 : decode cX9_best 23 = .ok (.ifCond .ne 5, 3) := by decide +kernel
theorem dX9_best_26 : decode cX9_best 26 = .ok (.iconst (-1), 1) := by decide +kernel
theorem dX9_best_27 : decode cX9_best 27 = .ok (.ireturn, 1) := by decide +kernel
theorem dX9_best_28 : decode cX9_best 28 = .ok (.aload_n 0, 1) := by decide +kernel
theorem dX9_best_29 : decode cX9_best 29 = .ok (.getfield 56, 3) := by decide +kernel
theorem dX9_best_32 : decode cX9_best 32 = .ok (.aload_n 0, 1) := by decide +kernel
theorem dX9_best_33 : decode cX9_best 33 = .ok (.getfield 28, 3) := by decide +kernel
theorem dX9_best_36 : decode cX9_best 36 = .ok (.invokevirtual 203, 3) := by decide +kernel
theorem dX9_best_39 : decode cX9_best 39 = .ok (.iload_n 1, 1) := by decide +kernel
theorem dX9_best_40 : decode cX9_best 40 = .ok (.ifCond .ne 14, 3) := by decide +kernel
theorem dX9_best_43 : decode cX9_best 43 = .ok (.aload_n 0, 1) := by decide +kernel
theorem dX9_best_44 : decode cX9_best 44 = .ok (.getfield 56, 3) := by decide +kernel
theorem dX9_best_47 : decode cX9_best 47 = .ok (.iconst 1, 1) := by decide +kernel
theorem dX9_best_48 : decode cX9_best 48 = .ok (.invokevirtual 206, 3) := by decide +kernel
theorem dX9_best_51 : decode cX9_best 51 = .ok (.goto 11, 3) := by decide +kernel
theorem dX9_best_54 : decode cX9_best 54 = .ok (.aload_n 0, 1) := by decide +kernel
theorem dX9_best_55 : decode cX9_best 55 = .ok (.getfield 56, 3) := by decide +kernel
theorem dX9_best_58 : decode cX9_best 58 = .ok (.iload_n 2, 1) := by decide +kernel
theorem dX9_best_59 : decode cX9_best 59 = .ok (.invokevirtual 209, 3) := by decide +kernel
theorem dX9_best_62 : decode cX9_best 62 = .ok (.ireturn, 1) := by decide +kernel
set_option maxRecDepth 20000 in
theorem ggX9_begin_X9_isEither : GoodIn wsX9_begin wsX9_isEither := goodIn_r _ [6] (by decide +kernel) (by decide +kernel)
set_option maxRecDepth 20000 in
theorem gX9_begin_X9_isEither : GoodIn wsX9_begin (va_wsS RX9 151 yX9_isEither wsX9_isEither) := goodIn_app (goodIn_of _ (by decide +kernel)) ggX9_begin_X9_isEither
set_option maxRecDepth 20000 in
theorem ggX9_begin_X3_bestStart : GoodIn wsX9_begin wsX3_bestStart := goodIn_r _ [11, 12, 13, 14, 15, 16, 17, 18, 19, 20, 21, 22, 23, 24, 25, 26, 27, 28, 29, 30, 31, 32, 33, 34, 35, 36, 37, 38, 39, 40, 41, 42, 43, 44, 45, 46, 47, 48, 49, 50, 51, 52, 53, 54, 55, 56, 57, 58, 59, 60, 61, 62, 85, 86, 87, 88, 89, 90, 91, 92, 93, 94] (by decide +kernel) (by decide +kernel)
set_option maxRecDepth 20000 in
theorem gX9_begin_X3_bestStart : GoodIn wsX9_begin (wsV RX9 212 RX3 yX3_bestStart wsX3_bestStart) := goodIn_app (goodIn_of _ (by decide +kernel)) ggX9_begin_X3_bestStart
set_option maxRecDepth 20000 in
theorem ggX9_begin_X3_told : GoodIn wsX9_begin wsX3_told := goodIn_r _ [66, 13, 67, 68, 69, 31, 70, 33, 71, 72, 73, 74, 34, 85, 86, 87, 88, 93, 94] (by decide +kernel) (by decide +kernel)
set_option maxRecDepth 20000 in
theorem gX9_begin_X3_told : GoodIn wsX9_begin (wsV RX9 206 RX3 yX3_told wsX3_told) := goodIn_app (goodIn_of _ (by decide +kernel)) ggX9_begin_X3_told
theorem dX9_begin_0 : decode cX9_begin 0 = .ok (.iload_n 1, 1) := by decide +kernel
theorem dX9_begin_1 : decode cX9_begin 1 = .ok (.invokestatic 151, 3) := by decide +kernel
theorem dX9_begin_4 : decode cX9_begin 4 = .ok (.ifCond .ne 5, 3) := by decide +kernel
theorem dX9_begin_7 : decode cX9_begin 7 = .ok (.iconst (-1), 1) := by decide +kernel
theorem dX9_begin_8 : decode cX9_begin 8 = .ok (.ireturn, 1) := by decide +kernel
theorem dX9_begin_9 : decode cX9_begin 9 = .ok (.aload_n 0, 1) := by decide +kernel
theorem dX9_begin_10 : decode cX9_begin 10 = .ok (.getfield 56, 3) := by decide +kernel
theorem dX9_begin_13 : decode cX9_begin 13 = .ok (.aload_n 0, 1) := by decide +kernel
theorem dX9_begin_14 : decode cX9_begin 14 = .ok (.getfield 28, 3) := by decide +kernel
theorem dX9_begin_17 : decode cX9_begin 17 = .ok (.invokevirtual 212, 3) := by decide +kernel
theorem dX9_begin_20 : decode cX9_begin 20 = .ok (.aload_n 0, 1) := by decide +kernel
theorem dX9_begin_21 : decode cX9_begin 21 = .ok (.getfield 56, 3) := by decide +kernel
theorem dX9_begin_24 : decode cX9_begin 24 = .ok (.iload_n 1, 1) := by decide +kernel
theorem dX9_begin_25 : decode cX9_begin 25 = .ok (.invokevirtual 206, 3) := by decide +kernel
theorem dX9_begin_28 : decode cX9_begin 28 = .ok (.ireturn, 1) := by decide +kernel
set_option maxRecDepth 20000 in
theorem ggX9_swap_X9_isEither : GoodIn wsX9_swap wsX9_isEither := goodIn_r _ [6] (by decide +kernel) (by decide +kernel)
set_option maxRecDepth 20000 in
theorem gX9_swap_X9_isEither : GoodIn wsX9_swap (va_wsS RX9 151 yX9_isEither wsX9_isEither) := goodIn_app (goodIn_of _ (by decide +kernel)) ggX9_swap_X9_isEither
set_option maxRecDepth 20000 in
theorem ggX9_swap_X3_bestExchange : GoodIn wsX9_swap wsX3_bestExchange := goodIn_r _ [11, 12, 13, 14, 15, 16, 17, 18, 19, 20, 21, 22, 23, 24, 25, 26, 27, 28, 29, 30, 31, 32, 33, 34, 35, 36, 37, 38, 39, 40, 41, 42, 43, 44, 45, 46, 47, 48, 49, 50, 51, 52, 53, 54, 55, 56, 57, 58, 59, 60, 61, 62, 63, 64, 65, 66, 67, 68, 69, 92, 93, 94, 95, 96, 97, 98, 99, 100, 101] (by decide +kernel) (by decide +kernel)
set_option maxRecDepth 20000 in
theorem gX9_swap_X3_bestExchange : GoodIn wsX9_swap (wsV RX9 215 RX3 yX3_bestExchange wsX3_bestExchange) := goodIn_app (goodIn_of _ (by decide +kernel)) ggX9_swap_X3_bestExchange
set_option maxRecDepth 20000 in
theorem ggX9_swap_X3_told : GoodIn wsX9_swap wsX3_told := goodIn_r _ [73, 13, 74, 75, 76, 50, 77, 52, 78, 79, 80, 81, 53, 92, 93, 94, 95, 100, 101] (by decide +kernel) (by decide +kernel)
set_option maxRecDepth 20000 in
theorem gX9_swap_X3_told : GoodIn wsX9_swap (wsV RX9 206 RX3 yX3_told wsX3_told) := goodIn_app (goodIn_of _ (by decide +kernel)) ggX9_swap_X3_told
theorem dX9_swap_0 : decode cX9_swap 0 = .ok (.iload_n 1, 1) := by decide +kernel
theorem dX9_swap_1 : decode cX9_swap 1 = .ok (.invokestatic 151, 3) := by decide +kernel
theorem dX9_swap_4 : decode cX9_swap 4 = .ok (.ifCond .ne 5, 3) := by decide +kernel
theorem dX9_swap_7 : decode cX9_swap 7 = .ok (.iconst (-1), 1) := by decide +kernel
theorem dX9_swap_8 : decode cX9_swap 8 = .ok (.ireturn, 1) := by decide +kernel
theorem dX9_swap_9 : decode cX9_swap 9 = .ok (.aload_n 0, 1) := by decide +kernel
theorem dX9_swap_10 : decode cX9_swap 10 = .ok (.getfield 56, 3) := by decide +kernel
theorem dX9_swap_13 : decode cX9_swap 13 = .ok (.aload_n 0, 1) := by decide +kernel
theorem dX9_swap_14 : decode cX9_swap 14 = .ok (.getfield 28, 3) := by decide +kernel
theorem dX9_swap_17 : decode cX9_swap 17 = .ok (.invokevirtual 215, 3) := by decide +kernel
theorem dX9_swap_20 : decode cX9_swap 20 = .ok (.aload_n 0, 1) := by decide +kernel
theorem dX9_swap_21 : decode cX9_swap 21 = .ok (.getfield 56, 3) := by decide +kernel
theorem dX9_swap_24 : decode cX9_swap 24 = .ok (.iload_n 1, 1) := by decide +kernel
theorem dX9_swap_25 : decode cX9_swap 25 = .ok (.invokevirtual 206, 3) := by decide +kernel
theorem dX9_swap_28 : decode cX9_swap 28 = .ok (.ireturn, 1) := by decide +kernel
set_option maxRecDepth 20000 in
theorem ggX9_longer_X5_has : GoodIn wsX9_longer wsX5_has := goodIn_r _ [7, 8, 49, 50, 51, 52] (by decide +kernel) (by decide +kernel)
set_option maxRecDepth 20000 in
theorem gX9_longer_X5_has : GoodIn wsX9_longer (wsV RX9 131 RX5 yX5_has wsX5_has) := goodIn_app (goodIn_of _ (by decide +kernel)) ggX9_longer_X5_has
set_option maxRecDepth 20000 in
theorem ggX9_longer_X3_leastLonger : GoodIn wsX9_longer wsX3_leastLonger := goodIn_r _ [13, 14, 15, 16, 17, 6, 18, 19, 20, 21, 22, 23, 24, 8, 25, 26, 27, 28, 29, 30, 31, 32, 33, 34, 35, 36, 37, 38, 53, 54, 55, 56, 49, 50, 51, 52] (by decide +kernel) (by decide +kernel)
set_option maxRecDepth 20000 in
theorem gX9_longer_X3_leastLonger : GoodIn wsX9_longer (wsV RX9 218 RX3 yX3_leastLonger wsX3_leastLonger) := goodIn_app (goodIn_of _ (by decide +kernel)) ggX9_longer_X3_leastLonger
theorem dX9_longer_0 : decode cX9_longer 0 = .ok (.aload_n 0, 1) := by decide +kernel
theorem dX9_longer_1 : decode cX9_longer 1 = .ok (.getfield 28, 3) := by decide +kernel
theorem dX9_longer_4 : decode cX9_longer 4 = .ok (.iload_n 1, 1) := by decide +kernel
theorem dX9_longer_5 : decode cX9_longer 5 = .ok (.invokevirtual 131, 3) := by decide +kernel
theorem dX9_longer_8 : decode cX9_longer 8 = .ok (.ifCond .eq 18, 3) := by decide +kernel
theorem dX9_longer_11 : decode cX9_longer 11 = .ok (.aload_n 0, 1) := by decide +kernel
theorem dX9_longer_12 : decode cX9_longer 12 = .ok (.getfield 56, 3) := by decide +kernel
theorem dX9_longer_15 : decode cX9_longer 15 = .ok (.aload_n 0, 1) := by decide +kernel
theorem dX9_longer_16 : decode cX9_longer 16 = .ok (.getfield 28, 3) := by decide +kernel
theorem dX9_longer_19 : decode cX9_longer 19 = .ok (.iload_n 1, 1) := by decide +kernel
theorem dX9_longer_20 : decode cX9_longer 20 = .ok (.invokevirtual 218, 3) := by decide +kernel
theorem dX9_longer_23 : decode cX9_longer 23 = .ok (.goto 4, 3) := by decide +kernel
theorem dX9_longer_26 : decode cX9_longer 26 = .ok (.iconst (-1), 1) := by decide +kernel
theorem dX9_longer_27 : decode cX9_longer 27 = .ok (.ireturn, 1) := by decide +kernel
set_option maxRecDepth 20000 in
theorem ggX9_when_X5_has : GoodIn wsX9_when wsX5_has := goodIn_r _ [7, 8, 76, 77, 78, 79] (by decide +kernel) (by decide +kernel)
set_option maxRecDepth 20000 in
theorem gX9_when_X5_has : GoodIn wsX9_when (wsV RX9 131 RX5 yX5_has wsX5_has) := goodIn_app (goodIn_of _ (by decide +kernel)) ggX9_when_X5_has
set_option maxRecDepth 20000 in
theorem ggX9_when_X9_isHour : GoodIn wsX9_when wsX9_isHour := goodIn_r _ [12, 13, 14, 11, 15] (by decide +kernel) (by decide +kernel)
set_option maxRecDepth 20000 in
theorem gX9_when_X9_isHour : GoodIn wsX9_when (va_wsS RX9 168 yX9_isHour wsX9_isHour) := goodIn_app (goodIn_of _ (by decide +kernel)) ggX9_when_X9_isHour
set_option maxRecDepth 20000 in
theorem ggX9_when_X3_firstOpening : GoodIn wsX9_when wsX3_firstOpening := goodIn_r _ [20, 21, 22, 23, 24, 6, 25, 26, 27, 28, 29, 30, 31, 8, 32, 33, 34, 35, 36, 37, 38, 39, 40, 41, 42, 43, 44, 45, 46, 47, 48, 49, 50, 51, 52, 53, 54, 55, 56, 57, 58, 59, 60, 61, 62, 63, 64, 65, 80, 81, 82, 83, 76, 77, 78, 79] (by decide +kernel) (by decide +kernel)
set_option maxRecDepth 20000 in
theorem gX9_when_X3_firstOpening : GoodIn wsX9_when (wsV RX9 222 RX3 yX3_firstOpening wsX3_firstOpening) := goodIn_app (goodIn_of _ (by decide +kernel)) ggX9_when_X3_firstOpening
theorem dX9_when_0 : decode cX9_when 0 = .ok (.aload_n 0, 1) := by decide +kernel
theorem dX9_when_1 : decode cX9_when 1 = .ok (.getfield 28, 3) := by decide +kernel
theorem dX9_when_4 : decode cX9_when 4 = .ok (.iload_n 1, 1) := by decide +kernel
theorem dX9_when_5 : decode cX9_when 5 = .ok (.invokevirtual 131, 3) := by decide +kernel
theorem dX9_when_8 : decode cX9_when 8 = .ok (.ifCond .eq 17, 3) := by decide +kernel
theorem dX9_when_11 : decode cX9_when 11 = .ok (.iload_n 2, 1) := by decide +kernel
theorem dX9_when_12 : decode cX9_when 12 = .ok (.invokestatic 168, 3) := by decide +kernel
theorem dX9_when_15 : decode cX9_when 15 = .ok (.ifCond .eq 10, 3) := by decide +kernel
theorem dX9_when_18 : decode cX9_when 18 = .ok (.iload_n 3, 1) := by decide +kernel
theorem dX9_when_19 : decode cX9_when 19 = .ok (.invokestatic 168, 3) := by decide +kernel
theorem dX9_when_22 : decode cX9_when 22 = .ok (.ifCond .ne 5, 3) := by decide +kernel
theorem dX9_when_25 : decode cX9_when 25 = .ok (.iconst (-1), 1) := by decide +kernel
theorem dX9_when_26 : decode cX9_when 26 = .ok (.ireturn, 1) := by decide +kernel
theorem dX9_when_27 : decode cX9_when 27 = .ok (.aload_n 0, 1) := by decide +kernel
theorem dX9_when_28 : decode cX9_when 28 = .ok (.getfield 56, 3) := by decide +kernel
theorem dX9_when_31 : decode cX9_when 31 = .ok (.aload_n 0, 1) := by decide +kernel
theorem dX9_when_32 : decode cX9_when 32 = .ok (.getfield 28, 3) := by decide +kernel
theorem dX9_when_35 : decode cX9_when 35 = .ok (.iload_n 1, 1) := by decide +kernel
theorem dX9_when_36 : decode cX9_when 36 = .ok (.iload_n 2, 1) := by decide +kernel
theorem dX9_when_37 : decode cX9_when 37 = .ok (.iload_n 3, 1) := by decide +kernel
theorem dX9_when_38 : decode cX9_when 38 = .ok (.invokevirtual 222, 3) := by decide +kernel
theorem dX9_when_41 : decode cX9_when 41 = .ok (.ireturn, 1) := by decide +kernel
set_option maxRecDepth 20000 in
theorem ggX9_wake_X9_fewestYawns : GoodIn wsX9_wake wsX9_fewestYawns := goodIn_r _ [5, 6, 7, 8, 9, 10, 11, 12, 13, 14, 15, 4, 16, 17, 18, 19, 20, 21, 22, 23, 24, 25, 26, 27, 28, 29, 30, 31, 32, 33, 34, 35, 36, 37, 38, 39, 40, 41, 42, 43, 44, 45, 46, 47, 48, 49, 50, 51, 52, 53, 54, 55, 56, 57, 58, 59, 60, 61, 62, 63, 64, 65, 66, 67, 68, 69, 70, 71, 72, 73, 74, 75, 76, 77, 78, 79, 80, 81, 82, 83, 84, 85, 86, 87, 88, 89, 90, 91, 92, 93, 94, 95, 96, 97, 98, 99, 100, 101, 102, 103, 104, 105, 106, 107, 108, 109, 110, 111, 112, 113, 114, 115, 116, 117, 118, 119, 120, 121, 122, 123, 124, 125, 126] (by decide +kernel) (by decide +kernel)
set_option maxRecDepth 20000 in
theorem gX9_wake_X9_fewestYawns : GoodIn wsX9_wake (wsV RX9 226 RX9 yX9_fewestYawns wsX9_fewestYawns) := goodIn_app (goodIn_of _ (by decide +kernel)) ggX9_wake_X9_fewestYawns
theorem dX9_wake_0 : decode cX9_wake 0 = .ok (.aload_n 0, 1) := by decide +kernel
theorem dX9_wake_1 : decode cX9_wake 1 = .ok (.iload_n 1, 1) := by decide +kernel
theorem dX9_wake_2 : decode cX9_wake 2 = .ok (.iconst 4, 1) := by decide +kernel
theorem dX9_wake_3 : decode cX9_wake 3 = .ok (.iload_n 2, 1) := by decide +kernel
theorem dX9_wake_4 : decode cX9_wake 4 = .ok (.invokevirtual 226, 3) := by decide +kernel
theorem dX9_wake_7 : decode cX9_wake 7 = .ok (.ireturn, 1) := by decide +kernel
set_option maxRecDepth 20000 in
theorem ggX9_where_X9_fewestYawns : GoodIn wsX9_where wsX9_fewestYawns := goodIn_r _ [5, 6, 7, 8, 9, 10, 11, 12, 13, 14, 15, 4, 16, 17, 18, 19, 20, 21, 22, 23, 24, 25, 26, 27, 28, 29, 30, 31, 32, 33, 34, 35, 36, 37, 38, 39, 40, 41, 42, 43, 44, 45, 46, 47, 48, 49, 50, 51, 52, 53, 54, 55, 56, 57, 58, 59, 60, 61, 62, 63, 64, 65, 66, 67, 68, 69, 70, 71, 72, 73, 74, 75, 76, 77, 78, 79, 80, 81, 82, 83, 84, 85, 86, 87, 88, 89, 90, 91, 92, 93, 94, 95, 96, 97, 98, 99, 100, 101, 102, 103, 104, 105, 106, 107, 108, 109, 110, 111, 112, 113, 114, 115, 116, 117, 118, 119, 120, 121, 122, 123, 124, 125, 126] (by decide +kernel) (by decide +kernel)
set_option maxRecDepth 20000 in
theorem gX9_where_X9_fewestYawns : GoodIn wsX9_where (wsV RX9 226 RX9 yX9_fewestYawns wsX9_fewestYawns) := goodIn_app (goodIn_of _ (by decide +kernel)) ggX9_where_X9_fewestYawns
theorem dX9_where_0 : decode cX9_where 0 = .ok (.aload_n 0, 1) := by decide +kernel
theorem dX9_where_1 : decode cX9_where 1 = .ok (.iload_n 1, 1) := by decide +kernel
theorem dX9_where_2 : decode cX9_where 2 = .ok (.iconst 5, 1) := by decide +kernel
theorem dX9_where_3 : decode cX9_where 3 = .ok (.iload_n 2, 1) := by decide +kernel
theorem dX9_where_4 : decode cX9_where 4 = .ok (.invokevirtual 226, 3) := by decide +kernel
theorem dX9_where_7 : decode cX9_where 7 = .ok (.ireturn, 1) := by decide +kernel
set_option maxRecDepth 20000 in
theorem ggX9_fewestYawns_X5_has : GoodIn wsX9_fewestYawns wsX5_has := goodIn_r _ [7, 8, 113, 114, 115, 116] (by decide +kernel) (by decide +kernel)
set_option maxRecDepth 20000 in
theorem gX9_fewestYawns_X5_has : GoodIn wsX9_fewestYawns (wsV RX9 131 RX5 yX5_has wsX5_has) := goodIn_app (goodIn_of _ (by decide +kernel)) ggX9_fewestYawns_X5_has
set_option maxRecDepth 20000 in
theorem ggX9_fewestYawns_X9_isEither : GoodIn wsX9_fewestYawns wsX9_isEither := goodIn_r _ [12] (by decide +kernel) (by decide +kernel)
set_option maxRecDepth 20000 in
theorem gX9_fewestYawns_X9_isEither : GoodIn wsX9_fewestYawns (va_wsS RX9 151 yX9_isEither wsX9_isEither) := goodIn_app (goodIn_of _ (by decide +kernel)) ggX9_fewestYawns_X9_isEither
set_option maxRecDepth 20000 in
theorem ggX9_fewestYawns_X3_fewestYawns : GoodIn wsX9_fewestYawns wsX3_fewestYawns := goodIn_r _ [17, 18, 19, 20, 21, 22, 23, 6, 24, 25, 26, 27, 28, 29, 30, 8, 31, 32, 33, 34, 35, 36, 37, 38, 39, 40, 41, 42, 43, 44, 45, 46, 11, 47, 48, 49, 50, 51, 52, 53, 54, 55, 56, 57, 58, 59, 60, 61, 62, 63, 64, 65, 66, 67, 68, 69, 70, 71, 72, 73, 74, 75, 76, 77, 78, 79, 80, 81, 82, 83, 84, 85, 86, 87, 88, 89, 90, 117, 118, 119, 120, 113, 114, 115, 116, 121, 122] (by decide +kernel) (by decide +kernel)
set_option maxRecDepth 20000 in
theorem gX9_fewestYawns_X3_fewestYawns : GoodIn wsX9_fewestYawns (wsV RX9 229 RX3 yX3_fewestYawns wsX3_fewestYawns) := goodIn_app (goodIn_of _ (by decide +kernel)) ggX9_fewestYawns_X3_fewestYawns
set_option maxRecDepth 20000 in
theorem ggX9_fewestYawns_X3_told : GoodIn wsX9_fewestYawns wsX3_told := goodIn_r _ [94, 19, 95, 96, 97, 35, 98, 37, 99, 100, 101, 102, 38, 117, 118, 119, 120, 121, 122] (by decide +kernel) (by decide +kernel)
