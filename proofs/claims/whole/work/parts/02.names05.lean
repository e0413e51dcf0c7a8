set_option maxRecDepth 20000 in
theorem gX9_fewestYawns_X3_told : GoodIn wsX9_fewestYawns (wsV RX9 206 RX3 yX3_told wsX3_told) := goodIn_app (goodIn_of _ (by decide +kernel)) ggX9_fewestYawns_X3_told
theorem dX9_fewestYawns_0 : decode cX9_fewestYawns 0 = .ok (.aload_n 0, 1) := by decide +kernel
theorem dX9_fewestYawns_1 : decode cX9_fewestYawns 1 = .ok (.getfield 28, 3) := by decide +kernel
theorem dX9_fewestYawns_4 : decode cX9_fewestYawns 4 = .ok (.iload_n 1, 1) := by decide +kernel
theorem dX9_fewestYawns_5 : decode cX9_fewestYawns 5 = .ok (.invokevirtual 131, 3) := by decide +kernel
theorem dX9_fewestYawns_8 : decode cX9_fewestYawns 8 = .ok (.ifCond .eq 10, 3) := by decide +kernel
theorem dX9_fewestYawns_11 : decode cX9_fewestYawns 11 = .ok (.iload_n 3, 1) := by decide +kernel
theorem dX9_fewestYawns_12 : decode cX9_fewestYawns 12 = .ok (.invokestatic 151, 3) := by decide +kernel
theorem dX9_fewestYawns_15 : decode cX9_fewestYawns 15 = .ok (.ifCond .ne 5, 3) := by decide +kernel
theorem dX9_fewestYawns_18 : decode cX9_fewestYawns 18 = .ok (.iconst (-1), 1) := by decide +kernel
theorem dX9_fewestYawns_19 : decode cX9_fewestYawns 19 = .ok (.ireturn, 1) := by decide +kernel
theorem dX9_fewestYawns_20 : decode cX9_fewestYawns 20 = .ok (.aload_n 0, 1) := by decide +kernel
theorem dX9_fewestYawns_21 : decode cX9_fewestYawns 21 = .ok (.getfield 56, 3) := by decide +kernel
theorem dX9_fewestYawns_24 : decode cX9_fewestYawns 24 = .ok (.aload_n 0, 1) := by decide +kernel
theorem dX9_fewestYawns_25 : decode cX9_fewestYawns 25 = .ok (.getfield 28, 3) := by decide +kernel
theorem dX9_fewestYawns_28 : decode cX9_fewestYawns 28 = .ok (.iload_n 1, 1) := by decide +kernel
theorem dX9_fewestYawns_29 : decode cX9_fewestYawns 29 = .ok (.iload_n 2, 1) := by decide +kernel
theorem dX9_fewestYawns_30 : decode cX9_fewestYawns 30 = .ok (.invokevirtual 229, 3) := by decide +kernel
theorem dX9_fewestYawns_33 : decode cX9_fewestYawns 33 = .ok (.aload_n 0, 1) := by decide +kernel
theorem dX9_fewestYawns_34 : decode cX9_fewestYawns 34 = .ok (.getfield 56, 3) := by decide +kernel
theorem dX9_fewestYawns_37 : decode cX9_fewestYawns 37 = .ok (.iload_n 3, 1) := by decide +kernel
theorem dX9_fewestYawns_38 : decode cX9_fewestYawns 38 = .ok (.invokevirtual 206, 3) := by decide +kernel
theorem dX9_fewestYawns_41 : decode cX9_fewestYawns 41 = .ok (.ireturn, 1) := by decide +kernel
set_option maxRecDepth 20000 in
theorem ggX9_luck_X9_within : GoodIn wsX9_luck wsX9_within := goodIn_r _ [7] (by decide +kernel) (by decide +kernel)
set_option maxRecDepth 20000 in
theorem gX9_luck_X9_within : GoodIn wsX9_luck (va_wsS RX9 67 yX9_within wsX9_within) := goodIn_app (goodIn_of _ (by decide +kernel)) ggX9_luck_X9_within
set_option maxRecDepth 20000 in
theorem ggX9_luck_X5_has : GoodIn wsX9_luck wsX5_has := goodIn_r _ [12, 13, 68, 69, 70, 71] (by decide +kernel) (by decide +kernel)
set_option maxRecDepth 20000 in
theorem gX9_luck_X5_has : GoodIn wsX9_luck (wsV RX9 131 RX5 yX5_has wsX5_has) := goodIn_app (goodIn_of _ (by decide +kernel)) ggX9_luck_X5_has
set_option maxRecDepth 20000 in
theorem ggX9_luck_X9_isEither : GoodIn wsX9_luck wsX9_isEither := goodIn_r _ [16] (by decide +kernel) (by decide +kernel)
set_option maxRecDepth 20000 in
theorem gX9_luck_X9_isEither : GoodIn wsX9_luck (va_wsS RX9 151 yX9_isEither wsX9_isEither) := goodIn_app (goodIn_of _ (by decide +kernel)) ggX9_luck_X9_isEither
set_option maxRecDepth 20000 in
theorem ggX9_luck_X2_ofWantedHour : GoodIn wsX9_luck wsX2_ofWantedHour := goodIn_r _ [21, 22, 23, 24, 25, 26, 20, 27, 28, 29, 30, 31, 11, 32, 13, 33, 34, 35, 36, 37, 38, 39, 40, 41, 42, 43, 44, 45, 46, 47, 48, 49, 50, 51, 52, 53, 72, 73, 74, 68, 69, 70, 71] (by decide +kernel) (by decide +kernel)
set_option maxRecDepth 20000 in
theorem gX9_luck_X2_ofWantedHour : GoodIn wsX9_luck (wsV RX9 234 RX2 yX2_ofWantedHour wsX2_ofWantedHour) := goodIn_app (goodIn_of _ (by decide +kernel)) ggX9_luck_X2_ofWantedHour
set_option maxRecDepth 20000 in
theorem ggX9_luck_X2_told : GoodIn wsX9_luck wsX2_told := goodIn_r _ [57, 23, 28, 72, 73, 74] (by decide +kernel) (by decide +kernel)
set_option maxRecDepth 20000 in
theorem gX9_luck_X2_told : GoodIn wsX9_luck (wsV RX9 237 RX2 yX2_told wsX2_told) := goodIn_app (goodIn_of _ (by decide +kernel)) ggX9_luck_X2_told
theorem dX9_luck_0 : decode cX9_luck 0 = .ok (.iload_n 1, 1) := by decide +kernel
theorem dX9_luck_1 : decode cX9_luck 1 = .ok (.iconst 0, 1) := by decide +kernel
theorem dX9_luck_2 : decode cX9_luck 2 = .ok (.bipush 10, 2) := by decide +kernel
theorem dX9_luck_4 : decode cX9_luck 4 = .ok (.invokestatic 67, 3) := by decide +kernel
theorem dX9_luck_7 : decode cX9_luck 7 = .ok (.ifCond .eq 21, 3) := by decide +kernel
theorem dX9_luck_10 : decode cX9_luck 10 = .ok (.aload_n 0, 1) := by decide +kernel
theorem dX9_luck_11 : decode cX9_luck 11 = .ok (.getfield 28, 3) := by decide +kernel
theorem dX9_luck_14 : decode cX9_luck 14 = .ok (.iload_n 2, 1) := by decide +kernel
theorem dX9_luck_15 : decode cX9_luck 15 = .ok (.invokevirtual 131, 3) := by decide +kernel
theorem dX9_luck_18 : decode cX9_luck 18 = .ok (.ifCond .eq 10, 3) := by decide +kernel
theorem dX9_luck_21 : decode cX9_luck 21 = .ok (.iload_n 3, 1) := by decide +kernel
theorem dX9_luck_22 : decode cX9_luck 22 = .ok (.invokestatic 151, 3) := by decide +kernel
theorem dX9_luck_25 : decode cX9_luck 25 = .ok (.ifCond .ne 7, 3) := by decide +kernel
theorem dX9_luck_28 : decode cX9_luck 28 = .ok (.ldc2_w 232, 3) := by decide +kernel
theorem dX9_luck_31 : decode cX9_luck 31 = .ok (.lreturn, 1) := by decide +kernel
theorem dX9_luck_32 : decode cX9_luck 32 = .ok (.aload_n 0, 1) := by decide +kernel
theorem dX9_luck_33 : decode cX9_luck 33 = .ok (.getfield 63, 3) := by decide +kernel
theorem dX9_luck_36 : decode cX9_luck 36 = .ok (.aload_n 0, 1) := by decide +kernel
theorem dX9_luck_37 : decode cX9_luck 37 = .ok (.getfield 28, 3) := by decide +kernel
theorem dX9_luck_40 : decode cX9_luck 40 = .ok (.iload_n 2, 1) := by decide +kernel
theorem dX9_luck_41 : decode cX9_luck 41 = .ok (.iload_n 1, 1) := by decide +kernel
theorem dX9_luck_42 : decode cX9_luck 42 = .ok (.invokevirtual 234, 3) := by decide +kernel
theorem dX9_luck_45 : decode cX9_luck 45 = .ok (.aload_n 0, 1) := by decide +kernel
theorem dX9_luck_46 : decode cX9_luck 46 = .ok (.getfield 63, 3) := by decide +kernel
theorem dX9_luck_49 : decode cX9_luck 49 = .ok (.iload_n 3, 1) := by decide +kernel
theorem dX9_luck_50 : decode cX9_luck 50 = .ok (.invokevirtual 237, 3) := by decide +kernel
theorem dX9_luck_53 : decode cX9_luck 53 = .ok (.lreturn, 1) := by decide +kernel
set_option maxRecDepth 20000 in
theorem ggX9_mean_X9_within : GoodIn wsX9_mean wsX9_within := goodIn_r _ [7] (by decide +kernel) (by decide +kernel)
set_option maxRecDepth 20000 in
theorem gX9_mean_X9_within : GoodIn wsX9_mean (va_wsS RX9 67 yX9_within wsX9_within) := goodIn_app (goodIn_of _ (by decide +kernel)) ggX9_mean_X9_within
set_option maxRecDepth 20000 in
theorem ggX9_mean_X9_isEither : GoodIn wsX9_mean wsX9_isEither := goodIn_r _ [10] (by decide +kernel) (by decide +kernel)
set_option maxRecDepth 20000 in
theorem gX9_mean_X9_isEither : GoodIn wsX9_mean (va_wsS RX9 151 yX9_isEither wsX9_isEither) := goodIn_app (goodIn_of _ (by decide +kernel)) ggX9_mean_X9_isEither
set_option maxRecDepth 20000 in
theorem ggX9_mean_X2_ofMeanWrong : GoodIn wsX9_mean wsX2_ofMeanWrong := goodIn_r _ [15, 16, 17, 18, 19, 20, 14, 21, 22, 23, 24, 25, 26, 27, 28, 29, 30, 31, 32, 33, 34, 35, 36, 37, 38, 39, 40, 41, 42, 43, 44, 45, 46, 47, 48, 49, 50, 51, 52, 53, 54, 55, 56, 57, 58, 59, 60, 61, 62, 63, 64, 65, 66, 67, 68, 83, 84, 85, 86, 87, 88, 89] (by decide +kernel) (by decide +kernel)
set_option maxRecDepth 20000 in
theorem gX9_mean_X2_ofMeanWrong : GoodIn wsX9_mean (wsV RX9 240 RX2 yX2_ofMeanWrong wsX2_ofMeanWrong) := goodIn_app (goodIn_of _ (by decide +kernel)) ggX9_mean_X2_ofMeanWrong
set_option maxRecDepth 20000 in
theorem ggX9_mean_X2_told : GoodIn wsX9_mean wsX2_told := goodIn_r _ [72, 17, 22, 83, 84, 85] (by decide +kernel) (by decide +kernel)
set_option maxRecDepth 20000 in
theorem gX9_mean_X2_told : GoodIn wsX9_mean (wsV RX9 237 RX2 yX2_told wsX2_told) := goodIn_app (goodIn_of _ (by decide +kernel)) ggX9_mean_X2_told
theorem dX9_mean_0 : decode cX9_mean 0 = .ok (.iload_n 1, 1) := by decide +kernel
theorem dX9_mean_1 : decode cX9_mean 1 = .ok (.iconst 0, 1) := by decide +kernel
theorem dX9_mean_2 : decode cX9_mean 2 = .ok (.bipush 10, 2) := by decide +kernel
theorem dX9_mean_4 : decode cX9_mean 4 = .ok (.invokestatic 67, 3) := by decide +kernel
theorem dX9_mean_7 : decode cX9_mean 7 = .ok (.ifCond .eq 10, 3) := by decide +kernel
theorem dX9_mean_10 : decode cX9_mean 10 = .ok (.iload_n 2, 1) := by decide +kernel
theorem dX9_mean_11 : decode cX9_mean 11 = .ok (.invokestatic 151, 3) := by decide +kernel
theorem dX9_mean_14 : decode cX9_mean 14 = .ok (.ifCond .ne 7, 3) := by decide +kernel
theorem dX9_mean_17 : decode cX9_mean 17 = .ok (.ldc2_w 232, 3) := by decide +kernel
theorem dX9_mean_20 : decode cX9_mean 20 = .ok (.lreturn, 1) := by decide +kernel
theorem dX9_mean_21 : decode cX9_mean 21 = .ok (.aload_n 0, 1) := by decide +kernel
theorem dX9_mean_22 : decode cX9_mean 22 = .ok (.getfield 63, 3) := by decide +kernel
theorem dX9_mean_25 : decode cX9_mean 25 = .ok (.aload_n 0, 1) := by decide +kernel
theorem dX9_mean_26 : decode cX9_mean 26 = .ok (.getfield 28, 3) := by decide +kernel
theorem dX9_mean_29 : decode cX9_mean 29 = .ok (.iload_n 1, 1) := by decide +kernel
theorem dX9_mean_30 : decode cX9_mean 30 = .ok (.invokevirtual 240, 3) := by decide +kernel
theorem dX9_mean_33 : decode cX9_mean 33 = .ok (.aload_n 0, 1) := by decide +kernel
theorem dX9_mean_34 : decode cX9_mean 34 = .ok (.getfield 63, 3) := by decide +kernel
theorem dX9_mean_37 : decode cX9_mean 37 = .ok (.iload_n 2, 1) := by decide +kernel
theorem dX9_mean_38 : decode cX9_mean 38 = .ok (.invokevirtual 237, 3) := by decide +kernel
theorem dX9_mean_41 : decode cX9_mean 41 = .ok (.lreturn, 1) := by decide +kernel
set_option maxRecDepth 20000 in
theorem ggX9_see_X9_isRoom : GoodIn wsX9_see wsX9_isRoom := goodIn_r _ [5, 6, 7, 4, 8] (by decide +kernel) (by decide +kernel)
set_option maxRecDepth 20000 in
theorem gX9_see_X9_isRoom : GoodIn wsX9_see (va_wsS RX9 185 yX9_isRoom wsX9_isRoom) := goodIn_app (goodIn_of _ (by decide +kernel)) ggX9_see_X9_isRoom
set_option maxRecDepth 20000 in
theorem ggX9_see_X9_isHour : GoodIn wsX9_see wsX9_isHour := goodIn_r _ [11, 6, 7, 4, 8] (by decide +kernel) (by decide +kernel)
set_option maxRecDepth 20000 in
theorem gX9_see_X9_isHour : GoodIn wsX9_see (va_wsS RX9 168 yX9_isHour wsX9_isHour) := goodIn_app (goodIn_of _ (by decide +kernel)) ggX9_see_X9_isHour
set_option maxRecDepth 20000 in
theorem ggX9_see_X6_isFull : GoodIn wsX9_see wsX6_isFull := goodIn_r _ [16, 17, 40, 41, 42, 43] (by decide +kernel) (by decide +kernel)
set_option maxRecDepth 20000 in
theorem gX9_see_X6_isFull : GoodIn wsX9_see (wsV RX9 244 RX6 yX6_isFull wsX6_isFull) := goodIn_app (goodIn_of _ (by decide +kernel)) ggX9_see_X6_isFull
set_option maxRecDepth 20000 in
theorem ggX9_see_X6_add : GoodIn wsX9_see wsX6_add := goodIn_r _ [21, 22, 17, 23, 24, 25, 13, 14, 15, 16, 40, 41, 42, 43] (by decide +kernel) (by decide +kernel)
set_option maxRecDepth 20000 in
theorem gX9_see_X6_add : GoodIn wsX9_see (wsV RX9 245 RX6 yX6_add wsX6_add) := goodIn_app (goodIn_of _ (by decide +kernel)) ggX9_see_X6_add
set_option maxRecDepth 20000 in
theorem ggX9_see_X6_size : GoodIn wsX9_see wsX6_size := goodIn_r _ [29, 17, 40, 41, 42, 43] (by decide +kernel) (by decide +kernel)
set_option maxRecDepth 20000 in
theorem gX9_see_X6_size : GoodIn wsX9_see (wsV RX9 248 RX6 yX6_size wsX6_size) := goodIn_app (goodIn_of _ (by decide +kernel)) ggX9_see_X6_size
theorem dX9_see_0 : decode cX9_see 0 = .ok (.iload_n 1, 1) := by decide +kernel
theorem dX9_see_1 : decode cX9_see 1 = .ok (.invokestatic 185, 3) := by decide +kernel
theorem dX9_see_4 : decode cX9_see 4 = .ok (.ifCond .eq 17, 3) := by decide +kernel
theorem dX9_see_7 : decode cX9_see 7 = .ok (.iload_n 2, 1) := by decide +kernel
theorem dX9_see_8 : decode cX9_see 8 = .ok (.invokestatic 168, 3) := by decide +kernel
theorem dX9_see_11 : decode cX9_see 11 = .ok (.ifCond .eq 10, 3) := by decide +kernel
theorem dX9_see_14 : decode cX9_see 14 = .ok (.iload_n 3, 1) := by decide +kernel
theorem dX9_see_15 : decode cX9_see 15 = .ok (.invokestatic 168, 3) := by decide +kernel
theorem dX9_see_18 : decode cX9_see 18 = .ok (.ifCond .ne 5, 3) := by decide +kernel
theorem dX9_see_21 : decode cX9_see 21 = .ok (.iconst (-1), 1) := by decide +kernel
theorem dX9_see_22 : decode cX9_see 22 = .ok (.ireturn, 1) := by decide +kernel
theorem dX9_see_23 : decode cX9_see 23 = .ok (.aload_n 0, 1) := by decide +kernel
theorem dX9_see_24 : decode cX9_see 24 = .ok (.getfield 35, 3) := by decide +kernel
theorem dX9_see_27 : decode cX9_see 27 = .ok (.invokevirtual 244, 3) := by decide +kernel
theorem dX9_see_30 : decode cX9_see 30 = .ok (.ifCond .eq 6, 3) := by decide +kernel
theorem dX9_see_33 : decode cX9_see 33 = .ok (.bipush (-3), 2) := by decide +kernel
theorem dX9_see_35 : decode cX9_see 35 = .ok (.ireturn, 1) := by decide +kernel
theorem dX9_see_36 : decode cX9_see 36 = .ok (.aload_n 0, 1) := by decide +kernel
theorem dX9_see_37 : decode cX9_see 37 = .ok (.getfield 35, 3) := by decide +kernel
theorem dX9_see_40 : decode cX9_see 40 = .ok (.iload_n 1, 1) := by decide +kernel
theorem dX9_see_41 : decode cX9_see 41 = .ok (.iload_n 2, 1) := by decide +kernel
theorem dX9_see_42 : decode cX9_see 42 = .ok (.iload_n 3, 1) := by decide +kernel
theorem dX9_see_43 : decode cX9_see 43 = .ok (.invokevirtual 245, 3) := by decide +kernel
theorem dX9_see_46 : decode cX9_see 46 = .ok (.aload_n 0, 1) := by decide +kernel
theorem dX9_see_47 : decode cX9_see 47 = .ok (.getfield 35, 3) := by decide +kernel
theorem dX9_see_50 : decode cX9_see 50 = .ok (.invokevirtual 248, 3) := by decide +kernel
theorem dX9_see_53 : decode cX9_see 53 = .ok (.ireturn, 1) := by decide +kernel
set_option maxRecDepth 20000 in
theorem ggX9_forget_X6_size : GoodIn wsX9_forget wsX6_size := goodIn_r _ [6, 7, 26, 27, 28, 29] (by decide +kernel) (by decide +kernel)
set_option maxRecDepth 20000 in
theorem gX9_forget_X6_size : GoodIn wsX9_forget (wsV RX9 248 RX6 yX6_size wsX6_size) := goodIn_app (goodIn_of _ (by decide +kernel)) ggX9_forget_X6_size
set_option maxRecDepth 20000 in
theorem ggX9_forget_X9_within : GoodIn wsX9_forget wsX9_within := goodIn_r _ [11] (by decide +kernel) (by decide +kernel)
set_option maxRecDepth 20000 in
theorem gX9_forget_X9_within : GoodIn wsX9_forget (va_wsS RX9 67 yX9_within wsX9_within) := goodIn_app (goodIn_of _ (by decide +kernel)) ggX9_forget_X9_within
set_option maxRecDepth 20000 in
theorem ggX9_forget_X6_cut : GoodIn wsX9_forget wsX6_cut := goodIn_r _ [15, 7, 9, 10, 11, 26, 27, 28, 29] (by decide +kernel) (by decide +kernel)
set_option maxRecDepth 20000 in
theorem gX9_forget_X6_cut : GoodIn wsX9_forget (wsV RX9 107 RX6 yX6_cut wsX6_cut) := goodIn_app (goodIn_of _ (by decide +kernel)) ggX9_forget_X6_cut
theorem dX9_forget_0 : decode cX9_forget 0 = .ok (.aload_n 0, 1) := by decide +kernel
theorem dX9_forget_1 : decode cX9_forget 1 = .ok (.getfield 35, 3) := by decide +kernel
theorem dX9_forget_4 : decode cX9_forget 4 = .ok (.invokevirtual 248, 3) := by decide +kernel
theorem dX9_forget_7 : decode cX9_forget 7 = .ok (.istore_n 2, 1) := by decide +kernel
theorem dX9_forget_8 : decode cX9_forget 8 = .ok (.iload_n 1, 1) := by decide +kernel
theorem dX9_forget_9 : decode cX9_forget 9 = .ok (.iconst 0, 1) := by decide +kernel
theorem dX9_forget_10 : decode cX9_forget 10 = .ok (.iload_n 2, 1) := by decide +kernel
theorem dX9_forget_11 : decode cX9_forget 11 = .ok (.invokestatic 67, 3) := by decide +kernel
theorem dX9_forget_14 : decode cX9_forget 14 = .ok (.ifCond .ne 5, 3) := by decide +kernel
theorem dX9_forget_17 : decode cX9_forget 17 = .ok (.iconst (-1), 1) := by decide +kernel
theorem dX9_forget_18 : decode cX9_forget 18 = .ok (.ireturn, 1) := by decide +kernel
theorem dX9_forget_19 : decode cX9_forget 19 = .ok (.aload_n 0, 1) := by decide +kernel
theorem dX9_forget_20 : decode cX9_forget 20 = .ok (.getfield 35, 3) := by decide +kernel
theorem dX9_forget_23 : decode cX9_forget 23 = .ok (.iload_n 1, 1) := by decide +kernel
theorem dX9_forget_24 : decode cX9_forget 24 = .ok (.invokevirtual 107, 3) := by decide +kernel
theorem dX9_forget_27 : decode cX9_forget 27 = .ok (.iload_n 2, 1) := by decide +kernel
theorem dX9_forget_28 : decode cX9_forget 28 = .ok (.ireturn, 1) := by decide +kernel
set_option maxRecDepth 20000 in
theorem ggX9_starts_X3_startsAsSeen : GoodIn wsX9_starts wsX3_startsAsSeen := goodIn_r _ [8, 9, 10, 11, 12, 13, 14, 15, 16, 17, 18, 19, 20, 21, 22, 23, 24, 25, 26, 27, 28, 29, 30, 31, 32, 33, 34, 35, 36, 37, 38, 39, 40, 41, 42, 43, 44, 45, 46, 47, 48, 49, 50, 51, 52, 53, 54, 55, 56, 57, 58, 59, 60, 61, 62, 63, 74, 75, 76, 77, 78, 79, 80, 81, 82, 83, 84, 85] (by decide +kernel) (by decide +kernel)
set_option maxRecDepth 20000 in
theorem gX9_starts_X3_startsAsSeen : GoodIn wsX9_starts (wsV RX9 249 RX3 yX3_startsAsSeen wsX3_startsAsSeen) := goodIn_app (goodIn_of _ (by decide +kernel)) ggX9_starts_X3_startsAsSeen
theorem dX9_starts_0 : decode cX9_starts 0 = .ok (.aload_n 0, 1) := by decide +kernel
theorem dX9_starts_1 : decode cX9_starts 1 = .ok (.getfield 56, 3) := by decide +kernel
theorem dX9_starts_4 : decode cX9_starts 4 = .ok (.aload_n 0, 1) := by decide +kernel
theorem dX9_starts_5 : decode cX9_starts 5 = .ok (.getfield 28, 3) := by decide +kernel
theorem dX9_starts_8 : decode cX9_starts 8 = .ok (.aload_n 0, 1) := by decide +kernel
theorem dX9_starts_9 : decode cX9_starts 9 = .ok (.getfield 35, 3) := by decide +kernel
theorem dX9_starts_12 : decode cX9_starts 12 = .ok (.invokevirtual 249, 3) := by decide +kernel
theorem dX9_starts_15 : decode cX9_starts 15 = .ok (.ireturn, 1) := by decide +kernel
set_option maxRecDepth 20000 in
theorem ggX9_kinds_X5_has : GoodIn wsX9_kinds wsX5_has := goodIn_r _ [8, 9, 92, 93, 94, 95] (by decide +kernel) (by decide +kernel)
set_option maxRecDepth 20000 in
theorem gX9_kinds_X5_has : GoodIn wsX9_kinds (wsV RX9 131 RX5 yX5_has wsX5_has) := goodIn_app (goodIn_of _ (by decide +kernel)) ggX9_kinds_X5_has
set_option maxRecDepth 20000 in
theorem ggX9_kinds_X3_factsAsSeen : GoodIn wsX9_kinds wsX3_factsAsSeen := goodIn_r _ [14, 15, 16, 17, 18, 7, 19, 20, 21, 22, 23, 24, 25, 9, 26, 27, 28, 29, 30, 31, 32, 33, 34, 35, 36, 37, 38, 39, 40, 41, 42, 43, 44, 45, 46, 47, 48, 49, 50, 51, 52, 53, 54, 55, 56, 57, 58, 59, 60, 61, 62, 63, 64, 65, 66, 67, 68, 69, 70, 71, 72, 73, 74, 75, 76, 77, 78, 79, 80, 81, 96, 97, 98, 99, 92, 93, 94, 95, 100, 101, 102, 103] (by decide +kernel) (by decide +kernel)
set_option maxRecDepth 20000 in
theorem gX9_kinds_X3_factsAsSeen : GoodIn wsX9_kinds (wsV RX9 253 RX3 yX3_factsAsSeen wsX3_factsAsSeen) := goodIn_app (goodIn_of _ (by decide +kernel)) ggX9_kinds_X3_factsAsSeen
theorem dX9_kinds_0 : decode cX9_kinds 0 = .ok (.aload_n 0, 1) := by decide +kernel
theorem dX9_kinds_1 : decode cX9_kinds 1 = .ok (.getfield 28, 3) := by decide +kernel
theorem dX9_kinds_4 : decode cX9_kinds 4 = .ok (.iload_n 1, 1) := by decide +kernel
theorem dX9_kinds_5 : decode cX9_kinds 5 = .ok (.invokevirtual 131, 3) := by decide +kernel
theorem dX9_kinds_8 : decode cX9_kinds 8 = .ok (.ifCond .eq 23, 3) := by decide +kernel
theorem dX9_kinds_11 : decode cX9_kinds 11 = .ok (.aload_n 0, 1) := by decide +kernel
theorem dX9_kinds_12 : decode cX9_kinds 12 = .ok (.getfield 56, 3) := by decide +kernel
theorem dX9_kinds_15 : decode cX9_kinds 15 = .ok (.aload_n 0, 1) := by decide +kernel
theorem dX9_kinds_16 : decode cX9_kinds 16 = .ok (.getfield 28, 3) := by decide +kernel
theorem dX9_kinds_19 : decode cX9_kinds 19 = .ok (.aload_n 0, 1) := by decide +kernel
theorem dX9_kinds_20 : decode cX9_kinds 20 = .ok (.getfield 35, 3) := by decide +kernel
theorem dX9_kinds_23 : decode cX9_kinds 23 = .ok (.iload_n 1, 1) := by decide +kernel
theorem dX9_kinds_24 : decode cX9_kinds 24 = .ok (.iconst 0, 1) := by decide +kernel
theorem dX9_kinds_25 : decode cX9_kinds 25 = .ok (.invokevirtual 253, 3) := by decide +kernel
theorem dX9_kinds_28 : decode cX9_kinds 28 = .ok (.goto 4, 3) := by decide +kernel
theorem dX9_kinds_31 : decode cX9_kinds 31 = .ok (.iconst (-1), 1) := by decide +kernel
theorem dX9_kinds_32 : decode cX9_kinds 32 = .ok (.ireturn, 1) := by decide +kernel
set_option maxRecDepth 20000 in
theorem ggX9_works_X5_has : GoodIn wsX9_works wsX5_has := goodIn_r _ [8, 9, 92, 93, 94, 95] (by decide +kernel) (by decide +kernel)
set_option maxRecDepth 20000 in
theorem gX9_works_X5_has : GoodIn wsX9_works (wsV RX9 131 RX5 yX5_has wsX5_has) := goodIn_app (goodIn_of _ (by decide +kernel)) ggX9_works_X5_has
set_option maxRecDepth 20000 in
theorem ggX9_works_X3_factsAsSeen : GoodIn wsX9_works wsX3_factsAsSeen := goodIn_r _ [14, 15, 16, 17, 18, 7, 19, 20, 21, 22, 23, 24, 25, 9, 26, 27, 28, 29, 30, 31, 32, 33, 34, 35, 36, 37, 38, 39, 40, 41, 42, 43, 44, 45, 46, 47, 48, 49, 50, 51, 52, 53, 54, 55, 56, 57, 58, 59, 60, 61, 62, 63, 64, 65, 66, 67, 68, 69, 70, 71, 72, 73, 74, 75, 76, 77, 78, 79, 80, 81, 96, 97, 98, 99, 92, 93, 94, 95, 100, 101, 102, 103] (by decide +kernel) (by decide +kernel)
set_option maxRecDepth 20000 in
theorem gX9_works_X3_factsAsSeen : GoodIn wsX9_works (wsV RX9 253 RX3 yX3_factsAsSeen wsX3_factsAsSeen) := goodIn_app (goodIn_of _ (by decide +kernel)) ggX9_works_X3_factsAsSeen
theorem dX9_works_0 : decode cX9_works 0 = .ok (.aload_n 0, 1) := by decide +kernel
theorem dX9_works_1 : decode cX9_works 1 = .ok (.getfield 28, 3) := by decide +kernel
theorem dX9_works_4 : decode cX9_works 4 = .ok (.iload_n 1, 1) := by decide +kernel
theorem dX9_works_5 : decode cX9_works 5 = .ok (.invokevirtual 131, 3) := by decide +kernel
theorem dX9_works_8 : decode cX9_works 8 = .ok (.ifCond .eq 23, 3) := by decide +kernel
theorem dX9_works_11 : decode cX9_works 11 = .ok (.aload_n 0, 1) := by decide +kernel
theorem dX9_works_12 : decode cX9_works 12 = .ok (.getfield 56, 3) := by decide +kernel
theorem dX9_works_15 : decode cX9_works 15 = .ok (.aload_n 0, 1) := by decide +kernel
theorem dX9_works_16 : decode cX9_works 16 = .ok (.getfield 28, 3) := by decide +kernel
theorem dX9_works_19 : decode cX9_works 19 = .ok (.aload_n 0, 1) := by decide +kernel
theorem dX9_works_20 : decode cX9_works 20 = .ok (.getfield 35, 3) := by decide +kernel
theorem dX9_works_23 : decode cX9_works 23 = .ok (.iload_n 1, 1) := by decide +kernel
theorem dX9_works_24 : decode cX9_works 24 = .ok (.iconst 1, 1) := by decide +kernel
theorem dX9_works_25 : decode cX9_works 25 = .ok (.invokevirtual 253, 3) := by decide +kernel
theorem dX9_works_28 : decode cX9_works 28 = .ok (.goto 4, 3) := by decide +kernel
theorem dX9_works_31 : decode cX9_works 31 = .ok (.iconst (-1), 1) := by decide +kernel
theorem dX9_works_32 : decode cX9_works 32 = .ok (.ireturn, 1) := by decide +kernel
set_option maxRecDepth 20000 in
theorem ggX9_ask_X9_isEither : GoodIn wsX9_ask wsX9_isEither := goodIn_r _ [7] (by decide +kernel) (by decide +kernel)
set_option maxRecDepth 20000 in
theorem gX9_ask_X9_isEither : GoodIn wsX9_ask (va_wsS RX9 151 yX9_isEither wsX9_isEither) := goodIn_app (goodIn_of _ (by decide +kernel)) ggX9_ask_X9_isEither
set_option maxRecDepth 20000 in
theorem ggX9_ask_X3_startsAsSeen : GoodIn wsX9_ask wsX3_startsAsSeen := goodIn_r _ [12, 13, 14, 15, 16, 17, 18, 19, 20, 21, 22, 23, 24, 25, 26, 27, 28, 29, 30, 31, 32, 33, 34, 35, 36, 37, 38, 39, 40, 41, 42, 43, 44, 45, 46, 47, 48, 49, 50, 51, 52, 53, 54, 55, 56, 57, 58, 59, 60, 61, 62, 63, 64, 65, 66, 67, 133, 134, 135, 136, 137, 138, 139, 140, 141, 142, 143, 144] (by decide +kernel) (by decide +kernel)
set_option maxRecDepth 20000 in
theorem gX9_ask_X3_startsAsSeen : GoodIn wsX9_ask (wsV RX9 249 RX3 yX3_startsAsSeen wsX3_startsAsSeen) := goodIn_app (goodIn_of _ (by decide +kernel)) ggX9_ask_X3_startsAsSeen
set_option maxRecDepth 20000 in
theorem ggX9_ask_X3_bestLook : GoodIn wsX9_ask wsX3_bestLook := goodIn_r _ [71, 13, 72, 14, 15, 16, 17, 18, 19, 20, 21, 22, 23, 24, 25, 26, 73, 74, 75, 76, 77, 78, 79, 80, 81, 82, 83, 84, 85, 86, 87, 88, 89, 90, 91, 92, 93, 11, 94, 95, 96, 97, 98, 99, 100, 45, 46, 47, 48, 49, 50, 51, 52, 53, 54, 55, 27, 28, 29, 30, 101, 57, 58, 59, 60, 61, 62, 63, 64, 65, 66, 67, 102, 6, 103, 104, 105, 106, 107, 108, 109, 110, 133, 134, 135, 136, 137, 138, 139, 140, 145, 146] (by decide +kernel) (by decide +kernel)
set_option maxRecDepth 20000 in
theorem gX9_ask_X3_bestLook : GoodIn wsX9_ask (wsV RX9 257 RX3 yX3_bestLook wsX3_bestLook) := goodIn_app (goodIn_of _ (by decide +kernel)) ggX9_ask_X3_bestLook
set_option maxRecDepth 20000 in
theorem ggX9_ask_X3_told : GoodIn wsX9_ask wsX3_told := goodIn_r _ [114, 72, 115, 116, 117, 83, 118, 85, 119, 120, 121, 122, 86, 133, 134, 135, 136, 145, 146] (by decide +kernel) (by decide +kernel)
set_option maxRecDepth 20000 in
theorem gX9_ask_X3_told : GoodIn wsX9_ask (wsV RX9 206 RX3 yX3_told wsX3_told) := goodIn_app (goodIn_of _ (by decide +kernel)) ggX9_ask_X3_told
theorem dX9_ask_0 : decode cX9_ask 0 = .ok (.iload_n 1, 1) := by decide +kernel
theorem dX9_ask_1 : decode cX9_ask 1 = .ok (.invokestatic 151, 3) := by decide +kernel
theorem dX9_ask_4 : decode cX9_ask 4 = .ok (.ifCond .ne 5, 3) := by decide +kernel
theorem dX9_ask_7 : decode cX9_ask 7 = .ok (.iconst (-1), 1) := by decide +kernel
theorem dX9_ask_8 : decode cX9_ask 8 = .ok (.ireturn, 1) := by decide +kernel
theorem dX9_ask_9 : decode cX9_ask 9 = .ok (.aload_n 0, 1) := by decide +kernel
theorem dX9_ask_10 : decode cX9_ask 10 = .ok (.getfield 56, 3) := by decide +kernel
theorem dX9_ask_13 : decode cX9_ask 13 = .ok (.aload_n 0, 1) := by decide +kernel
theorem dX9_ask_14 : decode cX9_ask 14 = .ok (.getfield 28, 3) := by decide +kernel
theorem dX9_ask_17 : decode cX9_ask 17 = .ok (.aload_n 0, 1) := by decide +kernel
theorem dX9_ask_18 : decode cX9_ask 18 = .ok (.getfield 56, 3) := by decide +kernel
theorem dX9_ask_21 : decode cX9_ask 21 = .ok (.aload_n 0, 1) := by decide +kernel
theorem dX9_ask_22 : decode cX9_ask 22 = .ok (.getfield 28, 3) := by decide +kernel
theorem dX9_ask_25 : decode cX9_ask 25 = .ok (.aload_n 0, 1) := by decide +kernel
theorem dX9_ask_26 : decode cX9_ask 26 = .ok (.getfield 35, 3) := by decide +kernel
theorem dX9_ask_29 : decode cX9_ask 29 = .ok (.invokevirtual 249, 3) := by decide +kernel
theorem dX9_ask_32 : decode cX9_ask 32 = .ok (.invokevirtual 257, 3) := by decide +kernel
theorem dX9_ask_35 : decode cX9_ask 35 = .ok (.aload_n 0, 1) := by decide +kernel
theorem dX9_ask_36 : decode cX9_ask 36 = .ok (.getfield 56, 3) := by decide +kernel
theorem dX9_ask_39 : decode cX9_ask 39 = .ok (.iload_n 1, 1) := by decide +kernel
theorem dX9_ask_40 : decode cX9_ask 40 = .ok (.invokevirtual 206, 3) := by decide +kernel
theorem dX9_ask_43 : decode cX9_ask 43 = .ok (.ireturn, 1) := by decide +kernel
set_option maxRecDepth 20000 in
theorem ggX9_drift_X9_within : GoodIn wsX9_drift wsX9_within := goodIn_r _ [6] (by decide +kernel) (by decide +kernel)
set_option maxRecDepth 20000 in
theorem gX9_drift_X9_within : GoodIn wsX9_drift (va_wsS RX9 67 yX9_within wsX9_within) := goodIn_app (goodIn_of _ (by decide +kernel)) ggX9_drift_X9_within
set_option maxRecDepth 20000 in
theorem ggX9_drift_X9_isEither : GoodIn wsX9_drift wsX9_isEither := goodIn_r _ [9] (by decide +kernel) (by decide +kernel)
set_option maxRecDepth 20000 in
theorem gX9_drift_X9_isEither : GoodIn wsX9_drift (va_wsS RX9 151 yX9_isEither wsX9_isEither) := goodIn_app (goodIn_of _ (by decide +kernel)) ggX9_drift_X9_isEither
set_option maxRecDepth 20000 in
theorem ggX9_drift_X5_size : GoodIn wsX9_drift wsX5_size := goodIn_r _ [14, 15, 100, 101, 102, 103] (by decide +kernel) (by decide +kernel)
set_option maxRecDepth 20000 in
theorem gX9_drift_X5_size : GoodIn wsX9_drift (wsV RX9 114 RX5 yX5_size wsX5_size) := goodIn_app (goodIn_of _ (by decide +kernel)) ggX9_drift_X5_size
set_option maxRecDepth 20000 in
theorem ggX9_drift_X3_drifted : GoodIn wsX9_drift wsX3_drifted := goodIn_r _ [20, 21, 22, 23, 11, 12, 13, 14, 15, 24, 25, 26, 27, 28, 29, 30, 31, 32, 33, 34, 35, 36, 37, 38, 39, 40, 41, 42, 43, 44, 45, 46, 47, 48, 49, 50, 51, 52, 53, 54, 55, 56, 57, 58, 59, 60, 61, 62, 63, 64, 65, 66, 67, 68, 69, 70, 71, 72, 73, 74, 75, 76, 77, 78, 79, 80, 81, 82, 83, 84, 85, 86, 87, 88, 89, 104, 105, 106, 107, 100, 101, 102, 103] (by decide +kernel) (by decide +kernel)
set_option maxRecDepth 20000 in
theorem gX9_drift_X3_drifted : GoodIn wsX9_drift (wsV RX9 260 RX3 yX3_drifted wsX3_drifted) := goodIn_app (goodIn_of _ (by decide +kernel)) ggX9_drift_X3_drifted
theorem dX9_drift_0 : decode cX9_drift 0 = .ok (.iload_n 2, 1) := by decide +kernel
theorem dX9_drift_1 : decode cX9_drift 1 = .ok (.iconst 1, 1) := by decide +kernel
theorem dX9_drift_2 : decode cX9_drift 2 = .ok (.bipush 60, 2) := by decide +kernel
theorem dX9_drift_4 : decode cX9_drift 4 = .ok (.invokestatic 67, 3) := by decide +kernel
theorem dX9_drift_7 : decode cX9_drift 7 = .ok (.ifCond .eq 10, 3) := by decide +kernel
theorem dX9_drift_10 : decode cX9_drift 10 = .ok (.iload_n 3, 1) := by decide +kernel
theorem dX9_drift_11 : decode cX9_drift 11 = .ok (.invokestatic 151, 3) := by decide +kernel
theorem dX9_drift_14 : decode cX9_drift 14 = .ok (.ifCond .ne 5, 3) := by decide +kernel
theorem dX9_drift_17 : decode cX9_drift 17 = .ok (.iconst (-1), 1) := by decide +kernel
theorem dX9_drift_18 : decode cX9_drift 18 = .ok (.ireturn, 1) := by decide +kernel
theorem dX9_drift_19 : decode cX9_drift 19 = .ok (.aload_n 0, 1) := by decide +kernel
theorem dX9_drift_20 : decode cX9_drift 20 = .ok (.getfield 28, 3) := by decide +kernel
theorem dX9_drift_23 : decode cX9_drift 23 = .ok (.invokevirtual 114, 3) := by decide +kernel
theorem dX9_drift_26 : decode cX9_drift 26 = .ok (.ifCond .ne 6, 3) := by decide +kernel
theorem dX9_drift_29 : decode cX9_drift 29 = .ok (.bipush (-2), 2) := by decide +kernel
theorem dX9_drift_31 : decode cX9_drift 31 = .ok (.ireturn, 1) := by decide +kernel
theorem dX9_drift_32 : decode cX9_drift 32 = .ok (.aload_n 0, 1) := by decide +kernel
theorem dX9_drift_33 : decode cX9_drift 33 = .ok (.getfield 56, 3) := by decide +kernel
theorem dX9_drift_36 : decode cX9_drift 36 = .ok (.aload_n 0, 1) := by decide +kernel
theorem dX9_drift_37 : decode cX9_drift 37 = .ok (.getfield 28, 3) := by decide +kernel
theorem dX9_drift_40 : decode cX9_drift 40 = .ok (.iload_n 1, 1) := by decide +kernel
theorem dX9_drift_41 : decode cX9_drift 41 = .ok (.iload_n 2, 1) := by decide +kernel
theorem dX9_drift_42 : decode cX9_drift 42 = .ok (.iload_n 3, 1) := by decide +kernel
theorem dX9_drift_43 : decode cX9_drift 43 = .ok (.invokevirtual 260, 3) := by decide +kernel
theorem dX9_drift_46 : decode cX9_drift 46 = .ok (.ireturn, 1) := by decide +kernel
set_option maxRecDepth 20000 in
theorem ggX9_keep_X9_isEither : GoodIn wsX9_keep wsX9_isEither := goodIn_r _ [7] (by decide +kernel) (by decide +kernel)
set_option maxRecDepth 20000 in
theorem gX9_keep_X9_isEither : GoodIn wsX9_keep (va_wsS RX9 151 yX9_isEither wsX9_isEither) := goodIn_app (goodIn_of _ (by decide +kernel)) ggX9_keep_X9_isEither
set_option maxRecDepth 20000 in
theorem ggX9_keep_X0_isThere : GoodIn wsX9_keep wsX0_isThere := goodIn_r _ [12, 13, 53, 54, 55] (by decide +kernel) (by decide +kernel)
set_option maxRecDepth 20000 in
theorem gX9_keep_X0_isThere : GoodIn wsX9_keep (wsV RX9 263 RX0 yX0_isThere wsX0_isThere) := goodIn_app (goodIn_of _ (by decide +kernel)) ggX9_keep_X0_isThere
set_option maxRecDepth 20000 in
theorem ggX9_keep_X0_take : GoodIn wsX9_keep wsX0_take := goodIn_r _ [17, 18, 19, 13, 20, 21, 22, 23, 24, 25, 26, 27, 28, 29, 30, 31, 32, 33, 34, 35, 36, 37, 38, 39, 40, 41, 42, 53, 54, 55, 56, 57, 58, 59, 60, 61, 62, 63] (by decide +kernel) (by decide +kernel)
set_option maxRecDepth 20000 in
theorem gX9_keep_X0_take : GoodIn wsX9_keep (wsV RX9 266 RX0 yX0_take wsX0_take) := goodIn_app (goodIn_of _ (by decide +kernel)) ggX9_keep_X0_take
theorem dX9_keep_0 : decode cX9_keep 0 = .ok (.iload_n 1, 1) := by decide +kernel
theorem dX9_keep_1 : decode cX9_keep 1 = .ok (.invokestatic 151, 3) := by decide +kernel
theorem dX9_keep_4 : decode cX9_keep 4 = .ok (.ifCond .ne 5, 3) := by decide +kernel
theorem dX9_keep_7 : decode cX9_keep 7 = .ok (.iconst (-1), 1) := by decide +kernel
theorem dX9_keep_8 : decode cX9_keep 8 = .ok (.ireturn, 1) := by decide +kernel
theorem dX9_keep_9 : decode cX9_keep 9 = .ok (.aload_n 0, 1) := by decide +kernel
theorem dX9_keep_10 : decode cX9_keep 10 = .ok (.getfield 42, 3) := by decide +kernel
theorem dX9_keep_13 : decode cX9_keep 13 = .ok (.iload_n 1, 1) := by decide +kernel
theorem dX9_keep_14 : decode cX9_keep 14 = .ok (.aaload, 1) := by decide +kernel
theorem dX9_keep_15 : decode cX9_keep 15 = .ok (.invokevirtual 263, 3) := by decide +kernel
theorem dX9_keep_18 : decode cX9_keep 18 = .ok (.ifCond .eq 7, 3) := by decide +kernel
theorem dX9_keep_21 : decode cX9_keep 21 = .ok (.iconst 1, 1) := by decide +kernel
theorem dX9_keep_22 : decode cX9_keep 22 = .ok (.goto 4, 3) := by decide +kernel
theorem dX9_keep_25 : decode cX9_keep 25 = .ok (.iconst 0, 1) := by decide +kernel
theorem dX9_keep_26 : decode cX9_keep 26 = .ok (.istore_n 2, 1) := by decide +kernel
theorem dX9_keep_27 : decode cX9_keep 27 = .ok (.aload_n 0, 1) := by decide +kernel
theorem dX9_keep_28 : decode cX9_keep 28 = .ok (.getfield 42, 3) := by decide +kernel
theorem dX9_keep_31 : decode cX9_keep 31 = .ok (.iload_n 1, 1) := by decide +kernel
theorem dX9_keep_32 : decode cX9_keep 32 = .ok (.aaload, 1) := by decide +kernel
theorem dX9_keep_33 : decode cX9_keep 33 = .ok (.aload_n 0, 1) := by decide +kernel
theorem dX9_keep_34 : decode cX9_keep 34 = .ok (.getfield 28, 3) := by decide +kernel
theorem dX9_keep_37 : decode cX9_keep 37 = .ok (.aload_n 0, 1) := by decide +kernel
theorem dX9_keep_38 : decode cX9_keep 38 = .ok (.getfield 35, 3) := by decide +kernel
theorem dX9_keep_41 : decode cX9_keep 41 = .ok (.invokevirtual 266, 3) := by decide +kernel
theorem dX9_keep_44 : decode cX9_keep 44 = .ok (.iload_n 2, 1) := by decide +kernel
theorem dX9_keep_45 : decode cX9_keep 45 = .ok (.ireturn, 1) := by decide +kernel
set_option maxRecDepth 20000 in
theorem ggX9_back_X9_isEither : GoodIn wsX9_back wsX9_isEither := goodIn_r _ [7] (by decide +kernel) (by decide +kernel)
set_option maxRecDepth 20000 in
theorem gX9_back_X9_isEither : GoodIn wsX9_back (va_wsS RX9 151 yX9_isEither wsX9_isEither) := goodIn_app (goodIn_of _ (by decide +kernel)) ggX9_back_X9_isEither
set_option maxRecDepth 20000 in
theorem ggX9_back_X0_isThere : GoodIn wsX9_back wsX0_isThere := goodIn_r _ [12, 13, 57, 58, 59] (by decide +kernel) (by decide +kernel)
set_option maxRecDepth 20000 in
theorem gX9_back_X0_isThere : GoodIn wsX9_back (wsV RX9 263 RX0 yX0_isThere wsX0_isThere) := goodIn_app (goodIn_of _ (by decide +kernel)) ggX9_back_X0_isThere
set_option maxRecDepth 20000 in
theorem ggX9_back_X0_giveBack : GoodIn wsX9_back wsX0_giveBack := goodIn_r _ [17, 18, 19, 20, 21, 22, 23, 24, 25, 26, 27, 28, 29, 30, 31, 32, 33, 34, 35, 36, 37, 38, 39, 40, 41, 42, 57, 58, 59, 60, 61, 62, 63, 64, 65, 66, 67] (by decide +kernel) (by decide +kernel)
set_option maxRecDepth 20000 in
theorem gX9_back_X0_giveBack : GoodIn wsX9_back (wsV RX9 270 RX0 yX0_giveBack wsX0_giveBack) := goodIn_app (goodIn_of _ (by decide +kernel)) ggX9_back_X0_giveBack
set_option maxRecDepth 20000 in
theorem ggX9_back_X5_startHour : GoodIn wsX9_back wsX5_startHour := goodIn_r _ [46, 32, 60, 61, 62, 63] (by decide +kernel) (by decide +kernel)
set_option maxRecDepth 20000 in
theorem gX9_back_X5_startHour : GoodIn wsX9_back (wsV RX9 115 RX5 yX5_startHour wsX5_startHour) := goodIn_app (goodIn_of _ (by decide +kernel)) ggX9_back_X5_startHour
theorem dX9_back_0 : decode cX9_back 0 = .ok (.iload_n 1, 1) := by decide +kernel
theorem dX9_back_1 : decode cX9_back 1 = .ok (.invokestatic 151, 3) := by decide +kernel
theorem dX9_back_4 : decode cX9_back 4 = .ok (.ifCond .ne 5, 3) := by decide +kernel
theorem dX9_back_7 : decode cX9_back 7 = .ok (.iconst (-1), 1) := by decide +kernel
theorem dX9_back_8 : decode cX9_back 8 = .ok (.ireturn, 1) := by decide +kernel
theorem dX9_back_9 : decode cX9_back 9 = .ok (.aload_n 0, 1) := by decide +kernel
theorem dX9_back_10 : decode cX9_back 10 = .ok (.getfield 42, 3) := by decide +kernel
theorem dX9_back_13 : decode cX9_back 13 = .ok (.iload_n 1, 1) := by decide +kernel
theorem dX9_back_14 : decode cX9_back 14 = .ok (.aaload, 1) := by decide +kernel
theorem dX9_back_15 : decode cX9_back 15 = .ok (.invokevirtual 263, 3) := by decide +kernel
theorem dX9_back_18 : decode cX9_back 18 = .ok (.ifCond .ne 6, 3) := by decide +kernel
theorem dX9_back_21 : decode cX9_back 21 = .ok (.bipush (-2), 2) := by decide +kernel
theorem dX9_back_23 : decode cX9_back 23 = .ok (.ireturn, 1) := by decide +kernel
theorem dX9_back_24 : decode cX9_back 24 = .ok (.aload_n 0, 1) := by decide +kernel
theorem dX9_back_25 : decode cX9_back 25 = .ok (.getfield 42, 3) := by decide +kernel
theorem dX9_back_28 : decode cX9_back 28 = .ok (.iload_n 1, 1) := by decide +kernel
theorem dX9_back_29 : decode cX9_back 29 = .ok (.aaload, 1) := by decide +kernel
theorem dX9_back_30 : decode cX9_back 30 = .ok (.aload_n 0, 1) := by decide +kernel
theorem dX9_back_31 : decode cX9_back 31 = .ok (.getfield 28, 3) := by decide +kernel
theorem dX9_back_34 : decode cX9_back 34 = .ok (.aload_n 0, 1) := by decide +kernel
theorem dX9_back_35 : decode cX9_back 35 = .ok (.getfield 35, 3) := by decide +kernel
theorem dX9_back_38 : decode cX9_back 38 = .ok (.invokevirtual 270, 3) := by decide +kernel
theorem dX9_back_41 : decode cX9_back 41 = .ok (.aload_n 0, 1) := by decide +kernel
theorem dX9_back_42 : decode cX9_back 42 = .ok (.getfield 28, 3) := by decide +kernel
theorem dX9_back_45 : decode cX9_back 45 = .ok (.invokevirtual 115, 3) := by decide +kernel
theorem dX9_back_48 : decode cX9_back 48 = .ok (.ireturn, 1) := by decide +kernel
set_option maxRecDepth 20000 in
theorem ggX9_sheet_X4_has : GoodIn wsX9_sheet wsX4_has := goodIn_r _ [5, 6, 7, 8] (by decide +kernel) (by decide +kernel)
set_option maxRecDepth 20000 in
theorem gX9_sheet_X4_has : GoodIn wsX9_sheet (va_wsS RX9 273 yX4_has wsX4_has) := goodIn_app (goodIn_of _ (by decide +kernel)) ggX9_sheet_X4_has
set_option maxRecDepth 20000 in
theorem ggX9_sheet_X4_isLane : GoodIn wsX9_sheet wsX4_isLane := goodIn_r _ [11, 6, 7, 8] (by decide +kernel) (by decide +kernel)
set_option maxRecDepth 20000 in
theorem gX9_sheet_X4_isLane : GoodIn wsX9_sheet (va_wsS RX9 274 yX4_isLane wsX4_isLane) := goodIn_app (goodIn_of _ (by decide +kernel)) ggX9_sheet_X4_isLane
set_option maxRecDepth 20000 in
theorem ggX9_sheet_X4_renew : GoodIn wsX9_sheet wsX4_renew := goodIn_r _ [15, 16, 17, 18, 19, 3, 4, 5, 6, 7, 8, 30, 31, 32] (by decide +kernel) (by decide +kernel)
set_option maxRecDepth 20000 in
theorem gX9_sheet_X4_renew : GoodIn wsX9_sheet (wsV RX9 277 RX4 yX4_renew wsX4_renew) := goodIn_app (goodIn_of _ (by decide +kernel)) ggX9_sheet_X4_renew
theorem dX9_sheet_0 : decode cX9_sheet 0 = .ok (.iload_n 1, 1) := by decide +kernel
theorem dX9_sheet_1 : decode cX9_sheet 1 = .ok (.invokestatic 273, 3) := by decide +kernel
theorem dX9_sheet_4 : decode cX9_sheet 4 = .ok (.ifCond .eq 16, 3) := by decide +kernel
theorem dX9_sheet_7 : decode cX9_sheet 7 = .ok (.iload_n 2, 1) := by decide +kernel
theorem dX9_sheet_8 : decode cX9_sheet 8 = .ok (.invokestatic 274, 3) := by decide +kernel
theorem dX9_sheet_11 : decode cX9_sheet 11 = .ok (.ifCond .eq 9, 3) := by decide +kernel
theorem dX9_sheet_14 : decode cX9_sheet 14 = .ok (.iload_n 3, 1) := by decide +kernel
theorem dX9_sheet_15 : decode cX9_sheet 15 = .ok (.bipush 40, 2) := by decide +kernel
theorem dX9_sheet_17 : decode cX9_sheet 17 = .ok (.if_icmp .le 5, 3) := by decide +kernel
theorem dX9_sheet_20 : decode cX9_sheet 20 = .ok (.iconst (-1), 1) := by decide +kernel
theorem dX9_sheet_21 : decode cX9_sheet 21 = .ok (.ireturn, 1) := by decide +kernel
theorem dX9_sheet_22 : decode cX9_sheet 22 = .ok (.iload_n 3, 1) := by decide +kernel
theorem dX9_sheet_23 : decode cX9_sheet 23 = .ok (.ifCond .ge 6, 3) := by decide +kernel
theorem dX9_sheet_26 : decode cX9_sheet 26 = .ok (.bipush (-14), 2) := by decide +kernel
theorem dX9_sheet_28 : decode cX9_sheet 28 = .ok (.ireturn, 1) := by decide +kernel
theorem dX9_sheet_29 : decode cX9_sheet 29 = .ok (.aload_n 0, 1) := by decide +kernel
theorem dX9_sheet_30 : decode cX9_sheet 30 = .ok (.getfield 49, 3) := by decide +kernel
theorem dX9_sheet_33 : decode cX9_sheet 33 = .ok (.iload_n 1, 1) := by decide +kernel
theorem dX9_sheet_34 : decode cX9_sheet 34 = .ok (.iload_n 2, 1) := by decide +kernel
theorem dX9_sheet_35 : decode cX9_sheet 35 = .ok (.iload_n 3, 1) := by decide +kernel
theorem dX9_sheet_36 : decode cX9_sheet 36 = .ok (.invokevirtual 277, 3) := by decide +kernel
theorem dX9_sheet_39 : decode cX9_sheet 39 = .ok (.iconst 1, 1) := by decide +kernel
theorem dX9_sheet_40 : decode cX9_sheet 40 = .ok (.ireturn, 1) := by decide +kernel
set_option maxRecDepth 20000 in
theorem ggX9_lay_X4_has : GoodIn wsX9_lay wsX4_has := goodIn_r _ [5, 6, 7, 8] (by decide +kernel) (by decide +kernel)
set_option maxRecDepth 20000 in
theorem gX9_lay_X4_has : GoodIn wsX9_lay (va_wsS RX9 273 yX4_has wsX4_has) := goodIn_app (goodIn_of _ (by decide +kernel)) ggX9_lay_X4_has
set_option maxRecDepth 20000 in
theorem ggX9_lay_X4_laneOf : GoodIn wsX9_lay wsX4_laneOf := goodIn_r _ [12, 13, 14, 3, 4, 5, 6, 7, 8, 47, 48, 49] (by decide +kernel) (by decide +kernel)
set_option maxRecDepth 20000 in
theorem gX9_lay_X4_laneOf : GoodIn wsX9_lay (wsV RX9 280 RX4 yX4_laneOf wsX4_laneOf) := goodIn_app (goodIn_of _ (by decide +kernel)) ggX9_lay_X4_laneOf
set_option maxRecDepth 20000 in
theorem ggX9_lay_X4_faultAt : GoodIn wsX9_lay wsX4_faultAt := goodIn_r _ [18, 19, 20, 21, 4, 22, 23, 14, 3, 5, 6, 7, 8, 24, 10, 11, 12, 13, 25, 26, 27, 28, 47, 48, 49] (by decide +kernel) (by decide +kernel)
set_option maxRecDepth 20000 in
theorem gX9_lay_X4_faultAt : GoodIn wsX9_lay (wsV RX9 283 RX4 yX4_faultAt wsX4_faultAt) := goodIn_app (goodIn_of _ (by decide +kernel)) ggX9_lay_X4_faultAt
set_option maxRecDepth 20000 in
theorem ggX9_lay_X4_put : GoodIn wsX9_lay wsX4_put := goodIn_r _ [32, 33, 13, 25, 26, 27, 4, 28, 23, 14, 3, 5, 6, 7, 8, 34, 35, 36, 47, 48, 49] (by decide +kernel) (by decide +kernel)
set_option maxRecDepth 20000 in
theorem gX9_lay_X4_put : GoodIn wsX9_lay (wsV RX9 286 RX4 yX4_put wsX4_put) := goodIn_app (goodIn_of _ (by decide +kernel)) ggX9_lay_X4_put
theorem dX9_lay_0 : decode cX9_lay 0 = .ok (.iload_n 1, 1) := by decide +kernel
theorem dX9_lay_1 : decode cX9_lay 1 = .ok (.invokestatic 273, 3) := by decide +kernel
theorem dX9_lay_4 : decode cX9_lay 4 = .ok (.ifCond .ne 5, 3) := by decide +kernel
theorem dX9_lay_7 : decode cX9_lay 7 = .ok (.iconst (-1), 1) := by decide +kernel
theorem dX9_lay_8 : decode cX9_lay 8 = .ok (.ireturn, 1) := by decide +kernel
theorem dX9_lay_9 : decode cX9_lay 9 = .ok (.aload_n 0, 1) := by decide +kernel
theorem dX9_lay_10 : decode cX9_lay 10 = .ok (.getfield 49, 3) := by decide +kernel
theorem dX9_lay_13 : decode cX9_lay 13 = .ok (.iload_n 1, 1) := by decide +kernel
theorem dX9_lay_14 : decode cX9_lay 14 = .ok (.aload_n 0, 1) := by decide +kernel
theorem dX9_lay_15 : decode cX9_lay 15 = .ok (.getfield 49, 3) := by decide +kernel
theorem dX9_lay_18 : decode cX9_lay 18 = .ok (.iload_n 1, 1) := by decide +kernel
theorem dX9_lay_19 : decode cX9_lay 19 = .ok (.invokevirtual 280, 3) := by decide +kernel
theorem dX9_lay_22 : decode cX9_lay 22 = .ok (.iload_n 2, 1) := by decide +kernel
theorem dX9_lay_23 : decode cX9_lay 23 = .ok (.invokevirtual 283, 3) := by decide +kernel
theorem dX9_lay_26 : decode cX9_lay 26 = .ok (.istore 4, 2) := by decide +kernel
theorem dX9_lay_28 : decode cX9_lay 28 = .ok (.iload 4, 2) := by decide +kernel
theorem dX9_lay_30 : decode cX9_lay 30 = .ok (.ifCond .eq 9, 3) := by decide +kernel
theorem dX9_lay_33 : decode cX9_lay 33 = .ok (.bipush (-10), 2) := by decide +kernel
theorem dX9_lay_35 : decode cX9_lay 35 = .ok (.iload 4, 2) := by decide +kernel
theorem dX9_lay_37 : decode cX9_lay 37 = .ok (.isub, 1) := by decide +kernel
theorem dX9_lay_38 : decode cX9_lay 38 = .ok (.ireturn, 1) := by decide +kernel
theorem dX9_lay_39 : decode cX9_lay 39 = .ok (.aload_n 0, 1) := by decide +kernel
theorem dX9_lay_40 : decode cX9_lay 40 = .ok (.getfield 49, 3) := by decide +kernel
theorem dX9_lay_43 : decode cX9_lay 43 = .ok (.iload_n 1, 1) := by decide +kernel
theorem dX9_lay_44 : decode cX9_lay 44 = .ok (.iload_n 2, 1) := by decide +kernel
theorem dX9_lay_45 : decode cX9_lay 45 = .ok (.iload_n 3, 1) := by decide +kernel
theorem dX9_lay_46 : decode cX9_lay 46 = .ok (.invokevirtual 286, 3) := by decide +kernel
theorem dX9_lay_49 : decode cX9_lay 49 = .ok (.iconst 1, 1) := by decide +kernel
theorem dX9_lay_50 : decode cX9_lay 50 = .ok (.ireturn, 1) := by decide +kernel
set_option maxRecDepth 20000 in
theorem ggX9_read_X4_has : GoodIn wsX9_read wsX4_has := goodIn_r _ [8, 9, 10, 11] (by decide +kernel) (by decide +kernel)
set_option maxRecDepth 20000 in
theorem gX9_read_X4_has : GoodIn wsX9_read (va_wsS RX9 273 yX4_has wsX4_has) := goodIn_app (goodIn_of _ (by decide +kernel)) ggX9_read_X4_has
set_option maxRecDepth 20000 in
theorem ggX9_read_X4_isLane : GoodIn wsX9_read wsX4_isLane := goodIn_r _ [14, 9, 10, 11] (by decide +kernel) (by decide +kernel)
set_option maxRecDepth 20000 in
theorem gX9_read_X4_isLane : GoodIn wsX9_read (va_wsS RX9 274 yX4_isLane wsX4_isLane) := goodIn_app (goodIn_of _ (by decide +kernel)) ggX9_read_X4_isLane
set_option maxRecDepth 20000 in
theorem ggX9_read_X9_within : GoodIn wsX9_read wsX9_within := goodIn_r _ [11] (by decide +kernel) (by decide +kernel)
set_option maxRecDepth 20000 in
theorem gX9_read_X9_within : GoodIn wsX9_read (va_wsS RX9 67 yX9_within wsX9_within) := goodIn_app (goodIn_of _ (by decide +kernel)) ggX9_read_X9_within
set_option maxRecDepth 20000 in
theorem ggX9_read_X3_draftOf : GoodIn wsX9_read wsX3_draftOf := goodIn_r _ [20, 21, 22, 23, 24, 25, 26, 27, 28, 29, 30, 31, 32, 33, 34, 102, 103, 104, 105, 106, 107, 108, 109] (by decide +kernel) (by decide +kernel)
set_option maxRecDepth 20000 in
theorem gX9_read_X3_draftOf : GoodIn wsX9_read (wsV RX9 289 RX3 yX3_draftOf wsX3_draftOf) := goodIn_app (goodIn_of _ (by decide +kernel)) ggX9_read_X3_draftOf
set_option maxRecDepth 20000 in
theorem ggX9_read_X4_faultOfThree : GoodIn wsX9_read wsX4_faultOfThree := goodIn_r _ [38, 39, 40, 41, 7, 42, 43, 44, 45, 46, 47, 48, 6, 8, 9, 10, 11, 49, 50, 51, 52, 53, 54, 55, 56, 57, 110, 111, 112] (by decide +kernel) (by decide +kernel)
set_option maxRecDepth 20000 in
theorem gX9_read_X4_faultOfThree : GoodIn wsX9_read (wsV RX9 293 RX4 yX4_faultOfThree wsX4_faultOfThree) := goodIn_app (goodIn_of _ (by decide +kernel)) ggX9_read_X4_faultOfThree
set_option maxRecDepth 20000 in
theorem ggX9_read_X9_sewnFromCells : GoodIn wsX9_read wsX9_sewnFromCells := goodIn_r _ [61, 3, 62, 63, 64, 7, 65, 66, 54, 55, 56, 57, 47, 48, 6, 8, 9, 10, 11, 67, 68, 69, 25, 70, 71, 72, 73, 74, 75, 76, 77, 78, 79, 80, 81, 82, 33, 83, 84, 85, 86, 32, 87, 88, 89, 90, 27, 92, 93, 94, 95, 96, 97, 98, 99, 100, 101, 110, 111, 112, 106, 107, 108, 109] (by decide +kernel) (by decide +kernel)
set_option maxRecDepth 20000 in
theorem gX9_read_X9_sewnFromCells : GoodIn wsX9_read (wsV RX9 296 RX9 yX9_sewnFromCells wsX9_sewnFromCells) := goodIn_app (goodIn_of _ (by decide +kernel)) ggX9_read_X9_sewnFromCells
set_option maxRecDepth 20000 in
theorem ggX9_read_X5_copyFrom : GoodIn wsX9_read wsX5_copyFrom := goodIn_r _ [26, 27, 28, 29, 30, 31, 32, 33, 34, 106, 107, 108, 109] (by decide +kernel) (by decide +kernel)
set_option maxRecDepth 20000 in
theorem gX9_read_X5_copyFrom : GoodIn wsX9_read (wsV RX9 103 RX5 yX5_copyFrom wsX5_copyFrom) := goodIn_app (goodIn_of _ (by decide +kernel)) ggX9_read_X5_copyFrom
theorem dX9_read_0 : decode cX9_read 0 = .ok (.iload_n 1, 1) := by decide +kernel
theorem dX9_read_1 : decode cX9_read 1 = .ok (.invokestatic 273, 3) := by decide +kernel
theorem dX9_read_4 : decode cX9_read 4 = .ok (.ifCond .eq 21, 3) := by decide +kernel
theorem dX9_read_7 : decode cX9_read 7 = .ok (.iload_n 2, 1) := by decide +kernel
theorem dX9_read_8 : decode cX9_read 8 = .ok (.invokestatic 274, 3) := by decide +kernel
theorem dX9_read_11 : decode cX9_read 11 = .ok (.ifCond .eq 14, 3) := by decide +kernel
theorem dX9_read_14 : decode cX9_read 14 = .ok (.iload 4, 2) := by decide +kernel
theorem dX9_read_16 : decode cX9_read 16 = .ok (.iconst 0, 1) := by decide +kernel
theorem dX9_read_17 : decode cX9_read 17 = .ok (.bipush 13, 2) := by decide +kernel
theorem dX9_read_19 : decode cX9_read 19 = .ok (.invokestatic 67, 3) := by decide +kernel
theorem dX9_read_22 : decode cX9_read 22 = .ok (.ifCond .ne 5, 3) := by decide +kernel
theorem dX9_read_25 : decode cX9_read 25 = .ok (.iconst (-1), 1) := by decide +kernel
theorem dX9_read_26 : decode cX9_read 26 = .ok (.ireturn, 1) := by decide +kernel
theorem dX9_read_27 : decode cX9_read 27 = .ok (.aload_n 0, 1) := by decide +kernel
theorem dX9_read_28 : decode cX9_read 28 = .ok (.getfield 56, 3) := by decide +kernel
theorem dX9_read_31 : decode cX9_read 31 = .ok (.aload_n 0, 1) := by decide +kernel
theorem dX9_read_32 : decode cX9_read 32 = .ok (.getfield 28, 3) := by decide +kernel
theorem dX9_read_35 : decode cX9_read 35 = .ok (.invokevirtual 289, 3) := by decide +kernel
theorem dX9_read_38 : decode cX9_read 38 = .ok (.astore 5, 2) := by decide +kernel
theorem dX9_read_40 : decode cX9_read 40 = .ok (.iconst 0, 1) := by decide +kernel
theorem dX9_read_41 : decode cX9_read 41 = .ok (.istore 6, 2) := by decide +kernel
theorem dX9_read_43 : decode cX9_read 43 = .ok (.iconst 0, 1) := by decide +kernel
theorem dX9_read_44 : decode cX9_read 44 = .ok (.istore 7, 2) := by decide +kernel
theorem dX9_read_46 : decode cX9_read 46 = .ok (.iconst 0, 1) := by decide +kernel
theorem dX9_read_47 : decode cX9_read 47 = .ok (.istore 8, 2) := by decide +kernel
theorem dX9_read_49 : decode cX9_read 49 = .ok (.iload 8, 2) := by decide +kernel
theorem dX9_read_51 : decode cX9_read 51 = .ok (.iload 4, 2) := by decide +kernel
theorem dX9_read_53 : decode cX9_read 53 = .ok (.if_icmp .ge 61, 3) := by decide +kernel
theorem dX9_read_56 : decode cX9_read 56 = .ok (.iload 6, 2) := by decide +kernel
theorem dX9_read_58 : decode cX9_read 58 = .ok (.ifCond .ne 56, 3) := by decide +kernel
theorem dX9_read_61 : decode cX9_read 61 = .ok (.iload_n 3, 1) := by decide +kernel
theorem dX9_read_62 : decode cX9_read 62 = .ok (.iconst 3, 1) := by decide +kernel
theorem dX9_read_63 : decode cX9_read 63 = .ok (.iload 8, 2) := by decide +kernel
theorem dX9_read_65 : decode cX9_read 65 = .ok (.imul, 1) := by decide +kernel
theorem dX9_read_66 : decode cX9_read 66 = .ok (.iadd, 1) := by decide +kernel
theorem dX9_read_67 : decode cX9_read 67 = .ok (.istore 9, 2) := by decide +kernel
theorem dX9_read_69 : decode cX9_read 69 = .ok (.aload_n 0, 1) := by decide +kernel
theorem dX9_read_70 : decode cX9_read 70 = .ok (.getfield 49, 3) := by decide +kernel
theorem dX9_read_73 : decode cX9_read 73 = .ok (.iload_n 1, 1) := by decide +kernel
theorem dX9_read_74 : decode cX9_read 74 = .ok (.iload_n 2, 1) := by decide +kernel
theorem dX9_read_75 : decode cX9_read 75 = .ok (.iload 9, 2) := by decide +kernel
theorem dX9_read_77 : decode cX9_read 77 = .ok (.invokevirtual 293, 3) := by decide +kernel
theorem dX9_read_80 : decode cX9_read 80 = .ok (.istore 6, 2) := by decide +kernel
theorem dX9_read_82 : decode cX9_read 82 = .ok (.iload 6, 2) := by decide +kernel
theorem dX9_read_84 : decode cX9_read 84 = .ok (.ifCond .ne 24, 3) := by decide +kernel
theorem dX9_read_87 : decode cX9_read 87 = .ok (.aload_n 0, 1) := by decide +kernel
theorem dX9_read_88 : decode cX9_read 88 = .ok (.aload 5, 2) := by decide +kernel
theorem dX9_read_90 : decode cX9_read 90 = .ok (.iload_n 1, 1) := by decide +kernel
theorem dX9_read_91 : decode cX9_read 91 = .ok (.iload 9, 2) := by decide +kernel
theorem dX9_read_93 : decode cX9_read 93 = .ok (.invokevirtual 296, 3) := by decide +kernel
theorem dX9_read_96 : decode cX9_read 96 = .ok (.ifCond .ne 9, 3) := by decide +kernel
theorem dX9_read_99 : decode cX9_read 99 = .ok (.bipush (-20), 2) := by decide +kernel
theorem dX9_read_101 : decode cX9_read 101 = .ok (.iload 8, 2) := by decide +kernel
theorem dX9_read_103 : decode cX9_read 103 = .ok (.isub, 1) := by decide +kernel
theorem dX9_read_104 : decode cX9_read 104 = .ok (.ireturn, 1) := by decide +kernel
theorem dX9_read_105 : decode cX9_read 105 = .ok (.iinc 7 1, 3) := by decide +kernel
theorem dX9_read_108 : decode cX9_read 108 = .ok (.iinc 8 1, 3) := by decide +kernel
theorem dX9_read_111 : decode cX9_read 111 = .ok (.goto (-62), 3) := by decide +kernel
theorem dX9_read_114 : decode cX9_read 114 = .ok (.aload_n 0, 1) := by decide +kernel
theorem dX9_read_115 : decode cX9_read 115 = .ok (.getfield 28, 3) := by decide +kernel
theorem dX9_read_118 : decode cX9_read 118 = .ok (.aload 5, 2) := by decide +kernel
theorem dX9_read_120 : decode cX9_read 120 = .ok (.invokevirtual 103, 3) := by decide +kernel
theorem dX9_read_123 : decode cX9_read 123 = .ok (.aload_n 0, 1) := by decide +kernel
theorem dX9_read_124 : decode cX9_read 124 = .ok (.iload 6, 2) := by decide +kernel
theorem dX9_read_126 : decode cX9_read 126 = .ok (.putfield 300, 3) := by decide +kernel
theorem dX9_read_129 : decode cX9_read 129 = .ok (.iload 7, 2) := by decide +kernel
theorem dX9_read_131 : decode cX9_read 131 = .ok (.ireturn, 1) := by decide +kernel
set_option maxRecDepth 20000 in
theorem ggX9_sewnFromCells_X4_cellAt : GoodIn wsX9_sewnFromCells wsX4_cellAt := goodIn_r _ [6, 7, 8, 9, 10, 5, 11, 12, 13, 14, 15, 16, 17, 18, 57, 58, 59] (by decide +kernel) (by decide +kernel)
set_option maxRecDepth 20000 in
theorem gX9_sewnFromCells_X4_cellAt : GoodIn wsX9_sewnFromCells (wsV RX9 303 RX4 yX4_cellAt wsX4_cellAt) := goodIn_app (goodIn_of _ (by decide +kernel)) ggX9_sewnFromCells_X4_cellAt
set_option maxRecDepth 20000 in
theorem ggX9_sewnFromCells_X5_refusal : GoodIn wsX9_sewnFromCells wsX5_refusal := goodIn_r _ [23, 24, 25, 22, 26, 27, 28, 29, 30, 31, 16, 17, 18, 32, 33, 34, 35, 36, 60, 61, 62, 63] (by decide +kernel) (by decide +kernel)
set_option maxRecDepth 20000 in
theorem gX9_sewnFromCells_X5_refusal : GoodIn wsX9_sewnFromCells (wsV RX9 178 RX5 yX5_refusal wsX5_refusal) := goodIn_app (goodIn_of _ (by decide +kernel)) ggX9_sewnFromCells_X5_refusal
set_option maxRecDepth 20000 in
theorem ggX9_sewnFromCells_X5_addPlain : GoodIn wsX9_sewnFromCells wsX5_addPlain := goodIn_r _ [40, 36, 41, 32, 33, 34, 22, 35, 42, 43, 44, 45, 46, 60, 61, 62, 63] (by decide +kernel) (by decide +kernel)
set_option maxRecDepth 20000 in
theorem gX9_sewnFromCells_X5_addPlain : GoodIn wsX9_sewnFromCells (wsV RX9 182 RX5 yX5_addPlain wsX5_addPlain) := goodIn_app (goodIn_of _ (by decide +kernel)) ggX9_sewnFromCells_X5_addPlain
theorem dX9_sewnFromCells_0 : decode cX9_sewnFromCells 0 = .ok (.aload_n 0, 1) := by decide +kernel
theorem dX9_sewnFromCells_1 : decode cX9_sewnFromCells 1 = .ok (.getfield 49, 3) := by decide +kernel
theorem dX9_sewnFromCells_4 : decode cX9_sewnFromCells 4 = .ok (.iload_n 2, 1) := by decide +kernel
theorem dX9_sewnFromCells_5 : decode cX9_sewnFromCells 5 = .ok (.iload_n 3, 1) := by decide +kernel
theorem dX9_sewnFromCells_6 : decode cX9_sewnFromCells 6 = .ok (.invokevirtual 303, 3) := by decide +kernel
theorem dX9_sewnFromCells_9 : decode cX9_sewnFromCells 9 = .ok (.istore 4, 2) := by decide +kernel
theorem dX9_sewnFromCells_11 : decode cX9_sewnFromCells 11 = .ok (.aload_n 0, 1) := by decide +kernel
theorem dX9_sewnFromCells_12 : decode cX9_sewnFromCells 12 = .ok (.getfield 49, 3) := by decide +kernel
theorem dX9_sewnFromCells_15 : decode cX9_sewnFromCells 15 = .ok (.iload_n 2, 1) := by decide +kernel
theorem dX9_sewnFromCells_16 : decode cX9_sewnFromCells 16 = .ok (.iload_n 3, 1) := by decide +kernel
theorem dX9_sewnFromCells_17 : decode cX9_sewnFromCells 17 = .ok (.iconst 1, 1) := by decide +kernel
theorem dX9_sewnFromCells_18 : decode cX9_sewnFromCells 18 = .ok (.iadd, 1) := by decide +kernel
theorem dX9_sewnFromCells_19 : decode cX9_sewnFromCells 19 = .ok (.invokevirtual 303, 3) := by decide +kernel
theorem dX9_sewnFromCells_22 : decode cX9_sewnFromCells 22 = .ok (.istore 5, 2) := by decide +kernel
theorem dX9_sewnFromCells_24 : decode cX9_sewnFromCells 24 = .ok (.aload_n 0, 1) := by decide +kernel
theorem dX9_sewnFromCells_25 : decode cX9_sewnFromCells 25 = .ok (.getfield 49, 3) := by decide +kernel
theorem dX9_sewnFromCells_28 : decode cX9_sewnFromCells 28 = .ok (.iload_n 2, 1) := by decide +kernel
theorem dX9_sewnFromCells_29 : decode cX9_sewnFromCells 29 = .ok (.iload_n 3, 1) := by decide +kernel
theorem dX9_sewnFromCells_30 : decode cX9_sewnFromCells 30 = .ok (.iconst 2, 1) := by decide +kernel
theorem dX9_sewnFromCells_31 : decode cX9_sewnFromCells 31 = .ok (.iadd, 1) := by decide +kernel
theorem dX9_sewnFromCells_32 : decode cX9_sewnFromCells 32 = .ok (.invokevirtual 303, 3) := by decide +kernel
theorem dX9_sewnFromCells_35 : decode cX9_sewnFromCells 35 = .ok (.istore 6, 2) := by decide +kernel
theorem dX9_sewnFromCells_37 : decode cX9_sewnFromCells 37 = .ok (.aload_n 1, 1) := by decide +kernel
theorem dX9_sewnFromCells_38 : decode cX9_sewnFromCells 38 = .ok (.iload 4, 2) := by decide +kernel
theorem dX9_sewnFromCells_40 : decode cX9_sewnFromCells 40 = .ok (.iload 5, 2) := by decide +kernel
theorem dX9_sewnFromCells_42 : decode cX9_sewnFromCells 42 = .ok (.iload 6, 2) := by decide +kernel
theorem dX9_sewnFromCells_44 : decode cX9_sewnFromCells 44 = .ok (.invokevirtual 178, 3) := by decide +kernel
theorem dX9_sewnFromCells_47 : decode cX9_sewnFromCells 47 = .ok (.ifCond .eq 5, 3) := by decide +kernel
theorem dX9_sewnFromCells_50 : decode cX9_sewnFromCells 50 = .ok (.iconst 0, 1) := by decide +kernel
theorem dX9_sewnFromCells_51 : decode cX9_sewnFromCells 51 = .ok (.ireturn, 1) := by decide +kernel
theorem dX9_sewnFromCells_52 : decode cX9_sewnFromCells 52 = .ok (.aload_n 1, 1) := by decide +kernel
theorem dX9_sewnFromCells_53 : decode cX9_sewnFromCells 53 = .ok (.iload 4, 2) := by decide +kernel
theorem dX9_sewnFromCells_55 : decode cX9_sewnFromCells 55 = .ok (.iload 5, 2) := by decide +kernel
theorem dX9_sewnFromCells_57 : decode cX9_sewnFromCells 57 = .ok (.iload 6, 2) := by decide +kernel
theorem dX9_sewnFromCells_59 : decode cX9_sewnFromCells 59 = .ok (.invokevirtual 182, 3) := by decide +kernel
theorem dX9_sewnFromCells_62 : decode cX9_sewnFromCells 62 = .ok (.pop, 1) := by decide +kernel
theorem dX9_sewnFromCells_63 : decode cX9_sewnFromCells 63 = .ok (.iconst 1, 1) := by decide +kernel
theorem dX9_sewnFromCells_64 : decode cX9_sewnFromCells 64 = .ok (.ireturn, 1) := by decide +kernel
theorem dX9_torn_0 : decode cX9_torn 0 = .ok (.aload_n 0, 1) := by decide +kernel
theorem dX9_torn_1 : decode cX9_torn 1 = .ok (.getfield 300, 3) := by decide +kernel
theorem dX9_torn_4 : decode cX9_torn 4 = .ok (.ireturn, 1) := by decide +kernel
set_option maxRecDepth 20000 in
theorem ggX9_count_X6_size : GoodIn wsX9_count wsX6_size := goodIn_r _ [9, 10, 61, 62, 63, 64] (by decide +kernel) (by decide +kernel)
set_option maxRecDepth 20000 in
theorem gX9_count_X6_size : GoodIn wsX9_count (wsV RX9 248 RX6 yX6_size wsX6_size) := goodIn_app (goodIn_of _ (by decide +kernel)) ggX9_count_X6_size
set_option maxRecDepth 20000 in
theorem ggX9_count_X9_imagesThere : GoodIn wsX9_count wsX9_imagesThere := goodIn_r _ [15, 16, 17, 18, 19, 20, 21, 22, 51, 52, 53, 54, 55, 56, 57, 58, 59, 60, 65, 66, 67] (by decide +kernel) (by decide +kernel)
set_option maxRecDepth 20000 in
theorem gX9_count_X9_imagesThere : GoodIn wsX9_count (wsV RX9 306 RX9 yX9_imagesThere wsX9_imagesThere) := goodIn_app (goodIn_of _ (by decide +kernel)) ggX9_count_X9_imagesThere
set_option maxRecDepth 20000 in
theorem ggX9_count_X7_size : GoodIn wsX9_count wsX7_size := goodIn_r _ [27, 28, 68, 69] (by decide +kernel) (by decide +kernel)
set_option maxRecDepth 20000 in
theorem gX9_count_X7_size : GoodIn wsX9_count (wsV RX9 79 RX7 yX7_size wsX7_size) := goodIn_app (goodIn_of _ (by decide +kernel)) ggX9_count_X7_size
set_option maxRecDepth 20000 in
theorem ggX9_count_X4_sizeOf : GoodIn wsX9_count wsX4_sizeOf := goodIn_r _ [33, 34, 35, 36, 32, 37, 38, 14, 39, 70, 71, 72] (by decide +kernel) (by decide +kernel)
set_option maxRecDepth 20000 in
theorem gX9_count_X4_sizeOf : GoodIn wsX9_count (wsV RX9 309 RX4 yX4_sizeOf wsX4_sizeOf) := goodIn_app (goodIn_of _ (by decide +kernel)) ggX9_count_X4_sizeOf
set_option maxRecDepth 20000 in
theorem ggX9_count_X5_sumOf : GoodIn wsX9_count wsX5_sumOf := goodIn_r _ [44, 45, 46, 47, 48, 43, 49, 50, 73, 74, 75, 76] (by decide +kernel) (by decide +kernel)
set_option maxRecDepth 20000 in
theorem gX9_count_X5_sumOf : GoodIn wsX9_count (wsV RX9 118 RX5 yX5_sumOf wsX5_sumOf) := goodIn_app (goodIn_of _ (by decide +kernel)) ggX9_count_X5_sumOf
theorem dX9_count_0 : decode cX9_count 0 = .ok (.iload_n 1, 1) := by decide +kernel
theorem dX9_count_1 : decode cX9_count 1 = .ok (.tableswitch 74 0 4 #[35, 43, 48, 56, 65], 35) := by decide +kernel
theorem dX9_count_36 : decode cX9_count 36 = .ok (.aload_n 0, 1) := by decide +kernel
theorem dX9_count_37 : decode cX9_count 37 = .ok (.getfield 35, 3) := by decide +kernel
theorem dX9_count_40 : decode cX9_count 40 = .ok (.invokevirtual 248, 3) := by decide +kernel
theorem dX9_count_43 : decode cX9_count 43 = .ok (.ireturn, 1) := by decide +kernel
theorem dX9_count_44 : decode cX9_count 44 = .ok (.aload_n 0, 1) := by decide +kernel
theorem dX9_count_45 : decode cX9_count 45 = .ok (.invokevirtual 306, 3) := by decide +kernel
theorem dX9_count_48 : decode cX9_count 48 = .ok (.ireturn, 1) := by decide +kernel
theorem dX9_count_49 : decode cX9_count 49 = .ok (.aload_n 0, 1) := by decide +kernel
theorem dX9_count_50 : decode cX9_count 50 = .ok (.getfield 10, 3) := by decide +kernel
theorem dX9_count_53 : decode cX9_count 53 = .ok (.invokevirtual 79, 3) := by decide +kernel
theorem dX9_count_56 : decode cX9_count 56 = .ok (.ireturn, 1) := by decide +kernel
theorem dX9_count_57 : decode cX9_count 57 = .ok (.aload_n 0, 1) := by decide +kernel
theorem dX9_count_58 : decode cX9_count 58 = .ok (.getfield 49, 3) := by decide +kernel
theorem dX9_count_61 : decode cX9_count 61 = .ok (.iconst 0, 1) := by decide +kernel
theorem dX9_count_62 : decode cX9_count 62 = .ok (.invokevirtual 309, 3) := by decide +kernel
theorem dX9_count_65 : decode cX9_count 65 = .ok (.ireturn, 1) := by decide +kernel
theorem dX9_count_66 : decode cX9_count 66 = .ok (.aload_n 0, 1) := by decide +kernel
theorem dX9_count_67 : decode cX9_count 67 = .ok (.getfield 28, 3) := by decide +kernel
theorem dX9_count_70 : decode cX9_count 70 = .ok (.iconst 3, 1) := by decide +kernel
theorem dX9_count_71 : decode cX9_count 71 = .ok (.invokevirtual 118, 3) := by decide +kernel
theorem dX9_count_74 : decode cX9_count 74 = .ok (.ireturn, 1) := by decide +kernel
theorem dX9_count_75 : decode cX9_count 75 = .ok (.iconst (-1), 1) := by decide +kernel
theorem dX9_count_76 : decode cX9_count 76 = .ok (.ireturn, 1) := by decide +kernel
set_option maxRecDepth 20000 in
theorem ggX9_imagesThere_X0_isThere : GoodIn wsX9_imagesThere wsX0_isThere := goodIn_r _ [6, 7, 18, 19, 20] (by decide +kernel) (by decide +kernel)
set_option maxRecDepth 20000 in
theorem gX9_imagesThere_X0_isThere : GoodIn wsX9_imagesThere (wsV RX9 263 RX0 yX0_isThere wsX0_isThere) := goodIn_app (goodIn_of _ (by decide +kernel)) ggX9_imagesThere_X0_isThere
theorem dX9_imagesThere_0 : decode cX9_imagesThere 0 = .ok (.iconst 0, 1) := by decide +kernel
theorem dX9_imagesThere_1 : decode cX9_imagesThere 1 = .ok (.istore_n 1, 1) := by decide +kernel
theorem dX9_imagesThere_2 : decode cX9_imagesThere 2 = .ok (.aload_n 0, 1) := by decide +kernel
theorem dX9_imagesThere_3 : decode cX9_imagesThere 3 = .ok (.getfield 42, 3) := by decide +kernel
theorem dX9_imagesThere_6 : decode cX9_imagesThere 6 = .ok (.astore_n 2, 1) := by decide +kernel
theorem dX9_imagesThere_7 : decode cX9_imagesThere 7 = .ok (.aload_n 2, 1) := by decide +kernel
theorem dX9_imagesThere_8 : decode cX9_imagesThere 8 = .ok (.arraylength, 1) := by decide +kernel
theorem dX9_imagesThere_9 : decode cX9_imagesThere 9 = .ok (.istore_n 3, 1) := by decide +kernel
theorem dX9_imagesThere_10 : decode cX9_imagesThere 10 = .ok (.iconst 0, 1) := by decide +kernel
theorem dX9_imagesThere_11 : decode cX9_imagesThere 11 = .ok (.istore 4, 2) := by decide +kernel
theorem dX9_imagesThere_13 : decode cX9_imagesThere 13 = .ok (.iload 4, 2) := by decide +kernel
theorem dX9_imagesThere_15 : decode cX9_imagesThere 15 = .ok (.iload_n 3, 1) := by decide +kernel
theorem dX9_imagesThere_16 : decode cX9_imagesThere 16 = .ok (.if_icmp .ge 26, 3) := by decide +kernel
theorem dX9_imagesThere_19 : decode cX9_imagesThere 19 = .ok (.aload_n 2, 1) := by decide +kernel
theorem dX9_imagesThere_20 : decode cX9_imagesThere 20 = .ok (.iload 4, 2) := by decide +kernel
theorem dX9_imagesThere_22 : decode cX9_imagesThere 22 = .ok (.aaload, 1) := by decide +kernel
theorem dX9_imagesThere_23 : decode cX9_imagesThere 23 = .ok (.astore 5, 2) := by decide +kernel
theorem dX9_imagesThere_25 : decode cX9_imagesThere 25 = .ok (.aload 5, 2) := by decide +kernel
theorem dX9_imagesThere_27 : decode cX9_imagesThere 27 = .ok (.invokevirtual 263, 3) := by decide +kernel
theorem dX9_imagesThere_30 : decode cX9_imagesThere 30 = .ok (.ifCond .eq 6, 3) := by decide +kernel
theorem dX9_imagesThere_33 : decode cX9_imagesThere 33 = .ok (.iinc 1 1, 3) := by decide +kernel
theorem dX9_imagesThere_36 : decode cX9_imagesThere 36 = .ok (.iinc 4 1, 3) := by decide +kernel
theorem dX9_imagesThere_39 : decode cX9_imagesThere 39 = .ok (.goto (-26), 3) := by decide +kernel
theorem dX9_imagesThere_42 : decode cX9_imagesThere 42 = .ok (.iload_n 1, 1) := by decide +kernel
theorem dX9_imagesThere_43 : decode cX9_imagesThere 43 = .ok (.ireturn, 1) := by decide +kernel
theorem dX9_within_0 : decode cX9_within 0 = .ok (.iload_n 0, 1) := by decide +kernel
theorem dX9_within_1 : decode cX9_within 1 = .ok (.iload_n 1, 1) := by decide +kernel
theorem dX9_within_2 : decode cX9_within 2 = .ok (.if_icmp .lt 12, 3) := by decide +kernel
theorem dX9_within_5 : decode cX9_within 5 = .ok (.iload_n 0, 1) := by decide +kernel
theorem dX9_within_6 : decode cX9_within 6 = .ok (.iload_n 2, 1) := by decide +kernel
theorem dX9_within_7 : decode cX9_within 7 = .ok (.if_icmp .gt 7, 3) := by decide +kernel
theorem dX9_within_10 : decode cX9_within 10 = .ok (.iconst 1, 1) := by decide +kernel
theorem dX9_within_11 : decode cX9_within 11 = .ok (.goto 4, 3) := by decide +kernel
theorem dX9_within_14 : decode cX9_within 14 = .ok (.iconst 0, 1) := by decide +kernel
theorem dX9_within_15 : decode cX9_within 15 = .ok (.ireturn, 1) := by decide +kernel
theorem dX9_isEither_0 : decode cX9_isEither 0 = .ok (.iload_n 0, 1) := by decide +kernel
theorem dX9_isEither_1 : decode cX9_isEither 1 = .ok (.ifCond .eq 8, 3) := by decide +kernel
theorem dX9_isEither_4 : decode cX9_isEither 4 = .ok (.iload_n 0, 1) := by decide +kernel
theorem dX9_isEither_5 : decode cX9_isEither 5 = .ok (.iconst 1, 1) := by decide +kernel
theorem dX9_isEither_6 : decode cX9_isEither 6 = .ok (.if_icmp .ne 7, 3) := by decide +kernel
theorem dX9_isEither_9 : decode cX9_isEither 9 = .ok (.iconst 1, 1) := by decide +kernel
theorem dX9_isEither_10 : decode cX9_isEither 10 = .ok (.goto 4, 3) := by decide +kernel
theorem dX9_isEither_13 : decode cX9_isEither 13 = .ok (.iconst 0, 1) := by decide +kernel
theorem dX9_isEither_14 : decode cX9_isEither 14 = .ok (.ireturn, 1) := by decide +kernel
set_option maxRecDepth 20000 in
theorem ggX9_isHour_X9_within : GoodIn wsX9_isHour wsX9_within := goodIn_r _ [4] (by decide +kernel) (by decide +kernel)
set_option maxRecDepth 20000 in
theorem gX9_isHour_X9_within : GoodIn wsX9_isHour (va_wsS RX9 67 yX9_within wsX9_within) := goodIn_app (goodIn_of _ (by decide +kernel)) ggX9_isHour_X9_within
theorem dX9_isHour_0 : decode cX9_isHour 0 = .ok (.iload_n 0, 1) := by decide +kernel
theorem dX9_isHour_1 : decode cX9_isHour 1 = .ok (.iconst 0, 1) := by decide +kernel
theorem dX9_isHour_2 : decode cX9_isHour 2 = .ok (.bipush 23, 2) := by decide +kernel
theorem dX9_isHour_4 : decode cX9_isHour 4 = .ok (.invokestatic 67, 3) := by decide +kernel
theorem dX9_isHour_7 : decode cX9_isHour 7 = .ok (.ireturn, 1) := by decide +kernel
set_option maxRecDepth 20000 in
theorem ggX9_isRoom_X9_within : GoodIn wsX9_isRoom wsX9_within := goodIn_r _ [4] (by decide +kernel) (by decide +kernel)
set_option maxRecDepth 20000 in
theorem gX9_isRoom_X9_within : GoodIn wsX9_isRoom (va_wsS RX9 67 yX9_within wsX9_within) := goodIn_app (goodIn_of _ (by decide +kernel)) ggX9_isRoom_X9_within
theorem dX9_isRoom_0 : decode cX9_isRoom 0 = .ok (.iload_n 0, 1) := by decide +kernel
theorem dX9_isRoom_1 : decode cX9_isRoom 1 = .ok (.iconst 0, 1) := by decide +kernel
theorem dX9_isRoom_2 : decode cX9_isRoom 2 = .ok (.iconst 4, 1) := by decide +kernel
theorem dX9_isRoom_3 : decode cX9_isRoom 3 = .ok (.invokestatic 67, 3) := by decide +kernel
theorem dX9_isRoom_6 : decode cX9_isRoom 6 = .ok (.ireturn, 1) := by decide +kernel
set_option maxRecDepth 20000 in
theorem ggX10_init_X10_firstDraft : GoodIn wsX10_init wsX10_firstDraft := goodIn_r _ [24, 9, 25, 26, 27, 28, 29, 34, 35, 36, 37, 38, 39, 40, 41, 42, 43, 44, 45, 46, 47, 48, 49, 50, 51, 52, 53, 54, 55, 56, 57, 58, 59, 60, 61, 62, 63] (by decide +kernel) (by decide +kernel)
set_option maxRecDepth 20000 in
theorem gX10_init_X10_firstDraft : GoodIn wsX10_init (wsV RX10 53 RX10 yX10_firstDraft wsX10_firstDraft) := goodIn_app (goodIn_of _ (by decide +kernel)) ggX10_init_X10_firstDraft
set_option maxRecDepth 20000 in
theorem ggX10_init_X10_keepDraft : GoodIn wsX10_init wsX10_keepDraft := goodIn_r _ [33, 5, 9, 28, 10, 27, 8, 34, 35, 36, 37, 38, 39, 40, 41, 42, 43, 44, 45, 46, 47, 48, 49, 50, 51, 52, 53, 54, 55, 56, 57, 58, 59, 60, 61, 62, 63] (by decide +kernel) (by decide +kernel)
set_option maxRecDepth 20000 in
theorem gX10_init_X10_keepDraft : GoodIn wsX10_init (wsV RX10 56 RX10 yX10_keepDraft wsX10_keepDraft) := goodIn_app (goodIn_of _ (by decide +kernel)) ggX10_init_X10_keepDraft
theorem dX10_init_0 : decode cX10_init 0 = .ok (.aload_n 0, 1) := by decide +kernel
theorem dX10_init_1 : decode cX10_init 1 = .ok (.invokespecial 1, 3) := by decide +kernel
theorem dX10_init_4 : decode cX10_init 4 = .ok (.aload_n 0, 1) := by decide +kernel
theorem dX10_init_5 : decode cX10_init 5 = .ok (.sipush 168, 3) := by decide +kernel
theorem dX10_init_8 : decode cX10_init 8 = .ok (.newarray .int, 2) := by decide +kernel
theorem dX10_init_10 : decode cX10_init 10 = .ok (.putfield 7, 3) := by decide +kernel
theorem dX10_init_13 : decode cX10_init 13 = .ok (.aload_n 0, 1) := by decide +kernel
theorem dX10_init_14 : decode cX10_init 14 = .ok (.bipush 56, 2) := by decide +kernel
theorem dX10_init_16 : decode cX10_init 16 = .ok (.newarray .int, 2) := by decide +kernel
theorem dX10_init_18 : decode cX10_init 18 = .ok (.putfield 13, 3) := by decide +kernel
theorem dX10_init_21 : decode cX10_init 21 = .ok (.aload_n 0, 1) := by decide +kernel
theorem dX10_init_22 : decode cX10_init 22 = .ok (.iconst 2, 1) := by decide +kernel
theorem dX10_init_23 : decode cX10_init 23 = .ok (.newarray .boolean, 2) := by decide +kernel
theorem dX10_init_25 : decode cX10_init 25 = .ok (.putfield 16, 3) := by decide +kernel
theorem dX10_init_28 : decode cX10_init 28 = .ok (.aload_n 0, 1) := by decide +kernel
theorem dX10_init_29 : decode cX10_init 29 = .ok (.bipush 56, 2) := by decide +kernel
theorem dX10_init_31 : decode cX10_init 31 = .ok (.newarray .int, 2) := by decide +kernel
theorem dX10_init_33 : decode cX10_init 33 = .ok (.putfield 20, 3) := by decide +kernel
theorem dX10_init_36 : decode cX10_init 36 = .ok (.aload_n 0, 1) := by decide +kernel
theorem dX10_init_37 : decode cX10_init 37 = .ok (.iconst 5, 1) := by decide +kernel
theorem dX10_init_38 : decode cX10_init 38 = .ok (.newarray .int, 2) := by decide +kernel
theorem dX10_init_40 : decode cX10_init 40 = .ok (.putfield 23, 3) := by decide +kernel
theorem dX10_init_43 : decode cX10_init 43 = .ok (.aload_n 0, 1) := by decide +kernel
theorem dX10_init_44 : decode cX10_init 44 = .ok (.sipush 160, 3) := by decide +kernel
theorem dX10_init_47 : decode cX10_init 47 = .ok (.newarray .int, 2) := by decide +kernel
theorem dX10_init_49 : decode cX10_init 49 = .ok (.putfield 26, 3) := by decide +kernel
theorem dX10_init_52 : decode cX10_init 52 = .ok (.aload_n 0, 1) := by decide +kernel
theorem dX10_init_53 : decode cX10_init 53 = .ok (.bipush 120, 2) := by decide +kernel
theorem dX10_init_55 : decode cX10_init 55 = .ok (.newarray .int, 2) := by decide +kernel
theorem dX10_init_57 : decode cX10_init 57 = .ok (.putfield 29, 3) := by decide +kernel
theorem dX10_init_60 : decode cX10_init 60 = .ok (.aload_n 0, 1) := by decide +kernel
theorem dX10_init_61 : decode cX10_init 61 = .ok (.bipush 120, 2) := by decide +kernel
theorem dX10_init_63 : decode cX10_init 63 = .ok (.newarray .int, 2) := by decide +kernel
theorem dX10_init_65 : decode cX10_init 65 = .ok (.putfield 32, 3) := by decide +kernel
theorem dX10_init_68 : decode cX10_init 68 = .ok (.aload_n 0, 1) := by decide +kernel
theorem dX10_init_69 : decode cX10_init 69 = .ok (.iconst 5, 1) := by decide +kernel
theorem dX10_init_70 : decode cX10_init 70 = .ok (.newarray .int, 2) := by decide +kernel
theorem dX10_init_72 : decode cX10_init 72 = .ok (.putfield 35, 3) := by decide +kernel
theorem dX10_init_75 : decode cX10_init 75 = .ok (.aload_n 0, 1) := by decide +kernel
theorem dX10_init_76 : decode cX10_init 76 = .ok (.sipush 2880, 3) := by decide +kernel
theorem dX10_init_79 : decode cX10_init 79 = .ok (.newarray .int, 2) := by decide +kernel
theorem dX10_init_81 : decode cX10_init 81 = .ok (.putfield 38, 3) := by decide +kernel
theorem dX10_init_84 : decode cX10_init 84 = .ok (.aload_n 0, 1) := by decide +kernel
theorem dX10_init_85 : decode cX10_init 85 = .ok (.iconst 4, 1) := by decide +kernel
theorem dX10_init_86 : decode cX10_init 86 = .ok (.newarray .int, 2) := by decide +kernel
theorem dX10_init_88 : decode cX10_init 88 = .ok (.putfield 41, 3) := by decide +kernel
theorem dX10_init_91 : decode cX10_init 91 = .ok (.aload_n 0, 1) := by decide +kernel
theorem dX10_init_92 : decode cX10_init 92 = .ok (.iconst 4, 1) := by decide +kernel
theorem dX10_init_93 : decode cX10_init 93 = .ok (.newarray .int, 2) := by decide +kernel
theorem dX10_init_95 : decode cX10_init 95 = .ok (.putfield 44, 3) := by decide +kernel
theorem dX10_init_98 : decode cX10_init 98 = .ok (.aload_n 0, 1) := by decide +kernel
theorem dX10_init_99 : decode cX10_init 99 = .ok (.sipush 160, 3) := by decide +kernel
theorem dX10_init_102 : decode cX10_init 102 = .ok (.newarray .int, 2) := by decide +kernel
theorem dX10_init_104 : decode cX10_init 104 = .ok (.putfield 47, 3) := by decide +kernel
theorem dX10_init_107 : decode cX10_init 107 = .ok (.aload_n 0, 1) := by decide +kernel
theorem dX10_init_108 : decode cX10_init 108 = .ok (.bipush 56, 2) := by decide +kernel
theorem dX10_init_110 : decode cX10_init 110 = .ok (.newarray .int, 2) := by decide +kernel
theorem dX10_init_112 : decode cX10_init 112 = .ok (.putfield 50, 3) := by decide +kernel
theorem dX10_init_115 : decode cX10_init 115 = .ok (.iconst 0, 1) := by decide +kernel
theorem dX10_init_116 : decode cX10_init 116 = .ok (.istore_n 1, 1) := by decide +kernel
theorem dX10_init_117 : decode cX10_init 117 = .ok (.iload_n 1, 1) := by decide +kernel
theorem dX10_init_118 : decode cX10_init 118 = .ok (.iconst 4, 1) := by decide +kernel
theorem dX10_init_119 : decode cX10_init 119 = .ok (.if_icmp .ge 17, 3) := by decide +kernel
theorem dX10_init_122 : decode cX10_init 122 = .ok (.aload_n 0, 1) := by decide +kernel
theorem dX10_init_123 : decode cX10_init 123 = .ok (.getfield 41, 3) := by decide +kernel
theorem dX10_init_126 : decode cX10_init 126 = .ok (.iload_n 1, 1) := by decide +kernel
theorem dX10_init_127 : decode cX10_init 127 = .ok (.bipush (-4), 2) := by decide +kernel
theorem dX10_init_129 : decode cX10_init 129 = .ok (.iastore, 1) := by decide +kernel
theorem dX10_init_130 : decode cX10_init 130 = .ok (.iinc 1 1, 3) := by decide +kernel
theorem dX10_init_133 : decode cX10_init 133 = .ok (.goto (-16), 3) := by decide +kernel
theorem dX10_init_136 : decode cX10_init 136 = .ok (.aload_n 0, 1) := by decide +kernel
theorem dX10_init_137 : decode cX10_init 137 = .ok (.invokevirtual 53, 3) := by decide +kernel
theorem dX10_init_140 : decode cX10_init 140 = .ok (.aload_n 0, 1) := by decide +kernel
theorem dX10_init_141 : decode cX10_init 141 = .ok (.invokevirtual 56, 3) := by decide +kernel
theorem dX10_init_144 : decode cX10_init 144 = .ok (.return_, 1) := by decide +kernel
theorem dX10_in_0 : decode cX10_in 0 = .ok (.lload_n 0, 1) := by decide +kernel
theorem dX10_in_1 : decode cX10_in 1 = .ok (.lload_n 2, 1) := by decide +kernel
theorem dX10_in_2 : decode cX10_in 2 = .ok (.lcmp, 1) := by decide +kernel
theorem dX10_in_3 : decode cX10_in 3 = .ok (.ifCond .lt 14, 3) := by decide +kernel
theorem dX10_in_6 : decode cX10_in 6 = .ok (.lload_n 0, 1) := by decide +kernel
theorem dX10_in_7 : decode cX10_in 7 = .ok (.lload 4, 2) := by decide +kernel
theorem dX10_in_9 : decode cX10_in 9 = .ok (.lcmp, 1) := by decide +kernel
theorem dX10_in_10 : decode cX10_in 10 = .ok (.ifCond .gt 7, 3) := by decide +kernel
theorem dX10_in_13 : decode cX10_in 13 = .ok (.iconst 1, 1) := by decide +kernel
theorem dX10_in_14 : decode cX10_in 14 = .ok (.goto 4, 3) := by decide +kernel
theorem dX10_in_17 : decode cX10_in 17 = .ok (.iconst 0, 1) := by decide +kernel
theorem dX10_in_18 : decode cX10_in 18 = .ok (.ireturn, 1) := by decide +kernel
theorem dX10_flag_0 : decode cX10_flag 0 = .ok (.iload_n 0, 1) := by decide +kernel
theorem dX10_flag_1 : decode cX10_flag 1 = .ok (.ifCond .eq 7, 3) := by decide +kernel
theorem dX10_flag_4 : decode cX10_flag 4 = .ok (.iconst 1, 1) := by decide +kernel
theorem dX10_flag_5 : decode cX10_flag 5 = .ok (.goto 4, 3) := by decide +kernel
theorem dX10_flag_8 : decode cX10_flag 8 = .ok (.iconst 0, 1) := by decide +kernel
theorem dX10_flag_9 : decode cX10_flag 9 = .ok (.ireturn, 1) := by decide +kernel
theorem dX10_lesser_0 : decode cX10_lesser 0 = .ok (.iload_n 0, 1) := by decide +kernel
theorem dX10_lesser_1 : decode cX10_lesser 1 = .ok (.iload_n 1, 1) := by decide +kernel
theorem dX10_lesser_2 : decode cX10_lesser 2 = .ok (.if_icmp .ge 7, 3) := by decide +kernel
theorem dX10_lesser_5 : decode cX10_lesser 5 = .ok (.iload_n 0, 1) := by decide +kernel
theorem dX10_lesser_6 : decode cX10_lesser 6 = .ok (.goto 4, 3) := by decide +kernel
theorem dX10_lesser_9 : decode cX10_lesser 9 = .ok (.iload_n 1, 1) := by decide +kernel
theorem dX10_lesser_10 : decode cX10_lesser 10 = .ok (.ireturn, 1) := by decide +kernel
theorem dX10_firstDraft_0 : decode cX10_firstDraft 0 = .ok (.iconst 0, 1) := by decide +kernel
theorem dX10_firstDraft_1 : decode cX10_firstDraft 1 = .ok (.istore_n 1, 1) := by decide +kernel
theorem dX10_firstDraft_2 : decode cX10_firstDraft 2 = .ok (.iload_n 1, 1) := by decide +kernel
theorem dX10_firstDraft_3 : decode cX10_firstDraft 3 = .ok (.bipush 56, 2) := by decide +kernel
theorem dX10_firstDraft_5 : decode cX10_firstDraft 5 = .ok (.if_icmp .ge 16, 3) := by decide +kernel
theorem dX10_firstDraft_8 : decode cX10_firstDraft 8 = .ok (.aload_n 0, 1) := by decide +kernel
theorem dX10_firstDraft_9 : decode cX10_firstDraft 9 = .ok (.getfield 20, 3) := by decide +kernel
theorem dX10_firstDraft_12 : decode cX10_firstDraft 12 = .ok (.iload_n 1, 1) := by decide +kernel
theorem dX10_firstDraft_13 : decode cX10_firstDraft 13 = .ok (.iconst 0, 1) := by decide +kernel
theorem dX10_firstDraft_14 : decode cX10_firstDraft 14 = .ok (.iastore, 1) := by decide +kernel
theorem dX10_firstDraft_15 : decode cX10_firstDraft 15 = .ok (.iinc 1 1, 3) := by decide +kernel
theorem dX10_firstDraft_18 : decode cX10_firstDraft 18 = .ok (.goto (-16), 3) := by decide +kernel
theorem dX10_firstDraft_21 : decode cX10_firstDraft 21 = .ok (.aload_n 0, 1) := by decide +kernel
theorem dX10_firstDraft_22 : decode cX10_firstDraft 22 = .ok (.getfield 20, 3) := by decide +kernel
theorem dX10_firstDraft_25 : decode cX10_firstDraft 25 = .ok (.bipush 36, 2) := by decide +kernel
theorem dX10_firstDraft_27 : decode cX10_firstDraft 27 = .ok (.bipush 6, 2) := by decide +kernel
theorem dX10_firstDraft_29 : decode cX10_firstDraft 29 = .ok (.iastore, 1) := by decide +kernel
theorem dX10_firstDraft_30 : decode cX10_firstDraft 30 = .ok (.aload_n 0, 1) := by decide +kernel
theorem dX10_firstDraft_31 : decode cX10_firstDraft 31 = .ok (.iconst 0, 1) := by decide +kernel
theorem dX10_firstDraft_32 : decode cX10_firstDraft 32 = .ok (.putfield 59, 3) := by decide +kernel
theorem dX10_firstDraft_35 : decode cX10_firstDraft 35 = .ok (.aload_n 0, 1) := by decide +kernel
theorem dX10_firstDraft_36 : decode cX10_firstDraft 36 = .ok (.iconst 0, 1) := by decide +kernel
theorem dX10_firstDraft_37 : decode cX10_firstDraft 37 = .ok (.putfield 63, 3) := by decide +kernel
theorem dX10_firstDraft_40 : decode cX10_firstDraft 40 = .ok (.aload_n 0, 1) := by decide +kernel
theorem dX10_firstDraft_41 : decode cX10_firstDraft 41 = .ok (.iconst 0, 1) := by decide +kernel
theorem dX10_firstDraft_42 : decode cX10_firstDraft 42 = .ok (.putfield 66, 3) := by decide +kernel
theorem dX10_firstDraft_45 : decode cX10_firstDraft 45 = .ok (.aload_n 0, 1) := by decide +kernel
theorem dX10_firstDraft_46 : decode cX10_firstDraft 46 = .ok (.iconst 0, 1) := by decide +kernel
theorem dX10_firstDraft_47 : decode cX10_firstDraft 47 = .ok (.putfield 70, 3) := by decide +kernel
theorem dX10_firstDraft_50 : decode cX10_firstDraft 50 = .ok (.aload_n 0, 1) := by decide +kernel
theorem dX10_firstDraft_51 : decode cX10_firstDraft 51 = .ok (.bipush (-4), 2) := by decide +kernel
theorem dX10_firstDraft_53 : decode cX10_firstDraft 53 = .ok (.putfield 73, 3) := by decide +kernel
theorem dX10_firstDraft_56 : decode cX10_firstDraft 56 = .ok (.return_, 1) := by decide +kernel
theorem dX10_keepDraft_0 : decode cX10_keepDraft 0 = .ok (.iconst 0, 1) := by decide +kernel
theorem dX10_keepDraft_1 : decode cX10_keepDraft 1 = .ok (.istore_n 1, 1) := by decide +kernel
theorem dX10_keepDraft_2 : decode cX10_keepDraft 2 = .ok (.iload_n 1, 1) := by decide +kernel
theorem dX10_keepDraft_3 : decode cX10_keepDraft 3 = .ok (.bipush 56, 2) := by decide +kernel
theorem dX10_keepDraft_5 : decode cX10_keepDraft 5 = .ok (.if_icmp .ge 21, 3) := by decide +kernel
theorem dX10_keepDraft_8 : decode cX10_keepDraft 8 = .ok (.aload_n 0, 1) := by decide +kernel
theorem dX10_keepDraft_9 : decode cX10_keepDraft 9 = .ok (.getfield 7, 3) := by decide +kernel
theorem dX10_keepDraft_12 : decode cX10_keepDraft 12 = .ok (.iload_n 1, 1) := by decide +kernel
theorem dX10_keepDraft_13 : decode cX10_keepDraft 13 = .ok (.aload_n 0, 1) := by decide +kernel
theorem dX10_keepDraft_14 : decode cX10_keepDraft 14 = .ok (.getfield 20, 3) := by decide +kernel
theorem dX10_keepDraft_17 : decode cX10_keepDraft 17 = .ok (.iload_n 1, 1) := by decide +kernel
theorem dX10_keepDraft_18 : decode cX10_keepDraft 18 = .ok (.iaload, 1) := by decide +kernel
theorem dX10_keepDraft_19 : decode cX10_keepDraft 19 = .ok (.iastore, 1) := by decide +kernel
theorem dX10_keepDraft_20 : decode cX10_keepDraft 20 = .ok (.iinc 1 1, 3) := by decide +kernel
theorem dX10_keepDraft_23 : decode cX10_keepDraft 23 = .ok (.goto (-21), 3) := by decide +kernel
theorem dX10_keepDraft_26 : decode cX10_keepDraft 26 = .ok (.iconst 0, 1) := by decide +kernel
theorem dX10_keepDraft_27 : decode cX10_keepDraft 27 = .ok (.istore_n 1, 1) := by decide +kernel
theorem dX10_keepDraft_28 : decode cX10_keepDraft 28 = .ok (.iload_n 1, 1) := by decide +kernel
theorem dX10_keepDraft_29 : decode cX10_keepDraft 29 = .ok (.aload_n 0, 1) := by decide +kernel
theorem dX10_keepDraft_30 : decode cX10_keepDraft 30 = .ok (.getfield 70, 3) := by decide +kernel
theorem dX10_keepDraft_33 : decode cX10_keepDraft 33 = .ok (.if_icmp .ge 24, 3) := by decide +kernel
theorem dX10_keepDraft_36 : decode cX10_keepDraft 36 = .ok (.aload_n 0, 1) := by decide +kernel
theorem dX10_keepDraft_37 : decode cX10_keepDraft 37 = .ok (.getfield 7, 3) := by decide +kernel
theorem dX10_keepDraft_40 : decode cX10_keepDraft 40 = .ok (.bipush 31, 2) := by decide +kernel
theorem dX10_keepDraft_42 : decode cX10_keepDraft 42 = .ok (.iload_n 1, 1) := by decide +kernel
theorem dX10_keepDraft_43 : decode cX10_keepDraft 43 = .ok (.iadd, 1) := by decide +kernel
theorem dX10_keepDraft_44 : decode cX10_keepDraft 44 = .ok (.aload_n 0, 1) := by decide +kernel
theorem dX10_keepDraft_45 : decode cX10_keepDraft 45 = .ok (.getfield 23, 3) := by decide +kernel
theorem dX10_keepDraft_48 : decode cX10_keepDraft 48 = .ok (.iload_n 1, 1) := by decide +kernel
theorem dX10_keepDraft_49 : decode cX10_keepDraft 49 = .ok (.iaload, 1) := by decide +kernel
theorem dX10_keepDraft_50 : decode cX10_keepDraft 50 = .ok (.iastore, 1) := by decide +kernel
theorem dX10_keepDraft_51 : decode cX10_keepDraft 51 = .ok (.iinc 1 1, 3) := by decide +kernel
theorem dX10_keepDraft_54 : decode cX10_keepDraft 54 = .ok (.goto (-26), 3) := by decide +kernel
theorem dX10_keepDraft_57 : decode cX10_keepDraft 57 = .ok (.aload_n 0, 1) := by decide +kernel
theorem dX10_keepDraft_58 : decode cX10_keepDraft 58 = .ok (.getfield 70, 3) := by decide +kernel
theorem dX10_keepDraft_61 : decode cX10_keepDraft 61 = .ok (.istore_n 1, 1) := by decide +kernel
theorem dX10_keepDraft_62 : decode cX10_keepDraft 62 = .ok (.iconst 0, 1) := by decide +kernel
theorem dX10_keepDraft_63 : decode cX10_keepDraft 63 = .ok (.istore_n 2, 1) := by decide +kernel
theorem dX10_keepDraft_64 : decode cX10_keepDraft 64 = .ok (.iload_n 2, 1) := by decide +kernel
theorem dX10_keepDraft_65 : decode cX10_keepDraft 65 = .ok (.aload_n 0, 1) := by decide +kernel
theorem dX10_keepDraft_66 : decode cX10_keepDraft 66 = .ok (.getfield 7, 3) := by decide +kernel
theorem dX10_keepDraft_69 : decode cX10_keepDraft 69 = .ok (.bipush 30, 2) := by decide +kernel
theorem dX10_keepDraft_71 : decode cX10_keepDraft 71 = .ok (.iaload, 1) := by decide +kernel
theorem dX10_keepDraft_72 : decode cX10_keepDraft 72 = .ok (.if_icmp .ge 33, 3) := by decide +kernel
theorem dX10_keepDraft_75 : decode cX10_keepDraft 75 = .ok (.aload_n 0, 1) := by decide +kernel
theorem dX10_keepDraft_76 : decode cX10_keepDraft 76 = .ok (.getfield 66, 3) := by decide +kernel
theorem dX10_keepDraft_79 : decode cX10_keepDraft 79 = .ok (.iload_n 2, 1) := by decide +kernel
theorem dX10_keepDraft_80 : decode cX10_keepDraft 80 = .ok (.ishr, 1) := by decide +kernel
theorem dX10_keepDraft_81 : decode cX10_keepDraft 81 = .ok (.iconst 1, 1) := by decide +kernel
theorem dX10_keepDraft_82 : decode cX10_keepDraft 82 = .ok (.iand, 1) := by decide +kernel
theorem dX10_keepDraft_83 : decode cX10_keepDraft 83 = .ok (.ifCond .ne 16, 3) := by decide +kernel
theorem dX10_keepDraft_86 : decode cX10_keepDraft 86 = .ok (.aload_n 0, 1) := by decide +kernel
theorem dX10_keepDraft_87 : decode cX10_keepDraft 87 = .ok (.getfield 7, 3) := by decide +kernel
theorem dX10_keepDraft_90 : decode cX10_keepDraft 90 = .ok (.bipush 31, 2) := by decide +kernel
theorem dX10_keepDraft_92 : decode cX10_keepDraft 92 = .ok (.iload_n 1, 1) := by decide +kernel
theorem dX10_keepDraft_93 : decode cX10_keepDraft 93 = .ok (.iadd, 1) := by decide +kernel
theorem dX10_keepDraft_94 : decode cX10_keepDraft 94 = .ok (.iload_n 2, 1) := by decide +kernel
theorem dX10_keepDraft_95 : decode cX10_keepDraft 95 = .ok (.iastore, 1) := by decide +kernel
theorem dX10_keepDraft_96 : decode cX10_keepDraft 96 = .ok (.iinc 1 1, 3) := by decide +kernel
theorem dX10_keepDraft_99 : decode cX10_keepDraft 99 = .ok (.iinc 2 1, 3) := by decide +kernel
theorem dX10_keepDraft_102 : decode cX10_keepDraft 102 = .ok (.goto (-38), 3) := by decide +kernel
theorem dX10_keepDraft_105 : decode cX10_keepDraft 105 = .ok (.aload_n 0, 1) := by decide +kernel
theorem dX10_keepDraft_106 : decode cX10_keepDraft 106 = .ok (.getfield 16, 3) := by decide +kernel
theorem dX10_keepDraft_109 : decode cX10_keepDraft 109 = .ok (.iconst 0, 1) := by decide +kernel
theorem dX10_keepDraft_110 : decode cX10_keepDraft 110 = .ok (.iconst 0, 1) := by decide +kernel
theorem dX10_keepDraft_111 : decode cX10_keepDraft 111 = .ok (.bastore, 1) := by decide +kernel
theorem dX10_keepDraft_112 : decode cX10_keepDraft 112 = .ok (.aload_n 0, 1) := by decide +kernel
theorem dX10_keepDraft_113 : decode cX10_keepDraft 113 = .ok (.getfield 16, 3) := by decide +kernel
theorem dX10_keepDraft_116 : decode cX10_keepDraft 116 = .ok (.iconst 1, 1) := by decide +kernel
theorem dX10_keepDraft_117 : decode cX10_keepDraft 117 = .ok (.iconst 0, 1) := by decide +kernel
theorem dX10_keepDraft_118 : decode cX10_keepDraft 118 = .ok (.bastore, 1) := by decide +kernel
theorem dX10_keepDraft_119 : decode cX10_keepDraft 119 = .ok (.return_, 1) := by decide +kernel
set_option maxRecDepth 20000 in
theorem ggX10_feed_X10_in : GoodIn wsX10_feed wsX10_in := goodIn_r _ [7] (by decide +kernel) (by decide +kernel)
set_option maxRecDepth 20000 in
theorem gX10_feed_X10_in : GoodIn wsX10_feed (va_wsS RX10 78 yX10_in wsX10_in) := goodIn_app (goodIn_of _ (by decide +kernel)) ggX10_feed_X10_in
theorem dX10_feed_0 : decode cX10_feed 0 = .ok (.iload_n 1, 1) := by decide +kernel
theorem dX10_feed_1 : decode cX10_feed 1 = .ok (.i2l, 1) := by decide +kernel
theorem dX10_feed_2 : decode cX10_feed 2 = .ok (.lconst 0, 1) := by decide +kernel
theorem dX10_feed_3 : decode cX10_feed 3 = .ok (.ldc2_w 76, 3) := by decide +kernel
theorem dX10_feed_6 : decode cX10_feed 6 = .ok (.invokestatic 78, 3) := by decide +kernel
theorem dX10_feed_9 : decode cX10_feed 9 = .ok (.ifCond .ne 5, 3) := by decide +kernel
theorem dX10_feed_12 : decode cX10_feed 12 = .ok (.iconst (-1), 1) := by decide +kernel
theorem dX10_feed_13 : decode cX10_feed 13 = .ok (.ireturn, 1) := by decide +kernel
theorem dX10_feed_14 : decode cX10_feed 14 = .ok (.aload_n 0, 1) := by decide +kernel
theorem dX10_feed_15 : decode cX10_feed 15 = .ok (.getfield 82, 3) := by decide +kernel
theorem dX10_feed_18 : decode cX10_feed 18 = .ok (.sipush 160, 3) := by decide +kernel
theorem dX10_feed_21 : decode cX10_feed 21 = .ok (.if_icmp .ne 6, 3) := by decide +kernel
theorem dX10_feed_24 : decode cX10_feed 24 = .ok (.bipush (-3), 2) := by decide +kernel
theorem dX10_feed_26 : decode cX10_feed 26 = .ok (.ireturn, 1) := by decide +kernel
theorem dX10_feed_27 : decode cX10_feed 27 = .ok (.aload_n 0, 1) := by decide +kernel
theorem dX10_feed_28 : decode cX10_feed 28 = .ok (.getfield 26, 3) := by decide +kernel
theorem dX10_feed_31 : decode cX10_feed 31 = .ok (.aload_n 0, 1) := by decide +kernel
theorem dX10_feed_32 : decode cX10_feed 32 = .ok (.getfield 82, 3) := by decide +kernel
theorem dX10_feed_35 : decode cX10_feed 35 = .ok (.iload_n 1, 1) := by decide +kernel
theorem dX10_feed_36 : decode cX10_feed 36 = .ok (.iastore, 1) := by decide +kernel
theorem dX10_feed_37 : decode cX10_feed 37 = .ok (.aload_n 0, 1) := by decide +kernel
theorem dX10_feed_38 : decode cX10_feed 38 = .ok (.dup, 1) := by decide +kernel
theorem dX10_feed_39 : decode cX10_feed 39 = .ok (.getfield 82, 3) := by decide +kernel
theorem dX10_feed_42 : decode cX10_feed 42 = .ok (.iconst 1, 1) := by decide +kernel
theorem dX10_feed_43 : decode cX10_feed 43 = .ok (.iadd, 1) := by decide +kernel
theorem dX10_feed_44 : decode cX10_feed 44 = .ok (.putfield 82, 3) := by decide +kernel
theorem dX10_feed_47 : decode cX10_feed 47 = .ok (.aload_n 0, 1) := by decide +kernel
theorem dX10_feed_48 : decode cX10_feed 48 = .ok (.getfield 82, 3) := by decide +kernel
theorem dX10_feed_51 : decode cX10_feed 51 = .ok (.ireturn, 1) := by decide +kernel
set_option maxRecDepth 20000 in
theorem ggX10_end_X10_in : GoodIn wsX10_end wsX10_in := goodIn_r _ [5] (by decide +kernel) (by decide +kernel)
set_option maxRecDepth 20000 in
theorem gX10_end_X10_in : GoodIn wsX10_end (va_wsS RX10 78 yX10_in wsX10_in) := goodIn_app (goodIn_of _ (by decide +kernel)) ggX10_end_X10_in
theorem dX10_end_0 : decode cX10_end 0 = .ok (.iload_n 1, 1) := by decide +kernel
theorem dX10_end_1 : decode cX10_end 1 = .ok (.i2l, 1) := by decide +kernel
theorem dX10_end_2 : decode cX10_end 2 = .ok (.lconst 0, 1) := by decide +kernel
theorem dX10_end_3 : decode cX10_end 3 = .ok (.aload_n 0, 1) := by decide +kernel
theorem dX10_end_4 : decode cX10_end 4 = .ok (.getfield 82, 3) := by decide +kernel
theorem dX10_end_7 : decode cX10_end 7 = .ok (.i2l, 1) := by decide +kernel
theorem dX10_end_8 : decode cX10_end 8 = .ok (.invokestatic 78, 3) := by decide +kernel
theorem dX10_end_11 : decode cX10_end 11 = .ok (.ifCond .ne 5, 3) := by decide +kernel
theorem dX10_end_14 : decode cX10_end 14 = .ok (.iconst (-1), 1) := by decide +kernel
theorem dX10_end_15 : decode cX10_end 15 = .ok (.ireturn, 1) := by decide +kernel
theorem dX10_end_16 : decode cX10_end 16 = .ok (.aload_n 0, 1) := by decide +kernel
theorem dX10_end_17 : decode cX10_end 17 = .ok (.getfield 82, 3) := by decide +kernel
theorem dX10_end_20 : decode cX10_end 20 = .ok (.istore_n 2, 1) := by decide +kernel
theorem dX10_end_21 : decode cX10_end 21 = .ok (.aload_n 0, 1) := by decide +kernel
theorem dX10_end_22 : decode cX10_end 22 = .ok (.iload_n 1, 1) := by decide +kernel
theorem dX10_end_23 : decode cX10_end 23 = .ok (.putfield 82, 3) := by decide +kernel
theorem dX10_end_26 : decode cX10_end 26 = .ok (.iload_n 2, 1) := by decide +kernel
theorem dX10_end_27 : decode cX10_end 27 = .ok (.ireturn, 1) := by decide +kernel
theorem dX10_needs_0 : decode cX10_needs 0 = .ok (.iload_n 1, 1) := by decide +kernel
theorem dX10_needs_1 : decode cX10_needs 1 = .ok (.ifCond .ne 23, 3) := by decide +kernel
theorem dX10_needs_4 : decode cX10_needs 4 = .ok (.aload_n 0, 1) := by decide +kernel
theorem dX10_needs_5 : decode cX10_needs 5 = .ok (.getfield 85, 3) := by decide +kernel
theorem dX10_needs_8 : decode cX10_needs 8 = .ok (.ifCond .ne 16, 3) := by decide +kernel
theorem dX10_needs_11 : decode cX10_needs 11 = .ok (.aload_n 0, 1) := by decide +kernel
theorem dX10_needs_12 : decode cX10_needs 12 = .ok (.iload_n 2, 1) := by decide +kernel
theorem dX10_needs_13 : decode cX10_needs 13 = .ok (.putfield 85, 3) := by decide +kernel
theorem dX10_needs_16 : decode cX10_needs 16 = .ok (.aload_n 0, 1) := by decide +kernel
theorem dX10_needs_17 : decode cX10_needs 17 = .ok (.aload_n 0, 1) := by decide +kernel
theorem dX10_needs_18 : decode cX10_needs 18 = .ok (.getfield 88, 3) := by decide +kernel
theorem dX10_needs_21 : decode cX10_needs 21 = .ok (.putfield 91, 3) := by decide +kernel
theorem dX10_needs_24 : decode cX10_needs 24 = .ok (.return_, 1) := by decide +kernel
theorem dX10_byteAt_0 : decode cX10_byteAt 0 = .ok (.iload_n 1, 1) := by decide +kernel
theorem dX10_byteAt_1 : decode cX10_byteAt 1 = .ok (.aload_n 0, 1) := by decide +kernel
theorem dX10_byteAt_2 : decode cX10_byteAt 2 = .ok (.getfield 82, 3) := by decide +kernel
theorem dX10_byteAt_5 : decode cX10_byteAt 5 = .ok (.if_icmp .ge 12, 3) := by decide +kernel
theorem dX10_byteAt_8 : decode cX10_byteAt 8 = .ok (.aload_n 0, 1) := by decide +kernel
theorem dX10_byteAt_9 : decode cX10_byteAt 9 = .ok (.getfield 26, 3) := by decide +kernel
theorem dX10_byteAt_12 : decode cX10_byteAt 12 = .ok (.iload_n 1, 1) := by decide +kernel
theorem dX10_byteAt_13 : decode cX10_byteAt 13 = .ok (.iaload, 1) := by decide +kernel
theorem dX10_byteAt_14 : decode cX10_byteAt 14 = .ok (.goto 4, 3) := by decide +kernel
theorem dX10_byteAt_17 : decode cX10_byteAt 17 = .ok (.iconst (-1), 1) := by decide +kernel
theorem dX10_byteAt_18 : decode cX10_byteAt 18 = .ok (.ireturn, 1) := by decide +kernel
set_option maxRecDepth 20000 in
theorem ggX10_is_X10_byteAt : GoodIn wsX10_is wsX10_byteAt := goodIn_r _ [7, 8, 9, 10, 11, 12, 13, 14, 15, 16, 17, 18, 19, 20, 21, 22, 23, 24, 25, 26, 27, 28, 29, 30, 31, 32, 33, 34, 35, 36, 37, 38, 39] (by decide +kernel) (by decide +kernel)
set_option maxRecDepth 20000 in
theorem gX10_is_X10_byteAt : GoodIn wsX10_is (wsV RX10 97 RX10 yX10_byteAt wsX10_byteAt) := goodIn_app (goodIn_of _ (by decide +kernel)) ggX10_is_X10_byteAt
theorem dX10_is_0 : decode cX10_is 0 = .ok (.aload_n 0, 1) := by decide +kernel
theorem dX10_is_1 : decode cX10_is 1 = .ok (.getfield 94, 3) := by decide +kernel
theorem dX10_is_4 : decode cX10_is 4 = .ok (.aload_n 0, 1) := by decide +kernel
theorem dX10_is_5 : decode cX10_is 5 = .ok (.getfield 88, 3) := by decide +kernel
theorem dX10_is_8 : decode cX10_is 8 = .ok (.isub, 1) := by decide +kernel
theorem dX10_is_9 : decode cX10_is 9 = .ok (.iload_n 1, 1) := by decide +kernel
theorem dX10_is_10 : decode cX10_is 10 = .ok (.if_icmp .ne 63, 3) := by decide +kernel
theorem dX10_is_13 : decode cX10_is 13 = .ok (.aload_n 0, 1) := by decide +kernel
theorem dX10_is_14 : decode cX10_is 14 = .ok (.aload_n 0, 1) := by decide +kernel
theorem dX10_is_15 : decode cX10_is 15 = .ok (.getfield 88, 3) := by decide +kernel
theorem dX10_is_18 : decode cX10_is 18 = .ok (.invokevirtual 97, 3) := by decide +kernel
theorem dX10_is_21 : decode cX10_is 21 = .ok (.iload_n 2, 1) := by decide +kernel
theorem dX10_is_22 : decode cX10_is 22 = .ok (.if_icmp .ne 51, 3) := by decide +kernel
theorem dX10_is_25 : decode cX10_is 25 = .ok (.aload_n 0, 1) := by decide +kernel
theorem dX10_is_26 : decode cX10_is 26 = .ok (.aload_n 0, 1) := by decide +kernel
theorem dX10_is_27 : decode cX10_is 27 = .ok (.getfield 88, 3) := by decide +kernel
theorem dX10_is_30 : decode cX10_is 30 = .ok (.iconst 1, 1) := by decide +kernel
theorem dX10_is_31 : decode cX10_is 31 = .ok (.iadd, 1) := by decide +kernel
theorem dX10_is_32 : decode cX10_is 32 = .ok (.invokevirtual 97, 3) := by decide +kernel
theorem dX10_is_35 : decode cX10_is 35 = .ok (.iload_n 3, 1) := by decide +kernel
theorem dX10_is_36 : decode cX10_is 36 = .ok (.if_icmp .ne 37, 3) := by decide +kernel
theorem dX10_is_39 : decode cX10_is 39 = .ok (.aload_n 0, 1) := by decide +kernel
theorem dX10_is_40 : decode cX10_is 40 = .ok (.aload_n 0, 1) := by decide +kernel
theorem dX10_is_41 : decode cX10_is 41 = .ok (.getfield 88, 3) := by decide +kernel
theorem dX10_is_44 : decode cX10_is 44 = .ok (.iconst 2, 1) := by decide +kernel
theorem dX10_is_45 : decode cX10_is 45 = .ok (.iadd, 1) := by decide +kernel
theorem dX10_is_46 : decode cX10_is 46 = .ok (.invokevirtual 97, 3) := by decide +kernel
theorem dX10_is_49 : decode cX10_is 49 = .ok (.iload 4, 2) := by decide +kernel
theorem dX10_is_51 : decode cX10_is 51 = .ok (.if_icmp .ne 22, 3) := by decide +kernel
theorem dX10_is_54 : decode cX10_is 54 = .ok (.aload_n 0, 1) := by decide +kernel
theorem dX10_is_55 : decode cX10_is 55 = .ok (.aload_n 0, 1) := by decide +kernel
theorem dX10_is_56 : decode cX10_is 56 = .ok (.getfield 88, 3) := by decide +kernel
theorem dX10_is_59 : decode cX10_is 59 = .ok (.iconst 3, 1) := by decide +kernel
theorem dX10_is_60 : decode cX10_is 60 = .ok (.iadd, 1) := by decide +kernel
theorem dX10_is_61 : decode cX10_is 61 = .ok (.invokevirtual 97, 3) := by decide +kernel
theorem dX10_is_64 : decode cX10_is 64 = .ok (.iload 5, 2) := by decide +kernel
theorem dX10_is_66 : decode cX10_is 66 = .ok (.if_icmp .ne 7, 3) := by decide +kernel
theorem dX10_is_69 : decode cX10_is 69 = .ok (.iconst 1, 1) := by decide +kernel
theorem dX10_is_70 : decode cX10_is 70 = .ok (.goto 4, 3) := by decide +kernel
theorem dX10_is_73 : decode cX10_is 73 = .ok (.iconst 0, 1) := by decide +kernel
theorem dX10_is_74 : decode cX10_is 74 = .ok (.ireturn, 1) := by decide +kernel
set_option maxRecDepth 20000 in
theorem ggX10_ends_X10_byteAt : GoodIn wsX10_ends wsX10_byteAt := goodIn_r _ [6, 7, 8, 9, 10, 11, 12, 13, 14, 15, 16, 17, 18, 19, 20, 21, 22, 23, 24, 25, 26, 27, 28, 29, 30, 31, 32, 33, 34, 35, 36, 37, 38] (by decide +kernel) (by decide +kernel)
set_option maxRecDepth 20000 in
theorem gX10_ends_X10_byteAt : GoodIn wsX10_ends (wsV RX10 97 RX10 yX10_byteAt wsX10_byteAt) := goodIn_app (goodIn_of _ (by decide +kernel)) ggX10_ends_X10_byteAt
theorem dX10_ends_0 : decode cX10_ends 0 = .ok (.aload_n 0, 1) := by decide +kernel
theorem dX10_ends_1 : decode cX10_ends 1 = .ok (.aload_n 0, 1) := by decide +kernel
theorem dX10_ends_2 : decode cX10_ends 2 = .ok (.getfield 88, 3) := by decide +kernel
theorem dX10_ends_5 : decode cX10_ends 5 = .ok (.iconst 4, 1) := by decide +kernel
theorem dX10_ends_6 : decode cX10_ends 6 = .ok (.iadd, 1) := by decide +kernel
theorem dX10_ends_7 : decode cX10_ends 7 = .ok (.invokevirtual 97, 3) := by decide +kernel
theorem dX10_ends_10 : decode cX10_ends 10 = .ok (.iload_n 1, 1) := by decide +kernel
theorem dX10_ends_11 : decode cX10_ends 11 = .ok (.if_icmp .ne 25, 3) := by decide +kernel
theorem dX10_ends_14 : decode cX10_ends 14 = .ok (.iload_n 2, 1) := by decide +kernel
theorem dX10_ends_15 : decode cX10_ends 15 = .ok (.ifCond .eq 17, 3) := by decide +kernel
theorem dX10_ends_18 : decode cX10_ends 18 = .ok (.aload_n 0, 1) := by decide +kernel
theorem dX10_ends_19 : decode cX10_ends 19 = .ok (.aload_n 0, 1) := by decide +kernel
theorem dX10_ends_20 : decode cX10_ends 20 = .ok (.getfield 88, 3) := by decide +kernel
theorem dX10_ends_23 : decode cX10_ends 23 = .ok (.iconst 5, 1) := by decide +kernel
theorem dX10_ends_24 : decode cX10_ends 24 = .ok (.iadd, 1) := by decide +kernel
theorem dX10_ends_25 : decode cX10_ends 25 = .ok (.invokevirtual 97, 3) := by decide +kernel
theorem dX10_ends_28 : decode cX10_ends 28 = .ok (.iload_n 2, 1) := by decide +kernel
theorem dX10_ends_29 : decode cX10_ends 29 = .ok (.if_icmp .ne 7, 3) := by decide +kernel
theorem dX10_ends_32 : decode cX10_ends 32 = .ok (.iconst 1, 1) := by decide +kernel
theorem dX10_ends_33 : decode cX10_ends 33 = .ok (.goto 4, 3) := by decide +kernel
theorem dX10_ends_36 : decode cX10_ends 36 = .ok (.iconst 0, 1) := by decide +kernel
theorem dX10_ends_37 : decode cX10_ends 37 = .ok (.ireturn, 1) := by decide +kernel
set_option maxRecDepth 20000 in
theorem ggX10_lineNow_X10_is : GoodIn wsX10_lineNow wsX10_is := goodIn_r _ [5, 6, 7, 8, 9, 10, 4, 11, 12, 13, 18, 19, 20, 21, 22, 23, 24, 25, 26, 27, 28, 29, 30, 31, 32, 33, 34, 35, 36, 37, 38, 39, 40, 41, 42, 43, 44, 45, 46, 47] (by decide +kernel) (by decide +kernel)
set_option maxRecDepth 20000 in
theorem gX10_lineNow_X10_is : GoodIn wsX10_lineNow (wsV RX10 101 RX10 yX10_is wsX10_is) := goodIn_app (goodIn_of _ (by decide +kernel)) ggX10_lineNow_X10_is
set_option maxRecDepth 20000 in
theorem ggX10_lineNow_X10_ends : GoodIn wsX10_lineNow wsX10_ends := goodIn_r _ [17, 7, 8, 9, 10, 4, 11, 12, 13, 18, 19, 20, 21, 22, 23, 24, 25, 26, 27, 28, 29, 30, 31, 32, 33, 34, 35, 36, 37, 38, 39, 40, 41, 42, 43, 44, 45, 46, 47] (by decide +kernel) (by decide +kernel)
set_option maxRecDepth 20000 in
theorem gX10_lineNow_X10_ends : GoodIn wsX10_lineNow (wsV RX10 105 RX10 yX10_ends wsX10_ends) := goodIn_app (goodIn_of _ (by decide +kernel)) ggX10_lineNow_X10_ends
theorem dX10_lineNow_0 : decode cX10_lineNow 0 = .ok (.aload_n 0, 1) := by decide +kernel
theorem dX10_lineNow_1 : decode cX10_lineNow 1 = .ok (.bipush 6, 2) := by decide +kernel
theorem dX10_lineNow_3 : decode cX10_lineNow 3 = .ok (.bipush 98, 2) := by decide +kernel
theorem dX10_lineNow_5 : decode cX10_lineNow 5 = .ok (.bipush 111, 2) := by decide +kernel
theorem dX10_lineNow_7 : decode cX10_lineNow 7 = .ok (.bipush 110, 2) := by decide +kernel
theorem dX10_lineNow_9 : decode cX10_lineNow 9 = .ok (.bipush 110, 2) := by decide +kernel
theorem dX10_lineNow_11 : decode cX10_lineNow 11 = .ok (.invokevirtual 101, 3) := by decide +kernel
theorem dX10_lineNow_14 : decode cX10_lineNow 14 = .ok (.ifCond .eq 16, 3) := by decide +kernel
theorem dX10_lineNow_17 : decode cX10_lineNow 17 = .ok (.aload_n 0, 1) := by decide +kernel
theorem dX10_lineNow_18 : decode cX10_lineNow 18 = .ok (.bipush 101, 2) := by decide +kernel
theorem dX10_lineNow_20 : decode cX10_lineNow 20 = .ok (.bipush 116, 2) := by decide +kernel
theorem dX10_lineNow_22 : decode cX10_lineNow 22 = .ok (.invokevirtual 105, 3) := by decide +kernel
theorem dX10_lineNow_25 : decode cX10_lineNow 25 = .ok (.ifCond .eq 5, 3) := by decide +kernel
theorem dX10_lineNow_28 : decode cX10_lineNow 28 = .ok (.iconst 0, 1) := by decide +kernel
theorem dX10_lineNow_29 : decode cX10_lineNow 29 = .ok (.ireturn, 1) := by decide +kernel
theorem dX10_lineNow_30 : decode cX10_lineNow 30 = .ok (.aload_n 0, 1) := by decide +kernel
theorem dX10_lineNow_31 : decode cX10_lineNow 31 = .ok (.iconst 4, 1) := by decide +kernel
theorem dX10_lineNow_32 : decode cX10_lineNow 32 = .ok (.bipush 118, 2) := by decide +kernel
theorem dX10_lineNow_34 : decode cX10_lineNow 34 = .ok (.bipush 101, 2) := by decide +kernel
theorem dX10_lineNow_36 : decode cX10_lineNow 36 = .ok (.bipush 105, 2) := by decide +kernel
theorem dX10_lineNow_38 : decode cX10_lineNow 38 = .ok (.bipush 108, 2) := by decide +kernel
theorem dX10_lineNow_40 : decode cX10_lineNow 40 = .ok (.invokevirtual 101, 3) := by decide +kernel
theorem dX10_lineNow_43 : decode cX10_lineNow 43 = .ok (.ifCond .eq 5, 3) := by decide +kernel
theorem dX10_lineNow_46 : decode cX10_lineNow 46 = .ok (.iconst 1, 1) := by decide +kernel
theorem dX10_lineNow_47 : decode cX10_lineNow 47 = .ok (.ireturn, 1) := by decide +kernel
theorem dX10_lineNow_48 : decode cX10_lineNow 48 = .ok (.aload_n 0, 1) := by decide +kernel
theorem dX10_lineNow_49 : decode cX10_lineNow 49 = .ok (.iconst 5, 1) := by decide +kernel
theorem dX10_lineNow_50 : decode cX10_lineNow 50 = .ok (.bipush 116, 2) := by decide +kernel
theorem dX10_lineNow_52 : decode cX10_lineNow 52 = .ok (.bipush 111, 2) := by decide +kernel
theorem dX10_lineNow_54 : decode cX10_lineNow 54 = .ok (.bipush 113, 2) := by decide +kernel
theorem dX10_lineNow_56 : decode cX10_lineNow 56 = .ok (.bipush 117, 2) := by decide +kernel
theorem dX10_lineNow_58 : decode cX10_lineNow 58 = .ok (.invokevirtual 101, 3) := by decide +kernel
theorem dX10_lineNow_61 : decode cX10_lineNow 61 = .ok (.ifCond .eq 15, 3) := by decide +kernel
theorem dX10_lineNow_64 : decode cX10_lineNow 64 = .ok (.aload_n 0, 1) := by decide +kernel
theorem dX10_lineNow_65 : decode cX10_lineNow 65 = .ok (.bipush 101, 2) := by decide +kernel
theorem dX10_lineNow_67 : decode cX10_lineNow 67 = .ok (.iconst 0, 1) := by decide +kernel
theorem dX10_lineNow_68 : decode cX10_lineNow 68 = .ok (.invokevirtual 105, 3) := by decide +kernel
theorem dX10_lineNow_71 : decode cX10_lineNow 71 = .ok (.ifCond .eq 5, 3) := by decide +kernel
theorem dX10_lineNow_74 : decode cX10_lineNow 74 = .ok (.iconst 2, 1) := by decide +kernel
theorem dX10_lineNow_75 : decode cX10_lineNow 75 = .ok (.ireturn, 1) := by decide +kernel
theorem dX10_lineNow_76 : decode cX10_lineNow 76 = .ok (.aload_n 0, 1) := by decide +kernel
theorem dX10_lineNow_77 : decode cX10_lineNow 77 = .ok (.bipush 6, 2) := by decide +kernel
theorem dX10_lineNow_79 : decode cX10_lineNow 79 = .ok (.bipush 98, 2) := by decide +kernel
theorem dX10_lineNow_81 : decode cX10_lineNow 81 = .ok (.bipush 114, 2) := by decide +kernel
theorem dX10_lineNow_83 : decode cX10_lineNow 83 = .ok (.bipush 105, 2) := by decide +kernel
theorem dX10_lineNow_85 : decode cX10_lineNow 85 = .ok (.bipush 100, 2) := by decide +kernel
theorem dX10_lineNow_87 : decode cX10_lineNow 87 = .ok (.invokevirtual 101, 3) := by decide +kernel
theorem dX10_lineNow_90 : decode cX10_lineNow 90 = .ok (.ifCond .eq 16, 3) := by decide +kernel
theorem dX10_lineNow_93 : decode cX10_lineNow 93 = .ok (.aload_n 0, 1) := by decide +kernel
theorem dX10_lineNow_94 : decode cX10_lineNow 94 = .ok (.bipush 97, 2) := by decide +kernel
theorem dX10_lineNow_96 : decode cX10_lineNow 96 = .ok (.bipush 108, 2) := by decide +kernel
theorem dX10_lineNow_98 : decode cX10_lineNow 98 = .ok (.invokevirtual 105, 3) := by decide +kernel
theorem dX10_lineNow_101 : decode cX10_lineNow 101 = .ok (.ifCond .eq 5, 3) := by decide +kernel
theorem dX10_lineNow_104 : decode cX10_lineNow 104 = .ok (.iconst 3, 1) := by decide +kernel
theorem dX10_lineNow_105 : decode cX10_lineNow 105 = .ok (.ireturn, 1) := by decide +kernel
theorem dX10_lineNow_106 : decode cX10_lineNow 106 = .ok (.aload_n 0, 1) := by decide +kernel
theorem dX10_lineNow_107 : decode cX10_lineNow 107 = .ok (.iconst 5, 1) := by decide +kernel
theorem dX10_lineNow_108 : decode cX10_lineNow 108 = .ok (.bipush 111, 2) := by decide +kernel
theorem dX10_lineNow_110 : decode cX10_lineNow 110 = .ok (.bipush 114, 2) := by decide +kernel
theorem dX10_lineNow_112 : decode cX10_lineNow 112 = .ok (.bipush 100, 2) := by decide +kernel
theorem dX10_lineNow_114 : decode cX10_lineNow 114 = .ok (.bipush 101, 2) := by decide +kernel
theorem dX10_lineNow_116 : decode cX10_lineNow 116 = .ok (.invokevirtual 101, 3) := by decide +kernel
theorem dX10_lineNow_119 : decode cX10_lineNow 119 = .ok (.ifCond .eq 17, 3) := by decide +kernel
theorem dX10_lineNow_122 : decode cX10_lineNow 122 = .ok (.aload_n 0, 1) := by decide +kernel
theorem dX10_lineNow_123 : decode cX10_lineNow 123 = .ok (.bipush 114, 2) := by decide +kernel
theorem dX10_lineNow_125 : decode cX10_lineNow 125 = .ok (.iconst 0, 1) := by decide +kernel
theorem dX10_lineNow_126 : decode cX10_lineNow 126 = .ok (.invokevirtual 105, 3) := by decide +kernel
theorem dX10_lineNow_129 : decode cX10_lineNow 129 = .ok (.ifCond .eq 7, 3) := by decide +kernel
theorem dX10_lineNow_132 : decode cX10_lineNow 132 = .ok (.iconst 4, 1) := by decide +kernel
theorem dX10_lineNow_133 : decode cX10_lineNow 133 = .ok (.goto 35, 3) := by decide +kernel
theorem dX10_lineNow_136 : decode cX10_lineNow 136 = .ok (.aload_n 0, 1) := by decide +kernel
theorem dX10_lineNow_137 : decode cX10_lineNow 137 = .ok (.iconst 5, 1) := by decide +kernel
theorem dX10_lineNow_138 : decode cX10_lineNow 138 = .ok (.bipush 115, 2) := by decide +kernel
theorem dX10_lineNow_140 : decode cX10_lineNow 140 = .ok (.bipush 116, 2) := by decide +kernel
theorem dX10_lineNow_142 : decode cX10_lineNow 142 = .ok (.bipush 97, 2) := by decide +kernel
theorem dX10_lineNow_144 : decode cX10_lineNow 144 = .ok (.bipush 114, 2) := by decide +kernel
theorem dX10_lineNow_146 : decode cX10_lineNow 146 = .ok (.invokevirtual 101, 3) := by decide +kernel
theorem dX10_lineNow_149 : decode cX10_lineNow 149 = .ok (.ifCond .eq 17, 3) := by decide +kernel
theorem dX10_lineNow_152 : decode cX10_lineNow 152 = .ok (.aload_n 0, 1) := by decide +kernel
theorem dX10_lineNow_153 : decode cX10_lineNow 153 = .ok (.bipush 116, 2) := by decide +kernel
theorem dX10_lineNow_155 : decode cX10_lineNow 155 = .ok (.iconst 0, 1) := by decide +kernel
theorem dX10_lineNow_156 : decode cX10_lineNow 156 = .ok (.invokevirtual 105, 3) := by decide +kernel
theorem dX10_lineNow_159 : decode cX10_lineNow 159 = .ok (.ifCond .eq 7, 3) := by decide +kernel
theorem dX10_lineNow_162 : decode cX10_lineNow 162 = .ok (.iconst 5, 1) := by decide +kernel
theorem dX10_lineNow_163 : decode cX10_lineNow 163 = .ok (.goto 5, 3) := by decide +kernel
theorem dX10_lineNow_166 : decode cX10_lineNow 166 = .ok (.bipush (-4), 2) := by decide +kernel
theorem dX10_lineNow_168 : decode cX10_lineNow 168 = .ok (.ireturn, 1) := by decide +kernel
set_option maxRecDepth 20000 in
theorem ggX10_takes_X10_byteAt : GoodIn wsX10_takes wsX10_byteAt := goodIn_r _ [14, 15, 16, 25, 26, 27, 28, 29, 30, 31, 32, 33, 34, 35, 36, 37, 38, 39, 40, 41, 42, 43, 44, 45, 46, 47, 48, 49, 50, 51, 52, 53, 54] (by decide +kernel) (by decide +kernel)
set_option maxRecDepth 20000 in
theorem gX10_takes_X10_byteAt : GoodIn wsX10_takes (wsV RX10 97 RX10 yX10_byteAt wsX10_byteAt) := goodIn_app (goodIn_of _ (by decide +kernel)) ggX10_takes_X10_byteAt
set_option maxRecDepth 20000 in
theorem ggX10_takes_X10_in : GoodIn wsX10_takes wsX10_in := goodIn_r _ [19] (by decide +kernel) (by decide +kernel)
set_option maxRecDepth 20000 in
theorem gX10_takes_X10_in : GoodIn wsX10_takes (va_wsS RX10 78 yX10_in wsX10_in) := goodIn_app (goodIn_of _ (by decide +kernel)) ggX10_takes_X10_in
set_option maxRecDepth 20000 in
theorem ggX10_takes_X10_needs : GoodIn wsX10_takes wsX10_needs := goodIn_r _ [23, 1, 3, 24, 25, 26, 27, 28, 29, 30, 31, 32, 33, 34, 35, 36, 37, 38, 39, 40, 41, 42, 43, 44, 45, 46, 47, 48, 49, 50, 51, 52, 53, 54] (by decide +kernel) (by decide +kernel)
set_option maxRecDepth 20000 in
theorem gX10_takes_X10_needs : GoodIn wsX10_takes (wsV RX10 123 RX10 yX10_needs wsX10_needs) := goodIn_app (goodIn_of _ (by decide +kernel)) ggX10_takes_X10_needs
theorem dX10_takes_0 : decode cX10_takes 0 = .ok (.aload_n 0, 1) := by decide +kernel
theorem dX10_takes_1 : decode cX10_takes 1 = .ok (.getfield 85, 3) := by decide +kernel
theorem dX10_takes_4 : decode cX10_takes 4 = .ok (.ifCond .le 4, 3) := by decide +kernel
theorem dX10_takes_7 : decode cX10_takes 7 = .ok (.return_, 1) := by decide +kernel
theorem dX10_takes_8 : decode cX10_takes 8 = .ok (.aload_n 0, 1) := by decide +kernel
theorem dX10_takes_9 : decode cX10_takes 9 = .ok (.aload_n 0, 1) := by decide +kernel
theorem dX10_takes_10 : decode cX10_takes 10 = .ok (.getfield 94, 3) := by decide +kernel
theorem dX10_takes_13 : decode cX10_takes 13 = .ok (.invokevirtual 97, 3) := by decide +kernel
theorem dX10_takes_16 : decode cX10_takes 16 = .ok (.bipush 32, 2) := by decide +kernel
theorem dX10_takes_18 : decode cX10_takes 18 = .ok (.if_icmp .ne 16, 3) := by decide +kernel
theorem dX10_takes_21 : decode cX10_takes 21 = .ok (.aload_n 0, 1) := by decide +kernel
theorem dX10_takes_22 : decode cX10_takes 22 = .ok (.dup, 1) := by decide +kernel
theorem dX10_takes_23 : decode cX10_takes 23 = .ok (.getfield 94, 3) := by decide +kernel
theorem dX10_takes_26 : decode cX10_takes 26 = .ok (.iconst 1, 1) := by decide +kernel
theorem dX10_takes_27 : decode cX10_takes 27 = .ok (.iadd, 1) := by decide +kernel
theorem dX10_takes_28 : decode cX10_takes 28 = .ok (.putfield 94, 3) := by decide +kernel
theorem dX10_takes_31 : decode cX10_takes 31 = .ok (.goto (-23), 3) := by decide +kernel
theorem dX10_takes_34 : decode cX10_takes 34 = .ok (.aload_n 0, 1) := by decide +kernel
theorem dX10_takes_35 : decode cX10_takes 35 = .ok (.aload_n 0, 1) := by decide +kernel
theorem dX10_takes_36 : decode cX10_takes 36 = .ok (.getfield 94, 3) := by decide +kernel
theorem dX10_takes_39 : decode cX10_takes 39 = .ok (.putfield 88, 3) := by decide +kernel
theorem dX10_takes_42 : decode cX10_takes 42 = .ok (.aload_n 0, 1) := by decide +kernel
theorem dX10_takes_43 : decode cX10_takes 43 = .ok (.aload_n 0, 1) := by decide +kernel
theorem dX10_takes_44 : decode cX10_takes 44 = .ok (.getfield 94, 3) := by decide +kernel
theorem dX10_takes_47 : decode cX10_takes 47 = .ok (.invokevirtual 97, 3) := by decide +kernel
theorem dX10_takes_50 : decode cX10_takes 50 = .ok (.istore_n 1, 1) := by decide +kernel
theorem dX10_takes_51 : decode cX10_takes 51 = .ok (.iload_n 1, 1) := by decide +kernel
theorem dX10_takes_52 : decode cX10_takes 52 = .ok (.ifCond .ge 11, 3) := by decide +kernel
theorem dX10_takes_55 : decode cX10_takes 55 = .ok (.aload_n 0, 1) := by decide +kernel
theorem dX10_takes_56 : decode cX10_takes 56 = .ok (.iconst 0, 1) := by decide +kernel
theorem dX10_takes_57 : decode cX10_takes 57 = .ok (.putfield 109, 3) := by decide +kernel
theorem dX10_takes_60 : decode cX10_takes 60 = .ok (.goto 214, 3) := by decide +kernel
theorem dX10_takes_63 : decode cX10_takes 63 = .ok (.iload_n 1, 1) := by decide +kernel
theorem dX10_takes_64 : decode cX10_takes 64 = .ok (.i2l, 1) := by decide +kernel
theorem dX10_takes_65 : decode cX10_takes 65 = .ok (.ldc2_w 112, 3) := by decide +kernel
theorem dX10_takes_68 : decode cX10_takes 68 = .ok (.ldc2_w 114, 3) := by decide +kernel
theorem dX10_takes_71 : decode cX10_takes 71 = .ok (.invokestatic 78, 3) := by decide +kernel
theorem dX10_takes_74 : decode cX10_takes 74 = .ok (.ifCond .eq 42, 3) := by decide +kernel
theorem dX10_takes_77 : decode cX10_takes 77 = .ok (.aload_n 0, 1) := by decide +kernel
theorem dX10_takes_78 : decode cX10_takes 78 = .ok (.iconst 1, 1) := by decide +kernel
theorem dX10_takes_79 : decode cX10_takes 79 = .ok (.putfield 109, 3) := by decide +kernel
theorem dX10_takes_82 : decode cX10_takes 82 = .ok (.aload_n 0, 1) := by decide +kernel
theorem dX10_takes_83 : decode cX10_takes 83 = .ok (.aload_n 0, 1) := by decide +kernel
theorem dX10_takes_84 : decode cX10_takes 84 = .ok (.getfield 94, 3) := by decide +kernel
theorem dX10_takes_87 : decode cX10_takes 87 = .ok (.invokevirtual 97, 3) := by decide +kernel
theorem dX10_takes_90 : decode cX10_takes 90 = .ok (.i2l, 1) := by decide +kernel
theorem dX10_takes_91 : decode cX10_takes 91 = .ok (.ldc2_w 112, 3) := by decide +kernel
theorem dX10_takes_94 : decode cX10_takes 94 = .ok (.ldc2_w 114, 3) := by decide +kernel
theorem dX10_takes_97 : decode cX10_takes 97 = .ok (.invokestatic 78, 3) := by decide +kernel
theorem dX10_takes_100 : decode cX10_takes 100 = .ok (.ifCond .eq 174, 3) := by decide +kernel
theorem dX10_takes_103 : decode cX10_takes 103 = .ok (.aload_n 0, 1) := by decide +kernel
theorem dX10_takes_104 : decode cX10_takes 104 = .ok (.dup, 1) := by decide +kernel
theorem dX10_takes_105 : decode cX10_takes 105 = .ok (.getfield 94, 3) := by decide +kernel
theorem dX10_takes_108 : decode cX10_takes 108 = .ok (.iconst 1, 1) := by decide +kernel
theorem dX10_takes_109 : decode cX10_takes 109 = .ok (.iadd, 1) := by decide +kernel
theorem dX10_takes_110 : decode cX10_takes 110 = .ok (.putfield 94, 3) := by decide +kernel
theorem dX10_takes_113 : decode cX10_takes 113 = .ok (.goto (-31), 3) := by decide +kernel
theorem dX10_takes_116 : decode cX10_takes 116 = .ok (.iload_n 1, 1) := by decide +kernel
theorem dX10_takes_117 : decode cX10_takes 117 = .ok (.i2l, 1) := by decide +kernel
theorem dX10_takes_118 : decode cX10_takes 118 = .ok (.ldc2_w 116, 3) := by decide +kernel
theorem dX10_takes_121 : decode cX10_takes 121 = .ok (.ldc2_w 118, 3) := by decide +kernel
theorem dX10_takes_124 : decode cX10_takes 124 = .ok (.invokestatic 78, 3) := by decide +kernel
theorem dX10_takes_127 : decode cX10_takes 127 = .ok (.ifCond .eq 116, 3) := by decide +kernel
theorem dX10_takes_130 : decode cX10_takes 130 = .ok (.aload_n 0, 1) := by decide +kernel
theorem dX10_takes_131 : decode cX10_takes 131 = .ok (.iconst 2, 1) := by decide +kernel
theorem dX10_takes_132 : decode cX10_takes 132 = .ok (.putfield 109, 3) := by decide +kernel
theorem dX10_takes_135 : decode cX10_takes 135 = .ok (.aload_n 0, 1) := by decide +kernel
theorem dX10_takes_136 : decode cX10_takes 136 = .ok (.iconst 0, 1) := by decide +kernel
theorem dX10_takes_137 : decode cX10_takes 137 = .ok (.putfield 120, 3) := by decide +kernel
theorem dX10_takes_140 : decode cX10_takes 140 = .ok (.aload_n 0, 1) := by decide +kernel
theorem dX10_takes_141 : decode cX10_takes 141 = .ok (.aload_n 0, 1) := by decide +kernel
theorem dX10_takes_142 : decode cX10_takes 142 = .ok (.getfield 94, 3) := by decide +kernel
theorem dX10_takes_145 : decode cX10_takes 145 = .ok (.invokevirtual 97, 3) := by decide +kernel
theorem dX10_takes_148 : decode cX10_takes 148 = .ok (.i2l, 1) := by decide +kernel
theorem dX10_takes_149 : decode cX10_takes 149 = .ok (.ldc2_w 116, 3) := by decide +kernel
theorem dX10_takes_152 : decode cX10_takes 152 = .ok (.ldc2_w 118, 3) := by decide +kernel
theorem dX10_takes_155 : decode cX10_takes 155 = .ok (.invokestatic 78, 3) := by decide +kernel
theorem dX10_takes_158 : decode cX10_takes 158 = .ok (.ifCond .eq 59, 3) := by decide +kernel
theorem dX10_takes_161 : decode cX10_takes 161 = .ok (.aload_n 0, 1) := by decide +kernel
theorem dX10_takes_162 : decode cX10_takes 162 = .ok (.aload_n 0, 1) := by decide +kernel
theorem dX10_takes_163 : decode cX10_takes 163 = .ok (.getfield 94, 3) := by decide +kernel
theorem dX10_takes_166 : decode cX10_takes 166 = .ok (.aload_n 0, 1) := by decide +kernel
theorem dX10_takes_167 : decode cX10_takes 167 = .ok (.getfield 88, 3) := by decide +kernel
theorem dX10_takes_170 : decode cX10_takes 170 = .ok (.isub, 1) := by decide +kernel
theorem dX10_takes_171 : decode cX10_takes 171 = .ok (.iconst 2, 1) := by decide +kernel
theorem dX10_takes_172 : decode cX10_takes 172 = .ok (.if_icmp .ge 25, 3) := by decide +kernel
theorem dX10_takes_175 : decode cX10_takes 175 = .ok (.bipush 10, 2) := by decide +kernel
theorem dX10_takes_177 : decode cX10_takes 177 = .ok (.aload_n 0, 1) := by decide +kernel
theorem dX10_takes_178 : decode cX10_takes 178 = .ok (.getfield 120, 3) := by decide +kernel
theorem dX10_takes_181 : decode cX10_takes 181 = .ok (.imul, 1) := by decide +kernel
theorem dX10_takes_182 : decode cX10_takes 182 = .ok (.aload_n 0, 1) := by decide +kernel
theorem dX10_takes_183 : decode cX10_takes 183 = .ok (.aload_n 0, 1) := by decide +kernel
theorem dX10_takes_184 : decode cX10_takes 184 = .ok (.getfield 94, 3) := by decide +kernel
theorem dX10_takes_187 : decode cX10_takes 187 = .ok (.invokevirtual 97, 3) := by decide +kernel
theorem dX10_takes_190 : decode cX10_takes 190 = .ok (.iadd, 1) := by decide +kernel
theorem dX10_takes_191 : decode cX10_takes 191 = .ok (.bipush 48, 2) := by decide +kernel
theorem dX10_takes_193 : decode cX10_takes 193 = .ok (.isub, 1) := by decide +kernel
theorem dX10_takes_194 : decode cX10_takes 194 = .ok (.goto 7, 3) := by decide +kernel
theorem dX10_takes_197 : decode cX10_takes 197 = .ok (.aload_n 0, 1) := by decide +kernel
theorem dX10_takes_198 : decode cX10_takes 198 = .ok (.getfield 120, 3) := by decide +kernel
theorem dX10_takes_201 : decode cX10_takes 201 = .ok (.putfield 120, 3) := by decide +kernel
theorem dX10_takes_204 : decode cX10_takes 204 = .ok (.aload_n 0, 1) := by decide +kernel
theorem dX10_takes_205 : decode cX10_takes 205 = .ok (.dup, 1) := by decide +kernel
theorem dX10_takes_206 : decode cX10_takes 206 = .ok (.getfield 94, 3) := by decide +kernel
theorem dX10_takes_209 : decode cX10_takes 209 = .ok (.iconst 1, 1) := by decide +kernel
theorem dX10_takes_210 : decode cX10_takes 210 = .ok (.iadd, 1) := by decide +kernel
theorem dX10_takes_211 : decode cX10_takes 211 = .ok (.putfield 94, 3) := by decide +kernel
theorem dX10_takes_214 : decode cX10_takes 214 = .ok (.goto (-74), 3) := by decide +kernel
theorem dX10_takes_217 : decode cX10_takes 217 = .ok (.aload_n 0, 1) := by decide +kernel
theorem dX10_takes_218 : decode cX10_takes 218 = .ok (.aload_n 0, 1) := by decide +kernel
theorem dX10_takes_219 : decode cX10_takes 219 = .ok (.getfield 94, 3) := by decide +kernel
theorem dX10_takes_222 : decode cX10_takes 222 = .ok (.aload_n 0, 1) := by decide +kernel
theorem dX10_takes_223 : decode cX10_takes 223 = .ok (.getfield 88, 3) := by decide +kernel
theorem dX10_takes_226 : decode cX10_takes 226 = .ok (.isub, 1) := by decide +kernel
theorem dX10_takes_227 : decode cX10_takes 227 = .ok (.iconst 2, 1) := by decide +kernel
theorem dX10_takes_228 : decode cX10_takes 228 = .ok (.if_icmp .gt 7, 3) := by decide +kernel
theorem dX10_takes_231 : decode cX10_takes 231 = .ok (.iconst 1, 1) := by decide +kernel
theorem dX10_takes_232 : decode cX10_takes 232 = .ok (.goto 4, 3) := by decide +kernel
theorem dX10_takes_235 : decode cX10_takes 235 = .ok (.iconst 0, 1) := by decide +kernel
theorem dX10_takes_236 : decode cX10_takes 236 = .ok (.iconst 1, 1) := by decide +kernel
theorem dX10_takes_237 : decode cX10_takes 237 = .ok (.invokevirtual 123, 3) := by decide +kernel
theorem dX10_takes_240 : decode cX10_takes 240 = .ok (.goto 34, 3) := by decide +kernel
theorem dX10_takes_243 : decode cX10_takes 243 = .ok (.aload_n 0, 1) := by decide +kernel
theorem dX10_takes_244 : decode cX10_takes 244 = .ok (.iconst 3, 1) := by decide +kernel
theorem dX10_takes_245 : decode cX10_takes 245 = .ok (.putfield 109, 3) := by decide +kernel
theorem dX10_takes_248 : decode cX10_takes 248 = .ok (.aload_n 0, 1) := by decide +kernel
theorem dX10_takes_249 : decode cX10_takes 249 = .ok (.iload_n 1, 1) := by decide +kernel
theorem dX10_takes_250 : decode cX10_takes 250 = .ok (.bipush 59, 2) := by decide +kernel
theorem dX10_takes_252 : decode cX10_takes 252 = .ok (.if_icmp .ne 7, 3) := by decide +kernel
theorem dX10_takes_255 : decode cX10_takes 255 = .ok (.iconst 1, 1) := by decide +kernel
theorem dX10_takes_256 : decode cX10_takes 256 = .ok (.goto 4, 3) := by decide +kernel
theorem dX10_takes_259 : decode cX10_takes 259 = .ok (.iconst 0, 1) := by decide +kernel
theorem dX10_takes_260 : decode cX10_takes 260 = .ok (.iconst 1, 1) := by decide +kernel
theorem dX10_takes_261 : decode cX10_takes 261 = .ok (.invokevirtual 123, 3) := by decide +kernel
theorem dX10_takes_264 : decode cX10_takes 264 = .ok (.aload_n 0, 1) := by decide +kernel
theorem dX10_takes_265 : decode cX10_takes 265 = .ok (.dup, 1) := by decide +kernel
theorem dX10_takes_266 : decode cX10_takes 266 = .ok (.getfield 94, 3) := by decide +kernel
theorem dX10_takes_269 : decode cX10_takes 269 = .ok (.iconst 1, 1) := by decide +kernel
theorem dX10_takes_270 : decode cX10_takes 270 = .ok (.iadd, 1) := by decide +kernel
theorem dX10_takes_271 : decode cX10_takes 271 = .ok (.putfield 94, 3) := by decide +kernel
theorem dX10_takes_274 : decode cX10_takes 274 = .ok (.return_, 1) := by decide +kernel
set_option maxRecDepth 20000 in
theorem ggX10_looked_X10_needs : GoodIn wsX10_looked wsX10_needs := goodIn_r _ [8, 1, 9, 10, 14, 15, 16, 17, 18, 19, 20, 21, 22, 23, 24, 25, 26, 27, 28, 29, 30, 31, 32, 33, 34, 35, 36, 37, 38, 39, 40, 41, 42, 43] (by decide +kernel) (by decide +kernel)
set_option maxRecDepth 20000 in
theorem gX10_looked_X10_needs : GoodIn wsX10_looked (wsV RX10 123 RX10 yX10_needs wsX10_needs) := goodIn_app (goodIn_of _ (by decide +kernel)) ggX10_looked_X10_needs
set_option maxRecDepth 20000 in
theorem ggX10_looked_X10_in : GoodIn wsX10_looked wsX10_in := goodIn_r _ [13] (by decide +kernel) (by decide +kernel)
set_option maxRecDepth 20000 in
theorem gX10_looked_X10_in : GoodIn wsX10_looked (va_wsS RX10 78 yX10_in wsX10_in) := goodIn_app (goodIn_of _ (by decide +kernel)) ggX10_looked_X10_in
theorem dX10_looked_0 : decode cX10_looked 0 = .ok (.aload_n 0, 1) := by decide +kernel
theorem dX10_looked_1 : decode cX10_looked 1 = .ok (.getfield 85, 3) := by decide +kernel
theorem dX10_looked_4 : decode cX10_looked 4 = .ok (.ifCond .ne 21, 3) := by decide +kernel
theorem dX10_looked_7 : decode cX10_looked 7 = .ok (.aload_n 0, 1) := by decide +kernel
theorem dX10_looked_8 : decode cX10_looked 8 = .ok (.aload_n 0, 1) := by decide +kernel
theorem dX10_looked_9 : decode cX10_looked 9 = .ok (.getfield 109, 3) := by decide +kernel
theorem dX10_looked_12 : decode cX10_looked 12 = .ok (.iconst 2, 1) := by decide +kernel
theorem dX10_looked_13 : decode cX10_looked 13 = .ok (.if_icmp .ne 7, 3) := by decide +kernel
theorem dX10_looked_16 : decode cX10_looked 16 = .ok (.iconst 1, 1) := by decide +kernel
theorem dX10_looked_17 : decode cX10_looked 17 = .ok (.goto 4, 3) := by decide +kernel
theorem dX10_looked_20 : decode cX10_looked 20 = .ok (.iconst 0, 1) := by decide +kernel
theorem dX10_looked_21 : decode cX10_looked 21 = .ok (.iconst 2, 1) := by decide +kernel
theorem dX10_looked_22 : decode cX10_looked 22 = .ok (.invokevirtual 123, 3) := by decide +kernel
theorem dX10_looked_25 : decode cX10_looked 25 = .ok (.aload_n 0, 1) := by decide +kernel
theorem dX10_looked_26 : decode cX10_looked 26 = .ok (.getfield 85, 3) := by decide +kernel
theorem dX10_looked_29 : decode cX10_looked 29 = .ok (.ifCond .ne 20, 3) := by decide +kernel
theorem dX10_looked_32 : decode cX10_looked 32 = .ok (.aload_n 0, 1) := by decide +kernel
theorem dX10_looked_33 : decode cX10_looked 33 = .ok (.aload_n 0, 1) := by decide +kernel
theorem dX10_looked_34 : decode cX10_looked 34 = .ok (.getfield 120, 3) := by decide +kernel
theorem dX10_looked_37 : decode cX10_looked 37 = .ok (.i2l, 1) := by decide +kernel
theorem dX10_looked_38 : decode cX10_looked 38 = .ok (.iload_n 1, 1) := by decide +kernel
theorem dX10_looked_39 : decode cX10_looked 39 = .ok (.i2l, 1) := by decide +kernel
theorem dX10_looked_40 : decode cX10_looked 40 = .ok (.iload_n 2, 1) := by decide +kernel
theorem dX10_looked_41 : decode cX10_looked 41 = .ok (.i2l, 1) := by decide +kernel
theorem dX10_looked_42 : decode cX10_looked 42 = .ok (.invokestatic 78, 3) := by decide +kernel
theorem dX10_looked_45 : decode cX10_looked 45 = .ok (.iconst 3, 1) := by decide +kernel
theorem dX10_looked_46 : decode cX10_looked 46 = .ok (.invokevirtual 123, 3) := by decide +kernel
theorem dX10_looked_49 : decode cX10_looked 49 = .ok (.aload_n 0, 1) := by decide +kernel
theorem dX10_looked_50 : decode cX10_looked 50 = .ok (.getfield 85, 3) := by decide +kernel
theorem dX10_looked_53 : decode cX10_looked 53 = .ok (.ifCond .ne 10, 3) := by decide +kernel
theorem dX10_looked_56 : decode cX10_looked 56 = .ok (.aload_n 0, 1) := by decide +kernel
theorem dX10_looked_57 : decode cX10_looked 57 = .ok (.getfield 120, 3) := by decide +kernel
theorem dX10_looked_60 : decode cX10_looked 60 = .ok (.goto 4, 3) := by decide +kernel
theorem dX10_looked_63 : decode cX10_looked 63 = .ok (.iconst 0, 1) := by decide +kernel
theorem dX10_looked_64 : decode cX10_looked 64 = .ok (.ireturn, 1) := by decide +kernel
set_option maxRecDepth 20000 in
theorem ggX10_readNumber_X10_looked : GoodIn wsX10_readNumber wsX10_looked := goodIn_r _ [5, 6, 7, 8, 9, 10, 11, 4, 12, 13, 14, 15, 16, 17, 33, 34, 35, 36, 37, 38, 39, 40, 41, 42, 43, 44, 45, 46, 47, 48, 49, 50, 51, 52, 53, 54, 55, 56, 57, 58, 59, 60, 61, 62] (by decide +kernel) (by decide +kernel)
set_option maxRecDepth 20000 in
theorem gX10_readNumber_X10_looked : GoodIn wsX10_readNumber (wsV RX10 127 RX10 yX10_looked wsX10_looked) := goodIn_app (goodIn_of _ (by decide +kernel)) ggX10_readNumber_X10_looked
set_option maxRecDepth 20000 in
theorem ggX10_readNumber_X10_takes : GoodIn wsX10_readNumber wsX10_takes := goodIn_r _ [21, 6, 22, 13, 7, 23, 24, 25, 26, 8, 27, 28, 29, 4, 30, 31, 32, 15, 16, 17, 9, 10, 11, 12, 14, 33, 34, 35, 36, 37, 38, 39, 40, 41, 42, 43, 44, 45, 46, 47, 48, 49, 50, 51, 52, 53, 54, 55, 56, 57, 58, 59, 60, 61, 62] (by decide +kernel) (by decide +kernel)
set_option maxRecDepth 20000 in
theorem gX10_readNumber_X10_takes : GoodIn wsX10_readNumber (wsV RX10 131 RX10 yX10_takes wsX10_takes) := goodIn_app (goodIn_of _ (by decide +kernel)) ggX10_readNumber_X10_takes
theorem dX10_readNumber_0 : decode cX10_readNumber 0 = .ok (.aload_n 0, 1) := by decide +kernel
theorem dX10_readNumber_1 : decode cX10_readNumber 1 = .ok (.iload_n 1, 1) := by decide +kernel
theorem dX10_readNumber_2 : decode cX10_readNumber 2 = .ok (.iload_n 2, 1) := by decide +kernel
theorem dX10_readNumber_3 : decode cX10_readNumber 3 = .ok (.invokevirtual 127, 3) := by decide +kernel
theorem dX10_readNumber_6 : decode cX10_readNumber 6 = .ok (.istore_n 3, 1) := by decide +kernel
theorem dX10_readNumber_7 : decode cX10_readNumber 7 = .ok (.aload_n 0, 1) := by decide +kernel
theorem dX10_readNumber_8 : decode cX10_readNumber 8 = .ok (.invokevirtual 131, 3) := by decide +kernel
theorem dX10_readNumber_11 : decode cX10_readNumber 11 = .ok (.iload_n 3, 1) := by decide +kernel
theorem dX10_readNumber_12 : decode cX10_readNumber 12 = .ok (.ireturn, 1) := by decide +kernel
set_option maxRecDepth 20000 in
theorem ggX10_readOrder_X10_looked : GoodIn wsX10_readOrder wsX10_looked := goodIn_r _ [11, 1, 2, 12, 13, 14, 15, 10, 16, 17, 18, 19, 20, 21, 37, 38, 39, 40, 41, 42, 43, 44, 45, 46, 47, 48, 49, 50, 51, 52, 53, 54, 55, 56, 57, 58, 59, 60, 61, 62, 63, 64, 65, 66] (by decide +kernel) (by decide +kernel)
set_option maxRecDepth 20000 in
theorem gX10_readOrder_X10_looked : GoodIn wsX10_readOrder (wsV RX10 127 RX10 yX10_looked wsX10_looked) := goodIn_app (goodIn_of _ (by decide +kernel)) ggX10_readOrder_X10_looked
set_option maxRecDepth 20000 in
theorem ggX10_readOrder_X10_needs : GoodIn wsX10_readOrder wsX10_needs := goodIn_r _ [16, 1, 17, 18, 37, 38, 39, 40, 41, 42, 43, 44, 45, 46, 47, 48, 49, 50, 51, 52, 53, 54, 55, 56, 57, 58, 59, 60, 61, 62, 63, 64, 65, 66] (by decide +kernel) (by decide +kernel)
set_option maxRecDepth 20000 in
theorem gX10_readOrder_X10_needs : GoodIn wsX10_readOrder (wsV RX10 123 RX10 yX10_needs wsX10_needs) := goodIn_app (goodIn_of _ (by decide +kernel)) ggX10_readOrder_X10_needs
set_option maxRecDepth 20000 in
theorem ggX10_readOrder_X10_takes : GoodIn wsX10_readOrder wsX10_takes := goodIn_r _ [25, 1, 26, 17, 2, 27, 28, 29, 30, 12, 31, 32, 33, 10, 34, 35, 36, 19, 20, 21, 13, 14, 15, 16, 18, 37, 38, 39, 40, 41, 42, 43, 44, 45, 46, 47, 48, 49, 50, 51, 52, 53, 54, 55, 56, 57, 58, 59, 60, 61, 62, 63, 64, 65, 66] (by decide +kernel) (by decide +kernel)
set_option maxRecDepth 20000 in
theorem gX10_readOrder_X10_takes : GoodIn wsX10_readOrder (wsV RX10 131 RX10 yX10_takes wsX10_takes) := goodIn_app (goodIn_of _ (by decide +kernel)) ggX10_readOrder_X10_takes
theorem dX10_readOrder_0 : decode cX10_readOrder 0 = .ok (.aload_n 0, 1) := by decide +kernel
theorem dX10_readOrder_1 : decode cX10_readOrder 1 = .ok (.getfield 85, 3) := by decide +kernel
theorem dX10_readOrder_4 : decode cX10_readOrder 4 = .ok (.ifCond .ne 105, 3) := by decide +kernel
theorem dX10_readOrder_7 : decode cX10_readOrder 7 = .ok (.aload_n 0, 1) := by decide +kernel
theorem dX10_readOrder_8 : decode cX10_readOrder 8 = .ok (.getfield 109, 3) := by decide +kernel
theorem dX10_readOrder_11 : decode cX10_readOrder 11 = .ok (.iconst 2, 1) := by decide +kernel
theorem dX10_readOrder_12 : decode cX10_readOrder 12 = .ok (.if_icmp .ne 97, 3) := by decide +kernel
theorem dX10_readOrder_15 : decode cX10_readOrder 15 = .ok (.aload_n 0, 1) := by decide +kernel
theorem dX10_readOrder_16 : decode cX10_readOrder 16 = .ok (.iconst 0, 1) := by decide +kernel
theorem dX10_readOrder_17 : decode cX10_readOrder 17 = .ok (.iconst 4, 1) := by decide +kernel
theorem dX10_readOrder_18 : decode cX10_readOrder 18 = .ok (.invokevirtual 127, 3) := by decide +kernel
theorem dX10_readOrder_21 : decode cX10_readOrder 21 = .ok (.istore_n 1, 1) := by decide +kernel
theorem dX10_readOrder_22 : decode cX10_readOrder 22 = .ok (.aload_n 0, 1) := by decide +kernel
theorem dX10_readOrder_23 : decode cX10_readOrder 23 = .ok (.aload_n 0, 1) := by decide +kernel
theorem dX10_readOrder_24 : decode cX10_readOrder 24 = .ok (.getfield 66, 3) := by decide +kernel
theorem dX10_readOrder_27 : decode cX10_readOrder 27 = .ok (.iload_n 1, 1) := by decide +kernel
theorem dX10_readOrder_28 : decode cX10_readOrder 28 = .ok (.ishr, 1) := by decide +kernel
theorem dX10_readOrder_29 : decode cX10_readOrder 29 = .ok (.iconst 1, 1) := by decide +kernel
theorem dX10_readOrder_30 : decode cX10_readOrder 30 = .ok (.iand, 1) := by decide +kernel
theorem dX10_readOrder_31 : decode cX10_readOrder 31 = .ok (.ifCond .ne 7, 3) := by decide +kernel
theorem dX10_readOrder_34 : decode cX10_readOrder 34 = .ok (.iconst 1, 1) := by decide +kernel
theorem dX10_readOrder_35 : decode cX10_readOrder 35 = .ok (.goto 4, 3) := by decide +kernel
theorem dX10_readOrder_38 : decode cX10_readOrder 38 = .ok (.iconst 0, 1) := by decide +kernel
theorem dX10_readOrder_39 : decode cX10_readOrder 39 = .ok (.iconst 4, 1) := by decide +kernel
theorem dX10_readOrder_40 : decode cX10_readOrder 40 = .ok (.invokevirtual 123, 3) := by decide +kernel
theorem dX10_readOrder_43 : decode cX10_readOrder 43 = .ok (.aload_n 0, 1) := by decide +kernel
theorem dX10_readOrder_44 : decode cX10_readOrder 44 = .ok (.getfield 85, 3) := by decide +kernel
theorem dX10_readOrder_47 : decode cX10_readOrder 47 = .ok (.ifCond .ne 55, 3) := by decide +kernel
theorem dX10_readOrder_50 : decode cX10_readOrder 50 = .ok (.aload_n 0, 1) := by decide +kernel
theorem dX10_readOrder_51 : decode cX10_readOrder 51 = .ok (.dup, 1) := by decide +kernel
theorem dX10_readOrder_52 : decode cX10_readOrder 52 = .ok (.getfield 66, 3) := by decide +kernel
theorem dX10_readOrder_55 : decode cX10_readOrder 55 = .ok (.iconst 1, 1) := by decide +kernel
theorem dX10_readOrder_56 : decode cX10_readOrder 56 = .ok (.iload_n 1, 1) := by decide +kernel
theorem dX10_readOrder_57 : decode cX10_readOrder 57 = .ok (.ishl, 1) := by decide +kernel
theorem dX10_readOrder_58 : decode cX10_readOrder 58 = .ok (.ior, 1) := by decide +kernel
theorem dX10_readOrder_59 : decode cX10_readOrder 59 = .ok (.putfield 66, 3) := by decide +kernel
theorem dX10_readOrder_62 : decode cX10_readOrder 62 = .ok (.aload_n 0, 1) := by decide +kernel
theorem dX10_readOrder_63 : decode cX10_readOrder 63 = .ok (.getfield 23, 3) := by decide +kernel
theorem dX10_readOrder_66 : decode cX10_readOrder 66 = .ok (.aload_n 0, 1) := by decide +kernel
theorem dX10_readOrder_67 : decode cX10_readOrder 67 = .ok (.getfield 70, 3) := by decide +kernel
theorem dX10_readOrder_70 : decode cX10_readOrder 70 = .ok (.iload_n 1, 1) := by decide +kernel
theorem dX10_readOrder_71 : decode cX10_readOrder 71 = .ok (.iastore, 1) := by decide +kernel
theorem dX10_readOrder_72 : decode cX10_readOrder 72 = .ok (.aload_n 0, 1) := by decide +kernel
theorem dX10_readOrder_73 : decode cX10_readOrder 73 = .ok (.dup, 1) := by decide +kernel
theorem dX10_readOrder_74 : decode cX10_readOrder 74 = .ok (.getfield 70, 3) := by decide +kernel
theorem dX10_readOrder_77 : decode cX10_readOrder 77 = .ok (.iconst 1, 1) := by decide +kernel
theorem dX10_readOrder_78 : decode cX10_readOrder 78 = .ok (.iadd, 1) := by decide +kernel
theorem dX10_readOrder_79 : decode cX10_readOrder 79 = .ok (.putfield 70, 3) := by decide +kernel
theorem dX10_readOrder_82 : decode cX10_readOrder 82 = .ok (.aload_n 0, 1) := by decide +kernel
theorem dX10_readOrder_83 : decode cX10_readOrder 83 = .ok (.iload_n 1, 1) := by decide +kernel
theorem dX10_readOrder_84 : decode cX10_readOrder 84 = .ok (.aload_n 0, 1) := by decide +kernel
theorem dX10_readOrder_85 : decode cX10_readOrder 85 = .ok (.getfield 73, 3) := by decide +kernel
theorem dX10_readOrder_88 : decode cX10_readOrder 88 = .ok (.if_icmp .le 7, 3) := by decide +kernel
theorem dX10_readOrder_91 : decode cX10_readOrder 91 = .ok (.iload_n 1, 1) := by decide +kernel
theorem dX10_readOrder_92 : decode cX10_readOrder 92 = .ok (.goto 7, 3) := by decide +kernel
theorem dX10_readOrder_95 : decode cX10_readOrder 95 = .ok (.aload_n 0, 1) := by decide +kernel
theorem dX10_readOrder_96 : decode cX10_readOrder 96 = .ok (.getfield 73, 3) := by decide +kernel
theorem dX10_readOrder_99 : decode cX10_readOrder 99 = .ok (.putfield 73, 3) := by decide +kernel
theorem dX10_readOrder_102 : decode cX10_readOrder 102 = .ok (.aload_n 0, 1) := by decide +kernel
theorem dX10_readOrder_103 : decode cX10_readOrder 103 = .ok (.invokevirtual 131, 3) := by decide +kernel
theorem dX10_readOrder_106 : decode cX10_readOrder 106 = .ok (.goto (-106), 3) := by decide +kernel
theorem dX10_readOrder_109 : decode cX10_readOrder 109 = .ok (.return_, 1) := by decide +kernel
set_option maxRecDepth 20000 in
theorem ggX10_readLineOf_X10_readOrder : GoodIn wsX10_readLineOf wsX10_readOrder := goodIn_r _ [6, 7, 8, 9, 10, 11, 12, 13, 14, 15, 5, 16, 17, 18, 19, 20, 21, 22, 23, 24, 25, 26, 27, 28, 29, 30, 31, 32, 33, 34, 35, 36, 37, 38, 39, 40, 41, 46, 47, 48, 49, 50, 51, 52, 53, 54, 55, 56, 57, 58, 59, 60, 61, 62, 63, 64, 65, 66, 67, 68, 69, 70, 71, 72, 73, 74, 75] (by decide +kernel) (by decide +kernel)
set_option maxRecDepth 20000 in
theorem gX10_readLineOf_X10_readOrder : GoodIn wsX10_readLineOf (wsV RX10 134 RX10 yX10_readOrder wsX10_readOrder) := goodIn_app (goodIn_of _ (by decide +kernel)) ggX10_readLineOf_X10_readOrder
set_option maxRecDepth 20000 in
theorem ggX10_readLineOf_X10_readNumber : GoodIn wsX10_readLineOf wsX10_readNumber := goodIn_r _ [45, 13, 14, 15, 5, 16, 7, 8, 17, 18, 19, 20, 21, 22, 23, 24, 25, 26, 27, 28, 29, 30, 31, 32, 33, 34, 35, 36, 37, 38, 39, 40, 41, 46, 47, 48, 49, 50, 51, 52, 53, 54, 55, 56, 57, 58, 59, 60, 61, 62, 63, 64, 65, 66, 67, 68, 69, 70, 71, 72, 73, 74, 75] (by decide +kernel) (by decide +kernel)
set_option maxRecDepth 20000 in
theorem gX10_readLineOf_X10_readNumber : GoodIn wsX10_readLineOf (wsV RX10 137 RX10 yX10_readNumber wsX10_readNumber) := goodIn_app (goodIn_of _ (by decide +kernel)) ggX10_readLineOf_X10_readNumber
theorem dX10_readLineOf_0 : decode cX10_readLineOf 0 = .ok (.iload_n 1, 1) := by decide +kernel
theorem dX10_readLineOf_1 : decode cX10_readLineOf 1 = .ok (.lookupswitch 51 #[(4, 27), (5, 34)], 27) := by decide +kernel
theorem dX10_readLineOf_28 : decode cX10_readLineOf 28 = .ok (.aload_n 0, 1) := by decide +kernel
