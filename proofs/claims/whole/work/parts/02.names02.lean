theorem inlX0 : ∀ w ∈ wsX00, w ∈ wsL_law := fun _ h => List.mem_append_left _ (List.mem_append_left _ (List.mem_append_left _ (List.mem_append_left _ (List.mem_append_left _ (List.mem_append_right _ h)))))
theorem inX0 : ∀ w ∈ wsX00, w ∈ lw_tbl := fun w h => wsL_law_in w (inlX0 w h)
theorem inlX1 : ∀ w ∈ wsX10, w ∈ wsL_law := fun _ h => List.mem_append_left _ (List.mem_append_right _ h)
theorem inX1 : ∀ w ∈ wsX10, w ∈ lw_tbl := fun w h => wsL_law_in w (inlX1 w h)
theorem inlX2 : ∀ w ∈ wsX20, w ∈ wsL_law := fun _ h => List.mem_append_left _ (List.mem_append_left _ (List.mem_append_right _ h))
theorem inX2 : ∀ w ∈ wsX20, w ∈ lw_tbl := fun w h => wsL_law_in w (inlX2 w h)
theorem inlX3 : ∀ w ∈ wsX30, w ∈ wsL_law := fun _ h => List.mem_append_left _ (List.mem_append_left _ (List.mem_append_left _ (List.mem_append_right _ h)))
theorem inX3 : ∀ w ∈ wsX30, w ∈ lw_tbl := fun w h => wsL_law_in w (inlX3 w h)
theorem inlX4 : ∀ w ∈ wsX40, w ∈ wsL_law := fun _ h => List.mem_append_left _ (List.mem_append_left _ (List.mem_append_left _ (List.mem_append_left _ (List.mem_append_right _ h))))
theorem inX4 : ∀ w ∈ wsX40, w ∈ lw_tbl := fun w h => wsL_law_in w (inlX4 w h)
theorem inlX5 : ∀ w ∈ wsX50, w ∈ wsL_law := fun _ h => List.mem_append_left _ (List.mem_append_left _ (List.mem_append_left _ (List.mem_append_left _ (List.mem_append_left _ (List.mem_append_left _ (List.mem_append_left _ (List.mem_append_right _ h)))))))
theorem inX5 : ∀ w ∈ wsX50, w ∈ lw_tbl := fun w h => wsL_law_in w (inlX5 w h)
theorem inlX6 : ∀ w ∈ wsX60, w ∈ wsL_law := fun _ h => List.mem_append_left _ (List.mem_append_left _ (List.mem_append_left _ (List.mem_append_left _ (List.mem_append_left _ (List.mem_append_left _ (List.mem_append_right _ h))))))
theorem inX6 : ∀ w ∈ wsX60, w ∈ lw_tbl := fun w h => wsL_law_in w (inlX6 w h)
theorem inlX7 : ∀ w ∈ wsX70, w ∈ wsL_law := fun _ h => List.mem_append_left _ (List.mem_append_left _ (List.mem_append_left _ (List.mem_append_left _ (List.mem_append_left _ (List.mem_append_left _ (List.mem_append_left _ (List.mem_append_left _ (List.mem_append_left _ (List.mem_append_right _ h)))))))))
theorem inX7 : ∀ w ∈ wsX70, w ∈ lw_tbl := fun w h => wsL_law_in w (inlX7 w h)
theorem inlX8 : ∀ w ∈ wsX80, w ∈ wsL_law := fun _ h => List.mem_append_left _ (List.mem_append_left _ (List.mem_append_left _ (List.mem_append_left _ (List.mem_append_left _ (List.mem_append_left _ (List.mem_append_left _ (List.mem_append_left _ (List.mem_append_right _ h))))))))
theorem inX8 : ∀ w ∈ wsX80, w ∈ lw_tbl := fun w h => wsL_law_in w (inlX8 w h)
theorem inlX9 : ∀ w ∈ wsX90, w ∈ wsL_law := fun _ h => List.mem_append_left _ (List.mem_append_left _ (List.mem_append_left _ (List.mem_append_left _ (List.mem_append_left _ (List.mem_append_left _ (List.mem_append_left _ (List.mem_append_left _ (List.mem_append_left _ (List.mem_append_left _ (List.mem_append_left _ (List.mem_append_right _ h)))))))))))
theorem inX9 : ∀ w ∈ wsX90, w ∈ lw_tbl := fun w h => wsL_law_in w (inlX9 w h)
theorem inlX10 : ∀ w ∈ wsX100, w ∈ wsL_law := fun _ h => List.mem_append_left _ (List.mem_append_left _ (List.mem_append_left _ (List.mem_append_left _ (List.mem_append_left _ (List.mem_append_left _ (List.mem_append_left _ (List.mem_append_left _ (List.mem_append_left _ (List.mem_append_left _ (List.mem_append_right _ h))))))))))
theorem inX10 : ∀ w ∈ wsX100, w ∈ lw_tbl := fun w h => wsL_law_in w (inlX10 w h)
theorem inJ6 : ∀ w ∈ wsJ60, w ∈ lw_tbl := by decide +kernel
theorem inJ9 : ∀ w ∈ wsJ90, w ∈ lw_tbl := by decide +kernel
theorem inJ0 : ∀ w ∈ wsJ00, w ∈ lw_tbl := by decide +kernel
theorem inJ1 : ∀ w ∈ wsJ10, w ∈ lw_tbl := by decide +kernel
theorem inJ2 : ∀ w ∈ wsJ20, w ∈ lw_tbl := by decide +kernel
theorem inJ10 : ∀ w ∈ wsJ100, w ∈ lw_tbl := by decide +kernel
theorem inJ3 : ∀ w ∈ wsJ30, w ∈ lw_tbl := by decide +kernel
set_option maxRecDepth 20000 in
theorem ggX0_init_X5_init : GoodIn wsX0_init wsX5_init := goodIn_r _ [14, 15, 2, 3, 16, 17, 18, 19, 20, 28, 29, 30, 31] (by decide +kernel) (by decide +kernel)
set_option maxRecDepth 20000 in
theorem gX0_init_X5_init_n9 : GoodIn wsX0_init (wsX5_init) := ggX0_init_X5_init
set_option maxRecDepth 20000 in
theorem ggX0_init_X6_init : GoodIn wsX0_init wsX6_init := goodIn_r _ [22, 23, 2, 3, 16, 24, 25, 26, 27, 35, 36, 37, 38] (by decide +kernel) (by decide +kernel)
set_option maxRecDepth 20000 in
theorem gX0_init_X6_init_n18 : GoodIn wsX0_init (wsX6_init) := ggX0_init_X6_init
theorem dX0_init_0 : decode cX0_init 0 = .ok (.aload_n 0, 1) := by decide +kernel
theorem dX0_init_1 : decode cX0_init 1 = .ok (.invokespecial 1, 3) := by decide +kernel
theorem dX0_init_4 : decode cX0_init 4 = .ok (.aload_n 0, 1) := by decide +kernel
theorem dX0_init_5 : decode cX0_init 5 = .ok (.new 7, 3) := by decide +kernel
theorem dX0_init_8 : decode cX0_init 8 = .ok (.dup, 1) := by decide +kernel
theorem dX0_init_9 : decode cX0_init 9 = .ok (.invokespecial 9, 3) := by decide +kernel
theorem dX0_init_12 : decode cX0_init 12 = .ok (.putfield 10, 3) := by decide +kernel
theorem dX0_init_15 : decode cX0_init 15 = .ok (.aload_n 0, 1) := by decide +kernel
theorem dX0_init_16 : decode cX0_init 16 = .ok (.new 16, 3) := by decide +kernel
theorem dX0_init_19 : decode cX0_init 19 = .ok (.dup, 1) := by decide +kernel
theorem dX0_init_20 : decode cX0_init 20 = .ok (.invokespecial 18, 3) := by decide +kernel
theorem dX0_init_23 : decode cX0_init 23 = .ok (.putfield 19, 3) := by decide +kernel
theorem dX0_init_26 : decode cX0_init 26 = .ok (.aload_n 0, 1) := by decide +kernel
theorem dX0_init_27 : decode cX0_init 27 = .ok (.iconst 0, 1) := by decide +kernel
theorem dX0_init_28 : decode cX0_init 28 = .ok (.putfield 23, 3) := by decide +kernel
theorem dX0_init_31 : decode cX0_init 31 = .ok (.return_, 1) := by decide +kernel
theorem dX0_isThere_0 : decode cX0_isThere 0 = .ok (.aload_n 0, 1) := by decide +kernel
theorem dX0_isThere_1 : decode cX0_isThere 1 = .ok (.getfield 23, 3) := by decide +kernel
theorem dX0_isThere_4 : decode cX0_isThere 4 = .ok (.ireturn, 1) := by decide +kernel
theorem dX0_drop_0 : decode cX0_drop 0 = .ok (.aload_n 0, 1) := by decide +kernel
theorem dX0_drop_1 : decode cX0_drop 1 = .ok (.iconst 0, 1) := by decide +kernel
theorem dX0_drop_2 : decode cX0_drop 2 = .ok (.putfield 23, 3) := by decide +kernel
theorem dX0_drop_5 : decode cX0_drop 5 = .ok (.return_, 1) := by decide +kernel
set_option maxRecDepth 20000 in
theorem ggX0_take_X5_copyFrom : GoodIn wsX0_take wsX5_copyFrom := goodIn_r _ [8, 9, 10, 11, 12, 13, 14, 15, 16, 30, 31, 32, 33] (by decide +kernel) (by decide +kernel)
set_option maxRecDepth 20000 in
theorem gX0_take_X5_copyFrom : GoodIn wsX0_take (wsV RX0 27 RX5 yX5_copyFrom wsX5_copyFrom) := goodIn_app (goodIn_of _ (by decide +kernel)) ggX0_take_X5_copyFrom
set_option maxRecDepth 20000 in
theorem ggX0_take_X6_copyFrom : GoodIn wsX0_take wsX6_copyFrom := goodIn_r _ [21, 22, 23, 11, 12, 13, 24, 25, 26, 34, 35, 36, 37] (by decide +kernel) (by decide +kernel)
set_option maxRecDepth 20000 in
theorem gX0_take_X6_copyFrom : GoodIn wsX0_take (wsV RX0 31 RX6 yX6_copyFrom wsX6_copyFrom) := goodIn_app (goodIn_of _ (by decide +kernel)) ggX0_take_X6_copyFrom
theorem dX0_take_0 : decode cX0_take 0 = .ok (.aload_n 0, 1) := by decide +kernel
theorem dX0_take_1 : decode cX0_take 1 = .ok (.getfield 10, 3) := by decide +kernel
theorem dX0_take_4 : decode cX0_take 4 = .ok (.aload_n 1, 1) := by decide +kernel
theorem dX0_take_5 : decode cX0_take 5 = .ok (.invokevirtual 27, 3) := by decide +kernel
theorem dX0_take_8 : decode cX0_take 8 = .ok (.aload_n 0, 1) := by decide +kernel
theorem dX0_take_9 : decode cX0_take 9 = .ok (.getfield 19, 3) := by decide +kernel
theorem dX0_take_12 : decode cX0_take 12 = .ok (.aload_n 2, 1) := by decide +kernel
theorem dX0_take_13 : decode cX0_take 13 = .ok (.invokevirtual 31, 3) := by decide +kernel
theorem dX0_take_16 : decode cX0_take 16 = .ok (.aload_n 0, 1) := by decide +kernel
theorem dX0_take_17 : decode cX0_take 17 = .ok (.iconst 1, 1) := by decide +kernel
theorem dX0_take_18 : decode cX0_take 18 = .ok (.putfield 23, 3) := by decide +kernel
theorem dX0_take_21 : decode cX0_take 21 = .ok (.return_, 1) := by decide +kernel
set_option maxRecDepth 20000 in
theorem ggX0_giveBack_X5_copyFrom : GoodIn wsX0_giveBack wsX5_copyFrom := goodIn_r _ [7, 8, 9, 10, 11, 12, 13, 14, 15, 29, 30, 31, 32] (by decide +kernel) (by decide +kernel)
set_option maxRecDepth 20000 in
theorem gX0_giveBack_X5_copyFrom : GoodIn wsX0_giveBack (wsV RX0 27 RX5 yX5_copyFrom wsX5_copyFrom) := goodIn_app (goodIn_of _ (by decide +kernel)) ggX0_giveBack_X5_copyFrom
set_option maxRecDepth 20000 in
theorem ggX0_giveBack_X6_copyFrom : GoodIn wsX0_giveBack wsX6_copyFrom := goodIn_r _ [20, 21, 22, 10, 11, 12, 23, 24, 25, 33, 34, 35, 36] (by decide +kernel) (by decide +kernel)
set_option maxRecDepth 20000 in
theorem gX0_giveBack_X6_copyFrom : GoodIn wsX0_giveBack (wsV RX0 31 RX6 yX6_copyFrom wsX6_copyFrom) := goodIn_app (goodIn_of _ (by decide +kernel)) ggX0_giveBack_X6_copyFrom
theorem dX0_giveBack_0 : decode cX0_giveBack 0 = .ok (.aload_n 1, 1) := by decide +kernel
theorem dX0_giveBack_1 : decode cX0_giveBack 1 = .ok (.aload_n 0, 1) := by decide +kernel
theorem dX0_giveBack_2 : decode cX0_giveBack 2 = .ok (.getfield 10, 3) := by decide +kernel
theorem dX0_giveBack_5 : decode cX0_giveBack 5 = .ok (.invokevirtual 27, 3) := by decide +kernel
theorem dX0_giveBack_8 : decode cX0_giveBack 8 = .ok (.aload_n 2, 1) := by decide +kernel
theorem dX0_giveBack_9 : decode cX0_giveBack 9 = .ok (.aload_n 0, 1) := by decide +kernel
theorem dX0_giveBack_10 : decode cX0_giveBack 10 = .ok (.getfield 19, 3) := by decide +kernel
theorem dX0_giveBack_13 : decode cX0_giveBack 13 = .ok (.invokevirtual 31, 3) := by decide +kernel
theorem dX0_giveBack_16 : decode cX0_giveBack 16 = .ok (.return_, 1) := by decide +kernel
theorem dX1_init_0 : decode cX1_init 0 = .ok (.aload_n 0, 1) := by decide +kernel
theorem dX1_init_1 : decode cX1_init 1 = .ok (.invokespecial 3, 3) := by decide +kernel
theorem dX1_init_4 : decode cX1_init 4 = .ok (.aload_n 0, 1) := by decide +kernel
theorem dX1_init_5 : decode cX1_init 5 = .ok (.bipush (-4), 2) := by decide +kernel
theorem dX1_init_7 : decode cX1_init 7 = .ok (.putfield 9, 3) := by decide +kernel
theorem dX1_init_10 : decode cX1_init 10 = .ok (.aload_n 0, 1) := by decide +kernel
theorem dX1_init_11 : decode cX1_init 11 = .ok (.iconst 0, 1) := by decide +kernel
theorem dX1_init_12 : decode cX1_init 12 = .ok (.putfield 15, 3) := by decide +kernel
theorem dX1_init_15 : decode cX1_init 15 = .ok (.return_, 1) := by decide +kernel
theorem dX1_seekBelow_0 : decode cX1_seekBelow 0 = .ok (.aload_n 0, 1) := by decide +kernel
theorem dX1_seekBelow_1 : decode cX1_seekBelow 1 = .ok (.bipush (-4), 2) := by decide +kernel
theorem dX1_seekBelow_3 : decode cX1_seekBelow 3 = .ok (.putfield 9, 3) := by decide +kernel
theorem dX1_seekBelow_6 : decode cX1_seekBelow 6 = .ok (.aload_n 0, 1) := by decide +kernel
theorem dX1_seekBelow_7 : decode cX1_seekBelow 7 = .ok (.iload_n 1, 1) := by decide +kernel
theorem dX1_seekBelow_8 : decode cX1_seekBelow 8 = .ok (.putfield 15, 3) := by decide +kernel
theorem dX1_seekBelow_11 : decode cX1_seekBelow 11 = .ok (.return_, 1) := by decide +kernel
theorem dX1_offer_0 : decode cX1_offer 0 = .ok (.iload_n 2, 1) := by decide +kernel
theorem dX1_offer_1 : decode cX1_offer 1 = .ok (.aload_n 0, 1) := by decide +kernel
theorem dX1_offer_2 : decode cX1_offer 2 = .ok (.getfield 15, 3) := by decide +kernel
theorem dX1_offer_5 : decode cX1_offer 5 = .ok (.if_icmp .lt 5, 3) := by decide +kernel
theorem dX1_offer_8 : decode cX1_offer 8 = .ok (.iconst 0, 1) := by decide +kernel
theorem dX1_offer_9 : decode cX1_offer 9 = .ok (.ireturn, 1) := by decide +kernel
theorem dX1_offer_10 : decode cX1_offer 10 = .ok (.aload_n 0, 1) := by decide +kernel
theorem dX1_offer_11 : decode cX1_offer 11 = .ok (.iload_n 1, 1) := by decide +kernel
theorem dX1_offer_12 : decode cX1_offer 12 = .ok (.putfield 9, 3) := by decide +kernel
theorem dX1_offer_15 : decode cX1_offer 15 = .ok (.aload_n 0, 1) := by decide +kernel
theorem dX1_offer_16 : decode cX1_offer 16 = .ok (.iload_n 2, 1) := by decide +kernel
theorem dX1_offer_17 : decode cX1_offer 17 = .ok (.putfield 15, 3) := by decide +kernel
theorem dX1_offer_20 : decode cX1_offer 20 = .ok (.iconst 1, 1) := by decide +kernel
theorem dX1_offer_21 : decode cX1_offer 21 = .ok (.ireturn, 1) := by decide +kernel
theorem dX1_at_0 : decode cX1_at 0 = .ok (.aload_n 0, 1) := by decide +kernel
theorem dX1_at_1 : decode cX1_at 1 = .ok (.getfield 9, 3) := by decide +kernel
theorem dX1_at_4 : decode cX1_at 4 = .ok (.ireturn, 1) := by decide +kernel
theorem dX1_value_0 : decode cX1_value 0 = .ok (.aload_n 0, 1) := by decide +kernel
theorem dX1_value_1 : decode cX1_value 1 = .ok (.getfield 9, 3) := by decide +kernel
theorem dX1_value_4 : decode cX1_value 4 = .ok (.bipush (-4), 2) := by decide +kernel
theorem dX1_value_6 : decode cX1_value 6 = .ok (.if_icmp .ne 8, 3) := by decide +kernel
theorem dX1_value_9 : decode cX1_value 9 = .ok (.bipush (-4), 2) := by decide +kernel
theorem dX1_value_11 : decode cX1_value 11 = .ok (.goto 7, 3) := by decide +kernel
theorem dX1_value_14 : decode cX1_value 14 = .ok (.aload_n 0, 1) := by decide +kernel
theorem dX1_value_15 : decode cX1_value 15 = .ok (.getfield 15, 3) := by decide +kernel
theorem dX1_value_18 : decode cX1_value 18 = .ok (.ireturn, 1) := by decide +kernel
theorem dX1_mayBecomeLess_0 : decode cX1_mayBecomeLess 0 = .ok (.aload_n 0, 1) := by decide +kernel
theorem dX1_mayBecomeLess_1 : decode cX1_mayBecomeLess 1 = .ok (.getfield 15, 3) := by decide +kernel
theorem dX1_mayBecomeLess_4 : decode cX1_mayBecomeLess 4 = .ok (.iload_n 1, 1) := by decide +kernel
theorem dX1_mayBecomeLess_5 : decode cX1_mayBecomeLess 5 = .ok (.if_icmp .le 7, 3) := by decide +kernel
theorem dX1_mayBecomeLess_8 : decode cX1_mayBecomeLess 8 = .ok (.iconst 1, 1) := by decide +kernel
theorem dX1_mayBecomeLess_9 : decode cX1_mayBecomeLess 9 = .ok (.goto 4, 3) := by decide +kernel
theorem dX1_mayBecomeLess_12 : decode cX1_mayBecomeLess 12 = .ok (.iconst 0, 1) := by decide +kernel
theorem dX1_mayBecomeLess_13 : decode cX1_mayBecomeLess 13 = .ok (.ireturn, 1) := by decide +kernel
theorem dX2_init_0 : decode cX2_init 0 = .ok (.aload_n 0, 1) := by decide +kernel
theorem dX2_init_1 : decode cX2_init 1 = .ok (.invokespecial 3, 3) := by decide +kernel
theorem dX2_init_4 : decode cX2_init 4 = .ok (.aload_n 0, 1) := by decide +kernel
theorem dX2_init_5 : decode cX2_init 5 = .ok (.bipush 6, 2) := by decide +kernel
theorem dX2_init_7 : decode cX2_init 7 = .ok (.newarray .long, 2) := by decide +kernel
theorem dX2_init_9 : decode cX2_init 9 = .ok (.putfield 11, 3) := by decide +kernel
theorem dX2_init_12 : decode cX2_init 12 = .ok (.aload_n 0, 1) := by decide +kernel
theorem dX2_init_13 : decode cX2_init 13 = .ok (.lconst 0, 1) := by decide +kernel
theorem dX2_init_14 : decode cX2_init 14 = .ok (.putfield 17, 3) := by decide +kernel
theorem dX2_init_17 : decode cX2_init 17 = .ok (.aload_n 0, 1) := by decide +kernel
theorem dX2_init_18 : decode cX2_init 18 = .ok (.lconst 1, 1) := by decide +kernel
theorem dX2_init_19 : decode cX2_init 19 = .ok (.putfield 21, 3) := by decide +kernel
theorem dX2_init_22 : decode cX2_init 22 = .ok (.return_, 1) := by decide +kernel
theorem dX2_told_0 : decode cX2_told 0 = .ok (.iload_n 1, 1) := by decide +kernel
theorem dX2_told_1 : decode cX2_told 1 = .ok (.ifCond .ne 10, 3) := by decide +kernel
theorem dX2_told_4 : decode cX2_told 4 = .ok (.aload_n 0, 1) := by decide +kernel
theorem dX2_told_5 : decode cX2_told 5 = .ok (.getfield 17, 3) := by decide +kernel
theorem dX2_told_8 : decode cX2_told 8 = .ok (.goto 7, 3) := by decide +kernel
theorem dX2_told_11 : decode cX2_told 11 = .ok (.aload_n 0, 1) := by decide +kernel
theorem dX2_told_12 : decode cX2_told 12 = .ok (.getfield 21, 3) := by decide +kernel
theorem dX2_told_15 : decode cX2_told 15 = .ok (.lreturn, 1) := by decide +kernel
set_option maxRecDepth 20000 in
theorem ggX2_ofWantedHour_X2_beginAnew : GoodIn wsX2_ofWantedHour wsX2_beginAnew := goodIn_r _ [7, 1, 2, 8, 36, 37, 38] (by decide +kernel) (by decide +kernel)
set_option maxRecDepth 20000 in
theorem gX2_ofWantedHour_X2_beginAnew : GoodIn wsX2_ofWantedHour (wsV RX2 24 RX2 yX2_beginAnew wsX2_beginAnew) := goodIn_app (goodIn_of _ (by decide +kernel)) ggX2_ofWantedHour_X2_beginAnew
set_option maxRecDepth 20000 in
theorem ggX2_ofWantedHour_X5_placeOf : GoodIn wsX2_ofWantedHour wsX5_placeOf := goodIn_r _ [13, 14, 15, 39, 40, 41, 42] (by decide +kernel) (by decide +kernel)
set_option maxRecDepth 20000 in
theorem gX2_ofWantedHour_X5_placeOf : GoodIn wsX2_ofWantedHour (wsV RX2 27 RX5 yX5_placeOf wsX5_placeOf) := goodIn_app (goodIn_of _ (by decide +kernel)) ggX2_ofWantedHour_X5_placeOf
set_option maxRecDepth 20000 in
theorem ggX2_ofWantedHour_X2_passBox : GoodIn wsX2_ofWantedHour wsX2_passBox := goodIn_r _ [19, 1, 2, 20, 8, 36, 37, 38] (by decide +kernel) (by decide +kernel)
set_option maxRecDepth 20000 in
theorem gX2_ofWantedHour_X2_passBox : GoodIn wsX2_ofWantedHour (wsV RX2 31 RX2 yX2_passBox wsX2_passBox) := goodIn_app (goodIn_of _ (by decide +kernel)) ggX2_ofWantedHour_X2_passBox
set_option maxRecDepth 20000 in
theorem ggX2_ofWantedHour_X5_doneIn : GoodIn wsX2_ofWantedHour wsX5_doneIn := goodIn_r _ [24, 25, 14, 15, 26, 27, 28, 12, 29, 30, 39, 40, 41, 42] (by decide +kernel) (by decide +kernel)
set_option maxRecDepth 20000 in
theorem gX2_ofWantedHour_X5_doneIn : GoodIn wsX2_ofWantedHour (wsV RX2 35 RX5 yX5_doneIn wsX5_doneIn) := goodIn_app (goodIn_of _ (by decide +kernel)) ggX2_ofWantedHour_X5_doneIn
set_option maxRecDepth 20000 in
theorem ggX2_ofWantedHour_X5_fact : GoodIn wsX2_ofWantedHour wsX5_fact := goodIn_r _ [29, 14, 30, 39, 40, 41, 42] (by decide +kernel) (by decide +kernel)
set_option maxRecDepth 20000 in
theorem gX2_ofWantedHour_X5_fact : GoodIn wsX2_ofWantedHour (wsV RX2 38 RX5 yX5_fact wsX5_fact) := goodIn_app (goodIn_of _ (by decide +kernel)) ggX2_ofWantedHour_X5_fact
set_option maxRecDepth 20000 in
theorem ggX2_ofWantedHour_X2_reduce : GoodIn wsX2_ofWantedHour wsX2_reduce := goodIn_r _ [35, 8, 2, 36, 37, 38] (by decide +kernel) (by decide +kernel)
set_option maxRecDepth 20000 in
theorem gX2_ofWantedHour_X2_reduce : GoodIn wsX2_ofWantedHour (wsV RX2 42 RX2 yX2_reduce wsX2_reduce) := goodIn_app (goodIn_of _ (by decide +kernel)) ggX2_ofWantedHour_X2_reduce
theorem dX2_ofWantedHour_0 : decode cX2_ofWantedHour 0 = .ok (.aload_n 0, 1) := by decide +kernel
theorem dX2_ofWantedHour_1 : decode cX2_ofWantedHour 1 = .ok (.invokevirtual 24, 3) := by decide +kernel
theorem dX2_ofWantedHour_4 : decode cX2_ofWantedHour 4 = .ok (.aload_n 1, 1) := by decide +kernel
theorem dX2_ofWantedHour_5 : decode cX2_ofWantedHour 5 = .ok (.iload_n 2, 1) := by decide +kernel
theorem dX2_ofWantedHour_6 : decode cX2_ofWantedHour 6 = .ok (.invokevirtual 27, 3) := by decide +kernel
theorem dX2_ofWantedHour_9 : decode cX2_ofWantedHour 9 = .ok (.istore 4, 2) := by decide +kernel
theorem dX2_ofWantedHour_11 : decode cX2_ofWantedHour 11 = .ok (.iconst 0, 1) := by decide +kernel
theorem dX2_ofWantedHour_12 : decode cX2_ofWantedHour 12 = .ok (.istore 5, 2) := by decide +kernel
theorem dX2_ofWantedHour_14 : decode cX2_ofWantedHour 14 = .ok (.iload 5, 2) := by decide +kernel
theorem dX2_ofWantedHour_16 : decode cX2_ofWantedHour 16 = .ok (.iload 4, 2) := by decide +kernel
theorem dX2_ofWantedHour_18 : decode cX2_ofWantedHour 18 = .ok (.if_icmp .gt 14, 3) := by decide +kernel
theorem dX2_ofWantedHour_21 : decode cX2_ofWantedHour 21 = .ok (.aload_n 0, 1) := by decide +kernel
theorem dX2_ofWantedHour_22 : decode cX2_ofWantedHour 22 = .ok (.iload_n 3, 1) := by decide +kernel
theorem dX2_ofWantedHour_23 : decode cX2_ofWantedHour 23 = .ok (.invokevirtual 31, 3) := by decide +kernel
theorem dX2_ofWantedHour_26 : decode cX2_ofWantedHour 26 = .ok (.iinc 5 1, 3) := by decide +kernel
theorem dX2_ofWantedHour_29 : decode cX2_ofWantedHour 29 = .ok (.goto (-15), 3) := by decide +kernel
theorem dX2_ofWantedHour_32 : decode cX2_ofWantedHour 32 = .ok (.aload_n 1, 1) := by decide +kernel
theorem dX2_ofWantedHour_33 : decode cX2_ofWantedHour 33 = .ok (.iload 4, 2) := by decide +kernel
theorem dX2_ofWantedHour_35 : decode cX2_ofWantedHour 35 = .ok (.invokevirtual 35, 3) := by decide +kernel
theorem dX2_ofWantedHour_38 : decode cX2_ofWantedHour 38 = .ok (.istore 5, 2) := by decide +kernel
theorem dX2_ofWantedHour_40 : decode cX2_ofWantedHour 40 = .ok (.aload_n 1, 1) := by decide +kernel
theorem dX2_ofWantedHour_41 : decode cX2_ofWantedHour 41 = .ok (.iload_n 2, 1) := by decide +kernel
theorem dX2_ofWantedHour_42 : decode cX2_ofWantedHour 42 = .ok (.iconst 2, 1) := by decide +kernel
theorem dX2_ofWantedHour_43 : decode cX2_ofWantedHour 43 = .ok (.invokevirtual 38, 3) := by decide +kernel
theorem dX2_ofWantedHour_46 : decode cX2_ofWantedHour 46 = .ok (.istore 6, 2) := by decide +kernel
theorem dX2_ofWantedHour_48 : decode cX2_ofWantedHour 48 = .ok (.iconst 0, 1) := by decide +kernel
theorem dX2_ofWantedHour_49 : decode cX2_ofWantedHour 49 = .ok (.istore 7, 2) := by decide +kernel
theorem dX2_ofWantedHour_51 : decode cX2_ofWantedHour 51 = .ok (.iload 7, 2) := by decide +kernel
theorem dX2_ofWantedHour_53 : decode cX2_ofWantedHour 53 = .ok (.aload_n 0, 1) := by decide +kernel
theorem dX2_ofWantedHour_54 : decode cX2_ofWantedHour 54 = .ok (.getfield 11, 3) := by decide +kernel
theorem dX2_ofWantedHour_57 : decode cX2_ofWantedHour 57 = .ok (.arraylength, 1) := by decide +kernel
theorem dX2_ofWantedHour_58 : decode cX2_ofWantedHour 58 = .ok (.if_icmp .ge 38, 3) := by decide +kernel
theorem dX2_ofWantedHour_61 : decode cX2_ofWantedHour 61 = .ok (.iload 5, 2) := by decide +kernel
theorem dX2_ofWantedHour_63 : decode cX2_ofWantedHour 63 = .ok (.iload 7, 2) := by decide +kernel
theorem dX2_ofWantedHour_65 : decode cX2_ofWantedHour 65 = .ok (.iadd, 1) := by decide +kernel
theorem dX2_ofWantedHour_66 : decode cX2_ofWantedHour 66 = .ok (.bipush 24, 2) := by decide +kernel
theorem dX2_ofWantedHour_68 : decode cX2_ofWantedHour 68 = .ok (.irem, 1) := by decide +kernel
theorem dX2_ofWantedHour_69 : decode cX2_ofWantedHour 69 = .ok (.iload 6, 2) := by decide +kernel
theorem dX2_ofWantedHour_71 : decode cX2_ofWantedHour 71 = .ok (.if_icmp .ne 19, 3) := by decide +kernel
theorem dX2_ofWantedHour_74 : decode cX2_ofWantedHour 74 = .ok (.aload_n 0, 1) := by decide +kernel
theorem dX2_ofWantedHour_75 : decode cX2_ofWantedHour 75 = .ok (.dup, 1) := by decide +kernel
theorem dX2_ofWantedHour_76 : decode cX2_ofWantedHour 76 = .ok (.getfield 17, 3) := by decide +kernel
theorem dX2_ofWantedHour_79 : decode cX2_ofWantedHour 79 = .ok (.aload_n 0, 1) := by decide +kernel
theorem dX2_ofWantedHour_80 : decode cX2_ofWantedHour 80 = .ok (.getfield 11, 3) := by decide +kernel
theorem dX2_ofWantedHour_83 : decode cX2_ofWantedHour 83 = .ok (.iload 7, 2) := by decide +kernel
theorem dX2_ofWantedHour_85 : decode cX2_ofWantedHour 85 = .ok (.laload, 1) := by decide +kernel
theorem dX2_ofWantedHour_86 : decode cX2_ofWantedHour 86 = .ok (.ladd, 1) := by decide +kernel
theorem dX2_ofWantedHour_87 : decode cX2_ofWantedHour 87 = .ok (.putfield 17, 3) := by decide +kernel
theorem dX2_ofWantedHour_90 : decode cX2_ofWantedHour 90 = .ok (.iinc 7 1, 3) := by decide +kernel
theorem dX2_ofWantedHour_93 : decode cX2_ofWantedHour 93 = .ok (.goto (-42), 3) := by decide +kernel
theorem dX2_ofWantedHour_96 : decode cX2_ofWantedHour 96 = .ok (.aload_n 0, 1) := by decide +kernel
theorem dX2_ofWantedHour_97 : decode cX2_ofWantedHour 97 = .ok (.invokevirtual 42, 3) := by decide +kernel
theorem dX2_ofWantedHour_100 : decode cX2_ofWantedHour 100 = .ok (.return_, 1) := by decide +kernel
set_option maxRecDepth 20000 in
theorem ggX2_ofMeanWrong_X2_beginAnew : GoodIn wsX2_ofMeanWrong wsX2_beginAnew := goodIn_r _ [7, 1, 2, 8, 55, 56, 57] (by decide +kernel) (by decide +kernel)
set_option maxRecDepth 20000 in
theorem gX2_ofMeanWrong_X2_beginAnew : GoodIn wsX2_ofMeanWrong (wsV RX2 24 RX2 yX2_beginAnew wsX2_beginAnew) := goodIn_app (goodIn_of _ (by decide +kernel)) ggX2_ofMeanWrong_X2_beginAnew
set_option maxRecDepth 20000 in
theorem ggX2_ofMeanWrong_X5_size : GoodIn wsX2_ofMeanWrong wsX5_size := goodIn_r _ [13, 14, 58, 59, 60, 61] (by decide +kernel) (by decide +kernel)
set_option maxRecDepth 20000 in
theorem gX2_ofMeanWrong_X5_size : GoodIn wsX2_ofMeanWrong (wsV RX2 45 RX5 yX5_size wsX5_size) := goodIn_app (goodIn_of _ (by decide +kernel)) ggX2_ofMeanWrong_X5_size
set_option maxRecDepth 20000 in
theorem ggX2_ofMeanWrong_X2_passBox : GoodIn wsX2_ofMeanWrong wsX2_passBox := goodIn_r _ [18, 1, 2, 19, 8, 55, 56, 57] (by decide +kernel) (by decide +kernel)
set_option maxRecDepth 20000 in
theorem gX2_ofMeanWrong_X2_passBox : GoodIn wsX2_ofMeanWrong (wsV RX2 31 RX2 yX2_passBox wsX2_passBox) := goodIn_app (goodIn_of _ (by decide +kernel)) ggX2_ofMeanWrong_X2_passBox
set_option maxRecDepth 20000 in
theorem ggX2_ofMeanWrong_X5_doneIn : GoodIn wsX2_ofMeanWrong wsX5_doneIn := goodIn_r _ [23, 24, 14, 25, 26, 27, 28, 12, 29, 30, 58, 59, 60, 61] (by decide +kernel) (by decide +kernel)
set_option maxRecDepth 20000 in
theorem gX2_ofMeanWrong_X5_doneIn : GoodIn wsX2_ofMeanWrong (wsV RX2 35 RX5 yX5_doneIn wsX5_doneIn) := goodIn_app (goodIn_of _ (by decide +kernel)) ggX2_ofMeanWrong_X5_doneIn
set_option maxRecDepth 20000 in
theorem ggX2_ofMeanWrong_X5_boxIn : GoodIn wsX2_ofMeanWrong wsX5_boxIn := goodIn_r _ [34, 25, 35, 36, 37, 12, 38, 14, 58, 59, 60, 61] (by decide +kernel) (by decide +kernel)
set_option maxRecDepth 20000 in
theorem gX2_ofMeanWrong_X5_boxIn : GoodIn wsX2_ofMeanWrong (wsV RX2 49 RX5 yX5_boxIn wsX5_boxIn) := goodIn_app (goodIn_of _ (by decide +kernel)) ggX2_ofMeanWrong_X5_boxIn
set_option maxRecDepth 20000 in
theorem ggX2_ofMeanWrong_X5_wrongOf : GoodIn wsX2_ofMeanWrong wsX5_wrongOf := goodIn_r _ [42, 43, 44, 45, 46, 26, 27, 28, 12, 29, 14, 30, 47, 48, 49, 50, 58, 59, 60, 61] (by decide +kernel) (by decide +kernel)
set_option maxRecDepth 20000 in
theorem gX2_ofMeanWrong_X5_wrongOf : GoodIn wsX2_ofMeanWrong (wsV RX2 52 RX5 yX5_wrongOf wsX5_wrongOf) := goodIn_app (goodIn_of _ (by decide +kernel)) ggX2_ofMeanWrong_X5_wrongOf
set_option maxRecDepth 20000 in
theorem ggX2_ofMeanWrong_X2_reduce : GoodIn wsX2_ofMeanWrong wsX2_reduce := goodIn_r _ [54, 8, 2, 55, 56, 57] (by decide +kernel) (by decide +kernel)
set_option maxRecDepth 20000 in
theorem gX2_ofMeanWrong_X2_reduce : GoodIn wsX2_ofMeanWrong (wsV RX2 42 RX2 yX2_reduce wsX2_reduce) := goodIn_app (goodIn_of _ (by decide +kernel)) ggX2_ofMeanWrong_X2_reduce
theorem dX2_ofMeanWrong_0 : decode cX2_ofMeanWrong 0 = .ok (.aload_n 0, 1) := by decide +kernel
theorem dX2_ofMeanWrong_1 : decode cX2_ofMeanWrong 1 = .ok (.invokevirtual 24, 3) := by decide +kernel
theorem dX2_ofMeanWrong_4 : decode cX2_ofMeanWrong 4 = .ok (.iconst 0, 1) := by decide +kernel
theorem dX2_ofMeanWrong_5 : decode cX2_ofMeanWrong 5 = .ok (.istore_n 3, 1) := by decide +kernel
theorem dX2_ofMeanWrong_6 : decode cX2_ofMeanWrong 6 = .ok (.iload_n 3, 1) := by decide +kernel
theorem dX2_ofMeanWrong_7 : decode cX2_ofMeanWrong 7 = .ok (.aload_n 1, 1) := by decide +kernel
theorem dX2_ofMeanWrong_8 : decode cX2_ofMeanWrong 8 = .ok (.invokevirtual 45, 3) := by decide +kernel
theorem dX2_ofMeanWrong_11 : decode cX2_ofMeanWrong 11 = .ok (.if_icmp .ge 72, 3) := by decide +kernel
theorem dX2_ofMeanWrong_14 : decode cX2_ofMeanWrong 14 = .ok (.aload_n 0, 1) := by decide +kernel
theorem dX2_ofMeanWrong_15 : decode cX2_ofMeanWrong 15 = .ok (.iload_n 2, 1) := by decide +kernel
theorem dX2_ofMeanWrong_16 : decode cX2_ofMeanWrong 16 = .ok (.invokevirtual 31, 3) := by decide +kernel
theorem dX2_ofMeanWrong_19 : decode cX2_ofMeanWrong 19 = .ok (.aload_n 1, 1) := by decide +kernel
theorem dX2_ofMeanWrong_20 : decode cX2_ofMeanWrong 20 = .ok (.iload_n 3, 1) := by decide +kernel
theorem dX2_ofMeanWrong_21 : decode cX2_ofMeanWrong 21 = .ok (.invokevirtual 35, 3) := by decide +kernel
theorem dX2_ofMeanWrong_24 : decode cX2_ofMeanWrong 24 = .ok (.istore 4, 2) := by decide +kernel
theorem dX2_ofMeanWrong_26 : decode cX2_ofMeanWrong 26 = .ok (.iconst 0, 1) := by decide +kernel
theorem dX2_ofMeanWrong_27 : decode cX2_ofMeanWrong 27 = .ok (.istore 5, 2) := by decide +kernel
theorem dX2_ofMeanWrong_29 : decode cX2_ofMeanWrong 29 = .ok (.iload 5, 2) := by decide +kernel
theorem dX2_ofMeanWrong_31 : decode cX2_ofMeanWrong 31 = .ok (.aload_n 0, 1) := by decide +kernel
theorem dX2_ofMeanWrong_32 : decode cX2_ofMeanWrong 32 = .ok (.getfield 11, 3) := by decide +kernel
theorem dX2_ofMeanWrong_35 : decode cX2_ofMeanWrong 35 = .ok (.arraylength, 1) := by decide +kernel
theorem dX2_ofMeanWrong_36 : decode cX2_ofMeanWrong 36 = .ok (.if_icmp .ge 41, 3) := by decide +kernel
theorem dX2_ofMeanWrong_39 : decode cX2_ofMeanWrong 39 = .ok (.aload_n 0, 1) := by decide +kernel
theorem dX2_ofMeanWrong_40 : decode cX2_ofMeanWrong 40 = .ok (.dup, 1) := by decide +kernel
theorem dX2_ofMeanWrong_41 : decode cX2_ofMeanWrong 41 = .ok (.getfield 17, 3) := by decide +kernel
theorem dX2_ofMeanWrong_44 : decode cX2_ofMeanWrong 44 = .ok (.aload_n 0, 1) := by decide +kernel
theorem dX2_ofMeanWrong_45 : decode cX2_ofMeanWrong 45 = .ok (.getfield 11, 3) := by decide +kernel
theorem dX2_ofMeanWrong_48 : decode cX2_ofMeanWrong 48 = .ok (.iload 5, 2) := by decide +kernel
theorem dX2_ofMeanWrong_50 : decode cX2_ofMeanWrong 50 = .ok (.laload, 1) := by decide +kernel
theorem dX2_ofMeanWrong_51 : decode cX2_ofMeanWrong 51 = .ok (.aload_n 1, 1) := by decide +kernel
theorem dX2_ofMeanWrong_52 : decode cX2_ofMeanWrong 52 = .ok (.aload_n 1, 1) := by decide +kernel
theorem dX2_ofMeanWrong_53 : decode cX2_ofMeanWrong 53 = .ok (.iload_n 3, 1) := by decide +kernel
theorem dX2_ofMeanWrong_54 : decode cX2_ofMeanWrong 54 = .ok (.invokevirtual 49, 3) := by decide +kernel
theorem dX2_ofMeanWrong_57 : decode cX2_ofMeanWrong 57 = .ok (.iload 4, 2) := by decide +kernel
theorem dX2_ofMeanWrong_59 : decode cX2_ofMeanWrong 59 = .ok (.iload 5, 2) := by decide +kernel
theorem dX2_ofMeanWrong_61 : decode cX2_ofMeanWrong 61 = .ok (.iadd, 1) := by decide +kernel
theorem dX2_ofMeanWrong_62 : decode cX2_ofMeanWrong 62 = .ok (.invokevirtual 52, 3) := by decide +kernel
theorem dX2_ofMeanWrong_65 : decode cX2_ofMeanWrong 65 = .ok (.i2l, 1) := by decide +kernel
theorem dX2_ofMeanWrong_66 : decode cX2_ofMeanWrong 66 = .ok (.lmul, 1) := by decide +kernel
theorem dX2_ofMeanWrong_67 : decode cX2_ofMeanWrong 67 = .ok (.ladd, 1) := by decide +kernel
theorem dX2_ofMeanWrong_68 : decode cX2_ofMeanWrong 68 = .ok (.putfield 17, 3) := by decide +kernel
theorem dX2_ofMeanWrong_71 : decode cX2_ofMeanWrong 71 = .ok (.iinc 5 1, 3) := by decide +kernel
theorem dX2_ofMeanWrong_74 : decode cX2_ofMeanWrong 74 = .ok (.goto (-45), 3) := by decide +kernel
theorem dX2_ofMeanWrong_77 : decode cX2_ofMeanWrong 77 = .ok (.iinc 3 1, 3) := by decide +kernel
theorem dX2_ofMeanWrong_80 : decode cX2_ofMeanWrong 80 = .ok (.goto (-74), 3) := by decide +kernel
theorem dX2_ofMeanWrong_83 : decode cX2_ofMeanWrong 83 = .ok (.aload_n 0, 1) := by decide +kernel
theorem dX2_ofMeanWrong_84 : decode cX2_ofMeanWrong 84 = .ok (.invokevirtual 42, 3) := by decide +kernel
theorem dX2_ofMeanWrong_87 : decode cX2_ofMeanWrong 87 = .ok (.return_, 1) := by decide +kernel
theorem dX2_beginAnew_0 : decode cX2_beginAnew 0 = .ok (.iconst 1, 1) := by decide +kernel
theorem dX2_beginAnew_1 : decode cX2_beginAnew 1 = .ok (.istore_n 1, 1) := by decide +kernel
theorem dX2_beginAnew_2 : decode cX2_beginAnew 2 = .ok (.iload_n 1, 1) := by decide +kernel
theorem dX2_beginAnew_3 : decode cX2_beginAnew 3 = .ok (.aload_n 0, 1) := by decide +kernel
theorem dX2_beginAnew_4 : decode cX2_beginAnew 4 = .ok (.getfield 11, 3) := by decide +kernel
theorem dX2_beginAnew_7 : decode cX2_beginAnew 7 = .ok (.arraylength, 1) := by decide +kernel
theorem dX2_beginAnew_8 : decode cX2_beginAnew 8 = .ok (.if_icmp .ge 16, 3) := by decide +kernel
theorem dX2_beginAnew_11 : decode cX2_beginAnew 11 = .ok (.aload_n 0, 1) := by decide +kernel
theorem dX2_beginAnew_12 : decode cX2_beginAnew 12 = .ok (.getfield 11, 3) := by decide +kernel
theorem dX2_beginAnew_15 : decode cX2_beginAnew 15 = .ok (.iload_n 1, 1) := by decide +kernel
theorem dX2_beginAnew_16 : decode cX2_beginAnew 16 = .ok (.lconst 0, 1) := by decide +kernel
theorem dX2_beginAnew_17 : decode cX2_beginAnew 17 = .ok (.lastore, 1) := by decide +kernel
theorem dX2_beginAnew_18 : decode cX2_beginAnew 18 = .ok (.iinc 1 1, 3) := by decide +kernel
theorem dX2_beginAnew_21 : decode cX2_beginAnew 21 = .ok (.goto (-19), 3) := by decide +kernel
theorem dX2_beginAnew_24 : decode cX2_beginAnew 24 = .ok (.aload_n 0, 1) := by decide +kernel
theorem dX2_beginAnew_25 : decode cX2_beginAnew 25 = .ok (.getfield 11, 3) := by decide +kernel
theorem dX2_beginAnew_28 : decode cX2_beginAnew 28 = .ok (.iconst 0, 1) := by decide +kernel
theorem dX2_beginAnew_29 : decode cX2_beginAnew 29 = .ok (.lconst 1, 1) := by decide +kernel
theorem dX2_beginAnew_30 : decode cX2_beginAnew 30 = .ok (.lastore, 1) := by decide +kernel
theorem dX2_beginAnew_31 : decode cX2_beginAnew 31 = .ok (.aload_n 0, 1) := by decide +kernel
theorem dX2_beginAnew_32 : decode cX2_beginAnew 32 = .ok (.lconst 0, 1) := by decide +kernel
theorem dX2_beginAnew_33 : decode cX2_beginAnew 33 = .ok (.putfield 17, 3) := by decide +kernel
theorem dX2_beginAnew_36 : decode cX2_beginAnew 36 = .ok (.aload_n 0, 1) := by decide +kernel
theorem dX2_beginAnew_37 : decode cX2_beginAnew 37 = .ok (.lconst 1, 1) := by decide +kernel
theorem dX2_beginAnew_38 : decode cX2_beginAnew 38 = .ok (.putfield 21, 3) := by decide +kernel
theorem dX2_beginAnew_41 : decode cX2_beginAnew 41 = .ok (.return_, 1) := by decide +kernel
theorem dX2_passBox_0 : decode cX2_passBox 0 = .ok (.aload_n 0, 1) := by decide +kernel
theorem dX2_passBox_1 : decode cX2_passBox 1 = .ok (.getfield 11, 3) := by decide +kernel
theorem dX2_passBox_4 : decode cX2_passBox 4 = .ok (.arraylength, 1) := by decide +kernel
theorem dX2_passBox_5 : decode cX2_passBox 5 = .ok (.iconst 1, 1) := by decide +kernel
theorem dX2_passBox_6 : decode cX2_passBox 6 = .ok (.isub, 1) := by decide +kernel
theorem dX2_passBox_7 : decode cX2_passBox 7 = .ok (.istore_n 2, 1) := by decide +kernel
theorem dX2_passBox_8 : decode cX2_passBox 8 = .ok (.iload_n 2, 1) := by decide +kernel
theorem dX2_passBox_9 : decode cX2_passBox 9 = .ok (.ifCond .le 39, 3) := by decide +kernel
theorem dX2_passBox_12 : decode cX2_passBox 12 = .ok (.aload_n 0, 1) := by decide +kernel
theorem dX2_passBox_13 : decode cX2_passBox 13 = .ok (.getfield 11, 3) := by decide +kernel
theorem dX2_passBox_16 : decode cX2_passBox 16 = .ok (.iload_n 2, 1) := by decide +kernel
theorem dX2_passBox_17 : decode cX2_passBox 17 = .ok (.aload_n 0, 1) := by decide +kernel
theorem dX2_passBox_18 : decode cX2_passBox 18 = .ok (.getfield 11, 3) := by decide +kernel
theorem dX2_passBox_21 : decode cX2_passBox 21 = .ok (.iload_n 2, 1) := by decide +kernel
theorem dX2_passBox_22 : decode cX2_passBox 22 = .ok (.laload, 1) := by decide +kernel
theorem dX2_passBox_23 : decode cX2_passBox 23 = .ok (.bipush 10, 2) := by decide +kernel
theorem dX2_passBox_25 : decode cX2_passBox 25 = .ok (.iload_n 1, 1) := by decide +kernel
theorem dX2_passBox_26 : decode cX2_passBox 26 = .ok (.isub, 1) := by decide +kernel
theorem dX2_passBox_27 : decode cX2_passBox 27 = .ok (.i2l, 1) := by decide +kernel
theorem dX2_passBox_28 : decode cX2_passBox 28 = .ok (.lmul, 1) := by decide +kernel
theorem dX2_passBox_29 : decode cX2_passBox 29 = .ok (.aload_n 0, 1) := by decide +kernel
theorem dX2_passBox_30 : decode cX2_passBox 30 = .ok (.getfield 11, 3) := by decide +kernel
theorem dX2_passBox_33 : decode cX2_passBox 33 = .ok (.iload_n 2, 1) := by decide +kernel
theorem dX2_passBox_34 : decode cX2_passBox 34 = .ok (.iconst 1, 1) := by decide +kernel
theorem dX2_passBox_35 : decode cX2_passBox 35 = .ok (.isub, 1) := by decide +kernel
theorem dX2_passBox_36 : decode cX2_passBox 36 = .ok (.laload, 1) := by decide +kernel
theorem dX2_passBox_37 : decode cX2_passBox 37 = .ok (.iload_n 1, 1) := by decide +kernel
theorem dX2_passBox_38 : decode cX2_passBox 38 = .ok (.i2l, 1) := by decide +kernel
theorem dX2_passBox_39 : decode cX2_passBox 39 = .ok (.lmul, 1) := by decide +kernel
theorem dX2_passBox_40 : decode cX2_passBox 40 = .ok (.ladd, 1) := by decide +kernel
theorem dX2_passBox_41 : decode cX2_passBox 41 = .ok (.lastore, 1) := by decide +kernel
theorem dX2_passBox_42 : decode cX2_passBox 42 = .ok (.iinc 2 (-1), 3) := by decide +kernel
theorem dX2_passBox_45 : decode cX2_passBox 45 = .ok (.goto (-37), 3) := by decide +kernel
theorem dX2_passBox_48 : decode cX2_passBox 48 = .ok (.aload_n 0, 1) := by decide +kernel
theorem dX2_passBox_49 : decode cX2_passBox 49 = .ok (.getfield 11, 3) := by decide +kernel
theorem dX2_passBox_52 : decode cX2_passBox 52 = .ok (.iconst 0, 1) := by decide +kernel
theorem dX2_passBox_53 : decode cX2_passBox 53 = .ok (.dup2, 1) := by decide +kernel
theorem dX2_passBox_54 : decode cX2_passBox 54 = .ok (.laload, 1) := by decide +kernel
theorem dX2_passBox_55 : decode cX2_passBox 55 = .ok (.bipush 10, 2) := by decide +kernel
theorem dX2_passBox_57 : decode cX2_passBox 57 = .ok (.iload_n 1, 1) := by decide +kernel
theorem dX2_passBox_58 : decode cX2_passBox 58 = .ok (.isub, 1) := by decide +kernel
theorem dX2_passBox_59 : decode cX2_passBox 59 = .ok (.i2l, 1) := by decide +kernel
theorem dX2_passBox_60 : decode cX2_passBox 60 = .ok (.lmul, 1) := by decide +kernel
theorem dX2_passBox_61 : decode cX2_passBox 61 = .ok (.lastore, 1) := by decide +kernel
theorem dX2_passBox_62 : decode cX2_passBox 62 = .ok (.aload_n 0, 1) := by decide +kernel
theorem dX2_passBox_63 : decode cX2_passBox 63 = .ok (.dup, 1) := by decide +kernel
theorem dX2_passBox_64 : decode cX2_passBox 64 = .ok (.getfield 17, 3) := by decide +kernel
theorem dX2_passBox_67 : decode cX2_passBox 67 = .ok (.ldc2_w 55, 3) := by decide +kernel
theorem dX2_passBox_70 : decode cX2_passBox 70 = .ok (.lmul, 1) := by decide +kernel
theorem dX2_passBox_71 : decode cX2_passBox 71 = .ok (.putfield 17, 3) := by decide +kernel
theorem dX2_passBox_74 : decode cX2_passBox 74 = .ok (.aload_n 0, 1) := by decide +kernel
theorem dX2_passBox_75 : decode cX2_passBox 75 = .ok (.dup, 1) := by decide +kernel
theorem dX2_passBox_76 : decode cX2_passBox 76 = .ok (.getfield 21, 3) := by decide +kernel
theorem dX2_passBox_79 : decode cX2_passBox 79 = .ok (.ldc2_w 55, 3) := by decide +kernel
theorem dX2_passBox_82 : decode cX2_passBox 82 = .ok (.lmul, 1) := by decide +kernel
theorem dX2_passBox_83 : decode cX2_passBox 83 = .ok (.putfield 21, 3) := by decide +kernel
theorem dX2_passBox_86 : decode cX2_passBox 86 = .ok (.return_, 1) := by decide +kernel
theorem dX2_reduce_0 : decode cX2_reduce 0 = .ok (.aload_n 0, 1) := by decide +kernel
theorem dX2_reduce_1 : decode cX2_reduce 1 = .ok (.getfield 21, 3) := by decide +kernel
theorem dX2_reduce_4 : decode cX2_reduce 4 = .ok (.lstore_n 1, 1) := by decide +kernel
theorem dX2_reduce_5 : decode cX2_reduce 5 = .ok (.aload_n 0, 1) := by decide +kernel
theorem dX2_reduce_6 : decode cX2_reduce 6 = .ok (.getfield 17, 3) := by decide +kernel
theorem dX2_reduce_9 : decode cX2_reduce 9 = .ok (.lstore_n 3, 1) := by decide +kernel
theorem dX2_reduce_10 : decode cX2_reduce 10 = .ok (.iconst 0, 1) := by decide +kernel
theorem dX2_reduce_11 : decode cX2_reduce 11 = .ok (.istore 5, 2) := by decide +kernel
theorem dX2_reduce_13 : decode cX2_reduce 13 = .ok (.iload 5, 2) := by decide +kernel
theorem dX2_reduce_15 : decode cX2_reduce 15 = .ok (.bipush 100, 2) := by decide +kernel
theorem dX2_reduce_17 : decode cX2_reduce 17 = .ok (.if_icmp .ge 25, 3) := by decide +kernel
theorem dX2_reduce_20 : decode cX2_reduce 20 = .ok (.lload_n 3, 1) := by decide +kernel
theorem dX2_reduce_21 : decode cX2_reduce 21 = .ok (.lconst 0, 1) := by decide +kernel
theorem dX2_reduce_22 : decode cX2_reduce 22 = .ok (.lcmp, 1) := by decide +kernel
theorem dX2_reduce_23 : decode cX2_reduce 23 = .ok (.ifCond .eq 19, 3) := by decide +kernel
theorem dX2_reduce_26 : decode cX2_reduce 26 = .ok (.lload_n 1, 1) := by decide +kernel
theorem dX2_reduce_27 : decode cX2_reduce 27 = .ok (.lload_n 3, 1) := by decide +kernel
theorem dX2_reduce_28 : decode cX2_reduce 28 = .ok (.lrem, 1) := by decide +kernel
theorem dX2_reduce_29 : decode cX2_reduce 29 = .ok (.lstore 6, 2) := by decide +kernel
theorem dX2_reduce_31 : decode cX2_reduce 31 = .ok (.lload_n 3, 1) := by decide +kernel
theorem dX2_reduce_32 : decode cX2_reduce 32 = .ok (.lstore_n 1, 1) := by decide +kernel
theorem dX2_reduce_33 : decode cX2_reduce 33 = .ok (.lload 6, 2) := by decide +kernel
theorem dX2_reduce_35 : decode cX2_reduce 35 = .ok (.lstore_n 3, 1) := by decide +kernel
theorem dX2_reduce_36 : decode cX2_reduce 36 = .ok (.iinc 5 1, 3) := by decide +kernel
theorem dX2_reduce_39 : decode cX2_reduce 39 = .ok (.goto (-26), 3) := by decide +kernel
theorem dX2_reduce_42 : decode cX2_reduce 42 = .ok (.lload_n 1, 1) := by decide +kernel
theorem dX2_reduce_43 : decode cX2_reduce 43 = .ok (.lconst 0, 1) := by decide +kernel
theorem dX2_reduce_44 : decode cX2_reduce 44 = .ok (.lcmp, 1) := by decide +kernel
theorem dX2_reduce_45 : decode cX2_reduce 45 = .ok (.ifCond .le 23, 3) := by decide +kernel
theorem dX2_reduce_48 : decode cX2_reduce 48 = .ok (.aload_n 0, 1) := by decide +kernel
theorem dX2_reduce_49 : decode cX2_reduce 49 = .ok (.dup, 1) := by decide +kernel
theorem dX2_reduce_50 : decode cX2_reduce 50 = .ok (.getfield 17, 3) := by decide +kernel
theorem dX2_reduce_53 : decode cX2_reduce 53 = .ok (.lload_n 1, 1) := by decide +kernel
theorem dX2_reduce_54 : decode cX2_reduce 54 = .ok (.ldiv, 1) := by decide +kernel
theorem dX2_reduce_55 : decode cX2_reduce 55 = .ok (.putfield 17, 3) := by decide +kernel
theorem dX2_reduce_58 : decode cX2_reduce 58 = .ok (.aload_n 0, 1) := by decide +kernel
theorem dX2_reduce_59 : decode cX2_reduce 59 = .ok (.dup, 1) := by decide +kernel
theorem dX2_reduce_60 : decode cX2_reduce 60 = .ok (.getfield 21, 3) := by decide +kernel
theorem dX2_reduce_63 : decode cX2_reduce 63 = .ok (.lload_n 1, 1) := by decide +kernel
theorem dX2_reduce_64 : decode cX2_reduce 64 = .ok (.ldiv, 1) := by decide +kernel
theorem dX2_reduce_65 : decode cX2_reduce 65 = .ok (.putfield 21, 3) := by decide +kernel
theorem dX2_reduce_68 : decode cX2_reduce 68 = .ok (.return_, 1) := by decide +kernel
set_option maxRecDepth 20000 in
theorem ggX3_init_X5_init : GoodIn wsX3_init wsX5_init := goodIn_r _ [16, 17, 2, 3, 12, 18, 19, 20, 21, 27, 28, 29, 30] (by decide +kernel) (by decide +kernel)
set_option maxRecDepth 20000 in
theorem gX3_init_X5_init_n11 : GoodIn wsX3_init (wsX5_init) := ggX3_init_X5_init
set_option maxRecDepth 20000 in
theorem ggX3_init_X1_init : GoodIn wsX3_init wsX1_init := goodIn_r _ [23, 24, 2, 3, 25, 26, 35, 36] (by decide +kernel) (by decide +kernel)
set_option maxRecDepth 20000 in
theorem gX3_init_X1_init_n20 : GoodIn wsX3_init (wsX1_init) := ggX3_init_X1_init
theorem dX3_init_0 : decode cX3_init 0 = .ok (.aload_n 0, 1) := by decide +kernel
theorem dX3_init_1 : decode cX3_init 1 = .ok (.invokespecial 3, 3) := by decide +kernel
theorem dX3_init_4 : decode cX3_init 4 = .ok (.aload_n 0, 1) := by decide +kernel
theorem dX3_init_5 : decode cX3_init 5 = .ok (.new 9, 3) := by decide +kernel
theorem dX3_init_8 : decode cX3_init 8 = .ok (.dup, 1) := by decide +kernel
theorem dX3_init_9 : decode cX3_init 9 = .ok (.invokespecial 11, 3) := by decide +kernel
theorem dX3_init_12 : decode cX3_init 12 = .ok (.putfield 12, 3) := by decide +kernel
theorem dX3_init_15 : decode cX3_init 15 = .ok (.aload_n 0, 1) := by decide +kernel
theorem dX3_init_16 : decode cX3_init 16 = .ok (.new 18, 3) := by decide +kernel
theorem dX3_init_19 : decode cX3_init 19 = .ok (.dup, 1) := by decide +kernel
theorem dX3_init_20 : decode cX3_init 20 = .ok (.invokespecial 20, 3) := by decide +kernel
theorem dX3_init_23 : decode cX3_init 23 = .ok (.putfield 21, 3) := by decide +kernel
theorem dX3_init_26 : decode cX3_init 26 = .ok (.aload_n 0, 1) := by decide +kernel
theorem dX3_init_27 : decode cX3_init 27 = .ok (.iconst 5, 1) := by decide +kernel
theorem dX3_init_28 : decode cX3_init 28 = .ok (.newarray .int, 2) := by decide +kernel
theorem dX3_init_30 : decode cX3_init 30 = .ok (.putfield 25, 3) := by decide +kernel
theorem dX3_init_33 : decode cX3_init 33 = .ok (.aload_n 0, 1) := by decide +kernel
theorem dX3_init_34 : decode cX3_init 34 = .ok (.bipush 24, 2) := by decide +kernel
theorem dX3_init_36 : decode cX3_init 36 = .ok (.newarray .int, 2) := by decide +kernel
theorem dX3_init_38 : decode cX3_init 38 = .ok (.putfield 29, 3) := by decide +kernel
theorem dX3_init_41 : decode cX3_init 41 = .ok (.return_, 1) := by decide +kernel
set_option maxRecDepth 20000 in
theorem ggX3_draftOf_X5_copyFrom : GoodIn wsX3_draftOf wsX5_copyFrom := goodIn_r _ [6, 7, 8, 9, 10, 11, 12, 13, 14, 19, 20, 21, 22] (by decide +kernel) (by decide +kernel)
set_option maxRecDepth 20000 in
theorem gX3_draftOf_X5_copyFrom : GoodIn wsX3_draftOf (wsV RX3 32 RX5 yX5_copyFrom wsX5_copyFrom) := goodIn_app (goodIn_of _ (by decide +kernel)) ggX3_draftOf_X5_copyFrom
theorem dX3_draftOf_0 : decode cX3_draftOf 0 = .ok (.aload_n 0, 1) := by decide +kernel
theorem dX3_draftOf_1 : decode cX3_draftOf 1 = .ok (.getfield 12, 3) := by decide +kernel
theorem dX3_draftOf_4 : decode cX3_draftOf 4 = .ok (.aload_n 1, 1) := by decide +kernel
theorem dX3_draftOf_5 : decode cX3_draftOf 5 = .ok (.invokevirtual 32, 3) := by decide +kernel
theorem dX3_draftOf_8 : decode cX3_draftOf 8 = .ok (.aload_n 0, 1) := by decide +kernel
theorem dX3_draftOf_9 : decode cX3_draftOf 9 = .ok (.getfield 12, 3) := by decide +kernel
theorem dX3_draftOf_12 : decode cX3_draftOf 12 = .ok (.areturn, 1) := by decide +kernel
set_option maxRecDepth 20000 in
theorem ggX3_told_X1_at : GoodIn wsX3_told wsX1_at := goodIn_r _ [6, 7, 17, 18] (by decide +kernel) (by decide +kernel)
set_option maxRecDepth 20000 in
theorem gX3_told_X1_at : GoodIn wsX3_told (wsV RX3 36 RX1 yX1_at wsX1_at) := goodIn_app (goodIn_of _ (by decide +kernel)) ggX3_told_X1_at
set_option maxRecDepth 20000 in
theorem ggX3_told_X1_value : GoodIn wsX3_told wsX1_value := goodIn_r _ [11, 7, 12, 17, 18] (by decide +kernel) (by decide +kernel)
set_option maxRecDepth 20000 in
theorem gX3_told_X1_value : GoodIn wsX3_told (wsV RX3 40 RX1 yX1_value wsX1_value) := goodIn_app (goodIn_of _ (by decide +kernel)) ggX3_told_X1_value
theorem dX3_told_0 : decode cX3_told 0 = .ok (.iload_n 1, 1) := by decide +kernel
theorem dX3_told_1 : decode cX3_told 1 = .ok (.ifCond .ne 13, 3) := by decide +kernel
theorem dX3_told_4 : decode cX3_told 4 = .ok (.aload_n 0, 1) := by decide +kernel
theorem dX3_told_5 : decode cX3_told 5 = .ok (.getfield 21, 3) := by decide +kernel
theorem dX3_told_8 : decode cX3_told 8 = .ok (.invokevirtual 36, 3) := by decide +kernel
theorem dX3_told_11 : decode cX3_told 11 = .ok (.goto 10, 3) := by decide +kernel
theorem dX3_told_14 : decode cX3_told 14 = .ok (.aload_n 0, 1) := by decide +kernel
theorem dX3_told_15 : decode cX3_told 15 = .ok (.getfield 21, 3) := by decide +kernel
theorem dX3_told_18 : decode cX3_told 18 = .ok (.invokevirtual 40, 3) := by decide +kernel
theorem dX3_told_21 : decode cX3_told 21 = .ok (.ireturn, 1) := by decide +kernel
set_option maxRecDepth 20000 in
theorem ggX3_bestOrder_X5_copyFrom : GoodIn wsX3_bestOrder wsX5_copyFrom := goodIn_r _ [8, 9, 10, 11, 12, 13, 14, 15, 16, 82, 83, 84, 85] (by decide +kernel) (by decide +kernel)
set_option maxRecDepth 20000 in
theorem gX3_bestOrder_X5_copyFrom : GoodIn wsX3_bestOrder (wsV RX3 32 RX5 yX5_copyFrom wsX5_copyFrom) := goodIn_app (goodIn_of _ (by decide +kernel)) ggX3_bestOrder_X5_copyFrom
set_option maxRecDepth 20000 in
theorem ggX3_bestOrder_X5_orderByNumber : GoodIn wsX3_bestOrder wsX5_orderByNumber := goodIn_r _ [20, 15, 14, 82, 83, 84, 85] (by decide +kernel) (by decide +kernel)
set_option maxRecDepth 20000 in
theorem gX3_bestOrder_X5_orderByNumber : GoodIn wsX3_bestOrder (wsV RX3 43 RX5 yX5_orderByNumber wsX5_orderByNumber) := goodIn_app (goodIn_of _ (by decide +kernel)) ggX3_bestOrder_X5_orderByNumber
set_option maxRecDepth 20000 in
theorem ggX3_bestOrder_X1_seekBelow : GoodIn wsX3_bestOrder wsX1_seekBelow := goodIn_r _ [25, 26, 27, 86, 87] (by decide +kernel) (by decide +kernel)
set_option maxRecDepth 20000 in
theorem gX3_bestOrder_X1_seekBelow : GoodIn wsX3_bestOrder (wsV RX3 47 RX1 yX1_seekBelow wsX1_seekBelow) := goodIn_app (goodIn_of _ (by decide +kernel)) ggX3_bestOrder_X1_seekBelow
set_option maxRecDepth 20000 in
theorem ggX3_bestOrder_X5_wrongOfAll : GoodIn wsX3_bestOrder wsX5_wrongOfAll := goodIn_r _ [31, 16, 15, 14, 32, 33, 34, 7, 35, 9, 36, 37, 38, 39, 40, 41, 42, 43, 44, 45, 46, 47, 82, 83, 84, 85] (by decide +kernel) (by decide +kernel)
set_option maxRecDepth 20000 in
theorem gX3_bestOrder_X5_wrongOfAll : GoodIn wsX3_bestOrder (wsV RX3 51 RX5 yX5_wrongOfAll wsX5_wrongOfAll) := goodIn_app (goodIn_of _ (by decide +kernel)) ggX3_bestOrder_X5_wrongOfAll
set_option maxRecDepth 20000 in
theorem ggX3_bestOrder_X1_offer : GoodIn wsX3_bestOrder wsX1_offer := goodIn_r _ [51, 27, 26, 86, 87] (by decide +kernel) (by decide +kernel)
set_option maxRecDepth 20000 in
theorem gX3_bestOrder_X1_offer : GoodIn wsX3_bestOrder (wsV RX3 54 RX1 yX1_offer wsX1_offer) := goodIn_app (goodIn_of _ (by decide +kernel)) ggX3_bestOrder_X1_offer
set_option maxRecDepth 20000 in
theorem ggX3_bestOrder_X3_holdPlaces : GoodIn wsX3_bestOrder wsX3_holdPlaces := goodIn_r _ [56, 1, 57, 58, 59, 60, 7, 61, 15, 62, 63, 64, 65, 14, 66, 67, 68, 69, 78, 79, 80, 81, 82, 83, 84, 85] (by decide +kernel) (by decide +kernel)
set_option maxRecDepth 20000 in
theorem gX3_bestOrder_X3_holdPlaces : GoodIn wsX3_bestOrder (wsV RX3 58 RX3 yX3_holdPlaces wsX3_holdPlaces) := goodIn_app (goodIn_of _ (by decide +kernel)) ggX3_bestOrder_X3_holdPlaces
set_option maxRecDepth 20000 in
theorem ggX3_bestOrder_X5_nextOrder : GoodIn wsX3_bestOrder wsX5_nextOrder := goodIn_r _ [73, 15, 14, 74, 75, 76, 7, 77, 66, 67, 68, 69, 82, 83, 84, 85] (by decide +kernel) (by decide +kernel)
set_option maxRecDepth 20000 in
theorem gX3_bestOrder_X5_nextOrder : GoodIn wsX3_bestOrder (wsV RX3 61 RX5 yX5_nextOrder wsX5_nextOrder) := goodIn_app (goodIn_of _ (by decide +kernel)) ggX3_bestOrder_X5_nextOrder
theorem dX3_bestOrder_0 : decode cX3_bestOrder 0 = .ok (.aload_n 0, 1) := by decide +kernel
theorem dX3_bestOrder_1 : decode cX3_bestOrder 1 = .ok (.getfield 12, 3) := by decide +kernel
theorem dX3_bestOrder_4 : decode cX3_bestOrder 4 = .ok (.aload_n 1, 1) := by decide +kernel
theorem dX3_bestOrder_5 : decode cX3_bestOrder 5 = .ok (.invokevirtual 32, 3) := by decide +kernel
theorem dX3_bestOrder_8 : decode cX3_bestOrder 8 = .ok (.aload_n 0, 1) := by decide +kernel
theorem dX3_bestOrder_9 : decode cX3_bestOrder 9 = .ok (.getfield 12, 3) := by decide +kernel
theorem dX3_bestOrder_12 : decode cX3_bestOrder 12 = .ok (.invokevirtual 43, 3) := by decide +kernel
theorem dX3_bestOrder_15 : decode cX3_bestOrder 15 = .ok (.aload_n 0, 1) := by decide +kernel
theorem dX3_bestOrder_16 : decode cX3_bestOrder 16 = .ok (.getfield 21, 3) := by decide +kernel
theorem dX3_bestOrder_19 : decode cX3_bestOrder 19 = .ok (.ldc 46, 2) := by decide +kernel
theorem dX3_bestOrder_21 : decode cX3_bestOrder 21 = .ok (.invokevirtual 47, 3) := by decide +kernel
theorem dX3_bestOrder_24 : decode cX3_bestOrder 24 = .ok (.iconst 1, 1) := by decide +kernel
theorem dX3_bestOrder_25 : decode cX3_bestOrder 25 = .ok (.istore_n 2, 1) := by decide +kernel
theorem dX3_bestOrder_26 : decode cX3_bestOrder 26 = .ok (.iconst 0, 1) := by decide +kernel
theorem dX3_bestOrder_27 : decode cX3_bestOrder 27 = .ok (.istore_n 3, 1) := by decide +kernel
theorem dX3_bestOrder_28 : decode cX3_bestOrder 28 = .ok (.iload_n 3, 1) := by decide +kernel
theorem dX3_bestOrder_29 : decode cX3_bestOrder 29 = .ok (.bipush 120, 2) := by decide +kernel
theorem dX3_bestOrder_31 : decode cX3_bestOrder 31 = .ok (.if_icmp .ge 43, 3) := by decide +kernel
theorem dX3_bestOrder_34 : decode cX3_bestOrder 34 = .ok (.iload_n 2, 1) := by decide +kernel
theorem dX3_bestOrder_35 : decode cX3_bestOrder 35 = .ok (.ifCond .eq 39, 3) := by decide +kernel
theorem dX3_bestOrder_38 : decode cX3_bestOrder 38 = .ok (.aload_n 0, 1) := by decide +kernel
theorem dX3_bestOrder_39 : decode cX3_bestOrder 39 = .ok (.getfield 21, 3) := by decide +kernel
theorem dX3_bestOrder_42 : decode cX3_bestOrder 42 = .ok (.iload_n 3, 1) := by decide +kernel
theorem dX3_bestOrder_43 : decode cX3_bestOrder 43 = .ok (.aload_n 0, 1) := by decide +kernel
theorem dX3_bestOrder_44 : decode cX3_bestOrder 44 = .ok (.getfield 12, 3) := by decide +kernel
theorem dX3_bestOrder_47 : decode cX3_bestOrder 47 = .ok (.invokevirtual 51, 3) := by decide +kernel
theorem dX3_bestOrder_50 : decode cX3_bestOrder 50 = .ok (.invokevirtual 54, 3) := by decide +kernel
theorem dX3_bestOrder_53 : decode cX3_bestOrder 53 = .ok (.ifCond .eq 7, 3) := by decide +kernel
theorem dX3_bestOrder_56 : decode cX3_bestOrder 56 = .ok (.aload_n 0, 1) := by decide +kernel
theorem dX3_bestOrder_57 : decode cX3_bestOrder 57 = .ok (.invokevirtual 58, 3) := by decide +kernel
theorem dX3_bestOrder_60 : decode cX3_bestOrder 60 = .ok (.aload_n 0, 1) := by decide +kernel
theorem dX3_bestOrder_61 : decode cX3_bestOrder 61 = .ok (.getfield 12, 3) := by decide +kernel
theorem dX3_bestOrder_64 : decode cX3_bestOrder 64 = .ok (.invokevirtual 61, 3) := by decide +kernel
theorem dX3_bestOrder_67 : decode cX3_bestOrder 67 = .ok (.istore_n 2, 1) := by decide +kernel
theorem dX3_bestOrder_68 : decode cX3_bestOrder 68 = .ok (.iinc 3 1, 3) := by decide +kernel
theorem dX3_bestOrder_71 : decode cX3_bestOrder 71 = .ok (.goto (-43), 3) := by decide +kernel
theorem dX3_bestOrder_74 : decode cX3_bestOrder 74 = .ok (.return_, 1) := by decide +kernel
set_option maxRecDepth 20000 in
theorem ggX3_holdPlaces_X5_size : GoodIn wsX3_holdPlaces wsX5_size := goodIn_r _ [7, 8, 22, 23, 24, 25] (by decide +kernel) (by decide +kernel)
set_option maxRecDepth 20000 in
theorem gX3_holdPlaces_X5_size : GoodIn wsX3_holdPlaces (wsV RX3 65 RX5 yX5_size wsX5_size) := goodIn_app (goodIn_of _ (by decide +kernel)) ggX3_holdPlaces_X5_size
set_option maxRecDepth 20000 in
theorem ggX3_holdPlaces_X5_boxIn : GoodIn wsX3_holdPlaces wsX5_boxIn := goodIn_r _ [12, 13, 14, 15, 16, 6, 17, 8, 22, 23, 24, 25] (by decide +kernel) (by decide +kernel)
set_option maxRecDepth 20000 in
theorem gX3_holdPlaces_X5_boxIn : GoodIn wsX3_holdPlaces (wsV RX3 68 RX5 yX5_boxIn wsX5_boxIn) := goodIn_app (goodIn_of _ (by decide +kernel)) ggX3_holdPlaces_X5_boxIn
theorem dX3_holdPlaces_0 : decode cX3_holdPlaces 0 = .ok (.iconst 0, 1) := by decide +kernel
theorem dX3_holdPlaces_1 : decode cX3_holdPlaces 1 = .ok (.istore_n 1, 1) := by decide +kernel
theorem dX3_holdPlaces_2 : decode cX3_holdPlaces 2 = .ok (.iload_n 1, 1) := by decide +kernel
theorem dX3_holdPlaces_3 : decode cX3_holdPlaces 3 = .ok (.aload_n 0, 1) := by decide +kernel
theorem dX3_holdPlaces_4 : decode cX3_holdPlaces 4 = .ok (.getfield 12, 3) := by decide +kernel
theorem dX3_holdPlaces_7 : decode cX3_holdPlaces 7 = .ok (.invokevirtual 65, 3) := by decide +kernel
theorem dX3_holdPlaces_10 : decode cX3_holdPlaces 10 = .ok (.if_icmp .ge 32, 3) := by decide +kernel
theorem dX3_holdPlaces_13 : decode cX3_holdPlaces 13 = .ok (.iload_n 1, 1) := by decide +kernel
theorem dX3_holdPlaces_14 : decode cX3_holdPlaces 14 = .ok (.aload_n 0, 1) := by decide +kernel
theorem dX3_holdPlaces_15 : decode cX3_holdPlaces 15 = .ok (.getfield 25, 3) := by decide +kernel
theorem dX3_holdPlaces_18 : decode cX3_holdPlaces 18 = .ok (.arraylength, 1) := by decide +kernel
theorem dX3_holdPlaces_19 : decode cX3_holdPlaces 19 = .ok (.if_icmp .ge 23, 3) := by decide +kernel
theorem dX3_holdPlaces_22 : decode cX3_holdPlaces 22 = .ok (.aload_n 0, 1) := by decide +kernel
theorem dX3_holdPlaces_23 : decode cX3_holdPlaces 23 = .ok (.getfield 25, 3) := by decide +kernel
theorem dX3_holdPlaces_26 : decode cX3_holdPlaces 26 = .ok (.iload_n 1, 1) := by decide +kernel
theorem dX3_holdPlaces_27 : decode cX3_holdPlaces 27 = .ok (.aload_n 0, 1) := by decide +kernel
theorem dX3_holdPlaces_28 : decode cX3_holdPlaces 28 = .ok (.getfield 12, 3) := by decide +kernel
theorem dX3_holdPlaces_31 : decode cX3_holdPlaces 31 = .ok (.iload_n 1, 1) := by decide +kernel
theorem dX3_holdPlaces_32 : decode cX3_holdPlaces 32 = .ok (.invokevirtual 68, 3) := by decide +kernel
theorem dX3_holdPlaces_35 : decode cX3_holdPlaces 35 = .ok (.iastore, 1) := by decide +kernel
theorem dX3_holdPlaces_36 : decode cX3_holdPlaces 36 = .ok (.iinc 1 1, 3) := by decide +kernel
theorem dX3_holdPlaces_39 : decode cX3_holdPlaces 39 = .ok (.goto (-37), 3) := by decide +kernel
theorem dX3_holdPlaces_42 : decode cX3_holdPlaces 42 = .ok (.return_, 1) := by decide +kernel
set_option maxRecDepth 20000 in
theorem ggX3_bestBoxIn_X9_within : GoodIn wsX3_bestBoxIn wsX9_within := goodIn_r _ [4] (by decide +kernel) (by decide +kernel)
set_option maxRecDepth 20000 in
theorem gX3_bestBoxIn_X9_within_n72 : GoodIn wsX3_bestBoxIn (wsX9_within) := ggX3_bestBoxIn_X9_within
theorem dX3_bestBoxIn_0 : decode cX3_bestBoxIn 0 = .ok (.iload_n 1, 1) := by decide +kernel
theorem dX3_bestBoxIn_1 : decode cX3_bestBoxIn 1 = .ok (.iconst 0, 1) := by decide +kernel
theorem dX3_bestBoxIn_2 : decode cX3_bestBoxIn 2 = .ok (.aload_n 0, 1) := by decide +kernel
theorem dX3_bestBoxIn_3 : decode cX3_bestBoxIn 3 = .ok (.getfield 25, 3) := by decide +kernel
theorem dX3_bestBoxIn_6 : decode cX3_bestBoxIn 6 = .ok (.arraylength, 1) := by decide +kernel
theorem dX3_bestBoxIn_7 : decode cX3_bestBoxIn 7 = .ok (.iconst 1, 1) := by decide +kernel
theorem dX3_bestBoxIn_8 : decode cX3_bestBoxIn 8 = .ok (.isub, 1) := by decide +kernel
theorem dX3_bestBoxIn_9 : decode cX3_bestBoxIn 9 = .ok (.invokestatic 72, 3) := by decide +kernel
theorem dX3_bestBoxIn_12 : decode cX3_bestBoxIn 12 = .ok (.ifCond .eq 12, 3) := by decide +kernel
theorem dX3_bestBoxIn_15 : decode cX3_bestBoxIn 15 = .ok (.aload_n 0, 1) := by decide +kernel
theorem dX3_bestBoxIn_16 : decode cX3_bestBoxIn 16 = .ok (.getfield 25, 3) := by decide +kernel
theorem dX3_bestBoxIn_19 : decode cX3_bestBoxIn 19 = .ok (.iload_n 1, 1) := by decide +kernel
theorem dX3_bestBoxIn_20 : decode cX3_bestBoxIn 20 = .ok (.iaload, 1) := by decide +kernel
theorem dX3_bestBoxIn_21 : decode cX3_bestBoxIn 21 = .ok (.goto 5, 3) := by decide +kernel
theorem dX3_bestBoxIn_24 : decode cX3_bestBoxIn 24 = .ok (.bipush (-4), 2) := by decide +kernel
theorem dX3_bestBoxIn_26 : decode cX3_bestBoxIn 26 = .ok (.ireturn, 1) := by decide +kernel
set_option maxRecDepth 20000 in
theorem ggX3_bestStart_X5_copyFrom : GoodIn wsX3_bestStart wsX5_copyFrom := goodIn_r _ [8, 9, 10, 11, 12, 13, 14, 15, 16, 56, 57, 58, 59] (by decide +kernel) (by decide +kernel)
set_option maxRecDepth 20000 in
theorem gX3_bestStart_X5_copyFrom : GoodIn wsX3_bestStart (wsV RX3 32 RX5 yX5_copyFrom wsX5_copyFrom) := goodIn_app (goodIn_of _ (by decide +kernel)) ggX3_bestStart_X5_copyFrom
set_option maxRecDepth 20000 in
theorem ggX3_bestStart_X1_seekBelow : GoodIn wsX3_bestStart wsX1_seekBelow := goodIn_r _ [21, 22, 23, 60, 61] (by decide +kernel) (by decide +kernel)
set_option maxRecDepth 20000 in
theorem gX3_bestStart_X1_seekBelow : GoodIn wsX3_bestStart (wsV RX3 47 RX1 yX1_seekBelow wsX1_seekBelow) := goodIn_app (goodIn_of _ (by decide +kernel)) ggX3_bestStart_X1_seekBelow
set_option maxRecDepth 20000 in
theorem ggX3_bestStart_X5_setStart : GoodIn wsX3_bestStart wsX5_setStart := goodIn_r _ [27, 16, 56, 57, 58, 59] (by decide +kernel) (by decide +kernel)
set_option maxRecDepth 20000 in
theorem gX3_bestStart_X5_setStart : GoodIn wsX3_bestStart (wsV RX3 76 RX5 yX5_setStart wsX5_setStart) := goodIn_app (goodIn_of _ (by decide +kernel)) ggX3_bestStart_X5_setStart
set_option maxRecDepth 20000 in
theorem ggX3_bestStart_X5_wrongOfAll : GoodIn wsX3_bestStart wsX5_wrongOfAll := goodIn_r _ [31, 16, 15, 14, 32, 33, 34, 7, 35, 9, 36, 37, 38, 39, 40, 41, 42, 43, 44, 45, 46, 47, 56, 57, 58, 59] (by decide +kernel) (by decide +kernel)
set_option maxRecDepth 20000 in
theorem gX3_bestStart_X5_wrongOfAll : GoodIn wsX3_bestStart (wsV RX3 51 RX5 yX5_wrongOfAll wsX5_wrongOfAll) := goodIn_app (goodIn_of _ (by decide +kernel)) ggX3_bestStart_X5_wrongOfAll
set_option maxRecDepth 20000 in
theorem ggX3_bestStart_X1_offer : GoodIn wsX3_bestStart wsX1_offer := goodIn_r _ [51, 23, 22, 60, 61] (by decide +kernel) (by decide +kernel)
set_option maxRecDepth 20000 in
theorem gX3_bestStart_X1_offer : GoodIn wsX3_bestStart (wsV RX3 54 RX1 yX1_offer wsX1_offer) := goodIn_app (goodIn_of _ (by decide +kernel)) ggX3_bestStart_X1_offer
theorem dX3_bestStart_0 : decode cX3_bestStart 0 = .ok (.aload_n 0, 1) := by decide +kernel
theorem dX3_bestStart_1 : decode cX3_bestStart 1 = .ok (.getfield 12, 3) := by decide +kernel
theorem dX3_bestStart_4 : decode cX3_bestStart 4 = .ok (.aload_n 1, 1) := by decide +kernel
theorem dX3_bestStart_5 : decode cX3_bestStart 5 = .ok (.invokevirtual 32, 3) := by decide +kernel
theorem dX3_bestStart_8 : decode cX3_bestStart 8 = .ok (.aload_n 0, 1) := by decide +kernel
theorem dX3_bestStart_9 : decode cX3_bestStart 9 = .ok (.getfield 21, 3) := by decide +kernel
theorem dX3_bestStart_12 : decode cX3_bestStart 12 = .ok (.ldc 46, 2) := by decide +kernel
theorem dX3_bestStart_14 : decode cX3_bestStart 14 = .ok (.invokevirtual 47, 3) := by decide +kernel
theorem dX3_bestStart_17 : decode cX3_bestStart 17 = .ok (.iconst 0, 1) := by decide +kernel
theorem dX3_bestStart_18 : decode cX3_bestStart 18 = .ok (.istore_n 2, 1) := by decide +kernel
theorem dX3_bestStart_19 : decode cX3_bestStart 19 = .ok (.iload_n 2, 1) := by decide +kernel
theorem dX3_bestStart_20 : decode cX3_bestStart 20 = .ok (.bipush 24, 2) := by decide +kernel
theorem dX3_bestStart_22 : decode cX3_bestStart 22 = .ok (.if_icmp .ge 33, 3) := by decide +kernel
theorem dX3_bestStart_25 : decode cX3_bestStart 25 = .ok (.aload_n 0, 1) := by decide +kernel
theorem dX3_bestStart_26 : decode cX3_bestStart 26 = .ok (.getfield 12, 3) := by decide +kernel
theorem dX3_bestStart_29 : decode cX3_bestStart 29 = .ok (.iload_n 2, 1) := by decide +kernel
theorem dX3_bestStart_30 : decode cX3_bestStart 30 = .ok (.invokevirtual 76, 3) := by decide +kernel
theorem dX3_bestStart_33 : decode cX3_bestStart 33 = .ok (.aload_n 0, 1) := by decide +kernel
theorem dX3_bestStart_34 : decode cX3_bestStart 34 = .ok (.getfield 21, 3) := by decide +kernel
theorem dX3_bestStart_37 : decode cX3_bestStart 37 = .ok (.iload_n 2, 1) := by decide +kernel
theorem dX3_bestStart_38 : decode cX3_bestStart 38 = .ok (.aload_n 0, 1) := by decide +kernel
theorem dX3_bestStart_39 : decode cX3_bestStart 39 = .ok (.getfield 12, 3) := by decide +kernel
theorem dX3_bestStart_42 : decode cX3_bestStart 42 = .ok (.invokevirtual 51, 3) := by decide +kernel
theorem dX3_bestStart_45 : decode cX3_bestStart 45 = .ok (.invokevirtual 54, 3) := by decide +kernel
theorem dX3_bestStart_48 : decode cX3_bestStart 48 = .ok (.pop, 1) := by decide +kernel
theorem dX3_bestStart_49 : decode cX3_bestStart 49 = .ok (.iinc 2 1, 3) := by decide +kernel
theorem dX3_bestStart_52 : decode cX3_bestStart 52 = .ok (.goto (-33), 3) := by decide +kernel
theorem dX3_bestStart_55 : decode cX3_bestStart 55 = .ok (.return_, 1) := by decide +kernel
set_option maxRecDepth 20000 in
theorem ggX3_bestExchange_X5_copyFrom : GoodIn wsX3_bestExchange wsX5_copyFrom := goodIn_r _ [7, 8, 9, 10, 11, 12, 13, 14, 15, 63, 64, 65, 66] (by decide +kernel) (by decide +kernel)
set_option maxRecDepth 20000 in
theorem gX3_bestExchange_X5_copyFrom : GoodIn wsX3_bestExchange (wsV RX3 32 RX5 yX5_copyFrom wsX5_copyFrom) := goodIn_app (goodIn_of _ (by decide +kernel)) ggX3_bestExchange_X5_copyFrom
set_option maxRecDepth 20000 in
theorem ggX3_bestExchange_X5_wrongOfAll : GoodIn wsX3_bestExchange wsX5_wrongOfAll := goodIn_r _ [19, 15, 14, 13, 20, 21, 22, 6, 23, 8, 24, 25, 26, 27, 28, 29, 30, 31, 32, 33, 34, 35, 63, 64, 65, 66] (by decide +kernel) (by decide +kernel)
set_option maxRecDepth 20000 in
theorem gX3_bestExchange_X5_wrongOfAll : GoodIn wsX3_bestExchange (wsV RX3 51 RX5 yX5_wrongOfAll wsX5_wrongOfAll) := goodIn_app (goodIn_of _ (by decide +kernel)) ggX3_bestExchange_X5_wrongOfAll
set_option maxRecDepth 20000 in
theorem ggX3_bestExchange_X1_seekBelow : GoodIn wsX3_bestExchange wsX1_seekBelow := goodIn_r _ [40, 41, 42, 67, 68] (by decide +kernel) (by decide +kernel)
set_option maxRecDepth 20000 in
theorem gX3_bestExchange_X1_seekBelow : GoodIn wsX3_bestExchange (wsV RX3 47 RX1 yX1_seekBelow wsX1_seekBelow) := goodIn_app (goodIn_of _ (by decide +kernel)) ggX3_bestExchange_X1_seekBelow
set_option maxRecDepth 20000 in
theorem ggX3_bestExchange_X5_size : GoodIn wsX3_bestExchange wsX5_size := goodIn_r _ [46, 14, 63, 64, 65, 66] (by decide +kernel) (by decide +kernel)
set_option maxRecDepth 20000 in
theorem gX3_bestExchange_X5_size : GoodIn wsX3_bestExchange (wsV RX3 65 RX5 yX5_size wsX5_size) := goodIn_app (goodIn_of _ (by decide +kernel)) ggX3_bestExchange_X5_size
set_option maxRecDepth 20000 in
theorem ggX3_bestExchange_X5_exchange : GoodIn wsX3_bestExchange wsX5_exchange := goodIn_r _ [50, 13, 51, 52, 53, 6, 54, 14, 63, 64, 65, 66] (by decide +kernel) (by decide +kernel)
set_option maxRecDepth 20000 in
theorem gX3_bestExchange_X5_exchange : GoodIn wsX3_bestExchange (wsV RX3 79 RX5 yX5_exchange wsX5_exchange) := goodIn_app (goodIn_of _ (by decide +kernel)) ggX3_bestExchange_X5_exchange
set_option maxRecDepth 20000 in
theorem ggX3_bestExchange_X1_offer : GoodIn wsX3_bestExchange wsX1_offer := goodIn_r _ [58, 42, 41, 67, 68] (by decide +kernel) (by decide +kernel)
set_option maxRecDepth 20000 in
theorem gX3_bestExchange_X1_offer : GoodIn wsX3_bestExchange (wsV RX3 54 RX1 yX1_offer wsX1_offer) := goodIn_app (goodIn_of _ (by decide +kernel)) ggX3_bestExchange_X1_offer
theorem dX3_bestExchange_0 : decode cX3_bestExchange 0 = .ok (.aload_n 0, 1) := by decide +kernel
theorem dX3_bestExchange_1 : decode cX3_bestExchange 1 = .ok (.getfield 12, 3) := by decide +kernel
theorem dX3_bestExchange_4 : decode cX3_bestExchange 4 = .ok (.aload_n 1, 1) := by decide +kernel
theorem dX3_bestExchange_5 : decode cX3_bestExchange 5 = .ok (.invokevirtual 32, 3) := by decide +kernel
theorem dX3_bestExchange_8 : decode cX3_bestExchange 8 = .ok (.aload_n 0, 1) := by decide +kernel
theorem dX3_bestExchange_9 : decode cX3_bestExchange 9 = .ok (.getfield 21, 3) := by decide +kernel
theorem dX3_bestExchange_12 : decode cX3_bestExchange 12 = .ok (.aload_n 1, 1) := by decide +kernel
theorem dX3_bestExchange_13 : decode cX3_bestExchange 13 = .ok (.invokevirtual 51, 3) := by decide +kernel
theorem dX3_bestExchange_16 : decode cX3_bestExchange 16 = .ok (.invokevirtual 47, 3) := by decide +kernel
theorem dX3_bestExchange_19 : decode cX3_bestExchange 19 = .ok (.iconst 0, 1) := by decide +kernel
theorem dX3_bestExchange_20 : decode cX3_bestExchange 20 = .ok (.istore_n 2, 1) := by decide +kernel
theorem dX3_bestExchange_21 : decode cX3_bestExchange 21 = .ok (.iload_n 2, 1) := by decide +kernel
theorem dX3_bestExchange_22 : decode cX3_bestExchange 22 = .ok (.aload_n 0, 1) := by decide +kernel
theorem dX3_bestExchange_23 : decode cX3_bestExchange 23 = .ok (.getfield 12, 3) := by decide +kernel
theorem dX3_bestExchange_26 : decode cX3_bestExchange 26 = .ok (.invokevirtual 65, 3) := by decide +kernel
theorem dX3_bestExchange_29 : decode cX3_bestExchange 29 = .ok (.if_icmp .ge 69, 3) := by decide +kernel
theorem dX3_bestExchange_32 : decode cX3_bestExchange 32 = .ok (.iload_n 2, 1) := by decide +kernel
theorem dX3_bestExchange_33 : decode cX3_bestExchange 33 = .ok (.iconst 1, 1) := by decide +kernel
theorem dX3_bestExchange_34 : decode cX3_bestExchange 34 = .ok (.iadd, 1) := by decide +kernel
theorem dX3_bestExchange_35 : decode cX3_bestExchange 35 = .ok (.istore_n 3, 1) := by decide +kernel
theorem dX3_bestExchange_36 : decode cX3_bestExchange 36 = .ok (.iload_n 3, 1) := by decide +kernel
theorem dX3_bestExchange_37 : decode cX3_bestExchange 37 = .ok (.aload_n 0, 1) := by decide +kernel
theorem dX3_bestExchange_38 : decode cX3_bestExchange 38 = .ok (.getfield 12, 3) := by decide +kernel
theorem dX3_bestExchange_41 : decode cX3_bestExchange 41 = .ok (.invokevirtual 65, 3) := by decide +kernel
theorem dX3_bestExchange_44 : decode cX3_bestExchange 44 = .ok (.if_icmp .ge 48, 3) := by decide +kernel
theorem dX3_bestExchange_47 : decode cX3_bestExchange 47 = .ok (.aload_n 0, 1) := by decide +kernel
theorem dX3_bestExchange_48 : decode cX3_bestExchange 48 = .ok (.getfield 12, 3) := by decide +kernel
theorem dX3_bestExchange_51 : decode cX3_bestExchange 51 = .ok (.iload_n 2, 1) := by decide +kernel
theorem dX3_bestExchange_52 : decode cX3_bestExchange 52 = .ok (.iload_n 3, 1) := by decide +kernel
theorem dX3_bestExchange_53 : decode cX3_bestExchange 53 = .ok (.invokevirtual 79, 3) := by decide +kernel
theorem dX3_bestExchange_56 : decode cX3_bestExchange 56 = .ok (.aload_n 0, 1) := by decide +kernel
theorem dX3_bestExchange_57 : decode cX3_bestExchange 57 = .ok (.getfield 21, 3) := by decide +kernel
theorem dX3_bestExchange_60 : decode cX3_bestExchange 60 = .ok (.bipush 10, 2) := by decide +kernel
theorem dX3_bestExchange_62 : decode cX3_bestExchange 62 = .ok (.iload_n 2, 1) := by decide +kernel
theorem dX3_bestExchange_63 : decode cX3_bestExchange 63 = .ok (.imul, 1) := by decide +kernel
theorem dX3_bestExchange_64 : decode cX3_bestExchange 64 = .ok (.iload_n 3, 1) := by decide +kernel
theorem dX3_bestExchange_65 : decode cX3_bestExchange 65 = .ok (.iadd, 1) := by decide +kernel
theorem dX3_bestExchange_66 : decode cX3_bestExchange 66 = .ok (.aload_n 0, 1) := by decide +kernel
theorem dX3_bestExchange_67 : decode cX3_bestExchange 67 = .ok (.getfield 12, 3) := by decide +kernel
theorem dX3_bestExchange_70 : decode cX3_bestExchange 70 = .ok (.invokevirtual 51, 3) := by decide +kernel
theorem dX3_bestExchange_73 : decode cX3_bestExchange 73 = .ok (.invokevirtual 54, 3) := by decide +kernel
theorem dX3_bestExchange_76 : decode cX3_bestExchange 76 = .ok (.pop, 1) := by decide +kernel
theorem dX3_bestExchange_77 : decode cX3_bestExchange 77 = .ok (.aload_n 0, 1) := by decide +kernel
theorem dX3_bestExchange_78 : decode cX3_bestExchange 78 = .ok (.getfield 12, 3) := by decide +kernel
theorem dX3_bestExchange_81 : decode cX3_bestExchange 81 = .ok (.iload_n 2, 1) := by decide +kernel
theorem dX3_bestExchange_82 : decode cX3_bestExchange 82 = .ok (.iload_n 3, 1) := by decide +kernel
theorem dX3_bestExchange_83 : decode cX3_bestExchange 83 = .ok (.invokevirtual 79, 3) := by decide +kernel
theorem dX3_bestExchange_86 : decode cX3_bestExchange 86 = .ok (.iinc 3 1, 3) := by decide +kernel
theorem dX3_bestExchange_89 : decode cX3_bestExchange 89 = .ok (.goto (-53), 3) := by decide +kernel
theorem dX3_bestExchange_92 : decode cX3_bestExchange 92 = .ok (.iinc 2 1, 3) := by decide +kernel
theorem dX3_bestExchange_95 : decode cX3_bestExchange 95 = .ok (.goto (-74), 3) := by decide +kernel
theorem dX3_bestExchange_98 : decode cX3_bestExchange 98 = .ok (.return_, 1) := by decide +kernel
set_option maxRecDepth 20000 in
theorem ggX3_leastLonger_X5_copyFrom : GoodIn wsX3_leastLonger wsX5_copyFrom := goodIn_r _ [6, 7, 8, 9, 10, 11, 12, 13, 14, 32, 33, 34, 35] (by decide +kernel) (by decide +kernel)
set_option maxRecDepth 20000 in
theorem gX3_leastLonger_X5_copyFrom : GoodIn wsX3_leastLonger (wsV RX3 32 RX5 yX5_copyFrom wsX5_copyFrom) := goodIn_app (goodIn_of _ (by decide +kernel)) ggX3_leastLonger_X5_copyFrom
set_option maxRecDepth 20000 in
theorem ggX3_leastLonger_X5_fact : GoodIn wsX3_leastLonger wsX5_fact := goodIn_r _ [18, 13, 7, 32, 33, 34, 35] (by decide +kernel) (by decide +kernel)
set_option maxRecDepth 20000 in
theorem gX3_leastLonger_X5_fact : GoodIn wsX3_leastLonger (wsV RX3 83 RX5 yX5_fact wsX5_fact) := goodIn_app (goodIn_of _ (by decide +kernel)) ggX3_leastLonger_X5_fact
set_option maxRecDepth 20000 in
theorem ggX3_leastLonger_X5_setFact : GoodIn wsX3_leastLonger wsX5_setFact := goodIn_r _ [22, 13, 7, 32, 33, 34, 35] (by decide +kernel) (by decide +kernel)
set_option maxRecDepth 20000 in
theorem gX3_leastLonger_X5_setFact : GoodIn wsX3_leastLonger (wsV RX3 87 RX5 yX5_setFact wsX5_setFact) := goodIn_app (goodIn_of _ (by decide +kernel)) ggX3_leastLonger_X5_setFact
set_option maxRecDepth 20000 in
theorem ggX3_leastLonger_X5_ownHour : GoodIn wsX3_leastLonger wsX5_ownHour := goodIn_r _ [26, 14, 13, 12, 27, 16, 17, 5, 18, 7, 32, 33, 34, 35] (by decide +kernel) (by decide +kernel)
set_option maxRecDepth 20000 in
theorem gX3_leastLonger_X5_ownHour : GoodIn wsX3_leastLonger (wsV RX3 91 RX5 yX5_ownHour wsX5_ownHour) := goodIn_app (goodIn_of _ (by decide +kernel)) ggX3_leastLonger_X5_ownHour
theorem dX3_leastLonger_0 : decode cX3_leastLonger 0 = .ok (.aload_n 0, 1) := by decide +kernel
theorem dX3_leastLonger_1 : decode cX3_leastLonger 1 = .ok (.getfield 12, 3) := by decide +kernel
theorem dX3_leastLonger_4 : decode cX3_leastLonger 4 = .ok (.aload_n 1, 1) := by decide +kernel
theorem dX3_leastLonger_5 : decode cX3_leastLonger 5 = .ok (.invokevirtual 32, 3) := by decide +kernel
theorem dX3_leastLonger_8 : decode cX3_leastLonger 8 = .ok (.aload_n 1, 1) := by decide +kernel
theorem dX3_leastLonger_9 : decode cX3_leastLonger 9 = .ok (.iload_n 2, 1) := by decide +kernel
theorem dX3_leastLonger_10 : decode cX3_leastLonger 10 = .ok (.iconst 1, 1) := by decide +kernel
theorem dX3_leastLonger_11 : decode cX3_leastLonger 11 = .ok (.invokevirtual 83, 3) := by decide +kernel
theorem dX3_leastLonger_14 : decode cX3_leastLonger 14 = .ok (.istore_n 3, 1) := by decide +kernel
theorem dX3_leastLonger_15 : decode cX3_leastLonger 15 = .ok (.aload_n 1, 1) := by decide +kernel
theorem dX3_leastLonger_16 : decode cX3_leastLonger 16 = .ok (.iload_n 2, 1) := by decide +kernel
theorem dX3_leastLonger_17 : decode cX3_leastLonger 17 = .ok (.iconst 2, 1) := by decide +kernel
theorem dX3_leastLonger_18 : decode cX3_leastLonger 18 = .ok (.invokevirtual 83, 3) := by decide +kernel
theorem dX3_leastLonger_21 : decode cX3_leastLonger 21 = .ok (.istore 4, 2) := by decide +kernel
theorem dX3_leastLonger_23 : decode cX3_leastLonger 23 = .ok (.iconst 0, 1) := by decide +kernel
theorem dX3_leastLonger_24 : decode cX3_leastLonger 24 = .ok (.istore 5, 2) := by decide +kernel
theorem dX3_leastLonger_26 : decode cX3_leastLonger 26 = .ok (.iload 5, 2) := by decide +kernel
theorem dX3_leastLonger_28 : decode cX3_leastLonger 28 = .ok (.bipush 11, 2) := by decide +kernel
theorem dX3_leastLonger_30 : decode cX3_leastLonger 30 = .ok (.if_icmp .gt 47, 3) := by decide +kernel
theorem dX3_leastLonger_33 : decode cX3_leastLonger 33 = .ok (.iload_n 3, 1) := by decide +kernel
theorem dX3_leastLonger_34 : decode cX3_leastLonger 34 = .ok (.iload 5, 2) := by decide +kernel
theorem dX3_leastLonger_36 : decode cX3_leastLonger 36 = .ok (.iadd, 1) := by decide +kernel
theorem dX3_leastLonger_37 : decode cX3_leastLonger 37 = .ok (.bipush 12, 2) := by decide +kernel
theorem dX3_leastLonger_39 : decode cX3_leastLonger 39 = .ok (.if_icmp .gt 38, 3) := by decide +kernel
theorem dX3_leastLonger_42 : decode cX3_leastLonger 42 = .ok (.aload_n 0, 1) := by decide +kernel
theorem dX3_leastLonger_43 : decode cX3_leastLonger 43 = .ok (.getfield 12, 3) := by decide +kernel
theorem dX3_leastLonger_46 : decode cX3_leastLonger 46 = .ok (.iload_n 2, 1) := by decide +kernel
theorem dX3_leastLonger_47 : decode cX3_leastLonger 47 = .ok (.iconst 1, 1) := by decide +kernel
theorem dX3_leastLonger_48 : decode cX3_leastLonger 48 = .ok (.iload_n 3, 1) := by decide +kernel
theorem dX3_leastLonger_49 : decode cX3_leastLonger 49 = .ok (.iload 5, 2) := by decide +kernel
theorem dX3_leastLonger_51 : decode cX3_leastLonger 51 = .ok (.iadd, 1) := by decide +kernel
theorem dX3_leastLonger_52 : decode cX3_leastLonger 52 = .ok (.invokevirtual 87, 3) := by decide +kernel
theorem dX3_leastLonger_55 : decode cX3_leastLonger 55 = .ok (.aload_n 0, 1) := by decide +kernel
theorem dX3_leastLonger_56 : decode cX3_leastLonger 56 = .ok (.getfield 12, 3) := by decide +kernel
theorem dX3_leastLonger_59 : decode cX3_leastLonger 59 = .ok (.iload_n 2, 1) := by decide +kernel
theorem dX3_leastLonger_60 : decode cX3_leastLonger 60 = .ok (.invokevirtual 91, 3) := by decide +kernel
theorem dX3_leastLonger_63 : decode cX3_leastLonger 63 = .ok (.iload 4, 2) := by decide +kernel
theorem dX3_leastLonger_65 : decode cX3_leastLonger 65 = .ok (.if_icmp .ne 6, 3) := by decide +kernel
theorem dX3_leastLonger_68 : decode cX3_leastLonger 68 = .ok (.iload 5, 2) := by decide +kernel
theorem dX3_leastLonger_70 : decode cX3_leastLonger 70 = .ok (.ireturn, 1) := by decide +kernel
theorem dX3_leastLonger_71 : decode cX3_leastLonger 71 = .ok (.iinc 5 1, 3) := by decide +kernel
theorem dX3_leastLonger_74 : decode cX3_leastLonger 74 = .ok (.goto (-48), 3) := by decide +kernel
theorem dX3_leastLonger_77 : decode cX3_leastLonger 77 = .ok (.bipush (-4), 2) := by decide +kernel
theorem dX3_leastLonger_79 : decode cX3_leastLonger 79 = .ok (.ireturn, 1) := by decide +kernel
set_option maxRecDepth 20000 in
theorem ggX3_firstOpening_X5_copyFrom : GoodIn wsX3_firstOpening wsX5_copyFrom := goodIn_r _ [6, 7, 8, 9, 10, 11, 12, 13, 14, 52, 53, 54, 55] (by decide +kernel) (by decide +kernel)
set_option maxRecDepth 20000 in
theorem gX3_firstOpening_X5_copyFrom : GoodIn wsX3_firstOpening (wsV RX3 32 RX5 yX5_copyFrom wsX5_copyFrom) := goodIn_app (goodIn_of _ (by decide +kernel)) ggX3_firstOpening_X5_copyFrom
set_option maxRecDepth 20000 in
theorem ggX3_firstOpening_X5_fact : GoodIn wsX3_firstOpening wsX5_fact := goodIn_r _ [18, 13, 7, 52, 53, 54, 55] (by decide +kernel) (by decide +kernel)
set_option maxRecDepth 20000 in
theorem gX3_firstOpening_X5_fact : GoodIn wsX3_firstOpening (wsV RX3 83 RX5 yX5_fact wsX5_fact) := goodIn_app (goodIn_of _ (by decide +kernel)) ggX3_firstOpening_X5_fact
set_option maxRecDepth 20000 in
theorem ggX3_firstOpening_X5_setFact : GoodIn wsX3_firstOpening wsX5_setFact := goodIn_r _ [22, 13, 7, 52, 53, 54, 55] (by decide +kernel) (by decide +kernel)
set_option maxRecDepth 20000 in
theorem gX3_firstOpening_X5_setFact : GoodIn wsX3_firstOpening (wsV RX3 87 RX5 yX5_setFact wsX5_setFact) := goodIn_app (goodIn_of _ (by decide +kernel)) ggX3_firstOpening_X5_setFact
set_option maxRecDepth 20000 in
theorem ggX3_firstOpening_X5_oclock : GoodIn wsX3_firstOpening wsX5_oclock := goodIn_r _ [26, 27, 28, 29, 5, 30, 13, 31, 16, 17, 18, 7, 32, 33, 34, 35, 36, 37, 38, 39, 40, 41, 42, 43, 14, 12, 44, 45, 46, 47, 52, 53, 54, 55] (by decide +kernel) (by decide +kernel)
set_option maxRecDepth 20000 in
theorem gX3_firstOpening_X5_oclock : GoodIn wsX3_firstOpening (wsV RX3 94 RX5 yX5_oclock wsX5_oclock) := goodIn_app (goodIn_of _ (by decide +kernel)) ggX3_firstOpening_X5_oclock
theorem dX3_firstOpening_0 : decode cX3_firstOpening 0 = .ok (.aload_n 0, 1) := by decide +kernel
theorem dX3_firstOpening_1 : decode cX3_firstOpening 1 = .ok (.getfield 12, 3) := by decide +kernel
theorem dX3_firstOpening_4 : decode cX3_firstOpening 4 = .ok (.aload_n 1, 1) := by decide +kernel
theorem dX3_firstOpening_5 : decode cX3_firstOpening 5 = .ok (.invokevirtual 32, 3) := by decide +kernel
theorem dX3_firstOpening_8 : decode cX3_firstOpening 8 = .ok (.aload_n 1, 1) := by decide +kernel
theorem dX3_firstOpening_9 : decode cX3_firstOpening 9 = .ok (.iload_n 2, 1) := by decide +kernel
theorem dX3_firstOpening_10 : decode cX3_firstOpening 10 = .ok (.iconst 5, 1) := by decide +kernel
theorem dX3_firstOpening_11 : decode cX3_firstOpening 11 = .ok (.invokevirtual 83, 3) := by decide +kernel
theorem dX3_firstOpening_14 : decode cX3_firstOpening 14 = .ok (.istore 5, 2) := by decide +kernel
theorem dX3_firstOpening_16 : decode cX3_firstOpening 16 = .ok (.iconst 0, 1) := by decide +kernel
theorem dX3_firstOpening_17 : decode cX3_firstOpening 17 = .ok (.istore 6, 2) := by decide +kernel
theorem dX3_firstOpening_19 : decode cX3_firstOpening 19 = .ok (.iload 6, 2) := by decide +kernel
theorem dX3_firstOpening_21 : decode cX3_firstOpening 21 = .ok (.bipush 24, 2) := by decide +kernel
theorem dX3_firstOpening_23 : decode cX3_firstOpening 23 = .ok (.if_icmp .ge 38, 3) := by decide +kernel
theorem dX3_firstOpening_26 : decode cX3_firstOpening 26 = .ok (.aload_n 0, 1) := by decide +kernel
theorem dX3_firstOpening_27 : decode cX3_firstOpening 27 = .ok (.getfield 12, 3) := by decide +kernel
theorem dX3_firstOpening_30 : decode cX3_firstOpening 30 = .ok (.iload_n 2, 1) := by decide +kernel
theorem dX3_firstOpening_31 : decode cX3_firstOpening 31 = .ok (.iconst 4, 1) := by decide +kernel
theorem dX3_firstOpening_32 : decode cX3_firstOpening 32 = .ok (.iload 6, 2) := by decide +kernel
theorem dX3_firstOpening_34 : decode cX3_firstOpening 34 = .ok (.invokevirtual 87, 3) := by decide +kernel
theorem dX3_firstOpening_37 : decode cX3_firstOpening 37 = .ok (.aload_n 0, 1) := by decide +kernel
theorem dX3_firstOpening_38 : decode cX3_firstOpening 38 = .ok (.getfield 12, 3) := by decide +kernel
theorem dX3_firstOpening_41 : decode cX3_firstOpening 41 = .ok (.iload 5, 2) := by decide +kernel
theorem dX3_firstOpening_43 : decode cX3_firstOpening 43 = .ok (.iload_n 3, 1) := by decide +kernel
theorem dX3_firstOpening_44 : decode cX3_firstOpening 44 = .ok (.invokevirtual 94, 3) := by decide +kernel
theorem dX3_firstOpening_47 : decode cX3_firstOpening 47 = .ok (.iload 4, 2) := by decide +kernel
theorem dX3_firstOpening_49 : decode cX3_firstOpening 49 = .ok (.if_icmp .ne 6, 3) := by decide +kernel
theorem dX3_firstOpening_52 : decode cX3_firstOpening 52 = .ok (.iload 6, 2) := by decide +kernel
theorem dX3_firstOpening_54 : decode cX3_firstOpening 54 = .ok (.ireturn, 1) := by decide +kernel
theorem dX3_firstOpening_55 : decode cX3_firstOpening 55 = .ok (.iinc 6 1, 3) := by decide +kernel
theorem dX3_firstOpening_58 : decode cX3_firstOpening 58 = .ok (.goto (-39), 3) := by decide +kernel
theorem dX3_firstOpening_61 : decode cX3_firstOpening 61 = .ok (.bipush (-4), 2) := by decide +kernel
theorem dX3_firstOpening_63 : decode cX3_firstOpening 63 = .ok (.ireturn, 1) := by decide +kernel
set_option maxRecDepth 20000 in
theorem ggX3_fewestYawns_X5_copyFrom : GoodIn wsX3_fewestYawns wsX5_copyFrom := goodIn_r _ [8, 9, 10, 11, 12, 13, 14, 15, 16, 81, 82, 83, 84] (by decide +kernel) (by decide +kernel)
set_option maxRecDepth 20000 in
theorem gX3_fewestYawns_X5_copyFrom : GoodIn wsX3_fewestYawns (wsV RX3 32 RX5 yX5_copyFrom wsX5_copyFrom) := goodIn_app (goodIn_of _ (by decide +kernel)) ggX3_fewestYawns_X5_copyFrom
set_option maxRecDepth 20000 in
theorem ggX3_fewestYawns_X1_seekBelow : GoodIn wsX3_fewestYawns wsX1_seekBelow := goodIn_r _ [21, 22, 23, 85, 86] (by decide +kernel) (by decide +kernel)
set_option maxRecDepth 20000 in
theorem gX3_fewestYawns_X1_seekBelow : GoodIn wsX3_fewestYawns (wsV RX3 47 RX1 yX1_seekBelow wsX1_seekBelow) := goodIn_app (goodIn_of _ (by decide +kernel)) ggX3_fewestYawns_X1_seekBelow
set_option maxRecDepth 20000 in
theorem ggX3_fewestYawns_X5_least : GoodIn wsX3_fewestYawns wsX5_least := goodIn_r _ [26, 27, 28, 29, 7, 30, 31, 32, 33] (by decide +kernel) (by decide +kernel)
set_option maxRecDepth 20000 in
theorem gX3_fewestYawns_X5_least : GoodIn wsX3_fewestYawns (va_wsS RX3 97 yX5_least wsX5_least) := goodIn_app (goodIn_of _ (by decide +kernel)) ggX3_fewestYawns_X5_least
set_option maxRecDepth 20000 in
theorem ggX3_fewestYawns_X5_most : GoodIn wsX3_fewestYawns wsX5_most := goodIn_r _ [36, 37, 28, 29, 7, 30, 31, 32, 33] (by decide +kernel) (by decide +kernel)
set_option maxRecDepth 20000 in
theorem gX3_fewestYawns_X5_most : GoodIn wsX3_fewestYawns (va_wsS RX3 99 yX5_most wsX5_most) := goodIn_app (goodIn_of _ (by decide +kernel)) ggX3_fewestYawns_X5_most
set_option maxRecDepth 20000 in
theorem ggX3_fewestYawns_X5_setFact : GoodIn wsX3_fewestYawns wsX5_setFact := goodIn_r _ [41, 15, 9, 81, 82, 83, 84] (by decide +kernel) (by decide +kernel)
set_option maxRecDepth 20000 in
theorem gX3_fewestYawns_X5_setFact : GoodIn wsX3_fewestYawns (wsV RX3 87 RX5 yX5_setFact wsX5_setFact) := goodIn_app (goodIn_of _ (by decide +kernel)) ggX3_fewestYawns_X5_setFact
set_option maxRecDepth 20000 in
theorem ggX3_fewestYawns_X5_yawnsOfAll : GoodIn wsX3_fewestYawns wsX5_yawnsOfAll := goodIn_r _ [45, 15, 46, 47, 48, 7, 49, 50, 51, 52, 53, 54, 55, 56, 57, 58, 59, 60, 9, 61, 62, 63, 64, 65, 66, 67, 68, 16, 14, 69, 70, 71, 72, 81, 82, 83, 84] (by decide +kernel) (by decide +kernel)
set_option maxRecDepth 20000 in
theorem gX3_fewestYawns_X5_yawnsOfAll : GoodIn wsX3_fewestYawns (wsV RX3 102 RX5 yX5_yawnsOfAll wsX5_yawnsOfAll) := goodIn_app (goodIn_of _ (by decide +kernel)) ggX3_fewestYawns_X5_yawnsOfAll
set_option maxRecDepth 20000 in
theorem ggX3_fewestYawns_X1_offer : GoodIn wsX3_fewestYawns wsX1_offer := goodIn_r _ [76, 23, 22, 85, 86] (by decide +kernel) (by decide +kernel)
set_option maxRecDepth 20000 in
theorem gX3_fewestYawns_X1_offer : GoodIn wsX3_fewestYawns (wsV RX3 54 RX1 yX1_offer wsX1_offer) := goodIn_app (goodIn_of _ (by decide +kernel)) ggX3_fewestYawns_X1_offer
theorem dX3_fewestYawns_0 : decode cX3_fewestYawns 0 = .ok (.aload_n 0, 1) := by decide +kernel
theorem dX3_fewestYawns_1 : decode cX3_fewestYawns 1 = .ok (.getfield 12, 3) := by decide +kernel
theorem dX3_fewestYawns_4 : decode cX3_fewestYawns 4 = .ok (.aload_n 1, 1) := by decide +kernel
theorem dX3_fewestYawns_5 : decode cX3_fewestYawns 5 = .ok (.invokevirtual 32, 3) := by decide +kernel
theorem dX3_fewestYawns_8 : decode cX3_fewestYawns 8 = .ok (.aload_n 0, 1) := by decide +kernel
theorem dX3_fewestYawns_9 : decode cX3_fewestYawns 9 = .ok (.getfield 21, 3) := by decide +kernel
theorem dX3_fewestYawns_12 : decode cX3_fewestYawns 12 = .ok (.ldc 46, 2) := by decide +kernel
theorem dX3_fewestYawns_14 : decode cX3_fewestYawns 14 = .ok (.invokevirtual 47, 3) := by decide +kernel
theorem dX3_fewestYawns_17 : decode cX3_fewestYawns 17 = .ok (.iload_n 3, 1) := by decide +kernel
theorem dX3_fewestYawns_18 : decode cX3_fewestYawns 18 = .ok (.invokestatic 97, 3) := by decide +kernel
theorem dX3_fewestYawns_21 : decode cX3_fewestYawns 21 = .ok (.istore 4, 2) := by decide +kernel
theorem dX3_fewestYawns_23 : decode cX3_fewestYawns 23 = .ok (.iload 4, 2) := by decide +kernel
theorem dX3_fewestYawns_25 : decode cX3_fewestYawns 25 = .ok (.iload_n 3, 1) := by decide +kernel
theorem dX3_fewestYawns_26 : decode cX3_fewestYawns 26 = .ok (.invokestatic 99, 3) := by decide +kernel
theorem dX3_fewestYawns_29 : decode cX3_fewestYawns 29 = .ok (.if_icmp .gt 37, 3) := by decide +kernel
theorem dX3_fewestYawns_32 : decode cX3_fewestYawns 32 = .ok (.aload_n 0, 1) := by decide +kernel
theorem dX3_fewestYawns_33 : decode cX3_fewestYawns 33 = .ok (.getfield 12, 3) := by decide +kernel
theorem dX3_fewestYawns_36 : decode cX3_fewestYawns 36 = .ok (.iload_n 2, 1) := by decide +kernel
theorem dX3_fewestYawns_37 : decode cX3_fewestYawns 37 = .ok (.iload_n 3, 1) := by decide +kernel
theorem dX3_fewestYawns_38 : decode cX3_fewestYawns 38 = .ok (.iload 4, 2) := by decide +kernel
theorem dX3_fewestYawns_40 : decode cX3_fewestYawns 40 = .ok (.invokevirtual 87, 3) := by decide +kernel
theorem dX3_fewestYawns_43 : decode cX3_fewestYawns 43 = .ok (.aload_n 0, 1) := by decide +kernel
theorem dX3_fewestYawns_44 : decode cX3_fewestYawns 44 = .ok (.getfield 21, 3) := by decide +kernel
theorem dX3_fewestYawns_47 : decode cX3_fewestYawns 47 = .ok (.iload 4, 2) := by decide +kernel
theorem dX3_fewestYawns_49 : decode cX3_fewestYawns 49 = .ok (.aload_n 0, 1) := by decide +kernel
theorem dX3_fewestYawns_50 : decode cX3_fewestYawns 50 = .ok (.getfield 12, 3) := by decide +kernel
theorem dX3_fewestYawns_53 : decode cX3_fewestYawns 53 = .ok (.invokevirtual 102, 3) := by decide +kernel
theorem dX3_fewestYawns_56 : decode cX3_fewestYawns 56 = .ok (.invokevirtual 54, 3) := by decide +kernel
theorem dX3_fewestYawns_59 : decode cX3_fewestYawns 59 = .ok (.pop, 1) := by decide +kernel
theorem dX3_fewestYawns_60 : decode cX3_fewestYawns 60 = .ok (.iinc 4 1, 3) := by decide +kernel
theorem dX3_fewestYawns_63 : decode cX3_fewestYawns 63 = .ok (.goto (-40), 3) := by decide +kernel
theorem dX3_fewestYawns_66 : decode cX3_fewestYawns 66 = .ok (.return_, 1) := by decide +kernel
set_option maxRecDepth 20000 in
theorem ggX3_startsAsSeen_X5_copyFrom : GoodIn wsX3_startsAsSeen wsX5_copyFrom := goodIn_r _ [6, 7, 8, 9, 10, 11, 12, 13, 14, 60, 61, 62, 63] (by decide +kernel) (by decide +kernel)
set_option maxRecDepth 20000 in
theorem gX3_startsAsSeen_X5_copyFrom : GoodIn wsX3_startsAsSeen (wsV RX3 32 RX5 yX5_copyFrom wsX5_copyFrom) := goodIn_app (goodIn_of _ (by decide +kernel)) ggX3_startsAsSeen_X5_copyFrom
set_option maxRecDepth 20000 in
theorem ggX3_startsAsSeen_X5_setStart : GoodIn wsX3_startsAsSeen wsX5_setStart := goodIn_r _ [18, 14, 60, 61, 62, 63] (by decide +kernel) (by decide +kernel)
set_option maxRecDepth 20000 in
theorem gX3_startsAsSeen_X5_setStart : GoodIn wsX3_startsAsSeen (wsV RX3 76 RX5 yX5_setStart wsX5_setStart) := goodIn_app (goodIn_of _ (by decide +kernel)) ggX3_startsAsSeen_X5_setStart
set_option maxRecDepth 20000 in
theorem ggX3_startsAsSeen_X6_agreeWith : GoodIn wsX3_startsAsSeen wsX6_agreeWith := goodIn_r _ [23, 24, 25, 26, 27, 28, 29, 30, 5, 31, 32, 33, 34, 35, 13, 36, 37, 38, 39, 7, 40, 41, 42, 43, 44, 45, 46, 47, 48, 49, 50, 51, 14, 12, 52, 53, 54, 55, 64, 65, 66, 67, 60, 61, 62, 63] (by decide +kernel) (by decide +kernel)
set_option maxRecDepth 20000 in
theorem gX3_startsAsSeen_X6_agreeWith : GoodIn wsX3_startsAsSeen (wsV RX3 105 RX6 yX6_agreeWith wsX6_agreeWith) := goodIn_app (goodIn_of _ (by decide +kernel)) ggX3_startsAsSeen_X6_agreeWith
theorem dX3_startsAsSeen_0 : decode cX3_startsAsSeen 0 = .ok (.aload_n 0, 1) := by decide +kernel
theorem dX3_startsAsSeen_1 : decode cX3_startsAsSeen 1 = .ok (.getfield 12, 3) := by decide +kernel
theorem dX3_startsAsSeen_4 : decode cX3_startsAsSeen 4 = .ok (.aload_n 1, 1) := by decide +kernel
theorem dX3_startsAsSeen_5 : decode cX3_startsAsSeen 5 = .ok (.invokevirtual 32, 3) := by decide +kernel
theorem dX3_startsAsSeen_8 : decode cX3_startsAsSeen 8 = .ok (.iconst 0, 1) := by decide +kernel
theorem dX3_startsAsSeen_9 : decode cX3_startsAsSeen 9 = .ok (.istore_n 3, 1) := by decide +kernel
theorem dX3_startsAsSeen_10 : decode cX3_startsAsSeen 10 = .ok (.iconst 0, 1) := by decide +kernel
theorem dX3_startsAsSeen_11 : decode cX3_startsAsSeen 11 = .ok (.istore 4, 2) := by decide +kernel
theorem dX3_startsAsSeen_13 : decode cX3_startsAsSeen 13 = .ok (.iload 4, 2) := by decide +kernel
theorem dX3_startsAsSeen_15 : decode cX3_startsAsSeen 15 = .ok (.bipush 24, 2) := by decide +kernel
theorem dX3_startsAsSeen_17 : decode cX3_startsAsSeen 17 = .ok (.if_icmp .ge 36, 3) := by decide +kernel
theorem dX3_startsAsSeen_20 : decode cX3_startsAsSeen 20 = .ok (.aload_n 0, 1) := by decide +kernel
theorem dX3_startsAsSeen_21 : decode cX3_startsAsSeen 21 = .ok (.getfield 12, 3) := by decide +kernel
theorem dX3_startsAsSeen_24 : decode cX3_startsAsSeen 24 = .ok (.iload 4, 2) := by decide +kernel
theorem dX3_startsAsSeen_26 : decode cX3_startsAsSeen 26 = .ok (.invokevirtual 76, 3) := by decide +kernel
theorem dX3_startsAsSeen_29 : decode cX3_startsAsSeen 29 = .ok (.aload_n 2, 1) := by decide +kernel
theorem dX3_startsAsSeen_30 : decode cX3_startsAsSeen 30 = .ok (.aload_n 0, 1) := by decide +kernel
theorem dX3_startsAsSeen_31 : decode cX3_startsAsSeen 31 = .ok (.getfield 12, 3) := by decide +kernel
theorem dX3_startsAsSeen_34 : decode cX3_startsAsSeen 34 = .ok (.invokevirtual 105, 3) := by decide +kernel
theorem dX3_startsAsSeen_37 : decode cX3_startsAsSeen 37 = .ok (.ifCond .eq 10, 3) := by decide +kernel
theorem dX3_startsAsSeen_40 : decode cX3_startsAsSeen 40 = .ok (.iload_n 3, 1) := by decide +kernel
theorem dX3_startsAsSeen_41 : decode cX3_startsAsSeen 41 = .ok (.iconst 1, 1) := by decide +kernel
theorem dX3_startsAsSeen_42 : decode cX3_startsAsSeen 42 = .ok (.iload 4, 2) := by decide +kernel
theorem dX3_startsAsSeen_44 : decode cX3_startsAsSeen 44 = .ok (.ishl, 1) := by decide +kernel
theorem dX3_startsAsSeen_45 : decode cX3_startsAsSeen 45 = .ok (.ior, 1) := by decide +kernel
theorem dX3_startsAsSeen_46 : decode cX3_startsAsSeen 46 = .ok (.istore_n 3, 1) := by decide +kernel
theorem dX3_startsAsSeen_47 : decode cX3_startsAsSeen 47 = .ok (.iinc 4 1, 3) := by decide +kernel
theorem dX3_startsAsSeen_50 : decode cX3_startsAsSeen 50 = .ok (.goto (-37), 3) := by decide +kernel
theorem dX3_startsAsSeen_53 : decode cX3_startsAsSeen 53 = .ok (.iload_n 3, 1) := by decide +kernel
theorem dX3_startsAsSeen_54 : decode cX3_startsAsSeen 54 = .ok (.ireturn, 1) := by decide +kernel
set_option maxRecDepth 20000 in
theorem ggX3_factsAsSeen_X5_copyFrom : GoodIn wsX3_factsAsSeen wsX5_copyFrom := goodIn_r _ [6, 7, 8, 9, 10, 11, 12, 13, 14, 74, 75, 76, 77] (by decide +kernel) (by decide +kernel)
set_option maxRecDepth 20000 in
theorem gX3_factsAsSeen_X5_copyFrom : GoodIn wsX3_factsAsSeen (wsV RX3 32 RX5 yX5_copyFrom wsX5_copyFrom) := goodIn_app (goodIn_of _ (by decide +kernel)) ggX3_factsAsSeen_X5_copyFrom
set_option maxRecDepth 20000 in
theorem ggX3_factsAsSeen_X5_least : GoodIn wsX3_factsAsSeen wsX5_least := goodIn_r _ [17, 18, 19, 20, 5, 21, 22, 23, 24] (by decide +kernel) (by decide +kernel)
set_option maxRecDepth 20000 in
theorem gX3_factsAsSeen_X5_least : GoodIn wsX3_factsAsSeen (va_wsS RX3 97 yX5_least wsX5_least) := goodIn_app (goodIn_of _ (by decide +kernel)) ggX3_factsAsSeen_X5_least
set_option maxRecDepth 20000 in
theorem ggX3_factsAsSeen_X5_most : GoodIn wsX3_factsAsSeen wsX5_most := goodIn_r _ [27, 28, 19, 20, 5, 21, 22, 23, 24] (by decide +kernel) (by decide +kernel)
set_option maxRecDepth 20000 in
theorem gX3_factsAsSeen_X5_most : GoodIn wsX3_factsAsSeen (va_wsS RX3 99 yX5_most wsX5_most) := goodIn_app (goodIn_of _ (by decide +kernel)) ggX3_factsAsSeen_X5_most
set_option maxRecDepth 20000 in
theorem ggX3_factsAsSeen_X5_setFact : GoodIn wsX3_factsAsSeen wsX5_setFact := goodIn_r _ [32, 13, 7, 74, 75, 76, 77] (by decide +kernel) (by decide +kernel)
set_option maxRecDepth 20000 in
theorem gX3_factsAsSeen_X5_setFact : GoodIn wsX3_factsAsSeen (wsV RX3 87 RX5 yX5_setFact wsX5_setFact) := goodIn_app (goodIn_of _ (by decide +kernel)) ggX3_factsAsSeen_X5_setFact
set_option maxRecDepth 20000 in
theorem ggX3_factsAsSeen_X6_agreeWith : GoodIn wsX3_factsAsSeen wsX6_agreeWith := goodIn_r _ [37, 38, 39, 40, 41, 42, 43, 44, 5, 45, 46, 47, 48, 49, 13, 50, 51, 52, 53, 7, 54, 55, 56, 57, 58, 59, 60, 61, 62, 63, 64, 65, 14, 12, 66, 67, 68, 69, 78, 79, 80, 81, 74, 75, 76, 77] (by decide +kernel) (by decide +kernel)
set_option maxRecDepth 20000 in
theorem gX3_factsAsSeen_X6_agreeWith : GoodIn wsX3_factsAsSeen (wsV RX3 105 RX6 yX6_agreeWith wsX6_agreeWith) := goodIn_app (goodIn_of _ (by decide +kernel)) ggX3_factsAsSeen_X6_agreeWith
theorem dX3_factsAsSeen_0 : decode cX3_factsAsSeen 0 = .ok (.aload_n 0, 1) := by decide +kernel
theorem dX3_factsAsSeen_1 : decode cX3_factsAsSeen 1 = .ok (.getfield 12, 3) := by decide +kernel
theorem dX3_factsAsSeen_4 : decode cX3_factsAsSeen 4 = .ok (.aload_n 1, 1) := by decide +kernel
theorem dX3_factsAsSeen_5 : decode cX3_factsAsSeen 5 = .ok (.invokevirtual 32, 3) := by decide +kernel
theorem dX3_factsAsSeen_8 : decode cX3_factsAsSeen 8 = .ok (.iconst 0, 1) := by decide +kernel
theorem dX3_factsAsSeen_9 : decode cX3_factsAsSeen 9 = .ok (.istore 5, 2) := by decide +kernel
theorem dX3_factsAsSeen_11 : decode cX3_factsAsSeen 11 = .ok (.iload 4, 2) := by decide +kernel
theorem dX3_factsAsSeen_13 : decode cX3_factsAsSeen 13 = .ok (.invokestatic 97, 3) := by decide +kernel
theorem dX3_factsAsSeen_16 : decode cX3_factsAsSeen 16 = .ok (.istore 6, 2) := by decide +kernel
theorem dX3_factsAsSeen_18 : decode cX3_factsAsSeen 18 = .ok (.iload 6, 2) := by decide +kernel
theorem dX3_factsAsSeen_20 : decode cX3_factsAsSeen 20 = .ok (.iload 4, 2) := by decide +kernel
theorem dX3_factsAsSeen_22 : decode cX3_factsAsSeen 22 = .ok (.invokestatic 99, 3) := by decide +kernel
theorem dX3_factsAsSeen_25 : decode cX3_factsAsSeen 25 = .ok (.if_icmp .gt 41, 3) := by decide +kernel
theorem dX3_factsAsSeen_28 : decode cX3_factsAsSeen 28 = .ok (.aload_n 0, 1) := by decide +kernel
theorem dX3_factsAsSeen_29 : decode cX3_factsAsSeen 29 = .ok (.getfield 12, 3) := by decide +kernel
theorem dX3_factsAsSeen_32 : decode cX3_factsAsSeen 32 = .ok (.iload_n 3, 1) := by decide +kernel
theorem dX3_factsAsSeen_33 : decode cX3_factsAsSeen 33 = .ok (.iload 4, 2) := by decide +kernel
theorem dX3_factsAsSeen_35 : decode cX3_factsAsSeen 35 = .ok (.iload 6, 2) := by decide +kernel
theorem dX3_factsAsSeen_37 : decode cX3_factsAsSeen 37 = .ok (.invokevirtual 87, 3) := by decide +kernel
theorem dX3_factsAsSeen_40 : decode cX3_factsAsSeen 40 = .ok (.aload_n 2, 1) := by decide +kernel
theorem dX3_factsAsSeen_41 : decode cX3_factsAsSeen 41 = .ok (.aload_n 0, 1) := by decide +kernel
theorem dX3_factsAsSeen_42 : decode cX3_factsAsSeen 42 = .ok (.getfield 12, 3) := by decide +kernel
theorem dX3_factsAsSeen_45 : decode cX3_factsAsSeen 45 = .ok (.invokevirtual 105, 3) := by decide +kernel
theorem dX3_factsAsSeen_48 : decode cX3_factsAsSeen 48 = .ok (.ifCond .eq 12, 3) := by decide +kernel
theorem dX3_factsAsSeen_51 : decode cX3_factsAsSeen 51 = .ok (.iload 5, 2) := by decide +kernel
theorem dX3_factsAsSeen_53 : decode cX3_factsAsSeen 53 = .ok (.iconst 1, 1) := by decide +kernel
theorem dX3_factsAsSeen_54 : decode cX3_factsAsSeen 54 = .ok (.iload 6, 2) := by decide +kernel
theorem dX3_factsAsSeen_56 : decode cX3_factsAsSeen 56 = .ok (.ishl, 1) := by decide +kernel
theorem dX3_factsAsSeen_57 : decode cX3_factsAsSeen 57 = .ok (.ior, 1) := by decide +kernel
theorem dX3_factsAsSeen_58 : decode cX3_factsAsSeen 58 = .ok (.istore 5, 2) := by decide +kernel
theorem dX3_factsAsSeen_60 : decode cX3_factsAsSeen 60 = .ok (.iinc 6 1, 3) := by decide +kernel
theorem dX3_factsAsSeen_63 : decode cX3_factsAsSeen 63 = .ok (.goto (-45), 3) := by decide +kernel
theorem dX3_factsAsSeen_66 : decode cX3_factsAsSeen 66 = .ok (.iload 5, 2) := by decide +kernel
theorem dX3_factsAsSeen_68 : decode cX3_factsAsSeen 68 = .ok (.ireturn, 1) := by decide +kernel
set_option maxRecDepth 20000 in
theorem ggX3_bestLook_X5_copyFrom : GoodIn wsX3_bestLook wsX5_copyFrom := goodIn_r _ [7, 8, 9, 10, 11, 12, 13, 14, 15, 86, 87, 88, 89] (by decide +kernel) (by decide +kernel)
set_option maxRecDepth 20000 in
theorem gX3_bestLook_X5_copyFrom : GoodIn wsX3_bestLook (wsV RX3 32 RX5 yX5_copyFrom wsX5_copyFrom) := goodIn_app (goodIn_of _ (by decide +kernel)) ggX3_bestLook_X5_copyFrom
set_option maxRecDepth 20000 in
theorem ggX3_bestLook_J6_bitCount_0f7a4 : GoodIn wsX3_bestLook wsJ6_bitCount_0f7a4 := goodIn_r _ [19, 20, 21, 22] (by decide +kernel) (by decide +kernel)
set_option maxRecDepth 20000 in
theorem gX3_bestLook_J6_bitCount_0f7a4 : GoodIn wsX3_bestLook (va_wsS RX3 111 yJ6_bitCount_0f7a4 wsJ6_bitCount_0f7a4) := goodIn_app (goodIn_of _ (by decide +kernel)) ggX3_bestLook_J6_bitCount_0f7a4
set_option maxRecDepth 20000 in
theorem ggX3_bestLook_X1_seekBelow : GoodIn wsX3_bestLook wsX1_seekBelow := goodIn_r _ [27, 28, 29, 90, 91] (by decide +kernel) (by decide +kernel)
set_option maxRecDepth 20000 in
theorem gX3_bestLook_X1_seekBelow : GoodIn wsX3_bestLook (wsV RX3 47 RX1 yX1_seekBelow wsX1_seekBelow) := goodIn_app (goodIn_of _ (by decide +kernel)) ggX3_bestLook_X1_seekBelow
set_option maxRecDepth 20000 in
theorem ggX3_bestLook_X1_mayBecomeLess : GoodIn wsX3_bestLook wsX1_mayBecomeLess := goodIn_r _ [33, 29, 90, 91] (by decide +kernel) (by decide +kernel)
set_option maxRecDepth 20000 in
theorem gX3_bestLook_X1_mayBecomeLess : GoodIn wsX3_bestLook (wsV RX3 116 RX1 yX1_mayBecomeLess wsX1_mayBecomeLess) := goodIn_app (goodIn_of _ (by decide +kernel)) ggX3_bestLook_X1_mayBecomeLess
set_option maxRecDepth 20000 in
theorem ggX3_bestLook_X3_mostLeft : GoodIn wsX3_bestLook wsX3_mostLeft := goodIn_r _ [38, 1, 39, 40, 41, 42, 43, 44, 45, 46, 6, 47, 14, 48, 49, 50, 51, 8, 52, 53, 54, 55, 16, 17, 18, 19, 20, 21, 22, 56, 57, 58, 59, 15, 60, 61, 62, 63, 64, 65, 66, 67, 13, 68, 69, 70, 71, 72, 73, 74, 75, 76, 77, 82, 83, 84, 85, 86, 87, 88, 89] (by decide +kernel) (by decide +kernel)
set_option maxRecDepth 20000 in
theorem gX3_bestLook_X3_mostLeft : GoodIn wsX3_bestLook (wsV RX3 120 RX3 yX3_mostLeft wsX3_mostLeft) := goodIn_app (goodIn_of _ (by decide +kernel)) ggX3_bestLook_X3_mostLeft
set_option maxRecDepth 20000 in
theorem ggX3_bestLook_X1_offer : GoodIn wsX3_bestLook wsX1_offer := goodIn_r _ [81, 29, 28, 90, 91] (by decide +kernel) (by decide +kernel)
set_option maxRecDepth 20000 in
theorem gX3_bestLook_X1_offer : GoodIn wsX3_bestLook (wsV RX3 54 RX1 yX1_offer wsX1_offer) := goodIn_app (goodIn_of _ (by decide +kernel)) ggX3_bestLook_X1_offer
theorem dX3_bestLook_0 : decode cX3_bestLook 0 = .ok (.aload_n 0, 1) := by decide +kernel
theorem dX3_bestLook_1 : decode cX3_bestLook 1 = .ok (.getfield 12, 3) := by decide +kernel
theorem dX3_bestLook_4 : decode cX3_bestLook 4 = .ok (.aload_n 1, 1) := by decide +kernel
theorem dX3_bestLook_5 : decode cX3_bestLook 5 = .ok (.invokevirtual 32, 3) := by decide +kernel
theorem dX3_bestLook_8 : decode cX3_bestLook 8 = .ok (.aload_n 0, 1) := by decide +kernel
theorem dX3_bestLook_9 : decode cX3_bestLook 9 = .ok (.getfield 21, 3) := by decide +kernel
theorem dX3_bestLook_12 : decode cX3_bestLook 12 = .ok (.iload_n 2, 1) := by decide +kernel
theorem dX3_bestLook_13 : decode cX3_bestLook 13 = .ok (.invokestatic 111, 3) := by decide +kernel
theorem dX3_bestLook_16 : decode cX3_bestLook 16 = .ok (.invokevirtual 47, 3) := by decide +kernel
theorem dX3_bestLook_19 : decode cX3_bestLook 19 = .ok (.iconst 0, 1) := by decide +kernel
theorem dX3_bestLook_20 : decode cX3_bestLook 20 = .ok (.istore_n 3, 1) := by decide +kernel
theorem dX3_bestLook_21 : decode cX3_bestLook 21 = .ok (.iload_n 3, 1) := by decide +kernel
theorem dX3_bestLook_22 : decode cX3_bestLook 22 = .ok (.iconst 5, 1) := by decide +kernel
theorem dX3_bestLook_23 : decode cX3_bestLook 23 = .ok (.if_icmp .ge 59, 3) := by decide +kernel
theorem dX3_bestLook_26 : decode cX3_bestLook 26 = .ok (.iconst 0, 1) := by decide +kernel
theorem dX3_bestLook_27 : decode cX3_bestLook 27 = .ok (.istore 4, 2) := by decide +kernel
theorem dX3_bestLook_29 : decode cX3_bestLook 29 = .ok (.iload 4, 2) := by decide +kernel
theorem dX3_bestLook_31 : decode cX3_bestLook 31 = .ok (.bipush 24, 2) := by decide +kernel
theorem dX3_bestLook_33 : decode cX3_bestLook 33 = .ok (.if_icmp .ge 43, 3) := by decide +kernel
theorem dX3_bestLook_36 : decode cX3_bestLook 36 = .ok (.aload_n 0, 1) := by decide +kernel
theorem dX3_bestLook_37 : decode cX3_bestLook 37 = .ok (.getfield 21, 3) := by decide +kernel
theorem dX3_bestLook_40 : decode cX3_bestLook 40 = .ok (.iconst 1, 1) := by decide +kernel
theorem dX3_bestLook_41 : decode cX3_bestLook 41 = .ok (.invokevirtual 116, 3) := by decide +kernel
theorem dX3_bestLook_44 : decode cX3_bestLook 44 = .ok (.ifCond .eq 32, 3) := by decide +kernel
theorem dX3_bestLook_47 : decode cX3_bestLook 47 = .ok (.aload_n 0, 1) := by decide +kernel
theorem dX3_bestLook_48 : decode cX3_bestLook 48 = .ok (.getfield 21, 3) := by decide +kernel
theorem dX3_bestLook_51 : decode cX3_bestLook 51 = .ok (.bipush 100, 2) := by decide +kernel
theorem dX3_bestLook_53 : decode cX3_bestLook 53 = .ok (.iload_n 3, 1) := by decide +kernel
theorem dX3_bestLook_54 : decode cX3_bestLook 54 = .ok (.imul, 1) := by decide +kernel
theorem dX3_bestLook_55 : decode cX3_bestLook 55 = .ok (.iload 4, 2) := by decide +kernel
theorem dX3_bestLook_57 : decode cX3_bestLook 57 = .ok (.iadd, 1) := by decide +kernel
theorem dX3_bestLook_58 : decode cX3_bestLook 58 = .ok (.aload_n 0, 1) := by decide +kernel
theorem dX3_bestLook_59 : decode cX3_bestLook 59 = .ok (.iload_n 3, 1) := by decide +kernel
theorem dX3_bestLook_60 : decode cX3_bestLook 60 = .ok (.iload 4, 2) := by decide +kernel
theorem dX3_bestLook_62 : decode cX3_bestLook 62 = .ok (.iload_n 2, 1) := by decide +kernel
theorem dX3_bestLook_63 : decode cX3_bestLook 63 = .ok (.invokevirtual 120, 3) := by decide +kernel
theorem dX3_bestLook_66 : decode cX3_bestLook 66 = .ok (.invokevirtual 54, 3) := by decide +kernel
theorem dX3_bestLook_69 : decode cX3_bestLook 69 = .ok (.pop, 1) := by decide +kernel
theorem dX3_bestLook_70 : decode cX3_bestLook 70 = .ok (.iinc 4 1, 3) := by decide +kernel
theorem dX3_bestLook_73 : decode cX3_bestLook 73 = .ok (.goto (-44), 3) := by decide +kernel
theorem dX3_bestLook_76 : decode cX3_bestLook 76 = .ok (.iinc 3 1, 3) := by decide +kernel
theorem dX3_bestLook_79 : decode cX3_bestLook 79 = .ok (.goto (-58), 3) := by decide +kernel
theorem dX3_bestLook_82 : decode cX3_bestLook 82 = .ok (.return_, 1) := by decide +kernel
set_option maxRecDepth 20000 in
theorem ggX3_mostLeft_X5_boxAt : GoodIn wsX3_mostLeft wsX5_boxAt := goodIn_r _ [11, 12, 13, 14, 15, 10, 16, 17, 18, 19, 20, 21, 57, 58, 59, 60] (by decide +kernel) (by decide +kernel)
set_option maxRecDepth 20000 in
theorem gX3_mostLeft_X5_boxAt : GoodIn wsX3_mostLeft (wsV RX3 124 RX5 yX5_boxAt wsX5_boxAt) := goodIn_app (goodIn_of _ (by decide +kernel)) ggX3_mostLeft_X5_boxAt
set_option maxRecDepth 20000 in
theorem ggX3_mostLeft_J6_bitCount_0f7a4 : GoodIn wsX3_mostLeft wsJ6_bitCount_0f7a4 := goodIn_r _ [25, 26, 27, 28] (by decide +kernel) (by decide +kernel)
set_option maxRecDepth 20000 in
theorem gX3_mostLeft_J6_bitCount_0f7a4 : GoodIn wsX3_mostLeft (va_wsS RX3 111 yJ6_bitCount_0f7a4 wsJ6_bitCount_0f7a4) := goodIn_app (goodIn_of _ (by decide +kernel)) ggX3_mostLeft_J6_bitCount_0f7a4
set_option maxRecDepth 20000 in
theorem ggX3_mostLeft_X5_setStart : GoodIn wsX3_mostLeft wsX5_setStart := goodIn_r _ [32, 33, 57, 58, 59, 60] (by decide +kernel) (by decide +kernel)
set_option maxRecDepth 20000 in
theorem gX3_mostLeft_X5_setStart : GoodIn wsX3_mostLeft (wsV RX3 76 RX5 yX5_setStart wsX5_setStart) := goodIn_app (goodIn_of _ (by decide +kernel)) ggX3_mostLeft_X5_setStart
set_option maxRecDepth 20000 in
theorem ggX3_mostLeft_X5_oclockBy : GoodIn wsX3_mostLeft wsX5_oclockBy := goodIn_r _ [37, 38, 39, 40, 10, 41, 33, 12, 42, 13, 14, 15, 16, 17, 43, 44, 45, 46, 57, 58, 59, 60] (by decide +kernel) (by decide +kernel)
set_option maxRecDepth 20000 in
theorem gX3_mostLeft_X5_oclockBy : GoodIn wsX3_mostLeft (wsV RX3 127 RX5 yX5_oclockBy wsX5_oclockBy) := goodIn_app (goodIn_of _ (by decide +kernel)) ggX3_mostLeft_X5_oclockBy
set_option maxRecDepth 20000 in
theorem ggX3_mostLeft_X9_isHour : GoodIn wsX3_mostLeft wsX9_isHour := goodIn_r _ [49, 50, 51, 48, 52] (by decide +kernel) (by decide +kernel)
set_option maxRecDepth 20000 in
theorem gX3_mostLeft_X9_isHour_n130 : GoodIn wsX3_mostLeft (wsX9_isHour) := ggX3_mostLeft_X9_isHour
theorem dX3_mostLeft_0 : decode cX3_mostLeft 0 = .ok (.aload_n 0, 1) := by decide +kernel
theorem dX3_mostLeft_1 : decode cX3_mostLeft 1 = .ok (.getfield 12, 3) := by decide +kernel
theorem dX3_mostLeft_4 : decode cX3_mostLeft 4 = .ok (.iload_n 1, 1) := by decide +kernel
theorem dX3_mostLeft_5 : decode cX3_mostLeft 5 = .ok (.iload_n 2, 1) := by decide +kernel
theorem dX3_mostLeft_6 : decode cX3_mostLeft 6 = .ok (.invokevirtual 124, 3) := by decide +kernel
theorem dX3_mostLeft_9 : decode cX3_mostLeft 9 = .ok (.istore 4, 2) := by decide +kernel
theorem dX3_mostLeft_11 : decode cX3_mostLeft 11 = .ok (.iload 4, 2) := by decide +kernel
theorem dX3_mostLeft_13 : decode cX3_mostLeft 13 = .ok (.bipush (-4), 2) := by decide +kernel
theorem dX3_mostLeft_15 : decode cX3_mostLeft 15 = .ok (.if_icmp .ne 8, 3) := by decide +kernel
theorem dX3_mostLeft_18 : decode cX3_mostLeft 18 = .ok (.iload_n 3, 1) := by decide +kernel
theorem dX3_mostLeft_19 : decode cX3_mostLeft 19 = .ok (.invokestatic 111, 3) := by decide +kernel
theorem dX3_mostLeft_22 : decode cX3_mostLeft 22 = .ok (.ireturn, 1) := by decide +kernel
theorem dX3_mostLeft_23 : decode cX3_mostLeft 23 = .ok (.iconst 0, 1) := by decide +kernel
theorem dX3_mostLeft_24 : decode cX3_mostLeft 24 = .ok (.istore 5, 2) := by decide +kernel
theorem dX3_mostLeft_26 : decode cX3_mostLeft 26 = .ok (.iconst 0, 1) := by decide +kernel
theorem dX3_mostLeft_27 : decode cX3_mostLeft 27 = .ok (.istore 6, 2) := by decide +kernel
theorem dX3_mostLeft_29 : decode cX3_mostLeft 29 = .ok (.iload 6, 2) := by decide +kernel
theorem dX3_mostLeft_31 : decode cX3_mostLeft 31 = .ok (.bipush 24, 2) := by decide +kernel
theorem dX3_mostLeft_33 : decode cX3_mostLeft 33 = .ok (.if_icmp .ge 17, 3) := by decide +kernel
theorem dX3_mostLeft_36 : decode cX3_mostLeft 36 = .ok (.aload_n 0, 1) := by decide +kernel
theorem dX3_mostLeft_37 : decode cX3_mostLeft 37 = .ok (.getfield 29, 3) := by decide +kernel
theorem dX3_mostLeft_40 : decode cX3_mostLeft 40 = .ok (.iload 6, 2) := by decide +kernel
theorem dX3_mostLeft_42 : decode cX3_mostLeft 42 = .ok (.iconst 0, 1) := by decide +kernel
theorem dX3_mostLeft_43 : decode cX3_mostLeft 43 = .ok (.iastore, 1) := by decide +kernel
theorem dX3_mostLeft_44 : decode cX3_mostLeft 44 = .ok (.iinc 6 1, 3) := by decide +kernel
theorem dX3_mostLeft_47 : decode cX3_mostLeft 47 = .ok (.goto (-18), 3) := by decide +kernel
theorem dX3_mostLeft_50 : decode cX3_mostLeft 50 = .ok (.iconst 0, 1) := by decide +kernel
theorem dX3_mostLeft_51 : decode cX3_mostLeft 51 = .ok (.istore 6, 2) := by decide +kernel
theorem dX3_mostLeft_53 : decode cX3_mostLeft 53 = .ok (.iload 6, 2) := by decide +kernel
theorem dX3_mostLeft_55 : decode cX3_mostLeft 55 = .ok (.bipush 24, 2) := by decide +kernel
theorem dX3_mostLeft_57 : decode cX3_mostLeft 57 = .ok (.if_icmp .ge 73, 3) := by decide +kernel
theorem dX3_mostLeft_60 : decode cX3_mostLeft 60 = .ok (.iload_n 3, 1) := by decide +kernel
theorem dX3_mostLeft_61 : decode cX3_mostLeft 61 = .ok (.iload 6, 2) := by decide +kernel
theorem dX3_mostLeft_63 : decode cX3_mostLeft 63 = .ok (.ishr, 1) := by decide +kernel
theorem dX3_mostLeft_64 : decode cX3_mostLeft 64 = .ok (.iconst 1, 1) := by decide +kernel
theorem dX3_mostLeft_65 : decode cX3_mostLeft 65 = .ok (.iand, 1) := by decide +kernel
theorem dX3_mostLeft_66 : decode cX3_mostLeft 66 = .ok (.iconst 1, 1) := by decide +kernel
theorem dX3_mostLeft_67 : decode cX3_mostLeft 67 = .ok (.if_icmp .ne 57, 3) := by decide +kernel
theorem dX3_mostLeft_70 : decode cX3_mostLeft 70 = .ok (.aload_n 0, 1) := by decide +kernel
theorem dX3_mostLeft_71 : decode cX3_mostLeft 71 = .ok (.getfield 12, 3) := by decide +kernel
theorem dX3_mostLeft_74 : decode cX3_mostLeft 74 = .ok (.iload 6, 2) := by decide +kernel
theorem dX3_mostLeft_76 : decode cX3_mostLeft 76 = .ok (.invokevirtual 76, 3) := by decide +kernel
theorem dX3_mostLeft_79 : decode cX3_mostLeft 79 = .ok (.aload_n 0, 1) := by decide +kernel
theorem dX3_mostLeft_80 : decode cX3_mostLeft 80 = .ok (.getfield 12, 3) := by decide +kernel
theorem dX3_mostLeft_83 : decode cX3_mostLeft 83 = .ok (.iload 4, 2) := by decide +kernel
theorem dX3_mostLeft_85 : decode cX3_mostLeft 85 = .ok (.iload_n 2, 1) := by decide +kernel
theorem dX3_mostLeft_86 : decode cX3_mostLeft 86 = .ok (.invokevirtual 127, 3) := by decide +kernel
theorem dX3_mostLeft_89 : decode cX3_mostLeft 89 = .ok (.istore 7, 2) := by decide +kernel
theorem dX3_mostLeft_91 : decode cX3_mostLeft 91 = .ok (.iload 7, 2) := by decide +kernel
theorem dX3_mostLeft_93 : decode cX3_mostLeft 93 = .ok (.invokestatic 130, 3) := by decide +kernel
theorem dX3_mostLeft_96 : decode cX3_mostLeft 96 = .ok (.ifCond .eq 28, 3) := by decide +kernel
theorem dX3_mostLeft_99 : decode cX3_mostLeft 99 = .ok (.aload_n 0, 1) := by decide +kernel
theorem dX3_mostLeft_100 : decode cX3_mostLeft 100 = .ok (.getfield 29, 3) := by decide +kernel
theorem dX3_mostLeft_103 : decode cX3_mostLeft 103 = .ok (.iload 7, 2) := by decide +kernel
theorem dX3_mostLeft_105 : decode cX3_mostLeft 105 = .ok (.dup2, 1) := by decide +kernel
theorem dX3_mostLeft_106 : decode cX3_mostLeft 106 = .ok (.iaload, 1) := by decide +kernel
theorem dX3_mostLeft_107 : decode cX3_mostLeft 107 = .ok (.iconst 1, 1) := by decide +kernel
theorem dX3_mostLeft_108 : decode cX3_mostLeft 108 = .ok (.iadd, 1) := by decide +kernel
theorem dX3_mostLeft_109 : decode cX3_mostLeft 109 = .ok (.iastore, 1) := by decide +kernel
theorem dX3_mostLeft_110 : decode cX3_mostLeft 110 = .ok (.iload 5, 2) := by decide +kernel
theorem dX3_mostLeft_112 : decode cX3_mostLeft 112 = .ok (.aload_n 0, 1) := by decide +kernel
theorem dX3_mostLeft_113 : decode cX3_mostLeft 113 = .ok (.getfield 29, 3) := by decide +kernel
theorem dX3_mostLeft_116 : decode cX3_mostLeft 116 = .ok (.iload 7, 2) := by decide +kernel
theorem dX3_mostLeft_118 : decode cX3_mostLeft 118 = .ok (.iaload, 1) := by decide +kernel
theorem dX3_mostLeft_119 : decode cX3_mostLeft 119 = .ok (.invokestatic 133, 3) := by decide +kernel
theorem dX3_mostLeft_122 : decode cX3_mostLeft 122 = .ok (.istore 5, 2) := by decide +kernel
theorem dX3_mostLeft_124 : decode cX3_mostLeft 124 = .ok (.iinc 6 1, 3) := by decide +kernel
theorem dX3_mostLeft_127 : decode cX3_mostLeft 127 = .ok (.goto (-74), 3) := by decide +kernel
theorem dX3_mostLeft_130 : decode cX3_mostLeft 130 = .ok (.iload 5, 2) := by decide +kernel
theorem dX3_mostLeft_132 : decode cX3_mostLeft 132 = .ok (.ireturn, 1) := by decide +kernel
set_option maxRecDepth 20000 in
theorem ggX3_drifted_X5_size : GoodIn wsX3_drifted wsX5_size := goodIn_r _ [7, 8, 79, 80, 81, 82] (by decide +kernel) (by decide +kernel)
set_option maxRecDepth 20000 in
theorem gX3_drifted_X5_size : GoodIn wsX3_drifted (wsV RX3 65 RX5 yX5_size wsX5_size) := goodIn_app (goodIn_of _ (by decide +kernel)) ggX3_drifted_X5_size
set_option maxRecDepth 20000 in
theorem ggX3_drifted_X5_copyFrom : GoodIn wsX3_drifted wsX5_copyFrom := goodIn_r _ [12, 13, 14, 15, 16, 17, 18, 8, 19, 79, 80, 81, 82] (by decide +kernel) (by decide +kernel)
set_option maxRecDepth 20000 in
theorem gX3_drifted_X5_copyFrom : GoodIn wsX3_drifted (wsV RX3 32 RX5 yX5_copyFrom wsX5_copyFrom) := goodIn_app (goodIn_of _ (by decide +kernel)) ggX3_drifted_X5_copyFrom
set_option maxRecDepth 20000 in
theorem ggX3_drifted_X5_exchange : GoodIn wsX3_drifted wsX5_exchange := goodIn_r _ [23, 18, 24, 25, 26, 6, 27, 8, 79, 80, 81, 82] (by decide +kernel) (by decide +kernel)
set_option maxRecDepth 20000 in
theorem gX3_drifted_X5_exchange : GoodIn wsX3_drifted (wsV RX3 79 RX5 yX5_exchange wsX5_exchange) := goodIn_app (goodIn_of _ (by decide +kernel)) ggX3_drifted_X5_exchange
set_option maxRecDepth 20000 in
theorem ggX3_drifted_X5_setStart : GoodIn wsX3_drifted wsX5_setStart := goodIn_r _ [31, 19, 79, 80, 81, 82] (by decide +kernel) (by decide +kernel)
set_option maxRecDepth 20000 in
theorem gX3_drifted_X5_setStart : GoodIn wsX3_drifted (wsV RX3 76 RX5 yX5_setStart wsX5_setStart) := goodIn_app (goodIn_of _ (by decide +kernel)) ggX3_drifted_X5_setStart
set_option maxRecDepth 20000 in
theorem ggX3_drifted_X5_wrongOfAll : GoodIn wsX3_drifted wsX5_wrongOfAll := goodIn_r _ [35, 19, 8, 18, 36, 37, 38, 6, 39, 13, 40, 41, 42, 43, 44, 45, 46, 47, 48, 49, 50, 51, 79, 80, 81, 82] (by decide +kernel) (by decide +kernel)
set_option maxRecDepth 20000 in
theorem gX3_drifted_X5_wrongOfAll : GoodIn wsX3_drifted (wsV RX3 51 RX5 yX5_wrongOfAll wsX5_wrongOfAll) := goodIn_app (goodIn_of _ (by decide +kernel)) ggX3_drifted_X5_wrongOfAll
set_option maxRecDepth 20000 in
theorem ggX3_drifted_X5_yawnsOfAll : GoodIn wsX3_drifted wsX5_yawnsOfAll := goodIn_r _ [55, 8, 56, 57, 58, 6, 59, 44, 45, 46, 47, 60, 61, 62, 36, 37, 38, 39, 13, 63, 64, 65, 66, 67, 68, 69, 70, 19, 18, 71, 72, 73, 74, 79, 80, 81, 82] (by decide +kernel) (by decide +kernel)
set_option maxRecDepth 20000 in
theorem gX3_drifted_X5_yawnsOfAll : GoodIn wsX3_drifted (wsV RX3 102 RX5 yX5_yawnsOfAll wsX5_yawnsOfAll) := goodIn_app (goodIn_of _ (by decide +kernel)) ggX3_drifted_X5_yawnsOfAll
theorem dX3_drifted_0 : decode cX3_drifted 0 = .ok (.aload_n 1, 1) := by decide +kernel
theorem dX3_drifted_1 : decode cX3_drifted 1 = .ok (.invokevirtual 65, 3) := by decide +kernel
theorem dX3_drifted_4 : decode cX3_drifted 4 = .ok (.istore 5, 2) := by decide +kernel
theorem dX3_drifted_6 : decode cX3_drifted 6 = .ok (.iload 5, 2) := by decide +kernel
theorem dX3_drifted_8 : decode cX3_drifted 8 = .ok (.ifCond .gt 6, 3) := by decide +kernel
theorem dX3_drifted_11 : decode cX3_drifted 11 = .ok (.bipush (-2), 2) := by decide +kernel
theorem dX3_drifted_13 : decode cX3_drifted 13 = .ok (.ireturn, 1) := by decide +kernel
theorem dX3_drifted_14 : decode cX3_drifted 14 = .ok (.aload_n 0, 1) := by decide +kernel
theorem dX3_drifted_15 : decode cX3_drifted 15 = .ok (.getfield 12, 3) := by decide +kernel
theorem dX3_drifted_18 : decode cX3_drifted 18 = .ok (.aload_n 1, 1) := by decide +kernel
theorem dX3_drifted_19 : decode cX3_drifted 19 = .ok (.invokevirtual 32, 3) := by decide +kernel
theorem dX3_drifted_22 : decode cX3_drifted 22 = .ok (.iload_n 2, 1) := by decide +kernel
theorem dX3_drifted_23 : decode cX3_drifted 23 = .ok (.istore 6, 2) := by decide +kernel
theorem dX3_drifted_25 : decode cX3_drifted 25 = .ok (.iconst 0, 1) := by decide +kernel
theorem dX3_drifted_26 : decode cX3_drifted 26 = .ok (.istore 7, 2) := by decide +kernel
theorem dX3_drifted_28 : decode cX3_drifted 28 = .ok (.iconst 0, 1) := by decide +kernel
theorem dX3_drifted_29 : decode cX3_drifted 29 = .ok (.istore 8, 2) := by decide +kernel
theorem dX3_drifted_31 : decode cX3_drifted 31 = .ok (.iload 8, 2) := by decide +kernel
theorem dX3_drifted_33 : decode cX3_drifted 33 = .ok (.iload_n 3, 1) := by decide +kernel
theorem dX3_drifted_34 : decode cX3_drifted 34 = .ok (.if_icmp .ge 85, 3) := by decide +kernel
theorem dX3_drifted_37 : decode cX3_drifted 37 = .ok (.iload 8, 2) := by decide +kernel
theorem dX3_drifted_39 : decode cX3_drifted 39 = .ok (.bipush 60, 2) := by decide +kernel
theorem dX3_drifted_41 : decode cX3_drifted 41 = .ok (.if_icmp .ge 78, 3) := by decide +kernel
theorem dX3_drifted_44 : decode cX3_drifted 44 = .ok (.iload 6, 2) := by decide +kernel
theorem dX3_drifted_46 : decode cX3_drifted 46 = .ok (.ldc 138, 2) := by decide +kernel
theorem dX3_drifted_48 : decode cX3_drifted 48 = .ok (.imul, 1) := by decide +kernel
theorem dX3_drifted_49 : decode cX3_drifted 49 = .ok (.sipush 12345, 3) := by decide +kernel
theorem dX3_drifted_52 : decode cX3_drifted 52 = .ok (.iadd, 1) := by decide +kernel
theorem dX3_drifted_53 : decode cX3_drifted 53 = .ok (.istore 6, 2) := by decide +kernel
theorem dX3_drifted_55 : decode cX3_drifted 55 = .ok (.iload 6, 2) := by decide +kernel
theorem dX3_drifted_57 : decode cX3_drifted 57 = .ok (.bipush 16, 2) := by decide +kernel
theorem dX3_drifted_59 : decode cX3_drifted 59 = .ok (.ishr, 1) := by decide +kernel
theorem dX3_drifted_60 : decode cX3_drifted 60 = .ok (.sipush 32767, 3) := by decide +kernel
theorem dX3_drifted_63 : decode cX3_drifted 63 = .ok (.iand, 1) := by decide +kernel
theorem dX3_drifted_64 : decode cX3_drifted 64 = .ok (.istore 9, 2) := by decide +kernel
theorem dX3_drifted_66 : decode cX3_drifted 66 = .ok (.aload_n 0, 1) := by decide +kernel
theorem dX3_drifted_67 : decode cX3_drifted 67 = .ok (.getfield 12, 3) := by decide +kernel
theorem dX3_drifted_70 : decode cX3_drifted 70 = .ok (.iload 9, 2) := by decide +kernel
theorem dX3_drifted_72 : decode cX3_drifted 72 = .ok (.iload 5, 2) := by decide +kernel
theorem dX3_drifted_74 : decode cX3_drifted 74 = .ok (.irem, 1) := by decide +kernel
theorem dX3_drifted_75 : decode cX3_drifted 75 = .ok (.iload 9, 2) := by decide +kernel
theorem dX3_drifted_77 : decode cX3_drifted 77 = .ok (.bipush 8, 2) := by decide +kernel
theorem dX3_drifted_79 : decode cX3_drifted 79 = .ok (.idiv, 1) := by decide +kernel
theorem dX3_drifted_80 : decode cX3_drifted 80 = .ok (.iload 5, 2) := by decide +kernel
theorem dX3_drifted_82 : decode cX3_drifted 82 = .ok (.irem, 1) := by decide +kernel
theorem dX3_drifted_83 : decode cX3_drifted 83 = .ok (.invokevirtual 79, 3) := by decide +kernel
theorem dX3_drifted_86 : decode cX3_drifted 86 = .ok (.aload_n 0, 1) := by decide +kernel
theorem dX3_drifted_87 : decode cX3_drifted 87 = .ok (.getfield 12, 3) := by decide +kernel
theorem dX3_drifted_90 : decode cX3_drifted 90 = .ok (.iload 9, 2) := by decide +kernel
theorem dX3_drifted_92 : decode cX3_drifted 92 = .ok (.bipush 64, 2) := by decide +kernel
theorem dX3_drifted_94 : decode cX3_drifted 94 = .ok (.idiv, 1) := by decide +kernel
theorem dX3_drifted_95 : decode cX3_drifted 95 = .ok (.bipush 24, 2) := by decide +kernel
theorem dX3_drifted_97 : decode cX3_drifted 97 = .ok (.irem, 1) := by decide +kernel
theorem dX3_drifted_98 : decode cX3_drifted 98 = .ok (.invokevirtual 76, 3) := by decide +kernel
theorem dX3_drifted_101 : decode cX3_drifted 101 = .ok (.iload 7, 2) := by decide +kernel
theorem dX3_drifted_103 : decode cX3_drifted 103 = .ok (.aload_n 0, 1) := by decide +kernel
theorem dX3_drifted_104 : decode cX3_drifted 104 = .ok (.getfield 12, 3) := by decide +kernel
theorem dX3_drifted_107 : decode cX3_drifted 107 = .ok (.invokevirtual 51, 3) := by decide +kernel
theorem dX3_drifted_110 : decode cX3_drifted 110 = .ok (.iadd, 1) := by decide +kernel
theorem dX3_drifted_111 : decode cX3_drifted 111 = .ok (.istore 7, 2) := by decide +kernel
theorem dX3_drifted_113 : decode cX3_drifted 113 = .ok (.iinc 8 1, 3) := by decide +kernel
theorem dX3_drifted_116 : decode cX3_drifted 116 = .ok (.goto (-85), 3) := by decide +kernel
theorem dX3_drifted_119 : decode cX3_drifted 119 = .ok (.iload 4, 2) := by decide +kernel
theorem dX3_drifted_121 : decode cX3_drifted 121 = .ok (.ifCond .ne 8, 3) := by decide +kernel
theorem dX3_drifted_124 : decode cX3_drifted 124 = .ok (.iload 7, 2) := by decide +kernel
theorem dX3_drifted_126 : decode cX3_drifted 126 = .ok (.goto 10, 3) := by decide +kernel
theorem dX3_drifted_129 : decode cX3_drifted 129 = .ok (.aload_n 0, 1) := by decide +kernel
theorem dX3_drifted_130 : decode cX3_drifted 130 = .ok (.getfield 12, 3) := by decide +kernel
theorem dX3_drifted_133 : decode cX3_drifted 133 = .ok (.invokevirtual 102, 3) := by decide +kernel
theorem dX3_drifted_136 : decode cX3_drifted 136 = .ok (.ireturn, 1) := by decide +kernel
theorem dX4_init_0 : decode cX4_init 0 = .ok (.aload_n 0, 1) := by decide +kernel
theorem dX4_init_1 : decode cX4_init 1 = .ok (.invokespecial 3, 3) := by decide +kernel
theorem dX4_init_4 : decode cX4_init 4 = .ok (.aload_n 0, 1) := by decide +kernel
theorem dX4_init_5 : decode cX4_init 5 = .ok (.sipush 160, 3) := by decide +kernel
theorem dX4_init_8 : decode cX4_init 8 = .ok (.newarray .int, 2) := by decide +kernel
theorem dX4_init_10 : decode cX4_init 10 = .ok (.putfield 11, 3) := by decide +kernel
theorem dX4_init_13 : decode cX4_init 13 = .ok (.aload_n 0, 1) := by decide +kernel
theorem dX4_init_14 : decode cX4_init 14 = .ok (.iconst 4, 1) := by decide +kernel
theorem dX4_init_15 : decode cX4_init 15 = .ok (.newarray .int, 2) := by decide +kernel
theorem dX4_init_17 : decode cX4_init 17 = .ok (.putfield 15, 3) := by decide +kernel
theorem dX4_init_20 : decode cX4_init 20 = .ok (.aload_n 0, 1) := by decide +kernel
theorem dX4_init_21 : decode cX4_init 21 = .ok (.iconst 4, 1) := by decide +kernel
theorem dX4_init_22 : decode cX4_init 22 = .ok (.newarray .int, 2) := by decide +kernel
theorem dX4_init_24 : decode cX4_init 24 = .ok (.dup, 1) := by decide +kernel
theorem dX4_init_25 : decode cX4_init 25 = .ok (.iconst 0, 1) := by decide +kernel
theorem dX4_init_26 : decode cX4_init 26 = .ok (.bipush (-4), 2) := by decide +kernel
theorem dX4_init_28 : decode cX4_init 28 = .ok (.iastore, 1) := by decide +kernel
theorem dX4_init_29 : decode cX4_init 29 = .ok (.dup, 1) := by decide +kernel
theorem dX4_init_30 : decode cX4_init 30 = .ok (.iconst 1, 1) := by decide +kernel
theorem dX4_init_31 : decode cX4_init 31 = .ok (.bipush (-4), 2) := by decide +kernel
theorem dX4_init_33 : decode cX4_init 33 = .ok (.iastore, 1) := by decide +kernel
theorem dX4_init_34 : decode cX4_init 34 = .ok (.dup, 1) := by decide +kernel
theorem dX4_init_35 : decode cX4_init 35 = .ok (.iconst 2, 1) := by decide +kernel
theorem dX4_init_36 : decode cX4_init 36 = .ok (.bipush (-4), 2) := by decide +kernel
theorem dX4_init_38 : decode cX4_init 38 = .ok (.iastore, 1) := by decide +kernel
theorem dX4_init_39 : decode cX4_init 39 = .ok (.dup, 1) := by decide +kernel
theorem dX4_init_40 : decode cX4_init 40 = .ok (.iconst 3, 1) := by decide +kernel
theorem dX4_init_41 : decode cX4_init 41 = .ok (.bipush (-4), 2) := by decide +kernel
theorem dX4_init_43 : decode cX4_init 43 = .ok (.iastore, 1) := by decide +kernel
theorem dX4_init_44 : decode cX4_init 44 = .ok (.putfield 18, 3) := by decide +kernel
theorem dX4_init_47 : decode cX4_init 47 = .ok (.return_, 1) := by decide +kernel
set_option maxRecDepth 20000 in
theorem ggX4_has_X9_within : GoodIn wsX4_has wsX9_within := goodIn_r _ [3] (by decide +kernel) (by decide +kernel)
set_option maxRecDepth 20000 in
theorem gX4_has_X9_within_n21 : GoodIn wsX4_has (wsX9_within) := ggX4_has_X9_within
theorem dX4_has_0 : decode cX4_has 0 = .ok (.iload_n 0, 1) := by decide +kernel
theorem dX4_has_1 : decode cX4_has 1 = .ok (.iconst 0, 1) := by decide +kernel
theorem dX4_has_2 : decode cX4_has 2 = .ok (.iconst 3, 1) := by decide +kernel
theorem dX4_has_3 : decode cX4_has 3 = .ok (.invokestatic 21, 3) := by decide +kernel
theorem dX4_has_6 : decode cX4_has 6 = .ok (.ireturn, 1) := by decide +kernel
set_option maxRecDepth 20000 in
theorem ggX4_isLane_X9_within : GoodIn wsX4_isLane wsX9_within := goodIn_r _ [3] (by decide +kernel) (by decide +kernel)
set_option maxRecDepth 20000 in
theorem gX4_isLane_X9_within_n21 : GoodIn wsX4_isLane (wsX9_within) := ggX4_isLane_X9_within
theorem dX4_isLane_0 : decode cX4_isLane 0 = .ok (.iload_n 0, 1) := by decide +kernel
theorem dX4_isLane_1 : decode cX4_isLane 1 = .ok (.iconst 0, 1) := by decide +kernel
theorem dX4_isLane_2 : decode cX4_isLane 2 = .ok (.iconst 2, 1) := by decide +kernel
theorem dX4_isLane_3 : decode cX4_isLane 3 = .ok (.invokestatic 21, 3) := by decide +kernel
theorem dX4_isLane_6 : decode cX4_isLane 6 = .ok (.ireturn, 1) := by decide +kernel
set_option maxRecDepth 20000 in
theorem ggX4_sizeOf_X4_has : GoodIn wsX4_sizeOf wsX4_has := goodIn_r _ [5, 6, 7, 8] (by decide +kernel) (by decide +kernel)
set_option maxRecDepth 20000 in
theorem gX4_sizeOf_X4_has : GoodIn wsX4_sizeOf (va_wsS RX4 25 yX4_has wsX4_has) := goodIn_app (goodIn_of _ (by decide +kernel)) ggX4_sizeOf_X4_has
theorem dX4_sizeOf_0 : decode cX4_sizeOf 0 = .ok (.iload_n 1, 1) := by decide +kernel
theorem dX4_sizeOf_1 : decode cX4_sizeOf 1 = .ok (.invokestatic 25, 3) := by decide +kernel
theorem dX4_sizeOf_4 : decode cX4_sizeOf 4 = .ok (.ifCond .eq 12, 3) := by decide +kernel
theorem dX4_sizeOf_7 : decode cX4_sizeOf 7 = .ok (.aload_n 0, 1) := by decide +kernel
theorem dX4_sizeOf_8 : decode cX4_sizeOf 8 = .ok (.getfield 18, 3) := by decide +kernel
theorem dX4_sizeOf_11 : decode cX4_sizeOf 11 = .ok (.iload_n 1, 1) := by decide +kernel
theorem dX4_sizeOf_12 : decode cX4_sizeOf 12 = .ok (.iaload, 1) := by decide +kernel
theorem dX4_sizeOf_13 : decode cX4_sizeOf 13 = .ok (.goto 5, 3) := by decide +kernel
theorem dX4_sizeOf_16 : decode cX4_sizeOf 16 = .ok (.bipush (-4), 2) := by decide +kernel
theorem dX4_sizeOf_18 : decode cX4_sizeOf 18 = .ok (.ireturn, 1) := by decide +kernel
set_option maxRecDepth 20000 in
theorem ggX4_laneOf_X4_has : GoodIn wsX4_laneOf wsX4_has := goodIn_r _ [5, 6, 7, 8] (by decide +kernel) (by decide +kernel)
set_option maxRecDepth 20000 in
theorem gX4_laneOf_X4_has : GoodIn wsX4_laneOf (va_wsS RX4 25 yX4_has wsX4_has) := goodIn_app (goodIn_of _ (by decide +kernel)) ggX4_laneOf_X4_has
theorem dX4_laneOf_0 : decode cX4_laneOf 0 = .ok (.iload_n 1, 1) := by decide +kernel
theorem dX4_laneOf_1 : decode cX4_laneOf 1 = .ok (.invokestatic 25, 3) := by decide +kernel
theorem dX4_laneOf_4 : decode cX4_laneOf 4 = .ok (.ifCond .eq 12, 3) := by decide +kernel
theorem dX4_laneOf_7 : decode cX4_laneOf 7 = .ok (.aload_n 0, 1) := by decide +kernel
theorem dX4_laneOf_8 : decode cX4_laneOf 8 = .ok (.getfield 15, 3) := by decide +kernel
theorem dX4_laneOf_11 : decode cX4_laneOf 11 = .ok (.iload_n 1, 1) := by decide +kernel
theorem dX4_laneOf_12 : decode cX4_laneOf 12 = .ok (.iaload, 1) := by decide +kernel
theorem dX4_laneOf_13 : decode cX4_laneOf 13 = .ok (.goto 4, 3) := by decide +kernel
theorem dX4_laneOf_16 : decode cX4_laneOf 16 = .ok (.iconst 0, 1) := by decide +kernel
theorem dX4_laneOf_17 : decode cX4_laneOf 17 = .ok (.ireturn, 1) := by decide +kernel
set_option maxRecDepth 20000 in
theorem ggX4_renew_X4_has : GoodIn wsX4_renew wsX4_has := goodIn_r _ [7, 8, 9, 10] (by decide +kernel) (by decide +kernel)
set_option maxRecDepth 20000 in
theorem gX4_renew_X4_has : GoodIn wsX4_renew (va_wsS RX4 25 yX4_has wsX4_has) := goodIn_app (goodIn_of _ (by decide +kernel)) ggX4_renew_X4_has
set_option maxRecDepth 20000 in
theorem ggX4_renew_X9_within : GoodIn wsX4_renew wsX9_within := goodIn_r _ [10] (by decide +kernel) (by decide +kernel)
set_option maxRecDepth 20000 in
theorem gX4_renew_X9_within_n21 : GoodIn wsX4_renew (wsX9_within) := ggX4_renew_X9_within
theorem dX4_renew_0 : decode cX4_renew 0 = .ok (.iload_n 1, 1) := by decide +kernel
theorem dX4_renew_1 : decode cX4_renew 1 = .ok (.invokestatic 25, 3) := by decide +kernel
theorem dX4_renew_4 : decode cX4_renew 4 = .ok (.ifCond .eq 55, 3) := by decide +kernel
theorem dX4_renew_7 : decode cX4_renew 7 = .ok (.iload_n 3, 1) := by decide +kernel
theorem dX4_renew_8 : decode cX4_renew 8 = .ok (.iconst 0, 1) := by decide +kernel
theorem dX4_renew_9 : decode cX4_renew 9 = .ok (.bipush 40, 2) := by decide +kernel
theorem dX4_renew_11 : decode cX4_renew 11 = .ok (.invokestatic 21, 3) := by decide +kernel
theorem dX4_renew_14 : decode cX4_renew 14 = .ok (.ifCond .eq 45, 3) := by decide +kernel
theorem dX4_renew_17 : decode cX4_renew 17 = .ok (.iconst 0, 1) := by decide +kernel
theorem dX4_renew_18 : decode cX4_renew 18 = .ok (.istore 4, 2) := by decide +kernel
theorem dX4_renew_20 : decode cX4_renew 20 = .ok (.iload 4, 2) := by decide +kernel
theorem dX4_renew_22 : decode cX4_renew 22 = .ok (.iload_n 3, 1) := by decide +kernel
theorem dX4_renew_23 : decode cX4_renew 23 = .ok (.if_icmp .ge 22, 3) := by decide +kernel
theorem dX4_renew_26 : decode cX4_renew 26 = .ok (.aload_n 0, 1) := by decide +kernel
theorem dX4_renew_27 : decode cX4_renew 27 = .ok (.getfield 11, 3) := by decide +kernel
theorem dX4_renew_30 : decode cX4_renew 30 = .ok (.iload_n 1, 1) := by decide +kernel
theorem dX4_renew_31 : decode cX4_renew 31 = .ok (.bipush 40, 2) := by decide +kernel
theorem dX4_renew_33 : decode cX4_renew 33 = .ok (.imul, 1) := by decide +kernel
theorem dX4_renew_34 : decode cX4_renew 34 = .ok (.iload 4, 2) := by decide +kernel
theorem dX4_renew_36 : decode cX4_renew 36 = .ok (.iadd, 1) := by decide +kernel
theorem dX4_renew_37 : decode cX4_renew 37 = .ok (.iconst 0, 1) := by decide +kernel
theorem dX4_renew_38 : decode cX4_renew 38 = .ok (.iastore, 1) := by decide +kernel
theorem dX4_renew_39 : decode cX4_renew 39 = .ok (.iinc 4 1, 3) := by decide +kernel
theorem dX4_renew_42 : decode cX4_renew 42 = .ok (.goto (-22), 3) := by decide +kernel
theorem dX4_renew_45 : decode cX4_renew 45 = .ok (.aload_n 0, 1) := by decide +kernel
theorem dX4_renew_46 : decode cX4_renew 46 = .ok (.getfield 15, 3) := by decide +kernel
theorem dX4_renew_49 : decode cX4_renew 49 = .ok (.iload_n 1, 1) := by decide +kernel
theorem dX4_renew_50 : decode cX4_renew 50 = .ok (.iload_n 2, 1) := by decide +kernel
theorem dX4_renew_51 : decode cX4_renew 51 = .ok (.iastore, 1) := by decide +kernel
theorem dX4_renew_52 : decode cX4_renew 52 = .ok (.aload_n 0, 1) := by decide +kernel
theorem dX4_renew_53 : decode cX4_renew 53 = .ok (.getfield 18, 3) := by decide +kernel
theorem dX4_renew_56 : decode cX4_renew 56 = .ok (.iload_n 1, 1) := by decide +kernel
theorem dX4_renew_57 : decode cX4_renew 57 = .ok (.iload_n 3, 1) := by decide +kernel
theorem dX4_renew_58 : decode cX4_renew 58 = .ok (.iastore, 1) := by decide +kernel
theorem dX4_renew_59 : decode cX4_renew 59 = .ok (.return_, 1) := by decide +kernel
set_option maxRecDepth 20000 in
theorem ggX4_hasCell_X4_has : GoodIn wsX4_hasCell wsX4_has := goodIn_r _ [5, 6, 7, 8] (by decide +kernel) (by decide +kernel)
set_option maxRecDepth 20000 in
theorem gX4_hasCell_X4_has : GoodIn wsX4_hasCell (va_wsS RX4 25 yX4_has wsX4_has) := goodIn_app (goodIn_of _ (by decide +kernel)) ggX4_hasCell_X4_has
theorem dX4_hasCell_0 : decode cX4_hasCell 0 = .ok (.iload_n 1, 1) := by decide +kernel
theorem dX4_hasCell_1 : decode cX4_hasCell 1 = .ok (.invokestatic 25, 3) := by decide +kernel
theorem dX4_hasCell_4 : decode cX4_hasCell 4 = .ok (.ifCond .eq 21, 3) := by decide +kernel
theorem dX4_hasCell_7 : decode cX4_hasCell 7 = .ok (.iload_n 2, 1) := by decide +kernel
theorem dX4_hasCell_8 : decode cX4_hasCell 8 = .ok (.ifCond .lt 17, 3) := by decide +kernel
theorem dX4_hasCell_11 : decode cX4_hasCell 11 = .ok (.iload_n 2, 1) := by decide +kernel
theorem dX4_hasCell_12 : decode cX4_hasCell 12 = .ok (.aload_n 0, 1) := by decide +kernel
theorem dX4_hasCell_13 : decode cX4_hasCell 13 = .ok (.getfield 18, 3) := by decide +kernel
theorem dX4_hasCell_16 : decode cX4_hasCell 16 = .ok (.iload_n 1, 1) := by decide +kernel
theorem dX4_hasCell_17 : decode cX4_hasCell 17 = .ok (.iaload, 1) := by decide +kernel
theorem dX4_hasCell_18 : decode cX4_hasCell 18 = .ok (.if_icmp .ge 7, 3) := by decide +kernel
theorem dX4_hasCell_21 : decode cX4_hasCell 21 = .ok (.iconst 1, 1) := by decide +kernel
theorem dX4_hasCell_22 : decode cX4_hasCell 22 = .ok (.goto 4, 3) := by decide +kernel
theorem dX4_hasCell_25 : decode cX4_hasCell 25 = .ok (.iconst 0, 1) := by decide +kernel
theorem dX4_hasCell_26 : decode cX4_hasCell 26 = .ok (.ireturn, 1) := by decide +kernel
set_option maxRecDepth 20000 in
theorem ggX4_faultAt_X4_sizeOf : GoodIn wsX4_faultAt wsX4_sizeOf := goodIn_r _ [5, 6, 7, 8, 4, 9, 10, 11, 12, 22, 23, 24] (by decide +kernel) (by decide +kernel)
set_option maxRecDepth 20000 in
theorem gX4_faultAt_X4_sizeOf : GoodIn wsX4_faultAt (wsV RX4 29 RX4 yX4_sizeOf wsX4_sizeOf) := goodIn_app (goodIn_of _ (by decide +kernel)) ggX4_faultAt_X4_sizeOf
set_option maxRecDepth 20000 in
theorem ggX4_faultAt_X4_laneOf : GoodIn wsX4_faultAt wsX4_laneOf := goodIn_r _ [16, 17, 7, 8, 4, 9, 10, 11, 12, 22, 23, 24] (by decide +kernel) (by decide +kernel)
set_option maxRecDepth 20000 in
theorem gX4_faultAt_X4_laneOf : GoodIn wsX4_faultAt (wsV RX4 33 RX4 yX4_laneOf wsX4_laneOf) := goodIn_app (goodIn_of _ (by decide +kernel)) ggX4_faultAt_X4_laneOf
set_option maxRecDepth 20000 in
theorem ggX4_faultAt_X4_hasCell : GoodIn wsX4_faultAt wsX4_hasCell := goodIn_r _ [21, 6, 7, 8, 4, 9, 10, 11, 12, 22, 23, 24] (by decide +kernel) (by decide +kernel)
set_option maxRecDepth 20000 in
theorem gX4_faultAt_X4_hasCell : GoodIn wsX4_faultAt (wsV RX4 36 RX4 yX4_hasCell wsX4_hasCell) := goodIn_app (goodIn_of _ (by decide +kernel)) ggX4_faultAt_X4_hasCell
theorem dX4_faultAt_0 : decode cX4_faultAt 0 = .ok (.aload_n 0, 1) := by decide +kernel
theorem dX4_faultAt_1 : decode cX4_faultAt 1 = .ok (.iload_n 1, 1) := by decide +kernel
theorem dX4_faultAt_2 : decode cX4_faultAt 2 = .ok (.invokevirtual 29, 3) := by decide +kernel
theorem dX4_faultAt_5 : decode cX4_faultAt 5 = .ok (.bipush (-4), 2) := by decide +kernel
theorem dX4_faultAt_7 : decode cX4_faultAt 7 = .ok (.if_icmp .ne 5, 3) := by decide +kernel
theorem dX4_faultAt_10 : decode cX4_faultAt 10 = .ok (.iconst 1, 1) := by decide +kernel
theorem dX4_faultAt_11 : decode cX4_faultAt 11 = .ok (.ireturn, 1) := by decide +kernel
theorem dX4_faultAt_12 : decode cX4_faultAt 12 = .ok (.aload_n 0, 1) := by decide +kernel
theorem dX4_faultAt_13 : decode cX4_faultAt 13 = .ok (.iload_n 1, 1) := by decide +kernel
theorem dX4_faultAt_14 : decode cX4_faultAt 14 = .ok (.invokevirtual 33, 3) := by decide +kernel
theorem dX4_faultAt_17 : decode cX4_faultAt 17 = .ok (.iload_n 2, 1) := by decide +kernel
theorem dX4_faultAt_18 : decode cX4_faultAt 18 = .ok (.if_icmp .eq 5, 3) := by decide +kernel
theorem dX4_faultAt_21 : decode cX4_faultAt 21 = .ok (.iconst 3, 1) := by decide +kernel
theorem dX4_faultAt_22 : decode cX4_faultAt 22 = .ok (.ireturn, 1) := by decide +kernel
theorem dX4_faultAt_23 : decode cX4_faultAt 23 = .ok (.aload_n 0, 1) := by decide +kernel
theorem dX4_faultAt_24 : decode cX4_faultAt 24 = .ok (.iload_n 1, 1) := by decide +kernel
theorem dX4_faultAt_25 : decode cX4_faultAt 25 = .ok (.iload_n 3, 1) := by decide +kernel
theorem dX4_faultAt_26 : decode cX4_faultAt 26 = .ok (.invokevirtual 36, 3) := by decide +kernel
theorem dX4_faultAt_29 : decode cX4_faultAt 29 = .ok (.ifCond .eq 7, 3) := by decide +kernel
theorem dX4_faultAt_32 : decode cX4_faultAt 32 = .ok (.iconst 0, 1) := by decide +kernel
theorem dX4_faultAt_33 : decode cX4_faultAt 33 = .ok (.goto 4, 3) := by decide +kernel
theorem dX4_faultAt_36 : decode cX4_faultAt 36 = .ok (.iconst 2, 1) := by decide +kernel
theorem dX4_faultAt_37 : decode cX4_faultAt 37 = .ok (.ireturn, 1) := by decide +kernel
set_option maxRecDepth 20000 in
theorem ggX4_faultOfThree_X4_faultAt : GoodIn wsX4_faultOfThree wsX4_faultAt := goodIn_r _ [5, 6, 7, 8, 4, 9, 10, 11, 12, 13, 14, 15, 16, 17, 18, 19, 20, 21, 22, 23, 24, 25, 26, 27, 28] (by decide +kernel) (by decide +kernel)
set_option maxRecDepth 20000 in
theorem gX4_faultOfThree_X4_faultAt : GoodIn wsX4_faultOfThree (wsV RX4 40 RX4 yX4_faultAt wsX4_faultAt) := goodIn_app (goodIn_of _ (by decide +kernel)) ggX4_faultOfThree_X4_faultAt
theorem dX4_faultOfThree_0 : decode cX4_faultOfThree 0 = .ok (.iconst 0, 1) := by decide +kernel
theorem dX4_faultOfThree_1 : decode cX4_faultOfThree 1 = .ok (.istore 4, 2) := by decide +kernel
theorem dX4_faultOfThree_3 : decode cX4_faultOfThree 3 = .ok (.iconst 0, 1) := by decide +kernel
theorem dX4_faultOfThree_4 : decode cX4_faultOfThree 4 = .ok (.istore 5, 2) := by decide +kernel
theorem dX4_faultOfThree_6 : decode cX4_faultOfThree 6 = .ok (.iload 5, 2) := by decide +kernel
theorem dX4_faultOfThree_8 : decode cX4_faultOfThree 8 = .ok (.iconst 3, 1) := by decide +kernel
theorem dX4_faultOfThree_9 : decode cX4_faultOfThree 9 = .ok (.if_icmp .ge 26, 3) := by decide +kernel
theorem dX4_faultOfThree_12 : decode cX4_faultOfThree 12 = .ok (.iload 4, 2) := by decide +kernel
theorem dX4_faultOfThree_14 : decode cX4_faultOfThree 14 = .ok (.ifCond .ne 21, 3) := by decide +kernel
theorem dX4_faultOfThree_17 : decode cX4_faultOfThree 17 = .ok (.aload_n 0, 1) := by decide +kernel
theorem dX4_faultOfThree_18 : decode cX4_faultOfThree 18 = .ok (.iload_n 1, 1) := by decide +kernel
theorem dX4_faultOfThree_19 : decode cX4_faultOfThree 19 = .ok (.iload_n 2, 1) := by decide +kernel
theorem dX4_faultOfThree_20 : decode cX4_faultOfThree 20 = .ok (.iload_n 3, 1) := by decide +kernel
theorem dX4_faultOfThree_21 : decode cX4_faultOfThree 21 = .ok (.iload 5, 2) := by decide +kernel
theorem dX4_faultOfThree_23 : decode cX4_faultOfThree 23 = .ok (.iadd, 1) := by decide +kernel
theorem dX4_faultOfThree_24 : decode cX4_faultOfThree 24 = .ok (.invokevirtual 40, 3) := by decide +kernel
theorem dX4_faultOfThree_27 : decode cX4_faultOfThree 27 = .ok (.istore 4, 2) := by decide +kernel
theorem dX4_faultOfThree_29 : decode cX4_faultOfThree 29 = .ok (.iinc 5 1, 3) := by decide +kernel
theorem dX4_faultOfThree_32 : decode cX4_faultOfThree 32 = .ok (.goto (-26), 3) := by decide +kernel
theorem dX4_faultOfThree_35 : decode cX4_faultOfThree 35 = .ok (.iload 4, 2) := by decide +kernel
theorem dX4_faultOfThree_37 : decode cX4_faultOfThree 37 = .ok (.ireturn, 1) := by decide +kernel
set_option maxRecDepth 20000 in
theorem ggX4_cellAt_X4_hasCell : GoodIn wsX4_cellAt wsX4_hasCell := goodIn_r _ [6, 7, 8, 9, 5, 10, 11, 12, 13, 14, 15, 16] (by decide +kernel) (by decide +kernel)
set_option maxRecDepth 20000 in
theorem gX4_cellAt_X4_hasCell : GoodIn wsX4_cellAt (wsV RX4 36 RX4 yX4_hasCell wsX4_hasCell) := goodIn_app (goodIn_of _ (by decide +kernel)) ggX4_cellAt_X4_hasCell
theorem dX4_cellAt_0 : decode cX4_cellAt 0 = .ok (.aload_n 0, 1) := by decide +kernel
theorem dX4_cellAt_1 : decode cX4_cellAt 1 = .ok (.iload_n 1, 1) := by decide +kernel
theorem dX4_cellAt_2 : decode cX4_cellAt 2 = .ok (.iload_n 2, 1) := by decide +kernel
theorem dX4_cellAt_3 : decode cX4_cellAt 3 = .ok (.invokevirtual 36, 3) := by decide +kernel
theorem dX4_cellAt_6 : decode cX4_cellAt 6 = .ok (.ifCond .eq 17, 3) := by decide +kernel
theorem dX4_cellAt_9 : decode cX4_cellAt 9 = .ok (.aload_n 0, 1) := by decide +kernel
theorem dX4_cellAt_10 : decode cX4_cellAt 10 = .ok (.getfield 11, 3) := by decide +kernel
theorem dX4_cellAt_13 : decode cX4_cellAt 13 = .ok (.iload_n 1, 1) := by decide +kernel
theorem dX4_cellAt_14 : decode cX4_cellAt 14 = .ok (.bipush 40, 2) := by decide +kernel
theorem dX4_cellAt_16 : decode cX4_cellAt 16 = .ok (.imul, 1) := by decide +kernel
theorem dX4_cellAt_17 : decode cX4_cellAt 17 = .ok (.iload_n 2, 1) := by decide +kernel
theorem dX4_cellAt_18 : decode cX4_cellAt 18 = .ok (.iadd, 1) := by decide +kernel
theorem dX4_cellAt_19 : decode cX4_cellAt 19 = .ok (.iaload, 1) := by decide +kernel
theorem dX4_cellAt_20 : decode cX4_cellAt 20 = .ok (.goto 4, 3) := by decide +kernel
theorem dX4_cellAt_23 : decode cX4_cellAt 23 = .ok (.iconst 0, 1) := by decide +kernel
theorem dX4_cellAt_24 : decode cX4_cellAt 24 = .ok (.ireturn, 1) := by decide +kernel
set_option maxRecDepth 20000 in
theorem ggX4_put_X4_hasCell : GoodIn wsX4_put wsX4_hasCell := goodIn_r _ [7, 8, 9, 10, 6, 11, 12, 13, 14, 18, 19, 20] (by decide +kernel) (by decide +kernel)
set_option maxRecDepth 20000 in
theorem gX4_put_X4_hasCell : GoodIn wsX4_put (wsV RX4 36 RX4 yX4_hasCell wsX4_hasCell) := goodIn_app (goodIn_of _ (by decide +kernel)) ggX4_put_X4_hasCell
set_option maxRecDepth 20000 in
theorem ggX4_put_X4_narrowed : GoodIn wsX4_put wsX4_narrowed := goodIn_r _ [17] (by decide +kernel) (by decide +kernel)
set_option maxRecDepth 20000 in
theorem gX4_put_X4_narrowed : GoodIn wsX4_put (va_wsS RX4 44 yX4_narrowed wsX4_narrowed) := goodIn_app (goodIn_of _ (by decide +kernel)) ggX4_put_X4_narrowed
theorem dX4_put_0 : decode cX4_put 0 = .ok (.aload_n 0, 1) := by decide +kernel
theorem dX4_put_1 : decode cX4_put 1 = .ok (.iload_n 1, 1) := by decide +kernel
theorem dX4_put_2 : decode cX4_put 2 = .ok (.iload_n 2, 1) := by decide +kernel
theorem dX4_put_3 : decode cX4_put 3 = .ok (.invokevirtual 36, 3) := by decide +kernel
theorem dX4_put_6 : decode cX4_put 6 = .ok (.ifCond .eq 24, 3) := by decide +kernel
theorem dX4_put_9 : decode cX4_put 9 = .ok (.aload_n 0, 1) := by decide +kernel
theorem dX4_put_10 : decode cX4_put 10 = .ok (.getfield 11, 3) := by decide +kernel
theorem dX4_put_13 : decode cX4_put 13 = .ok (.iload_n 1, 1) := by decide +kernel
theorem dX4_put_14 : decode cX4_put 14 = .ok (.bipush 40, 2) := by decide +kernel
theorem dX4_put_16 : decode cX4_put 16 = .ok (.imul, 1) := by decide +kernel
theorem dX4_put_17 : decode cX4_put 17 = .ok (.iload_n 2, 1) := by decide +kernel
theorem dX4_put_18 : decode cX4_put 18 = .ok (.iadd, 1) := by decide +kernel
theorem dX4_put_19 : decode cX4_put 19 = .ok (.aload_n 0, 1) := by decide +kernel
