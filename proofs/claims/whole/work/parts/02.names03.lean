theorem dX4_put_20 : decode cX4_put 20 = .ok (.getfield 15, 3) := by decide +kernel
theorem dX4_put_23 : decode cX4_put 23 = .ok (.iload_n 1, 1) := by decide +kernel
theorem dX4_put_24 : decode cX4_put 24 = .ok (.iaload, 1) := by decide +kernel
theorem dX4_put_25 : decode cX4_put 25 = .ok (.iload_n 3, 1) := by decide +kernel
theorem dX4_put_26 : decode cX4_put 26 = .ok (.invokestatic 44, 3) := by decide +kernel
theorem dX4_put_29 : decode cX4_put 29 = .ok (.iastore, 1) := by decide +kernel
theorem dX4_put_30 : decode cX4_put 30 = .ok (.return_, 1) := by decide +kernel
theorem dX4_narrowed_0 : decode cX4_narrowed 0 = .ok (.iload_n 0, 1) := by decide +kernel
theorem dX4_narrowed_1 : decode cX4_narrowed 1 = .ok (.ifCond .ne 6, 3) := by decide +kernel
theorem dX4_narrowed_4 : decode cX4_narrowed 4 = .ok (.iload_n 1, 1) := by decide +kernel
theorem dX4_narrowed_5 : decode cX4_narrowed 5 = .ok (.i2b, 1) := by decide +kernel
theorem dX4_narrowed_6 : decode cX4_narrowed 6 = .ok (.ireturn, 1) := by decide +kernel
theorem dX4_narrowed_7 : decode cX4_narrowed 7 = .ok (.iload_n 0, 1) := by decide +kernel
theorem dX4_narrowed_8 : decode cX4_narrowed 8 = .ok (.iconst 1, 1) := by decide +kernel
theorem dX4_narrowed_9 : decode cX4_narrowed 9 = .ok (.if_icmp .ne 8, 3) := by decide +kernel
theorem dX4_narrowed_12 : decode cX4_narrowed 12 = .ok (.iload_n 1, 1) := by decide +kernel
theorem dX4_narrowed_13 : decode cX4_narrowed 13 = .ok (.i2s, 1) := by decide +kernel
theorem dX4_narrowed_14 : decode cX4_narrowed 14 = .ok (.goto 4, 3) := by decide +kernel
theorem dX4_narrowed_17 : decode cX4_narrowed 17 = .ok (.iload_n 1, 1) := by decide +kernel
theorem dX4_narrowed_18 : decode cX4_narrowed 18 = .ok (.ireturn, 1) := by decide +kernel
theorem dX5_init_0 : decode cX5_init 0 = .ok (.aload_n 0, 1) := by decide +kernel
theorem dX5_init_1 : decode cX5_init 1 = .ok (.invokespecial 3, 3) := by decide +kernel
theorem dX5_init_4 : decode cX5_init 4 = .ok (.aload_n 0, 1) := by decide +kernel
theorem dX5_init_5 : decode cX5_init 5 = .ok (.bipush 30, 2) := by decide +kernel
theorem dX5_init_7 : decode cX5_init 7 = .ok (.newarray .int, 2) := by decide +kernel
theorem dX5_init_9 : decode cX5_init 9 = .ok (.putfield 11, 3) := by decide +kernel
theorem dX5_init_12 : decode cX5_init 12 = .ok (.aload_n 0, 1) := by decide +kernel
theorem dX5_init_13 : decode cX5_init 13 = .ok (.iconst 5, 1) := by decide +kernel
theorem dX5_init_14 : decode cX5_init 14 = .ok (.newarray .int, 2) := by decide +kernel
theorem dX5_init_16 : decode cX5_init 16 = .ok (.putfield 15, 3) := by decide +kernel
theorem dX5_init_19 : decode cX5_init 19 = .ok (.aload_n 0, 1) := by decide +kernel
theorem dX5_init_20 : decode cX5_init 20 = .ok (.iconst 0, 1) := by decide +kernel
theorem dX5_init_21 : decode cX5_init 21 = .ok (.putfield 18, 3) := by decide +kernel
theorem dX5_init_24 : decode cX5_init 24 = .ok (.aload_n 0, 1) := by decide +kernel
theorem dX5_init_25 : decode cX5_init 25 = .ok (.bipush 6, 2) := by decide +kernel
theorem dX5_init_27 : decode cX5_init 27 = .ok (.putfield 22, 3) := by decide +kernel
theorem dX5_init_30 : decode cX5_init 30 = .ok (.return_, 1) := by decide +kernel
theorem dX5_clear_0 : decode cX5_clear 0 = .ok (.aload_n 0, 1) := by decide +kernel
theorem dX5_clear_1 : decode cX5_clear 1 = .ok (.iconst 0, 1) := by decide +kernel
theorem dX5_clear_2 : decode cX5_clear 2 = .ok (.putfield 18, 3) := by decide +kernel
theorem dX5_clear_5 : decode cX5_clear 5 = .ok (.aload_n 0, 1) := by decide +kernel
theorem dX5_clear_6 : decode cX5_clear 6 = .ok (.bipush 6, 2) := by decide +kernel
theorem dX5_clear_8 : decode cX5_clear 8 = .ok (.putfield 22, 3) := by decide +kernel
theorem dX5_clear_11 : decode cX5_clear 11 = .ok (.return_, 1) := by decide +kernel
theorem dX5_copyFrom_0 : decode cX5_copyFrom 0 = .ok (.aload_n 1, 1) := by decide +kernel
theorem dX5_copyFrom_1 : decode cX5_copyFrom 1 = .ok (.getfield 11, 3) := by decide +kernel
theorem dX5_copyFrom_4 : decode cX5_copyFrom 4 = .ok (.iconst 0, 1) := by decide +kernel
theorem dX5_copyFrom_5 : decode cX5_copyFrom 5 = .ok (.aload_n 0, 1) := by decide +kernel
theorem dX5_copyFrom_6 : decode cX5_copyFrom 6 = .ok (.getfield 11, 3) := by decide +kernel
theorem dX5_copyFrom_9 : decode cX5_copyFrom 9 = .ok (.iconst 0, 1) := by decide +kernel
theorem dX5_copyFrom_10 : decode cX5_copyFrom 10 = .ok (.aload_n 0, 1) := by decide +kernel
theorem dX5_copyFrom_11 : decode cX5_copyFrom 11 = .ok (.getfield 11, 3) := by decide +kernel
theorem dX5_copyFrom_14 : decode cX5_copyFrom 14 = .ok (.arraylength, 1) := by decide +kernel
theorem dX5_copyFrom_15 : decode cX5_copyFrom 15 = .ok (.invokestatic 25, 3) := by decide +kernel
theorem dX5_copyFrom_18 : decode cX5_copyFrom 18 = .ok (.aload_n 1, 1) := by decide +kernel
theorem dX5_copyFrom_19 : decode cX5_copyFrom 19 = .ok (.getfield 15, 3) := by decide +kernel
theorem dX5_copyFrom_22 : decode cX5_copyFrom 22 = .ok (.iconst 0, 1) := by decide +kernel
theorem dX5_copyFrom_23 : decode cX5_copyFrom 23 = .ok (.aload_n 0, 1) := by decide +kernel
theorem dX5_copyFrom_24 : decode cX5_copyFrom 24 = .ok (.getfield 15, 3) := by decide +kernel
theorem dX5_copyFrom_27 : decode cX5_copyFrom 27 = .ok (.iconst 0, 1) := by decide +kernel
theorem dX5_copyFrom_28 : decode cX5_copyFrom 28 = .ok (.aload_n 0, 1) := by decide +kernel
theorem dX5_copyFrom_29 : decode cX5_copyFrom 29 = .ok (.getfield 15, 3) := by decide +kernel
theorem dX5_copyFrom_32 : decode cX5_copyFrom 32 = .ok (.arraylength, 1) := by decide +kernel
theorem dX5_copyFrom_33 : decode cX5_copyFrom 33 = .ok (.invokestatic 25, 3) := by decide +kernel
theorem dX5_copyFrom_36 : decode cX5_copyFrom 36 = .ok (.aload_n 0, 1) := by decide +kernel
theorem dX5_copyFrom_37 : decode cX5_copyFrom 37 = .ok (.aload_n 1, 1) := by decide +kernel
theorem dX5_copyFrom_38 : decode cX5_copyFrom 38 = .ok (.getfield 18, 3) := by decide +kernel
theorem dX5_copyFrom_41 : decode cX5_copyFrom 41 = .ok (.putfield 18, 3) := by decide +kernel
theorem dX5_copyFrom_44 : decode cX5_copyFrom 44 = .ok (.aload_n 0, 1) := by decide +kernel
theorem dX5_copyFrom_45 : decode cX5_copyFrom 45 = .ok (.aload_n 1, 1) := by decide +kernel
theorem dX5_copyFrom_46 : decode cX5_copyFrom 46 = .ok (.getfield 22, 3) := by decide +kernel
theorem dX5_copyFrom_49 : decode cX5_copyFrom 49 = .ok (.putfield 22, 3) := by decide +kernel
theorem dX5_copyFrom_52 : decode cX5_copyFrom 52 = .ok (.return_, 1) := by decide +kernel
set_option maxRecDepth 20000 in
theorem ggX5_isFact_X9_within : GoodIn wsX5_isFact wsX9_within := goodIn_r _ [3] (by decide +kernel) (by decide +kernel)
set_option maxRecDepth 20000 in
theorem gX5_isFact_X9_within_n31 : GoodIn wsX5_isFact (wsX9_within) := ggX5_isFact_X9_within
theorem dX5_isFact_0 : decode cX5_isFact 0 = .ok (.iload_n 0, 1) := by decide +kernel
theorem dX5_isFact_1 : decode cX5_isFact 1 = .ok (.iconst 0, 1) := by decide +kernel
theorem dX5_isFact_2 : decode cX5_isFact 2 = .ok (.iconst 5, 1) := by decide +kernel
theorem dX5_isFact_3 : decode cX5_isFact 3 = .ok (.invokestatic 31, 3) := by decide +kernel
theorem dX5_isFact_6 : decode cX5_isFact 6 = .ok (.ireturn, 1) := by decide +kernel
set_option maxRecDepth 20000 in
theorem ggX5_least_X5_isFact : GoodIn wsX5_least wsX5_isFact := goodIn_r _ [5, 6, 7, 8] (by decide +kernel) (by decide +kernel)
set_option maxRecDepth 20000 in
theorem gX5_least_X5_isFact : GoodIn wsX5_least (va_wsS RX5 35 yX5_isFact wsX5_isFact) := goodIn_app (goodIn_of _ (by decide +kernel)) ggX5_least_X5_isFact
theorem dX5_least_0 : decode cX5_least 0 = .ok (.iload_n 0, 1) := by decide +kernel
theorem dX5_least_1 : decode cX5_least 1 = .ok (.invokestatic 35, 3) := by decide +kernel
theorem dX5_least_4 : decode cX5_least 4 = .ok (.ifCond .eq 11, 3) := by decide +kernel
theorem dX5_least_7 : decode cX5_least 7 = .ok (.getstatic 39, 3) := by decide +kernel
theorem dX5_least_10 : decode cX5_least 10 = .ok (.iload_n 0, 1) := by decide +kernel
theorem dX5_least_11 : decode cX5_least 11 = .ok (.iaload, 1) := by decide +kernel
theorem dX5_least_12 : decode cX5_least 12 = .ok (.goto 4, 3) := by decide +kernel
theorem dX5_least_15 : decode cX5_least 15 = .ok (.iconst 0, 1) := by decide +kernel
theorem dX5_least_16 : decode cX5_least 16 = .ok (.ireturn, 1) := by decide +kernel
set_option maxRecDepth 20000 in
theorem ggX5_most_X5_isFact : GoodIn wsX5_most wsX5_isFact := goodIn_r _ [5, 6, 7, 8] (by decide +kernel) (by decide +kernel)
set_option maxRecDepth 20000 in
theorem gX5_most_X5_isFact : GoodIn wsX5_most (va_wsS RX5 35 yX5_isFact wsX5_isFact) := goodIn_app (goodIn_of _ (by decide +kernel)) ggX5_most_X5_isFact
theorem dX5_most_0 : decode cX5_most 0 = .ok (.iload_n 0, 1) := by decide +kernel
theorem dX5_most_1 : decode cX5_most 1 = .ok (.invokestatic 35, 3) := by decide +kernel
theorem dX5_most_4 : decode cX5_most 4 = .ok (.ifCond .eq 11, 3) := by decide +kernel
theorem dX5_most_7 : decode cX5_most 7 = .ok (.getstatic 42, 3) := by decide +kernel
theorem dX5_most_10 : decode cX5_most 10 = .ok (.iload_n 0, 1) := by decide +kernel
theorem dX5_most_11 : decode cX5_most 11 = .ok (.iaload, 1) := by decide +kernel
theorem dX5_most_12 : decode cX5_most 12 = .ok (.goto 4, 3) := by decide +kernel
theorem dX5_most_15 : decode cX5_most 15 = .ok (.iconst 0, 1) := by decide +kernel
theorem dX5_most_16 : decode cX5_most 16 = .ok (.ireturn, 1) := by decide +kernel
set_option maxRecDepth 20000 in
theorem ggX5_fits_X5_isFact : GoodIn wsX5_fits wsX5_isFact := goodIn_r _ [6, 7, 8, 9] (by decide +kernel) (by decide +kernel)
set_option maxRecDepth 20000 in
theorem gX5_fits_X5_isFact : GoodIn wsX5_fits (va_wsS RX5 35 yX5_isFact wsX5_isFact) := goodIn_app (goodIn_of _ (by decide +kernel)) ggX5_fits_X5_isFact
set_option maxRecDepth 20000 in
theorem ggX5_fits_X9_within : GoodIn wsX5_fits wsX9_within := goodIn_r _ [9] (by decide +kernel) (by decide +kernel)
set_option maxRecDepth 20000 in
theorem gX5_fits_X9_within_n31 : GoodIn wsX5_fits (wsX9_within) := ggX5_fits_X9_within
theorem dX5_fits_0 : decode cX5_fits 0 = .ok (.iload_n 0, 1) := by decide +kernel
theorem dX5_fits_1 : decode cX5_fits 1 = .ok (.invokestatic 35, 3) := by decide +kernel
theorem dX5_fits_4 : decode cX5_fits 4 = .ok (.ifCond .eq 24, 3) := by decide +kernel
theorem dX5_fits_7 : decode cX5_fits 7 = .ok (.iload_n 1, 1) := by decide +kernel
theorem dX5_fits_8 : decode cX5_fits 8 = .ok (.getstatic 39, 3) := by decide +kernel
theorem dX5_fits_11 : decode cX5_fits 11 = .ok (.iload_n 0, 1) := by decide +kernel
theorem dX5_fits_12 : decode cX5_fits 12 = .ok (.iaload, 1) := by decide +kernel
theorem dX5_fits_13 : decode cX5_fits 13 = .ok (.getstatic 42, 3) := by decide +kernel
theorem dX5_fits_16 : decode cX5_fits 16 = .ok (.iload_n 0, 1) := by decide +kernel
theorem dX5_fits_17 : decode cX5_fits 17 = .ok (.iaload, 1) := by decide +kernel
theorem dX5_fits_18 : decode cX5_fits 18 = .ok (.invokestatic 31, 3) := by decide +kernel
theorem dX5_fits_21 : decode cX5_fits 21 = .ok (.ifCond .eq 7, 3) := by decide +kernel
theorem dX5_fits_24 : decode cX5_fits 24 = .ok (.iconst 1, 1) := by decide +kernel
theorem dX5_fits_25 : decode cX5_fits 25 = .ok (.goto 4, 3) := by decide +kernel
theorem dX5_fits_28 : decode cX5_fits 28 = .ok (.iconst 0, 1) := by decide +kernel
theorem dX5_fits_29 : decode cX5_fits 29 = .ok (.ireturn, 1) := by decide +kernel
theorem dX5_size_0 : decode cX5_size 0 = .ok (.aload_n 0, 1) := by decide +kernel
theorem dX5_size_1 : decode cX5_size 1 = .ok (.getfield 18, 3) := by decide +kernel
theorem dX5_size_4 : decode cX5_size 4 = .ok (.ireturn, 1) := by decide +kernel
theorem dX5_isFull_0 : decode cX5_isFull 0 = .ok (.aload_n 0, 1) := by decide +kernel
theorem dX5_isFull_1 : decode cX5_isFull 1 = .ok (.getfield 18, 3) := by decide +kernel
theorem dX5_isFull_4 : decode cX5_isFull 4 = .ok (.iconst 5, 1) := by decide +kernel
theorem dX5_isFull_5 : decode cX5_isFull 5 = .ok (.if_icmp .lt 7, 3) := by decide +kernel
theorem dX5_isFull_8 : decode cX5_isFull 8 = .ok (.iconst 1, 1) := by decide +kernel
theorem dX5_isFull_9 : decode cX5_isFull 9 = .ok (.goto 4, 3) := by decide +kernel
theorem dX5_isFull_12 : decode cX5_isFull 12 = .ok (.iconst 0, 1) := by decide +kernel
theorem dX5_isFull_13 : decode cX5_isFull 13 = .ok (.ireturn, 1) := by decide +kernel
theorem dX5_has_0 : decode cX5_has 0 = .ok (.iload_n 1, 1) := by decide +kernel
theorem dX5_has_1 : decode cX5_has 1 = .ok (.ifCond .lt 15, 3) := by decide +kernel
theorem dX5_has_4 : decode cX5_has 4 = .ok (.iload_n 1, 1) := by decide +kernel
theorem dX5_has_5 : decode cX5_has 5 = .ok (.aload_n 0, 1) := by decide +kernel
theorem dX5_has_6 : decode cX5_has 6 = .ok (.getfield 18, 3) := by decide +kernel
theorem dX5_has_9 : decode cX5_has 9 = .ok (.if_icmp .ge 7, 3) := by decide +kernel
theorem dX5_has_12 : decode cX5_has 12 = .ok (.iconst 1, 1) := by decide +kernel
theorem dX5_has_13 : decode cX5_has 13 = .ok (.goto 4, 3) := by decide +kernel
theorem dX5_has_16 : decode cX5_has 16 = .ok (.iconst 0, 1) := by decide +kernel
theorem dX5_has_17 : decode cX5_has 17 = .ok (.ireturn, 1) := by decide +kernel
theorem dX5_startHour_0 : decode cX5_startHour 0 = .ok (.aload_n 0, 1) := by decide +kernel
theorem dX5_startHour_1 : decode cX5_startHour 1 = .ok (.getfield 22, 3) := by decide +kernel
theorem dX5_startHour_4 : decode cX5_startHour 4 = .ok (.ireturn, 1) := by decide +kernel
theorem dX5_setStart_0 : decode cX5_setStart 0 = .ok (.aload_n 0, 1) := by decide +kernel
theorem dX5_setStart_1 : decode cX5_setStart 1 = .ok (.iload_n 1, 1) := by decide +kernel
theorem dX5_setStart_2 : decode cX5_setStart 2 = .ok (.putfield 22, 3) := by decide +kernel
theorem dX5_setStart_5 : decode cX5_setStart 5 = .ok (.return_, 1) := by decide +kernel
theorem dX5_fact_0 : decode cX5_fact 0 = .ok (.iload_n 1, 1) := by decide +kernel
theorem dX5_fact_1 : decode cX5_fact 1 = .ok (.ifCond .lt 24, 3) := by decide +kernel
theorem dX5_fact_4 : decode cX5_fact 4 = .ok (.iload_n 1, 1) := by decide +kernel
theorem dX5_fact_5 : decode cX5_fact 5 = .ok (.aload_n 0, 1) := by decide +kernel
theorem dX5_fact_6 : decode cX5_fact 6 = .ok (.getfield 18, 3) := by decide +kernel
theorem dX5_fact_9 : decode cX5_fact 9 = .ok (.if_icmp .ge 16, 3) := by decide +kernel
theorem dX5_fact_12 : decode cX5_fact 12 = .ok (.iload_n 2, 1) := by decide +kernel
theorem dX5_fact_13 : decode cX5_fact 13 = .ok (.ifCond .lt 12, 3) := by decide +kernel
theorem dX5_fact_16 : decode cX5_fact 16 = .ok (.iload_n 2, 1) := by decide +kernel
theorem dX5_fact_17 : decode cX5_fact 17 = .ok (.iconst 5, 1) := by decide +kernel
theorem dX5_fact_18 : decode cX5_fact 18 = .ok (.if_icmp .gt 7, 3) := by decide +kernel
theorem dX5_fact_21 : decode cX5_fact 21 = .ok (.iconst 1, 1) := by decide +kernel
theorem dX5_fact_22 : decode cX5_fact 22 = .ok (.goto 4, 3) := by decide +kernel
theorem dX5_fact_25 : decode cX5_fact 25 = .ok (.iconst 0, 1) := by decide +kernel
theorem dX5_fact_26 : decode cX5_fact 26 = .ok (.istore_n 3, 1) := by decide +kernel
theorem dX5_fact_27 : decode cX5_fact 27 = .ok (.iload_n 3, 1) := by decide +kernel
theorem dX5_fact_28 : decode cX5_fact 28 = .ok (.ifCond .eq 17, 3) := by decide +kernel
theorem dX5_fact_31 : decode cX5_fact 31 = .ok (.aload_n 0, 1) := by decide +kernel
theorem dX5_fact_32 : decode cX5_fact 32 = .ok (.getfield 11, 3) := by decide +kernel
theorem dX5_fact_35 : decode cX5_fact 35 = .ok (.iload_n 1, 1) := by decide +kernel
theorem dX5_fact_36 : decode cX5_fact 36 = .ok (.bipush 6, 2) := by decide +kernel
theorem dX5_fact_38 : decode cX5_fact 38 = .ok (.imul, 1) := by decide +kernel
theorem dX5_fact_39 : decode cX5_fact 39 = .ok (.iload_n 2, 1) := by decide +kernel
theorem dX5_fact_40 : decode cX5_fact 40 = .ok (.iadd, 1) := by decide +kernel
theorem dX5_fact_41 : decode cX5_fact 41 = .ok (.iaload, 1) := by decide +kernel
theorem dX5_fact_42 : decode cX5_fact 42 = .ok (.goto 4, 3) := by decide +kernel
theorem dX5_fact_45 : decode cX5_fact 45 = .ok (.iconst (-1), 1) := by decide +kernel
theorem dX5_fact_46 : decode cX5_fact 46 = .ok (.ireturn, 1) := by decide +kernel
theorem dX5_setFact_0 : decode cX5_setFact 0 = .ok (.iload_n 1, 1) := by decide +kernel
theorem dX5_setFact_1 : decode cX5_setFact 1 = .ok (.ifCond .lt 32, 3) := by decide +kernel
theorem dX5_setFact_4 : decode cX5_setFact 4 = .ok (.iload_n 1, 1) := by decide +kernel
theorem dX5_setFact_5 : decode cX5_setFact 5 = .ok (.aload_n 0, 1) := by decide +kernel
theorem dX5_setFact_6 : decode cX5_setFact 6 = .ok (.getfield 18, 3) := by decide +kernel
theorem dX5_setFact_9 : decode cX5_setFact 9 = .ok (.if_icmp .ge 24, 3) := by decide +kernel
theorem dX5_setFact_12 : decode cX5_setFact 12 = .ok (.iload_n 2, 1) := by decide +kernel
theorem dX5_setFact_13 : decode cX5_setFact 13 = .ok (.ifCond .lt 20, 3) := by decide +kernel
theorem dX5_setFact_16 : decode cX5_setFact 16 = .ok (.iload_n 2, 1) := by decide +kernel
theorem dX5_setFact_17 : decode cX5_setFact 17 = .ok (.iconst 5, 1) := by decide +kernel
theorem dX5_setFact_18 : decode cX5_setFact 18 = .ok (.if_icmp .gt 15, 3) := by decide +kernel
theorem dX5_setFact_21 : decode cX5_setFact 21 = .ok (.aload_n 0, 1) := by decide +kernel
theorem dX5_setFact_22 : decode cX5_setFact 22 = .ok (.getfield 11, 3) := by decide +kernel
theorem dX5_setFact_25 : decode cX5_setFact 25 = .ok (.iload_n 1, 1) := by decide +kernel
theorem dX5_setFact_26 : decode cX5_setFact 26 = .ok (.bipush 6, 2) := by decide +kernel
theorem dX5_setFact_28 : decode cX5_setFact 28 = .ok (.imul, 1) := by decide +kernel
theorem dX5_setFact_29 : decode cX5_setFact 29 = .ok (.iload_n 2, 1) := by decide +kernel
theorem dX5_setFact_30 : decode cX5_setFact 30 = .ok (.iadd, 1) := by decide +kernel
theorem dX5_setFact_31 : decode cX5_setFact 31 = .ok (.iload_n 3, 1) := by decide +kernel
theorem dX5_setFact_32 : decode cX5_setFact 32 = .ok (.iastore, 1) := by decide +kernel
theorem dX5_setFact_33 : decode cX5_setFact 33 = .ok (.return_, 1) := by decide +kernel
set_option maxRecDepth 20000 in
theorem ggX5_sumOf_X5_fact : GoodIn wsX5_sumOf wsX5_fact := goodIn_r _ [6, 1, 7, 8, 9, 10, 11] (by decide +kernel) (by decide +kernel)
set_option maxRecDepth 20000 in
theorem gX5_sumOf_X5_fact : GoodIn wsX5_sumOf (wsV RX5 45 RX5 yX5_fact wsX5_fact) := goodIn_app (goodIn_of _ (by decide +kernel)) ggX5_sumOf_X5_fact
theorem dX5_sumOf_0 : decode cX5_sumOf 0 = .ok (.iconst 0, 1) := by decide +kernel
theorem dX5_sumOf_1 : decode cX5_sumOf 1 = .ok (.istore_n 2, 1) := by decide +kernel
theorem dX5_sumOf_2 : decode cX5_sumOf 2 = .ok (.iconst 0, 1) := by decide +kernel
theorem dX5_sumOf_3 : decode cX5_sumOf 3 = .ok (.istore_n 3, 1) := by decide +kernel
theorem dX5_sumOf_4 : decode cX5_sumOf 4 = .ok (.iload_n 3, 1) := by decide +kernel
theorem dX5_sumOf_5 : decode cX5_sumOf 5 = .ok (.aload_n 0, 1) := by decide +kernel
theorem dX5_sumOf_6 : decode cX5_sumOf 6 = .ok (.getfield 18, 3) := by decide +kernel
theorem dX5_sumOf_9 : decode cX5_sumOf 9 = .ok (.if_icmp .ge 18, 3) := by decide +kernel
theorem dX5_sumOf_12 : decode cX5_sumOf 12 = .ok (.iload_n 2, 1) := by decide +kernel
theorem dX5_sumOf_13 : decode cX5_sumOf 13 = .ok (.aload_n 0, 1) := by decide +kernel
theorem dX5_sumOf_14 : decode cX5_sumOf 14 = .ok (.iload_n 3, 1) := by decide +kernel
theorem dX5_sumOf_15 : decode cX5_sumOf 15 = .ok (.iload_n 1, 1) := by decide +kernel
theorem dX5_sumOf_16 : decode cX5_sumOf 16 = .ok (.invokevirtual 45, 3) := by decide +kernel
theorem dX5_sumOf_19 : decode cX5_sumOf 19 = .ok (.iadd, 1) := by decide +kernel
theorem dX5_sumOf_20 : decode cX5_sumOf 20 = .ok (.istore_n 2, 1) := by decide +kernel
theorem dX5_sumOf_21 : decode cX5_sumOf 21 = .ok (.iinc 3 1, 3) := by decide +kernel
theorem dX5_sumOf_24 : decode cX5_sumOf 24 = .ok (.goto (-20), 3) := by decide +kernel
theorem dX5_sumOf_27 : decode cX5_sumOf 27 = .ok (.iload_n 2, 1) := by decide +kernel
theorem dX5_sumOf_28 : decode cX5_sumOf 28 = .ok (.ireturn, 1) := by decide +kernel
set_option maxRecDepth 20000 in
theorem ggX5_refusal_X5_fits : GoodIn wsX5_refusal wsX5_fits := goodIn_r _ [4, 5, 6, 7, 8, 3, 9, 10, 11, 12] (by decide +kernel) (by decide +kernel)
set_option maxRecDepth 20000 in
theorem gX5_refusal_X5_fits : GoodIn wsX5_refusal (va_wsS RX5 49 yX5_fits wsX5_fits) := goodIn_app (goodIn_of _ (by decide +kernel)) ggX5_refusal_X5_fits
set_option maxRecDepth 20000 in
theorem ggX5_refusal_X5_isFull : GoodIn wsX5_refusal wsX5_isFull := goodIn_r _ [16, 17, 18, 19, 20, 21] (by decide +kernel) (by decide +kernel)
set_option maxRecDepth 20000 in
theorem gX5_refusal_X5_isFull : GoodIn wsX5_refusal (wsV RX5 53 RX5 yX5_isFull wsX5_isFull) := goodIn_app (goodIn_of _ (by decide +kernel)) ggX5_refusal_X5_isFull
theorem dX5_refusal_0 : decode cX5_refusal 0 = .ok (.iconst 0, 1) := by decide +kernel
theorem dX5_refusal_1 : decode cX5_refusal 1 = .ok (.iload_n 1, 1) := by decide +kernel
theorem dX5_refusal_2 : decode cX5_refusal 2 = .ok (.invokestatic 49, 3) := by decide +kernel
theorem dX5_refusal_5 : decode cX5_refusal 5 = .ok (.ifCond .eq 19, 3) := by decide +kernel
theorem dX5_refusal_8 : decode cX5_refusal 8 = .ok (.iconst 1, 1) := by decide +kernel
theorem dX5_refusal_9 : decode cX5_refusal 9 = .ok (.iload_n 2, 1) := by decide +kernel
theorem dX5_refusal_10 : decode cX5_refusal 10 = .ok (.invokestatic 49, 3) := by decide +kernel
theorem dX5_refusal_13 : decode cX5_refusal 13 = .ok (.ifCond .eq 11, 3) := by decide +kernel
theorem dX5_refusal_16 : decode cX5_refusal 16 = .ok (.iconst 2, 1) := by decide +kernel
theorem dX5_refusal_17 : decode cX5_refusal 17 = .ok (.iload_n 3, 1) := by decide +kernel
theorem dX5_refusal_18 : decode cX5_refusal 18 = .ok (.invokestatic 49, 3) := by decide +kernel
theorem dX5_refusal_21 : decode cX5_refusal 21 = .ok (.ifCond .ne 5, 3) := by decide +kernel
theorem dX5_refusal_24 : decode cX5_refusal 24 = .ok (.iconst (-1), 1) := by decide +kernel
theorem dX5_refusal_25 : decode cX5_refusal 25 = .ok (.ireturn, 1) := by decide +kernel
theorem dX5_refusal_26 : decode cX5_refusal 26 = .ok (.aload_n 0, 1) := by decide +kernel
theorem dX5_refusal_27 : decode cX5_refusal 27 = .ok (.invokevirtual 53, 3) := by decide +kernel
theorem dX5_refusal_30 : decode cX5_refusal 30 = .ok (.ifCond .eq 8, 3) := by decide +kernel
theorem dX5_refusal_33 : decode cX5_refusal 33 = .ok (.bipush (-3), 2) := by decide +kernel
theorem dX5_refusal_35 : decode cX5_refusal 35 = .ok (.goto 4, 3) := by decide +kernel
theorem dX5_refusal_38 : decode cX5_refusal 38 = .ok (.iconst 0, 1) := by decide +kernel
theorem dX5_refusal_39 : decode cX5_refusal 39 = .ok (.ireturn, 1) := by decide +kernel
set_option maxRecDepth 20000 in
theorem ggX5_addPlain_X5_isFull : GoodIn wsX5_addPlain wsX5_isFull := goodIn_r _ [7, 1, 13, 14, 15, 16] (by decide +kernel) (by decide +kernel)
set_option maxRecDepth 20000 in
theorem gX5_addPlain_X5_isFull : GoodIn wsX5_addPlain (wsV RX5 53 RX5 yX5_isFull wsX5_isFull) := goodIn_app (goodIn_of _ (by decide +kernel)) ggX5_addPlain_X5_isFull
set_option maxRecDepth 20000 in
theorem ggX5_addPlain_X5_setFact : GoodIn wsX5_addPlain wsX5_setFact := goodIn_r _ [11, 1, 12, 13, 14, 15, 16] (by decide +kernel) (by decide +kernel)
set_option maxRecDepth 20000 in
theorem gX5_addPlain_X5_setFact : GoodIn wsX5_addPlain (wsV RX5 57 RX5 yX5_setFact wsX5_setFact) := goodIn_app (goodIn_of _ (by decide +kernel)) ggX5_addPlain_X5_setFact
theorem dX5_addPlain_0 : decode cX5_addPlain 0 = .ok (.aload_n 0, 1) := by decide +kernel
theorem dX5_addPlain_1 : decode cX5_addPlain 1 = .ok (.invokevirtual 53, 3) := by decide +kernel
theorem dX5_addPlain_4 : decode cX5_addPlain 4 = .ok (.ifCond .eq 6, 3) := by decide +kernel
theorem dX5_addPlain_7 : decode cX5_addPlain 7 = .ok (.bipush (-4), 2) := by decide +kernel
theorem dX5_addPlain_9 : decode cX5_addPlain 9 = .ok (.ireturn, 1) := by decide +kernel
theorem dX5_addPlain_10 : decode cX5_addPlain 10 = .ok (.aload_n 0, 1) := by decide +kernel
theorem dX5_addPlain_11 : decode cX5_addPlain 11 = .ok (.getfield 18, 3) := by decide +kernel
theorem dX5_addPlain_14 : decode cX5_addPlain 14 = .ok (.istore 4, 2) := by decide +kernel
theorem dX5_addPlain_16 : decode cX5_addPlain 16 = .ok (.aload_n 0, 1) := by decide +kernel
theorem dX5_addPlain_17 : decode cX5_addPlain 17 = .ok (.dup, 1) := by decide +kernel
theorem dX5_addPlain_18 : decode cX5_addPlain 18 = .ok (.getfield 18, 3) := by decide +kernel
theorem dX5_addPlain_21 : decode cX5_addPlain 21 = .ok (.iconst 1, 1) := by decide +kernel
theorem dX5_addPlain_22 : decode cX5_addPlain 22 = .ok (.iadd, 1) := by decide +kernel
theorem dX5_addPlain_23 : decode cX5_addPlain 23 = .ok (.putfield 18, 3) := by decide +kernel
theorem dX5_addPlain_26 : decode cX5_addPlain 26 = .ok (.aload_n 0, 1) := by decide +kernel
theorem dX5_addPlain_27 : decode cX5_addPlain 27 = .ok (.getfield 15, 3) := by decide +kernel
theorem dX5_addPlain_30 : decode cX5_addPlain 30 = .ok (.iload 4, 2) := by decide +kernel
theorem dX5_addPlain_32 : decode cX5_addPlain 32 = .ok (.iload 4, 2) := by decide +kernel
theorem dX5_addPlain_34 : decode cX5_addPlain 34 = .ok (.iastore, 1) := by decide +kernel
theorem dX5_addPlain_35 : decode cX5_addPlain 35 = .ok (.aload_n 0, 1) := by decide +kernel
theorem dX5_addPlain_36 : decode cX5_addPlain 36 = .ok (.iload 4, 2) := by decide +kernel
theorem dX5_addPlain_38 : decode cX5_addPlain 38 = .ok (.iconst 0, 1) := by decide +kernel
theorem dX5_addPlain_39 : decode cX5_addPlain 39 = .ok (.iload_n 1, 1) := by decide +kernel
theorem dX5_addPlain_40 : decode cX5_addPlain 40 = .ok (.invokevirtual 57, 3) := by decide +kernel
theorem dX5_addPlain_43 : decode cX5_addPlain 43 = .ok (.aload_n 0, 1) := by decide +kernel
theorem dX5_addPlain_44 : decode cX5_addPlain 44 = .ok (.iload 4, 2) := by decide +kernel
theorem dX5_addPlain_46 : decode cX5_addPlain 46 = .ok (.iconst 1, 1) := by decide +kernel
theorem dX5_addPlain_47 : decode cX5_addPlain 47 = .ok (.iload_n 2, 1) := by decide +kernel
theorem dX5_addPlain_48 : decode cX5_addPlain 48 = .ok (.invokevirtual 57, 3) := by decide +kernel
theorem dX5_addPlain_51 : decode cX5_addPlain 51 = .ok (.aload_n 0, 1) := by decide +kernel
theorem dX5_addPlain_52 : decode cX5_addPlain 52 = .ok (.iload 4, 2) := by decide +kernel
theorem dX5_addPlain_54 : decode cX5_addPlain 54 = .ok (.iconst 2, 1) := by decide +kernel
theorem dX5_addPlain_55 : decode cX5_addPlain 55 = .ok (.iload_n 3, 1) := by decide +kernel
theorem dX5_addPlain_56 : decode cX5_addPlain 56 = .ok (.invokevirtual 57, 3) := by decide +kernel
theorem dX5_addPlain_59 : decode cX5_addPlain 59 = .ok (.aload_n 0, 1) := by decide +kernel
theorem dX5_addPlain_60 : decode cX5_addPlain 60 = .ok (.iload 4, 2) := by decide +kernel
theorem dX5_addPlain_62 : decode cX5_addPlain 62 = .ok (.iconst 3, 1) := by decide +kernel
theorem dX5_addPlain_63 : decode cX5_addPlain 63 = .ok (.iconst 1, 1) := by decide +kernel
theorem dX5_addPlain_64 : decode cX5_addPlain 64 = .ok (.invokevirtual 57, 3) := by decide +kernel
theorem dX5_addPlain_67 : decode cX5_addPlain 67 = .ok (.aload_n 0, 1) := by decide +kernel
theorem dX5_addPlain_68 : decode cX5_addPlain 68 = .ok (.iload 4, 2) := by decide +kernel
theorem dX5_addPlain_70 : decode cX5_addPlain 70 = .ok (.iconst 4, 1) := by decide +kernel
theorem dX5_addPlain_71 : decode cX5_addPlain 71 = .ok (.bipush 8, 2) := by decide +kernel
theorem dX5_addPlain_73 : decode cX5_addPlain 73 = .ok (.invokevirtual 57, 3) := by decide +kernel
theorem dX5_addPlain_76 : decode cX5_addPlain 76 = .ok (.aload_n 0, 1) := by decide +kernel
theorem dX5_addPlain_77 : decode cX5_addPlain 77 = .ok (.iload 4, 2) := by decide +kernel
theorem dX5_addPlain_79 : decode cX5_addPlain 79 = .ok (.iconst 5, 1) := by decide +kernel
theorem dX5_addPlain_80 : decode cX5_addPlain 80 = .ok (.iconst 0, 1) := by decide +kernel
theorem dX5_addPlain_81 : decode cX5_addPlain 81 = .ok (.invokevirtual 57, 3) := by decide +kernel
theorem dX5_addPlain_84 : decode cX5_addPlain 84 = .ok (.iload 4, 2) := by decide +kernel
theorem dX5_addPlain_86 : decode cX5_addPlain 86 = .ok (.ireturn, 1) := by decide +kernel
set_option maxRecDepth 20000 in
theorem ggX5_boxIn_X5_has : GoodIn wsX5_boxIn wsX5_has := goodIn_r _ [6, 7, 8, 9, 10, 11] (by decide +kernel) (by decide +kernel)
set_option maxRecDepth 20000 in
theorem gX5_boxIn_X5_has : GoodIn wsX5_boxIn (wsV RX5 61 RX5 yX5_has wsX5_has) := goodIn_app (goodIn_of _ (by decide +kernel)) ggX5_boxIn_X5_has
theorem dX5_boxIn_0 : decode cX5_boxIn 0 = .ok (.aload_n 0, 1) := by decide +kernel
theorem dX5_boxIn_1 : decode cX5_boxIn 1 = .ok (.iload_n 1, 1) := by decide +kernel
theorem dX5_boxIn_2 : decode cX5_boxIn 2 = .ok (.invokevirtual 61, 3) := by decide +kernel
theorem dX5_boxIn_5 : decode cX5_boxIn 5 = .ok (.ifCond .eq 12, 3) := by decide +kernel
theorem dX5_boxIn_8 : decode cX5_boxIn 8 = .ok (.aload_n 0, 1) := by decide +kernel
theorem dX5_boxIn_9 : decode cX5_boxIn 9 = .ok (.getfield 15, 3) := by decide +kernel
theorem dX5_boxIn_12 : decode cX5_boxIn 12 = .ok (.iload_n 1, 1) := by decide +kernel
theorem dX5_boxIn_13 : decode cX5_boxIn 13 = .ok (.iaload, 1) := by decide +kernel
theorem dX5_boxIn_14 : decode cX5_boxIn 14 = .ok (.goto 5, 3) := by decide +kernel
theorem dX5_boxIn_17 : decode cX5_boxIn 17 = .ok (.bipush (-4), 2) := by decide +kernel
theorem dX5_boxIn_19 : decode cX5_boxIn 19 = .ok (.ireturn, 1) := by decide +kernel
theorem dX5_placeOf_0 : decode cX5_placeOf 0 = .ok (.iconst 0, 1) := by decide +kernel
theorem dX5_placeOf_1 : decode cX5_placeOf 1 = .ok (.istore_n 2, 1) := by decide +kernel
theorem dX5_placeOf_2 : decode cX5_placeOf 2 = .ok (.iload_n 2, 1) := by decide +kernel
theorem dX5_placeOf_3 : decode cX5_placeOf 3 = .ok (.aload_n 0, 1) := by decide +kernel
theorem dX5_placeOf_4 : decode cX5_placeOf 4 = .ok (.getfield 18, 3) := by decide +kernel
theorem dX5_placeOf_7 : decode cX5_placeOf 7 = .ok (.if_icmp .ge 21, 3) := by decide +kernel
theorem dX5_placeOf_10 : decode cX5_placeOf 10 = .ok (.aload_n 0, 1) := by decide +kernel
theorem dX5_placeOf_11 : decode cX5_placeOf 11 = .ok (.getfield 15, 3) := by decide +kernel
theorem dX5_placeOf_14 : decode cX5_placeOf 14 = .ok (.iload_n 2, 1) := by decide +kernel
theorem dX5_placeOf_15 : decode cX5_placeOf 15 = .ok (.iaload, 1) := by decide +kernel
theorem dX5_placeOf_16 : decode cX5_placeOf 16 = .ok (.iload_n 1, 1) := by decide +kernel
theorem dX5_placeOf_17 : decode cX5_placeOf 17 = .ok (.if_icmp .ne 5, 3) := by decide +kernel
theorem dX5_placeOf_20 : decode cX5_placeOf 20 = .ok (.iload_n 2, 1) := by decide +kernel
theorem dX5_placeOf_21 : decode cX5_placeOf 21 = .ok (.ireturn, 1) := by decide +kernel
theorem dX5_placeOf_22 : decode cX5_placeOf 22 = .ok (.iinc 2 1, 3) := by decide +kernel
theorem dX5_placeOf_25 : decode cX5_placeOf 25 = .ok (.goto (-23), 3) := by decide +kernel
theorem dX5_placeOf_28 : decode cX5_placeOf 28 = .ok (.bipush (-4), 2) := by decide +kernel
theorem dX5_placeOf_30 : decode cX5_placeOf 30 = .ok (.ireturn, 1) := by decide +kernel
set_option maxRecDepth 20000 in
theorem ggX5_exchange_X5_has : GoodIn wsX5_exchange wsX5_has := goodIn_r _ [6, 7, 8, 9, 10, 11] (by decide +kernel) (by decide +kernel)
set_option maxRecDepth 20000 in
theorem gX5_exchange_X5_has : GoodIn wsX5_exchange (wsV RX5 61 RX5 yX5_has wsX5_has) := goodIn_app (goodIn_of _ (by decide +kernel)) ggX5_exchange_X5_has
theorem dX5_exchange_0 : decode cX5_exchange 0 = .ok (.aload_n 0, 1) := by decide +kernel
theorem dX5_exchange_1 : decode cX5_exchange 1 = .ok (.iload_n 1, 1) := by decide +kernel
theorem dX5_exchange_2 : decode cX5_exchange 2 = .ok (.invokevirtual 61, 3) := by decide +kernel
theorem dX5_exchange_5 : decode cX5_exchange 5 = .ok (.ifCond .eq 37, 3) := by decide +kernel
theorem dX5_exchange_8 : decode cX5_exchange 8 = .ok (.aload_n 0, 1) := by decide +kernel
theorem dX5_exchange_9 : decode cX5_exchange 9 = .ok (.iload_n 2, 1) := by decide +kernel
theorem dX5_exchange_10 : decode cX5_exchange 10 = .ok (.invokevirtual 61, 3) := by decide +kernel
theorem dX5_exchange_13 : decode cX5_exchange 13 = .ok (.ifCond .eq 29, 3) := by decide +kernel
theorem dX5_exchange_16 : decode cX5_exchange 16 = .ok (.aload_n 0, 1) := by decide +kernel
theorem dX5_exchange_17 : decode cX5_exchange 17 = .ok (.getfield 15, 3) := by decide +kernel
theorem dX5_exchange_20 : decode cX5_exchange 20 = .ok (.iload_n 1, 1) := by decide +kernel
theorem dX5_exchange_21 : decode cX5_exchange 21 = .ok (.iaload, 1) := by decide +kernel
theorem dX5_exchange_22 : decode cX5_exchange 22 = .ok (.istore_n 3, 1) := by decide +kernel
theorem dX5_exchange_23 : decode cX5_exchange 23 = .ok (.aload_n 0, 1) := by decide +kernel
theorem dX5_exchange_24 : decode cX5_exchange 24 = .ok (.getfield 15, 3) := by decide +kernel
theorem dX5_exchange_27 : decode cX5_exchange 27 = .ok (.iload_n 1, 1) := by decide +kernel
theorem dX5_exchange_28 : decode cX5_exchange 28 = .ok (.aload_n 0, 1) := by decide +kernel
theorem dX5_exchange_29 : decode cX5_exchange 29 = .ok (.getfield 15, 3) := by decide +kernel
theorem dX5_exchange_32 : decode cX5_exchange 32 = .ok (.iload_n 2, 1) := by decide +kernel
theorem dX5_exchange_33 : decode cX5_exchange 33 = .ok (.iaload, 1) := by decide +kernel
theorem dX5_exchange_34 : decode cX5_exchange 34 = .ok (.iastore, 1) := by decide +kernel
theorem dX5_exchange_35 : decode cX5_exchange 35 = .ok (.aload_n 0, 1) := by decide +kernel
theorem dX5_exchange_36 : decode cX5_exchange 36 = .ok (.getfield 15, 3) := by decide +kernel
theorem dX5_exchange_39 : decode cX5_exchange 39 = .ok (.iload_n 2, 1) := by decide +kernel
theorem dX5_exchange_40 : decode cX5_exchange 40 = .ok (.iload_n 3, 1) := by decide +kernel
theorem dX5_exchange_41 : decode cX5_exchange 41 = .ok (.iastore, 1) := by decide +kernel
theorem dX5_exchange_42 : decode cX5_exchange 42 = .ok (.return_, 1) := by decide +kernel
theorem dX5_orderByNumber_0 : decode cX5_orderByNumber 0 = .ok (.iconst 0, 1) := by decide +kernel
theorem dX5_orderByNumber_1 : decode cX5_orderByNumber 1 = .ok (.istore_n 1, 1) := by decide +kernel
theorem dX5_orderByNumber_2 : decode cX5_orderByNumber 2 = .ok (.iload_n 1, 1) := by decide +kernel
theorem dX5_orderByNumber_3 : decode cX5_orderByNumber 3 = .ok (.aload_n 0, 1) := by decide +kernel
theorem dX5_orderByNumber_4 : decode cX5_orderByNumber 4 = .ok (.getfield 18, 3) := by decide +kernel
theorem dX5_orderByNumber_7 : decode cX5_orderByNumber 7 = .ok (.if_icmp .ge 16, 3) := by decide +kernel
theorem dX5_orderByNumber_10 : decode cX5_orderByNumber 10 = .ok (.aload_n 0, 1) := by decide +kernel
theorem dX5_orderByNumber_11 : decode cX5_orderByNumber 11 = .ok (.getfield 15, 3) := by decide +kernel
theorem dX5_orderByNumber_14 : decode cX5_orderByNumber 14 = .ok (.iload_n 1, 1) := by decide +kernel
theorem dX5_orderByNumber_15 : decode cX5_orderByNumber 15 = .ok (.iload_n 1, 1) := by decide +kernel
theorem dX5_orderByNumber_16 : decode cX5_orderByNumber 16 = .ok (.iastore, 1) := by decide +kernel
theorem dX5_orderByNumber_17 : decode cX5_orderByNumber 17 = .ok (.iinc 1 1, 3) := by decide +kernel
theorem dX5_orderByNumber_20 : decode cX5_orderByNumber 20 = .ok (.goto (-18), 3) := by decide +kernel
theorem dX5_orderByNumber_23 : decode cX5_orderByNumber 23 = .ok (.return_, 1) := by decide +kernel
set_option maxRecDepth 20000 in
theorem ggX5_bringTo_X5_placeOf : GoodIn wsX5_bringTo wsX5_placeOf := goodIn_r _ [5, 6, 7, 16, 17, 18, 19] (by decide +kernel) (by decide +kernel)
set_option maxRecDepth 20000 in
theorem gX5_bringTo_X5_placeOf : GoodIn wsX5_bringTo (wsV RX5 64 RX5 yX5_placeOf wsX5_placeOf) := goodIn_app (goodIn_of _ (by decide +kernel)) ggX5_bringTo_X5_placeOf
set_option maxRecDepth 20000 in
theorem ggX5_bringTo_X5_exchange : GoodIn wsX5_bringTo wsX5_exchange := goodIn_r _ [11, 7, 12, 13, 14, 4, 15, 6, 16, 17, 18, 19] (by decide +kernel) (by decide +kernel)
set_option maxRecDepth 20000 in
theorem gX5_bringTo_X5_exchange : GoodIn wsX5_bringTo (wsV RX5 68 RX5 yX5_exchange wsX5_exchange) := goodIn_app (goodIn_of _ (by decide +kernel)) ggX5_bringTo_X5_exchange
theorem dX5_bringTo_0 : decode cX5_bringTo 0 = .ok (.aload_n 0, 1) := by decide +kernel
theorem dX5_bringTo_1 : decode cX5_bringTo 1 = .ok (.iload_n 2, 1) := by decide +kernel
theorem dX5_bringTo_2 : decode cX5_bringTo 2 = .ok (.invokevirtual 64, 3) := by decide +kernel
theorem dX5_bringTo_5 : decode cX5_bringTo 5 = .ok (.istore_n 3, 1) := by decide +kernel
theorem dX5_bringTo_6 : decode cX5_bringTo 6 = .ok (.iload_n 3, 1) := by decide +kernel
theorem dX5_bringTo_7 : decode cX5_bringTo 7 = .ok (.istore 4, 2) := by decide +kernel
theorem dX5_bringTo_9 : decode cX5_bringTo 9 = .ok (.iload 4, 2) := by decide +kernel
theorem dX5_bringTo_11 : decode cX5_bringTo 11 = .ok (.iload_n 1, 1) := by decide +kernel
theorem dX5_bringTo_12 : decode cX5_bringTo 12 = .ok (.if_icmp .le 24, 3) := by decide +kernel
theorem dX5_bringTo_15 : decode cX5_bringTo 15 = .ok (.iload 4, 2) := by decide +kernel
theorem dX5_bringTo_17 : decode cX5_bringTo 17 = .ok (.ifCond .le 19, 3) := by decide +kernel
theorem dX5_bringTo_20 : decode cX5_bringTo 20 = .ok (.aload_n 0, 1) := by decide +kernel
theorem dX5_bringTo_21 : decode cX5_bringTo 21 = .ok (.iload 4, 2) := by decide +kernel
theorem dX5_bringTo_23 : decode cX5_bringTo 23 = .ok (.iload 4, 2) := by decide +kernel
theorem dX5_bringTo_25 : decode cX5_bringTo 25 = .ok (.iconst 1, 1) := by decide +kernel
theorem dX5_bringTo_26 : decode cX5_bringTo 26 = .ok (.isub, 1) := by decide +kernel
theorem dX5_bringTo_27 : decode cX5_bringTo 27 = .ok (.invokevirtual 68, 3) := by decide +kernel
theorem dX5_bringTo_30 : decode cX5_bringTo 30 = .ok (.iinc 4 (-1), 3) := by decide +kernel
theorem dX5_bringTo_33 : decode cX5_bringTo 33 = .ok (.goto (-24), 3) := by decide +kernel
theorem dX5_bringTo_36 : decode cX5_bringTo 36 = .ok (.return_, 1) := by decide +kernel
set_option maxRecDepth 20000 in
theorem ggX5_nextOrder_X5_exchange : GoodIn wsX5_nextOrder wsX5_exchange := goodIn_r _ [7, 2, 8, 9, 10, 6, 11, 1, 12, 13, 14, 15] (by decide +kernel) (by decide +kernel)
set_option maxRecDepth 20000 in
theorem gX5_nextOrder_X5_exchange : GoodIn wsX5_nextOrder (wsV RX5 68 RX5 yX5_exchange wsX5_exchange) := goodIn_app (goodIn_of _ (by decide +kernel)) ggX5_nextOrder_X5_exchange
theorem dX5_nextOrder_0 : decode cX5_nextOrder 0 = .ok (.aload_n 0, 1) := by decide +kernel
theorem dX5_nextOrder_1 : decode cX5_nextOrder 1 = .ok (.getfield 18, 3) := by decide +kernel
theorem dX5_nextOrder_4 : decode cX5_nextOrder 4 = .ok (.iconst 2, 1) := by decide +kernel
theorem dX5_nextOrder_5 : decode cX5_nextOrder 5 = .ok (.isub, 1) := by decide +kernel
theorem dX5_nextOrder_6 : decode cX5_nextOrder 6 = .ok (.istore_n 1, 1) := by decide +kernel
theorem dX5_nextOrder_7 : decode cX5_nextOrder 7 = .ok (.iload_n 1, 1) := by decide +kernel
theorem dX5_nextOrder_8 : decode cX5_nextOrder 8 = .ok (.ifCond .lt 26, 3) := by decide +kernel
theorem dX5_nextOrder_11 : decode cX5_nextOrder 11 = .ok (.aload_n 0, 1) := by decide +kernel
theorem dX5_nextOrder_12 : decode cX5_nextOrder 12 = .ok (.getfield 15, 3) := by decide +kernel
theorem dX5_nextOrder_15 : decode cX5_nextOrder 15 = .ok (.iload_n 1, 1) := by decide +kernel
theorem dX5_nextOrder_16 : decode cX5_nextOrder 16 = .ok (.iaload, 1) := by decide +kernel
theorem dX5_nextOrder_17 : decode cX5_nextOrder 17 = .ok (.aload_n 0, 1) := by decide +kernel
theorem dX5_nextOrder_18 : decode cX5_nextOrder 18 = .ok (.getfield 15, 3) := by decide +kernel
theorem dX5_nextOrder_21 : decode cX5_nextOrder 21 = .ok (.iload_n 1, 1) := by decide +kernel
theorem dX5_nextOrder_22 : decode cX5_nextOrder 22 = .ok (.iconst 1, 1) := by decide +kernel
theorem dX5_nextOrder_23 : decode cX5_nextOrder 23 = .ok (.iadd, 1) := by decide +kernel
theorem dX5_nextOrder_24 : decode cX5_nextOrder 24 = .ok (.iaload, 1) := by decide +kernel
theorem dX5_nextOrder_25 : decode cX5_nextOrder 25 = .ok (.if_icmp .le 9, 3) := by decide +kernel
theorem dX5_nextOrder_28 : decode cX5_nextOrder 28 = .ok (.iinc 1 (-1), 3) := by decide +kernel
theorem dX5_nextOrder_31 : decode cX5_nextOrder 31 = .ok (.goto (-24), 3) := by decide +kernel
theorem dX5_nextOrder_34 : decode cX5_nextOrder 34 = .ok (.iload_n 1, 1) := by decide +kernel
theorem dX5_nextOrder_35 : decode cX5_nextOrder 35 = .ok (.ifCond .ge 5, 3) := by decide +kernel
theorem dX5_nextOrder_38 : decode cX5_nextOrder 38 = .ok (.iconst 0, 1) := by decide +kernel
theorem dX5_nextOrder_39 : decode cX5_nextOrder 39 = .ok (.ireturn, 1) := by decide +kernel
theorem dX5_nextOrder_40 : decode cX5_nextOrder 40 = .ok (.aload_n 0, 1) := by decide +kernel
theorem dX5_nextOrder_41 : decode cX5_nextOrder 41 = .ok (.getfield 18, 3) := by decide +kernel
theorem dX5_nextOrder_44 : decode cX5_nextOrder 44 = .ok (.iconst 1, 1) := by decide +kernel
theorem dX5_nextOrder_45 : decode cX5_nextOrder 45 = .ok (.isub, 1) := by decide +kernel
theorem dX5_nextOrder_46 : decode cX5_nextOrder 46 = .ok (.istore_n 2, 1) := by decide +kernel
theorem dX5_nextOrder_47 : decode cX5_nextOrder 47 = .ok (.iload_n 2, 1) := by decide +kernel
theorem dX5_nextOrder_48 : decode cX5_nextOrder 48 = .ok (.iload_n 1, 1) := by decide +kernel
theorem dX5_nextOrder_49 : decode cX5_nextOrder 49 = .ok (.if_icmp .le 24, 3) := by decide +kernel
theorem dX5_nextOrder_52 : decode cX5_nextOrder 52 = .ok (.aload_n 0, 1) := by decide +kernel
theorem dX5_nextOrder_53 : decode cX5_nextOrder 53 = .ok (.getfield 15, 3) := by decide +kernel
theorem dX5_nextOrder_56 : decode cX5_nextOrder 56 = .ok (.iload_n 2, 1) := by decide +kernel
theorem dX5_nextOrder_57 : decode cX5_nextOrder 57 = .ok (.iaload, 1) := by decide +kernel
theorem dX5_nextOrder_58 : decode cX5_nextOrder 58 = .ok (.aload_n 0, 1) := by decide +kernel
theorem dX5_nextOrder_59 : decode cX5_nextOrder 59 = .ok (.getfield 15, 3) := by decide +kernel
theorem dX5_nextOrder_62 : decode cX5_nextOrder 62 = .ok (.iload_n 1, 1) := by decide +kernel
theorem dX5_nextOrder_63 : decode cX5_nextOrder 63 = .ok (.iaload, 1) := by decide +kernel
theorem dX5_nextOrder_64 : decode cX5_nextOrder 64 = .ok (.if_icmp .ge 9, 3) := by decide +kernel
theorem dX5_nextOrder_67 : decode cX5_nextOrder 67 = .ok (.iinc 2 (-1), 3) := by decide +kernel
theorem dX5_nextOrder_70 : decode cX5_nextOrder 70 = .ok (.goto (-23), 3) := by decide +kernel
theorem dX5_nextOrder_73 : decode cX5_nextOrder 73 = .ok (.aload_n 0, 1) := by decide +kernel
theorem dX5_nextOrder_74 : decode cX5_nextOrder 74 = .ok (.iload_n 1, 1) := by decide +kernel
theorem dX5_nextOrder_75 : decode cX5_nextOrder 75 = .ok (.iload_n 2, 1) := by decide +kernel
theorem dX5_nextOrder_76 : decode cX5_nextOrder 76 = .ok (.invokevirtual 68, 3) := by decide +kernel
theorem dX5_nextOrder_79 : decode cX5_nextOrder 79 = .ok (.iload_n 1, 1) := by decide +kernel
theorem dX5_nextOrder_80 : decode cX5_nextOrder 80 = .ok (.iconst 1, 1) := by decide +kernel
theorem dX5_nextOrder_81 : decode cX5_nextOrder 81 = .ok (.iadd, 1) := by decide +kernel
theorem dX5_nextOrder_82 : decode cX5_nextOrder 82 = .ok (.istore_n 3, 1) := by decide +kernel
theorem dX5_nextOrder_83 : decode cX5_nextOrder 83 = .ok (.aload_n 0, 1) := by decide +kernel
theorem dX5_nextOrder_84 : decode cX5_nextOrder 84 = .ok (.getfield 18, 3) := by decide +kernel
theorem dX5_nextOrder_87 : decode cX5_nextOrder 87 = .ok (.iconst 1, 1) := by decide +kernel
theorem dX5_nextOrder_88 : decode cX5_nextOrder 88 = .ok (.isub, 1) := by decide +kernel
theorem dX5_nextOrder_89 : decode cX5_nextOrder 89 = .ok (.istore 4, 2) := by decide +kernel
theorem dX5_nextOrder_91 : decode cX5_nextOrder 91 = .ok (.iload_n 3, 1) := by decide +kernel
theorem dX5_nextOrder_92 : decode cX5_nextOrder 92 = .ok (.iload 4, 2) := by decide +kernel
theorem dX5_nextOrder_94 : decode cX5_nextOrder 94 = .ok (.if_icmp .ge 19, 3) := by decide +kernel
theorem dX5_nextOrder_97 : decode cX5_nextOrder 97 = .ok (.aload_n 0, 1) := by decide +kernel
theorem dX5_nextOrder_98 : decode cX5_nextOrder 98 = .ok (.iload_n 3, 1) := by decide +kernel
theorem dX5_nextOrder_99 : decode cX5_nextOrder 99 = .ok (.iload 4, 2) := by decide +kernel
theorem dX5_nextOrder_101 : decode cX5_nextOrder 101 = .ok (.invokevirtual 68, 3) := by decide +kernel
theorem dX5_nextOrder_104 : decode cX5_nextOrder 104 = .ok (.iinc 3 1, 3) := by decide +kernel
theorem dX5_nextOrder_107 : decode cX5_nextOrder 107 = .ok (.iinc 4 (-1), 3) := by decide +kernel
theorem dX5_nextOrder_110 : decode cX5_nextOrder 110 = .ok (.goto (-19), 3) := by decide +kernel
theorem dX5_nextOrder_113 : decode cX5_nextOrder 113 = .ok (.iconst 1, 1) := by decide +kernel
theorem dX5_nextOrder_114 : decode cX5_nextOrder 114 = .ok (.ireturn, 1) := by decide +kernel
set_option maxRecDepth 20000 in
theorem ggX5_doneIn_X5_fact : GoodIn wsX5_doneIn wsX5_fact := goodIn_r _ [8, 2, 9, 10, 11, 12, 13] (by decide +kernel) (by decide +kernel)
set_option maxRecDepth 20000 in
theorem gX5_doneIn_X5_fact : GoodIn wsX5_doneIn (wsV RX5 45 RX5 yX5_fact wsX5_fact) := goodIn_app (goodIn_of _ (by decide +kernel)) ggX5_doneIn_X5_fact
theorem dX5_doneIn_0 : decode cX5_doneIn 0 = .ok (.aload_n 0, 1) := by decide +kernel
theorem dX5_doneIn_1 : decode cX5_doneIn 1 = .ok (.getfield 22, 3) := by decide +kernel
theorem dX5_doneIn_4 : decode cX5_doneIn 4 = .ok (.istore_n 2, 1) := by decide +kernel
theorem dX5_doneIn_5 : decode cX5_doneIn 5 = .ok (.iconst 0, 1) := by decide +kernel
theorem dX5_doneIn_6 : decode cX5_doneIn 6 = .ok (.istore_n 3, 1) := by decide +kernel
theorem dX5_doneIn_7 : decode cX5_doneIn 7 = .ok (.iload_n 3, 1) := by decide +kernel
theorem dX5_doneIn_8 : decode cX5_doneIn 8 = .ok (.iload_n 1, 1) := by decide +kernel
theorem dX5_doneIn_9 : decode cX5_doneIn 9 = .ok (.if_icmp .gt 31, 3) := by decide +kernel
theorem dX5_doneIn_12 : decode cX5_doneIn 12 = .ok (.iload_n 3, 1) := by decide +kernel
theorem dX5_doneIn_13 : decode cX5_doneIn 13 = .ok (.aload_n 0, 1) := by decide +kernel
theorem dX5_doneIn_14 : decode cX5_doneIn 14 = .ok (.getfield 18, 3) := by decide +kernel
theorem dX5_doneIn_17 : decode cX5_doneIn 17 = .ok (.if_icmp .ge 23, 3) := by decide +kernel
theorem dX5_doneIn_20 : decode cX5_doneIn 20 = .ok (.iload_n 2, 1) := by decide +kernel
theorem dX5_doneIn_21 : decode cX5_doneIn 21 = .ok (.aload_n 0, 1) := by decide +kernel
theorem dX5_doneIn_22 : decode cX5_doneIn 22 = .ok (.aload_n 0, 1) := by decide +kernel
theorem dX5_doneIn_23 : decode cX5_doneIn 23 = .ok (.getfield 15, 3) := by decide +kernel
theorem dX5_doneIn_26 : decode cX5_doneIn 26 = .ok (.iload_n 3, 1) := by decide +kernel
theorem dX5_doneIn_27 : decode cX5_doneIn 27 = .ok (.iaload, 1) := by decide +kernel
theorem dX5_doneIn_28 : decode cX5_doneIn 28 = .ok (.iconst 1, 1) := by decide +kernel
theorem dX5_doneIn_29 : decode cX5_doneIn 29 = .ok (.invokevirtual 45, 3) := by decide +kernel
theorem dX5_doneIn_32 : decode cX5_doneIn 32 = .ok (.iadd, 1) := by decide +kernel
theorem dX5_doneIn_33 : decode cX5_doneIn 33 = .ok (.istore_n 2, 1) := by decide +kernel
theorem dX5_doneIn_34 : decode cX5_doneIn 34 = .ok (.iinc 3 1, 3) := by decide +kernel
theorem dX5_doneIn_37 : decode cX5_doneIn 37 = .ok (.goto (-30), 3) := by decide +kernel
theorem dX5_doneIn_40 : decode cX5_doneIn 40 = .ok (.iload_n 2, 1) := by decide +kernel
theorem dX5_doneIn_41 : decode cX5_doneIn 41 = .ok (.ireturn, 1) := by decide +kernel
set_option maxRecDepth 20000 in
theorem ggX5_ownHour_X5_fact : GoodIn wsX5_ownHour wsX5_fact := goodIn_r _ [8, 2, 9, 10, 11, 12, 13] (by decide +kernel) (by decide +kernel)
set_option maxRecDepth 20000 in
theorem gX5_ownHour_X5_fact : GoodIn wsX5_ownHour (wsV RX5 45 RX5 yX5_fact wsX5_fact) := goodIn_app (goodIn_of _ (by decide +kernel)) ggX5_ownHour_X5_fact
theorem dX5_ownHour_0 : decode cX5_ownHour 0 = .ok (.aload_n 0, 1) := by decide +kernel
theorem dX5_ownHour_1 : decode cX5_ownHour 1 = .ok (.getfield 22, 3) := by decide +kernel
theorem dX5_ownHour_4 : decode cX5_ownHour 4 = .ok (.istore_n 2, 1) := by decide +kernel
theorem dX5_ownHour_5 : decode cX5_ownHour 5 = .ok (.iconst 0, 1) := by decide +kernel
theorem dX5_ownHour_6 : decode cX5_ownHour 6 = .ok (.istore_n 3, 1) := by decide +kernel
theorem dX5_ownHour_7 : decode cX5_ownHour 7 = .ok (.iload_n 3, 1) := by decide +kernel
theorem dX5_ownHour_8 : decode cX5_ownHour 8 = .ok (.aload_n 0, 1) := by decide +kernel
theorem dX5_ownHour_9 : decode cX5_ownHour 9 = .ok (.getfield 18, 3) := by decide +kernel
theorem dX5_ownHour_12 : decode cX5_ownHour 12 = .ok (.if_icmp .ge 36, 3) := by decide +kernel
theorem dX5_ownHour_15 : decode cX5_ownHour 15 = .ok (.iload_n 2, 1) := by decide +kernel
theorem dX5_ownHour_16 : decode cX5_ownHour 16 = .ok (.aload_n 0, 1) := by decide +kernel
theorem dX5_ownHour_17 : decode cX5_ownHour 17 = .ok (.aload_n 0, 1) := by decide +kernel
theorem dX5_ownHour_18 : decode cX5_ownHour 18 = .ok (.getfield 15, 3) := by decide +kernel
theorem dX5_ownHour_21 : decode cX5_ownHour 21 = .ok (.iload_n 3, 1) := by decide +kernel
theorem dX5_ownHour_22 : decode cX5_ownHour 22 = .ok (.iaload, 1) := by decide +kernel
theorem dX5_ownHour_23 : decode cX5_ownHour 23 = .ok (.iconst 1, 1) := by decide +kernel
theorem dX5_ownHour_24 : decode cX5_ownHour 24 = .ok (.invokevirtual 45, 3) := by decide +kernel
theorem dX5_ownHour_27 : decode cX5_ownHour 27 = .ok (.iadd, 1) := by decide +kernel
theorem dX5_ownHour_28 : decode cX5_ownHour 28 = .ok (.istore_n 2, 1) := by decide +kernel
theorem dX5_ownHour_29 : decode cX5_ownHour 29 = .ok (.aload_n 0, 1) := by decide +kernel
theorem dX5_ownHour_30 : decode cX5_ownHour 30 = .ok (.getfield 15, 3) := by decide +kernel
theorem dX5_ownHour_33 : decode cX5_ownHour 33 = .ok (.iload_n 3, 1) := by decide +kernel
theorem dX5_ownHour_34 : decode cX5_ownHour 34 = .ok (.iaload, 1) := by decide +kernel
theorem dX5_ownHour_35 : decode cX5_ownHour 35 = .ok (.iload_n 1, 1) := by decide +kernel
theorem dX5_ownHour_36 : decode cX5_ownHour 36 = .ok (.if_icmp .ne 6, 3) := by decide +kernel
theorem dX5_ownHour_39 : decode cX5_ownHour 39 = .ok (.goto 9, 3) := by decide +kernel
theorem dX5_ownHour_42 : decode cX5_ownHour 42 = .ok (.iinc 3 1, 3) := by decide +kernel
theorem dX5_ownHour_45 : decode cX5_ownHour 45 = .ok (.goto (-38), 3) := by decide +kernel
theorem dX5_ownHour_48 : decode cX5_ownHour 48 = .ok (.iload_n 2, 1) := by decide +kernel
theorem dX5_ownHour_49 : decode cX5_ownHour 49 = .ok (.bipush 24, 2) := by decide +kernel
theorem dX5_ownHour_51 : decode cX5_ownHour 51 = .ok (.irem, 1) := by decide +kernel
theorem dX5_ownHour_52 : decode cX5_ownHour 52 = .ok (.ireturn, 1) := by decide +kernel
set_option maxRecDepth 20000 in
theorem ggX5_wrongOf_X5_fact : GoodIn wsX5_wrongOf wsX5_fact := goodIn_r _ [9, 10, 11, 16, 17, 18, 19] (by decide +kernel) (by decide +kernel)
set_option maxRecDepth 20000 in
theorem gX5_wrongOf_X5_fact : GoodIn wsX5_wrongOf (wsV RX5 45 RX5 yX5_fact wsX5_fact) := goodIn_app (goodIn_of _ (by decide +kernel)) ggX5_wrongOf_X5_fact
set_option maxRecDepth 20000 in
theorem ggX5_wrongOf_J9_floorMod_7cf53 : GoodIn wsX5_wrongOf wsJ9_floorMod_7cf53 := goodIn_r _ [15] (by decide +kernel) (by decide +kernel)
set_option maxRecDepth 20000 in
theorem gX5_wrongOf_J9_floorMod_7cf53 : GoodIn wsX5_wrongOf (va_wsS RX5 72 yJ9_floorMod_7cf53 wsJ9_floorMod_7cf53) := goodIn_app (goodIn_of _ (by decide +kernel)) ggX5_wrongOf_J9_floorMod_7cf53
theorem dX5_wrongOf_0 : decode cX5_wrongOf 0 = .ok (.iload_n 2, 1) := by decide +kernel
theorem dX5_wrongOf_1 : decode cX5_wrongOf 1 = .ok (.aload_n 0, 1) := by decide +kernel
theorem dX5_wrongOf_2 : decode cX5_wrongOf 2 = .ok (.iload_n 1, 1) := by decide +kernel
theorem dX5_wrongOf_3 : decode cX5_wrongOf 3 = .ok (.iconst 2, 1) := by decide +kernel
theorem dX5_wrongOf_4 : decode cX5_wrongOf 4 = .ok (.invokevirtual 45, 3) := by decide +kernel
theorem dX5_wrongOf_7 : decode cX5_wrongOf 7 = .ok (.isub, 1) := by decide +kernel
theorem dX5_wrongOf_8 : decode cX5_wrongOf 8 = .ok (.bipush 24, 2) := by decide +kernel
theorem dX5_wrongOf_10 : decode cX5_wrongOf 10 = .ok (.invokestatic 72, 3) := by decide +kernel
theorem dX5_wrongOf_13 : decode cX5_wrongOf 13 = .ok (.istore_n 3, 1) := by decide +kernel
theorem dX5_wrongOf_14 : decode cX5_wrongOf 14 = .ok (.aload_n 0, 1) := by decide +kernel
theorem dX5_wrongOf_15 : decode cX5_wrongOf 15 = .ok (.iload_n 1, 1) := by decide +kernel
theorem dX5_wrongOf_16 : decode cX5_wrongOf 16 = .ok (.iconst 3, 1) := by decide +kernel
theorem dX5_wrongOf_17 : decode cX5_wrongOf 17 = .ok (.invokevirtual 45, 3) := by decide +kernel
theorem dX5_wrongOf_20 : decode cX5_wrongOf 20 = .ok (.iload_n 3, 1) := by decide +kernel
theorem dX5_wrongOf_21 : decode cX5_wrongOf 21 = .ok (.bipush 24, 2) := by decide +kernel
theorem dX5_wrongOf_23 : decode cX5_wrongOf 23 = .ok (.iload_n 3, 1) := by decide +kernel
theorem dX5_wrongOf_24 : decode cX5_wrongOf 24 = .ok (.isub, 1) := by decide +kernel
theorem dX5_wrongOf_25 : decode cX5_wrongOf 25 = .ok (.invokestatic 77, 3) := by decide +kernel
theorem dX5_wrongOf_28 : decode cX5_wrongOf 28 = .ok (.imul, 1) := by decide +kernel
theorem dX5_wrongOf_29 : decode cX5_wrongOf 29 = .ok (.ireturn, 1) := by decide +kernel
set_option maxRecDepth 20000 in
theorem ggX5_wrongOfAll_X5_fact : GoodIn wsX5_wrongOfAll wsX5_fact := goodIn_r _ [8, 2, 9, 22, 23, 24, 25] (by decide +kernel) (by decide +kernel)
set_option maxRecDepth 20000 in
theorem gX5_wrongOfAll_X5_fact : GoodIn wsX5_wrongOfAll (wsV RX5 45 RX5 yX5_fact wsX5_fact) := goodIn_app (goodIn_of _ (by decide +kernel)) ggX5_wrongOfAll_X5_fact
set_option maxRecDepth 20000 in
theorem ggX5_wrongOfAll_X5_wrongOf : GoodIn wsX5_wrongOfAll wsX5_wrongOf := goodIn_r _ [13, 14, 15, 16, 17, 4, 5, 6, 7, 8, 2, 9, 18, 19, 20, 21, 22, 23, 24, 25] (by decide +kernel) (by decide +kernel)
set_option maxRecDepth 20000 in
theorem gX5_wrongOfAll_X5_wrongOf : GoodIn wsX5_wrongOfAll (wsV RX5 80 RX5 yX5_wrongOf wsX5_wrongOf) := goodIn_app (goodIn_of _ (by decide +kernel)) ggX5_wrongOfAll_X5_wrongOf
theorem dX5_wrongOfAll_0 : decode cX5_wrongOfAll 0 = .ok (.iconst 0, 1) := by decide +kernel
theorem dX5_wrongOfAll_1 : decode cX5_wrongOfAll 1 = .ok (.istore_n 1, 1) := by decide +kernel
theorem dX5_wrongOfAll_2 : decode cX5_wrongOfAll 2 = .ok (.aload_n 0, 1) := by decide +kernel
theorem dX5_wrongOfAll_3 : decode cX5_wrongOfAll 3 = .ok (.getfield 22, 3) := by decide +kernel
theorem dX5_wrongOfAll_6 : decode cX5_wrongOfAll 6 = .ok (.istore_n 2, 1) := by decide +kernel
theorem dX5_wrongOfAll_7 : decode cX5_wrongOfAll 7 = .ok (.iconst 0, 1) := by decide +kernel
theorem dX5_wrongOfAll_8 : decode cX5_wrongOfAll 8 = .ok (.istore_n 3, 1) := by decide +kernel
theorem dX5_wrongOfAll_9 : decode cX5_wrongOfAll 9 = .ok (.iload_n 3, 1) := by decide +kernel
theorem dX5_wrongOfAll_10 : decode cX5_wrongOfAll 10 = .ok (.aload_n 0, 1) := by decide +kernel
theorem dX5_wrongOfAll_11 : decode cX5_wrongOfAll 11 = .ok (.getfield 18, 3) := by decide +kernel
theorem dX5_wrongOfAll_14 : decode cX5_wrongOfAll 14 = .ok (.if_icmp .ge 37, 3) := by decide +kernel
theorem dX5_wrongOfAll_17 : decode cX5_wrongOfAll 17 = .ok (.iload_n 2, 1) := by decide +kernel
theorem dX5_wrongOfAll_18 : decode cX5_wrongOfAll 18 = .ok (.aload_n 0, 1) := by decide +kernel
theorem dX5_wrongOfAll_19 : decode cX5_wrongOfAll 19 = .ok (.aload_n 0, 1) := by decide +kernel
theorem dX5_wrongOfAll_20 : decode cX5_wrongOfAll 20 = .ok (.getfield 15, 3) := by decide +kernel
theorem dX5_wrongOfAll_23 : decode cX5_wrongOfAll 23 = .ok (.iload_n 3, 1) := by decide +kernel
theorem dX5_wrongOfAll_24 : decode cX5_wrongOfAll 24 = .ok (.iaload, 1) := by decide +kernel
theorem dX5_wrongOfAll_25 : decode cX5_wrongOfAll 25 = .ok (.iconst 1, 1) := by decide +kernel
theorem dX5_wrongOfAll_26 : decode cX5_wrongOfAll 26 = .ok (.invokevirtual 45, 3) := by decide +kernel
theorem dX5_wrongOfAll_29 : decode cX5_wrongOfAll 29 = .ok (.iadd, 1) := by decide +kernel
theorem dX5_wrongOfAll_30 : decode cX5_wrongOfAll 30 = .ok (.istore_n 2, 1) := by decide +kernel
theorem dX5_wrongOfAll_31 : decode cX5_wrongOfAll 31 = .ok (.iload_n 1, 1) := by decide +kernel
theorem dX5_wrongOfAll_32 : decode cX5_wrongOfAll 32 = .ok (.aload_n 0, 1) := by decide +kernel
theorem dX5_wrongOfAll_33 : decode cX5_wrongOfAll 33 = .ok (.aload_n 0, 1) := by decide +kernel
theorem dX5_wrongOfAll_34 : decode cX5_wrongOfAll 34 = .ok (.getfield 15, 3) := by decide +kernel
theorem dX5_wrongOfAll_37 : decode cX5_wrongOfAll 37 = .ok (.iload_n 3, 1) := by decide +kernel
theorem dX5_wrongOfAll_38 : decode cX5_wrongOfAll 38 = .ok (.iaload, 1) := by decide +kernel
theorem dX5_wrongOfAll_39 : decode cX5_wrongOfAll 39 = .ok (.iload_n 2, 1) := by decide +kernel
theorem dX5_wrongOfAll_40 : decode cX5_wrongOfAll 40 = .ok (.invokevirtual 80, 3) := by decide +kernel
theorem dX5_wrongOfAll_43 : decode cX5_wrongOfAll 43 = .ok (.iadd, 1) := by decide +kernel
theorem dX5_wrongOfAll_44 : decode cX5_wrongOfAll 44 = .ok (.istore_n 1, 1) := by decide +kernel
theorem dX5_wrongOfAll_45 : decode cX5_wrongOfAll 45 = .ok (.iinc 3 1, 3) := by decide +kernel
theorem dX5_wrongOfAll_48 : decode cX5_wrongOfAll 48 = .ok (.goto (-39), 3) := by decide +kernel
theorem dX5_wrongOfAll_51 : decode cX5_wrongOfAll 51 = .ok (.iload_n 1, 1) := by decide +kernel
theorem dX5_wrongOfAll_52 : decode cX5_wrongOfAll 52 = .ok (.ireturn, 1) := by decide +kernel
theorem dX5_lastsOf_0 : decode cX5_lastsOf 0 = .ok (.iload_n 0, 1) := by decide +kernel
theorem dX5_lastsOf_1 : decode cX5_lastsOf 1 = .ok (.ifCond .lt 19, 3) := by decide +kernel
theorem dX5_lastsOf_4 : decode cX5_lastsOf 4 = .ok (.iload_n 0, 1) := by decide +kernel
theorem dX5_lastsOf_5 : decode cX5_lastsOf 5 = .ok (.getstatic 83, 3) := by decide +kernel
theorem dX5_lastsOf_8 : decode cX5_lastsOf 8 = .ok (.arraylength, 1) := by decide +kernel
theorem dX5_lastsOf_9 : decode cX5_lastsOf 9 = .ok (.if_icmp .ge 11, 3) := by decide +kernel
theorem dX5_lastsOf_12 : decode cX5_lastsOf 12 = .ok (.getstatic 83, 3) := by decide +kernel
theorem dX5_lastsOf_15 : decode cX5_lastsOf 15 = .ok (.iload_n 0, 1) := by decide +kernel
theorem dX5_lastsOf_16 : decode cX5_lastsOf 16 = .ok (.iaload, 1) := by decide +kernel
theorem dX5_lastsOf_17 : decode cX5_lastsOf 17 = .ok (.goto 4, 3) := by decide +kernel
theorem dX5_lastsOf_20 : decode cX5_lastsOf 20 = .ok (.iconst 0, 1) := by decide +kernel
theorem dX5_lastsOf_21 : decode cX5_lastsOf 21 = .ok (.ireturn, 1) := by decide +kernel
set_option maxRecDepth 20000 in
theorem ggX5_boxAt_X5_fact : GoodIn wsX5_boxAt wsX5_fact := goodIn_r _ [6, 1, 7, 12, 13, 14, 15] (by decide +kernel) (by decide +kernel)
set_option maxRecDepth 20000 in
theorem gX5_boxAt_X5_fact : GoodIn wsX5_boxAt (wsV RX5 45 RX5 yX5_fact wsX5_fact) := goodIn_app (goodIn_of _ (by decide +kernel)) ggX5_boxAt_X5_fact
set_option maxRecDepth 20000 in
theorem ggX5_boxAt_X5_lastsOf : GoodIn wsX5_boxAt wsX5_lastsOf := goodIn_r _ [10, 11] (by decide +kernel) (by decide +kernel)
set_option maxRecDepth 20000 in
theorem gX5_boxAt_X5_lastsOf : GoodIn wsX5_boxAt (va_wsS RX5 86 yX5_lastsOf wsX5_lastsOf) := goodIn_app (goodIn_of _ (by decide +kernel)) ggX5_boxAt_X5_lastsOf
theorem dX5_boxAt_0 : decode cX5_boxAt 0 = .ok (.bipush (-4), 2) := by decide +kernel
theorem dX5_boxAt_2 : decode cX5_boxAt 2 = .ok (.istore_n 3, 1) := by decide +kernel
theorem dX5_boxAt_3 : decode cX5_boxAt 3 = .ok (.iconst 0, 1) := by decide +kernel
theorem dX5_boxAt_4 : decode cX5_boxAt 4 = .ok (.istore 4, 2) := by decide +kernel
theorem dX5_boxAt_6 : decode cX5_boxAt 6 = .ok (.iconst 0, 1) := by decide +kernel
theorem dX5_boxAt_7 : decode cX5_boxAt 7 = .ok (.istore 5, 2) := by decide +kernel
theorem dX5_boxAt_9 : decode cX5_boxAt 9 = .ok (.iload 5, 2) := by decide +kernel
theorem dX5_boxAt_11 : decode cX5_boxAt 11 = .ok (.aload_n 0, 1) := by decide +kernel
theorem dX5_boxAt_12 : decode cX5_boxAt 12 = .ok (.getfield 18, 3) := by decide +kernel
theorem dX5_boxAt_15 : decode cX5_boxAt 15 = .ok (.if_icmp .ge 78, 3) := by decide +kernel
theorem dX5_boxAt_18 : decode cX5_boxAt 18 = .ok (.aload_n 0, 1) := by decide +kernel
theorem dX5_boxAt_19 : decode cX5_boxAt 19 = .ok (.iload 5, 2) := by decide +kernel
theorem dX5_boxAt_21 : decode cX5_boxAt 21 = .ok (.iconst 4, 1) := by decide +kernel
theorem dX5_boxAt_22 : decode cX5_boxAt 22 = .ok (.invokevirtual 45, 3) := by decide +kernel
theorem dX5_boxAt_25 : decode cX5_boxAt 25 = .ok (.istore 6, 2) := by decide +kernel
theorem dX5_boxAt_27 : decode cX5_boxAt 27 = .ok (.aload_n 0, 1) := by decide +kernel
theorem dX5_boxAt_28 : decode cX5_boxAt 28 = .ok (.iload 5, 2) := by decide +kernel
theorem dX5_boxAt_30 : decode cX5_boxAt 30 = .ok (.iconst 5, 1) := by decide +kernel
theorem dX5_boxAt_31 : decode cX5_boxAt 31 = .ok (.invokevirtual 45, 3) := by decide +kernel
theorem dX5_boxAt_34 : decode cX5_boxAt 34 = .ok (.iload_n 1, 1) := by decide +kernel
theorem dX5_boxAt_35 : decode cX5_boxAt 35 = .ok (.if_icmp .ne 20, 3) := by decide +kernel
theorem dX5_boxAt_38 : decode cX5_boxAt 38 = .ok (.iload 6, 2) := by decide +kernel
theorem dX5_boxAt_40 : decode cX5_boxAt 40 = .ok (.iload 4, 2) := by decide +kernel
theorem dX5_boxAt_42 : decode cX5_boxAt 42 = .ok (.if_icmp .lt 13, 3) := by decide +kernel
theorem dX5_boxAt_45 : decode cX5_boxAt 45 = .ok (.iload 6, 2) := by decide +kernel
theorem dX5_boxAt_47 : decode cX5_boxAt 47 = .ok (.iload_n 2, 1) := by decide +kernel
theorem dX5_boxAt_48 : decode cX5_boxAt 48 = .ok (.if_icmp .gt 7, 3) := by decide +kernel
theorem dX5_boxAt_51 : decode cX5_boxAt 51 = .ok (.iconst 1, 1) := by decide +kernel
theorem dX5_boxAt_52 : decode cX5_boxAt 52 = .ok (.goto 4, 3) := by decide +kernel
theorem dX5_boxAt_55 : decode cX5_boxAt 55 = .ok (.iconst 0, 1) := by decide +kernel
theorem dX5_boxAt_56 : decode cX5_boxAt 56 = .ok (.istore 7, 2) := by decide +kernel
theorem dX5_boxAt_58 : decode cX5_boxAt 58 = .ok (.iload 7, 2) := by decide +kernel
theorem dX5_boxAt_60 : decode cX5_boxAt 60 = .ok (.ifCond .eq 27, 3) := by decide +kernel
theorem dX5_boxAt_63 : decode cX5_boxAt 63 = .ok (.iload_n 2, 1) := by decide +kernel
theorem dX5_boxAt_64 : decode cX5_boxAt 64 = .ok (.iload 6, 2) := by decide +kernel
theorem dX5_boxAt_66 : decode cX5_boxAt 66 = .ok (.isub, 1) := by decide +kernel
theorem dX5_boxAt_67 : decode cX5_boxAt 67 = .ok (.aload_n 0, 1) := by decide +kernel
theorem dX5_boxAt_68 : decode cX5_boxAt 68 = .ok (.iload 5, 2) := by decide +kernel
theorem dX5_boxAt_70 : decode cX5_boxAt 70 = .ok (.iconst 0, 1) := by decide +kernel
theorem dX5_boxAt_71 : decode cX5_boxAt 71 = .ok (.invokevirtual 45, 3) := by decide +kernel
theorem dX5_boxAt_74 : decode cX5_boxAt 74 = .ok (.invokestatic 86, 3) := by decide +kernel
theorem dX5_boxAt_77 : decode cX5_boxAt 77 = .ok (.if_icmp .ge 10, 3) := by decide +kernel
theorem dX5_boxAt_80 : decode cX5_boxAt 80 = .ok (.iload 5, 2) := by decide +kernel
theorem dX5_boxAt_82 : decode cX5_boxAt 82 = .ok (.istore_n 3, 1) := by decide +kernel
theorem dX5_boxAt_83 : decode cX5_boxAt 83 = .ok (.iload 6, 2) := by decide +kernel
theorem dX5_boxAt_85 : decode cX5_boxAt 85 = .ok (.istore 4, 2) := by decide +kernel
theorem dX5_boxAt_87 : decode cX5_boxAt 87 = .ok (.iinc 5 1, 3) := by decide +kernel
theorem dX5_boxAt_90 : decode cX5_boxAt 90 = .ok (.goto (-81), 3) := by decide +kernel
theorem dX5_boxAt_93 : decode cX5_boxAt 93 = .ok (.iload_n 3, 1) := by decide +kernel
theorem dX5_boxAt_94 : decode cX5_boxAt 94 = .ok (.ireturn, 1) := by decide +kernel
set_option maxRecDepth 20000 in
theorem ggX5_oclockBy_X5_ownHour : GoodIn wsX5_oclockBy wsX5_ownHour := goodIn_r _ [5, 6, 7, 8, 9, 10, 11, 4, 12, 13, 18, 19, 20, 21] (by decide +kernel) (by decide +kernel)
set_option maxRecDepth 20000 in
theorem gX5_oclockBy_X5_ownHour : GoodIn wsX5_oclockBy (wsV RX5 89 RX5 yX5_ownHour wsX5_ownHour) := goodIn_app (goodIn_of _ (by decide +kernel)) ggX5_oclockBy_X5_ownHour
set_option maxRecDepth 20000 in
theorem ggX5_oclockBy_X5_fact : GoodIn wsX5_oclockBy wsX5_fact := goodIn_r _ [12, 7, 13, 18, 19, 20, 21] (by decide +kernel) (by decide +kernel)
set_option maxRecDepth 20000 in
theorem gX5_oclockBy_X5_fact : GoodIn wsX5_oclockBy (wsV RX5 45 RX5 yX5_fact wsX5_fact) := goodIn_app (goodIn_of _ (by decide +kernel)) ggX5_oclockBy_X5_fact
set_option maxRecDepth 20000 in
theorem ggX5_oclockBy_J9_floorMod_7cf53 : GoodIn wsX5_oclockBy wsJ9_floorMod_7cf53 := goodIn_r _ [17] (by decide +kernel) (by decide +kernel)
set_option maxRecDepth 20000 in
theorem gX5_oclockBy_J9_floorMod_7cf53 : GoodIn wsX5_oclockBy (va_wsS RX5 72 yJ9_floorMod_7cf53 wsJ9_floorMod_7cf53) := goodIn_app (goodIn_of _ (by decide +kernel)) ggX5_oclockBy_J9_floorMod_7cf53
theorem dX5_oclockBy_0 : decode cX5_oclockBy 0 = .ok (.aload_n 0, 1) := by decide +kernel
theorem dX5_oclockBy_1 : decode cX5_oclockBy 1 = .ok (.iload_n 1, 1) := by decide +kernel
theorem dX5_oclockBy_2 : decode cX5_oclockBy 2 = .ok (.invokevirtual 89, 3) := by decide +kernel
theorem dX5_oclockBy_5 : decode cX5_oclockBy 5 = .ok (.iload_n 2, 1) := by decide +kernel
theorem dX5_oclockBy_6 : decode cX5_oclockBy 6 = .ok (.iadd, 1) := by decide +kernel
theorem dX5_oclockBy_7 : decode cX5_oclockBy 7 = .ok (.aload_n 0, 1) := by decide +kernel
theorem dX5_oclockBy_8 : decode cX5_oclockBy 8 = .ok (.iload_n 1, 1) := by decide +kernel
theorem dX5_oclockBy_9 : decode cX5_oclockBy 9 = .ok (.iconst 4, 1) := by decide +kernel
theorem dX5_oclockBy_10 : decode cX5_oclockBy 10 = .ok (.invokevirtual 45, 3) := by decide +kernel
theorem dX5_oclockBy_13 : decode cX5_oclockBy 13 = .ok (.isub, 1) := by decide +kernel
theorem dX5_oclockBy_14 : decode cX5_oclockBy 14 = .ok (.bipush 24, 2) := by decide +kernel
theorem dX5_oclockBy_16 : decode cX5_oclockBy 16 = .ok (.invokestatic 72, 3) := by decide +kernel
theorem dX5_oclockBy_19 : decode cX5_oclockBy 19 = .ok (.ireturn, 1) := by decide +kernel
set_option maxRecDepth 20000 in
theorem ggX5_oclock_X5_boxAt : GoodIn wsX5_oclock wsX5_boxAt := goodIn_r _ [5, 6, 7, 8, 9, 4, 10, 11, 12, 13, 14, 15, 30, 31, 32, 33] (by decide +kernel) (by decide +kernel)
set_option maxRecDepth 20000 in
theorem gX5_oclock_X5_boxAt : GoodIn wsX5_oclock (wsV RX5 92 RX5 yX5_boxAt wsX5_boxAt) := goodIn_app (goodIn_of _ (by decide +kernel)) ggX5_oclock_X5_boxAt
set_option maxRecDepth 20000 in
theorem ggX5_oclock_X5_oclockBy : GoodIn wsX5_oclock wsX5_oclockBy := goodIn_r _ [19, 20, 21, 22, 4, 23, 24, 6, 25, 7, 8, 9, 10, 11, 26, 27, 28, 29, 30, 31, 32, 33] (by decide +kernel) (by decide +kernel)
set_option maxRecDepth 20000 in
theorem gX5_oclock_X5_oclockBy : GoodIn wsX5_oclock (wsV RX5 95 RX5 yX5_oclockBy wsX5_oclockBy) := goodIn_app (goodIn_of _ (by decide +kernel)) ggX5_oclock_X5_oclockBy
theorem dX5_oclock_0 : decode cX5_oclock 0 = .ok (.aload_n 0, 1) := by decide +kernel
theorem dX5_oclock_1 : decode cX5_oclock 1 = .ok (.iload_n 1, 1) := by decide +kernel
theorem dX5_oclock_2 : decode cX5_oclock 2 = .ok (.iload_n 2, 1) := by decide +kernel
theorem dX5_oclock_3 : decode cX5_oclock 3 = .ok (.invokevirtual 92, 3) := by decide +kernel
theorem dX5_oclock_6 : decode cX5_oclock 6 = .ok (.istore_n 3, 1) := by decide +kernel
theorem dX5_oclock_7 : decode cX5_oclock 7 = .ok (.iload_n 3, 1) := by decide +kernel
theorem dX5_oclock_8 : decode cX5_oclock 8 = .ok (.bipush (-4), 2) := by decide +kernel
theorem dX5_oclock_10 : decode cX5_oclock 10 = .ok (.if_icmp .ne 7, 3) := by decide +kernel
theorem dX5_oclock_13 : decode cX5_oclock 13 = .ok (.iload_n 2, 1) := by decide +kernel
theorem dX5_oclock_14 : decode cX5_oclock 14 = .ok (.goto 9, 3) := by decide +kernel
theorem dX5_oclock_17 : decode cX5_oclock 17 = .ok (.aload_n 0, 1) := by decide +kernel
theorem dX5_oclock_18 : decode cX5_oclock 18 = .ok (.iload_n 3, 1) := by decide +kernel
theorem dX5_oclock_19 : decode cX5_oclock 19 = .ok (.iload_n 2, 1) := by decide +kernel
theorem dX5_oclock_20 : decode cX5_oclock 20 = .ok (.invokevirtual 95, 3) := by decide +kernel
theorem dX5_oclock_23 : decode cX5_oclock 23 = .ok (.ireturn, 1) := by decide +kernel
set_option maxRecDepth 20000 in
theorem ggX5_hoursBy_X5_fact : GoodIn wsX5_hoursBy wsX5_fact := goodIn_r _ [12, 13, 14, 23, 24, 25, 26] (by decide +kernel) (by decide +kernel)
set_option maxRecDepth 20000 in
theorem gX5_hoursBy_X5_fact : GoodIn wsX5_hoursBy (wsV RX5 45 RX5 yX5_fact wsX5_fact) := goodIn_app (goodIn_of _ (by decide +kernel)) ggX5_hoursBy_X5_fact
set_option maxRecDepth 20000 in
theorem ggX5_hoursBy_X5_lastsOf : GoodIn wsX5_hoursBy wsX5_lastsOf := goodIn_r _ [17, 18] (by decide +kernel) (by decide +kernel)
set_option maxRecDepth 20000 in
theorem gX5_hoursBy_X5_lastsOf : GoodIn wsX5_hoursBy (va_wsS RX5 86 yX5_lastsOf wsX5_lastsOf) := goodIn_app (goodIn_of _ (by decide +kernel)) ggX5_hoursBy_X5_lastsOf
set_option maxRecDepth 20000 in
theorem ggX5_hoursBy_X5_boxAt : GoodIn wsX5_hoursBy wsX5_boxAt := goodIn_r _ [22, 13, 8, 9, 10, 11, 12, 14, 15, 16, 17, 18, 23, 24, 25, 26] (by decide +kernel) (by decide +kernel)
set_option maxRecDepth 20000 in
theorem gX5_hoursBy_X5_boxAt : GoodIn wsX5_hoursBy (wsV RX5 92 RX5 yX5_boxAt wsX5_boxAt) := goodIn_app (goodIn_of _ (by decide +kernel)) ggX5_hoursBy_X5_boxAt
theorem dX5_hoursBy_0 : decode cX5_hoursBy 0 = .ok (.iconst 0, 1) := by decide +kernel
theorem dX5_hoursBy_1 : decode cX5_hoursBy 1 = .ok (.aload_n 0, 1) := by decide +kernel
theorem dX5_hoursBy_2 : decode cX5_hoursBy 2 = .ok (.iload_n 1, 1) := by decide +kernel
theorem dX5_hoursBy_3 : decode cX5_hoursBy 3 = .ok (.iconst 4, 1) := by decide +kernel
theorem dX5_hoursBy_4 : decode cX5_hoursBy 4 = .ok (.invokevirtual 45, 3) := by decide +kernel
theorem dX5_hoursBy_7 : decode cX5_hoursBy 7 = .ok (.invokestatic 98, 3) := by decide +kernel
theorem dX5_hoursBy_10 : decode cX5_hoursBy 10 = .ok (.istore_n 2, 1) := by decide +kernel
theorem dX5_hoursBy_11 : decode cX5_hoursBy 11 = .ok (.aload_n 0, 1) := by decide +kernel
theorem dX5_hoursBy_12 : decode cX5_hoursBy 12 = .ok (.iload_n 1, 1) := by decide +kernel
theorem dX5_hoursBy_13 : decode cX5_hoursBy 13 = .ok (.iconst 5, 1) := by decide +kernel
theorem dX5_hoursBy_14 : decode cX5_hoursBy 14 = .ok (.invokevirtual 45, 3) := by decide +kernel
theorem dX5_hoursBy_17 : decode cX5_hoursBy 17 = .ok (.istore_n 3, 1) := by decide +kernel
theorem dX5_hoursBy_18 : decode cX5_hoursBy 18 = .ok (.bipush 24, 2) := by decide +kernel
theorem dX5_hoursBy_20 : decode cX5_hoursBy 20 = .ok (.iload_n 2, 1) := by decide +kernel
theorem dX5_hoursBy_21 : decode cX5_hoursBy 21 = .ok (.aload_n 0, 1) := by decide +kernel
theorem dX5_hoursBy_22 : decode cX5_hoursBy 22 = .ok (.iload_n 1, 1) := by decide +kernel
theorem dX5_hoursBy_23 : decode cX5_hoursBy 23 = .ok (.iconst 0, 1) := by decide +kernel
theorem dX5_hoursBy_24 : decode cX5_hoursBy 24 = .ok (.invokevirtual 45, 3) := by decide +kernel
theorem dX5_hoursBy_27 : decode cX5_hoursBy 27 = .ok (.invokestatic 86, 3) := by decide +kernel
theorem dX5_hoursBy_30 : decode cX5_hoursBy 30 = .ok (.iadd, 1) := by decide +kernel
theorem dX5_hoursBy_31 : decode cX5_hoursBy 31 = .ok (.invokestatic 77, 3) := by decide +kernel
theorem dX5_hoursBy_34 : decode cX5_hoursBy 34 = .ok (.istore 4, 2) := by decide +kernel
theorem dX5_hoursBy_36 : decode cX5_hoursBy 36 = .ok (.iconst 0, 1) := by decide +kernel
theorem dX5_hoursBy_37 : decode cX5_hoursBy 37 = .ok (.istore 5, 2) := by decide +kernel
theorem dX5_hoursBy_39 : decode cX5_hoursBy 39 = .ok (.iload_n 2, 1) := by decide +kernel
theorem dX5_hoursBy_40 : decode cX5_hoursBy 40 = .ok (.istore 6, 2) := by decide +kernel
theorem dX5_hoursBy_42 : decode cX5_hoursBy 42 = .ok (.iload 6, 2) := by decide +kernel
theorem dX5_hoursBy_44 : decode cX5_hoursBy 44 = .ok (.iload 4, 2) := by decide +kernel
theorem dX5_hoursBy_46 : decode cX5_hoursBy 46 = .ok (.if_icmp .ge 29, 3) := by decide +kernel
theorem dX5_hoursBy_49 : decode cX5_hoursBy 49 = .ok (.aload_n 0, 1) := by decide +kernel
theorem dX5_hoursBy_50 : decode cX5_hoursBy 50 = .ok (.iload_n 3, 1) := by decide +kernel
theorem dX5_hoursBy_51 : decode cX5_hoursBy 51 = .ok (.iload 6, 2) := by decide +kernel
theorem dX5_hoursBy_53 : decode cX5_hoursBy 53 = .ok (.invokevirtual 92, 3) := by decide +kernel
theorem dX5_hoursBy_56 : decode cX5_hoursBy 56 = .ok (.iload_n 1, 1) := by decide +kernel
theorem dX5_hoursBy_57 : decode cX5_hoursBy 57 = .ok (.if_icmp .ne 12, 3) := by decide +kernel
theorem dX5_hoursBy_60 : decode cX5_hoursBy 60 = .ok (.iload 5, 2) := by decide +kernel
theorem dX5_hoursBy_62 : decode cX5_hoursBy 62 = .ok (.iconst 1, 1) := by decide +kernel
theorem dX5_hoursBy_63 : decode cX5_hoursBy 63 = .ok (.iload 6, 2) := by decide +kernel
theorem dX5_hoursBy_65 : decode cX5_hoursBy 65 = .ok (.ishl, 1) := by decide +kernel
theorem dX5_hoursBy_66 : decode cX5_hoursBy 66 = .ok (.ior, 1) := by decide +kernel
theorem dX5_hoursBy_67 : decode cX5_hoursBy 67 = .ok (.istore 5, 2) := by decide +kernel
theorem dX5_hoursBy_69 : decode cX5_hoursBy 69 = .ok (.iinc 6 1, 3) := by decide +kernel
theorem dX5_hoursBy_72 : decode cX5_hoursBy 72 = .ok (.goto (-30), 3) := by decide +kernel
theorem dX5_hoursBy_75 : decode cX5_hoursBy 75 = .ok (.iload 5, 2) := by decide +kernel
theorem dX5_hoursBy_77 : decode cX5_hoursBy 77 = .ok (.ireturn, 1) := by decide +kernel
set_option maxRecDepth 20000 in
theorem ggX5_yawnsBy_X5_fact : GoodIn wsX5_yawnsBy wsX5_fact := goodIn_r _ [12, 13, 14, 29, 30, 31, 32] (by decide +kernel) (by decide +kernel)
set_option maxRecDepth 20000 in
theorem gX5_yawnsBy_X5_fact : GoodIn wsX5_yawnsBy (wsV RX5 45 RX5 yX5_fact wsX5_fact) := goodIn_app (goodIn_of _ (by decide +kernel)) ggX5_yawnsBy_X5_fact
set_option maxRecDepth 20000 in
theorem ggX5_yawnsBy_X5_lastsOf : GoodIn wsX5_yawnsBy wsX5_lastsOf := goodIn_r _ [17, 18] (by decide +kernel) (by decide +kernel)
set_option maxRecDepth 20000 in
theorem gX5_yawnsBy_X5_lastsOf : GoodIn wsX5_yawnsBy (va_wsS RX5 86 yX5_lastsOf wsX5_lastsOf) := goodIn_app (goodIn_of _ (by decide +kernel)) ggX5_yawnsBy_X5_lastsOf
set_option maxRecDepth 20000 in
theorem ggX5_yawnsBy_X5_ownHour : GoodIn wsX5_yawnsBy wsX5_ownHour := goodIn_r _ [22, 23, 13, 24, 8, 9, 10, 11, 12, 14, 29, 30, 31, 32] (by decide +kernel) (by decide +kernel)
set_option maxRecDepth 20000 in
theorem gX5_yawnsBy_X5_ownHour : GoodIn wsX5_yawnsBy (wsV RX5 89 RX5 yX5_ownHour wsX5_ownHour) := goodIn_app (goodIn_of _ (by decide +kernel)) ggX5_yawnsBy_X5_ownHour
set_option maxRecDepth 20000 in
theorem ggX5_yawnsBy_X5_boxAt : GoodIn wsX5_yawnsBy wsX5_boxAt := goodIn_r _ [28, 13, 8, 9, 10, 11, 12, 14, 15, 16, 17, 18, 29, 30, 31, 32] (by decide +kernel) (by decide +kernel)
set_option maxRecDepth 20000 in
theorem gX5_yawnsBy_X5_boxAt : GoodIn wsX5_yawnsBy (wsV RX5 92 RX5 yX5_boxAt wsX5_boxAt) := goodIn_app (goodIn_of _ (by decide +kernel)) ggX5_yawnsBy_X5_boxAt
theorem dX5_yawnsBy_0 : decode cX5_yawnsBy 0 = .ok (.aload_n 0, 1) := by decide +kernel
theorem dX5_yawnsBy_1 : decode cX5_yawnsBy 1 = .ok (.iload_n 1, 1) := by decide +kernel
theorem dX5_yawnsBy_2 : decode cX5_yawnsBy 2 = .ok (.iconst 4, 1) := by decide +kernel
theorem dX5_yawnsBy_3 : decode cX5_yawnsBy 3 = .ok (.invokevirtual 45, 3) := by decide +kernel
theorem dX5_yawnsBy_6 : decode cX5_yawnsBy 6 = .ok (.istore_n 2, 1) := by decide +kernel
theorem dX5_yawnsBy_7 : decode cX5_yawnsBy 7 = .ok (.aload_n 0, 1) := by decide +kernel
theorem dX5_yawnsBy_8 : decode cX5_yawnsBy 8 = .ok (.iload_n 1, 1) := by decide +kernel
theorem dX5_yawnsBy_9 : decode cX5_yawnsBy 9 = .ok (.iconst 5, 1) := by decide +kernel
theorem dX5_yawnsBy_10 : decode cX5_yawnsBy 10 = .ok (.invokevirtual 45, 3) := by decide +kernel
theorem dX5_yawnsBy_13 : decode cX5_yawnsBy 13 = .ok (.istore_n 3, 1) := by decide +kernel
theorem dX5_yawnsBy_14 : decode cX5_yawnsBy 14 = .ok (.bipush 24, 2) := by decide +kernel
theorem dX5_yawnsBy_16 : decode cX5_yawnsBy 16 = .ok (.iload_n 2, 1) := by decide +kernel
theorem dX5_yawnsBy_17 : decode cX5_yawnsBy 17 = .ok (.aload_n 0, 1) := by decide +kernel
theorem dX5_yawnsBy_18 : decode cX5_yawnsBy 18 = .ok (.iload_n 1, 1) := by decide +kernel
theorem dX5_yawnsBy_19 : decode cX5_yawnsBy 19 = .ok (.iconst 0, 1) := by decide +kernel
theorem dX5_yawnsBy_20 : decode cX5_yawnsBy 20 = .ok (.invokevirtual 45, 3) := by decide +kernel
theorem dX5_yawnsBy_23 : decode cX5_yawnsBy 23 = .ok (.invokestatic 86, 3) := by decide +kernel
theorem dX5_yawnsBy_26 : decode cX5_yawnsBy 26 = .ok (.iadd, 1) := by decide +kernel
theorem dX5_yawnsBy_27 : decode cX5_yawnsBy 27 = .ok (.invokestatic 77, 3) := by decide +kernel
theorem dX5_yawnsBy_30 : decode cX5_yawnsBy 30 = .ok (.istore 4, 2) := by decide +kernel
theorem dX5_yawnsBy_32 : decode cX5_yawnsBy 32 = .ok (.aload_n 0, 1) := by decide +kernel
theorem dX5_yawnsBy_33 : decode cX5_yawnsBy 33 = .ok (.iload_n 1, 1) := by decide +kernel
theorem dX5_yawnsBy_34 : decode cX5_yawnsBy 34 = .ok (.invokevirtual 89, 3) := by decide +kernel
theorem dX5_yawnsBy_37 : decode cX5_yawnsBy 37 = .ok (.istore 5, 2) := by decide +kernel
theorem dX5_yawnsBy_39 : decode cX5_yawnsBy 39 = .ok (.iconst 0, 1) := by decide +kernel
theorem dX5_yawnsBy_40 : decode cX5_yawnsBy 40 = .ok (.istore 6, 2) := by decide +kernel
theorem dX5_yawnsBy_42 : decode cX5_yawnsBy 42 = .ok (.iload_n 2, 1) := by decide +kernel
theorem dX5_yawnsBy_43 : decode cX5_yawnsBy 43 = .ok (.bipush 6, 2) := by decide +kernel
theorem dX5_yawnsBy_45 : decode cX5_yawnsBy 45 = .ok (.invokestatic 98, 3) := by decide +kernel
theorem dX5_yawnsBy_48 : decode cX5_yawnsBy 48 = .ok (.istore 7, 2) := by decide +kernel
theorem dX5_yawnsBy_50 : decode cX5_yawnsBy 50 = .ok (.iload 7, 2) := by decide +kernel
theorem dX5_yawnsBy_52 : decode cX5_yawnsBy 52 = .ok (.iload 4, 2) := by decide +kernel
theorem dX5_yawnsBy_54 : decode cX5_yawnsBy 54 = .ok (.if_icmp .ge 42, 3) := by decide +kernel
theorem dX5_yawnsBy_57 : decode cX5_yawnsBy 57 = .ok (.iload 5, 2) := by decide +kernel
theorem dX5_yawnsBy_59 : decode cX5_yawnsBy 59 = .ok (.iload 7, 2) := by decide +kernel
theorem dX5_yawnsBy_61 : decode cX5_yawnsBy 61 = .ok (.iadd, 1) := by decide +kernel
theorem dX5_yawnsBy_62 : decode cX5_yawnsBy 62 = .ok (.iload_n 2, 1) := by decide +kernel
theorem dX5_yawnsBy_63 : decode cX5_yawnsBy 63 = .ok (.isub, 1) := by decide +kernel
theorem dX5_yawnsBy_64 : decode cX5_yawnsBy 64 = .ok (.bipush 24, 2) := by decide +kernel
theorem dX5_yawnsBy_66 : decode cX5_yawnsBy 66 = .ok (.irem, 1) := by decide +kernel
theorem dX5_yawnsBy_67 : decode cX5_yawnsBy 67 = .ok (.istore 8, 2) := by decide +kernel
theorem dX5_yawnsBy_69 : decode cX5_yawnsBy 69 = .ok (.iload 8, 2) := by decide +kernel
theorem dX5_yawnsBy_71 : decode cX5_yawnsBy 71 = .ok (.bipush 6, 2) := by decide +kernel
theorem dX5_yawnsBy_73 : decode cX5_yawnsBy 73 = .ok (.if_icmp .ge 17, 3) := by decide +kernel
theorem dX5_yawnsBy_76 : decode cX5_yawnsBy 76 = .ok (.aload_n 0, 1) := by decide +kernel
theorem dX5_yawnsBy_77 : decode cX5_yawnsBy 77 = .ok (.iload_n 3, 1) := by decide +kernel
theorem dX5_yawnsBy_78 : decode cX5_yawnsBy 78 = .ok (.iload 7, 2) := by decide +kernel
theorem dX5_yawnsBy_80 : decode cX5_yawnsBy 80 = .ok (.invokevirtual 92, 3) := by decide +kernel
theorem dX5_yawnsBy_83 : decode cX5_yawnsBy 83 = .ok (.iload_n 1, 1) := by decide +kernel
theorem dX5_yawnsBy_84 : decode cX5_yawnsBy 84 = .ok (.if_icmp .ne 6, 3) := by decide +kernel
theorem dX5_yawnsBy_87 : decode cX5_yawnsBy 87 = .ok (.iinc 6 1, 3) := by decide +kernel
theorem dX5_yawnsBy_90 : decode cX5_yawnsBy 90 = .ok (.iinc 7 1, 3) := by decide +kernel
theorem dX5_yawnsBy_93 : decode cX5_yawnsBy 93 = .ok (.goto (-43), 3) := by decide +kernel
theorem dX5_yawnsBy_96 : decode cX5_yawnsBy 96 = .ok (.iload 6, 2) := by decide +kernel
theorem dX5_yawnsBy_98 : decode cX5_yawnsBy 98 = .ok (.ireturn, 1) := by decide +kernel
set_option maxRecDepth 20000 in
theorem ggX5_yawnsIn_X5_fact : GoodIn wsX5_yawnsIn wsX5_fact := goodIn_r _ [6, 1, 7, 33, 34, 35, 36] (by decide +kernel) (by decide +kernel)
set_option maxRecDepth 20000 in
theorem gX5_yawnsIn_X5_fact : GoodIn wsX5_yawnsIn (wsV RX5 45 RX5 yX5_fact wsX5_fact) := goodIn_app (goodIn_of _ (by decide +kernel)) ggX5_yawnsIn_X5_fact
set_option maxRecDepth 20000 in
theorem ggX5_yawnsIn_X5_yawnsBy : GoodIn wsX5_yawnsIn wsX5_yawnsBy := goodIn_r _ [11, 12, 13, 14, 15, 16, 17, 18, 2, 3, 4, 5, 6, 1, 7, 19, 20, 21, 22, 23, 24, 25, 26, 27, 28, 29, 30, 31, 32, 33, 34, 35, 36] (by decide +kernel) (by decide +kernel)
set_option maxRecDepth 20000 in
theorem gX5_yawnsIn_X5_yawnsBy : GoodIn wsX5_yawnsIn (wsV RX5 101 RX5 yX5_yawnsBy wsX5_yawnsBy) := goodIn_app (goodIn_of _ (by decide +kernel)) ggX5_yawnsIn_X5_yawnsBy
theorem dX5_yawnsIn_0 : decode cX5_yawnsIn 0 = .ok (.iconst 0, 1) := by decide +kernel
theorem dX5_yawnsIn_1 : decode cX5_yawnsIn 1 = .ok (.istore_n 2, 1) := by decide +kernel
theorem dX5_yawnsIn_2 : decode cX5_yawnsIn 2 = .ok (.iconst 0, 1) := by decide +kernel
theorem dX5_yawnsIn_3 : decode cX5_yawnsIn 3 = .ok (.istore_n 3, 1) := by decide +kernel
theorem dX5_yawnsIn_4 : decode cX5_yawnsIn 4 = .ok (.iload_n 3, 1) := by decide +kernel
theorem dX5_yawnsIn_5 : decode cX5_yawnsIn 5 = .ok (.aload_n 0, 1) := by decide +kernel
theorem dX5_yawnsIn_6 : decode cX5_yawnsIn 6 = .ok (.getfield 18, 3) := by decide +kernel
theorem dX5_yawnsIn_9 : decode cX5_yawnsIn 9 = .ok (.if_icmp .ge 27, 3) := by decide +kernel
theorem dX5_yawnsIn_12 : decode cX5_yawnsIn 12 = .ok (.aload_n 0, 1) := by decide +kernel
theorem dX5_yawnsIn_13 : decode cX5_yawnsIn 13 = .ok (.iload_n 3, 1) := by decide +kernel
theorem dX5_yawnsIn_14 : decode cX5_yawnsIn 14 = .ok (.iconst 5, 1) := by decide +kernel
theorem dX5_yawnsIn_15 : decode cX5_yawnsIn 15 = .ok (.invokevirtual 45, 3) := by decide +kernel
theorem dX5_yawnsIn_18 : decode cX5_yawnsIn 18 = .ok (.iload_n 1, 1) := by decide +kernel
theorem dX5_yawnsIn_19 : decode cX5_yawnsIn 19 = .ok (.if_icmp .ne 11, 3) := by decide +kernel
theorem dX5_yawnsIn_22 : decode cX5_yawnsIn 22 = .ok (.iload_n 2, 1) := by decide +kernel
theorem dX5_yawnsIn_23 : decode cX5_yawnsIn 23 = .ok (.aload_n 0, 1) := by decide +kernel
theorem dX5_yawnsIn_24 : decode cX5_yawnsIn 24 = .ok (.iload_n 3, 1) := by decide +kernel
theorem dX5_yawnsIn_25 : decode cX5_yawnsIn 25 = .ok (.invokevirtual 101, 3) := by decide +kernel
theorem dX5_yawnsIn_28 : decode cX5_yawnsIn 28 = .ok (.iadd, 1) := by decide +kernel
theorem dX5_yawnsIn_29 : decode cX5_yawnsIn 29 = .ok (.istore_n 2, 1) := by decide +kernel
theorem dX5_yawnsIn_30 : decode cX5_yawnsIn 30 = .ok (.iinc 3 1, 3) := by decide +kernel
theorem dX5_yawnsIn_33 : decode cX5_yawnsIn 33 = .ok (.goto (-29), 3) := by decide +kernel
theorem dX5_yawnsIn_36 : decode cX5_yawnsIn 36 = .ok (.iload_n 2, 1) := by decide +kernel
theorem dX5_yawnsIn_37 : decode cX5_yawnsIn 37 = .ok (.ireturn, 1) := by decide +kernel
set_option maxRecDepth 20000 in
theorem ggX5_yawnsOfAll_X5_yawnsBy : GoodIn wsX5_yawnsOfAll wsX5_yawnsBy := goodIn_r _ [6, 7, 8, 9, 10, 11, 12, 13, 14, 15, 16, 5, 17, 1, 18, 19, 20, 21, 22, 23, 24, 25, 26, 27, 28, 29, 30, 31, 32, 33, 34, 35, 36] (by decide +kernel) (by decide +kernel)
set_option maxRecDepth 20000 in
theorem gX5_yawnsOfAll_X5_yawnsBy : GoodIn wsX5_yawnsOfAll (wsV RX5 101 RX5 yX5_yawnsBy wsX5_yawnsBy) := goodIn_app (goodIn_of _ (by decide +kernel)) ggX5_yawnsOfAll_X5_yawnsBy
theorem dX5_yawnsOfAll_0 : decode cX5_yawnsOfAll 0 = .ok (.iconst 0, 1) := by decide +kernel
theorem dX5_yawnsOfAll_1 : decode cX5_yawnsOfAll 1 = .ok (.istore_n 1, 1) := by decide +kernel
theorem dX5_yawnsOfAll_2 : decode cX5_yawnsOfAll 2 = .ok (.iconst 0, 1) := by decide +kernel
theorem dX5_yawnsOfAll_3 : decode cX5_yawnsOfAll 3 = .ok (.istore_n 2, 1) := by decide +kernel
theorem dX5_yawnsOfAll_4 : decode cX5_yawnsOfAll 4 = .ok (.iload_n 2, 1) := by decide +kernel
theorem dX5_yawnsOfAll_5 : decode cX5_yawnsOfAll 5 = .ok (.aload_n 0, 1) := by decide +kernel
theorem dX5_yawnsOfAll_6 : decode cX5_yawnsOfAll 6 = .ok (.getfield 18, 3) := by decide +kernel
theorem dX5_yawnsOfAll_9 : decode cX5_yawnsOfAll 9 = .ok (.if_icmp .ge 17, 3) := by decide +kernel
theorem dX5_yawnsOfAll_12 : decode cX5_yawnsOfAll 12 = .ok (.iload_n 1, 1) := by decide +kernel
theorem dX5_yawnsOfAll_13 : decode cX5_yawnsOfAll 13 = .ok (.aload_n 0, 1) := by decide +kernel
theorem dX5_yawnsOfAll_14 : decode cX5_yawnsOfAll 14 = .ok (.iload_n 2, 1) := by decide +kernel
theorem dX5_yawnsOfAll_15 : decode cX5_yawnsOfAll 15 = .ok (.invokevirtual 101, 3) := by decide +kernel
theorem dX5_yawnsOfAll_18 : decode cX5_yawnsOfAll 18 = .ok (.iadd, 1) := by decide +kernel
theorem dX5_yawnsOfAll_19 : decode cX5_yawnsOfAll 19 = .ok (.istore_n 1, 1) := by decide +kernel
theorem dX5_yawnsOfAll_20 : decode cX5_yawnsOfAll 20 = .ok (.iinc 2 1, 3) := by decide +kernel
theorem dX5_yawnsOfAll_23 : decode cX5_yawnsOfAll 23 = .ok (.goto (-19), 3) := by decide +kernel
theorem dX5_yawnsOfAll_26 : decode cX5_yawnsOfAll 26 = .ok (.iload_n 1, 1) := by decide +kernel
theorem dX5_yawnsOfAll_27 : decode cX5_yawnsOfAll 27 = .ok (.ireturn, 1) := by decide +kernel
set_option maxRecDepth 20000 in
theorem ggX5_strangeHoursIn_X5_oclock : GoodIn wsX5_strangeHoursIn wsX5_oclock := goodIn_r _ [5, 6, 7, 8, 4, 9, 10, 11, 12, 13, 14, 15, 16, 17, 18, 19, 20, 21, 22, 23, 24, 25, 26, 27, 28, 29, 30, 31, 32, 33, 34, 35, 36, 37] (by decide +kernel) (by decide +kernel)
set_option maxRecDepth 20000 in
theorem gX5_strangeHoursIn_X5_oclock : GoodIn wsX5_strangeHoursIn (wsV RX5 104 RX5 yX5_oclock wsX5_oclock) := goodIn_app (goodIn_of _ (by decide +kernel)) ggX5_strangeHoursIn_X5_oclock
theorem dX5_strangeHoursIn_0 : decode cX5_strangeHoursIn 0 = .ok (.iconst 0, 1) := by decide +kernel
theorem dX5_strangeHoursIn_1 : decode cX5_strangeHoursIn 1 = .ok (.istore_n 2, 1) := by decide +kernel
theorem dX5_strangeHoursIn_2 : decode cX5_strangeHoursIn 2 = .ok (.iconst 0, 1) := by decide +kernel
theorem dX5_strangeHoursIn_3 : decode cX5_strangeHoursIn 3 = .ok (.istore_n 3, 1) := by decide +kernel
theorem dX5_strangeHoursIn_4 : decode cX5_strangeHoursIn 4 = .ok (.iload_n 3, 1) := by decide +kernel
theorem dX5_strangeHoursIn_5 : decode cX5_strangeHoursIn 5 = .ok (.bipush 24, 2) := by decide +kernel
theorem dX5_strangeHoursIn_7 : decode cX5_strangeHoursIn 7 = .ok (.if_icmp .ge 25, 3) := by decide +kernel
theorem dX5_strangeHoursIn_10 : decode cX5_strangeHoursIn 10 = .ok (.aload_n 0, 1) := by decide +kernel
theorem dX5_strangeHoursIn_11 : decode cX5_strangeHoursIn 11 = .ok (.iload_n 1, 1) := by decide +kernel
theorem dX5_strangeHoursIn_12 : decode cX5_strangeHoursIn 12 = .ok (.iload_n 3, 1) := by decide +kernel
theorem dX5_strangeHoursIn_13 : decode cX5_strangeHoursIn 13 = .ok (.invokevirtual 104, 3) := by decide +kernel
theorem dX5_strangeHoursIn_16 : decode cX5_strangeHoursIn 16 = .ok (.iload_n 3, 1) := by decide +kernel
theorem dX5_strangeHoursIn_17 : decode cX5_strangeHoursIn 17 = .ok (.if_icmp .eq 9, 3) := by decide +kernel
theorem dX5_strangeHoursIn_20 : decode cX5_strangeHoursIn 20 = .ok (.iload_n 2, 1) := by decide +kernel
theorem dX5_strangeHoursIn_21 : decode cX5_strangeHoursIn 21 = .ok (.iconst 1, 1) := by decide +kernel
theorem dX5_strangeHoursIn_22 : decode cX5_strangeHoursIn 22 = .ok (.iload_n 3, 1) := by decide +kernel
theorem dX5_strangeHoursIn_23 : decode cX5_strangeHoursIn 23 = .ok (.ishl, 1) := by decide +kernel
theorem dX5_strangeHoursIn_24 : decode cX5_strangeHoursIn 24 = .ok (.ior, 1) := by decide +kernel
theorem dX5_strangeHoursIn_25 : decode cX5_strangeHoursIn 25 = .ok (.istore_n 2, 1) := by decide +kernel
theorem dX5_strangeHoursIn_26 : decode cX5_strangeHoursIn 26 = .ok (.iinc 3 1, 3) := by decide +kernel
theorem dX5_strangeHoursIn_29 : decode cX5_strangeHoursIn 29 = .ok (.goto (-25), 3) := by decide +kernel
theorem dX5_strangeHoursIn_32 : decode cX5_strangeHoursIn 32 = .ok (.iload_n 2, 1) := by decide +kernel
theorem dX5_strangeHoursIn_33 : decode cX5_strangeHoursIn 33 = .ok (.ireturn, 1) := by decide +kernel
set_option maxRecDepth 20000 in
theorem ggX5_strangeHoursOfAll_X5_strangeHoursIn : GoodIn wsX5_strangeHoursOfAll wsX5_strangeHoursIn := goodIn_r _ [5, 6, 7, 8, 4, 9, 10, 11, 12, 13, 14, 15, 16, 17, 18, 19, 20, 21, 22, 23, 24, 25, 26, 27, 28, 29, 30, 31, 32, 33, 34, 35, 36, 37, 45, 46, 47, 48] (by decide +kernel) (by decide +kernel)
set_option maxRecDepth 20000 in
theorem gX5_strangeHoursOfAll_X5_strangeHoursIn : GoodIn wsX5_strangeHoursOfAll (wsV RX5 107 RX5 yX5_strangeHoursIn wsX5_strangeHoursIn) := goodIn_app (goodIn_of _ (by decide +kernel)) ggX5_strangeHoursOfAll_X5_strangeHoursIn
set_option maxRecDepth 20000 in
theorem ggX5_strangeHoursOfAll_J6_bitCount_0f7a4 : GoodIn wsX5_strangeHoursOfAll wsJ6_bitCount_0f7a4 := goodIn_r _ [41, 42, 43, 44] (by decide +kernel) (by decide +kernel)
set_option maxRecDepth 20000 in
theorem gX5_strangeHoursOfAll_J6_bitCount_0f7a4 : GoodIn wsX5_strangeHoursOfAll (va_wsS RX5 110 yJ6_bitCount_0f7a4 wsJ6_bitCount_0f7a4) := goodIn_app (goodIn_of _ (by decide +kernel)) ggX5_strangeHoursOfAll_J6_bitCount_0f7a4
theorem dX5_strangeHoursOfAll_0 : decode cX5_strangeHoursOfAll 0 = .ok (.iconst 0, 1) := by decide +kernel
theorem dX5_strangeHoursOfAll_1 : decode cX5_strangeHoursOfAll 1 = .ok (.istore_n 1, 1) := by decide +kernel
theorem dX5_strangeHoursOfAll_2 : decode cX5_strangeHoursOfAll 2 = .ok (.iconst 0, 1) := by decide +kernel
theorem dX5_strangeHoursOfAll_3 : decode cX5_strangeHoursOfAll 3 = .ok (.istore_n 2, 1) := by decide +kernel
theorem dX5_strangeHoursOfAll_4 : decode cX5_strangeHoursOfAll 4 = .ok (.iload_n 2, 1) := by decide +kernel
theorem dX5_strangeHoursOfAll_5 : decode cX5_strangeHoursOfAll 5 = .ok (.iconst 5, 1) := by decide +kernel
theorem dX5_strangeHoursOfAll_6 : decode cX5_strangeHoursOfAll 6 = .ok (.if_icmp .ge 20, 3) := by decide +kernel
theorem dX5_strangeHoursOfAll_9 : decode cX5_strangeHoursOfAll 9 = .ok (.iload_n 1, 1) := by decide +kernel
theorem dX5_strangeHoursOfAll_10 : decode cX5_strangeHoursOfAll 10 = .ok (.aload_n 0, 1) := by decide +kernel
theorem dX5_strangeHoursOfAll_11 : decode cX5_strangeHoursOfAll 11 = .ok (.iload_n 2, 1) := by decide +kernel
theorem dX5_strangeHoursOfAll_12 : decode cX5_strangeHoursOfAll 12 = .ok (.invokevirtual 107, 3) := by decide +kernel
theorem dX5_strangeHoursOfAll_15 : decode cX5_strangeHoursOfAll 15 = .ok (.invokestatic 110, 3) := by decide +kernel
theorem dX5_strangeHoursOfAll_18 : decode cX5_strangeHoursOfAll 18 = .ok (.iadd, 1) := by decide +kernel
theorem dX5_strangeHoursOfAll_19 : decode cX5_strangeHoursOfAll 19 = .ok (.istore_n 1, 1) := by decide +kernel
theorem dX5_strangeHoursOfAll_20 : decode cX5_strangeHoursOfAll 20 = .ok (.iinc 2 1, 3) := by decide +kernel
theorem dX5_strangeHoursOfAll_23 : decode cX5_strangeHoursOfAll 23 = .ok (.goto (-19), 3) := by decide +kernel
theorem dX5_strangeHoursOfAll_26 : decode cX5_strangeHoursOfAll 26 = .ok (.iload_n 1, 1) := by decide +kernel
theorem dX5_strangeHoursOfAll_27 : decode cX5_strangeHoursOfAll 27 = .ok (.ireturn, 1) := by decide +kernel
theorem dX6_init_0 : decode cX6_init 0 = .ok (.aload_n 0, 1) := by decide +kernel
theorem dX6_init_1 : decode cX6_init 1 = .ok (.invokespecial 1, 3) := by decide +kernel
theorem dX6_init_4 : decode cX6_init 4 = .ok (.aload_n 0, 1) := by decide +kernel
theorem dX6_init_5 : decode cX6_init 5 = .ok (.bipush 6, 2) := by decide +kernel
theorem dX6_init_7 : decode cX6_init 7 = .ok (.newarray .int, 2) := by decide +kernel
theorem dX6_init_9 : decode cX6_init 9 = .ok (.putfield 9, 3) := by decide +kernel
theorem dX6_init_12 : decode cX6_init 12 = .ok (.aload_n 0, 1) := by decide +kernel
theorem dX6_init_13 : decode cX6_init 13 = .ok (.bipush 6, 2) := by decide +kernel
theorem dX6_init_15 : decode cX6_init 15 = .ok (.newarray .int, 2) := by decide +kernel
theorem dX6_init_17 : decode cX6_init 17 = .ok (.putfield 13, 3) := by decide +kernel
theorem dX6_init_20 : decode cX6_init 20 = .ok (.aload_n 0, 1) := by decide +kernel
theorem dX6_init_21 : decode cX6_init 21 = .ok (.bipush 6, 2) := by decide +kernel
theorem dX6_init_23 : decode cX6_init 23 = .ok (.newarray .int, 2) := by decide +kernel
theorem dX6_init_25 : decode cX6_init 25 = .ok (.putfield 16, 3) := by decide +kernel
theorem dX6_init_28 : decode cX6_init 28 = .ok (.aload_n 0, 1) := by decide +kernel
theorem dX6_init_29 : decode cX6_init 29 = .ok (.iconst 0, 1) := by decide +kernel
theorem dX6_init_30 : decode cX6_init 30 = .ok (.putfield 19, 3) := by decide +kernel
theorem dX6_init_33 : decode cX6_init 33 = .ok (.return_, 1) := by decide +kernel
theorem dX6_size_0 : decode cX6_size 0 = .ok (.aload_n 0, 1) := by decide +kernel
theorem dX6_size_1 : decode cX6_size 1 = .ok (.getfield 19, 3) := by decide +kernel
theorem dX6_size_4 : decode cX6_size 4 = .ok (.ireturn, 1) := by decide +kernel
theorem dX6_isFull_0 : decode cX6_isFull 0 = .ok (.aload_n 0, 1) := by decide +kernel
theorem dX6_isFull_1 : decode cX6_isFull 1 = .ok (.getfield 19, 3) := by decide +kernel
theorem dX6_isFull_4 : decode cX6_isFull 4 = .ok (.bipush 6, 2) := by decide +kernel
theorem dX6_isFull_6 : decode cX6_isFull 6 = .ok (.if_icmp .lt 7, 3) := by decide +kernel
theorem dX6_isFull_9 : decode cX6_isFull 9 = .ok (.iconst 1, 1) := by decide +kernel
theorem dX6_isFull_10 : decode cX6_isFull 10 = .ok (.goto 4, 3) := by decide +kernel
theorem dX6_isFull_13 : decode cX6_isFull 13 = .ok (.iconst 0, 1) := by decide +kernel
theorem dX6_isFull_14 : decode cX6_isFull 14 = .ok (.ireturn, 1) := by decide +kernel
set_option maxRecDepth 20000 in
theorem ggX6_add_X6_isFull : GoodIn wsX6_add wsX6_isFull := goodIn_r _ [9, 2, 10, 11, 12, 13] (by decide +kernel) (by decide +kernel)
set_option maxRecDepth 20000 in
theorem gX6_add_X6_isFull : GoodIn wsX6_add (wsV RX6 23 RX6 yX6_isFull wsX6_isFull) := goodIn_app (goodIn_of _ (by decide +kernel)) ggX6_add_X6_isFull
theorem dX6_add_0 : decode cX6_add 0 = .ok (.aload_n 0, 1) := by decide +kernel
theorem dX6_add_1 : decode cX6_add 1 = .ok (.invokevirtual 23, 3) := by decide +kernel
theorem dX6_add_4 : decode cX6_add 4 = .ok (.ifCond .ne 43, 3) := by decide +kernel
theorem dX6_add_7 : decode cX6_add 7 = .ok (.aload_n 0, 1) := by decide +kernel
theorem dX6_add_8 : decode cX6_add 8 = .ok (.getfield 9, 3) := by decide +kernel
theorem dX6_add_11 : decode cX6_add 11 = .ok (.aload_n 0, 1) := by decide +kernel
theorem dX6_add_12 : decode cX6_add 12 = .ok (.getfield 19, 3) := by decide +kernel
theorem dX6_add_15 : decode cX6_add 15 = .ok (.iload_n 1, 1) := by decide +kernel
theorem dX6_add_16 : decode cX6_add 16 = .ok (.iastore, 1) := by decide +kernel
theorem dX6_add_17 : decode cX6_add 17 = .ok (.aload_n 0, 1) := by decide +kernel
theorem dX6_add_18 : decode cX6_add 18 = .ok (.getfield 13, 3) := by decide +kernel
theorem dX6_add_21 : decode cX6_add 21 = .ok (.aload_n 0, 1) := by decide +kernel
theorem dX6_add_22 : decode cX6_add 22 = .ok (.getfield 19, 3) := by decide +kernel
theorem dX6_add_25 : decode cX6_add 25 = .ok (.iload_n 2, 1) := by decide +kernel
theorem dX6_add_26 : decode cX6_add 26 = .ok (.iastore, 1) := by decide +kernel
theorem dX6_add_27 : decode cX6_add 27 = .ok (.aload_n 0, 1) := by decide +kernel
theorem dX6_add_28 : decode cX6_add 28 = .ok (.getfield 16, 3) := by decide +kernel
theorem dX6_add_31 : decode cX6_add 31 = .ok (.aload_n 0, 1) := by decide +kernel
theorem dX6_add_32 : decode cX6_add 32 = .ok (.getfield 19, 3) := by decide +kernel
theorem dX6_add_35 : decode cX6_add 35 = .ok (.iload_n 3, 1) := by decide +kernel
theorem dX6_add_36 : decode cX6_add 36 = .ok (.iastore, 1) := by decide +kernel
theorem dX6_add_37 : decode cX6_add 37 = .ok (.aload_n 0, 1) := by decide +kernel
theorem dX6_add_38 : decode cX6_add 38 = .ok (.dup, 1) := by decide +kernel
theorem dX6_add_39 : decode cX6_add 39 = .ok (.getfield 19, 3) := by decide +kernel
theorem dX6_add_42 : decode cX6_add 42 = .ok (.iconst 1, 1) := by decide +kernel
theorem dX6_add_43 : decode cX6_add 43 = .ok (.iadd, 1) := by decide +kernel
theorem dX6_add_44 : decode cX6_add 44 = .ok (.putfield 19, 3) := by decide +kernel
theorem dX6_add_47 : decode cX6_add 47 = .ok (.return_, 1) := by decide +kernel
set_option maxRecDepth 20000 in
theorem ggX6_cut_X9_within : GoodIn wsX6_cut wsX9_within := goodIn_r _ [4] (by decide +kernel) (by decide +kernel)
set_option maxRecDepth 20000 in
theorem gX6_cut_X9_within_n27 : GoodIn wsX6_cut (wsX9_within) := ggX6_cut_X9_within
theorem dX6_cut_0 : decode cX6_cut 0 = .ok (.iload_n 1, 1) := by decide +kernel
theorem dX6_cut_1 : decode cX6_cut 1 = .ok (.iconst 0, 1) := by decide +kernel
theorem dX6_cut_2 : decode cX6_cut 2 = .ok (.aload_n 0, 1) := by decide +kernel
theorem dX6_cut_3 : decode cX6_cut 3 = .ok (.getfield 19, 3) := by decide +kernel
theorem dX6_cut_6 : decode cX6_cut 6 = .ok (.invokestatic 27, 3) := by decide +kernel
theorem dX6_cut_9 : decode cX6_cut 9 = .ok (.ifCond .eq 8, 3) := by decide +kernel
theorem dX6_cut_12 : decode cX6_cut 12 = .ok (.aload_n 0, 1) := by decide +kernel
theorem dX6_cut_13 : decode cX6_cut 13 = .ok (.iload_n 1, 1) := by decide +kernel
theorem dX6_cut_14 : decode cX6_cut 14 = .ok (.putfield 19, 3) := by decide +kernel
theorem dX6_cut_17 : decode cX6_cut 17 = .ok (.return_, 1) := by decide +kernel
theorem dX6_copyFrom_0 : decode cX6_copyFrom 0 = .ok (.aload_n 1, 1) := by decide +kernel
theorem dX6_copyFrom_1 : decode cX6_copyFrom 1 = .ok (.getfield 9, 3) := by decide +kernel
theorem dX6_copyFrom_4 : decode cX6_copyFrom 4 = .ok (.iconst 0, 1) := by decide +kernel
theorem dX6_copyFrom_5 : decode cX6_copyFrom 5 = .ok (.aload_n 0, 1) := by decide +kernel
theorem dX6_copyFrom_6 : decode cX6_copyFrom 6 = .ok (.getfield 9, 3) := by decide +kernel
theorem dX6_copyFrom_9 : decode cX6_copyFrom 9 = .ok (.iconst 0, 1) := by decide +kernel
theorem dX6_copyFrom_10 : decode cX6_copyFrom 10 = .ok (.bipush 6, 2) := by decide +kernel
theorem dX6_copyFrom_12 : decode cX6_copyFrom 12 = .ok (.invokestatic 33, 3) := by decide +kernel
theorem dX6_copyFrom_15 : decode cX6_copyFrom 15 = .ok (.aload_n 1, 1) := by decide +kernel
theorem dX6_copyFrom_16 : decode cX6_copyFrom 16 = .ok (.getfield 13, 3) := by decide +kernel
theorem dX6_copyFrom_19 : decode cX6_copyFrom 19 = .ok (.iconst 0, 1) := by decide +kernel
theorem dX6_copyFrom_20 : decode cX6_copyFrom 20 = .ok (.aload_n 0, 1) := by decide +kernel
theorem dX6_copyFrom_21 : decode cX6_copyFrom 21 = .ok (.getfield 13, 3) := by decide +kernel
theorem dX6_copyFrom_24 : decode cX6_copyFrom 24 = .ok (.iconst 0, 1) := by decide +kernel
theorem dX6_copyFrom_25 : decode cX6_copyFrom 25 = .ok (.bipush 6, 2) := by decide +kernel
theorem dX6_copyFrom_27 : decode cX6_copyFrom 27 = .ok (.invokestatic 33, 3) := by decide +kernel
theorem dX6_copyFrom_30 : decode cX6_copyFrom 30 = .ok (.aload_n 1, 1) := by decide +kernel
theorem dX6_copyFrom_31 : decode cX6_copyFrom 31 = .ok (.getfield 16, 3) := by decide +kernel
theorem dX6_copyFrom_34 : decode cX6_copyFrom 34 = .ok (.iconst 0, 1) := by decide +kernel
theorem dX6_copyFrom_35 : decode cX6_copyFrom 35 = .ok (.aload_n 0, 1) := by decide +kernel
theorem dX6_copyFrom_36 : decode cX6_copyFrom 36 = .ok (.getfield 16, 3) := by decide +kernel
theorem dX6_copyFrom_39 : decode cX6_copyFrom 39 = .ok (.iconst 0, 1) := by decide +kernel
theorem dX6_copyFrom_40 : decode cX6_copyFrom 40 = .ok (.bipush 6, 2) := by decide +kernel
theorem dX6_copyFrom_42 : decode cX6_copyFrom 42 = .ok (.invokestatic 33, 3) := by decide +kernel
theorem dX6_copyFrom_45 : decode cX6_copyFrom 45 = .ok (.aload_n 0, 1) := by decide +kernel
theorem dX6_copyFrom_46 : decode cX6_copyFrom 46 = .ok (.aload_n 1, 1) := by decide +kernel
theorem dX6_copyFrom_47 : decode cX6_copyFrom 47 = .ok (.getfield 19, 3) := by decide +kernel
theorem dX6_copyFrom_50 : decode cX6_copyFrom 50 = .ok (.putfield 19, 3) := by decide +kernel
theorem dX6_copyFrom_53 : decode cX6_copyFrom 53 = .ok (.return_, 1) := by decide +kernel
set_option maxRecDepth 20000 in
theorem ggX6_agreeWith_X5_oclock : GoodIn wsX6_agreeWith wsX5_oclock := goodIn_r _ [9, 10, 11, 12, 8, 13, 14, 15, 16, 17, 18, 19, 20, 21, 22, 23, 24, 25, 26, 27, 28, 29, 30, 31, 32, 33, 34, 35, 36, 37, 42, 43, 44, 45] (by decide +kernel) (by decide +kernel)
set_option maxRecDepth 20000 in
theorem gX6_agreeWith_X5_oclock : GoodIn wsX6_agreeWith (wsV RX6 39 RX5 yX5_oclock wsX5_oclock) := goodIn_app (goodIn_of _ (by decide +kernel)) ggX6_agreeWith_X5_oclock
theorem dX6_agreeWith_0 : decode cX6_agreeWith 0 = .ok (.iconst 0, 1) := by decide +kernel
theorem dX6_agreeWith_1 : decode cX6_agreeWith 1 = .ok (.istore_n 2, 1) := by decide +kernel
theorem dX6_agreeWith_2 : decode cX6_agreeWith 2 = .ok (.iload_n 2, 1) := by decide +kernel
theorem dX6_agreeWith_3 : decode cX6_agreeWith 3 = .ok (.aload_n 0, 1) := by decide +kernel
theorem dX6_agreeWith_4 : decode cX6_agreeWith 4 = .ok (.getfield 19, 3) := by decide +kernel
theorem dX6_agreeWith_7 : decode cX6_agreeWith 7 = .ok (.if_icmp .ge 36, 3) := by decide +kernel
theorem dX6_agreeWith_10 : decode cX6_agreeWith 10 = .ok (.aload_n 1, 1) := by decide +kernel
theorem dX6_agreeWith_11 : decode cX6_agreeWith 11 = .ok (.aload_n 0, 1) := by decide +kernel
theorem dX6_agreeWith_12 : decode cX6_agreeWith 12 = .ok (.getfield 9, 3) := by decide +kernel
theorem dX6_agreeWith_15 : decode cX6_agreeWith 15 = .ok (.iload_n 2, 1) := by decide +kernel
theorem dX6_agreeWith_16 : decode cX6_agreeWith 16 = .ok (.iaload, 1) := by decide +kernel
theorem dX6_agreeWith_17 : decode cX6_agreeWith 17 = .ok (.aload_n 0, 1) := by decide +kernel
theorem dX6_agreeWith_18 : decode cX6_agreeWith 18 = .ok (.getfield 13, 3) := by decide +kernel
theorem dX6_agreeWith_21 : decode cX6_agreeWith 21 = .ok (.iload_n 2, 1) := by decide +kernel
theorem dX6_agreeWith_22 : decode cX6_agreeWith 22 = .ok (.iaload, 1) := by decide +kernel
theorem dX6_agreeWith_23 : decode cX6_agreeWith 23 = .ok (.invokevirtual 39, 3) := by decide +kernel
theorem dX6_agreeWith_26 : decode cX6_agreeWith 26 = .ok (.aload_n 0, 1) := by decide +kernel
theorem dX6_agreeWith_27 : decode cX6_agreeWith 27 = .ok (.getfield 16, 3) := by decide +kernel
theorem dX6_agreeWith_30 : decode cX6_agreeWith 30 = .ok (.iload_n 2, 1) := by decide +kernel
theorem dX6_agreeWith_31 : decode cX6_agreeWith 31 = .ok (.iaload, 1) := by decide +kernel
theorem dX6_agreeWith_32 : decode cX6_agreeWith 32 = .ok (.if_icmp .eq 5, 3) := by decide +kernel
theorem dX6_agreeWith_35 : decode cX6_agreeWith 35 = .ok (.iconst 0, 1) := by decide +kernel
theorem dX6_agreeWith_36 : decode cX6_agreeWith 36 = .ok (.ireturn, 1) := by decide +kernel
theorem dX6_agreeWith_37 : decode cX6_agreeWith 37 = .ok (.iinc 2 1, 3) := by decide +kernel
theorem dX6_agreeWith_40 : decode cX6_agreeWith 40 = .ok (.goto (-38), 3) := by decide +kernel
theorem dX6_agreeWith_43 : decode cX6_agreeWith 43 = .ok (.iconst 1, 1) := by decide +kernel
theorem dX6_agreeWith_44 : decode cX6_agreeWith 44 = .ok (.ireturn, 1) := by decide +kernel
theorem dX7_init_0 : decode cX7_init 0 = .ok (.aload_n 0, 1) := by decide +kernel
theorem dX7_init_1 : decode cX7_init 1 = .ok (.invokespecial 3, 3) := by decide +kernel
theorem dX7_init_4 : decode cX7_init 4 = .ok (.aload_n 0, 1) := by decide +kernel
theorem dX7_init_5 : decode cX7_init 5 = .ok (.sipush 160, 3) := by decide +kernel
theorem dX7_init_8 : decode cX7_init 8 = .ok (.newarray .byte, 2) := by decide +kernel
theorem dX7_init_10 : decode cX7_init 10 = .ok (.putfield 11, 3) := by decide +kernel
theorem dX7_init_13 : decode cX7_init 13 = .ok (.aload_n 0, 1) := by decide +kernel
theorem dX7_init_14 : decode cX7_init 14 = .ok (.iconst 0, 1) := by decide +kernel
theorem dX7_init_15 : decode cX7_init 15 = .ok (.putfield 15, 3) := by decide +kernel
theorem dX7_init_18 : decode cX7_init 18 = .ok (.return_, 1) := by decide +kernel
theorem dX7_size_0 : decode cX7_size 0 = .ok (.aload_n 0, 1) := by decide +kernel
theorem dX7_size_1 : decode cX7_size 1 = .ok (.getfield 15, 3) := by decide +kernel
theorem dX7_size_4 : decode cX7_size 4 = .ok (.ireturn, 1) := by decide +kernel
theorem dX7_isFull_0 : decode cX7_isFull 0 = .ok (.aload_n 0, 1) := by decide +kernel
theorem dX7_isFull_1 : decode cX7_isFull 1 = .ok (.getfield 15, 3) := by decide +kernel
theorem dX7_isFull_4 : decode cX7_isFull 4 = .ok (.sipush 160, 3) := by decide +kernel
theorem dX7_isFull_7 : decode cX7_isFull 7 = .ok (.if_icmp .lt 7, 3) := by decide +kernel
theorem dX7_isFull_10 : decode cX7_isFull 10 = .ok (.iconst 1, 1) := by decide +kernel
theorem dX7_isFull_11 : decode cX7_isFull 11 = .ok (.goto 4, 3) := by decide +kernel
theorem dX7_isFull_14 : decode cX7_isFull 14 = .ok (.iconst 0, 1) := by decide +kernel
theorem dX7_isFull_15 : decode cX7_isFull 15 = .ok (.ireturn, 1) := by decide +kernel
set_option maxRecDepth 20000 in
theorem ggX7_append_X7_isFull : GoodIn wsX7_append wsX7_isFull := goodIn_r _ [7, 2, 8, 9] (by decide +kernel) (by decide +kernel)
set_option maxRecDepth 20000 in
theorem gX7_append_X7_isFull : GoodIn wsX7_append (wsV RX7 19 RX7 yX7_isFull wsX7_isFull) := goodIn_app (goodIn_of _ (by decide +kernel)) ggX7_append_X7_isFull
theorem dX7_append_0 : decode cX7_append 0 = .ok (.aload_n 0, 1) := by decide +kernel
theorem dX7_append_1 : decode cX7_append 1 = .ok (.invokevirtual 19, 3) := by decide +kernel
theorem dX7_append_4 : decode cX7_append 4 = .ok (.ifCond .ne 24, 3) := by decide +kernel
theorem dX7_append_7 : decode cX7_append 7 = .ok (.aload_n 0, 1) := by decide +kernel
theorem dX7_append_8 : decode cX7_append 8 = .ok (.getfield 11, 3) := by decide +kernel
theorem dX7_append_11 : decode cX7_append 11 = .ok (.aload_n 0, 1) := by decide +kernel
theorem dX7_append_12 : decode cX7_append 12 = .ok (.getfield 15, 3) := by decide +kernel
theorem dX7_append_15 : decode cX7_append 15 = .ok (.iload_n 1, 1) := by decide +kernel
theorem dX7_append_16 : decode cX7_append 16 = .ok (.i2b, 1) := by decide +kernel
theorem dX7_append_17 : decode cX7_append 17 = .ok (.bastore, 1) := by decide +kernel
theorem dX7_append_18 : decode cX7_append 18 = .ok (.aload_n 0, 1) := by decide +kernel
theorem dX7_append_19 : decode cX7_append 19 = .ok (.dup, 1) := by decide +kernel
theorem dX7_append_20 : decode cX7_append 20 = .ok (.getfield 15, 3) := by decide +kernel
theorem dX7_append_23 : decode cX7_append 23 = .ok (.iconst 1, 1) := by decide +kernel
theorem dX7_append_24 : decode cX7_append 24 = .ok (.iadd, 1) := by decide +kernel
theorem dX7_append_25 : decode cX7_append 25 = .ok (.putfield 15, 3) := by decide +kernel
theorem dX7_append_28 : decode cX7_append 28 = .ok (.return_, 1) := by decide +kernel
set_option maxRecDepth 20000 in
theorem ggX7_cut_X9_within : GoodIn wsX7_cut wsX9_within := goodIn_r _ [4] (by decide +kernel) (by decide +kernel)
set_option maxRecDepth 20000 in
theorem gX7_cut_X9_within_n23 : GoodIn wsX7_cut (wsX9_within) := ggX7_cut_X9_within
theorem dX7_cut_0 : decode cX7_cut 0 = .ok (.iload_n 1, 1) := by decide +kernel
theorem dX7_cut_1 : decode cX7_cut 1 = .ok (.iconst 0, 1) := by decide +kernel
theorem dX7_cut_2 : decode cX7_cut 2 = .ok (.aload_n 0, 1) := by decide +kernel
theorem dX7_cut_3 : decode cX7_cut 3 = .ok (.getfield 15, 3) := by decide +kernel
theorem dX7_cut_6 : decode cX7_cut 6 = .ok (.invokestatic 23, 3) := by decide +kernel
theorem dX7_cut_9 : decode cX7_cut 9 = .ok (.ifCond .eq 8, 3) := by decide +kernel
theorem dX7_cut_12 : decode cX7_cut 12 = .ok (.aload_n 0, 1) := by decide +kernel
theorem dX7_cut_13 : decode cX7_cut 13 = .ok (.iload_n 1, 1) := by decide +kernel
theorem dX7_cut_14 : decode cX7_cut 14 = .ok (.putfield 15, 3) := by decide +kernel
theorem dX7_cut_17 : decode cX7_cut 17 = .ok (.return_, 1) := by decide +kernel
theorem dX7_at_0 : decode cX7_at 0 = .ok (.iload_n 1, 1) := by decide +kernel
theorem dX7_at_1 : decode cX7_at 1 = .ok (.ifCond .lt 20, 3) := by decide +kernel
theorem dX7_at_4 : decode cX7_at 4 = .ok (.iload_n 1, 1) := by decide +kernel
theorem dX7_at_5 : decode cX7_at 5 = .ok (.aload_n 0, 1) := by decide +kernel
theorem dX7_at_6 : decode cX7_at 6 = .ok (.getfield 15, 3) := by decide +kernel
theorem dX7_at_9 : decode cX7_at 9 = .ok (.if_icmp .ge 12, 3) := by decide +kernel
theorem dX7_at_12 : decode cX7_at 12 = .ok (.aload_n 0, 1) := by decide +kernel
theorem dX7_at_13 : decode cX7_at 13 = .ok (.getfield 11, 3) := by decide +kernel
theorem dX7_at_16 : decode cX7_at 16 = .ok (.iload_n 1, 1) := by decide +kernel
theorem dX7_at_17 : decode cX7_at 17 = .ok (.baload, 1) := by decide +kernel
theorem dX7_at_18 : decode cX7_at 18 = .ok (.goto 5, 3) := by decide +kernel
theorem dX7_at_21 : decode cX7_at 21 = .ok (.bipush (-4), 2) := by decide +kernel
theorem dX7_at_23 : decode cX7_at 23 = .ok (.ireturn, 1) := by decide +kernel
set_option maxRecDepth 20000 in
theorem ggX8_init_X5_init : GoodIn wsX8_init wsX5_init := goodIn_r _ [22, 23, 2, 3, 8, 24, 25, 26, 27, 28, 29, 30, 31] (by decide +kernel) (by decide +kernel)
set_option maxRecDepth 20000 in
theorem gX8_init_X5_init_n11 : GoodIn wsX8_init (wsX5_init) := ggX8_init_X5_init
theorem dX8_init_0 : decode cX8_init 0 = .ok (.aload_n 0, 1) := by decide +kernel
theorem dX8_init_1 : decode cX8_init 1 = .ok (.invokespecial 3, 3) := by decide +kernel
theorem dX8_init_4 : decode cX8_init 4 = .ok (.aload_n 0, 1) := by decide +kernel
theorem dX8_init_5 : decode cX8_init 5 = .ok (.new 9, 3) := by decide +kernel
theorem dX8_init_8 : decode cX8_init 8 = .ok (.dup, 1) := by decide +kernel
theorem dX8_init_9 : decode cX8_init 9 = .ok (.invokespecial 11, 3) := by decide +kernel
theorem dX8_init_12 : decode cX8_init 12 = .ok (.putfield 12, 3) := by decide +kernel
theorem dX8_init_15 : decode cX8_init 15 = .ok (.aload_n 0, 1) := by decide +kernel
theorem dX8_init_16 : decode cX8_init 16 = .ok (.iconst 5, 1) := by decide +kernel
theorem dX8_init_17 : decode cX8_init 17 = .ok (.newarray .int, 2) := by decide +kernel
theorem dX8_init_19 : decode cX8_init 19 = .ok (.putfield 18, 3) := by decide +kernel
theorem dX8_init_22 : decode cX8_init 22 = .ok (.aload_n 0, 1) := by decide +kernel
theorem dX8_init_23 : decode cX8_init 23 = .ok (.iconst 0, 1) := by decide +kernel
theorem dX8_init_24 : decode cX8_init 24 = .ok (.putfield 22, 3) := by decide +kernel
theorem dX8_init_27 : decode cX8_init 27 = .ok (.aload_n 0, 1) := by decide +kernel
theorem dX8_init_28 : decode cX8_init 28 = .ok (.iconst 0, 1) := by decide +kernel
theorem dX8_init_29 : decode cX8_init 29 = .ok (.putfield 26, 3) := by decide +kernel
theorem dX8_init_32 : decode cX8_init 32 = .ok (.aload_n 0, 1) := by decide +kernel
theorem dX8_init_33 : decode cX8_init 33 = .ok (.iconst 0, 1) := by decide +kernel
theorem dX8_init_34 : decode cX8_init 34 = .ok (.putfield 30, 3) := by decide +kernel
theorem dX8_init_37 : decode cX8_init 37 = .ok (.aload_n 0, 1) := by decide +kernel
theorem dX8_init_38 : decode cX8_init 38 = .ok (.iconst 0, 1) := by decide +kernel
theorem dX8_init_39 : decode cX8_init 39 = .ok (.putfield 33, 3) := by decide +kernel
theorem dX8_init_42 : decode cX8_init 42 = .ok (.aload_n 0, 1) := by decide +kernel
theorem dX8_init_43 : decode cX8_init 43 = .ok (.iconst 0, 1) := by decide +kernel
theorem dX8_init_44 : decode cX8_init 44 = .ok (.putfield 36, 3) := by decide +kernel
theorem dX8_init_47 : decode cX8_init 47 = .ok (.aload_n 0, 1) := by decide +kernel
theorem dX8_init_48 : decode cX8_init 48 = .ok (.iconst 0, 1) := by decide +kernel
theorem dX8_init_49 : decode cX8_init 49 = .ok (.putfield 39, 3) := by decide +kernel
theorem dX8_init_52 : decode cX8_init 52 = .ok (.aload_n 0, 1) := by decide +kernel
theorem dX8_init_53 : decode cX8_init 53 = .ok (.iconst 0, 1) := by decide +kernel
theorem dX8_init_54 : decode cX8_init 54 = .ok (.putfield 42, 3) := by decide +kernel
theorem dX8_init_57 : decode cX8_init 57 = .ok (.aload_n 0, 1) := by decide +kernel
theorem dX8_init_58 : decode cX8_init 58 = .ok (.iconst 0, 1) := by decide +kernel
theorem dX8_init_59 : decode cX8_init 59 = .ok (.putfield 45, 3) := by decide +kernel
theorem dX8_init_62 : decode cX8_init 62 = .ok (.aload_n 0, 1) := by decide +kernel
theorem dX8_init_63 : decode cX8_init 63 = .ok (.iconst 0, 1) := by decide +kernel
theorem dX8_init_64 : decode cX8_init 64 = .ok (.putfield 48, 3) := by decide +kernel
theorem dX8_init_67 : decode cX8_init 67 = .ok (.aload_n 0, 1) := by decide +kernel
theorem dX8_init_68 : decode cX8_init 68 = .ok (.iconst 0, 1) := by decide +kernel
theorem dX8_init_69 : decode cX8_init 69 = .ok (.putfield 51, 3) := by decide +kernel
theorem dX8_init_72 : decode cX8_init 72 = .ok (.aload_n 0, 1) := by decide +kernel
theorem dX8_init_73 : decode cX8_init 73 = .ok (.aload_n 1, 1) := by decide +kernel
theorem dX8_init_74 : decode cX8_init 74 = .ok (.putfield 54, 3) := by decide +kernel
theorem dX8_init_77 : decode cX8_init 77 = .ok (.return_, 1) := by decide +kernel
theorem dX8_draft_0 : decode cX8_draft 0 = .ok (.aload_n 0, 1) := by decide +kernel
theorem dX8_draft_1 : decode cX8_draft 1 = .ok (.getfield 12, 3) := by decide +kernel
theorem dX8_draft_4 : decode cX8_draft 4 = .ok (.areturn, 1) := by decide +kernel
theorem dX8_linesRead_0 : decode cX8_linesRead 0 = .ok (.aload_n 0, 1) := by decide +kernel
theorem dX8_linesRead_1 : decode cX8_linesRead 1 = .ok (.getfield 33, 3) := by decide +kernel
theorem dX8_linesRead_4 : decode cX8_linesRead 4 = .ok (.ireturn, 1) := by decide +kernel
theorem dX8_faultFound_0 : decode cX8_faultFound 0 = .ok (.aload_n 0, 1) := by decide +kernel
theorem dX8_faultFound_1 : decode cX8_faultFound 1 = .ok (.getfield 36, 3) := by decide +kernel
theorem dX8_faultFound_4 : decode cX8_faultFound 4 = .ok (.ireturn, 1) := by decide +kernel
theorem dX8_faultPlace_0 : decode cX8_faultPlace 0 = .ok (.aload_n 0, 1) := by decide +kernel
theorem dX8_faultPlace_1 : decode cX8_faultPlace 1 = .ok (.getfield 39, 3) := by decide +kernel
theorem dX8_faultPlace_4 : decode cX8_faultPlace 4 = .ok (.ireturn, 1) := by decide +kernel
set_option maxRecDepth 20000 in
theorem ggX8_takesAll_X8_beginAnew : GoodIn wsX8_takesAll wsX8_beginAnew := goodIn_r _ [8, 9, 10, 11, 12, 2, 13, 14, 15, 16, 17, 18, 19, 20, 21, 22, 199, 200, 201, 202, 203, 204, 205, 206, 207, 208, 209, 210, 211, 212, 213, 214, 215] (by decide +kernel) (by decide +kernel)
set_option maxRecDepth 20000 in
theorem gX8_takesAll_X8_beginAnew : GoodIn wsX8_takesAll (wsV RX8 58 RX8 yX8_beginAnew wsX8_beginAnew) := goodIn_app (goodIn_of _ (by decide +kernel)) ggX8_takesAll_X8_beginAnew
set_option maxRecDepth 20000 in
theorem ggX8_takesAll_X8_takesToken : GoodIn wsX8_takesAll wsX8_takesToken := goodIn_r _ [26, 15, 27, 3, 1, 28, 29, 30, 31, 32, 33, 34, 35, 36, 37, 38, 39, 40, 7, 41, 42, 43, 44, 45, 46, 47, 48, 49, 50, 51, 52, 53, 54, 55, 56, 57, 13, 14, 199, 200, 201, 202, 203, 204, 205, 206, 207, 208, 209, 210, 211, 216, 217] (by decide +kernel) (by decide +kernel)
set_option maxRecDepth 20000 in
theorem gX8_takesAll_X8_takesToken : GoodIn wsX8_takesAll (wsV RX8 63 RX8 yX8_takesToken wsX8_takesToken) := goodIn_app (goodIn_of _ (by decide +kernel)) ggX8_takesAll_X8_takesToken
set_option maxRecDepth 20000 in
theorem ggX8_takesAll_X8_takesOrder : GoodIn wsX8_takesAll wsX8_takesOrder := goodIn_r _ [61, 10, 9, 62, 27, 63, 64, 65, 19, 66, 21, 28, 29, 30, 31, 32, 33, 54, 55, 56, 7, 57, 13, 14, 67, 68, 69, 70, 71, 72, 73, 74, 75, 76, 77, 78, 79, 80, 199, 200, 201, 202, 203, 204, 205, 206, 207, 208, 209, 210, 211, 212, 213, 214, 215, 216, 217] (by decide +kernel) (by decide +kernel)
set_option maxRecDepth 20000 in
theorem gX8_takesAll_X8_takesOrder : GoodIn wsX8_takesAll (wsV RX8 67 RX8 yX8_takesOrder wsX8_takesOrder) := goodIn_app (goodIn_of _ (by decide +kernel)) ggX8_takesAll_X8_takesOrder
set_option maxRecDepth 20000 in
theorem ggX8_takesAll_X8_takesLine : GoodIn wsX8_takesAll wsX8_takesLine := goodIn_r _ [84, 1, 3, 85, 86, 87, 7, 88, 89, 90, 91, 92, 15, 27, 93, 94, 95, 96, 97, 98, 99, 100, 101, 102, 103, 104, 34, 35, 36, 31, 37, 33, 38, 105, 106, 107, 108, 109, 110, 111, 112, 113, 114, 115, 116, 117, 118, 119, 120, 121, 122, 123, 124, 125, 126, 127, 128, 129, 130, 131, 132, 133, 134, 135, 136, 137, 138, 139, 140, 141, 54, 55, 56, 57, 13, 14, 142, 143, 144, 145, 11, 53, 10, 62, 23, 24, 25, 26, 28, 29, 30, 32, 39, 40, 41, 42, 43, 44, 45, 46, 47, 48, 49, 50, 51, 52, 146, 147, 148, 149, 150, 151, 152, 153, 154, 155, 156, 157, 158, 159, 160, 12, 9, 161, 162, 163, 19, 164, 22, 165, 166, 167, 168, 169, 170, 171, 172, 173, 174, 175, 176, 21, 177, 178, 179, 180, 75, 181, 182, 183, 184, 185, 186, 187, 188, 189, 190, 191, 192, 193, 194, 195, 196, 197, 198, 199, 200, 201, 202, 203, 204, 205, 206, 207, 208, 209, 210, 211, 216, 217, 212, 213, 214, 215] (by decide +kernel) (by decide +kernel)
set_option maxRecDepth 20000 in
theorem gX8_takesAll_X8_takesLine : GoodIn wsX8_takesAll (wsV RX8 70 RX8 yX8_takesLine wsX8_takesLine) := goodIn_app (goodIn_of _ (by decide +kernel)) ggX8_takesAll_X8_takesLine
set_option maxRecDepth 20000 in
theorem ggX8_takesAll_X8_failed : GoodIn wsX8_takesAll wsX8_failed := goodIn_r _ [57, 13, 14, 199, 200, 201, 202, 203, 204, 205, 206, 207, 208, 209, 210, 211] (by decide +kernel) (by decide +kernel)
set_option maxRecDepth 20000 in
theorem gX8_takesAll_X8_failed : GoodIn wsX8_takesAll (wsV RX8 73 RX8 yX8_failed wsX8_failed) := goodIn_app (goodIn_of _ (by decide +kernel)) ggX8_takesAll_X8_failed
theorem dX8_takesAll_0 : decode cX8_takesAll 0 = .ok (.aload_n 0, 1) := by decide +kernel
theorem dX8_takesAll_1 : decode cX8_takesAll 1 = .ok (.invokevirtual 58, 3) := by decide +kernel
theorem dX8_takesAll_4 : decode cX8_takesAll 4 = .ok (.iconst 0, 1) := by decide +kernel
theorem dX8_takesAll_5 : decode cX8_takesAll 5 = .ok (.istore_n 1, 1) := by decide +kernel
theorem dX8_takesAll_6 : decode cX8_takesAll 6 = .ok (.iload_n 1, 1) := by decide +kernel
theorem dX8_takesAll_7 : decode cX8_takesAll 7 = .ok (.sipush 160, 3) := by decide +kernel
theorem dX8_takesAll_10 : decode cX8_takesAll 10 = .ok (.if_icmp .gt 49, 3) := by decide +kernel
theorem dX8_takesAll_13 : decode cX8_takesAll 13 = .ok (.aload_n 0, 1) := by decide +kernel
theorem dX8_takesAll_14 : decode cX8_takesAll 14 = .ok (.invokevirtual 63, 3) := by decide +kernel
theorem dX8_takesAll_17 : decode cX8_takesAll 17 = .ok (.ifCond .ne 5, 3) := by decide +kernel
theorem dX8_takesAll_20 : decode cX8_takesAll 20 = .ok (.iconst 0, 1) := by decide +kernel
theorem dX8_takesAll_21 : decode cX8_takesAll 21 = .ok (.ireturn, 1) := by decide +kernel
theorem dX8_takesAll_22 : decode cX8_takesAll 22 = .ok (.aload_n 0, 1) := by decide +kernel
theorem dX8_takesAll_23 : decode cX8_takesAll 23 = .ok (.getfield 45, 3) := by decide +kernel
theorem dX8_takesAll_26 : decode cX8_takesAll 26 = .ok (.ifCond .ne 8, 3) := by decide +kernel
theorem dX8_takesAll_29 : decode cX8_takesAll 29 = .ok (.aload_n 0, 1) := by decide +kernel
theorem dX8_takesAll_30 : decode cX8_takesAll 30 = .ok (.invokevirtual 67, 3) := by decide +kernel
theorem dX8_takesAll_33 : decode cX8_takesAll 33 = .ok (.ireturn, 1) := by decide +kernel
theorem dX8_takesAll_34 : decode cX8_takesAll 34 = .ok (.aload_n 0, 1) := by decide +kernel
theorem dX8_takesAll_35 : decode cX8_takesAll 35 = .ok (.invokevirtual 70, 3) := by decide +kernel
theorem dX8_takesAll_38 : decode cX8_takesAll 38 = .ok (.ifCond .ne 5, 3) := by decide +kernel
theorem dX8_takesAll_41 : decode cX8_takesAll 41 = .ok (.iconst 0, 1) := by decide +kernel
theorem dX8_takesAll_42 : decode cX8_takesAll 42 = .ok (.ireturn, 1) := by decide +kernel
theorem dX8_takesAll_43 : decode cX8_takesAll 43 = .ok (.aload_n 0, 1) := by decide +kernel
theorem dX8_takesAll_44 : decode cX8_takesAll 44 = .ok (.dup, 1) := by decide +kernel
theorem dX8_takesAll_45 : decode cX8_takesAll 45 = .ok (.getfield 33, 3) := by decide +kernel
theorem dX8_takesAll_48 : decode cX8_takesAll 48 = .ok (.iconst 1, 1) := by decide +kernel
theorem dX8_takesAll_49 : decode cX8_takesAll 49 = .ok (.iadd, 1) := by decide +kernel
theorem dX8_takesAll_50 : decode cX8_takesAll 50 = .ok (.putfield 33, 3) := by decide +kernel
theorem dX8_takesAll_53 : decode cX8_takesAll 53 = .ok (.iinc 1 1, 3) := by decide +kernel
theorem dX8_takesAll_56 : decode cX8_takesAll 56 = .ok (.goto (-50), 3) := by decide +kernel
theorem dX8_takesAll_59 : decode cX8_takesAll 59 = .ok (.aload_n 0, 1) := by decide +kernel
theorem dX8_takesAll_60 : decode cX8_takesAll 60 = .ok (.iconst 2, 1) := by decide +kernel
theorem dX8_takesAll_61 : decode cX8_takesAll 61 = .ok (.aload_n 0, 1) := by decide +kernel
theorem dX8_takesAll_62 : decode cX8_takesAll 62 = .ok (.getfield 48, 3) := by decide +kernel
theorem dX8_takesAll_65 : decode cX8_takesAll 65 = .ok (.invokevirtual 73, 3) := by decide +kernel
theorem dX8_takesAll_68 : decode cX8_takesAll 68 = .ok (.ireturn, 1) := by decide +kernel
set_option maxRecDepth 20000 in
theorem ggX8_beginAnew_X5_clear : GoodIn wsX8_beginAnew wsX5_clear := goodIn_r _ [13, 14, 15, 29, 30, 31, 32] (by decide +kernel) (by decide +kernel)
set_option maxRecDepth 20000 in
theorem gX8_beginAnew_X5_clear : GoodIn wsX8_beginAnew (wsV RX8 77 RX5 yX5_clear wsX5_clear) := goodIn_app (goodIn_of _ (by decide +kernel)) ggX8_beginAnew_X5_clear
theorem dX8_beginAnew_0 : decode cX8_beginAnew 0 = .ok (.aload_n 0, 1) := by decide +kernel
theorem dX8_beginAnew_1 : decode cX8_beginAnew 1 = .ok (.getfield 12, 3) := by decide +kernel
theorem dX8_beginAnew_4 : decode cX8_beginAnew 4 = .ok (.invokevirtual 77, 3) := by decide +kernel
theorem dX8_beginAnew_7 : decode cX8_beginAnew 7 = .ok (.aload_n 0, 1) := by decide +kernel
theorem dX8_beginAnew_8 : decode cX8_beginAnew 8 = .ok (.iconst 0, 1) := by decide +kernel
theorem dX8_beginAnew_9 : decode cX8_beginAnew 9 = .ok (.putfield 22, 3) := by decide +kernel
theorem dX8_beginAnew_12 : decode cX8_beginAnew 12 = .ok (.aload_n 0, 1) := by decide +kernel
theorem dX8_beginAnew_13 : decode cX8_beginAnew 13 = .ok (.iconst 0, 1) := by decide +kernel
theorem dX8_beginAnew_14 : decode cX8_beginAnew 14 = .ok (.putfield 26, 3) := by decide +kernel
theorem dX8_beginAnew_17 : decode cX8_beginAnew 17 = .ok (.aload_n 0, 1) := by decide +kernel
theorem dX8_beginAnew_18 : decode cX8_beginAnew 18 = .ok (.iconst 0, 1) := by decide +kernel
theorem dX8_beginAnew_19 : decode cX8_beginAnew 19 = .ok (.putfield 30, 3) := by decide +kernel
theorem dX8_beginAnew_22 : decode cX8_beginAnew 22 = .ok (.aload_n 0, 1) := by decide +kernel
theorem dX8_beginAnew_23 : decode cX8_beginAnew 23 = .ok (.iconst 0, 1) := by decide +kernel
theorem dX8_beginAnew_24 : decode cX8_beginAnew 24 = .ok (.putfield 33, 3) := by decide +kernel
theorem dX8_beginAnew_27 : decode cX8_beginAnew 27 = .ok (.aload_n 0, 1) := by decide +kernel
theorem dX8_beginAnew_28 : decode cX8_beginAnew 28 = .ok (.iconst 0, 1) := by decide +kernel
theorem dX8_beginAnew_29 : decode cX8_beginAnew 29 = .ok (.putfield 36, 3) := by decide +kernel
theorem dX8_beginAnew_32 : decode cX8_beginAnew 32 = .ok (.aload_n 0, 1) := by decide +kernel
theorem dX8_beginAnew_33 : decode cX8_beginAnew 33 = .ok (.iconst 0, 1) := by decide +kernel
theorem dX8_beginAnew_34 : decode cX8_beginAnew 34 = .ok (.putfield 39, 3) := by decide +kernel
theorem dX8_beginAnew_37 : decode cX8_beginAnew 37 = .ok (.aload_n 0, 1) := by decide +kernel
theorem dX8_beginAnew_38 : decode cX8_beginAnew 38 = .ok (.iconst 0, 1) := by decide +kernel
theorem dX8_beginAnew_39 : decode cX8_beginAnew 39 = .ok (.putfield 42, 3) := by decide +kernel
theorem dX8_beginAnew_42 : decode cX8_beginAnew 42 = .ok (.return_, 1) := by decide +kernel
theorem dX8_failed_0 : decode cX8_failed 0 = .ok (.aload_n 0, 1) := by decide +kernel
theorem dX8_failed_1 : decode cX8_failed 1 = .ok (.iload_n 1, 1) := by decide +kernel
theorem dX8_failed_2 : decode cX8_failed 2 = .ok (.putfield 36, 3) := by decide +kernel
theorem dX8_failed_5 : decode cX8_failed 5 = .ok (.aload_n 0, 1) := by decide +kernel
theorem dX8_failed_6 : decode cX8_failed 6 = .ok (.iload_n 2, 1) := by decide +kernel
theorem dX8_failed_7 : decode cX8_failed 7 = .ok (.putfield 39, 3) := by decide +kernel
theorem dX8_failed_10 : decode cX8_failed 10 = .ok (.iconst 0, 1) := by decide +kernel
theorem dX8_failed_11 : decode cX8_failed 11 = .ok (.ireturn, 1) := by decide +kernel
set_option maxRecDepth 20000 in
theorem ggX8_takesLine_X8_lineOfName : GoodIn wsX8_takesLine wsX8_lineOfName := goodIn_r _ [7, 8, 9, 10, 6, 11, 12, 2, 13, 14, 15, 16, 17, 18, 19, 20, 21, 22, 23, 24, 25, 26, 27, 28, 29, 30, 31, 32, 33, 34, 35, 36, 37, 38, 39, 40, 41, 42, 43, 44, 45, 46, 47, 48, 49, 50, 51, 52, 53, 54, 55, 56, 57, 58, 59, 60, 61, 62, 63, 64, 65, 66, 67, 68, 69, 165, 166, 167, 168, 169, 170, 171, 172, 173, 174, 175, 176, 177, 178, 179] (by decide +kernel) (by decide +kernel)
set_option maxRecDepth 20000 in
theorem gX8_takesLine_X8_lineOfName : GoodIn wsX8_takesLine (wsV RX8 80 RX8 yX8_lineOfName wsX8_lineOfName) := goodIn_app (goodIn_of _ (by decide +kernel)) ggX8_takesLine_X8_lineOfName
set_option maxRecDepth 20000 in
theorem ggX8_takesLine_X8_failed : GoodIn wsX8_takesLine wsX8_failed := goodIn_r _ [73, 74, 75, 165, 166, 167, 168, 169, 170, 171, 172, 173, 174, 175, 176, 177] (by decide +kernel) (by decide +kernel)
set_option maxRecDepth 20000 in
theorem gX8_takesLine_X8_failed : GoodIn wsX8_takesLine (wsV RX8 73 RX8 yX8_failed wsX8_failed) := goodIn_app (goodIn_of _ (by decide +kernel)) ggX8_takesLine_X8_failed
set_option maxRecDepth 20000 in
theorem ggX8_takesLine_X8_takesOrderLine : GoodIn wsX8_takesLine wsX8_takesOrderLine := goodIn_r _ [79, 80, 2, 1, 81, 82, 83, 70, 71, 72, 6, 73, 74, 75, 84, 85, 86, 87, 12, 13, 88, 89, 90, 29, 91, 31, 26, 27, 28, 30, 32, 92, 93, 94, 95, 96, 97, 98, 99, 100, 101, 102, 103, 104, 105, 106, 107, 108, 109, 110, 111, 112, 113, 114, 115, 116, 165, 166, 167, 168, 169, 170, 171, 172, 173, 174, 175, 176, 177, 178, 179] (by decide +kernel) (by decide +kernel)
set_option maxRecDepth 20000 in
theorem gX8_takesLine_X8_takesOrderLine : GoodIn wsX8_takesLine (wsV RX8 84 RX8 yX8_takesOrderLine wsX8_takesOrderLine) := goodIn_app (goodIn_of _ (by decide +kernel)) ggX8_takesLine_X8_takesOrderLine
set_option maxRecDepth 20000 in
theorem ggX8_takesLine_X8_takesStartLine : GoodIn wsX8_takesLine wsX8_takesStartLine := goodIn_r _ [120, 121, 2, 122, 81, 70, 71, 72, 6, 73, 74, 75, 84, 85, 86, 87, 12, 13, 1, 88, 89, 90, 29, 91, 31, 26, 27, 28, 30, 32, 92, 93, 94, 95, 96, 97, 98, 99, 100, 101, 102, 103, 104, 105, 106, 107, 108, 109, 110, 111, 112, 123, 124, 125, 126, 127, 128, 165, 166, 167, 168, 169, 170, 171, 172, 173, 174, 175, 176, 177, 178, 179, 180, 181, 182, 183] (by decide +kernel) (by decide +kernel)
set_option maxRecDepth 20000 in
theorem gX8_takesLine_X8_takesStartLine : GoodIn wsX8_takesLine (wsV RX8 87 RX8 yX8_takesStartLine wsX8_takesStartLine) := goodIn_app (goodIn_of _ (by decide +kernel)) ggX8_takesLine_X8_takesStartLine
set_option maxRecDepth 20000 in
theorem ggX8_takesLine_X8_takesStop : GoodIn wsX8_takesLine wsX8_takesStop := goodIn_r _ [132, 1, 2, 84, 85, 86, 6, 87, 12, 13, 88, 89, 90, 29, 91, 31, 26, 27, 28, 30, 32, 92, 93, 94, 95, 96, 97, 98, 99, 100, 101, 102, 103, 104, 105, 81, 70, 71, 72, 73, 74, 75, 165, 166, 167, 168, 169, 170, 171, 172, 173, 174, 175, 176, 177, 178, 179] (by decide +kernel) (by decide +kernel)
set_option maxRecDepth 20000 in
theorem gX8_takesLine_X8_takesStop : GoodIn wsX8_takesLine (wsV RX8 90 RX8 yX8_takesStop wsX8_takesStop) := goodIn_app (goodIn_of _ (by decide +kernel)) ggX8_takesLine_X8_takesStop
set_option maxRecDepth 20000 in
theorem ggX8_takesLine_X8_takesBoxLine : GoodIn wsX8_takesLine wsX8_takesBoxLine := goodIn_r _ [136, 122, 2, 81, 137, 138, 139, 126, 140, 141, 70, 71, 72, 6, 73, 74, 75, 142, 143, 144, 145, 146, 147, 148, 149, 150, 151, 152, 84, 85, 86, 87, 12, 13, 1, 88, 89, 90, 29, 91, 31, 26, 27, 28, 30, 32, 92, 93, 94, 95, 96, 97, 98, 99, 100, 101, 102, 103, 104, 105, 153, 154, 155, 156, 157, 158, 159, 110, 111, 112, 160, 161, 162, 163, 106, 107, 108, 109, 164, 165, 166, 167, 168, 169, 170, 171, 172, 173, 174, 175, 176, 177, 180, 181, 182, 183, 178, 179] (by decide +kernel) (by decide +kernel)
set_option maxRecDepth 20000 in
theorem gX8_takesLine_X8_takesBoxLine : GoodIn wsX8_takesLine (wsV RX8 93 RX8 yX8_takesBoxLine wsX8_takesBoxLine) := goodIn_app (goodIn_of _ (by decide +kernel)) ggX8_takesLine_X8_takesBoxLine
theorem dX8_takesLine_0 : decode cX8_takesLine 0 = .ok (.aload_n 0, 1) := by decide +kernel
theorem dX8_takesLine_1 : decode cX8_takesLine 1 = .ok (.getfield 45, 3) := by decide +kernel
theorem dX8_takesLine_4 : decode cX8_takesLine 4 = .ok (.iconst 1, 1) := by decide +kernel
theorem dX8_takesLine_5 : decode cX8_takesLine 5 = .ok (.if_icmp .ne 10, 3) := by decide +kernel
theorem dX8_takesLine_8 : decode cX8_takesLine 8 = .ok (.aload_n 0, 1) := by decide +kernel
theorem dX8_takesLine_9 : decode cX8_takesLine 9 = .ok (.invokevirtual 80, 3) := by decide +kernel
theorem dX8_takesLine_12 : decode cX8_takesLine 12 = .ok (.goto 5, 3) := by decide +kernel
theorem dX8_takesLine_15 : decode cX8_takesLine 15 = .ok (.bipush (-4), 2) := by decide +kernel
theorem dX8_takesLine_17 : decode cX8_takesLine 17 = .ok (.istore_n 1, 1) := by decide +kernel
theorem dX8_takesLine_18 : decode cX8_takesLine 18 = .ok (.iload_n 1, 1) := by decide +kernel
theorem dX8_takesLine_19 : decode cX8_takesLine 19 = .ok (.lookupswitch 68 #[(-4, 33), (4, 43), (5, 48)], 33) := by decide +kernel
theorem dX8_takesLine_52 : decode cX8_takesLine 52 = .ok (.aload_n 0, 1) := by decide +kernel
theorem dX8_takesLine_53 : decode cX8_takesLine 53 = .ok (.iconst 2, 1) := by decide +kernel
theorem dX8_takesLine_54 : decode cX8_takesLine 54 = .ok (.aload_n 0, 1) := by decide +kernel
theorem dX8_takesLine_55 : decode cX8_takesLine 55 = .ok (.getfield 48, 3) := by decide +kernel
theorem dX8_takesLine_58 : decode cX8_takesLine 58 = .ok (.invokevirtual 73, 3) := by decide +kernel
theorem dX8_takesLine_61 : decode cX8_takesLine 61 = .ok (.ireturn, 1) := by decide +kernel
theorem dX8_takesLine_62 : decode cX8_takesLine 62 = .ok (.aload_n 0, 1) := by decide +kernel
theorem dX8_takesLine_63 : decode cX8_takesLine 63 = .ok (.invokevirtual 84, 3) := by decide +kernel
theorem dX8_takesLine_66 : decode cX8_takesLine 66 = .ok (.ireturn, 1) := by decide +kernel
theorem dX8_takesLine_67 : decode cX8_takesLine 67 = .ok (.aload_n 0, 1) := by decide +kernel
theorem dX8_takesLine_68 : decode cX8_takesLine 68 = .ok (.invokevirtual 87, 3) := by decide +kernel
theorem dX8_takesLine_71 : decode cX8_takesLine 71 = .ok (.ifCond .eq 14, 3) := by decide +kernel
theorem dX8_takesLine_74 : decode cX8_takesLine 74 = .ok (.aload_n 0, 1) := by decide +kernel
theorem dX8_takesLine_75 : decode cX8_takesLine 75 = .ok (.invokevirtual 90, 3) := by decide +kernel
theorem dX8_takesLine_78 : decode cX8_takesLine 78 = .ok (.ifCond .eq 7, 3) := by decide +kernel
theorem dX8_takesLine_81 : decode cX8_takesLine 81 = .ok (.iconst 1, 1) := by decide +kernel
theorem dX8_takesLine_82 : decode cX8_takesLine 82 = .ok (.goto 4, 3) := by decide +kernel
theorem dX8_takesLine_85 : decode cX8_takesLine 85 = .ok (.iconst 0, 1) := by decide +kernel
theorem dX8_takesLine_86 : decode cX8_takesLine 86 = .ok (.ireturn, 1) := by decide +kernel
theorem dX8_takesLine_87 : decode cX8_takesLine 87 = .ok (.aload_n 0, 1) := by decide +kernel
theorem dX8_takesLine_88 : decode cX8_takesLine 88 = .ok (.iload_n 1, 1) := by decide +kernel
theorem dX8_takesLine_89 : decode cX8_takesLine 89 = .ok (.invokevirtual 93, 3) := by decide +kernel
theorem dX8_takesLine_92 : decode cX8_takesLine 92 = .ok (.ifCond .eq 14, 3) := by decide +kernel
theorem dX8_takesLine_95 : decode cX8_takesLine 95 = .ok (.aload_n 0, 1) := by decide +kernel
theorem dX8_takesLine_96 : decode cX8_takesLine 96 = .ok (.invokevirtual 90, 3) := by decide +kernel
theorem dX8_takesLine_99 : decode cX8_takesLine 99 = .ok (.ifCond .eq 7, 3) := by decide +kernel
theorem dX8_takesLine_102 : decode cX8_takesLine 102 = .ok (.iconst 1, 1) := by decide +kernel
theorem dX8_takesLine_103 : decode cX8_takesLine 103 = .ok (.goto 4, 3) := by decide +kernel
theorem dX8_takesLine_106 : decode cX8_takesLine 106 = .ok (.iconst 0, 1) := by decide +kernel
theorem dX8_takesLine_107 : decode cX8_takesLine 107 = .ok (.ireturn, 1) := by decide +kernel
set_option maxRecDepth 20000 in
theorem ggX8_lineOfName_X8_nameIs : GoodIn wsX8_lineOfName wsX8_nameIs := goodIn_r _ [5, 6, 7, 8, 9, 10, 11, 12, 13, 14, 15, 16, 17, 18, 19, 20, 21, 22, 23, 24, 25, 26, 27, 28, 29, 30, 31, 32, 33, 34, 35, 36, 37, 38, 39, 40, 41, 42, 43, 44, 45, 46, 47, 48, 49, 50, 51, 52, 53, 54, 55, 56, 57, 58, 59, 60, 61, 62, 63, 64, 65, 66, 67, 68, 69, 70, 71, 72, 73, 74, 75, 76, 77, 78, 79] (by decide +kernel) (by decide +kernel)
set_option maxRecDepth 20000 in
theorem gX8_lineOfName_X8_nameIs : GoodIn wsX8_lineOfName (wsV RX8 99 RX8 yX8_nameIs wsX8_nameIs) := goodIn_app (goodIn_of _ (by decide +kernel)) ggX8_lineOfName_X8_nameIs
theorem dX8_lineOfName_0 : decode cX8_lineOfName 0 = .ok (.aload_n 0, 1) := by decide +kernel
theorem dX8_lineOfName_1 : decode cX8_lineOfName 1 = .ok (.ldc 97, 2) := by decide +kernel
theorem dX8_lineOfName_3 : decode cX8_lineOfName 3 = .ok (.invokevirtual 99, 3) := by decide +kernel
theorem dX8_lineOfName_6 : decode cX8_lineOfName 6 = .ok (.ifCond .eq 5, 3) := by decide +kernel
theorem dX8_lineOfName_9 : decode cX8_lineOfName 9 = .ok (.iconst 0, 1) := by decide +kernel
theorem dX8_lineOfName_10 : decode cX8_lineOfName 10 = .ok (.ireturn, 1) := by decide +kernel
theorem dX8_lineOfName_11 : decode cX8_lineOfName 11 = .ok (.aload_n 0, 1) := by decide +kernel
theorem dX8_lineOfName_12 : decode cX8_lineOfName 12 = .ok (.ldc 103, 2) := by decide +kernel
theorem dX8_lineOfName_14 : decode cX8_lineOfName 14 = .ok (.invokevirtual 99, 3) := by decide +kernel
theorem dX8_lineOfName_17 : decode cX8_lineOfName 17 = .ok (.ifCond .eq 5, 3) := by decide +kernel
theorem dX8_lineOfName_20 : decode cX8_lineOfName 20 = .ok (.iconst 1, 1) := by decide +kernel
theorem dX8_lineOfName_21 : decode cX8_lineOfName 21 = .ok (.ireturn, 1) := by decide +kernel
theorem dX8_lineOfName_22 : decode cX8_lineOfName 22 = .ok (.aload_n 0, 1) := by decide +kernel
theorem dX8_lineOfName_23 : decode cX8_lineOfName 23 = .ok (.ldc 105, 2) := by decide +kernel
theorem dX8_lineOfName_25 : decode cX8_lineOfName 25 = .ok (.invokevirtual 99, 3) := by decide +kernel
theorem dX8_lineOfName_28 : decode cX8_lineOfName 28 = .ok (.ifCond .eq 5, 3) := by decide +kernel
theorem dX8_lineOfName_31 : decode cX8_lineOfName 31 = .ok (.iconst 2, 1) := by decide +kernel
theorem dX8_lineOfName_32 : decode cX8_lineOfName 32 = .ok (.ireturn, 1) := by decide +kernel
theorem dX8_lineOfName_33 : decode cX8_lineOfName 33 = .ok (.aload_n 0, 1) := by decide +kernel
theorem dX8_lineOfName_34 : decode cX8_lineOfName 34 = .ok (.ldc 107, 2) := by decide +kernel
theorem dX8_lineOfName_36 : decode cX8_lineOfName 36 = .ok (.invokevirtual 99, 3) := by decide +kernel
theorem dX8_lineOfName_39 : decode cX8_lineOfName 39 = .ok (.ifCond .eq 5, 3) := by decide +kernel
theorem dX8_lineOfName_42 : decode cX8_lineOfName 42 = .ok (.iconst 3, 1) := by decide +kernel
theorem dX8_lineOfName_43 : decode cX8_lineOfName 43 = .ok (.ireturn, 1) := by decide +kernel
theorem dX8_lineOfName_44 : decode cX8_lineOfName 44 = .ok (.aload_n 0, 1) := by decide +kernel
theorem dX8_lineOfName_45 : decode cX8_lineOfName 45 = .ok (.ldc 109, 2) := by decide +kernel
theorem dX8_lineOfName_47 : decode cX8_lineOfName 47 = .ok (.invokevirtual 99, 3) := by decide +kernel
theorem dX8_lineOfName_50 : decode cX8_lineOfName 50 = .ok (.ifCond .eq 5, 3) := by decide +kernel
theorem dX8_lineOfName_53 : decode cX8_lineOfName 53 = .ok (.iconst 4, 1) := by decide +kernel
theorem dX8_lineOfName_54 : decode cX8_lineOfName 54 = .ok (.ireturn, 1) := by decide +kernel
theorem dX8_lineOfName_55 : decode cX8_lineOfName 55 = .ok (.aload_n 0, 1) := by decide +kernel
theorem dX8_lineOfName_56 : decode cX8_lineOfName 56 = .ok (.ldc 111, 2) := by decide +kernel
theorem dX8_lineOfName_58 : decode cX8_lineOfName 58 = .ok (.invokevirtual 99, 3) := by decide +kernel
theorem dX8_lineOfName_61 : decode cX8_lineOfName 61 = .ok (.ifCond .eq 7, 3) := by decide +kernel
theorem dX8_lineOfName_64 : decode cX8_lineOfName 64 = .ok (.iconst 5, 1) := by decide +kernel
theorem dX8_lineOfName_65 : decode cX8_lineOfName 65 = .ok (.goto 5, 3) := by decide +kernel
theorem dX8_lineOfName_68 : decode cX8_lineOfName 68 = .ok (.bipush (-4), 2) := by decide +kernel
theorem dX8_lineOfName_70 : decode cX8_lineOfName 70 = .ok (.ireturn, 1) := by decide +kernel
set_option maxRecDepth 20000 in
theorem ggX8_nameIs_J0_length_8abf5 : GoodIn wsX8_nameIs wsJ0_length_8abf5 := goodIn_r _ [8, 9, 10, 11, 12, 7, 13, 14, 15] (by decide +kernel) (by decide +kernel)
set_option maxRecDepth 20000 in
theorem gX8_nameIs_J0_length_8abf5 : GoodIn wsX8_nameIs (wsV RX8 113 RJ0 yJ0_length_8abf5 wsJ0_length_8abf5) := goodIn_app (goodIn_of _ (by decide +kernel)) ggX8_nameIs_J0_length_8abf5
set_option maxRecDepth 20000 in
theorem ggX8_nameIs_X7_at : GoodIn wsX8_nameIs wsX7_at := goodIn_r _ [20, 21, 22, 73, 74] (by decide +kernel) (by decide +kernel)
set_option maxRecDepth 20000 in
theorem gX8_nameIs_X7_at : GoodIn wsX8_nameIs (wsV RX8 118 RX7 yX7_at wsX7_at) := goodIn_app (goodIn_of _ (by decide +kernel)) ggX8_nameIs_X7_at
set_option maxRecDepth 20000 in
theorem ggX8_nameIs_J0_charAt_5068e : GoodIn wsX8_nameIs wsJ0_charAt_5068e := goodIn_r _ [26, 9, 27, 28, 29, 7, 30, 14, 15, 31, 32, 33, 34, 35, 36, 37, 38, 39, 40, 41, 42, 43, 44, 45, 46, 47, 48, 49, 50, 51, 52, 53, 54, 55, 56, 57, 58, 59] (by decide +kernel) (by decide +kernel)
set_option maxRecDepth 20000 in
theorem gX8_nameIs_J0_charAt_5068e : GoodIn wsX8_nameIs (wsV RX8 122 RJ0 yJ0_charAt_5068e wsJ0_charAt_5068e) := goodIn_app (goodIn_of _ (by decide +kernel)) ggX8_nameIs_J0_charAt_5068e
theorem dX8_nameIs_0 : decode cX8_nameIs 0 = .ok (.aload_n 0, 1) := by decide +kernel
theorem dX8_nameIs_1 : decode cX8_nameIs 1 = .ok (.getfield 42, 3) := by decide +kernel
theorem dX8_nameIs_4 : decode cX8_nameIs 4 = .ok (.aload_n 0, 1) := by decide +kernel
theorem dX8_nameIs_5 : decode cX8_nameIs 5 = .ok (.getfield 48, 3) := by decide +kernel
theorem dX8_nameIs_8 : decode cX8_nameIs 8 = .ok (.isub, 1) := by decide +kernel
theorem dX8_nameIs_9 : decode cX8_nameIs 9 = .ok (.aload_n 1, 1) := by decide +kernel
theorem dX8_nameIs_10 : decode cX8_nameIs 10 = .ok (.invokevirtual 113, 3) := by decide +kernel
theorem dX8_nameIs_13 : decode cX8_nameIs 13 = .ok (.if_icmp .eq 5, 3) := by decide +kernel
theorem dX8_nameIs_16 : decode cX8_nameIs 16 = .ok (.iconst 0, 1) := by decide +kernel
theorem dX8_nameIs_17 : decode cX8_nameIs 17 = .ok (.ireturn, 1) := by decide +kernel
theorem dX8_nameIs_18 : decode cX8_nameIs 18 = .ok (.iconst 0, 1) := by decide +kernel
theorem dX8_nameIs_19 : decode cX8_nameIs 19 = .ok (.istore_n 2, 1) := by decide +kernel
theorem dX8_nameIs_20 : decode cX8_nameIs 20 = .ok (.iload_n 2, 1) := by decide +kernel
theorem dX8_nameIs_21 : decode cX8_nameIs 21 = .ok (.aload_n 1, 1) := by decide +kernel
theorem dX8_nameIs_22 : decode cX8_nameIs 22 = .ok (.invokevirtual 113, 3) := by decide +kernel
theorem dX8_nameIs_25 : decode cX8_nameIs 25 = .ok (.if_icmp .ge 32, 3) := by decide +kernel
theorem dX8_nameIs_28 : decode cX8_nameIs 28 = .ok (.aload_n 0, 1) := by decide +kernel
theorem dX8_nameIs_29 : decode cX8_nameIs 29 = .ok (.getfield 54, 3) := by decide +kernel
theorem dX8_nameIs_32 : decode cX8_nameIs 32 = .ok (.aload_n 0, 1) := by decide +kernel
theorem dX8_nameIs_33 : decode cX8_nameIs 33 = .ok (.getfield 48, 3) := by decide +kernel
theorem dX8_nameIs_36 : decode cX8_nameIs 36 = .ok (.iload_n 2, 1) := by decide +kernel
theorem dX8_nameIs_37 : decode cX8_nameIs 37 = .ok (.iadd, 1) := by decide +kernel
theorem dX8_nameIs_38 : decode cX8_nameIs 38 = .ok (.invokevirtual 118, 3) := by decide +kernel
theorem dX8_nameIs_41 : decode cX8_nameIs 41 = .ok (.aload_n 1, 1) := by decide +kernel
theorem dX8_nameIs_42 : decode cX8_nameIs 42 = .ok (.iload_n 2, 1) := by decide +kernel
theorem dX8_nameIs_43 : decode cX8_nameIs 43 = .ok (.invokevirtual 122, 3) := by decide +kernel
theorem dX8_nameIs_46 : decode cX8_nameIs 46 = .ok (.if_icmp .eq 5, 3) := by decide +kernel
theorem dX8_nameIs_49 : decode cX8_nameIs 49 = .ok (.iconst 0, 1) := by decide +kernel
theorem dX8_nameIs_50 : decode cX8_nameIs 50 = .ok (.ireturn, 1) := by decide +kernel
theorem dX8_nameIs_51 : decode cX8_nameIs 51 = .ok (.iinc 2 1, 3) := by decide +kernel
theorem dX8_nameIs_54 : decode cX8_nameIs 54 = .ok (.goto (-34), 3) := by decide +kernel
theorem dX8_nameIs_57 : decode cX8_nameIs 57 = .ok (.iconst 1, 1) := by decide +kernel
theorem dX8_nameIs_58 : decode cX8_nameIs 58 = .ok (.ireturn, 1) := by decide +kernel
set_option maxRecDepth 20000 in
theorem ggX8_takesBoxLine_X5_isFull : GoodIn wsX8_takesBoxLine wsX5_isFull := goodIn_r _ [8, 9, 92, 93, 94, 95] (by decide +kernel) (by decide +kernel)
