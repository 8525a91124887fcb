theorem dX5_thrown_0 : decode cX5_thrown 0 = .ok (.aload_n 0, 1) := by decide +kernel
theorem dX5_thrown_1 : decode cX5_thrown 1 = .ok (.getfield 1, 3) := by decide +kernel
theorem dX5_thrown_4 : decode cX5_thrown 4 = .ok (.ireturn, 1) := by decide +kernel
theorem dX5_in_0 : decode cX5_in 0 = .ok (.iload_n 0, 1) := by decide +kernel
theorem dX5_in_1 : decode cX5_in 1 = .ok (.iload_n 1, 1) := by decide +kernel
theorem dX5_in_2 : decode cX5_in 2 = .ok (.if_icmp .lt 12, 3) := by decide +kernel
theorem dX5_in_5 : decode cX5_in 5 = .ok (.iload_n 0, 1) := by decide +kernel
theorem dX5_in_6 : decode cX5_in 6 = .ok (.iload_n 2, 1) := by decide +kernel
theorem dX5_in_7 : decode cX5_in 7 = .ok (.if_icmp .gt 7, 3) := by decide +kernel
theorem dX5_in_10 : decode cX5_in 10 = .ok (.iconst 1, 1) := by decide +kernel
theorem dX5_in_11 : decode cX5_in 11 = .ok (.goto 4, 3) := by decide +kernel
theorem dX5_in_14 : decode cX5_in 14 = .ok (.iconst 0, 1) := by decide +kernel
theorem dX5_in_15 : decode cX5_in 15 = .ok (.ireturn, 1) := by decide +kernel
set_option maxRecDepth 20000 in
theorem ggX5_init_X5_anew : GoodIn wsX5_init wsX5_anew := goodIn_r _ [17, 5, 18, 19, 20, 21, 22, 23, 24, 25, 26, 27, 28, 29, 30] (by decide +kernel) (by decide +kernel)
set_option maxRecDepth 20000 in
theorem gX5_init_X5_anew : GoodIn wsX5_init (wsV RX5 36 RX5 yX5_anew wsX5_anew) := goodIn_app (goodIn_of _ (by decide +kernel)) ggX5_init_X5_anew
theorem dX5_init_0 : decode cX5_init 0 = .ok (.aload_n 0, 1) := by decide +kernel
theorem dX5_init_1 : decode cX5_init 1 = .ok (.invokespecial 7, 3) := by decide +kernel
theorem dX5_init_4 : decode cX5_init 4 = .ok (.aload_n 0, 1) := by decide +kernel
theorem dX5_init_5 : decode cX5_init 5 = .ok (.sipush 730, 3) := by decide +kernel
theorem dX5_init_8 : decode cX5_init 8 = .ok (.newarray .int, 2) := by decide +kernel
theorem dX5_init_10 : decode cX5_init 10 = .ok (.putfield 13, 3) := by decide +kernel
theorem dX5_init_13 : decode cX5_init 13 = .ok (.aload_n 0, 1) := by decide +kernel
theorem dX5_init_14 : decode cX5_init 14 = .ok (.sipush 730, 3) := by decide +kernel
theorem dX5_init_17 : decode cX5_init 17 = .ok (.newarray .int, 2) := by decide +kernel
theorem dX5_init_19 : decode cX5_init 19 = .ok (.putfield 17, 3) := by decide +kernel
theorem dX5_init_22 : decode cX5_init 22 = .ok (.aload_n 0, 1) := by decide +kernel
theorem dX5_init_23 : decode cX5_init 23 = .ok (.sipush 2920, 3) := by decide +kernel
theorem dX5_init_26 : decode cX5_init 26 = .ok (.newarray .int, 2) := by decide +kernel
theorem dX5_init_28 : decode cX5_init 28 = .ok (.putfield 20, 3) := by decide +kernel
theorem dX5_init_31 : decode cX5_init 31 = .ok (.aload_n 0, 1) := by decide +kernel
theorem dX5_init_32 : decode cX5_init 32 = .ok (.bipush 100, 2) := by decide +kernel
theorem dX5_init_34 : decode cX5_init 34 = .ok (.newarray .int, 2) := by decide +kernel
theorem dX5_init_36 : decode cX5_init 36 = .ok (.putfield 23, 3) := by decide +kernel
theorem dX5_init_39 : decode cX5_init 39 = .ok (.aload_n 0, 1) := by decide +kernel
theorem dX5_init_40 : decode cX5_init 40 = .ok (.bipush 120, 2) := by decide +kernel
theorem dX5_init_42 : decode cX5_init 42 = .ok (.newarray .int, 2) := by decide +kernel
theorem dX5_init_44 : decode cX5_init 44 = .ok (.putfield 26, 3) := by decide +kernel
theorem dX5_init_47 : decode cX5_init 47 = .ok (.aload_n 0, 1) := by decide +kernel
theorem dX5_init_48 : decode cX5_init 48 = .ok (.bipush 120, 2) := by decide +kernel
theorem dX5_init_50 : decode cX5_init 50 = .ok (.newarray .boolean, 2) := by decide +kernel
theorem dX5_init_52 : decode cX5_init 52 = .ok (.putfield 29, 3) := by decide +kernel
theorem dX5_init_55 : decode cX5_init 55 = .ok (.aload_n 0, 1) := by decide +kernel
theorem dX5_init_56 : decode cX5_init 56 = .ok (.sipush 150, 3) := by decide +kernel
theorem dX5_init_59 : decode cX5_init 59 = .ok (.newarray .int, 2) := by decide +kernel
theorem dX5_init_61 : decode cX5_init 61 = .ok (.putfield 33, 3) := by decide +kernel
theorem dX5_init_64 : decode cX5_init 64 = .ok (.aload_n 0, 1) := by decide +kernel
theorem dX5_init_65 : decode cX5_init 65 = .ok (.iconst 4, 1) := by decide +kernel
theorem dX5_init_66 : decode cX5_init 66 = .ok (.invokevirtual 36, 3) := by decide +kernel
theorem dX5_init_69 : decode cX5_init 69 = .ok (.return_, 1) := by decide +kernel
theorem dX5_anew_0 : decode cX5_anew 0 = .ok (.iconst 0, 1) := by decide +kernel
theorem dX5_anew_1 : decode cX5_anew 1 = .ok (.istore_n 2, 1) := by decide +kernel
theorem dX5_anew_2 : decode cX5_anew 2 = .ok (.iload_n 2, 1) := by decide +kernel
theorem dX5_anew_3 : decode cX5_anew 3 = .ok (.sipush 730, 3) := by decide +kernel
theorem dX5_anew_6 : decode cX5_anew 6 = .ok (.if_icmp .ge 16, 3) := by decide +kernel
theorem dX5_anew_9 : decode cX5_anew 9 = .ok (.aload_n 0, 1) := by decide +kernel
theorem dX5_anew_10 : decode cX5_anew 10 = .ok (.getfield 13, 3) := by decide +kernel
theorem dX5_anew_13 : decode cX5_anew 13 = .ok (.iload_n 2, 1) := by decide +kernel
theorem dX5_anew_14 : decode cX5_anew 14 = .ok (.iconst 0, 1) := by decide +kernel
theorem dX5_anew_15 : decode cX5_anew 15 = .ok (.iastore, 1) := by decide +kernel
theorem dX5_anew_16 : decode cX5_anew 16 = .ok (.iinc 2 1, 3) := by decide +kernel
theorem dX5_anew_19 : decode cX5_anew 19 = .ok (.goto (-17), 3) := by decide +kernel
theorem dX5_anew_22 : decode cX5_anew 22 = .ok (.aload_n 0, 1) := by decide +kernel
theorem dX5_anew_23 : decode cX5_anew 23 = .ok (.getfield 13, 3) := by decide +kernel
theorem dX5_anew_26 : decode cX5_anew 26 = .ok (.iconst 0, 1) := by decide +kernel
theorem dX5_anew_27 : decode cX5_anew 27 = .ok (.iload_n 1, 1) := by decide +kernel
theorem dX5_anew_28 : decode cX5_anew 28 = .ok (.iastore, 1) := by decide +kernel
theorem dX5_anew_29 : decode cX5_anew 29 = .ok (.aload_n 0, 1) := by decide +kernel
theorem dX5_anew_30 : decode cX5_anew 30 = .ok (.getfield 13, 3) := by decide +kernel
theorem dX5_anew_33 : decode cX5_anew 33 = .ok (.bipush 6, 2) := by decide +kernel
theorem dX5_anew_35 : decode cX5_anew 35 = .ok (.iconst (-1), 1) := by decide +kernel
theorem dX5_anew_36 : decode cX5_anew 36 = .ok (.iastore, 1) := by decide +kernel
theorem dX5_anew_37 : decode cX5_anew 37 = .ok (.return_, 1) := by decide +kernel
theorem dX5_of_0 : decode cX5_of 0 = .ok (.aload_n 0, 1) := by decide +kernel
theorem dX5_of_1 : decode cX5_of 1 = .ok (.getfield 13, 3) := by decide +kernel
theorem dX5_of_4 : decode cX5_of 4 = .ok (.sipush 250, 3) := by decide +kernel
theorem dX5_of_7 : decode cX5_of 7 = .ok (.iconst 4, 1) := by decide +kernel
theorem dX5_of_8 : decode cX5_of 8 = .ok (.iload_n 1, 1) := by decide +kernel
theorem dX5_of_9 : decode cX5_of 9 = .ok (.imul, 1) := by decide +kernel
theorem dX5_of_10 : decode cX5_of 10 = .ok (.iadd, 1) := by decide +kernel
theorem dX5_of_11 : decode cX5_of 11 = .ok (.iload_n 2, 1) := by decide +kernel
theorem dX5_of_12 : decode cX5_of 12 = .ok (.iadd, 1) := by decide +kernel
theorem dX5_of_13 : decode cX5_of 13 = .ok (.iaload, 1) := by decide +kernel
theorem dX5_of_14 : decode cX5_of 14 = .ok (.ireturn, 1) := by decide +kernel
theorem dX5_be_0 : decode cX5_be 0 = .ok (.aload_n 0, 1) := by decide +kernel
theorem dX5_be_1 : decode cX5_be 1 = .ok (.getfield 13, 3) := by decide +kernel
theorem dX5_be_4 : decode cX5_be 4 = .ok (.sipush 250, 3) := by decide +kernel
theorem dX5_be_7 : decode cX5_be 7 = .ok (.iconst 4, 1) := by decide +kernel
theorem dX5_be_8 : decode cX5_be 8 = .ok (.iload_n 1, 1) := by decide +kernel
theorem dX5_be_9 : decode cX5_be 9 = .ok (.imul, 1) := by decide +kernel
theorem dX5_be_10 : decode cX5_be 10 = .ok (.iadd, 1) := by decide +kernel
theorem dX5_be_11 : decode cX5_be 11 = .ok (.iload_n 2, 1) := by decide +kernel
theorem dX5_be_12 : decode cX5_be 12 = .ok (.iadd, 1) := by decide +kernel
theorem dX5_be_13 : decode cX5_be 13 = .ok (.iload_n 3, 1) := by decide +kernel
theorem dX5_be_14 : decode cX5_be 14 = .ok (.iastore, 1) := by decide +kernel
theorem dX5_be_15 : decode cX5_be 15 = .ok (.return_, 1) := by decide +kernel
theorem dX5_numberAt_0 : decode cX5_numberAt 0 = .ok (.aload_n 0, 1) := by decide +kernel
theorem dX5_numberAt_1 : decode cX5_numberAt 1 = .ok (.getfield 13, 3) := by decide +kernel
theorem dX5_numberAt_4 : decode cX5_numberAt 4 = .ok (.bipush 10, 2) := by decide +kernel
theorem dX5_numberAt_6 : decode cX5_numberAt 6 = .ok (.iconst 2, 1) := by decide +kernel
theorem dX5_numberAt_7 : decode cX5_numberAt 7 = .ok (.iload_n 1, 1) := by decide +kernel
theorem dX5_numberAt_8 : decode cX5_numberAt 8 = .ok (.imul, 1) := by decide +kernel
theorem dX5_numberAt_9 : decode cX5_numberAt 9 = .ok (.iadd, 1) := by decide +kernel
theorem dX5_numberAt_10 : decode cX5_numberAt 10 = .ok (.iaload, 1) := by decide +kernel
theorem dX5_numberAt_11 : decode cX5_numberAt 11 = .ok (.ireturn, 1) := by decide +kernel
set_option maxRecDepth 20000 in
theorem ggX5_placeOf_X5_numberAt : GoodIn wsX5_placeOf wsX5_numberAt := goodIn_r _ [6, 1, 7, 8, 9, 10, 11, 12, 13, 14, 15, 16, 17, 18, 19] (by decide +kernel) (by decide +kernel)
set_option maxRecDepth 20000 in
theorem gX5_placeOf_X5_numberAt : GoodIn wsX5_placeOf (wsV RX5 40 RX5 yX5_numberAt wsX5_numberAt) := goodIn_app (goodIn_of _ (by decide +kernel)) ggX5_placeOf_X5_numberAt
theorem dX5_placeOf_0 : decode cX5_placeOf 0 = .ok (.iconst 0, 1) := by decide +kernel
theorem dX5_placeOf_1 : decode cX5_placeOf 1 = .ok (.istore_n 2, 1) := by decide +kernel
theorem dX5_placeOf_2 : decode cX5_placeOf 2 = .ok (.iload_n 2, 1) := by decide +kernel
theorem dX5_placeOf_3 : decode cX5_placeOf 3 = .ok (.aload_n 0, 1) := by decide +kernel
theorem dX5_placeOf_4 : decode cX5_placeOf 4 = .ok (.getfield 13, 3) := by decide +kernel
theorem dX5_placeOf_7 : decode cX5_placeOf 7 = .ok (.bipush 8, 2) := by decide +kernel
theorem dX5_placeOf_9 : decode cX5_placeOf 9 = .ok (.iaload, 1) := by decide +kernel
theorem dX5_placeOf_10 : decode cX5_placeOf 10 = .ok (.if_icmp .ge 20, 3) := by decide +kernel
theorem dX5_placeOf_13 : decode cX5_placeOf 13 = .ok (.aload_n 0, 1) := by decide +kernel
theorem dX5_placeOf_14 : decode cX5_placeOf 14 = .ok (.iload_n 2, 1) := by decide +kernel
theorem dX5_placeOf_15 : decode cX5_placeOf 15 = .ok (.invokevirtual 40, 3) := by decide +kernel
theorem dX5_placeOf_18 : decode cX5_placeOf 18 = .ok (.iload_n 1, 1) := by decide +kernel
theorem dX5_placeOf_19 : decode cX5_placeOf 19 = .ok (.if_icmp .ne 5, 3) := by decide +kernel
theorem dX5_placeOf_22 : decode cX5_placeOf 22 = .ok (.iload_n 2, 1) := by decide +kernel
theorem dX5_placeOf_23 : decode cX5_placeOf 23 = .ok (.ireturn, 1) := by decide +kernel
theorem dX5_placeOf_24 : decode cX5_placeOf 24 = .ok (.iinc 2 1, 3) := by decide +kernel
theorem dX5_placeOf_27 : decode cX5_placeOf 27 = .ok (.goto (-25), 3) := by decide +kernel
theorem dX5_placeOf_30 : decode cX5_placeOf 30 = .ok (.iconst (-1), 1) := by decide +kernel
theorem dX5_placeOf_31 : decode cX5_placeOf 31 = .ok (.ireturn, 1) := by decide +kernel
set_option maxRecDepth 20000 in
theorem ggX5_isLess_X5_of : GoodIn wsX5_isLess wsX5_of := goodIn_r _ [5, 6, 7, 8, 9, 10, 11, 12, 13, 14, 15, 16, 17, 18, 19] (by decide +kernel) (by decide +kernel)
set_option maxRecDepth 20000 in
theorem gX5_isLess_X5_of : GoodIn wsX5_isLess (wsV RX5 44 RX5 yX5_of wsX5_of) := goodIn_app (goodIn_of _ (by decide +kernel)) ggX5_isLess_X5_of
theorem dX5_isLess_0 : decode cX5_isLess 0 = .ok (.aload_n 0, 1) := by decide +kernel
theorem dX5_isLess_1 : decode cX5_isLess 1 = .ok (.iload_n 1, 1) := by decide +kernel
theorem dX5_isLess_2 : decode cX5_isLess 2 = .ok (.iconst 0, 1) := by decide +kernel
theorem dX5_isLess_3 : decode cX5_isLess 3 = .ok (.invokevirtual 44, 3) := by decide +kernel
theorem dX5_isLess_6 : decode cX5_isLess 6 = .ok (.aload_n 0, 1) := by decide +kernel
theorem dX5_isLess_7 : decode cX5_isLess 7 = .ok (.iload_n 2, 1) := by decide +kernel
theorem dX5_isLess_8 : decode cX5_isLess 8 = .ok (.iconst 0, 1) := by decide +kernel
theorem dX5_isLess_9 : decode cX5_isLess 9 = .ok (.invokevirtual 44, 3) := by decide +kernel
theorem dX5_isLess_12 : decode cX5_isLess 12 = .ok (.if_icmp .lt 23, 3) := by decide +kernel
theorem dX5_isLess_15 : decode cX5_isLess 15 = .ok (.aload_n 0, 1) := by decide +kernel
theorem dX5_isLess_16 : decode cX5_isLess 16 = .ok (.iload_n 1, 1) := by decide +kernel
theorem dX5_isLess_17 : decode cX5_isLess 17 = .ok (.iconst 0, 1) := by decide +kernel
theorem dX5_isLess_18 : decode cX5_isLess 18 = .ok (.invokevirtual 44, 3) := by decide +kernel
theorem dX5_isLess_21 : decode cX5_isLess 21 = .ok (.aload_n 0, 1) := by decide +kernel
theorem dX5_isLess_22 : decode cX5_isLess 22 = .ok (.iload_n 2, 1) := by decide +kernel
theorem dX5_isLess_23 : decode cX5_isLess 23 = .ok (.iconst 0, 1) := by decide +kernel
theorem dX5_isLess_24 : decode cX5_isLess 24 = .ok (.invokevirtual 44, 3) := by decide +kernel
theorem dX5_isLess_27 : decode cX5_isLess 27 = .ok (.if_icmp .ne 12, 3) := by decide +kernel
theorem dX5_isLess_30 : decode cX5_isLess 30 = .ok (.iload_n 1, 1) := by decide +kernel
theorem dX5_isLess_31 : decode cX5_isLess 31 = .ok (.iload_n 2, 1) := by decide +kernel
theorem dX5_isLess_32 : decode cX5_isLess 32 = .ok (.if_icmp .ge 7, 3) := by decide +kernel
theorem dX5_isLess_35 : decode cX5_isLess 35 = .ok (.iconst 1, 1) := by decide +kernel
theorem dX5_isLess_36 : decode cX5_isLess 36 = .ok (.goto 4, 3) := by decide +kernel
theorem dX5_isLess_39 : decode cX5_isLess 39 = .ok (.iconst 0, 1) := by decide +kernel
theorem dX5_isLess_40 : decode cX5_isLess 40 = .ok (.ireturn, 1) := by decide +kernel
set_option maxRecDepth 20000 in
theorem ggX5_isOf_X5_of : GoodIn wsX5_isOf wsX5_of := goodIn_r _ [5, 6, 7, 8, 9, 10, 11, 12, 13, 14, 15, 16, 17, 18, 19] (by decide +kernel) (by decide +kernel)
set_option maxRecDepth 20000 in
theorem gX5_isOf_X5_of : GoodIn wsX5_isOf (wsV RX5 44 RX5 yX5_of wsX5_of) := goodIn_app (goodIn_of _ (by decide +kernel)) ggX5_isOf_X5_of
theorem dX5_isOf_0 : decode cX5_isOf 0 = .ok (.aload_n 0, 1) := by decide +kernel
theorem dX5_isOf_1 : decode cX5_isOf 1 = .ok (.iload_n 1, 1) := by decide +kernel
theorem dX5_isOf_2 : decode cX5_isOf 2 = .ok (.iconst 2, 1) := by decide +kernel
theorem dX5_isOf_3 : decode cX5_isOf 3 = .ok (.invokevirtual 44, 3) := by decide +kernel
theorem dX5_isOf_6 : decode cX5_isOf 6 = .ok (.iconst 1, 1) := by decide +kernel
theorem dX5_isOf_7 : decode cX5_isOf 7 = .ok (.if_icmp .ne 17, 3) := by decide +kernel
theorem dX5_isOf_10 : decode cX5_isOf 10 = .ok (.aload_n 0, 1) := by decide +kernel
theorem dX5_isOf_11 : decode cX5_isOf 11 = .ok (.iload_n 1, 1) := by decide +kernel
theorem dX5_isOf_12 : decode cX5_isOf 12 = .ok (.iconst 3, 1) := by decide +kernel
theorem dX5_isOf_13 : decode cX5_isOf 13 = .ok (.invokevirtual 44, 3) := by decide +kernel
theorem dX5_isOf_16 : decode cX5_isOf 16 = .ok (.iload_n 2, 1) := by decide +kernel
theorem dX5_isOf_17 : decode cX5_isOf 17 = .ok (.if_icmp .ne 7, 3) := by decide +kernel
theorem dX5_isOf_20 : decode cX5_isOf 20 = .ok (.iconst 1, 1) := by decide +kernel
theorem dX5_isOf_21 : decode cX5_isOf 21 = .ok (.goto 4, 3) := by decide +kernel
theorem dX5_isOf_24 : decode cX5_isOf 24 = .ok (.iconst 0, 1) := by decide +kernel
theorem dX5_isOf_25 : decode cX5_isOf 25 = .ok (.ireturn, 1) := by decide +kernel
set_option maxRecDepth 20000 in
theorem ggX5_many_X5_of : GoodIn wsX5_many wsX5_of := goodIn_r _ [6, 1, 7, 8, 9, 10, 11, 12, 13, 14, 15, 16, 17, 18, 19] (by decide +kernel) (by decide +kernel)
set_option maxRecDepth 20000 in
theorem gX5_many_X5_of : GoodIn wsX5_many (wsV RX5 44 RX5 yX5_of wsX5_of) := goodIn_app (goodIn_of _ (by decide +kernel)) ggX5_many_X5_of
theorem dX5_many_0 : decode cX5_many 0 = .ok (.iconst 0, 1) := by decide +kernel
theorem dX5_many_1 : decode cX5_many 1 = .ok (.istore_n 2, 1) := by decide +kernel
theorem dX5_many_2 : decode cX5_many 2 = .ok (.iconst 0, 1) := by decide +kernel
theorem dX5_many_3 : decode cX5_many 3 = .ok (.istore_n 3, 1) := by decide +kernel
theorem dX5_many_4 : decode cX5_many 4 = .ok (.iload_n 3, 1) := by decide +kernel
theorem dX5_many_5 : decode cX5_many 5 = .ok (.aload_n 0, 1) := by decide +kernel
theorem dX5_many_6 : decode cX5_many 6 = .ok (.getfield 13, 3) := by decide +kernel
theorem dX5_many_9 : decode cX5_many 9 = .ok (.iconst 1, 1) := by decide +kernel
theorem dX5_many_10 : decode cX5_many 10 = .ok (.iaload, 1) := by decide +kernel
theorem dX5_many_11 : decode cX5_many 11 = .ok (.if_icmp .ge 27, 3) := by decide +kernel
theorem dX5_many_14 : decode cX5_many 14 = .ok (.iload_n 2, 1) := by decide +kernel
theorem dX5_many_15 : decode cX5_many 15 = .ok (.aload_n 0, 1) := by decide +kernel
theorem dX5_many_16 : decode cX5_many 16 = .ok (.iload_n 3, 1) := by decide +kernel
theorem dX5_many_17 : decode cX5_many 17 = .ok (.iconst 2, 1) := by decide +kernel
theorem dX5_many_18 : decode cX5_many 18 = .ok (.invokevirtual 44, 3) := by decide +kernel
theorem dX5_many_21 : decode cX5_many 21 = .ok (.iload_n 1, 1) := by decide +kernel
theorem dX5_many_22 : decode cX5_many 22 = .ok (.if_icmp .ne 7, 3) := by decide +kernel
theorem dX5_many_25 : decode cX5_many 25 = .ok (.iconst 1, 1) := by decide +kernel
theorem dX5_many_26 : decode cX5_many 26 = .ok (.goto 4, 3) := by decide +kernel
theorem dX5_many_29 : decode cX5_many 29 = .ok (.iconst 0, 1) := by decide +kernel
theorem dX5_many_30 : decode cX5_many 30 = .ok (.iadd, 1) := by decide +kernel
theorem dX5_many_31 : decode cX5_many 31 = .ok (.istore_n 2, 1) := by decide +kernel
theorem dX5_many_32 : decode cX5_many 32 = .ok (.iinc 3 1, 3) := by decide +kernel
theorem dX5_many_35 : decode cX5_many 35 = .ok (.goto (-31), 3) := by decide +kernel
theorem dX5_many_38 : decode cX5_many 38 = .ok (.iload_n 2, 1) := by decide +kernel
theorem dX5_many_39 : decode cX5_many 39 = .ok (.ireturn, 1) := by decide +kernel
set_option maxRecDepth 20000 in
theorem ggX5_manyOf_X5_isOf : GoodIn wsX5_manyOf wsX5_isOf := goodIn_r _ [6, 7, 8, 9, 5, 10, 1, 11, 12, 13, 14, 15, 16, 17, 18, 19, 20, 21, 22, 23] (by decide +kernel) (by decide +kernel)
set_option maxRecDepth 20000 in
theorem gX5_manyOf_X5_isOf : GoodIn wsX5_manyOf (wsV RX5 48 RX5 yX5_isOf wsX5_isOf) := goodIn_app (goodIn_of _ (by decide +kernel)) ggX5_manyOf_X5_isOf
theorem dX5_manyOf_0 : decode cX5_manyOf 0 = .ok (.iconst 0, 1) := by decide +kernel
theorem dX5_manyOf_1 : decode cX5_manyOf 1 = .ok (.istore_n 2, 1) := by decide +kernel
theorem dX5_manyOf_2 : decode cX5_manyOf 2 = .ok (.iconst 0, 1) := by decide +kernel
theorem dX5_manyOf_3 : decode cX5_manyOf 3 = .ok (.istore_n 3, 1) := by decide +kernel
theorem dX5_manyOf_4 : decode cX5_manyOf 4 = .ok (.iload_n 3, 1) := by decide +kernel
theorem dX5_manyOf_5 : decode cX5_manyOf 5 = .ok (.aload_n 0, 1) := by decide +kernel
theorem dX5_manyOf_6 : decode cX5_manyOf 6 = .ok (.getfield 13, 3) := by decide +kernel
theorem dX5_manyOf_9 : decode cX5_manyOf 9 = .ok (.iconst 1, 1) := by decide +kernel
theorem dX5_manyOf_10 : decode cX5_manyOf 10 = .ok (.iaload, 1) := by decide +kernel
theorem dX5_manyOf_11 : decode cX5_manyOf 11 = .ok (.if_icmp .ge 26, 3) := by decide +kernel
theorem dX5_manyOf_14 : decode cX5_manyOf 14 = .ok (.iload_n 2, 1) := by decide +kernel
theorem dX5_manyOf_15 : decode cX5_manyOf 15 = .ok (.aload_n 0, 1) := by decide +kernel
theorem dX5_manyOf_16 : decode cX5_manyOf 16 = .ok (.iload_n 3, 1) := by decide +kernel
theorem dX5_manyOf_17 : decode cX5_manyOf 17 = .ok (.iload_n 1, 1) := by decide +kernel
theorem dX5_manyOf_18 : decode cX5_manyOf 18 = .ok (.invokevirtual 48, 3) := by decide +kernel
theorem dX5_manyOf_21 : decode cX5_manyOf 21 = .ok (.ifCond .eq 7, 3) := by decide +kernel
theorem dX5_manyOf_24 : decode cX5_manyOf 24 = .ok (.iconst 1, 1) := by decide +kernel
theorem dX5_manyOf_25 : decode cX5_manyOf 25 = .ok (.goto 4, 3) := by decide +kernel
theorem dX5_manyOf_28 : decode cX5_manyOf 28 = .ok (.iconst 0, 1) := by decide +kernel
theorem dX5_manyOf_29 : decode cX5_manyOf 29 = .ok (.iadd, 1) := by decide +kernel
theorem dX5_manyOf_30 : decode cX5_manyOf 30 = .ok (.istore_n 2, 1) := by decide +kernel
theorem dX5_manyOf_31 : decode cX5_manyOf 31 = .ok (.iinc 3 1, 3) := by decide +kernel
theorem dX5_manyOf_34 : decode cX5_manyOf 34 = .ok (.goto (-30), 3) := by decide +kernel
theorem dX5_manyOf_37 : decode cX5_manyOf 37 = .ok (.iload_n 2, 1) := by decide +kernel
theorem dX5_manyOf_38 : decode cX5_manyOf 38 = .ok (.ireturn, 1) := by decide +kernel
set_option maxRecDepth 20000 in
theorem ggX5_weightOf_X5_isOf : GoodIn wsX5_weightOf wsX5_isOf := goodIn_r _ [6, 7, 8, 9, 5, 10, 1, 11, 12, 13, 14, 15, 16, 17, 18, 19, 20, 21, 22, 23] (by decide +kernel) (by decide +kernel)
set_option maxRecDepth 20000 in
theorem gX5_weightOf_X5_isOf : GoodIn wsX5_weightOf (wsV RX5 48 RX5 yX5_isOf wsX5_isOf) := goodIn_app (goodIn_of _ (by decide +kernel)) ggX5_weightOf_X5_isOf
set_option maxRecDepth 20000 in
theorem ggX5_weightOf_X5_of : GoodIn wsX5_weightOf wsX5_of := goodIn_r _ [10, 1, 11, 12, 13, 14, 15, 16, 17, 18, 19, 20, 21, 22, 23] (by decide +kernel) (by decide +kernel)
set_option maxRecDepth 20000 in
theorem gX5_weightOf_X5_of : GoodIn wsX5_weightOf (wsV RX5 44 RX5 yX5_of wsX5_of) := goodIn_app (goodIn_of _ (by decide +kernel)) ggX5_weightOf_X5_of
theorem dX5_weightOf_0 : decode cX5_weightOf 0 = .ok (.iconst 0, 1) := by decide +kernel
theorem dX5_weightOf_1 : decode cX5_weightOf 1 = .ok (.istore_n 2, 1) := by decide +kernel
theorem dX5_weightOf_2 : decode cX5_weightOf 2 = .ok (.iconst 0, 1) := by decide +kernel
theorem dX5_weightOf_3 : decode cX5_weightOf 3 = .ok (.istore_n 3, 1) := by decide +kernel
theorem dX5_weightOf_4 : decode cX5_weightOf 4 = .ok (.iload_n 3, 1) := by decide +kernel
theorem dX5_weightOf_5 : decode cX5_weightOf 5 = .ok (.aload_n 0, 1) := by decide +kernel
theorem dX5_weightOf_6 : decode cX5_weightOf 6 = .ok (.getfield 13, 3) := by decide +kernel
theorem dX5_weightOf_9 : decode cX5_weightOf 9 = .ok (.iconst 1, 1) := by decide +kernel
theorem dX5_weightOf_10 : decode cX5_weightOf 10 = .ok (.iaload, 1) := by decide +kernel
theorem dX5_weightOf_11 : decode cX5_weightOf 11 = .ok (.if_icmp .ge 31, 3) := by decide +kernel
theorem dX5_weightOf_14 : decode cX5_weightOf 14 = .ok (.iload_n 2, 1) := by decide +kernel
theorem dX5_weightOf_15 : decode cX5_weightOf 15 = .ok (.aload_n 0, 1) := by decide +kernel
theorem dX5_weightOf_16 : decode cX5_weightOf 16 = .ok (.iload_n 3, 1) := by decide +kernel
theorem dX5_weightOf_17 : decode cX5_weightOf 17 = .ok (.iload_n 1, 1) := by decide +kernel
theorem dX5_weightOf_18 : decode cX5_weightOf 18 = .ok (.invokevirtual 48, 3) := by decide +kernel
theorem dX5_weightOf_21 : decode cX5_weightOf 21 = .ok (.ifCond .eq 12, 3) := by decide +kernel
theorem dX5_weightOf_24 : decode cX5_weightOf 24 = .ok (.aload_n 0, 1) := by decide +kernel
theorem dX5_weightOf_25 : decode cX5_weightOf 25 = .ok (.iload_n 3, 1) := by decide +kernel
theorem dX5_weightOf_26 : decode cX5_weightOf 26 = .ok (.iconst 1, 1) := by decide +kernel
theorem dX5_weightOf_27 : decode cX5_weightOf 27 = .ok (.invokevirtual 44, 3) := by decide +kernel
theorem dX5_weightOf_30 : decode cX5_weightOf 30 = .ok (.goto 4, 3) := by decide +kernel
theorem dX5_weightOf_33 : decode cX5_weightOf 33 = .ok (.iconst 0, 1) := by decide +kernel
theorem dX5_weightOf_34 : decode cX5_weightOf 34 = .ok (.iadd, 1) := by decide +kernel
theorem dX5_weightOf_35 : decode cX5_weightOf 35 = .ok (.istore_n 2, 1) := by decide +kernel
theorem dX5_weightOf_36 : decode cX5_weightOf 36 = .ok (.iinc 3 1, 3) := by decide +kernel
theorem dX5_weightOf_39 : decode cX5_weightOf 39 = .ok (.goto (-35), 3) := by decide +kernel
theorem dX5_weightOf_42 : decode cX5_weightOf 42 = .ok (.iload_n 2, 1) := by decide +kernel
theorem dX5_weightOf_43 : decode cX5_weightOf 43 = .ok (.ireturn, 1) := by decide +kernel
set_option maxRecDepth 20000 in
theorem ggX5_areTogether_X5_of : GoodIn wsX5_areTogether wsX5_of := goodIn_r _ [5, 6, 7, 8, 9, 10, 11, 12, 13, 14, 15, 16, 17, 18, 19] (by decide +kernel) (by decide +kernel)
set_option maxRecDepth 20000 in
theorem gX5_areTogether_X5_of : GoodIn wsX5_areTogether (wsV RX5 44 RX5 yX5_of wsX5_of) := goodIn_app (goodIn_of _ (by decide +kernel)) ggX5_areTogether_X5_of
theorem dX5_areTogether_0 : decode cX5_areTogether 0 = .ok (.aload_n 0, 1) := by decide +kernel
theorem dX5_areTogether_1 : decode cX5_areTogether 1 = .ok (.iload_n 1, 1) := by decide +kernel
theorem dX5_areTogether_2 : decode cX5_areTogether 2 = .ok (.iconst 2, 1) := by decide +kernel
theorem dX5_areTogether_3 : decode cX5_areTogether 3 = .ok (.invokevirtual 44, 3) := by decide +kernel
theorem dX5_areTogether_6 : decode cX5_areTogether 6 = .ok (.aload_n 0, 1) := by decide +kernel
theorem dX5_areTogether_7 : decode cX5_areTogether 7 = .ok (.iload_n 2, 1) := by decide +kernel
theorem dX5_areTogether_8 : decode cX5_areTogether 8 = .ok (.iconst 2, 1) := by decide +kernel
theorem dX5_areTogether_9 : decode cX5_areTogether 9 = .ok (.invokevirtual 44, 3) := by decide +kernel
theorem dX5_areTogether_12 : decode cX5_areTogether 12 = .ok (.if_icmp .ne 22, 3) := by decide +kernel
theorem dX5_areTogether_15 : decode cX5_areTogether 15 = .ok (.aload_n 0, 1) := by decide +kernel
theorem dX5_areTogether_16 : decode cX5_areTogether 16 = .ok (.iload_n 1, 1) := by decide +kernel
theorem dX5_areTogether_17 : decode cX5_areTogether 17 = .ok (.iconst 3, 1) := by decide +kernel
theorem dX5_areTogether_18 : decode cX5_areTogether 18 = .ok (.invokevirtual 44, 3) := by decide +kernel
theorem dX5_areTogether_21 : decode cX5_areTogether 21 = .ok (.aload_n 0, 1) := by decide +kernel
theorem dX5_areTogether_22 : decode cX5_areTogether 22 = .ok (.iload_n 2, 1) := by decide +kernel
theorem dX5_areTogether_23 : decode cX5_areTogether 23 = .ok (.iconst 3, 1) := by decide +kernel
theorem dX5_areTogether_24 : decode cX5_areTogether 24 = .ok (.invokevirtual 44, 3) := by decide +kernel
theorem dX5_areTogether_27 : decode cX5_areTogether 27 = .ok (.if_icmp .ne 7, 3) := by decide +kernel
theorem dX5_areTogether_30 : decode cX5_areTogether 30 = .ok (.iconst 1, 1) := by decide +kernel
theorem dX5_areTogether_31 : decode cX5_areTogether 31 = .ok (.goto 4, 3) := by decide +kernel
theorem dX5_areTogether_34 : decode cX5_areTogether 34 = .ok (.iconst 0, 1) := by decide +kernel
theorem dX5_areTogether_35 : decode cX5_areTogether 35 = .ok (.ireturn, 1) := by decide +kernel
set_option maxRecDepth 20000 in
theorem ggX5_placeIn_X5_areTogether : GoodIn wsX5_placeIn wsX5_areTogether := goodIn_r _ [6, 7, 8, 9, 5, 10, 1, 15, 16, 17, 18, 19, 20, 21, 22, 23, 24, 25, 26, 27] (by decide +kernel) (by decide +kernel)
set_option maxRecDepth 20000 in
theorem gX5_placeIn_X5_areTogether : GoodIn wsX5_placeIn (wsV RX5 52 RX5 yX5_areTogether wsX5_areTogether) := goodIn_app (goodIn_of _ (by decide +kernel)) ggX5_placeIn_X5_areTogether
set_option maxRecDepth 20000 in
theorem ggX5_placeIn_X5_isLess : GoodIn wsX5_placeIn wsX5_isLess := goodIn_r _ [14, 7, 8, 9, 5, 10, 1, 15, 16, 17, 18, 19, 20, 21, 22, 23, 24, 25, 26, 27] (by decide +kernel) (by decide +kernel)
set_option maxRecDepth 20000 in
theorem gX5_placeIn_X5_isLess : GoodIn wsX5_placeIn (wsV RX5 55 RX5 yX5_isLess wsX5_isLess) := goodIn_app (goodIn_of _ (by decide +kernel)) ggX5_placeIn_X5_isLess
theorem dX5_placeIn_0 : decode cX5_placeIn 0 = .ok (.iconst 0, 1) := by decide +kernel
theorem dX5_placeIn_1 : decode cX5_placeIn 1 = .ok (.istore_n 2, 1) := by decide +kernel
theorem dX5_placeIn_2 : decode cX5_placeIn 2 = .ok (.iconst 0, 1) := by decide +kernel
theorem dX5_placeIn_3 : decode cX5_placeIn 3 = .ok (.istore_n 3, 1) := by decide +kernel
theorem dX5_placeIn_4 : decode cX5_placeIn 4 = .ok (.iload_n 3, 1) := by decide +kernel
theorem dX5_placeIn_5 : decode cX5_placeIn 5 = .ok (.aload_n 0, 1) := by decide +kernel
theorem dX5_placeIn_6 : decode cX5_placeIn 6 = .ok (.getfield 13, 3) := by decide +kernel
theorem dX5_placeIn_9 : decode cX5_placeIn 9 = .ok (.iconst 1, 1) := by decide +kernel
theorem dX5_placeIn_10 : decode cX5_placeIn 10 = .ok (.iaload, 1) := by decide +kernel
theorem dX5_placeIn_11 : decode cX5_placeIn 11 = .ok (.if_icmp .ge 35, 3) := by decide +kernel
theorem dX5_placeIn_14 : decode cX5_placeIn 14 = .ok (.iload_n 2, 1) := by decide +kernel
theorem dX5_placeIn_15 : decode cX5_placeIn 15 = .ok (.aload_n 0, 1) := by decide +kernel
theorem dX5_placeIn_16 : decode cX5_placeIn 16 = .ok (.iload_n 1, 1) := by decide +kernel
theorem dX5_placeIn_17 : decode cX5_placeIn 17 = .ok (.iload_n 3, 1) := by decide +kernel
theorem dX5_placeIn_18 : decode cX5_placeIn 18 = .ok (.invokevirtual 52, 3) := by decide +kernel
theorem dX5_placeIn_21 : decode cX5_placeIn 21 = .ok (.ifCond .eq 16, 3) := by decide +kernel
theorem dX5_placeIn_24 : decode cX5_placeIn 24 = .ok (.aload_n 0, 1) := by decide +kernel
theorem dX5_placeIn_25 : decode cX5_placeIn 25 = .ok (.iload_n 3, 1) := by decide +kernel
theorem dX5_placeIn_26 : decode cX5_placeIn 26 = .ok (.iload_n 1, 1) := by decide +kernel
theorem dX5_placeIn_27 : decode cX5_placeIn 27 = .ok (.invokevirtual 55, 3) := by decide +kernel
theorem dX5_placeIn_30 : decode cX5_placeIn 30 = .ok (.ifCond .eq 7, 3) := by decide +kernel
theorem dX5_placeIn_33 : decode cX5_placeIn 33 = .ok (.iconst 1, 1) := by decide +kernel
theorem dX5_placeIn_34 : decode cX5_placeIn 34 = .ok (.goto 4, 3) := by decide +kernel
theorem dX5_placeIn_37 : decode cX5_placeIn 37 = .ok (.iconst 0, 1) := by decide +kernel
theorem dX5_placeIn_38 : decode cX5_placeIn 38 = .ok (.iadd, 1) := by decide +kernel
theorem dX5_placeIn_39 : decode cX5_placeIn 39 = .ok (.istore_n 2, 1) := by decide +kernel
theorem dX5_placeIn_40 : decode cX5_placeIn 40 = .ok (.iinc 3 1, 3) := by decide +kernel
theorem dX5_placeIn_43 : decode cX5_placeIn 43 = .ok (.goto (-39), 3) := by decide +kernel
theorem dX5_placeIn_46 : decode cX5_placeIn 46 = .ok (.iload_n 2, 1) := by decide +kernel
theorem dX5_placeIn_47 : decode cX5_placeIn 47 = .ok (.ireturn, 1) := by decide +kernel
set_option maxRecDepth 20000 in
theorem ggX5_firstOf_X5_isOf : GoodIn wsX5_firstOf wsX5_isOf := goodIn_r _ [6, 7, 8, 9, 5, 10, 1, 15, 16, 17, 18, 19, 20, 21, 22, 23, 24, 25, 26, 27] (by decide +kernel) (by decide +kernel)
set_option maxRecDepth 20000 in
theorem gX5_firstOf_X5_isOf : GoodIn wsX5_firstOf (wsV RX5 48 RX5 yX5_isOf wsX5_isOf) := goodIn_app (goodIn_of _ (by decide +kernel)) ggX5_firstOf_X5_isOf
set_option maxRecDepth 20000 in
theorem ggX5_firstOf_X5_isLess : GoodIn wsX5_firstOf wsX5_isLess := goodIn_r _ [14, 7, 8, 9, 5, 10, 1, 15, 16, 17, 18, 19, 20, 21, 22, 23, 24, 25, 26, 27] (by decide +kernel) (by decide +kernel)
set_option maxRecDepth 20000 in
theorem gX5_firstOf_X5_isLess : GoodIn wsX5_firstOf (wsV RX5 55 RX5 yX5_isLess wsX5_isLess) := goodIn_app (goodIn_of _ (by decide +kernel)) ggX5_firstOf_X5_isLess
theorem dX5_firstOf_0 : decode cX5_firstOf 0 = .ok (.iconst (-1), 1) := by decide +kernel
theorem dX5_firstOf_1 : decode cX5_firstOf 1 = .ok (.istore_n 2, 1) := by decide +kernel
theorem dX5_firstOf_2 : decode cX5_firstOf 2 = .ok (.iconst 0, 1) := by decide +kernel
theorem dX5_firstOf_3 : decode cX5_firstOf 3 = .ok (.istore_n 3, 1) := by decide +kernel
theorem dX5_firstOf_4 : decode cX5_firstOf 4 = .ok (.iload_n 3, 1) := by decide +kernel
theorem dX5_firstOf_5 : decode cX5_firstOf 5 = .ok (.aload_n 0, 1) := by decide +kernel
theorem dX5_firstOf_6 : decode cX5_firstOf 6 = .ok (.getfield 13, 3) := by decide +kernel
theorem dX5_firstOf_9 : decode cX5_firstOf 9 = .ok (.iconst 1, 1) := by decide +kernel
theorem dX5_firstOf_10 : decode cX5_firstOf 10 = .ok (.iaload, 1) := by decide +kernel
theorem dX5_firstOf_11 : decode cX5_firstOf 11 = .ok (.if_icmp .ge 38, 3) := by decide +kernel
theorem dX5_firstOf_14 : decode cX5_firstOf 14 = .ok (.aload_n 0, 1) := by decide +kernel
theorem dX5_firstOf_15 : decode cX5_firstOf 15 = .ok (.iload_n 3, 1) := by decide +kernel
theorem dX5_firstOf_16 : decode cX5_firstOf 16 = .ok (.iload_n 1, 1) := by decide +kernel
theorem dX5_firstOf_17 : decode cX5_firstOf 17 = .ok (.invokevirtual 48, 3) := by decide +kernel
theorem dX5_firstOf_20 : decode cX5_firstOf 20 = .ok (.ifCond .eq 21, 3) := by decide +kernel
theorem dX5_firstOf_23 : decode cX5_firstOf 23 = .ok (.iload_n 2, 1) := by decide +kernel
theorem dX5_firstOf_24 : decode cX5_firstOf 24 = .ok (.iconst (-1), 1) := by decide +kernel
theorem dX5_firstOf_25 : decode cX5_firstOf 25 = .ok (.if_icmp .eq 12, 3) := by decide +kernel
theorem dX5_firstOf_28 : decode cX5_firstOf 28 = .ok (.aload_n 0, 1) := by decide +kernel
theorem dX5_firstOf_29 : decode cX5_firstOf 29 = .ok (.iload_n 3, 1) := by decide +kernel
theorem dX5_firstOf_30 : decode cX5_firstOf 30 = .ok (.iload_n 2, 1) := by decide +kernel
theorem dX5_firstOf_31 : decode cX5_firstOf 31 = .ok (.invokevirtual 55, 3) := by decide +kernel
theorem dX5_firstOf_34 : decode cX5_firstOf 34 = .ok (.ifCond .eq 7, 3) := by decide +kernel
theorem dX5_firstOf_37 : decode cX5_firstOf 37 = .ok (.iload_n 3, 1) := by decide +kernel
theorem dX5_firstOf_38 : decode cX5_firstOf 38 = .ok (.goto 4, 3) := by decide +kernel
theorem dX5_firstOf_41 : decode cX5_firstOf 41 = .ok (.iload_n 2, 1) := by decide +kernel
theorem dX5_firstOf_42 : decode cX5_firstOf 42 = .ok (.istore_n 2, 1) := by decide +kernel
theorem dX5_firstOf_43 : decode cX5_firstOf 43 = .ok (.iinc 3 1, 3) := by decide +kernel
theorem dX5_firstOf_46 : decode cX5_firstOf 46 = .ok (.goto (-42), 3) := by decide +kernel
theorem dX5_firstOf_49 : decode cX5_firstOf 49 = .ok (.iload_n 2, 1) := by decide +kernel
theorem dX5_firstOf_50 : decode cX5_firstOf 50 = .ok (.ireturn, 1) := by decide +kernel
set_option maxRecDepth 20000 in
theorem ggX5_lastOf_X5_isOf : GoodIn wsX5_lastOf wsX5_isOf := goodIn_r _ [6, 7, 8, 9, 5, 10, 1, 15, 16, 17, 18, 19, 20, 21, 22, 23, 24, 25, 26, 27] (by decide +kernel) (by decide +kernel)
set_option maxRecDepth 20000 in
theorem gX5_lastOf_X5_isOf : GoodIn wsX5_lastOf (wsV RX5 48 RX5 yX5_isOf wsX5_isOf) := goodIn_app (goodIn_of _ (by decide +kernel)) ggX5_lastOf_X5_isOf
set_option maxRecDepth 20000 in
theorem ggX5_lastOf_X5_isLess : GoodIn wsX5_lastOf wsX5_isLess := goodIn_r _ [14, 7, 8, 9, 5, 10, 1, 15, 16, 17, 18, 19, 20, 21, 22, 23, 24, 25, 26, 27] (by decide +kernel) (by decide +kernel)
set_option maxRecDepth 20000 in
theorem gX5_lastOf_X5_isLess : GoodIn wsX5_lastOf (wsV RX5 55 RX5 yX5_isLess wsX5_isLess) := goodIn_app (goodIn_of _ (by decide +kernel)) ggX5_lastOf_X5_isLess
theorem dX5_lastOf_0 : decode cX5_lastOf 0 = .ok (.iconst (-1), 1) := by decide +kernel
theorem dX5_lastOf_1 : decode cX5_lastOf 1 = .ok (.istore_n 2, 1) := by decide +kernel
theorem dX5_lastOf_2 : decode cX5_lastOf 2 = .ok (.iconst 0, 1) := by decide +kernel
theorem dX5_lastOf_3 : decode cX5_lastOf 3 = .ok (.istore_n 3, 1) := by decide +kernel
theorem dX5_lastOf_4 : decode cX5_lastOf 4 = .ok (.iload_n 3, 1) := by decide +kernel
theorem dX5_lastOf_5 : decode cX5_lastOf 5 = .ok (.aload_n 0, 1) := by decide +kernel
theorem dX5_lastOf_6 : decode cX5_lastOf 6 = .ok (.getfield 13, 3) := by decide +kernel
theorem dX5_lastOf_9 : decode cX5_lastOf 9 = .ok (.iconst 1, 1) := by decide +kernel
theorem dX5_lastOf_10 : decode cX5_lastOf 10 = .ok (.iaload, 1) := by decide +kernel
theorem dX5_lastOf_11 : decode cX5_lastOf 11 = .ok (.if_icmp .ge 38, 3) := by decide +kernel
theorem dX5_lastOf_14 : decode cX5_lastOf 14 = .ok (.aload_n 0, 1) := by decide +kernel
theorem dX5_lastOf_15 : decode cX5_lastOf 15 = .ok (.iload_n 3, 1) := by decide +kernel
theorem dX5_lastOf_16 : decode cX5_lastOf 16 = .ok (.iload_n 1, 1) := by decide +kernel
theorem dX5_lastOf_17 : decode cX5_lastOf 17 = .ok (.invokevirtual 48, 3) := by decide +kernel
theorem dX5_lastOf_20 : decode cX5_lastOf 20 = .ok (.ifCond .eq 21, 3) := by decide +kernel
theorem dX5_lastOf_23 : decode cX5_lastOf 23 = .ok (.iload_n 2, 1) := by decide +kernel
theorem dX5_lastOf_24 : decode cX5_lastOf 24 = .ok (.iconst (-1), 1) := by decide +kernel
theorem dX5_lastOf_25 : decode cX5_lastOf 25 = .ok (.if_icmp .eq 12, 3) := by decide +kernel
theorem dX5_lastOf_28 : decode cX5_lastOf 28 = .ok (.aload_n 0, 1) := by decide +kernel
theorem dX5_lastOf_29 : decode cX5_lastOf 29 = .ok (.iload_n 2, 1) := by decide +kernel
theorem dX5_lastOf_30 : decode cX5_lastOf 30 = .ok (.iload_n 3, 1) := by decide +kernel
theorem dX5_lastOf_31 : decode cX5_lastOf 31 = .ok (.invokevirtual 55, 3) := by decide +kernel
theorem dX5_lastOf_34 : decode cX5_lastOf 34 = .ok (.ifCond .eq 7, 3) := by decide +kernel
theorem dX5_lastOf_37 : decode cX5_lastOf 37 = .ok (.iload_n 3, 1) := by decide +kernel
theorem dX5_lastOf_38 : decode cX5_lastOf 38 = .ok (.goto 4, 3) := by decide +kernel
theorem dX5_lastOf_41 : decode cX5_lastOf 41 = .ok (.iload_n 2, 1) := by decide +kernel
theorem dX5_lastOf_42 : decode cX5_lastOf 42 = .ok (.istore_n 2, 1) := by decide +kernel
theorem dX5_lastOf_43 : decode cX5_lastOf 43 = .ok (.iinc 3 1, 3) := by decide +kernel
theorem dX5_lastOf_46 : decode cX5_lastOf 46 = .ok (.goto (-42), 3) := by decide +kernel
theorem dX5_lastOf_49 : decode cX5_lastOf 49 = .ok (.iload_n 2, 1) := by decide +kernel
theorem dX5_lastOf_50 : decode cX5_lastOf 50 = .ok (.ireturn, 1) := by decide +kernel
set_option maxRecDepth 20000 in
theorem ggX5_lastAshore_X5_of : GoodIn wsX5_lastAshore wsX5_of := goodIn_r _ [6, 1, 11, 12, 13, 14, 15, 16, 17, 18, 19, 20, 21, 22, 23] (by decide +kernel) (by decide +kernel)
set_option maxRecDepth 20000 in
theorem gX5_lastAshore_X5_of : GoodIn wsX5_lastAshore (wsV RX5 44 RX5 yX5_of wsX5_of) := goodIn_app (goodIn_of _ (by decide +kernel)) ggX5_lastAshore_X5_of
set_option maxRecDepth 20000 in
theorem ggX5_lastAshore_X5_isLess : GoodIn wsX5_lastAshore wsX5_isLess := goodIn_r _ [10, 2, 3, 4, 5, 6, 1, 11, 12, 13, 14, 15, 16, 17, 18, 19, 20, 21, 22, 23] (by decide +kernel) (by decide +kernel)
set_option maxRecDepth 20000 in
theorem gX5_lastAshore_X5_isLess : GoodIn wsX5_lastAshore (wsV RX5 55 RX5 yX5_isLess wsX5_isLess) := goodIn_app (goodIn_of _ (by decide +kernel)) ggX5_lastAshore_X5_isLess
theorem dX5_lastAshore_0 : decode cX5_lastAshore 0 = .ok (.iconst (-1), 1) := by decide +kernel
theorem dX5_lastAshore_1 : decode cX5_lastAshore 1 = .ok (.istore_n 1, 1) := by decide +kernel
theorem dX5_lastAshore_2 : decode cX5_lastAshore 2 = .ok (.iconst 0, 1) := by decide +kernel
theorem dX5_lastAshore_3 : decode cX5_lastAshore 3 = .ok (.istore_n 2, 1) := by decide +kernel
theorem dX5_lastAshore_4 : decode cX5_lastAshore 4 = .ok (.iload_n 2, 1) := by decide +kernel
theorem dX5_lastAshore_5 : decode cX5_lastAshore 5 = .ok (.aload_n 0, 1) := by decide +kernel
theorem dX5_lastAshore_6 : decode cX5_lastAshore 6 = .ok (.getfield 13, 3) := by decide +kernel
theorem dX5_lastAshore_9 : decode cX5_lastAshore 9 = .ok (.iconst 1, 1) := by decide +kernel
theorem dX5_lastAshore_10 : decode cX5_lastAshore 10 = .ok (.iaload, 1) := by decide +kernel
theorem dX5_lastAshore_11 : decode cX5_lastAshore 11 = .ok (.if_icmp .ge 39, 3) := by decide +kernel
theorem dX5_lastAshore_14 : decode cX5_lastAshore 14 = .ok (.aload_n 0, 1) := by decide +kernel
theorem dX5_lastAshore_15 : decode cX5_lastAshore 15 = .ok (.iload_n 2, 1) := by decide +kernel
theorem dX5_lastAshore_16 : decode cX5_lastAshore 16 = .ok (.iconst 2, 1) := by decide +kernel
theorem dX5_lastAshore_17 : decode cX5_lastAshore 17 = .ok (.invokevirtual 44, 3) := by decide +kernel
theorem dX5_lastAshore_20 : decode cX5_lastAshore 20 = .ok (.iconst 2, 1) := by decide +kernel
theorem dX5_lastAshore_21 : decode cX5_lastAshore 21 = .ok (.if_icmp .ne 21, 3) := by decide +kernel
theorem dX5_lastAshore_24 : decode cX5_lastAshore 24 = .ok (.iload_n 1, 1) := by decide +kernel
theorem dX5_lastAshore_25 : decode cX5_lastAshore 25 = .ok (.iconst (-1), 1) := by decide +kernel
theorem dX5_lastAshore_26 : decode cX5_lastAshore 26 = .ok (.if_icmp .eq 12, 3) := by decide +kernel
theorem dX5_lastAshore_29 : decode cX5_lastAshore 29 = .ok (.aload_n 0, 1) := by decide +kernel
theorem dX5_lastAshore_30 : decode cX5_lastAshore 30 = .ok (.iload_n 1, 1) := by decide +kernel
theorem dX5_lastAshore_31 : decode cX5_lastAshore 31 = .ok (.iload_n 2, 1) := by decide +kernel
theorem dX5_lastAshore_32 : decode cX5_lastAshore 32 = .ok (.invokevirtual 55, 3) := by decide +kernel
theorem dX5_lastAshore_35 : decode cX5_lastAshore 35 = .ok (.ifCond .eq 7, 3) := by decide +kernel
theorem dX5_lastAshore_38 : decode cX5_lastAshore 38 = .ok (.iload_n 2, 1) := by decide +kernel
theorem dX5_lastAshore_39 : decode cX5_lastAshore 39 = .ok (.goto 4, 3) := by decide +kernel
theorem dX5_lastAshore_42 : decode cX5_lastAshore 42 = .ok (.iload_n 1, 1) := by decide +kernel
theorem dX5_lastAshore_43 : decode cX5_lastAshore 43 = .ok (.istore_n 1, 1) := by decide +kernel
theorem dX5_lastAshore_44 : decode cX5_lastAshore 44 = .ok (.iinc 2 1, 3) := by decide +kernel
theorem dX5_lastAshore_47 : decode cX5_lastAshore 47 = .ok (.goto (-43), 3) := by decide +kernel
theorem dX5_lastAshore_50 : decode cX5_lastAshore 50 = .ok (.iload_n 1, 1) := by decide +kernel
theorem dX5_lastAshore_51 : decode cX5_lastAshore 51 = .ok (.ireturn, 1) := by decide +kernel
theorem dX5_save_0 : decode cX5_save 0 = .ok (.aload_n 0, 1) := by decide +kernel
theorem dX5_save_1 : decode cX5_save 1 = .ok (.getfield 58, 3) := by decide +kernel
theorem dX5_save_4 : decode cX5_save 4 = .ok (.iconst 4, 1) := by decide +kernel
theorem dX5_save_5 : decode cX5_save 5 = .ok (.if_icmp .ne 44, 3) := by decide +kernel
theorem dX5_save_8 : decode cX5_save 8 = .ok (.iconst 0, 1) := by decide +kernel
theorem dX5_save_9 : decode cX5_save 9 = .ok (.istore_n 1, 1) := by decide +kernel
theorem dX5_save_10 : decode cX5_save 10 = .ok (.iload_n 1, 1) := by decide +kernel
theorem dX5_save_11 : decode cX5_save 11 = .ok (.sipush 2190, 3) := by decide +kernel
theorem dX5_save_14 : decode cX5_save 14 = .ok (.if_icmp .ge 25, 3) := by decide +kernel
theorem dX5_save_17 : decode cX5_save 17 = .ok (.aload_n 0, 1) := by decide +kernel
theorem dX5_save_18 : decode cX5_save 18 = .ok (.getfield 20, 3) := by decide +kernel
theorem dX5_save_21 : decode cX5_save 21 = .ok (.iload_n 1, 1) := by decide +kernel
theorem dX5_save_22 : decode cX5_save 22 = .ok (.aload_n 0, 1) := by decide +kernel
theorem dX5_save_23 : decode cX5_save 23 = .ok (.getfield 20, 3) := by decide +kernel
theorem dX5_save_26 : decode cX5_save 26 = .ok (.iload_n 1, 1) := by decide +kernel
theorem dX5_save_27 : decode cX5_save 27 = .ok (.sipush 730, 3) := by decide +kernel
theorem dX5_save_30 : decode cX5_save 30 = .ok (.iadd, 1) := by decide +kernel
theorem dX5_save_31 : decode cX5_save 31 = .ok (.iaload, 1) := by decide +kernel
theorem dX5_save_32 : decode cX5_save 32 = .ok (.iastore, 1) := by decide +kernel
theorem dX5_save_33 : decode cX5_save 33 = .ok (.iinc 1 1, 3) := by decide +kernel
theorem dX5_save_36 : decode cX5_save 36 = .ok (.goto (-26), 3) := by decide +kernel
theorem dX5_save_39 : decode cX5_save 39 = .ok (.aload_n 0, 1) := by decide +kernel
theorem dX5_save_40 : decode cX5_save 40 = .ok (.dup, 1) := by decide +kernel
theorem dX5_save_41 : decode cX5_save 41 = .ok (.getfield 58, 3) := by decide +kernel
theorem dX5_save_44 : decode cX5_save 44 = .ok (.iconst 1, 1) := by decide +kernel
theorem dX5_save_45 : decode cX5_save 45 = .ok (.isub, 1) := by decide +kernel
theorem dX5_save_46 : decode cX5_save 46 = .ok (.putfield 58, 3) := by decide +kernel
theorem dX5_save_49 : decode cX5_save 49 = .ok (.iconst 0, 1) := by decide +kernel
theorem dX5_save_50 : decode cX5_save 50 = .ok (.istore_n 1, 1) := by decide +kernel
theorem dX5_save_51 : decode cX5_save 51 = .ok (.iload_n 1, 1) := by decide +kernel
theorem dX5_save_52 : decode cX5_save 52 = .ok (.sipush 730, 3) := by decide +kernel
theorem dX5_save_55 : decode cX5_save 55 = .ok (.if_icmp .ge 30, 3) := by decide +kernel
theorem dX5_save_58 : decode cX5_save 58 = .ok (.aload_n 0, 1) := by decide +kernel
theorem dX5_save_59 : decode cX5_save 59 = .ok (.getfield 20, 3) := by decide +kernel
theorem dX5_save_62 : decode cX5_save 62 = .ok (.sipush 730, 3) := by decide +kernel
theorem dX5_save_65 : decode cX5_save 65 = .ok (.aload_n 0, 1) := by decide +kernel
theorem dX5_save_66 : decode cX5_save 66 = .ok (.getfield 58, 3) := by decide +kernel
theorem dX5_save_69 : decode cX5_save 69 = .ok (.imul, 1) := by decide +kernel
theorem dX5_save_70 : decode cX5_save 70 = .ok (.iload_n 1, 1) := by decide +kernel
theorem dX5_save_71 : decode cX5_save 71 = .ok (.iadd, 1) := by decide +kernel
theorem dX5_save_72 : decode cX5_save 72 = .ok (.aload_n 0, 1) := by decide +kernel
theorem dX5_save_73 : decode cX5_save 73 = .ok (.getfield 13, 3) := by decide +kernel
theorem dX5_save_76 : decode cX5_save 76 = .ok (.iload_n 1, 1) := by decide +kernel
theorem dX5_save_77 : decode cX5_save 77 = .ok (.iaload, 1) := by decide +kernel
theorem dX5_save_78 : decode cX5_save 78 = .ok (.iastore, 1) := by decide +kernel
theorem dX5_save_79 : decode cX5_save 79 = .ok (.iinc 1 1, 3) := by decide +kernel
theorem dX5_save_82 : decode cX5_save 82 = .ok (.goto (-31), 3) := by decide +kernel
theorem dX5_save_85 : decode cX5_save 85 = .ok (.aload_n 0, 1) := by decide +kernel
theorem dX5_save_86 : decode cX5_save 86 = .ok (.dup, 1) := by decide +kernel
theorem dX5_save_87 : decode cX5_save 87 = .ok (.getfield 58, 3) := by decide +kernel
theorem dX5_save_90 : decode cX5_save 90 = .ok (.iconst 1, 1) := by decide +kernel
theorem dX5_save_91 : decode cX5_save 91 = .ok (.iadd, 1) := by decide +kernel
theorem dX5_save_92 : decode cX5_save 92 = .ok (.putfield 58, 3) := by decide +kernel
theorem dX5_save_95 : decode cX5_save 95 = .ok (.return_, 1) := by decide +kernel
theorem dX5_newRun_0 : decode cX5_newRun 0 = .ok (.bipush 10, 2) := by decide +kernel
theorem dX5_newRun_2 : decode cX5_newRun 2 = .ok (.iconst 2, 1) := by decide +kernel
theorem dX5_newRun_3 : decode cX5_newRun 3 = .ok (.aload_n 0, 1) := by decide +kernel
theorem dX5_newRun_4 : decode cX5_newRun 4 = .ok (.getfield 13, 3) := by decide +kernel
theorem dX5_newRun_7 : decode cX5_newRun 7 = .ok (.bipush 8, 2) := by decide +kernel
theorem dX5_newRun_9 : decode cX5_newRun 9 = .ok (.iaload, 1) := by decide +kernel
theorem dX5_newRun_10 : decode cX5_newRun 10 = .ok (.imul, 1) := by decide +kernel
theorem dX5_newRun_11 : decode cX5_newRun 11 = .ok (.iadd, 1) := by decide +kernel
theorem dX5_newRun_12 : decode cX5_newRun 12 = .ok (.istore_n 1, 1) := by decide +kernel
theorem dX5_newRun_13 : decode cX5_newRun 13 = .ok (.aload_n 0, 1) := by decide +kernel
theorem dX5_newRun_14 : decode cX5_newRun 14 = .ok (.getfield 13, 3) := by decide +kernel
theorem dX5_newRun_17 : decode cX5_newRun 17 = .ok (.iload_n 1, 1) := by decide +kernel
theorem dX5_newRun_18 : decode cX5_newRun 18 = .ok (.aload_n 0, 1) := by decide +kernel
theorem dX5_newRun_19 : decode cX5_newRun 19 = .ok (.getfield 13, 3) := by decide +kernel
theorem dX5_newRun_22 : decode cX5_newRun 22 = .ok (.bipush 7, 2) := by decide +kernel
theorem dX5_newRun_24 : decode cX5_newRun 24 = .ok (.iaload, 1) := by decide +kernel
theorem dX5_newRun_25 : decode cX5_newRun 25 = .ok (.iastore, 1) := by decide +kernel
theorem dX5_newRun_26 : decode cX5_newRun 26 = .ok (.aload_n 0, 1) := by decide +kernel
theorem dX5_newRun_27 : decode cX5_newRun 27 = .ok (.getfield 13, 3) := by decide +kernel
theorem dX5_newRun_30 : decode cX5_newRun 30 = .ok (.iload_n 1, 1) := by decide +kernel
theorem dX5_newRun_31 : decode cX5_newRun 31 = .ok (.iconst 1, 1) := by decide +kernel
theorem dX5_newRun_32 : decode cX5_newRun 32 = .ok (.iadd, 1) := by decide +kernel
theorem dX5_newRun_33 : decode cX5_newRun 33 = .ok (.iconst 5, 1) := by decide +kernel
theorem dX5_newRun_34 : decode cX5_newRun 34 = .ok (.iastore, 1) := by decide +kernel
theorem dX5_newRun_35 : decode cX5_newRun 35 = .ok (.aload_n 0, 1) := by decide +kernel
theorem dX5_newRun_36 : decode cX5_newRun 36 = .ok (.getfield 13, 3) := by decide +kernel
theorem dX5_newRun_39 : decode cX5_newRun 39 = .ok (.bipush 8, 2) := by decide +kernel
theorem dX5_newRun_41 : decode cX5_newRun 41 = .ok (.dup2, 1) := by decide +kernel
theorem dX5_newRun_42 : decode cX5_newRun 42 = .ok (.iaload, 1) := by decide +kernel
theorem dX5_newRun_43 : decode cX5_newRun 43 = .ok (.iconst 1, 1) := by decide +kernel
theorem dX5_newRun_44 : decode cX5_newRun 44 = .ok (.iadd, 1) := by decide +kernel
theorem dX5_newRun_45 : decode cX5_newRun 45 = .ok (.iastore, 1) := by decide +kernel
theorem dX5_newRun_46 : decode cX5_newRun 46 = .ok (.aload_n 0, 1) := by decide +kernel
theorem dX5_newRun_47 : decode cX5_newRun 47 = .ok (.getfield 13, 3) := by decide +kernel
theorem dX5_newRun_50 : decode cX5_newRun 50 = .ok (.bipush 7, 2) := by decide +kernel
theorem dX5_newRun_52 : decode cX5_newRun 52 = .ok (.dup2, 1) := by decide +kernel
theorem dX5_newRun_53 : decode cX5_newRun 53 = .ok (.iaload, 1) := by decide +kernel
theorem dX5_newRun_54 : decode cX5_newRun 54 = .ok (.iconst 1, 1) := by decide +kernel
theorem dX5_newRun_55 : decode cX5_newRun 55 = .ok (.iadd, 1) := by decide +kernel
theorem dX5_newRun_56 : decode cX5_newRun 56 = .ok (.iastore, 1) := by decide +kernel
theorem dX5_newRun_57 : decode cX5_newRun 57 = .ok (.aload_n 0, 1) := by decide +kernel
theorem dX5_newRun_58 : decode cX5_newRun 58 = .ok (.getfield 13, 3) := by decide +kernel
theorem dX5_newRun_61 : decode cX5_newRun 61 = .ok (.bipush 7, 2) := by decide +kernel
theorem dX5_newRun_63 : decode cX5_newRun 63 = .ok (.iaload, 1) := by decide +kernel
theorem dX5_newRun_64 : decode cX5_newRun 64 = .ok (.iconst 1, 1) := by decide +kernel
theorem dX5_newRun_65 : decode cX5_newRun 65 = .ok (.isub, 1) := by decide +kernel
theorem dX5_newRun_66 : decode cX5_newRun 66 = .ok (.ireturn, 1) := by decide +kernel
theorem dX5_dropRun_0 : decode cX5_dropRun 0 = .ok (.bipush 10, 2) := by decide +kernel
theorem dX5_dropRun_2 : decode cX5_dropRun 2 = .ok (.iconst 2, 1) := by decide +kernel
theorem dX5_dropRun_3 : decode cX5_dropRun 3 = .ok (.iload_n 1, 1) := by decide +kernel
theorem dX5_dropRun_4 : decode cX5_dropRun 4 = .ok (.imul, 1) := by decide +kernel
theorem dX5_dropRun_5 : decode cX5_dropRun 5 = .ok (.iadd, 1) := by decide +kernel
theorem dX5_dropRun_6 : decode cX5_dropRun 6 = .ok (.istore_n 2, 1) := by decide +kernel
theorem dX5_dropRun_7 : decode cX5_dropRun 7 = .ok (.iload_n 2, 1) := by decide +kernel
theorem dX5_dropRun_8 : decode cX5_dropRun 8 = .ok (.bipush 10, 2) := by decide +kernel
theorem dX5_dropRun_10 : decode cX5_dropRun 10 = .ok (.iconst 2, 1) := by decide +kernel
theorem dX5_dropRun_11 : decode cX5_dropRun 11 = .ok (.aload_n 0, 1) := by decide +kernel
theorem dX5_dropRun_12 : decode cX5_dropRun 12 = .ok (.getfield 13, 3) := by decide +kernel
theorem dX5_dropRun_15 : decode cX5_dropRun 15 = .ok (.bipush 8, 2) := by decide +kernel
theorem dX5_dropRun_17 : decode cX5_dropRun 17 = .ok (.iaload, 1) := by decide +kernel
theorem dX5_dropRun_18 : decode cX5_dropRun 18 = .ok (.imul, 1) := by decide +kernel
theorem dX5_dropRun_19 : decode cX5_dropRun 19 = .ok (.iadd, 1) := by decide +kernel
theorem dX5_dropRun_20 : decode cX5_dropRun 20 = .ok (.iconst 2, 1) := by decide +kernel
theorem dX5_dropRun_21 : decode cX5_dropRun 21 = .ok (.isub, 1) := by decide +kernel
theorem dX5_dropRun_22 : decode cX5_dropRun 22 = .ok (.if_icmp .ge 23, 3) := by decide +kernel
theorem dX5_dropRun_25 : decode cX5_dropRun 25 = .ok (.aload_n 0, 1) := by decide +kernel
theorem dX5_dropRun_26 : decode cX5_dropRun 26 = .ok (.getfield 13, 3) := by decide +kernel
theorem dX5_dropRun_29 : decode cX5_dropRun 29 = .ok (.iload_n 2, 1) := by decide +kernel
theorem dX5_dropRun_30 : decode cX5_dropRun 30 = .ok (.aload_n 0, 1) := by decide +kernel
theorem dX5_dropRun_31 : decode cX5_dropRun 31 = .ok (.getfield 13, 3) := by decide +kernel
theorem dX5_dropRun_34 : decode cX5_dropRun 34 = .ok (.iload_n 2, 1) := by decide +kernel
theorem dX5_dropRun_35 : decode cX5_dropRun 35 = .ok (.iconst 2, 1) := by decide +kernel
theorem dX5_dropRun_36 : decode cX5_dropRun 36 = .ok (.iadd, 1) := by decide +kernel
theorem dX5_dropRun_37 : decode cX5_dropRun 37 = .ok (.iaload, 1) := by decide +kernel
theorem dX5_dropRun_38 : decode cX5_dropRun 38 = .ok (.iastore, 1) := by decide +kernel
theorem dX5_dropRun_39 : decode cX5_dropRun 39 = .ok (.iinc 2 1, 3) := by decide +kernel
theorem dX5_dropRun_42 : decode cX5_dropRun 42 = .ok (.goto (-35), 3) := by decide +kernel
theorem dX5_dropRun_45 : decode cX5_dropRun 45 = .ok (.aload_n 0, 1) := by decide +kernel
theorem dX5_dropRun_46 : decode cX5_dropRun 46 = .ok (.getfield 13, 3) := by decide +kernel
theorem dX5_dropRun_49 : decode cX5_dropRun 49 = .ok (.bipush 8, 2) := by decide +kernel
theorem dX5_dropRun_51 : decode cX5_dropRun 51 = .ok (.dup2, 1) := by decide +kernel
theorem dX5_dropRun_52 : decode cX5_dropRun 52 = .ok (.iaload, 1) := by decide +kernel
theorem dX5_dropRun_53 : decode cX5_dropRun 53 = .ok (.iconst 1, 1) := by decide +kernel
theorem dX5_dropRun_54 : decode cX5_dropRun 54 = .ok (.isub, 1) := by decide +kernel
theorem dX5_dropRun_55 : decode cX5_dropRun 55 = .ok (.iastore, 1) := by decide +kernel
theorem dX5_dropRun_56 : decode cX5_dropRun 56 = .ok (.return_, 1) := by decide +kernel
set_option maxRecDepth 20000 in
theorem ggX5_leastInBoat_X5_of : GoodIn wsX5_leastInBoat wsX5_of := goodIn_r _ [6, 1, 11, 12, 13, 14, 15, 16, 17, 18, 19, 20, 21, 22, 23] (by decide +kernel) (by decide +kernel)
set_option maxRecDepth 20000 in
theorem gX5_leastInBoat_X5_of : GoodIn wsX5_leastInBoat (wsV RX5 44 RX5 yX5_of wsX5_of) := goodIn_app (goodIn_of _ (by decide +kernel)) ggX5_leastInBoat_X5_of
set_option maxRecDepth 20000 in
theorem ggX5_leastInBoat_X5_isLess : GoodIn wsX5_leastInBoat wsX5_isLess := goodIn_r _ [10, 2, 3, 4, 5, 6, 1, 11, 12, 13, 14, 15, 16, 17, 18, 19, 20, 21, 22, 23] (by decide +kernel) (by decide +kernel)
set_option maxRecDepth 20000 in
theorem gX5_leastInBoat_X5_isLess : GoodIn wsX5_leastInBoat (wsV RX5 55 RX5 yX5_isLess wsX5_isLess) := goodIn_app (goodIn_of _ (by decide +kernel)) ggX5_leastInBoat_X5_isLess
theorem dX5_leastInBoat_0 : decode cX5_leastInBoat 0 = .ok (.iconst (-1), 1) := by decide +kernel
theorem dX5_leastInBoat_1 : decode cX5_leastInBoat 1 = .ok (.istore_n 2, 1) := by decide +kernel
theorem dX5_leastInBoat_2 : decode cX5_leastInBoat 2 = .ok (.iconst 0, 1) := by decide +kernel
theorem dX5_leastInBoat_3 : decode cX5_leastInBoat 3 = .ok (.istore_n 3, 1) := by decide +kernel
theorem dX5_leastInBoat_4 : decode cX5_leastInBoat 4 = .ok (.iload_n 3, 1) := by decide +kernel
theorem dX5_leastInBoat_5 : decode cX5_leastInBoat 5 = .ok (.aload_n 0, 1) := by decide +kernel
theorem dX5_leastInBoat_6 : decode cX5_leastInBoat 6 = .ok (.getfield 13, 3) := by decide +kernel
theorem dX5_leastInBoat_9 : decode cX5_leastInBoat 9 = .ok (.iconst 1, 1) := by decide +kernel
theorem dX5_leastInBoat_10 : decode cX5_leastInBoat 10 = .ok (.iaload, 1) := by decide +kernel
theorem dX5_leastInBoat_11 : decode cX5_leastInBoat 11 = .ok (.if_icmp .ge 64, 3) := by decide +kernel
theorem dX5_leastInBoat_14 : decode cX5_leastInBoat 14 = .ok (.aload_n 0, 1) := by decide +kernel
theorem dX5_leastInBoat_15 : decode cX5_leastInBoat 15 = .ok (.iload_n 3, 1) := by decide +kernel
theorem dX5_leastInBoat_16 : decode cX5_leastInBoat 16 = .ok (.iconst 2, 1) := by decide +kernel
theorem dX5_leastInBoat_17 : decode cX5_leastInBoat 17 = .ok (.invokevirtual 44, 3) := by decide +kernel
theorem dX5_leastInBoat_20 : decode cX5_leastInBoat 20 = .ok (.ifCond .ne 21, 3) := by decide +kernel
theorem dX5_leastInBoat_23 : decode cX5_leastInBoat 23 = .ok (.iload_n 1, 1) := by decide +kernel
theorem dX5_leastInBoat_24 : decode cX5_leastInBoat 24 = .ok (.iconst (-1), 1) := by decide +kernel
theorem dX5_leastInBoat_25 : decode cX5_leastInBoat 25 = .ok (.if_icmp .eq 12, 3) := by decide +kernel
theorem dX5_leastInBoat_28 : decode cX5_leastInBoat 28 = .ok (.aload_n 0, 1) := by decide +kernel
theorem dX5_leastInBoat_29 : decode cX5_leastInBoat 29 = .ok (.iload_n 1, 1) := by decide +kernel
theorem dX5_leastInBoat_30 : decode cX5_leastInBoat 30 = .ok (.iload_n 3, 1) := by decide +kernel
theorem dX5_leastInBoat_31 : decode cX5_leastInBoat 31 = .ok (.invokevirtual 55, 3) := by decide +kernel
theorem dX5_leastInBoat_34 : decode cX5_leastInBoat 34 = .ok (.ifCond .eq 7, 3) := by decide +kernel
theorem dX5_leastInBoat_37 : decode cX5_leastInBoat 37 = .ok (.iconst 1, 1) := by decide +kernel
theorem dX5_leastInBoat_38 : decode cX5_leastInBoat 38 = .ok (.goto 4, 3) := by decide +kernel
theorem dX5_leastInBoat_41 : decode cX5_leastInBoat 41 = .ok (.iconst 0, 1) := by decide +kernel
theorem dX5_leastInBoat_42 : decode cX5_leastInBoat 42 = .ok (.istore 4, 2) := by decide +kernel
theorem dX5_leastInBoat_44 : decode cX5_leastInBoat 44 = .ok (.iload 4, 2) := by decide +kernel
theorem dX5_leastInBoat_46 : decode cX5_leastInBoat 46 = .ok (.ifCond .eq 21, 3) := by decide +kernel
theorem dX5_leastInBoat_49 : decode cX5_leastInBoat 49 = .ok (.iload_n 2, 1) := by decide +kernel
theorem dX5_leastInBoat_50 : decode cX5_leastInBoat 50 = .ok (.iconst (-1), 1) := by decide +kernel
theorem dX5_leastInBoat_51 : decode cX5_leastInBoat 51 = .ok (.if_icmp .eq 12, 3) := by decide +kernel
theorem dX5_leastInBoat_54 : decode cX5_leastInBoat 54 = .ok (.aload_n 0, 1) := by decide +kernel
theorem dX5_leastInBoat_55 : decode cX5_leastInBoat 55 = .ok (.iload_n 3, 1) := by decide +kernel
theorem dX5_leastInBoat_56 : decode cX5_leastInBoat 56 = .ok (.iload_n 2, 1) := by decide +kernel
theorem dX5_leastInBoat_57 : decode cX5_leastInBoat 57 = .ok (.invokevirtual 55, 3) := by decide +kernel
theorem dX5_leastInBoat_60 : decode cX5_leastInBoat 60 = .ok (.ifCond .eq 7, 3) := by decide +kernel
theorem dX5_leastInBoat_63 : decode cX5_leastInBoat 63 = .ok (.iload_n 3, 1) := by decide +kernel
theorem dX5_leastInBoat_64 : decode cX5_leastInBoat 64 = .ok (.goto 4, 3) := by decide +kernel
theorem dX5_leastInBoat_67 : decode cX5_leastInBoat 67 = .ok (.iload_n 2, 1) := by decide +kernel
theorem dX5_leastInBoat_68 : decode cX5_leastInBoat 68 = .ok (.istore_n 2, 1) := by decide +kernel
theorem dX5_leastInBoat_69 : decode cX5_leastInBoat 69 = .ok (.iinc 3 1, 3) := by decide +kernel
theorem dX5_leastInBoat_72 : decode cX5_leastInBoat 72 = .ok (.goto (-68), 3) := by decide +kernel
theorem dX5_leastInBoat_75 : decode cX5_leastInBoat 75 = .ok (.iload_n 2, 1) := by decide +kernel
theorem dX5_leastInBoat_76 : decode cX5_leastInBoat 76 = .ok (.ireturn, 1) := by decide +kernel
set_option maxRecDepth 20000 in
theorem ggX5_fitting_X5_lastOf : GoodIn wsX5_fitting wsX5_lastOf := goodIn_r _ [6, 1, 7, 8, 9, 5, 10, 11, 12, 13, 14, 15, 16, 17, 18, 23, 24, 25, 26, 27, 28, 29, 30, 31, 32, 33, 34, 35] (by decide +kernel) (by decide +kernel)
set_option maxRecDepth 20000 in
theorem gX5_fitting_X5_lastOf : GoodIn wsX5_fitting (wsV RX5 61 RX5 yX5_lastOf wsX5_lastOf) := goodIn_app (goodIn_of _ (by decide +kernel)) ggX5_fitting_X5_lastOf
set_option maxRecDepth 20000 in
theorem ggX5_fitting_X5_leastInBoat : GoodIn wsX5_fitting wsX5_leastInBoat := goodIn_r _ [22, 1, 11, 12, 13, 5, 14, 15, 16, 17, 18, 23, 24, 25, 26, 27, 28, 29, 30, 31, 32, 33, 34, 35] (by decide +kernel) (by decide +kernel)
set_option maxRecDepth 20000 in
theorem gX5_fitting_X5_leastInBoat : GoodIn wsX5_fitting (wsV RX5 64 RX5 yX5_leastInBoat wsX5_leastInBoat) := goodIn_app (goodIn_of _ (by decide +kernel)) ggX5_fitting_X5_leastInBoat
theorem dX5_fitting_0 : decode cX5_fitting 0 = .ok (.aload_n 0, 1) := by decide +kernel
theorem dX5_fitting_1 : decode cX5_fitting 1 = .ok (.getfield 13, 3) := by decide +kernel
theorem dX5_fitting_4 : decode cX5_fitting 4 = .ok (.bipush 6, 2) := by decide +kernel
theorem dX5_fitting_6 : decode cX5_fitting 6 = .ok (.iaload, 1) := by decide +kernel
theorem dX5_fitting_7 : decode cX5_fitting 7 = .ok (.iconst (-1), 1) := by decide +kernel
theorem dX5_fitting_8 : decode cX5_fitting 8 = .ok (.if_icmp .ne 7, 3) := by decide +kernel
theorem dX5_fitting_11 : decode cX5_fitting 11 = .ok (.iconst (-1), 1) := by decide +kernel
theorem dX5_fitting_12 : decode cX5_fitting 12 = .ok (.goto 18, 3) := by decide +kernel
theorem dX5_fitting_15 : decode cX5_fitting 15 = .ok (.aload_n 0, 1) := by decide +kernel
theorem dX5_fitting_16 : decode cX5_fitting 16 = .ok (.aload_n 0, 1) := by decide +kernel
theorem dX5_fitting_17 : decode cX5_fitting 17 = .ok (.aload_n 0, 1) := by decide +kernel
theorem dX5_fitting_18 : decode cX5_fitting 18 = .ok (.getfield 13, 3) := by decide +kernel
theorem dX5_fitting_21 : decode cX5_fitting 21 = .ok (.bipush 6, 2) := by decide +kernel
theorem dX5_fitting_23 : decode cX5_fitting 23 = .ok (.iaload, 1) := by decide +kernel
theorem dX5_fitting_24 : decode cX5_fitting 24 = .ok (.invokevirtual 61, 3) := by decide +kernel
theorem dX5_fitting_27 : decode cX5_fitting 27 = .ok (.invokevirtual 64, 3) := by decide +kernel
theorem dX5_fitting_30 : decode cX5_fitting 30 = .ok (.ireturn, 1) := by decide +kernel
set_option maxRecDepth 20000 in
theorem ggX5_throwOne_X5_fitting : GoodIn wsX5_throwOne wsX5_fitting := goodIn_r _ [6, 1, 7, 8, 9, 5, 10, 11, 12, 13, 14, 15, 16, 17, 18, 19, 20, 21, 22, 23, 24, 25, 26, 35, 36, 37, 38, 39, 40, 41, 42, 43, 44, 45, 46, 47] (by decide +kernel) (by decide +kernel)
set_option maxRecDepth 20000 in
theorem gX5_throwOne_X5_fitting : GoodIn wsX5_throwOne (wsV RX5 67 RX5 yX5_fitting wsX5_fitting) := goodIn_app (goodIn_of _ (by decide +kernel)) ggX5_throwOne_X5_fitting
set_option maxRecDepth 20000 in
theorem ggX5_throwOne_X5_leastInBoat : GoodIn wsX5_throwOne wsX5_leastInBoat := goodIn_r _ [26, 1, 15, 16, 17, 5, 18, 19, 20, 21, 22, 35, 36, 37, 38, 39, 40, 41, 42, 43, 44, 45, 46, 47] (by decide +kernel) (by decide +kernel)
set_option maxRecDepth 20000 in
theorem gX5_throwOne_X5_leastInBoat : GoodIn wsX5_throwOne (wsV RX5 64 RX5 yX5_leastInBoat wsX5_leastInBoat) := goodIn_app (goodIn_of _ (by decide +kernel)) ggX5_throwOne_X5_leastInBoat
set_option maxRecDepth 20000 in
theorem ggX5_throwOne_X5_newRun : GoodIn wsX5_throwOne wsX5_newRun := goodIn_r _ [30, 1, 35, 36, 37, 38, 39, 40, 41, 42, 43, 44, 45, 46, 47] (by decide +kernel) (by decide +kernel)
set_option maxRecDepth 20000 in
theorem gX5_throwOne_X5_newRun : GoodIn wsX5_throwOne (wsV RX5 71 RX5 yX5_newRun wsX5_newRun) := goodIn_app (goodIn_of _ (by decide +kernel)) ggX5_throwOne_X5_newRun
set_option maxRecDepth 20000 in
theorem ggX5_throwOne_X5_be : GoodIn wsX5_throwOne wsX5_be := goodIn_r _ [34, 1, 35, 36, 37, 38, 39, 40, 41, 42, 43, 44, 45, 46, 47] (by decide +kernel) (by decide +kernel)
set_option maxRecDepth 20000 in
theorem gX5_throwOne_X5_be : GoodIn wsX5_throwOne (wsV RX5 74 RX5 yX5_be wsX5_be) := goodIn_app (goodIn_of _ (by decide +kernel)) ggX5_throwOne_X5_be
theorem dX5_throwOne_0 : decode cX5_throwOne 0 = .ok (.aload_n 0, 1) := by decide +kernel
theorem dX5_throwOne_1 : decode cX5_throwOne 1 = .ok (.invokevirtual 67, 3) := by decide +kernel
theorem dX5_throwOne_4 : decode cX5_throwOne 4 = .ok (.istore_n 1, 1) := by decide +kernel
theorem dX5_throwOne_5 : decode cX5_throwOne 5 = .ok (.iload_n 1, 1) := by decide +kernel
theorem dX5_throwOne_6 : decode cX5_throwOne 6 = .ok (.iconst (-1), 1) := by decide +kernel
theorem dX5_throwOne_7 : decode cX5_throwOne 7 = .ok (.if_icmp .ne 20, 3) := by decide +kernel
theorem dX5_throwOne_10 : decode cX5_throwOne 10 = .ok (.aload_n 0, 1) := by decide +kernel
theorem dX5_throwOne_11 : decode cX5_throwOne 11 = .ok (.iconst (-1), 1) := by decide +kernel
theorem dX5_throwOne_12 : decode cX5_throwOne 12 = .ok (.invokevirtual 64, 3) := by decide +kernel
theorem dX5_throwOne_15 : decode cX5_throwOne 15 = .ok (.istore_n 1, 1) := by decide +kernel
theorem dX5_throwOne_16 : decode cX5_throwOne 16 = .ok (.aload_n 0, 1) := by decide +kernel
theorem dX5_throwOne_17 : decode cX5_throwOne 17 = .ok (.getfield 13, 3) := by decide +kernel
theorem dX5_throwOne_20 : decode cX5_throwOne 20 = .ok (.bipush 6, 2) := by decide +kernel
theorem dX5_throwOne_22 : decode cX5_throwOne 22 = .ok (.aload_n 0, 1) := by decide +kernel
theorem dX5_throwOne_23 : decode cX5_throwOne 23 = .ok (.invokevirtual 71, 3) := by decide +kernel
theorem dX5_throwOne_26 : decode cX5_throwOne 26 = .ok (.iastore, 1) := by decide +kernel
theorem dX5_throwOne_27 : decode cX5_throwOne 27 = .ok (.aload_n 0, 1) := by decide +kernel
theorem dX5_throwOne_28 : decode cX5_throwOne 28 = .ok (.iload_n 1, 1) := by decide +kernel
theorem dX5_throwOne_29 : decode cX5_throwOne 29 = .ok (.iconst 2, 1) := by decide +kernel
theorem dX5_throwOne_30 : decode cX5_throwOne 30 = .ok (.iconst 1, 1) := by decide +kernel
theorem dX5_throwOne_31 : decode cX5_throwOne 31 = .ok (.invokevirtual 74, 3) := by decide +kernel
theorem dX5_throwOne_34 : decode cX5_throwOne 34 = .ok (.aload_n 0, 1) := by decide +kernel
theorem dX5_throwOne_35 : decode cX5_throwOne 35 = .ok (.iload_n 1, 1) := by decide +kernel
theorem dX5_throwOne_36 : decode cX5_throwOne 36 = .ok (.iconst 3, 1) := by decide +kernel
theorem dX5_throwOne_37 : decode cX5_throwOne 37 = .ok (.aload_n 0, 1) := by decide +kernel
theorem dX5_throwOne_38 : decode cX5_throwOne 38 = .ok (.getfield 13, 3) := by decide +kernel
theorem dX5_throwOne_41 : decode cX5_throwOne 41 = .ok (.bipush 6, 2) := by decide +kernel
theorem dX5_throwOne_43 : decode cX5_throwOne 43 = .ok (.iaload, 1) := by decide +kernel
theorem dX5_throwOne_44 : decode cX5_throwOne 44 = .ok (.invokevirtual 74, 3) := by decide +kernel
theorem dX5_throwOne_47 : decode cX5_throwOne 47 = .ok (.aload_n 0, 1) := by decide +kernel
theorem dX5_throwOne_48 : decode cX5_throwOne 48 = .ok (.getfield 13, 3) := by decide +kernel
theorem dX5_throwOne_51 : decode cX5_throwOne 51 = .ok (.bipush 6, 2) := by decide +kernel
theorem dX5_throwOne_53 : decode cX5_throwOne 53 = .ok (.iaload, 1) := by decide +kernel
theorem dX5_throwOne_54 : decode cX5_throwOne 54 = .ok (.ireturn, 1) := by decide +kernel
set_option maxRecDepth 20000 in
theorem ggX5_loadOne_X5_many : GoodIn wsX5_loadOne wsX5_many := goodIn_r _ [6, 1, 7, 8, 9, 5, 10, 43, 44, 45, 46, 47, 48, 49, 50, 51, 52, 53, 54, 55] (by decide +kernel) (by decide +kernel)
set_option maxRecDepth 20000 in
theorem gX5_loadOne_X5_many : GoodIn wsX5_loadOne (wsV RX5 78 RX5 yX5_many wsX5_many) := goodIn_app (goodIn_of _ (by decide +kernel)) ggX5_loadOne_X5_many
set_option maxRecDepth 20000 in
theorem ggX5_loadOne_X5_throwOne : GoodIn wsX5_loadOne wsX5_throwOne := goodIn_r _ [14, 1, 15, 16, 17, 5, 18, 19, 20, 21, 22, 23, 24, 25, 26, 7, 8, 9, 10, 27, 28, 29, 30, 31, 32, 33, 34, 35, 36, 37, 38, 39, 40, 41, 42, 43, 44, 45, 46, 47, 48, 49, 50, 51, 52, 53, 54, 55] (by decide +kernel) (by decide +kernel)
set_option maxRecDepth 20000 in
theorem gX5_loadOne_X5_throwOne : GoodIn wsX5_loadOne (wsV RX5 81 RX5 yX5_throwOne wsX5_throwOne) := goodIn_app (goodIn_of _ (by decide +kernel)) ggX5_loadOne_X5_throwOne
set_option maxRecDepth 20000 in
theorem ggX5_loadOne_X5_be : GoodIn wsX5_loadOne wsX5_be := goodIn_r _ [42, 1, 43, 44, 45, 46, 47, 48, 49, 50, 51, 52, 53, 54, 55] (by decide +kernel) (by decide +kernel)
set_option maxRecDepth 20000 in
theorem gX5_loadOne_X5_be : GoodIn wsX5_loadOne (wsV RX5 74 RX5 yX5_be wsX5_be) := goodIn_app (goodIn_of _ (by decide +kernel)) ggX5_loadOne_X5_be
theorem dX5_loadOne_0 : decode cX5_loadOne 0 = .ok (.aload_n 0, 1) := by decide +kernel
theorem dX5_loadOne_1 : decode cX5_loadOne 1 = .ok (.iconst 0, 1) := by decide +kernel
theorem dX5_loadOne_2 : decode cX5_loadOne 2 = .ok (.invokevirtual 78, 3) := by decide +kernel
theorem dX5_loadOne_5 : decode cX5_loadOne 5 = .ok (.aload_n 0, 1) := by decide +kernel
theorem dX5_loadOne_6 : decode cX5_loadOne 6 = .ok (.getfield 13, 3) := by decide +kernel
theorem dX5_loadOne_9 : decode cX5_loadOne 9 = .ok (.iconst 0, 1) := by decide +kernel
theorem dX5_loadOne_10 : decode cX5_loadOne 10 = .ok (.iaload, 1) := by decide +kernel
theorem dX5_loadOne_11 : decode cX5_loadOne 11 = .ok (.if_icmp .ne 10, 3) := by decide +kernel
theorem dX5_loadOne_14 : decode cX5_loadOne 14 = .ok (.aload_n 0, 1) := by decide +kernel
theorem dX5_loadOne_15 : decode cX5_loadOne 15 = .ok (.invokevirtual 81, 3) := by decide +kernel
theorem dX5_loadOne_18 : decode cX5_loadOne 18 = .ok (.goto 4, 3) := by decide +kernel
theorem dX5_loadOne_21 : decode cX5_loadOne 21 = .ok (.iconst (-1), 1) := by decide +kernel
theorem dX5_loadOne_22 : decode cX5_loadOne 22 = .ok (.istore_n 3, 1) := by decide +kernel
theorem dX5_loadOne_23 : decode cX5_loadOne 23 = .ok (.aload_n 0, 1) := by decide +kernel
theorem dX5_loadOne_24 : decode cX5_loadOne 24 = .ok (.getfield 13, 3) := by decide +kernel
theorem dX5_loadOne_27 : decode cX5_loadOne 27 = .ok (.iconst 1, 1) := by decide +kernel
theorem dX5_loadOne_28 : decode cX5_loadOne 28 = .ok (.iaload, 1) := by decide +kernel
theorem dX5_loadOne_29 : decode cX5_loadOne 29 = .ok (.istore 4, 2) := by decide +kernel
theorem dX5_loadOne_31 : decode cX5_loadOne 31 = .ok (.aload_n 0, 1) := by decide +kernel
theorem dX5_loadOne_32 : decode cX5_loadOne 32 = .ok (.iload 4, 2) := by decide +kernel
theorem dX5_loadOne_34 : decode cX5_loadOne 34 = .ok (.iconst 0, 1) := by decide +kernel
theorem dX5_loadOne_35 : decode cX5_loadOne 35 = .ok (.iload_n 1, 1) := by decide +kernel
theorem dX5_loadOne_36 : decode cX5_loadOne 36 = .ok (.invokevirtual 74, 3) := by decide +kernel
theorem dX5_loadOne_39 : decode cX5_loadOne 39 = .ok (.aload_n 0, 1) := by decide +kernel
theorem dX5_loadOne_40 : decode cX5_loadOne 40 = .ok (.iload 4, 2) := by decide +kernel
theorem dX5_loadOne_42 : decode cX5_loadOne 42 = .ok (.iconst 1, 1) := by decide +kernel
theorem dX5_loadOne_43 : decode cX5_loadOne 43 = .ok (.iload_n 2, 1) := by decide +kernel
theorem dX5_loadOne_44 : decode cX5_loadOne 44 = .ok (.invokevirtual 74, 3) := by decide +kernel
theorem dX5_loadOne_47 : decode cX5_loadOne 47 = .ok (.aload_n 0, 1) := by decide +kernel
theorem dX5_loadOne_48 : decode cX5_loadOne 48 = .ok (.iload 4, 2) := by decide +kernel
theorem dX5_loadOne_50 : decode cX5_loadOne 50 = .ok (.iconst 2, 1) := by decide +kernel
theorem dX5_loadOne_51 : decode cX5_loadOne 51 = .ok (.iconst 0, 1) := by decide +kernel
theorem dX5_loadOne_52 : decode cX5_loadOne 52 = .ok (.invokevirtual 74, 3) := by decide +kernel
theorem dX5_loadOne_55 : decode cX5_loadOne 55 = .ok (.aload_n 0, 1) := by decide +kernel
theorem dX5_loadOne_56 : decode cX5_loadOne 56 = .ok (.iload 4, 2) := by decide +kernel
theorem dX5_loadOne_58 : decode cX5_loadOne 58 = .ok (.iconst 3, 1) := by decide +kernel
theorem dX5_loadOne_59 : decode cX5_loadOne 59 = .ok (.iconst (-1), 1) := by decide +kernel
theorem dX5_loadOne_60 : decode cX5_loadOne 60 = .ok (.invokevirtual 74, 3) := by decide +kernel
theorem dX5_loadOne_63 : decode cX5_loadOne 63 = .ok (.aload_n 0, 1) := by decide +kernel
theorem dX5_loadOne_64 : decode cX5_loadOne 64 = .ok (.getfield 13, 3) := by decide +kernel
theorem dX5_loadOne_67 : decode cX5_loadOne 67 = .ok (.iconst 1, 1) := by decide +kernel
theorem dX5_loadOne_68 : decode cX5_loadOne 68 = .ok (.dup2, 1) := by decide +kernel
theorem dX5_loadOne_69 : decode cX5_loadOne 69 = .ok (.iaload, 1) := by decide +kernel
theorem dX5_loadOne_70 : decode cX5_loadOne 70 = .ok (.iconst 1, 1) := by decide +kernel
theorem dX5_loadOne_71 : decode cX5_loadOne 71 = .ok (.iadd, 1) := by decide +kernel
theorem dX5_loadOne_72 : decode cX5_loadOne 72 = .ok (.iastore, 1) := by decide +kernel
theorem dX5_loadOne_73 : decode cX5_loadOne 73 = .ok (.iload_n 3, 1) := by decide +kernel
theorem dX5_loadOne_74 : decode cX5_loadOne 74 = .ok (.ireturn, 1) := by decide +kernel
set_option maxRecDepth 20000 in
theorem ggX5_emptyAll_X5_leastInBoat : GoodIn wsX5_emptyAll wsX5_leastInBoat := goodIn_r _ [6, 1, 7, 8, 9, 5, 10, 11, 12, 13, 14, 39, 40, 41, 42, 43, 44, 45, 46, 47, 48, 49, 50, 51] (by decide +kernel) (by decide +kernel)
set_option maxRecDepth 20000 in
theorem gX5_emptyAll_X5_leastInBoat : GoodIn wsX5_emptyAll (wsV RX5 64 RX5 yX5_leastInBoat wsX5_leastInBoat) := goodIn_app (goodIn_of _ (by decide +kernel)) ggX5_emptyAll_X5_leastInBoat
set_option maxRecDepth 20000 in
theorem ggX5_emptyAll_X5_throwOne : GoodIn wsX5_emptyAll wsX5_throwOne := goodIn_r _ [18, 1, 19, 20, 21, 5, 22, 23, 24, 25, 26, 27, 28, 29, 30, 7, 8, 9, 10, 11, 12, 13, 14, 2, 3, 4, 6, 31, 32, 33, 34, 35, 36, 37, 38, 39, 40, 41, 42, 43, 44, 45, 46, 47, 48, 49, 50, 51] (by decide +kernel) (by decide +kernel)
set_option maxRecDepth 20000 in
theorem gX5_emptyAll_X5_throwOne : GoodIn wsX5_emptyAll (wsV RX5 81 RX5 yX5_throwOne wsX5_throwOne) := goodIn_app (goodIn_of _ (by decide +kernel)) ggX5_emptyAll_X5_throwOne
theorem dX5_emptyAll_0 : decode cX5_emptyAll 0 = .ok (.aload_n 0, 1) := by decide +kernel
theorem dX5_emptyAll_1 : decode cX5_emptyAll 1 = .ok (.iconst (-1), 1) := by decide +kernel
theorem dX5_emptyAll_2 : decode cX5_emptyAll 2 = .ok (.invokevirtual 64, 3) := by decide +kernel
theorem dX5_emptyAll_5 : decode cX5_emptyAll 5 = .ok (.iconst (-1), 1) := by decide +kernel
theorem dX5_emptyAll_6 : decode cX5_emptyAll 6 = .ok (.if_icmp .eq 11, 3) := by decide +kernel
theorem dX5_emptyAll_9 : decode cX5_emptyAll 9 = .ok (.aload_n 0, 1) := by decide +kernel
theorem dX5_emptyAll_10 : decode cX5_emptyAll 10 = .ok (.invokevirtual 81, 3) := by decide +kernel
theorem dX5_emptyAll_13 : decode cX5_emptyAll 13 = .ok (.pop, 1) := by decide +kernel
theorem dX5_emptyAll_14 : decode cX5_emptyAll 14 = .ok (.goto (-14), 3) := by decide +kernel
theorem dX5_emptyAll_17 : decode cX5_emptyAll 17 = .ok (.aload_n 0, 1) := by decide +kernel
theorem dX5_emptyAll_18 : decode cX5_emptyAll 18 = .ok (.getfield 13, 3) := by decide +kernel
theorem dX5_emptyAll_21 : decode cX5_emptyAll 21 = .ok (.bipush 6, 2) := by decide +kernel
theorem dX5_emptyAll_23 : decode cX5_emptyAll 23 = .ok (.iconst (-1), 1) := by decide +kernel
theorem dX5_emptyAll_24 : decode cX5_emptyAll 24 = .ok (.iastore, 1) := by decide +kernel
theorem dX5_emptyAll_25 : decode cX5_emptyAll 25 = .ok (.return_, 1) := by decide +kernel
set_option maxRecDepth 20000 in
theorem ggX5_begin_X5_in : GoodIn wsX5_begin wsX5_in := goodIn_r _ [6] (by decide +kernel) (by decide +kernel)
set_option maxRecDepth 20000 in
theorem gX5_begin_X5_in : GoodIn wsX5_begin (va_wsS RX5 84 yX5_in wsX5_in) := goodIn_app (goodIn_of _ (by decide +kernel)) ggX5_begin_X5_in
set_option maxRecDepth 20000 in
theorem ggX5_begin_X5_save : GoodIn wsX5_begin wsX5_save := goodIn_r _ [10, 11, 12, 2, 17, 18, 19, 20, 21, 22, 23, 24, 25, 26, 27, 28, 29] (by decide +kernel) (by decide +kernel)
set_option maxRecDepth 20000 in
theorem gX5_begin_X5_save : GoodIn wsX5_begin (wsV RX5 88 RX5 yX5_save wsX5_save) := goodIn_app (goodIn_of _ (by decide +kernel)) ggX5_begin_X5_save
set_option maxRecDepth 20000 in
theorem ggX5_begin_X5_anew : GoodIn wsX5_begin wsX5_anew := goodIn_r _ [16, 2, 17, 18, 19, 20, 21, 22, 23, 24, 25, 26, 27, 28, 29] (by decide +kernel) (by decide +kernel)
set_option maxRecDepth 20000 in
theorem gX5_begin_X5_anew : GoodIn wsX5_begin (wsV RX5 36 RX5 yX5_anew wsX5_anew) := goodIn_app (goodIn_of _ (by decide +kernel)) ggX5_begin_X5_anew
theorem dX5_begin_0 : decode cX5_begin 0 = .ok (.aload_n 0, 1) := by decide +kernel
theorem dX5_begin_1 : decode cX5_begin 1 = .ok (.iload_n 1, 1) := by decide +kernel
theorem dX5_begin_2 : decode cX5_begin 2 = .ok (.iconst 1, 1) := by decide +kernel
theorem dX5_begin_3 : decode cX5_begin 3 = .ok (.bipush 12, 2) := by decide +kernel
theorem dX5_begin_5 : decode cX5_begin 5 = .ok (.invokestatic 84, 3) := by decide +kernel
theorem dX5_begin_8 : decode cX5_begin 8 = .ok (.ifCond .eq 7, 3) := by decide +kernel
theorem dX5_begin_11 : decode cX5_begin 11 = .ok (.iconst 0, 1) := by decide +kernel
theorem dX5_begin_12 : decode cX5_begin 12 = .ok (.goto 4, 3) := by decide +kernel
theorem dX5_begin_15 : decode cX5_begin 15 = .ok (.iconst 1, 1) := by decide +kernel
theorem dX5_begin_16 : decode cX5_begin 16 = .ok (.putfield 1, 3) := by decide +kernel
theorem dX5_begin_19 : decode cX5_begin 19 = .ok (.aload_n 0, 1) := by decide +kernel
theorem dX5_begin_20 : decode cX5_begin 20 = .ok (.getfield 1, 3) := by decide +kernel
theorem dX5_begin_23 : decode cX5_begin 23 = .ok (.ifCond .le 5, 3) := by decide +kernel
theorem dX5_begin_26 : decode cX5_begin 26 = .ok (.iconst 0, 1) := by decide +kernel
theorem dX5_begin_27 : decode cX5_begin 27 = .ok (.ireturn, 1) := by decide +kernel
theorem dX5_begin_28 : decode cX5_begin 28 = .ok (.aload_n 0, 1) := by decide +kernel
theorem dX5_begin_29 : decode cX5_begin 29 = .ok (.invokevirtual 88, 3) := by decide +kernel
theorem dX5_begin_32 : decode cX5_begin 32 = .ok (.aload_n 0, 1) := by decide +kernel
theorem dX5_begin_33 : decode cX5_begin 33 = .ok (.getfield 13, 3) := by decide +kernel
theorem dX5_begin_36 : decode cX5_begin 36 = .ok (.iconst 1, 1) := by decide +kernel
theorem dX5_begin_37 : decode cX5_begin 37 = .ok (.iaload, 1) := by decide +kernel
theorem dX5_begin_38 : decode cX5_begin 38 = .ok (.istore_n 2, 1) := by decide +kernel
theorem dX5_begin_39 : decode cX5_begin 39 = .ok (.aload_n 0, 1) := by decide +kernel
theorem dX5_begin_40 : decode cX5_begin 40 = .ok (.iload_n 1, 1) := by decide +kernel
theorem dX5_begin_41 : decode cX5_begin 41 = .ok (.invokevirtual 36, 3) := by decide +kernel
theorem dX5_begin_44 : decode cX5_begin 44 = .ok (.iload_n 2, 1) := by decide +kernel
theorem dX5_begin_45 : decode cX5_begin 45 = .ok (.ireturn, 1) := by decide +kernel
set_option maxRecDepth 20000 in
theorem ggX5_load_X5_in : GoodIn wsX5_load wsX5_in := goodIn_r _ [6] (by decide +kernel) (by decide +kernel)
set_option maxRecDepth 20000 in
theorem gX5_load_X5_in : GoodIn wsX5_load (va_wsS RX5 84 yX5_in wsX5_in) := goodIn_app (goodIn_of _ (by decide +kernel)) ggX5_load_X5_in
set_option maxRecDepth 20000 in
theorem ggX5_load_X5_save : GoodIn wsX5_load wsX5_save := goodIn_r _ [10, 11, 12, 1, 57, 58, 59, 60, 61, 62, 63, 64, 65, 66, 67, 68, 69] (by decide +kernel) (by decide +kernel)
set_option maxRecDepth 20000 in
theorem gX5_load_X5_save : GoodIn wsX5_load (wsV RX5 88 RX5 yX5_save wsX5_save) := goodIn_app (goodIn_of _ (by decide +kernel)) ggX5_load_X5_save
set_option maxRecDepth 20000 in
theorem ggX5_load_X5_loadOne : GoodIn wsX5_load wsX5_loadOne := goodIn_r _ [16, 1, 17, 18, 19, 5, 20, 21, 22, 23, 24, 25, 26, 27, 28, 29, 30, 31, 32, 33, 34, 35, 36, 37, 38, 39, 40, 41, 42, 43, 44, 45, 46, 47, 48, 49, 50, 51, 52, 53, 54, 55, 56, 57, 58, 59, 60, 61, 62, 63, 64, 65, 66, 67, 68, 69] (by decide +kernel) (by decide +kernel)
set_option maxRecDepth 20000 in
theorem gX5_load_X5_loadOne : GoodIn wsX5_load (wsV RX5 91 RX5 yX5_loadOne wsX5_loadOne) := goodIn_app (goodIn_of _ (by decide +kernel)) ggX5_load_X5_loadOne
theorem dX5_load_0 : decode cX5_load 0 = .ok (.aload_n 0, 1) := by decide +kernel
theorem dX5_load_1 : decode cX5_load 1 = .ok (.iload_n 1, 1) := by decide +kernel
theorem dX5_load_2 : decode cX5_load 2 = .ok (.iconst 0, 1) := by decide +kernel
theorem dX5_load_3 : decode cX5_load 3 = .ok (.sipush 999, 3) := by decide +kernel
theorem dX5_load_6 : decode cX5_load 6 = .ok (.invokestatic 84, 3) := by decide +kernel
theorem dX5_load_9 : decode cX5_load 9 = .ok (.ifCond .eq 13, 3) := by decide +kernel
theorem dX5_load_12 : decode cX5_load 12 = .ok (.iload_n 2, 1) := by decide +kernel
theorem dX5_load_13 : decode cX5_load 13 = .ok (.iconst 1, 1) := by decide +kernel
theorem dX5_load_14 : decode cX5_load 14 = .ok (.bipush 50, 2) := by decide +kernel
theorem dX5_load_16 : decode cX5_load 16 = .ok (.invokestatic 84, 3) := by decide +kernel
theorem dX5_load_19 : decode cX5_load 19 = .ok (.ifCond .ne 7, 3) := by decide +kernel
theorem dX5_load_22 : decode cX5_load 22 = .ok (.iconst 1, 1) := by decide +kernel
theorem dX5_load_23 : decode cX5_load 23 = .ok (.goto 19, 3) := by decide +kernel
theorem dX5_load_26 : decode cX5_load 26 = .ok (.aload_n 0, 1) := by decide +kernel
theorem dX5_load_27 : decode cX5_load 27 = .ok (.getfield 13, 3) := by decide +kernel
theorem dX5_load_30 : decode cX5_load 30 = .ok (.iconst 1, 1) := by decide +kernel
theorem dX5_load_31 : decode cX5_load 31 = .ok (.iaload, 1) := by decide +kernel
theorem dX5_load_32 : decode cX5_load 32 = .ok (.bipush 120, 2) := by decide +kernel
theorem dX5_load_34 : decode cX5_load 34 = .ok (.if_icmp .ne 7, 3) := by decide +kernel
theorem dX5_load_37 : decode cX5_load 37 = .ok (.iconst 2, 1) := by decide +kernel
theorem dX5_load_38 : decode cX5_load 38 = .ok (.goto 4, 3) := by decide +kernel
theorem dX5_load_41 : decode cX5_load 41 = .ok (.iconst 0, 1) := by decide +kernel
theorem dX5_load_42 : decode cX5_load 42 = .ok (.putfield 1, 3) := by decide +kernel
theorem dX5_load_45 : decode cX5_load 45 = .ok (.aload_n 0, 1) := by decide +kernel
theorem dX5_load_46 : decode cX5_load 46 = .ok (.getfield 1, 3) := by decide +kernel
theorem dX5_load_49 : decode cX5_load 49 = .ok (.ifCond .le 5, 3) := by decide +kernel
theorem dX5_load_52 : decode cX5_load 52 = .ok (.iconst 0, 1) := by decide +kernel
theorem dX5_load_53 : decode cX5_load 53 = .ok (.ireturn, 1) := by decide +kernel
theorem dX5_load_54 : decode cX5_load 54 = .ok (.aload_n 0, 1) := by decide +kernel
theorem dX5_load_55 : decode cX5_load 55 = .ok (.invokevirtual 88, 3) := by decide +kernel
theorem dX5_load_58 : decode cX5_load 58 = .ok (.aload_n 0, 1) := by decide +kernel
theorem dX5_load_59 : decode cX5_load 59 = .ok (.iload_n 1, 1) := by decide +kernel
theorem dX5_load_60 : decode cX5_load 60 = .ok (.iload_n 2, 1) := by decide +kernel
theorem dX5_load_61 : decode cX5_load 61 = .ok (.invokevirtual 91, 3) := by decide +kernel
theorem dX5_load_64 : decode cX5_load 64 = .ok (.ireturn, 1) := by decide +kernel
set_option maxRecDepth 20000 in
theorem ggX5_loadDrawn_X5_in : GoodIn wsX5_loadDrawn wsX5_in := goodIn_r _ [13] (by decide +kernel) (by decide +kernel)
set_option maxRecDepth 20000 in
theorem gX5_loadDrawn_X5_in : GoodIn wsX5_loadDrawn (va_wsS RX5 84 yX5_in wsX5_in) := goodIn_app (goodIn_of _ (by decide +kernel)) ggX5_loadDrawn_X5_in
set_option maxRecDepth 20000 in
theorem ggX5_loadDrawn_X5_save : GoodIn wsX5_loadDrawn wsX5_save := goodIn_r _ [17, 18, 19, 3, 64, 65, 66, 67, 68, 69, 70, 71, 72, 73, 74, 75, 76] (by decide +kernel) (by decide +kernel)
set_option maxRecDepth 20000 in
theorem gX5_loadDrawn_X5_save : GoodIn wsX5_loadDrawn (wsV RX5 88 RX5 yX5_save wsX5_save) := goodIn_app (goodIn_of _ (by decide +kernel)) ggX5_loadDrawn_X5_save
set_option maxRecDepth 20000 in
theorem ggX5_loadDrawn_X5_loadOne : GoodIn wsX5_loadDrawn wsX5_loadOne := goodIn_r _ [23, 3, 24, 25, 26, 12, 27, 28, 29, 30, 31, 32, 33, 34, 35, 36, 37, 38, 39, 40, 41, 42, 43, 44, 45, 46, 47, 48, 49, 50, 51, 52, 53, 54, 55, 56, 57, 58, 59, 60, 61, 62, 63, 64, 65, 66, 67, 68, 69, 70, 71, 72, 73, 74, 75, 76] (by decide +kernel) (by decide +kernel)
set_option maxRecDepth 20000 in
theorem gX5_loadDrawn_X5_loadOne : GoodIn wsX5_loadDrawn (wsV RX5 91 RX5 yX5_loadOne wsX5_loadOne) := goodIn_app (goodIn_of _ (by decide +kernel)) ggX5_loadDrawn_X5_loadOne
theorem dX5_loadDrawn_0 : decode cX5_loadDrawn 0 = .ok (.aload_n 0, 1) := by decide +kernel
theorem dX5_loadDrawn_1 : decode cX5_loadDrawn 1 = .ok (.iload_n 1, 1) := by decide +kernel
theorem dX5_loadDrawn_2 : decode cX5_loadDrawn 2 = .ok (.iconst 0, 1) := by decide +kernel
theorem dX5_loadDrawn_3 : decode cX5_loadDrawn 3 = .ok (.ldc 94, 2) := by decide +kernel
theorem dX5_loadDrawn_5 : decode cX5_loadDrawn 5 = .ok (.invokestatic 84, 3) := by decide +kernel
theorem dX5_loadDrawn_8 : decode cX5_loadDrawn 8 = .ok (.ifCond .eq 28, 3) := by decide +kernel
theorem dX5_loadDrawn_11 : decode cX5_loadDrawn 11 = .ok (.iload_n 2, 1) := by decide +kernel
theorem dX5_loadDrawn_12 : decode cX5_loadDrawn 12 = .ok (.iconst 1, 1) := by decide +kernel
theorem dX5_loadDrawn_13 : decode cX5_loadDrawn 13 = .ok (.bipush 60, 2) := by decide +kernel
theorem dX5_loadDrawn_15 : decode cX5_loadDrawn 15 = .ok (.invokestatic 84, 3) := by decide +kernel
theorem dX5_loadDrawn_18 : decode cX5_loadDrawn 18 = .ok (.ifCond .eq 18, 3) := by decide +kernel
theorem dX5_loadDrawn_21 : decode cX5_loadDrawn 21 = .ok (.iload_n 3, 1) := by decide +kernel
theorem dX5_loadDrawn_22 : decode cX5_loadDrawn 22 = .ok (.iconst 1, 1) := by decide +kernel
theorem dX5_loadDrawn_23 : decode cX5_loadDrawn 23 = .ok (.sipush 1000, 3) := by decide +kernel
theorem dX5_loadDrawn_26 : decode cX5_loadDrawn 26 = .ok (.invokestatic 84, 3) := by decide +kernel
theorem dX5_loadDrawn_29 : decode cX5_loadDrawn 29 = .ok (.ifCond .eq 7, 3) := by decide +kernel
theorem dX5_loadDrawn_32 : decode cX5_loadDrawn 32 = .ok (.iconst 0, 1) := by decide +kernel
theorem dX5_loadDrawn_33 : decode cX5_loadDrawn 33 = .ok (.goto 4, 3) := by decide +kernel
theorem dX5_loadDrawn_36 : decode cX5_loadDrawn 36 = .ok (.iconst 1, 1) := by decide +kernel
theorem dX5_loadDrawn_37 : decode cX5_loadDrawn 37 = .ok (.putfield 1, 3) := by decide +kernel
theorem dX5_loadDrawn_40 : decode cX5_loadDrawn 40 = .ok (.aload_n 0, 1) := by decide +kernel
theorem dX5_loadDrawn_41 : decode cX5_loadDrawn 41 = .ok (.getfield 1, 3) := by decide +kernel
theorem dX5_loadDrawn_44 : decode cX5_loadDrawn 44 = .ok (.ifCond .le 5, 3) := by decide +kernel
theorem dX5_loadDrawn_47 : decode cX5_loadDrawn 47 = .ok (.iconst 0, 1) := by decide +kernel
theorem dX5_loadDrawn_48 : decode cX5_loadDrawn 48 = .ok (.ireturn, 1) := by decide +kernel
theorem dX5_loadDrawn_49 : decode cX5_loadDrawn 49 = .ok (.aload_n 0, 1) := by decide +kernel
theorem dX5_loadDrawn_50 : decode cX5_loadDrawn 50 = .ok (.invokevirtual 88, 3) := by decide +kernel
theorem dX5_loadDrawn_53 : decode cX5_loadDrawn 53 = .ok (.iload_n 1, 1) := by decide +kernel
theorem dX5_loadDrawn_54 : decode cX5_loadDrawn 54 = .ok (.i2l, 1) := by decide +kernel
theorem dX5_loadDrawn_55 : decode cX5_loadDrawn 55 = .ok (.lstore 4, 2) := by decide +kernel
theorem dX5_loadDrawn_57 : decode cX5_loadDrawn 57 = .ok (.aload_n 0, 1) := by decide +kernel
theorem dX5_loadDrawn_58 : decode cX5_loadDrawn 58 = .ok (.getfield 13, 3) := by decide +kernel
theorem dX5_loadDrawn_61 : decode cX5_loadDrawn 61 = .ok (.iconst 1, 1) := by decide +kernel
theorem dX5_loadDrawn_62 : decode cX5_loadDrawn 62 = .ok (.iaload, 1) := by decide +kernel
theorem dX5_loadDrawn_63 : decode cX5_loadDrawn 63 = .ok (.istore 6, 2) := by decide +kernel
theorem dX5_loadDrawn_65 : decode cX5_loadDrawn 65 = .ok (.iconst 0, 1) := by decide +kernel
theorem dX5_loadDrawn_66 : decode cX5_loadDrawn 66 = .ok (.istore 7, 2) := by decide +kernel
theorem dX5_loadDrawn_68 : decode cX5_loadDrawn 68 = .ok (.iload 7, 2) := by decide +kernel
theorem dX5_loadDrawn_70 : decode cX5_loadDrawn 70 = .ok (.iload_n 2, 1) := by decide +kernel
theorem dX5_loadDrawn_71 : decode cX5_loadDrawn 71 = .ok (.if_icmp .ge 64, 3) := by decide +kernel
theorem dX5_loadDrawn_74 : decode cX5_loadDrawn 74 = .ok (.aload_n 0, 1) := by decide +kernel
theorem dX5_loadDrawn_75 : decode cX5_loadDrawn 75 = .ok (.getfield 13, 3) := by decide +kernel
theorem dX5_loadDrawn_78 : decode cX5_loadDrawn 78 = .ok (.iconst 1, 1) := by decide +kernel
theorem dX5_loadDrawn_79 : decode cX5_loadDrawn 79 = .ok (.iaload, 1) := by decide +kernel
theorem dX5_loadDrawn_80 : decode cX5_loadDrawn 80 = .ok (.bipush 120, 2) := by decide +kernel
theorem dX5_loadDrawn_82 : decode cX5_loadDrawn 82 = .ok (.if_icmp .ge 53, 3) := by decide +kernel
theorem dX5_loadDrawn_85 : decode cX5_loadDrawn 85 = .ok (.lload 4, 2) := by decide +kernel
theorem dX5_loadDrawn_87 : decode cX5_loadDrawn 87 = .ok (.ldc2_w 95, 3) := by decide +kernel
theorem dX5_loadDrawn_90 : decode cX5_loadDrawn 90 = .ok (.lmul, 1) := by decide +kernel
theorem dX5_loadDrawn_91 : decode cX5_loadDrawn 91 = .ok (.ldc2_w 97, 3) := by decide +kernel
theorem dX5_loadDrawn_94 : decode cX5_loadDrawn 94 = .ok (.ladd, 1) := by decide +kernel
theorem dX5_loadDrawn_95 : decode cX5_loadDrawn 95 = .ok (.ldc2_w 99, 3) := by decide +kernel
theorem dX5_loadDrawn_98 : decode cX5_loadDrawn 98 = .ok (.lrem, 1) := by decide +kernel
theorem dX5_loadDrawn_99 : decode cX5_loadDrawn 99 = .ok (.lstore 4, 2) := by decide +kernel
theorem dX5_loadDrawn_101 : decode cX5_loadDrawn 101 = .ok (.aload_n 0, 1) := by decide +kernel
theorem dX5_loadDrawn_102 : decode cX5_loadDrawn 102 = .ok (.lload 4, 2) := by decide +kernel
theorem dX5_loadDrawn_104 : decode cX5_loadDrawn 104 = .ok (.ldc2_w 101, 3) := by decide +kernel
theorem dX5_loadDrawn_107 : decode cX5_loadDrawn 107 = .ok (.ldiv, 1) := by decide +kernel
theorem dX5_loadDrawn_108 : decode cX5_loadDrawn 108 = .ok (.iload_n 3, 1) := by decide +kernel
theorem dX5_loadDrawn_109 : decode cX5_loadDrawn 109 = .ok (.i2l, 1) := by decide +kernel
theorem dX5_loadDrawn_110 : decode cX5_loadDrawn 110 = .ok (.lrem, 1) := by decide +kernel
theorem dX5_loadDrawn_111 : decode cX5_loadDrawn 111 = .ok (.l2i, 1) := by decide +kernel
theorem dX5_loadDrawn_112 : decode cX5_loadDrawn 112 = .ok (.lload 4, 2) := by decide +kernel
theorem dX5_loadDrawn_114 : decode cX5_loadDrawn 114 = .ok (.ldc2_w 103, 3) := by decide +kernel
theorem dX5_loadDrawn_117 : decode cX5_loadDrawn 117 = .ok (.ldiv, 1) := by decide +kernel
theorem dX5_loadDrawn_118 : decode cX5_loadDrawn 118 = .ok (.ldc2_w 105, 3) := by decide +kernel
theorem dX5_loadDrawn_121 : decode cX5_loadDrawn 121 = .ok (.lrem, 1) := by decide +kernel
theorem dX5_loadDrawn_122 : decode cX5_loadDrawn 122 = .ok (.l2i, 1) := by decide +kernel
theorem dX5_loadDrawn_123 : decode cX5_loadDrawn 123 = .ok (.iconst 1, 1) := by decide +kernel
theorem dX5_loadDrawn_124 : decode cX5_loadDrawn 124 = .ok (.iadd, 1) := by decide +kernel
theorem dX5_loadDrawn_125 : decode cX5_loadDrawn 125 = .ok (.invokevirtual 91, 3) := by decide +kernel
theorem dX5_loadDrawn_128 : decode cX5_loadDrawn 128 = .ok (.pop, 1) := by decide +kernel
theorem dX5_loadDrawn_129 : decode cX5_loadDrawn 129 = .ok (.iinc 7 1, 3) := by decide +kernel
theorem dX5_loadDrawn_132 : decode cX5_loadDrawn 132 = .ok (.goto (-64), 3) := by decide +kernel
theorem dX5_loadDrawn_135 : decode cX5_loadDrawn 135 = .ok (.aload_n 0, 1) := by decide +kernel
theorem dX5_loadDrawn_136 : decode cX5_loadDrawn 136 = .ok (.getfield 13, 3) := by decide +kernel
theorem dX5_loadDrawn_139 : decode cX5_loadDrawn 139 = .ok (.iconst 1, 1) := by decide +kernel
theorem dX5_loadDrawn_140 : decode cX5_loadDrawn 140 = .ok (.iaload, 1) := by decide +kernel
theorem dX5_loadDrawn_141 : decode cX5_loadDrawn 141 = .ok (.iload 6, 2) := by decide +kernel
theorem dX5_loadDrawn_143 : decode cX5_loadDrawn 143 = .ok (.isub, 1) := by decide +kernel
theorem dX5_loadDrawn_144 : decode cX5_loadDrawn 144 = .ok (.ireturn, 1) := by decide +kernel
set_option maxRecDepth 20000 in
theorem ggX5_empty_X5_save : GoodIn wsX5_empty wsX5_save := goodIn_r _ [7, 8, 9, 2, 50, 51, 52, 53, 54, 55, 56, 57, 58, 59, 60, 61, 62] (by decide +kernel) (by decide +kernel)
set_option maxRecDepth 20000 in
theorem gX5_empty_X5_save : GoodIn wsX5_empty (wsV RX5 88 RX5 yX5_save wsX5_save) := goodIn_app (goodIn_of _ (by decide +kernel)) ggX5_empty_X5_save
set_option maxRecDepth 20000 in
theorem ggX5_empty_X5_emptyAll : GoodIn wsX5_empty wsX5_emptyAll := goodIn_r _ [13, 2, 14, 15, 16, 6, 17, 18, 19, 20, 21, 22, 23, 24, 25, 26, 27, 28, 29, 30, 31, 32, 33, 34, 35, 36, 37, 38, 39, 40, 41, 42, 43, 44, 45, 46, 47, 48, 49, 50, 51, 52, 53, 54, 55, 56, 57, 58, 59, 60, 61, 62] (by decide +kernel) (by decide +kernel)
set_option maxRecDepth 20000 in
theorem gX5_empty_X5_emptyAll : GoodIn wsX5_empty (wsV RX5 107 RX5 yX5_emptyAll wsX5_emptyAll) := goodIn_app (goodIn_of _ (by decide +kernel)) ggX5_empty_X5_emptyAll
theorem dX5_empty_0 : decode cX5_empty 0 = .ok (.aload_n 0, 1) := by decide +kernel
theorem dX5_empty_1 : decode cX5_empty 1 = .ok (.iconst 0, 1) := by decide +kernel
theorem dX5_empty_2 : decode cX5_empty 2 = .ok (.putfield 1, 3) := by decide +kernel
theorem dX5_empty_5 : decode cX5_empty 5 = .ok (.aload_n 0, 1) := by decide +kernel
theorem dX5_empty_6 : decode cX5_empty 6 = .ok (.invokevirtual 88, 3) := by decide +kernel
theorem dX5_empty_9 : decode cX5_empty 9 = .ok (.aload_n 0, 1) := by decide +kernel
theorem dX5_empty_10 : decode cX5_empty 10 = .ok (.invokevirtual 107, 3) := by decide +kernel
theorem dX5_empty_13 : decode cX5_empty 13 = .ok (.aload_n 0, 1) := by decide +kernel
theorem dX5_empty_14 : decode cX5_empty 14 = .ok (.getfield 13, 3) := by decide +kernel
theorem dX5_empty_17 : decode cX5_empty 17 = .ok (.bipush 8, 2) := by decide +kernel
theorem dX5_empty_19 : decode cX5_empty 19 = .ok (.iaload, 1) := by decide +kernel
theorem dX5_empty_20 : decode cX5_empty 20 = .ok (.ireturn, 1) := by decide +kernel
set_option maxRecDepth 20000 in
theorem ggX5_mergeBoth_X5_isOf : GoodIn wsX5_mergeBoth wsX5_isOf := goodIn_r _ [6, 7, 8, 9, 5, 10, 1, 31, 32, 33, 34, 35, 36, 37, 38, 39, 40, 41, 42, 43] (by decide +kernel) (by decide +kernel)
set_option maxRecDepth 20000 in
theorem gX5_mergeBoth_X5_isOf : GoodIn wsX5_mergeBoth (wsV RX5 48 RX5 yX5_isOf wsX5_isOf) := goodIn_app (goodIn_of _ (by decide +kernel)) ggX5_mergeBoth_X5_isOf
set_option maxRecDepth 20000 in
theorem ggX5_mergeBoth_X5_be : GoodIn wsX5_mergeBoth wsX5_be := goodIn_r _ [14, 1, 31, 32, 33, 34, 35, 36, 37, 38, 39, 40, 41, 42, 43] (by decide +kernel) (by decide +kernel)
set_option maxRecDepth 20000 in
theorem gX5_mergeBoth_X5_be : GoodIn wsX5_mergeBoth (wsV RX5 74 RX5 yX5_be wsX5_be) := goodIn_app (goodIn_of _ (by decide +kernel)) ggX5_mergeBoth_X5_be
set_option maxRecDepth 20000 in
theorem ggX5_mergeBoth_X5_placeOf : GoodIn wsX5_mergeBoth wsX5_placeOf := goodIn_r _ [18, 1, 19, 20, 21, 5, 22, 31, 32, 33, 34, 35, 36, 37, 38, 39, 40, 41, 42, 43] (by decide +kernel) (by decide +kernel)
set_option maxRecDepth 20000 in
theorem gX5_mergeBoth_X5_placeOf : GoodIn wsX5_mergeBoth (wsV RX5 110 RX5 yX5_placeOf wsX5_placeOf) := goodIn_app (goodIn_of _ (by decide +kernel)) ggX5_mergeBoth_X5_placeOf
set_option maxRecDepth 20000 in
theorem ggX5_mergeBoth_X5_dropRun : GoodIn wsX5_mergeBoth wsX5_dropRun := goodIn_r _ [26, 1, 31, 32, 33, 34, 35, 36, 37, 38, 39, 40, 41, 42, 43] (by decide +kernel) (by decide +kernel)
set_option maxRecDepth 20000 in
theorem gX5_mergeBoth_X5_dropRun : GoodIn wsX5_mergeBoth (wsV RX5 113 RX5 yX5_dropRun wsX5_dropRun) := goodIn_app (goodIn_of _ (by decide +kernel)) ggX5_mergeBoth_X5_dropRun
set_option maxRecDepth 20000 in
theorem ggX5_mergeBoth_X5_weightOf : GoodIn wsX5_mergeBoth wsX5_weightOf := goodIn_r _ [30, 1, 2, 3, 4, 5, 6, 7, 8, 9, 10, 31, 32, 33, 34, 35, 36, 37, 38, 39, 40, 41, 42, 43] (by decide +kernel) (by decide +kernel)
set_option maxRecDepth 20000 in
theorem gX5_mergeBoth_X5_weightOf : GoodIn wsX5_mergeBoth (wsV RX5 116 RX5 yX5_weightOf wsX5_weightOf) := goodIn_app (goodIn_of _ (by decide +kernel)) ggX5_mergeBoth_X5_weightOf
theorem dX5_mergeBoth_0 : decode cX5_mergeBoth 0 = .ok (.iload_n 1, 1) := by decide +kernel
theorem dX5_mergeBoth_1 : decode cX5_mergeBoth 1 = .ok (.iload_n 2, 1) := by decide +kernel
theorem dX5_mergeBoth_2 : decode cX5_mergeBoth 2 = .ok (.if_icmp .ge 7, 3) := by decide +kernel
theorem dX5_mergeBoth_5 : decode cX5_mergeBoth 5 = .ok (.iload_n 1, 1) := by decide +kernel
theorem dX5_mergeBoth_6 : decode cX5_mergeBoth 6 = .ok (.goto 4, 3) := by decide +kernel
theorem dX5_mergeBoth_9 : decode cX5_mergeBoth 9 = .ok (.iload_n 2, 1) := by decide +kernel
theorem dX5_mergeBoth_10 : decode cX5_mergeBoth 10 = .ok (.istore_n 3, 1) := by decide +kernel
theorem dX5_mergeBoth_11 : decode cX5_mergeBoth 11 = .ok (.iload_n 1, 1) := by decide +kernel
theorem dX5_mergeBoth_12 : decode cX5_mergeBoth 12 = .ok (.iload_n 2, 1) := by decide +kernel
theorem dX5_mergeBoth_13 : decode cX5_mergeBoth 13 = .ok (.if_icmp .ge 7, 3) := by decide +kernel
theorem dX5_mergeBoth_16 : decode cX5_mergeBoth 16 = .ok (.iload_n 2, 1) := by decide +kernel
theorem dX5_mergeBoth_17 : decode cX5_mergeBoth 17 = .ok (.goto 4, 3) := by decide +kernel
theorem dX5_mergeBoth_20 : decode cX5_mergeBoth 20 = .ok (.iload_n 1, 1) := by decide +kernel
theorem dX5_mergeBoth_21 : decode cX5_mergeBoth 21 = .ok (.istore 4, 2) := by decide +kernel
theorem dX5_mergeBoth_23 : decode cX5_mergeBoth 23 = .ok (.iconst 0, 1) := by decide +kernel
theorem dX5_mergeBoth_24 : decode cX5_mergeBoth 24 = .ok (.istore 5, 2) := by decide +kernel
theorem dX5_mergeBoth_26 : decode cX5_mergeBoth 26 = .ok (.iload 5, 2) := by decide +kernel
theorem dX5_mergeBoth_28 : decode cX5_mergeBoth 28 = .ok (.aload_n 0, 1) := by decide +kernel
theorem dX5_mergeBoth_29 : decode cX5_mergeBoth 29 = .ok (.getfield 13, 3) := by decide +kernel
theorem dX5_mergeBoth_32 : decode cX5_mergeBoth 32 = .ok (.iconst 1, 1) := by decide +kernel
theorem dX5_mergeBoth_33 : decode cX5_mergeBoth 33 = .ok (.iaload, 1) := by decide +kernel
theorem dX5_mergeBoth_34 : decode cX5_mergeBoth 34 = .ok (.if_icmp .ge 28, 3) := by decide +kernel
theorem dX5_mergeBoth_37 : decode cX5_mergeBoth 37 = .ok (.aload_n 0, 1) := by decide +kernel
theorem dX5_mergeBoth_38 : decode cX5_mergeBoth 38 = .ok (.iload 5, 2) := by decide +kernel
theorem dX5_mergeBoth_40 : decode cX5_mergeBoth 40 = .ok (.iload 4, 2) := by decide +kernel
theorem dX5_mergeBoth_42 : decode cX5_mergeBoth 42 = .ok (.invokevirtual 48, 3) := by decide +kernel
theorem dX5_mergeBoth_45 : decode cX5_mergeBoth 45 = .ok (.ifCond .eq 11, 3) := by decide +kernel
theorem dX5_mergeBoth_48 : decode cX5_mergeBoth 48 = .ok (.aload_n 0, 1) := by decide +kernel
theorem dX5_mergeBoth_49 : decode cX5_mergeBoth 49 = .ok (.iload 5, 2) := by decide +kernel
theorem dX5_mergeBoth_51 : decode cX5_mergeBoth 51 = .ok (.iconst 3, 1) := by decide +kernel
theorem dX5_mergeBoth_52 : decode cX5_mergeBoth 52 = .ok (.iload_n 3, 1) := by decide +kernel
theorem dX5_mergeBoth_53 : decode cX5_mergeBoth 53 = .ok (.invokevirtual 74, 3) := by decide +kernel
theorem dX5_mergeBoth_56 : decode cX5_mergeBoth 56 = .ok (.iinc 5 1, 3) := by decide +kernel
theorem dX5_mergeBoth_59 : decode cX5_mergeBoth 59 = .ok (.goto (-33), 3) := by decide +kernel
theorem dX5_mergeBoth_62 : decode cX5_mergeBoth 62 = .ok (.aload_n 0, 1) := by decide +kernel
theorem dX5_mergeBoth_63 : decode cX5_mergeBoth 63 = .ok (.aload_n 0, 1) := by decide +kernel
theorem dX5_mergeBoth_64 : decode cX5_mergeBoth 64 = .ok (.iload 4, 2) := by decide +kernel
theorem dX5_mergeBoth_66 : decode cX5_mergeBoth 66 = .ok (.invokevirtual 110, 3) := by decide +kernel
theorem dX5_mergeBoth_69 : decode cX5_mergeBoth 69 = .ok (.invokevirtual 113, 3) := by decide +kernel
theorem dX5_mergeBoth_72 : decode cX5_mergeBoth 72 = .ok (.aload_n 0, 1) := by decide +kernel
theorem dX5_mergeBoth_73 : decode cX5_mergeBoth 73 = .ok (.getfield 13, 3) := by decide +kernel
theorem dX5_mergeBoth_76 : decode cX5_mergeBoth 76 = .ok (.bipush 6, 2) := by decide +kernel
theorem dX5_mergeBoth_78 : decode cX5_mergeBoth 78 = .ok (.aload_n 0, 1) := by decide +kernel
theorem dX5_mergeBoth_79 : decode cX5_mergeBoth 79 = .ok (.getfield 13, 3) := by decide +kernel
theorem dX5_mergeBoth_82 : decode cX5_mergeBoth 82 = .ok (.bipush 6, 2) := by decide +kernel
theorem dX5_mergeBoth_84 : decode cX5_mergeBoth 84 = .ok (.iaload, 1) := by decide +kernel
theorem dX5_mergeBoth_85 : decode cX5_mergeBoth 85 = .ok (.iload_n 3, 1) := by decide +kernel
theorem dX5_mergeBoth_86 : decode cX5_mergeBoth 86 = .ok (.if_icmp .eq 15, 3) := by decide +kernel
theorem dX5_mergeBoth_89 : decode cX5_mergeBoth 89 = .ok (.aload_n 0, 1) := by decide +kernel
theorem dX5_mergeBoth_90 : decode cX5_mergeBoth 90 = .ok (.getfield 13, 3) := by decide +kernel
theorem dX5_mergeBoth_93 : decode cX5_mergeBoth 93 = .ok (.bipush 6, 2) := by decide +kernel
theorem dX5_mergeBoth_95 : decode cX5_mergeBoth 95 = .ok (.iaload, 1) := by decide +kernel
theorem dX5_mergeBoth_96 : decode cX5_mergeBoth 96 = .ok (.iload 4, 2) := by decide +kernel
theorem dX5_mergeBoth_98 : decode cX5_mergeBoth 98 = .ok (.if_icmp .ne 7, 3) := by decide +kernel
theorem dX5_mergeBoth_101 : decode cX5_mergeBoth 101 = .ok (.iconst (-1), 1) := by decide +kernel
theorem dX5_mergeBoth_102 : decode cX5_mergeBoth 102 = .ok (.goto 10, 3) := by decide +kernel
theorem dX5_mergeBoth_105 : decode cX5_mergeBoth 105 = .ok (.aload_n 0, 1) := by decide +kernel
theorem dX5_mergeBoth_106 : decode cX5_mergeBoth 106 = .ok (.getfield 13, 3) := by decide +kernel
theorem dX5_mergeBoth_109 : decode cX5_mergeBoth 109 = .ok (.bipush 6, 2) := by decide +kernel
theorem dX5_mergeBoth_111 : decode cX5_mergeBoth 111 = .ok (.iaload, 1) := by decide +kernel
theorem dX5_mergeBoth_112 : decode cX5_mergeBoth 112 = .ok (.iastore, 1) := by decide +kernel
theorem dX5_mergeBoth_113 : decode cX5_mergeBoth 113 = .ok (.aload_n 0, 1) := by decide +kernel
theorem dX5_mergeBoth_114 : decode cX5_mergeBoth 114 = .ok (.iload_n 3, 1) := by decide +kernel
theorem dX5_mergeBoth_115 : decode cX5_mergeBoth 115 = .ok (.invokevirtual 116, 3) := by decide +kernel
theorem dX5_mergeBoth_118 : decode cX5_mergeBoth 118 = .ok (.istore 5, 2) := by decide +kernel
theorem dX5_mergeBoth_120 : decode cX5_mergeBoth 120 = .ok (.aload_n 0, 1) := by decide +kernel
theorem dX5_mergeBoth_121 : decode cX5_mergeBoth 121 = .ok (.getfield 13, 3) := by decide +kernel
theorem dX5_mergeBoth_124 : decode cX5_mergeBoth 124 = .ok (.iconst 2, 1) := by decide +kernel
theorem dX5_mergeBoth_125 : decode cX5_mergeBoth 125 = .ok (.dup2, 1) := by decide +kernel
theorem dX5_mergeBoth_126 : decode cX5_mergeBoth 126 = .ok (.iaload, 1) := by decide +kernel
theorem dX5_mergeBoth_127 : decode cX5_mergeBoth 127 = .ok (.iload 5, 2) := by decide +kernel
theorem dX5_mergeBoth_129 : decode cX5_mergeBoth 129 = .ok (.iadd, 1) := by decide +kernel
theorem dX5_mergeBoth_130 : decode cX5_mergeBoth 130 = .ok (.iastore, 1) := by decide +kernel
theorem dX5_mergeBoth_131 : decode cX5_mergeBoth 131 = .ok (.aload_n 0, 1) := by decide +kernel
theorem dX5_mergeBoth_132 : decode cX5_mergeBoth 132 = .ok (.getfield 13, 3) := by decide +kernel
theorem dX5_mergeBoth_135 : decode cX5_mergeBoth 135 = .ok (.iconst 3, 1) := by decide +kernel
theorem dX5_mergeBoth_136 : decode cX5_mergeBoth 136 = .ok (.dup2, 1) := by decide +kernel
theorem dX5_mergeBoth_137 : decode cX5_mergeBoth 137 = .ok (.iaload, 1) := by decide +kernel
theorem dX5_mergeBoth_138 : decode cX5_mergeBoth 138 = .ok (.iconst 1, 1) := by decide +kernel
theorem dX5_mergeBoth_139 : decode cX5_mergeBoth 139 = .ok (.iadd, 1) := by decide +kernel
theorem dX5_mergeBoth_140 : decode cX5_mergeBoth 140 = .ok (.iastore, 1) := by decide +kernel
theorem dX5_mergeBoth_141 : decode cX5_mergeBoth 141 = .ok (.iload 5, 2) := by decide +kernel
theorem dX5_mergeBoth_143 : decode cX5_mergeBoth 143 = .ok (.ireturn, 1) := by decide +kernel
set_option maxRecDepth 20000 in
theorem ggX5_whyNoMerge_X5_placeOf : GoodIn wsX5_whyNoMerge wsX5_placeOf := goodIn_r _ [5, 6, 7, 8, 9, 4, 10, 11, 12, 13, 14, 15, 16, 17, 18, 19, 20, 21, 22, 23] (by decide +kernel) (by decide +kernel)
set_option maxRecDepth 20000 in
theorem gX5_whyNoMerge_X5_placeOf : GoodIn wsX5_whyNoMerge (wsV RX5 110 RX5 yX5_placeOf wsX5_placeOf) := goodIn_app (goodIn_of _ (by decide +kernel)) ggX5_whyNoMerge_X5_placeOf
theorem dX5_whyNoMerge_0 : decode cX5_whyNoMerge 0 = .ok (.aload_n 0, 1) := by decide +kernel
theorem dX5_whyNoMerge_1 : decode cX5_whyNoMerge 1 = .ok (.iload_n 1, 1) := by decide +kernel
theorem dX5_whyNoMerge_2 : decode cX5_whyNoMerge 2 = .ok (.invokevirtual 110, 3) := by decide +kernel
theorem dX5_whyNoMerge_5 : decode cX5_whyNoMerge 5 = .ok (.iconst (-1), 1) := by decide +kernel
theorem dX5_whyNoMerge_6 : decode cX5_whyNoMerge 6 = .ok (.if_icmp .eq 12, 3) := by decide +kernel
theorem dX5_whyNoMerge_9 : decode cX5_whyNoMerge 9 = .ok (.aload_n 0, 1) := by decide +kernel
theorem dX5_whyNoMerge_10 : decode cX5_whyNoMerge 10 = .ok (.iload_n 2, 1) := by decide +kernel
theorem dX5_whyNoMerge_11 : decode cX5_whyNoMerge 11 = .ok (.invokevirtual 110, 3) := by decide +kernel
theorem dX5_whyNoMerge_14 : decode cX5_whyNoMerge 14 = .ok (.iconst (-1), 1) := by decide +kernel
theorem dX5_whyNoMerge_15 : decode cX5_whyNoMerge 15 = .ok (.if_icmp .ne 7, 3) := by decide +kernel
theorem dX5_whyNoMerge_18 : decode cX5_whyNoMerge 18 = .ok (.iconst 1, 1) := by decide +kernel
theorem dX5_whyNoMerge_19 : decode cX5_whyNoMerge 19 = .ok (.goto 13, 3) := by decide +kernel
theorem dX5_whyNoMerge_22 : decode cX5_whyNoMerge 22 = .ok (.iload_n 1, 1) := by decide +kernel
theorem dX5_whyNoMerge_23 : decode cX5_whyNoMerge 23 = .ok (.iload_n 2, 1) := by decide +kernel
theorem dX5_whyNoMerge_24 : decode cX5_whyNoMerge 24 = .ok (.if_icmp .ne 7, 3) := by decide +kernel
theorem dX5_whyNoMerge_27 : decode cX5_whyNoMerge 27 = .ok (.iconst 2, 1) := by decide +kernel
theorem dX5_whyNoMerge_28 : decode cX5_whyNoMerge 28 = .ok (.goto 4, 3) := by decide +kernel
theorem dX5_whyNoMerge_31 : decode cX5_whyNoMerge 31 = .ok (.iconst 0, 1) := by decide +kernel
theorem dX5_whyNoMerge_32 : decode cX5_whyNoMerge 32 = .ok (.ireturn, 1) := by decide +kernel
set_option maxRecDepth 20000 in
theorem ggX5_merge_X5_whyNoMerge : GoodIn wsX5_merge wsX5_whyNoMerge := goodIn_r _ [6, 7, 8, 9, 5, 10, 11, 12, 13, 14, 15, 46, 47, 48, 49, 50, 51, 52, 53, 54, 55, 56, 57, 58] (by decide +kernel) (by decide +kernel)
set_option maxRecDepth 20000 in
theorem gX5_merge_X5_whyNoMerge : GoodIn wsX5_merge (wsV RX5 119 RX5 yX5_whyNoMerge wsX5_whyNoMerge) := goodIn_app (goodIn_of _ (by decide +kernel)) ggX5_merge_X5_whyNoMerge
set_option maxRecDepth 20000 in
theorem ggX5_merge_X5_save : GoodIn wsX5_merge wsX5_save := goodIn_r _ [19, 20, 21, 11, 46, 47, 48, 49, 50, 51, 52, 53, 54, 55, 56, 57, 58] (by decide +kernel) (by decide +kernel)
set_option maxRecDepth 20000 in
theorem gX5_merge_X5_save : GoodIn wsX5_merge (wsV RX5 88 RX5 yX5_save wsX5_save) := goodIn_app (goodIn_of _ (by decide +kernel)) ggX5_merge_X5_save
set_option maxRecDepth 20000 in
theorem ggX5_merge_X5_mergeBoth : GoodIn wsX5_merge wsX5_mergeBoth := goodIn_r _ [25, 11, 26, 27, 28, 5, 29, 30, 31, 32, 33, 34, 35, 36, 37, 7, 8, 9, 10, 12, 13, 14, 15, 38, 39, 40, 41, 42, 43, 44, 45, 46, 47, 48, 49, 50, 51, 52, 53, 54, 55, 56, 57, 58] (by decide +kernel) (by decide +kernel)
set_option maxRecDepth 20000 in
theorem gX5_merge_X5_mergeBoth : GoodIn wsX5_merge (wsV RX5 122 RX5 yX5_mergeBoth wsX5_mergeBoth) := goodIn_app (goodIn_of _ (by decide +kernel)) ggX5_merge_X5_mergeBoth
theorem dX5_merge_0 : decode cX5_merge 0 = .ok (.aload_n 0, 1) := by decide +kernel
theorem dX5_merge_1 : decode cX5_merge 1 = .ok (.aload_n 0, 1) := by decide +kernel
theorem dX5_merge_2 : decode cX5_merge 2 = .ok (.iload_n 1, 1) := by decide +kernel
theorem dX5_merge_3 : decode cX5_merge 3 = .ok (.iload_n 2, 1) := by decide +kernel
theorem dX5_merge_4 : decode cX5_merge 4 = .ok (.invokevirtual 119, 3) := by decide +kernel
theorem dX5_merge_7 : decode cX5_merge 7 = .ok (.putfield 1, 3) := by decide +kernel
theorem dX5_merge_10 : decode cX5_merge 10 = .ok (.aload_n 0, 1) := by decide +kernel
theorem dX5_merge_11 : decode cX5_merge 11 = .ok (.getfield 1, 3) := by decide +kernel
theorem dX5_merge_14 : decode cX5_merge 14 = .ok (.ifCond .le 5, 3) := by decide +kernel
theorem dX5_merge_17 : decode cX5_merge 17 = .ok (.iconst 0, 1) := by decide +kernel
theorem dX5_merge_18 : decode cX5_merge 18 = .ok (.ireturn, 1) := by decide +kernel
theorem dX5_merge_19 : decode cX5_merge 19 = .ok (.aload_n 0, 1) := by decide +kernel
theorem dX5_merge_20 : decode cX5_merge 20 = .ok (.invokevirtual 88, 3) := by decide +kernel
theorem dX5_merge_23 : decode cX5_merge 23 = .ok (.aload_n 0, 1) := by decide +kernel
theorem dX5_merge_24 : decode cX5_merge 24 = .ok (.iload_n 1, 1) := by decide +kernel
theorem dX5_merge_25 : decode cX5_merge 25 = .ok (.iload_n 2, 1) := by decide +kernel
theorem dX5_merge_26 : decode cX5_merge 26 = .ok (.invokevirtual 122, 3) := by decide +kernel
theorem dX5_merge_29 : decode cX5_merge 29 = .ok (.ireturn, 1) := by decide +kernel
set_option maxRecDepth 20000 in
theorem ggX5_lightest_X5_numberAt : GoodIn wsX5_lightest wsX5_numberAt := goodIn_r _ [6, 1, 19, 20, 21, 22, 23, 24, 25, 26, 27, 28, 29, 30, 31] (by decide +kernel) (by decide +kernel)
set_option maxRecDepth 20000 in
theorem gX5_lightest_X5_numberAt : GoodIn wsX5_lightest (wsV RX5 40 RX5 yX5_numberAt wsX5_numberAt) := goodIn_app (goodIn_of _ (by decide +kernel)) ggX5_lightest_X5_numberAt
set_option maxRecDepth 20000 in
theorem ggX5_lightest_X5_weightOf : GoodIn wsX5_lightest wsX5_weightOf := goodIn_r _ [10, 1, 11, 12, 13, 5, 14, 15, 16, 17, 18, 19, 20, 21, 22, 23, 24, 25, 26, 27, 28, 29, 30, 31] (by decide +kernel) (by decide +kernel)
set_option maxRecDepth 20000 in
theorem gX5_lightest_X5_weightOf : GoodIn wsX5_lightest (wsV RX5 116 RX5 yX5_weightOf wsX5_weightOf) := goodIn_app (goodIn_of _ (by decide +kernel)) ggX5_lightest_X5_weightOf
theorem dX5_lightest_0 : decode cX5_lightest 0 = .ok (.iconst (-1), 1) := by decide +kernel
theorem dX5_lightest_1 : decode cX5_lightest 1 = .ok (.istore_n 2, 1) := by decide +kernel
theorem dX5_lightest_2 : decode cX5_lightest 2 = .ok (.iconst 0, 1) := by decide +kernel
theorem dX5_lightest_3 : decode cX5_lightest 3 = .ok (.istore_n 3, 1) := by decide +kernel
theorem dX5_lightest_4 : decode cX5_lightest 4 = .ok (.iload_n 3, 1) := by decide +kernel
theorem dX5_lightest_5 : decode cX5_lightest 5 = .ok (.aload_n 0, 1) := by decide +kernel
theorem dX5_lightest_6 : decode cX5_lightest 6 = .ok (.getfield 13, 3) := by decide +kernel
theorem dX5_lightest_9 : decode cX5_lightest 9 = .ok (.bipush 8, 2) := by decide +kernel
theorem dX5_lightest_11 : decode cX5_lightest 11 = .ok (.iaload, 1) := by decide +kernel
theorem dX5_lightest_12 : decode cX5_lightest 12 = .ok (.if_icmp .ge 62, 3) := by decide +kernel
theorem dX5_lightest_15 : decode cX5_lightest 15 = .ok (.aload_n 0, 1) := by decide +kernel
theorem dX5_lightest_16 : decode cX5_lightest 16 = .ok (.iload_n 3, 1) := by decide +kernel
theorem dX5_lightest_17 : decode cX5_lightest 17 = .ok (.invokevirtual 40, 3) := by decide +kernel
theorem dX5_lightest_20 : decode cX5_lightest 20 = .ok (.iload_n 1, 1) := by decide +kernel
theorem dX5_lightest_21 : decode cX5_lightest 21 = .ok (.if_icmp .eq 29, 3) := by decide +kernel
theorem dX5_lightest_24 : decode cX5_lightest 24 = .ok (.iload_n 2, 1) := by decide +kernel
theorem dX5_lightest_25 : decode cX5_lightest 25 = .ok (.iconst (-1), 1) := by decide +kernel
theorem dX5_lightest_26 : decode cX5_lightest 26 = .ok (.if_icmp .eq 20, 3) := by decide +kernel
theorem dX5_lightest_29 : decode cX5_lightest 29 = .ok (.aload_n 0, 1) := by decide +kernel
theorem dX5_lightest_30 : decode cX5_lightest 30 = .ok (.aload_n 0, 1) := by decide +kernel
theorem dX5_lightest_31 : decode cX5_lightest 31 = .ok (.iload_n 3, 1) := by decide +kernel
theorem dX5_lightest_32 : decode cX5_lightest 32 = .ok (.invokevirtual 40, 3) := by decide +kernel
theorem dX5_lightest_35 : decode cX5_lightest 35 = .ok (.invokevirtual 116, 3) := by decide +kernel
theorem dX5_lightest_38 : decode cX5_lightest 38 = .ok (.aload_n 0, 1) := by decide +kernel
theorem dX5_lightest_39 : decode cX5_lightest 39 = .ok (.iload_n 2, 1) := by decide +kernel
theorem dX5_lightest_40 : decode cX5_lightest 40 = .ok (.invokevirtual 116, 3) := by decide +kernel
theorem dX5_lightest_43 : decode cX5_lightest 43 = .ok (.if_icmp .ge 7, 3) := by decide +kernel
theorem dX5_lightest_46 : decode cX5_lightest 46 = .ok (.iconst 1, 1) := by decide +kernel
theorem dX5_lightest_47 : decode cX5_lightest 47 = .ok (.goto 4, 3) := by decide +kernel
theorem dX5_lightest_50 : decode cX5_lightest 50 = .ok (.iconst 0, 1) := by decide +kernel
theorem dX5_lightest_51 : decode cX5_lightest 51 = .ok (.istore 4, 2) := by decide +kernel
theorem dX5_lightest_53 : decode cX5_lightest 53 = .ok (.iload 4, 2) := by decide +kernel
theorem dX5_lightest_55 : decode cX5_lightest 55 = .ok (.ifCond .eq 11, 3) := by decide +kernel
theorem dX5_lightest_58 : decode cX5_lightest 58 = .ok (.aload_n 0, 1) := by decide +kernel
theorem dX5_lightest_59 : decode cX5_lightest 59 = .ok (.iload_n 3, 1) := by decide +kernel
theorem dX5_lightest_60 : decode cX5_lightest 60 = .ok (.invokevirtual 40, 3) := by decide +kernel
theorem dX5_lightest_63 : decode cX5_lightest 63 = .ok (.goto 4, 3) := by decide +kernel
theorem dX5_lightest_66 : decode cX5_lightest 66 = .ok (.iload_n 2, 1) := by decide +kernel
theorem dX5_lightest_67 : decode cX5_lightest 67 = .ok (.istore_n 2, 1) := by decide +kernel
theorem dX5_lightest_68 : decode cX5_lightest 68 = .ok (.iinc 3 1, 3) := by decide +kernel
theorem dX5_lightest_71 : decode cX5_lightest 71 = .ok (.goto (-67), 3) := by decide +kernel
theorem dX5_lightest_74 : decode cX5_lightest 74 = .ok (.iload_n 2, 1) := by decide +kernel
theorem dX5_lightest_75 : decode cX5_lightest 75 = .ok (.ireturn, 1) := by decide +kernel
set_option maxRecDepth 20000 in
theorem ggX5_mergeLight_X5_lightest : GoodIn wsX5_mergeLight wsX5_lightest := goodIn_r _ [5, 6, 7, 8, 9, 4, 10, 11, 12, 13, 14, 15, 16, 17, 18, 19, 20, 21, 22, 39, 40, 41, 42, 43, 44, 45, 46, 47, 48, 49, 50, 51] (by decide +kernel) (by decide +kernel)
set_option maxRecDepth 20000 in
theorem gX5_mergeLight_X5_lightest : GoodIn wsX5_mergeLight (wsV RX5 125 RX5 yX5_lightest wsX5_lightest) := goodIn_app (goodIn_of _ (by decide +kernel)) ggX5_mergeLight_X5_lightest
set_option maxRecDepth 20000 in
theorem ggX5_mergeLight_X5_mergeBoth : GoodIn wsX5_mergeLight wsX5_mergeBoth := goodIn_r _ [26, 6, 15, 16, 17, 4, 18, 19, 20, 21, 22, 27, 28, 29, 30, 31, 32, 33, 34, 7, 8, 9, 10, 35, 36, 37, 38, 11, 12, 13, 14, 39, 40, 41, 42, 43, 44, 45, 46, 47, 48, 49, 50, 51] (by decide +kernel) (by decide +kernel)
set_option maxRecDepth 20000 in
theorem gX5_mergeLight_X5_mergeBoth : GoodIn wsX5_mergeLight (wsV RX5 122 RX5 yX5_mergeBoth wsX5_mergeBoth) := goodIn_app (goodIn_of _ (by decide +kernel)) ggX5_mergeLight_X5_mergeBoth
theorem dX5_mergeLight_0 : decode cX5_mergeLight 0 = .ok (.aload_n 0, 1) := by decide +kernel
theorem dX5_mergeLight_1 : decode cX5_mergeLight 1 = .ok (.iconst (-1), 1) := by decide +kernel
theorem dX5_mergeLight_2 : decode cX5_mergeLight 2 = .ok (.invokevirtual 125, 3) := by decide +kernel
theorem dX5_mergeLight_5 : decode cX5_mergeLight 5 = .ok (.istore_n 1, 1) := by decide +kernel
theorem dX5_mergeLight_6 : decode cX5_mergeLight 6 = .ok (.aload_n 0, 1) := by decide +kernel
theorem dX5_mergeLight_7 : decode cX5_mergeLight 7 = .ok (.iload_n 1, 1) := by decide +kernel
theorem dX5_mergeLight_8 : decode cX5_mergeLight 8 = .ok (.invokevirtual 125, 3) := by decide +kernel
theorem dX5_mergeLight_11 : decode cX5_mergeLight 11 = .ok (.istore_n 2, 1) := by decide +kernel
theorem dX5_mergeLight_12 : decode cX5_mergeLight 12 = .ok (.aload_n 0, 1) := by decide +kernel
theorem dX5_mergeLight_13 : decode cX5_mergeLight 13 = .ok (.iload_n 1, 1) := by decide +kernel
theorem dX5_mergeLight_14 : decode cX5_mergeLight 14 = .ok (.iload_n 2, 1) := by decide +kernel
theorem dX5_mergeLight_15 : decode cX5_mergeLight 15 = .ok (.invokevirtual 122, 3) := by decide +kernel
theorem dX5_mergeLight_18 : decode cX5_mergeLight 18 = .ok (.istore_n 3, 1) := by decide +kernel
theorem dX5_mergeLight_19 : decode cX5_mergeLight 19 = .ok (.iload_n 3, 1) := by decide +kernel
theorem dX5_mergeLight_20 : decode cX5_mergeLight 20 = .ok (.ifCond .le 12, 3) := by decide +kernel
theorem dX5_mergeLight_23 : decode cX5_mergeLight 23 = .ok (.iload_n 1, 1) := by decide +kernel
theorem dX5_mergeLight_24 : decode cX5_mergeLight 24 = .ok (.iload_n 2, 1) := by decide +kernel
theorem dX5_mergeLight_25 : decode cX5_mergeLight 25 = .ok (.if_icmp .ge 7, 3) := by decide +kernel
theorem dX5_mergeLight_28 : decode cX5_mergeLight 28 = .ok (.iload_n 1, 1) := by decide +kernel
theorem dX5_mergeLight_29 : decode cX5_mergeLight 29 = .ok (.goto 4, 3) := by decide +kernel
theorem dX5_mergeLight_32 : decode cX5_mergeLight 32 = .ok (.iload_n 2, 1) := by decide +kernel
theorem dX5_mergeLight_33 : decode cX5_mergeLight 33 = .ok (.ireturn, 1) := by decide +kernel
set_option maxRecDepth 20000 in
theorem ggX5_mergeLightest_X5_save : GoodIn wsX5_mergeLightest wsX5_save := goodIn_r _ [7, 8, 9, 1, 50, 51, 52, 53, 54, 55, 56, 57, 58, 59, 60, 61, 62] (by decide +kernel) (by decide +kernel)
set_option maxRecDepth 20000 in
theorem gX5_mergeLightest_X5_save : GoodIn wsX5_mergeLightest (wsV RX5 88 RX5 yX5_save wsX5_save) := goodIn_app (goodIn_of _ (by decide +kernel)) ggX5_mergeLightest_X5_save
set_option maxRecDepth 20000 in
theorem ggX5_mergeLightest_X5_mergeLight : GoodIn wsX5_mergeLightest wsX5_mergeLight := goodIn_r _ [13, 14, 15, 16, 6, 17, 1, 18, 19, 20, 21, 22, 23, 24, 25, 26, 27, 28, 29, 30, 31, 32, 33, 34, 35, 36, 37, 38, 39, 40, 41, 42, 43, 44, 45, 46, 47, 48, 49, 50, 51, 52, 53, 54, 55, 56, 57, 58, 59, 60, 61, 62] (by decide +kernel) (by decide +kernel)
set_option maxRecDepth 20000 in
theorem gX5_mergeLightest_X5_mergeLight : GoodIn wsX5_mergeLightest (wsV RX5 128 RX5 yX5_mergeLight wsX5_mergeLight) := goodIn_app (goodIn_of _ (by decide +kernel)) ggX5_mergeLightest_X5_mergeLight
theorem dX5_mergeLightest_0 : decode cX5_mergeLightest 0 = .ok (.aload_n 0, 1) := by decide +kernel
theorem dX5_mergeLightest_1 : decode cX5_mergeLightest 1 = .ok (.aload_n 0, 1) := by decide +kernel
theorem dX5_mergeLightest_2 : decode cX5_mergeLightest 2 = .ok (.getfield 13, 3) := by decide +kernel
theorem dX5_mergeLightest_5 : decode cX5_mergeLightest 5 = .ok (.bipush 8, 2) := by decide +kernel
theorem dX5_mergeLightest_7 : decode cX5_mergeLightest 7 = .ok (.iaload, 1) := by decide +kernel
theorem dX5_mergeLightest_8 : decode cX5_mergeLightest 8 = .ok (.iconst 2, 1) := by decide +kernel
theorem dX5_mergeLightest_9 : decode cX5_mergeLightest 9 = .ok (.if_icmp .ge 7, 3) := by decide +kernel
theorem dX5_mergeLightest_12 : decode cX5_mergeLightest 12 = .ok (.iconst 1, 1) := by decide +kernel
theorem dX5_mergeLightest_13 : decode cX5_mergeLightest 13 = .ok (.goto 4, 3) := by decide +kernel
theorem dX5_mergeLightest_16 : decode cX5_mergeLightest 16 = .ok (.iconst 0, 1) := by decide +kernel
theorem dX5_mergeLightest_17 : decode cX5_mergeLightest 17 = .ok (.putfield 1, 3) := by decide +kernel
theorem dX5_mergeLightest_20 : decode cX5_mergeLightest 20 = .ok (.aload_n 0, 1) := by decide +kernel
theorem dX5_mergeLightest_21 : decode cX5_mergeLightest 21 = .ok (.getfield 1, 3) := by decide +kernel
theorem dX5_mergeLightest_24 : decode cX5_mergeLightest 24 = .ok (.ifCond .le 5, 3) := by decide +kernel
theorem dX5_mergeLightest_27 : decode cX5_mergeLightest 27 = .ok (.iconst 0, 1) := by decide +kernel
theorem dX5_mergeLightest_28 : decode cX5_mergeLightest 28 = .ok (.ireturn, 1) := by decide +kernel
theorem dX5_mergeLightest_29 : decode cX5_mergeLightest 29 = .ok (.aload_n 0, 1) := by decide +kernel
theorem dX5_mergeLightest_30 : decode cX5_mergeLightest 30 = .ok (.invokevirtual 88, 3) := by decide +kernel
theorem dX5_mergeLightest_33 : decode cX5_mergeLightest 33 = .ok (.aload_n 0, 1) := by decide +kernel
theorem dX5_mergeLightest_34 : decode cX5_mergeLightest 34 = .ok (.invokevirtual 128, 3) := by decide +kernel
theorem dX5_mergeLightest_37 : decode cX5_mergeLightest 37 = .ok (.ireturn, 1) := by decide +kernel
set_option maxRecDepth 20000 in
theorem ggX5_stormBy_X5_numberAt : GoodIn wsX5_stormBy wsX5_numberAt := goodIn_r _ [6, 1, 35, 36, 37, 38, 39, 40, 41, 42, 43, 44, 45, 46, 47] (by decide +kernel) (by decide +kernel)
set_option maxRecDepth 20000 in
theorem gX5_stormBy_X5_numberAt : GoodIn wsX5_stormBy (wsV RX5 40 RX5 yX5_numberAt wsX5_numberAt) := goodIn_app (goodIn_of _ (by decide +kernel)) ggX5_stormBy_X5_numberAt
set_option maxRecDepth 20000 in
theorem ggX5_stormBy_X5_manyOf : GoodIn wsX5_stormBy wsX5_manyOf := goodIn_r _ [10, 1, 11, 12, 13, 5, 14, 15, 16, 17, 18, 35, 36, 37, 38, 39, 40, 41, 42, 43, 44, 45, 46, 47] (by decide +kernel) (by decide +kernel)
set_option maxRecDepth 20000 in
theorem gX5_stormBy_X5_manyOf : GoodIn wsX5_stormBy (wsV RX5 131 RX5 yX5_manyOf wsX5_manyOf) := goodIn_app (goodIn_of _ (by decide +kernel)) ggX5_stormBy_X5_manyOf
set_option maxRecDepth 20000 in
theorem ggX5_stormBy_X5_newRun : GoodIn wsX5_stormBy wsX5_newRun := goodIn_r _ [22, 1, 35, 36, 37, 38, 39, 40, 41, 42, 43, 44, 45, 46, 47] (by decide +kernel) (by decide +kernel)
set_option maxRecDepth 20000 in
theorem gX5_stormBy_X5_newRun : GoodIn wsX5_stormBy (wsV RX5 71 RX5 yX5_newRun wsX5_newRun) := goodIn_app (goodIn_of _ (by decide +kernel)) ggX5_stormBy_X5_newRun
set_option maxRecDepth 20000 in
theorem ggX5_stormBy_X5_lastOf : GoodIn wsX5_stormBy wsX5_lastOf := goodIn_r _ [26, 1, 11, 12, 13, 5, 14, 15, 16, 17, 18, 27, 28, 29, 30, 35, 36, 37, 38, 39, 40, 41, 42, 43, 44, 45, 46, 47] (by decide +kernel) (by decide +kernel)
set_option maxRecDepth 20000 in
theorem gX5_stormBy_X5_lastOf : GoodIn wsX5_stormBy (wsV RX5 61 RX5 yX5_lastOf wsX5_lastOf) := goodIn_app (goodIn_of _ (by decide +kernel)) ggX5_stormBy_X5_lastOf
set_option maxRecDepth 20000 in
theorem ggX5_stormBy_X5_be : GoodIn wsX5_stormBy wsX5_be := goodIn_r _ [34, 1, 35, 36, 37, 38, 39, 40, 41, 42, 43, 44, 45, 46, 47] (by decide +kernel) (by decide +kernel)
set_option maxRecDepth 20000 in
theorem gX5_stormBy_X5_be : GoodIn wsX5_stormBy (wsV RX5 74 RX5 yX5_be wsX5_be) := goodIn_app (goodIn_of _ (by decide +kernel)) ggX5_stormBy_X5_be
theorem dX5_stormBy_0 : decode cX5_stormBy 0 = .ok (.aload_n 0, 1) := by decide +kernel
theorem dX5_stormBy_1 : decode cX5_stormBy 1 = .ok (.getfield 13, 3) := by decide +kernel
theorem dX5_stormBy_4 : decode cX5_stormBy 4 = .ok (.bipush 8, 2) := by decide +kernel
theorem dX5_stormBy_6 : decode cX5_stormBy 6 = .ok (.iaload, 1) := by decide +kernel
theorem dX5_stormBy_7 : decode cX5_stormBy 7 = .ok (.istore_n 2, 1) := by decide +kernel
theorem dX5_stormBy_8 : decode cX5_stormBy 8 = .ok (.iconst 0, 1) := by decide +kernel
theorem dX5_stormBy_9 : decode cX5_stormBy 9 = .ok (.istore_n 3, 1) := by decide +kernel
theorem dX5_stormBy_10 : decode cX5_stormBy 10 = .ok (.iconst 0, 1) := by decide +kernel
theorem dX5_stormBy_11 : decode cX5_stormBy 11 = .ok (.istore 4, 2) := by decide +kernel
theorem dX5_stormBy_13 : decode cX5_stormBy 13 = .ok (.iload 4, 2) := by decide +kernel
theorem dX5_stormBy_15 : decode cX5_stormBy 15 = .ok (.iload_n 2, 1) := by decide +kernel
theorem dX5_stormBy_16 : decode cX5_stormBy 16 = .ok (.if_icmp .ge 89, 3) := by decide +kernel
theorem dX5_stormBy_19 : decode cX5_stormBy 19 = .ok (.aload_n 0, 1) := by decide +kernel
theorem dX5_stormBy_20 : decode cX5_stormBy 20 = .ok (.iload 4, 2) := by decide +kernel
theorem dX5_stormBy_22 : decode cX5_stormBy 22 = .ok (.invokevirtual 40, 3) := by decide +kernel
theorem dX5_stormBy_25 : decode cX5_stormBy 25 = .ok (.istore 5, 2) := by decide +kernel
theorem dX5_stormBy_27 : decode cX5_stormBy 27 = .ok (.aload_n 0, 1) := by decide +kernel
theorem dX5_stormBy_28 : decode cX5_stormBy 28 = .ok (.iload 5, 2) := by decide +kernel
theorem dX5_stormBy_30 : decode cX5_stormBy 30 = .ok (.invokevirtual 131, 3) := by decide +kernel
theorem dX5_stormBy_33 : decode cX5_stormBy 33 = .ok (.istore 6, 2) := by decide +kernel
theorem dX5_stormBy_35 : decode cX5_stormBy 35 = .ok (.iload 6, 2) := by decide +kernel
theorem dX5_stormBy_37 : decode cX5_stormBy 37 = .ok (.iconst 1, 1) := by decide +kernel
theorem dX5_stormBy_38 : decode cX5_stormBy 38 = .ok (.if_icmp .le 61, 3) := by decide +kernel
theorem dX5_stormBy_41 : decode cX5_stormBy 41 = .ok (.aload_n 0, 1) := by decide +kernel
theorem dX5_stormBy_42 : decode cX5_stormBy 42 = .ok (.getfield 13, 3) := by decide +kernel
theorem dX5_stormBy_45 : decode cX5_stormBy 45 = .ok (.bipush 10, 2) := by decide +kernel
theorem dX5_stormBy_47 : decode cX5_stormBy 47 = .ok (.iconst 2, 1) := by decide +kernel
theorem dX5_stormBy_48 : decode cX5_stormBy 48 = .ok (.iload 4, 2) := by decide +kernel
theorem dX5_stormBy_50 : decode cX5_stormBy 50 = .ok (.imul, 1) := by decide +kernel
theorem dX5_stormBy_51 : decode cX5_stormBy 51 = .ok (.iadd, 1) := by decide +kernel
theorem dX5_stormBy_52 : decode cX5_stormBy 52 = .ok (.iconst 1, 1) := by decide +kernel
theorem dX5_stormBy_53 : decode cX5_stormBy 53 = .ok (.iadd, 1) := by decide +kernel
theorem dX5_stormBy_54 : decode cX5_stormBy 54 = .ok (.iaload, 1) := by decide +kernel
theorem dX5_stormBy_55 : decode cX5_stormBy 55 = .ok (.iload_n 1, 1) := by decide +kernel
theorem dX5_stormBy_56 : decode cX5_stormBy 56 = .ok (.if_icmp .ge 43, 3) := by decide +kernel
theorem dX5_stormBy_59 : decode cX5_stormBy 59 = .ok (.aload_n 0, 1) := by decide +kernel
theorem dX5_stormBy_60 : decode cX5_stormBy 60 = .ok (.invokevirtual 71, 3) := by decide +kernel
theorem dX5_stormBy_63 : decode cX5_stormBy 63 = .ok (.istore 7, 2) := by decide +kernel
theorem dX5_stormBy_65 : decode cX5_stormBy 65 = .ok (.iinc 3 1, 3) := by decide +kernel
theorem dX5_stormBy_68 : decode cX5_stormBy 68 = .ok (.iconst 0, 1) := by decide +kernel
theorem dX5_stormBy_69 : decode cX5_stormBy 69 = .ok (.istore 8, 2) := by decide +kernel
theorem dX5_stormBy_71 : decode cX5_stormBy 71 = .ok (.iload 8, 2) := by decide +kernel
theorem dX5_stormBy_73 : decode cX5_stormBy 73 = .ok (.iload 6, 2) := by decide +kernel
theorem dX5_stormBy_75 : decode cX5_stormBy 75 = .ok (.iconst 2, 1) := by decide +kernel
theorem dX5_stormBy_76 : decode cX5_stormBy 76 = .ok (.idiv, 1) := by decide +kernel
theorem dX5_stormBy_77 : decode cX5_stormBy 77 = .ok (.if_icmp .ge 22, 3) := by decide +kernel
theorem dX5_stormBy_80 : decode cX5_stormBy 80 = .ok (.aload_n 0, 1) := by decide +kernel
theorem dX5_stormBy_81 : decode cX5_stormBy 81 = .ok (.aload_n 0, 1) := by decide +kernel
theorem dX5_stormBy_82 : decode cX5_stormBy 82 = .ok (.iload 5, 2) := by decide +kernel
theorem dX5_stormBy_84 : decode cX5_stormBy 84 = .ok (.invokevirtual 61, 3) := by decide +kernel
theorem dX5_stormBy_87 : decode cX5_stormBy 87 = .ok (.iconst 3, 1) := by decide +kernel
theorem dX5_stormBy_88 : decode cX5_stormBy 88 = .ok (.iload 7, 2) := by decide +kernel
theorem dX5_stormBy_90 : decode cX5_stormBy 90 = .ok (.invokevirtual 74, 3) := by decide +kernel
theorem dX5_stormBy_93 : decode cX5_stormBy 93 = .ok (.iinc 8 1, 3) := by decide +kernel
theorem dX5_stormBy_96 : decode cX5_stormBy 96 = .ok (.goto (-25), 3) := by decide +kernel
theorem dX5_stormBy_99 : decode cX5_stormBy 99 = .ok (.iinc 4 1, 3) := by decide +kernel
theorem dX5_stormBy_102 : decode cX5_stormBy 102 = .ok (.goto (-89), 3) := by decide +kernel
theorem dX5_stormBy_105 : decode cX5_stormBy 105 = .ok (.iconst 0, 1) := by decide +kernel
theorem dX5_stormBy_106 : decode cX5_stormBy 106 = .ok (.istore 4, 2) := by decide +kernel
theorem dX5_stormBy_108 : decode cX5_stormBy 108 = .ok (.iload 4, 2) := by decide +kernel
theorem dX5_stormBy_110 : decode cX5_stormBy 110 = .ok (.iload_n 2, 1) := by decide +kernel
theorem dX5_stormBy_111 : decode cX5_stormBy 111 = .ok (.if_icmp .ge 50, 3) := by decide +kernel
theorem dX5_stormBy_114 : decode cX5_stormBy 114 = .ok (.bipush 10, 2) := by decide +kernel
theorem dX5_stormBy_116 : decode cX5_stormBy 116 = .ok (.iconst 2, 1) := by decide +kernel
theorem dX5_stormBy_117 : decode cX5_stormBy 117 = .ok (.iload 4, 2) := by decide +kernel
theorem dX5_stormBy_119 : decode cX5_stormBy 119 = .ok (.imul, 1) := by decide +kernel
theorem dX5_stormBy_120 : decode cX5_stormBy 120 = .ok (.iadd, 1) := by decide +kernel
theorem dX5_stormBy_121 : decode cX5_stormBy 121 = .ok (.iconst 1, 1) := by decide +kernel
theorem dX5_stormBy_122 : decode cX5_stormBy 122 = .ok (.iadd, 1) := by decide +kernel
theorem dX5_stormBy_123 : decode cX5_stormBy 123 = .ok (.istore 5, 2) := by decide +kernel
theorem dX5_stormBy_125 : decode cX5_stormBy 125 = .ok (.aload_n 0, 1) := by decide +kernel
theorem dX5_stormBy_126 : decode cX5_stormBy 126 = .ok (.getfield 13, 3) := by decide +kernel
theorem dX5_stormBy_129 : decode cX5_stormBy 129 = .ok (.iload 5, 2) := by decide +kernel
theorem dX5_stormBy_131 : decode cX5_stormBy 131 = .ok (.aload_n 0, 1) := by decide +kernel
theorem dX5_stormBy_132 : decode cX5_stormBy 132 = .ok (.getfield 13, 3) := by decide +kernel
theorem dX5_stormBy_135 : decode cX5_stormBy 135 = .ok (.iload 5, 2) := by decide +kernel
theorem dX5_stormBy_137 : decode cX5_stormBy 137 = .ok (.iaload, 1) := by decide +kernel
theorem dX5_stormBy_138 : decode cX5_stormBy 138 = .ok (.ifCond .le 15, 3) := by decide +kernel
theorem dX5_stormBy_141 : decode cX5_stormBy 141 = .ok (.aload_n 0, 1) := by decide +kernel
theorem dX5_stormBy_142 : decode cX5_stormBy 142 = .ok (.getfield 13, 3) := by decide +kernel
theorem dX5_stormBy_145 : decode cX5_stormBy 145 = .ok (.iload 5, 2) := by decide +kernel
theorem dX5_stormBy_147 : decode cX5_stormBy 147 = .ok (.iaload, 1) := by decide +kernel
theorem dX5_stormBy_148 : decode cX5_stormBy 148 = .ok (.iconst 1, 1) := by decide +kernel
theorem dX5_stormBy_149 : decode cX5_stormBy 149 = .ok (.isub, 1) := by decide +kernel
theorem dX5_stormBy_150 : decode cX5_stormBy 150 = .ok (.goto 4, 3) := by decide +kernel
theorem dX5_stormBy_153 : decode cX5_stormBy 153 = .ok (.iconst 0, 1) := by decide +kernel
theorem dX5_stormBy_154 : decode cX5_stormBy 154 = .ok (.iastore, 1) := by decide +kernel
theorem dX5_stormBy_155 : decode cX5_stormBy 155 = .ok (.iinc 4 1, 3) := by decide +kernel
theorem dX5_stormBy_158 : decode cX5_stormBy 158 = .ok (.goto (-50), 3) := by decide +kernel
theorem dX5_stormBy_161 : decode cX5_stormBy 161 = .ok (.aload_n 0, 1) := by decide +kernel
theorem dX5_stormBy_162 : decode cX5_stormBy 162 = .ok (.getfield 13, 3) := by decide +kernel
theorem dX5_stormBy_165 : decode cX5_stormBy 165 = .ok (.bipush 6, 2) := by decide +kernel
theorem dX5_stormBy_167 : decode cX5_stormBy 167 = .ok (.iconst (-1), 1) := by decide +kernel
theorem dX5_stormBy_168 : decode cX5_stormBy 168 = .ok (.iastore, 1) := by decide +kernel
theorem dX5_stormBy_169 : decode cX5_stormBy 169 = .ok (.aload_n 0, 1) := by decide +kernel
theorem dX5_stormBy_170 : decode cX5_stormBy 170 = .ok (.getfield 13, 3) := by decide +kernel
theorem dX5_stormBy_173 : decode cX5_stormBy 173 = .ok (.iconst 4, 1) := by decide +kernel
theorem dX5_stormBy_174 : decode cX5_stormBy 174 = .ok (.dup2, 1) := by decide +kernel
theorem dX5_stormBy_175 : decode cX5_stormBy 175 = .ok (.iaload, 1) := by decide +kernel
theorem dX5_stormBy_176 : decode cX5_stormBy 176 = .ok (.iconst 1, 1) := by decide +kernel
theorem dX5_stormBy_177 : decode cX5_stormBy 177 = .ok (.iadd, 1) := by decide +kernel
theorem dX5_stormBy_178 : decode cX5_stormBy 178 = .ok (.iastore, 1) := by decide +kernel
theorem dX5_stormBy_179 : decode cX5_stormBy 179 = .ok (.aload_n 0, 1) := by decide +kernel
theorem dX5_stormBy_180 : decode cX5_stormBy 180 = .ok (.getfield 13, 3) := by decide +kernel
theorem dX5_stormBy_183 : decode cX5_stormBy 183 = .ok (.iconst 5, 1) := by decide +kernel
theorem dX5_stormBy_184 : decode cX5_stormBy 184 = .ok (.dup2, 1) := by decide +kernel
theorem dX5_stormBy_185 : decode cX5_stormBy 185 = .ok (.iaload, 1) := by decide +kernel
theorem dX5_stormBy_186 : decode cX5_stormBy 186 = .ok (.iload_n 3, 1) := by decide +kernel
theorem dX5_stormBy_187 : decode cX5_stormBy 187 = .ok (.iadd, 1) := by decide +kernel
theorem dX5_stormBy_188 : decode cX5_stormBy 188 = .ok (.iastore, 1) := by decide +kernel
theorem dX5_stormBy_189 : decode cX5_stormBy 189 = .ok (.iload_n 3, 1) := by decide +kernel
theorem dX5_stormBy_190 : decode cX5_stormBy 190 = .ok (.ireturn, 1) := by decide +kernel
set_option maxRecDepth 20000 in
theorem ggX5_storm_X5_in : GoodIn wsX5_storm wsX5_in := goodIn_r _ [5] (by decide +kernel) (by decide +kernel)
set_option maxRecDepth 20000 in
theorem gX5_storm_X5_in : GoodIn wsX5_storm (va_wsS RX5 84 yX5_in wsX5_in) := goodIn_app (goodIn_of _ (by decide +kernel)) ggX5_storm_X5_in
set_option maxRecDepth 20000 in
theorem ggX5_storm_X5_save : GoodIn wsX5_storm wsX5_save := goodIn_r _ [9, 10, 11, 12, 49, 50, 51, 52, 53, 54, 55, 56, 57, 58, 59, 60, 61] (by decide +kernel) (by decide +kernel)
set_option maxRecDepth 20000 in
theorem gX5_storm_X5_save : GoodIn wsX5_storm (wsV RX5 88 RX5 yX5_save wsX5_save) := goodIn_app (goodIn_of _ (by decide +kernel)) ggX5_storm_X5_save
set_option maxRecDepth 20000 in
theorem ggX5_storm_X5_stormBy : GoodIn wsX5_storm wsX5_stormBy := goodIn_r _ [16, 12, 17, 18, 19, 4, 20, 21, 22, 23, 24, 25, 26, 27, 28, 29, 30, 31, 32, 33, 34, 35, 36, 37, 38, 39, 40, 41, 42, 43, 44, 45, 46, 47, 48, 49, 50, 51, 52, 53, 54, 55, 56, 57, 58, 59, 60, 61] (by decide +kernel) (by decide +kernel)
set_option maxRecDepth 20000 in
theorem gX5_storm_X5_stormBy : GoodIn wsX5_storm (wsV RX5 134 RX5 yX5_stormBy wsX5_stormBy) := goodIn_app (goodIn_of _ (by decide +kernel)) ggX5_storm_X5_stormBy
theorem dX5_storm_0 : decode cX5_storm 0 = .ok (.aload_n 0, 1) := by decide +kernel
theorem dX5_storm_1 : decode cX5_storm 1 = .ok (.iload_n 1, 1) := by decide +kernel
theorem dX5_storm_2 : decode cX5_storm 2 = .ok (.iconst 1, 1) := by decide +kernel
theorem dX5_storm_3 : decode cX5_storm 3 = .ok (.bipush 9, 2) := by decide +kernel
theorem dX5_storm_5 : decode cX5_storm 5 = .ok (.invokestatic 84, 3) := by decide +kernel
theorem dX5_storm_8 : decode cX5_storm 8 = .ok (.ifCond .eq 7, 3) := by decide +kernel
theorem dX5_storm_11 : decode cX5_storm 11 = .ok (.iconst 0, 1) := by decide +kernel
theorem dX5_storm_12 : decode cX5_storm 12 = .ok (.goto 4, 3) := by decide +kernel
theorem dX5_storm_15 : decode cX5_storm 15 = .ok (.iconst 1, 1) := by decide +kernel
theorem dX5_storm_16 : decode cX5_storm 16 = .ok (.putfield 1, 3) := by decide +kernel
theorem dX5_storm_19 : decode cX5_storm 19 = .ok (.aload_n 0, 1) := by decide +kernel
theorem dX5_storm_20 : decode cX5_storm 20 = .ok (.getfield 1, 3) := by decide +kernel
theorem dX5_storm_23 : decode cX5_storm 23 = .ok (.ifCond .le 5, 3) := by decide +kernel
theorem dX5_storm_26 : decode cX5_storm 26 = .ok (.iconst 0, 1) := by decide +kernel
theorem dX5_storm_27 : decode cX5_storm 27 = .ok (.ireturn, 1) := by decide +kernel
theorem dX5_storm_28 : decode cX5_storm 28 = .ok (.aload_n 0, 1) := by decide +kernel
theorem dX5_storm_29 : decode cX5_storm 29 = .ok (.invokevirtual 88, 3) := by decide +kernel
theorem dX5_storm_32 : decode cX5_storm 32 = .ok (.aload_n 0, 1) := by decide +kernel
theorem dX5_storm_33 : decode cX5_storm 33 = .ok (.iload_n 1, 1) := by decide +kernel
theorem dX5_storm_34 : decode cX5_storm 34 = .ok (.invokevirtual 134, 3) := by decide +kernel
theorem dX5_storm_37 : decode cX5_storm 37 = .ok (.ireturn, 1) := by decide +kernel
set_option maxRecDepth 20000 in
theorem ggX5_tighten_X5_placeOf : GoodIn wsX5_tighten wsX5_placeOf := goodIn_r _ [7, 2, 8, 9, 10, 6, 11, 18, 19, 20, 21, 22, 23, 24, 25, 26, 27, 28, 29, 30] (by decide +kernel) (by decide +kernel)
set_option maxRecDepth 20000 in
theorem gX5_tighten_X5_placeOf : GoodIn wsX5_tighten (wsV RX5 110 RX5 yX5_placeOf wsX5_placeOf) := goodIn_app (goodIn_of _ (by decide +kernel)) ggX5_tighten_X5_placeOf
set_option maxRecDepth 20000 in
theorem ggX5_tighten_X5_save : GoodIn wsX5_tighten wsX5_save := goodIn_r _ [15, 16, 17, 2, 18, 19, 20, 21, 22, 23, 24, 25, 26, 27, 28, 29, 30] (by decide +kernel) (by decide +kernel)
set_option maxRecDepth 20000 in
theorem gX5_tighten_X5_save : GoodIn wsX5_tighten (wsV RX5 88 RX5 yX5_save wsX5_save) := goodIn_app (goodIn_of _ (by decide +kernel)) ggX5_tighten_X5_save
theorem dX5_tighten_0 : decode cX5_tighten 0 = .ok (.aload_n 0, 1) := by decide +kernel
theorem dX5_tighten_1 : decode cX5_tighten 1 = .ok (.iload_n 1, 1) := by decide +kernel
theorem dX5_tighten_2 : decode cX5_tighten 2 = .ok (.invokevirtual 110, 3) := by decide +kernel
theorem dX5_tighten_5 : decode cX5_tighten 5 = .ok (.istore_n 2, 1) := by decide +kernel
theorem dX5_tighten_6 : decode cX5_tighten 6 = .ok (.aload_n 0, 1) := by decide +kernel
theorem dX5_tighten_7 : decode cX5_tighten 7 = .ok (.iload_n 2, 1) := by decide +kernel
theorem dX5_tighten_8 : decode cX5_tighten 8 = .ok (.iconst (-1), 1) := by decide +kernel
theorem dX5_tighten_9 : decode cX5_tighten 9 = .ok (.if_icmp .ne 7, 3) := by decide +kernel
theorem dX5_tighten_12 : decode cX5_tighten 12 = .ok (.iconst 1, 1) := by decide +kernel
theorem dX5_tighten_13 : decode cX5_tighten 13 = .ok (.goto 4, 3) := by decide +kernel
theorem dX5_tighten_16 : decode cX5_tighten 16 = .ok (.iconst 0, 1) := by decide +kernel
theorem dX5_tighten_17 : decode cX5_tighten 17 = .ok (.putfield 1, 3) := by decide +kernel
theorem dX5_tighten_20 : decode cX5_tighten 20 = .ok (.aload_n 0, 1) := by decide +kernel
theorem dX5_tighten_21 : decode cX5_tighten 21 = .ok (.getfield 1, 3) := by decide +kernel
theorem dX5_tighten_24 : decode cX5_tighten 24 = .ok (.ifCond .le 5, 3) := by decide +kernel
theorem dX5_tighten_27 : decode cX5_tighten 27 = .ok (.iconst 0, 1) := by decide +kernel
theorem dX5_tighten_28 : decode cX5_tighten 28 = .ok (.ireturn, 1) := by decide +kernel
theorem dX5_tighten_29 : decode cX5_tighten 29 = .ok (.aload_n 0, 1) := by decide +kernel
theorem dX5_tighten_30 : decode cX5_tighten 30 = .ok (.invokevirtual 88, 3) := by decide +kernel
theorem dX5_tighten_33 : decode cX5_tighten 33 = .ok (.bipush 10, 2) := by decide +kernel
theorem dX5_tighten_35 : decode cX5_tighten 35 = .ok (.iconst 2, 1) := by decide +kernel
theorem dX5_tighten_36 : decode cX5_tighten 36 = .ok (.iload_n 2, 1) := by decide +kernel
theorem dX5_tighten_37 : decode cX5_tighten 37 = .ok (.imul, 1) := by decide +kernel
theorem dX5_tighten_38 : decode cX5_tighten 38 = .ok (.iadd, 1) := by decide +kernel
theorem dX5_tighten_39 : decode cX5_tighten 39 = .ok (.iconst 1, 1) := by decide +kernel
theorem dX5_tighten_40 : decode cX5_tighten 40 = .ok (.iadd, 1) := by decide +kernel
theorem dX5_tighten_41 : decode cX5_tighten 41 = .ok (.istore_n 3, 1) := by decide +kernel
theorem dX5_tighten_42 : decode cX5_tighten 42 = .ok (.aload_n 0, 1) := by decide +kernel
theorem dX5_tighten_43 : decode cX5_tighten 43 = .ok (.getfield 13, 3) := by decide +kernel
theorem dX5_tighten_46 : decode cX5_tighten 46 = .ok (.iload_n 3, 1) := by decide +kernel
theorem dX5_tighten_47 : decode cX5_tighten 47 = .ok (.aload_n 0, 1) := by decide +kernel
theorem dX5_tighten_48 : decode cX5_tighten 48 = .ok (.getfield 13, 3) := by decide +kernel
theorem dX5_tighten_51 : decode cX5_tighten 51 = .ok (.iload_n 3, 1) := by decide +kernel
theorem dX5_tighten_52 : decode cX5_tighten 52 = .ok (.iaload, 1) := by decide +kernel
theorem dX5_tighten_53 : decode cX5_tighten 53 = .ok (.bipush 9, 2) := by decide +kernel
theorem dX5_tighten_55 : decode cX5_tighten 55 = .ok (.if_icmp .ge 14, 3) := by decide +kernel
theorem dX5_tighten_58 : decode cX5_tighten 58 = .ok (.aload_n 0, 1) := by decide +kernel
theorem dX5_tighten_59 : decode cX5_tighten 59 = .ok (.getfield 13, 3) := by decide +kernel
theorem dX5_tighten_62 : decode cX5_tighten 62 = .ok (.iload_n 3, 1) := by decide +kernel
theorem dX5_tighten_63 : decode cX5_tighten 63 = .ok (.iaload, 1) := by decide +kernel
theorem dX5_tighten_64 : decode cX5_tighten 64 = .ok (.iconst 1, 1) := by decide +kernel
theorem dX5_tighten_65 : decode cX5_tighten 65 = .ok (.iadd, 1) := by decide +kernel
theorem dX5_tighten_66 : decode cX5_tighten 66 = .ok (.goto 5, 3) := by decide +kernel
theorem dX5_tighten_69 : decode cX5_tighten 69 = .ok (.bipush 9, 2) := by decide +kernel
theorem dX5_tighten_71 : decode cX5_tighten 71 = .ok (.iastore, 1) := by decide +kernel
theorem dX5_tighten_72 : decode cX5_tighten 72 = .ok (.aload_n 0, 1) := by decide +kernel
theorem dX5_tighten_73 : decode cX5_tighten 73 = .ok (.getfield 13, 3) := by decide +kernel
theorem dX5_tighten_76 : decode cX5_tighten 76 = .ok (.iload_n 3, 1) := by decide +kernel
theorem dX5_tighten_77 : decode cX5_tighten 77 = .ok (.iaload, 1) := by decide +kernel
theorem dX5_tighten_78 : decode cX5_tighten 78 = .ok (.ireturn, 1) := by decide +kernel
set_option maxRecDepth 20000 in
theorem ggX5_canLand_X5_lastAshore : GoodIn wsX5_canLand wsX5_lastAshore := goodIn_r _ [5, 6, 7, 8, 9, 4, 10, 11, 12, 13, 14, 23, 24, 25, 26, 27, 28, 29, 30, 31, 32, 33, 34, 35] (by decide +kernel) (by decide +kernel)
set_option maxRecDepth 20000 in
theorem gX5_canLand_X5_lastAshore : GoodIn wsX5_canLand (wsV RX5 137 RX5 yX5_lastAshore wsX5_lastAshore) := goodIn_app (goodIn_of _ (by decide +kernel)) ggX5_canLand_X5_lastAshore
set_option maxRecDepth 20000 in
theorem ggX5_canLand_X5_firstOf : GoodIn wsX5_canLand wsX5_firstOf := goodIn_r _ [18, 6, 19, 20, 21, 4, 22, 7, 8, 9, 10, 11, 12, 13, 14, 23, 24, 25, 26, 27, 28, 29, 30, 31, 32, 33, 34, 35] (by decide +kernel) (by decide +kernel)
set_option maxRecDepth 20000 in
theorem gX5_canLand_X5_firstOf : GoodIn wsX5_canLand (wsV RX5 140 RX5 yX5_firstOf wsX5_firstOf) := goodIn_app (goodIn_of _ (by decide +kernel)) ggX5_canLand_X5_firstOf
set_option maxRecDepth 20000 in
theorem ggX5_canLand_X5_isLess : GoodIn wsX5_canLand wsX5_isLess := goodIn_r _ [14, 7, 8, 9, 4, 10, 6, 23, 24, 25, 26, 27, 28, 29, 30, 31, 32, 33, 34, 35] (by decide +kernel) (by decide +kernel)
set_option maxRecDepth 20000 in
theorem gX5_canLand_X5_isLess : GoodIn wsX5_canLand (wsV RX5 55 RX5 yX5_isLess wsX5_isLess) := goodIn_app (goodIn_of _ (by decide +kernel)) ggX5_canLand_X5_isLess
theorem dX5_canLand_0 : decode cX5_canLand 0 = .ok (.aload_n 0, 1) := by decide +kernel
theorem dX5_canLand_1 : decode cX5_canLand 1 = .ok (.invokevirtual 137, 3) := by decide +kernel
theorem dX5_canLand_4 : decode cX5_canLand 4 = .ok (.istore_n 2, 1) := by decide +kernel
theorem dX5_canLand_5 : decode cX5_canLand 5 = .ok (.iload_n 2, 1) := by decide +kernel
theorem dX5_canLand_6 : decode cX5_canLand 6 = .ok (.iconst (-1), 1) := by decide +kernel
theorem dX5_canLand_7 : decode cX5_canLand 7 = .ok (.if_icmp .eq 16, 3) := by decide +kernel
theorem dX5_canLand_10 : decode cX5_canLand 10 = .ok (.aload_n 0, 1) := by decide +kernel
theorem dX5_canLand_11 : decode cX5_canLand 11 = .ok (.iload_n 2, 1) := by decide +kernel
theorem dX5_canLand_12 : decode cX5_canLand 12 = .ok (.aload_n 0, 1) := by decide +kernel
theorem dX5_canLand_13 : decode cX5_canLand 13 = .ok (.iload_n 1, 1) := by decide +kernel
theorem dX5_canLand_14 : decode cX5_canLand 14 = .ok (.invokevirtual 140, 3) := by decide +kernel
theorem dX5_canLand_17 : decode cX5_canLand 17 = .ok (.invokevirtual 55, 3) := by decide +kernel
theorem dX5_canLand_20 : decode cX5_canLand 20 = .ok (.ifCond .eq 7, 3) := by decide +kernel
theorem dX5_canLand_23 : decode cX5_canLand 23 = .ok (.iconst 1, 1) := by decide +kernel
theorem dX5_canLand_24 : decode cX5_canLand 24 = .ok (.goto 4, 3) := by decide +kernel
theorem dX5_canLand_27 : decode cX5_canLand 27 = .ok (.iconst 0, 1) := by decide +kernel
theorem dX5_canLand_28 : decode cX5_canLand 28 = .ok (.ireturn, 1) := by decide +kernel
set_option maxRecDepth 20000 in
theorem ggX5_land_X5_placeOf : GoodIn wsX5_land wsX5_placeOf := goodIn_r _ [7, 2, 8, 9, 10, 6, 11, 54, 55, 56, 57, 58, 59, 60, 61, 62, 63, 64, 65, 66] (by decide +kernel) (by decide +kernel)
set_option maxRecDepth 20000 in
theorem gX5_land_X5_placeOf : GoodIn wsX5_land (wsV RX5 110 RX5 yX5_placeOf wsX5_placeOf) := goodIn_app (goodIn_of _ (by decide +kernel)) ggX5_land_X5_placeOf
set_option maxRecDepth 20000 in
theorem ggX5_land_X5_canLand : GoodIn wsX5_land wsX5_canLand := goodIn_r _ [15, 16, 17, 18, 6, 19, 2, 20, 21, 22, 23, 24, 25, 26, 27, 28, 29, 30, 31, 32, 33, 34, 35, 54, 55, 56, 57, 58, 59, 60, 61, 62, 63, 64, 65, 66] (by decide +kernel) (by decide +kernel)
set_option maxRecDepth 20000 in
theorem gX5_land_X5_canLand : GoodIn wsX5_land (wsV RX5 143 RX5 yX5_canLand wsX5_canLand) := goodIn_app (goodIn_of _ (by decide +kernel)) ggX5_land_X5_canLand
set_option maxRecDepth 20000 in
theorem ggX5_land_X5_save : GoodIn wsX5_land wsX5_save := goodIn_r _ [39, 40, 41, 2, 54, 55, 56, 57, 58, 59, 60, 61, 62, 63, 64, 65, 66] (by decide +kernel) (by decide +kernel)
set_option maxRecDepth 20000 in
theorem gX5_land_X5_save : GoodIn wsX5_land (wsV RX5 88 RX5 yX5_save wsX5_save) := goodIn_app (goodIn_of _ (by decide +kernel)) ggX5_land_X5_save
set_option maxRecDepth 20000 in
theorem ggX5_land_X5_isOf : GoodIn wsX5_land wsX5_isOf := goodIn_r _ [35, 20, 21, 22, 6, 23, 2, 54, 55, 56, 57, 58, 59, 60, 61, 62, 63, 64, 65, 66] (by decide +kernel) (by decide +kernel)
set_option maxRecDepth 20000 in
theorem gX5_land_X5_isOf : GoodIn wsX5_land (wsV RX5 48 RX5 yX5_isOf wsX5_isOf) := goodIn_app (goodIn_of _ (by decide +kernel)) ggX5_land_X5_isOf
set_option maxRecDepth 20000 in
theorem ggX5_land_X5_be : GoodIn wsX5_land wsX5_be := goodIn_r _ [45, 2, 54, 55, 56, 57, 58, 59, 60, 61, 62, 63, 64, 65, 66] (by decide +kernel) (by decide +kernel)
set_option maxRecDepth 20000 in
theorem gX5_land_X5_be : GoodIn wsX5_land (wsV RX5 74 RX5 yX5_be wsX5_be) := goodIn_app (goodIn_of _ (by decide +kernel)) ggX5_land_X5_be
set_option maxRecDepth 20000 in
theorem ggX5_land_X5_dropRun : GoodIn wsX5_land wsX5_dropRun := goodIn_r _ [49, 2, 54, 55, 56, 57, 58, 59, 60, 61, 62, 63, 64, 65, 66] (by decide +kernel) (by decide +kernel)
set_option maxRecDepth 20000 in
theorem gX5_land_X5_dropRun : GoodIn wsX5_land (wsV RX5 113 RX5 yX5_dropRun wsX5_dropRun) := goodIn_app (goodIn_of _ (by decide +kernel)) ggX5_land_X5_dropRun
set_option maxRecDepth 20000 in
theorem ggX5_land_X5_many : GoodIn wsX5_land wsX5_many := goodIn_r _ [53, 2, 20, 21, 22, 6, 23, 54, 55, 56, 57, 58, 59, 60, 61, 62, 63, 64, 65, 66] (by decide +kernel) (by decide +kernel)
set_option maxRecDepth 20000 in
theorem gX5_land_X5_many : GoodIn wsX5_land (wsV RX5 78 RX5 yX5_many wsX5_many) := goodIn_app (goodIn_of _ (by decide +kernel)) ggX5_land_X5_many
theorem dX5_land_0 : decode cX5_land 0 = .ok (.aload_n 0, 1) := by decide +kernel
theorem dX5_land_1 : decode cX5_land 1 = .ok (.iload_n 1, 1) := by decide +kernel
theorem dX5_land_2 : decode cX5_land 2 = .ok (.invokevirtual 110, 3) := by decide +kernel
theorem dX5_land_5 : decode cX5_land 5 = .ok (.istore_n 2, 1) := by decide +kernel
theorem dX5_land_6 : decode cX5_land 6 = .ok (.aload_n 0, 1) := by decide +kernel
theorem dX5_land_7 : decode cX5_land 7 = .ok (.iload_n 2, 1) := by decide +kernel
theorem dX5_land_8 : decode cX5_land 8 = .ok (.iconst (-1), 1) := by decide +kernel
theorem dX5_land_9 : decode cX5_land 9 = .ok (.if_icmp .ne 7, 3) := by decide +kernel
theorem dX5_land_12 : decode cX5_land 12 = .ok (.iconst 1, 1) := by decide +kernel
theorem dX5_land_13 : decode cX5_land 13 = .ok (.goto 16, 3) := by decide +kernel
theorem dX5_land_16 : decode cX5_land 16 = .ok (.aload_n 0, 1) := by decide +kernel
theorem dX5_land_17 : decode cX5_land 17 = .ok (.iload_n 1, 1) := by decide +kernel
theorem dX5_land_18 : decode cX5_land 18 = .ok (.invokevirtual 143, 3) := by decide +kernel
theorem dX5_land_21 : decode cX5_land 21 = .ok (.ifCond .ne 7, 3) := by decide +kernel
theorem dX5_land_24 : decode cX5_land 24 = .ok (.iconst 2, 1) := by decide +kernel
theorem dX5_land_25 : decode cX5_land 25 = .ok (.goto 4, 3) := by decide +kernel
theorem dX5_land_28 : decode cX5_land 28 = .ok (.iconst 0, 1) := by decide +kernel
theorem dX5_land_29 : decode cX5_land 29 = .ok (.putfield 1, 3) := by decide +kernel
theorem dX5_land_32 : decode cX5_land 32 = .ok (.aload_n 0, 1) := by decide +kernel
theorem dX5_land_33 : decode cX5_land 33 = .ok (.getfield 1, 3) := by decide +kernel
theorem dX5_land_36 : decode cX5_land 36 = .ok (.ifCond .le 5, 3) := by decide +kernel
theorem dX5_land_39 : decode cX5_land 39 = .ok (.iconst 0, 1) := by decide +kernel
theorem dX5_land_40 : decode cX5_land 40 = .ok (.ireturn, 1) := by decide +kernel
theorem dX5_land_41 : decode cX5_land 41 = .ok (.aload_n 0, 1) := by decide +kernel
theorem dX5_land_42 : decode cX5_land 42 = .ok (.invokevirtual 88, 3) := by decide +kernel
theorem dX5_land_45 : decode cX5_land 45 = .ok (.iconst 0, 1) := by decide +kernel
theorem dX5_land_46 : decode cX5_land 46 = .ok (.istore_n 3, 1) := by decide +kernel
theorem dX5_land_47 : decode cX5_land 47 = .ok (.iload_n 3, 1) := by decide +kernel
theorem dX5_land_48 : decode cX5_land 48 = .ok (.aload_n 0, 1) := by decide +kernel
theorem dX5_land_49 : decode cX5_land 49 = .ok (.getfield 13, 3) := by decide +kernel
theorem dX5_land_52 : decode cX5_land 52 = .ok (.iconst 1, 1) := by decide +kernel
theorem dX5_land_53 : decode cX5_land 53 = .ok (.iaload, 1) := by decide +kernel
theorem dX5_land_54 : decode cX5_land 54 = .ok (.if_icmp .ge 32, 3) := by decide +kernel
theorem dX5_land_57 : decode cX5_land 57 = .ok (.aload_n 0, 1) := by decide +kernel
theorem dX5_land_58 : decode cX5_land 58 = .ok (.iload_n 3, 1) := by decide +kernel
theorem dX5_land_59 : decode cX5_land 59 = .ok (.iload_n 1, 1) := by decide +kernel
theorem dX5_land_60 : decode cX5_land 60 = .ok (.invokevirtual 48, 3) := by decide +kernel
theorem dX5_land_63 : decode cX5_land 63 = .ok (.ifCond .eq 17, 3) := by decide +kernel
theorem dX5_land_66 : decode cX5_land 66 = .ok (.aload_n 0, 1) := by decide +kernel
theorem dX5_land_67 : decode cX5_land 67 = .ok (.iload_n 3, 1) := by decide +kernel
theorem dX5_land_68 : decode cX5_land 68 = .ok (.iconst 2, 1) := by decide +kernel
theorem dX5_land_69 : decode cX5_land 69 = .ok (.iconst 2, 1) := by decide +kernel
theorem dX5_land_70 : decode cX5_land 70 = .ok (.invokevirtual 74, 3) := by decide +kernel
theorem dX5_land_73 : decode cX5_land 73 = .ok (.aload_n 0, 1) := by decide +kernel
theorem dX5_land_74 : decode cX5_land 74 = .ok (.iload_n 3, 1) := by decide +kernel
theorem dX5_land_75 : decode cX5_land 75 = .ok (.iconst 3, 1) := by decide +kernel
theorem dX5_land_76 : decode cX5_land 76 = .ok (.iconst (-1), 1) := by decide +kernel
theorem dX5_land_77 : decode cX5_land 77 = .ok (.invokevirtual 74, 3) := by decide +kernel
theorem dX5_land_80 : decode cX5_land 80 = .ok (.iinc 3 1, 3) := by decide +kernel
theorem dX5_land_83 : decode cX5_land 83 = .ok (.goto (-36), 3) := by decide +kernel
theorem dX5_land_86 : decode cX5_land 86 = .ok (.aload_n 0, 1) := by decide +kernel
theorem dX5_land_87 : decode cX5_land 87 = .ok (.iload_n 2, 1) := by decide +kernel
theorem dX5_land_88 : decode cX5_land 88 = .ok (.invokevirtual 113, 3) := by decide +kernel
