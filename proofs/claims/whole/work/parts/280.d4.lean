theorem dX4_init_0 : decode cX4_init 0 = .ok (.aload_n 0, 1) := by decide +kernel
theorem dX4_init_1 : decode cX4_init 1 = .ok (.invokespecial 1, 3) := by decide +kernel
theorem dX4_init_4 : decode cX4_init 4 = .ok (.aload_n 0, 1) := by decide +kernel
theorem dX4_init_5 : decode cX4_init 5 = .ok (.new 7, 3) := by decide +kernel
theorem dX4_init_8 : decode cX4_init 8 = .ok (.dup, 1) := by decide +kernel
theorem dX4_init_9 : decode cX4_init 9 = .ok (.invokespecial 9, 3) := by decide +kernel
theorem dX4_init_12 : decode cX4_init 12 = .ok (.putfield 10, 3) := by decide +kernel
theorem dX4_init_15 : decode cX4_init 15 = .ok (.aload_n 0, 1) := by decide +kernel
theorem dX4_init_16 : decode cX4_init 16 = .ok (.new 7, 3) := by decide +kernel
theorem dX4_init_19 : decode cX4_init 19 = .ok (.dup, 1) := by decide +kernel
theorem dX4_init_20 : decode cX4_init 20 = .ok (.invokespecial 9, 3) := by decide +kernel
theorem dX4_init_23 : decode cX4_init 23 = .ok (.putfield 16, 3) := by decide +kernel
theorem dX4_init_26 : decode cX4_init 26 = .ok (.aload_n 0, 1) := by decide +kernel
theorem dX4_init_27 : decode cX4_init 27 = .ok (.new 19, 3) := by decide +kernel
theorem dX4_init_30 : decode cX4_init 30 = .ok (.dup, 1) := by decide +kernel
theorem dX4_init_31 : decode cX4_init 31 = .ok (.invokespecial 21, 3) := by decide +kernel
theorem dX4_init_34 : decode cX4_init 34 = .ok (.putfield 22, 3) := by decide +kernel
theorem dX4_init_37 : decode cX4_init 37 = .ok (.aload_n 0, 1) := by decide +kernel
theorem dX4_init_38 : decode cX4_init 38 = .ok (.new 26, 3) := by decide +kernel
theorem dX4_init_41 : decode cX4_init 41 = .ok (.dup, 1) := by decide +kernel
theorem dX4_init_42 : decode cX4_init 42 = .ok (.invokespecial 28, 3) := by decide +kernel
theorem dX4_init_45 : decode cX4_init 45 = .ok (.putfield 29, 3) := by decide +kernel
theorem dX4_init_48 : decode cX4_init 48 = .ok (.return_, 1) := by decide +kernel
set_option maxRecDepth 20000 in
theorem ggX4_begin_X1_save : GoodIn wsX4_begin wsX1_save := goodIn_r _ [9, 10, 11, 12, 13, 14, 15, 16, 17, 18, 8, 19, 20, 21, 22, 23, 24, 25, 26, 27, 28, 29, 30, 31, 32, 33, 34, 35, 36, 37, 38, 39, 40, 41, 42, 43, 44, 45, 46, 47, 68, 69, 70, 71, 72, 73, 74, 75, 76, 77, 78, 79, 80, 81, 82, 83, 84, 85, 86] (by decide +kernel) (by decide +kernel)
set_option maxRecDepth 20000 in
theorem gX4_begin_X1_save : GoodIn wsX4_begin (wsV RX4 40 RX1 yX1_save wsX1_save) := goodIn_app (goodIn_of _ (by decide +kernel)) ggX4_begin_X1_save
set_option maxRecDepth 20000 in
theorem ggX4_begin_X0_loaded : GoodIn wsX4_begin wsX0_loaded := goodIn_r _ [51, 27, 52, 53, 54, 43, 55, 45, 71, 72, 73, 74, 75, 76, 77, 78, 79, 80, 81, 82, 83, 84, 85, 86] (by decide +kernel) (by decide +kernel)
set_option maxRecDepth 20000 in
theorem gX4_begin_X0_loaded : GoodIn wsX4_begin (wsV RX4 44 RX0 yX0_loaded wsX0_loaded) := goodIn_app (goodIn_of _ (by decide +kernel)) ggX4_begin_X0_loaded
set_option maxRecDepth 20000 in
theorem ggX4_begin_X0_startAgain : GoodIn wsX4_begin wsX0_startAgain := goodIn_r _ [59, 26, 27, 28, 29, 30, 31, 32, 33, 34, 35, 36, 37, 38, 39, 60, 61, 62, 43, 63, 45, 71, 72, 73, 74, 75, 76, 77, 78, 79, 80, 81, 82, 83, 84, 85, 86] (by decide +kernel) (by decide +kernel)
set_option maxRecDepth 20000 in
theorem gX4_begin_X0_startAgain : GoodIn wsX4_begin (wsV RX4 48 RX0 yX0_startAgain wsX0_startAgain) := goodIn_app (goodIn_of _ (by decide +kernel)) ggX4_begin_X0_startAgain
theorem dX4_begin_0 : decode cX4_begin 0 = .ok (.iload_n 1, 1) := by decide +kernel
theorem dX4_begin_1 : decode cX4_begin 1 = .ok (.iconst 1, 1) := by decide +kernel
theorem dX4_begin_2 : decode cX4_begin 2 = .ok (.if_icmp .lt 9, 3) := by decide +kernel
theorem dX4_begin_5 : decode cX4_begin 5 = .ok (.iload_n 1, 1) := by decide +kernel
theorem dX4_begin_6 : decode cX4_begin 6 = .ok (.bipush 12, 2) := by decide +kernel
theorem dX4_begin_8 : decode cX4_begin 8 = .ok (.if_icmp .le 13, 3) := by decide +kernel
theorem dX4_begin_11 : decode cX4_begin 11 = .ok (.new 33, 3) := by decide +kernel
theorem dX4_begin_14 : decode cX4_begin 14 = .ok (.dup, 1) := by decide +kernel
theorem dX4_begin_15 : decode cX4_begin 15 = .ok (.ldc 35, 2) := by decide +kernel
theorem dX4_begin_17 : decode cX4_begin 17 = .ok (.invokespecial 37, 3) := by decide +kernel
theorem dX4_begin_20 : decode cX4_begin 20 = .ok (.athrow, 1) := by decide +kernel
theorem dX4_begin_21 : decode cX4_begin 21 = .ok (.aload_n 0, 1) := by decide +kernel
theorem dX4_begin_22 : decode cX4_begin 22 = .ok (.getfield 22, 3) := by decide +kernel
theorem dX4_begin_25 : decode cX4_begin 25 = .ok (.aload_n 0, 1) := by decide +kernel
theorem dX4_begin_26 : decode cX4_begin 26 = .ok (.getfield 10, 3) := by decide +kernel
theorem dX4_begin_29 : decode cX4_begin 29 = .ok (.invokevirtual 40, 3) := by decide +kernel
theorem dX4_begin_32 : decode cX4_begin 32 = .ok (.aload_n 0, 1) := by decide +kernel
theorem dX4_begin_33 : decode cX4_begin 33 = .ok (.getfield 10, 3) := by decide +kernel
theorem dX4_begin_36 : decode cX4_begin 36 = .ok (.invokevirtual 44, 3) := by decide +kernel
theorem dX4_begin_39 : decode cX4_begin 39 = .ok (.istore_n 2, 1) := by decide +kernel
theorem dX4_begin_40 : decode cX4_begin 40 = .ok (.aload_n 0, 1) := by decide +kernel
theorem dX4_begin_41 : decode cX4_begin 41 = .ok (.getfield 10, 3) := by decide +kernel
theorem dX4_begin_44 : decode cX4_begin 44 = .ok (.iload_n 1, 1) := by decide +kernel
theorem dX4_begin_45 : decode cX4_begin 45 = .ok (.invokevirtual 48, 3) := by decide +kernel
theorem dX4_begin_48 : decode cX4_begin 48 = .ok (.iload_n 2, 1) := by decide +kernel
theorem dX4_begin_49 : decode cX4_begin 49 = .ok (.ireturn, 1) := by decide +kernel
set_option maxRecDepth 20000 in
theorem ggX4_load_X0_allLoaded : GoodIn wsX4_load wsX0_allLoaded := goodIn_r _ [11, 12, 13, 14, 15, 16, 17, 18, 125, 126, 127, 128, 129, 130, 131, 132, 133, 134, 135, 136, 137, 138, 139, 140] (by decide +kernel) (by decide +kernel)
set_option maxRecDepth 20000 in
theorem gX4_load_X0_allLoaded : GoodIn wsX4_load (wsV RX4 54 RX0 yX0_allLoaded wsX0_allLoaded) := goodIn_app (goodIn_of _ (by decide +kernel)) ggX4_load_X0_allLoaded
set_option maxRecDepth 20000 in
theorem ggX4_load_X1_save : GoodIn wsX4_load wsX1_save := goodIn_r _ [23, 24, 25, 26, 27, 28, 29, 30, 31, 32, 22, 33, 34, 35, 36, 37, 10, 38, 39, 12, 40, 41, 42, 43, 44, 45, 46, 47, 48, 49, 50, 51, 52, 53, 54, 16, 55, 18, 56, 57, 141, 142, 143, 125, 126, 127, 128, 129, 130, 131, 132, 133, 134, 135, 136, 137, 138, 139, 140] (by decide +kernel) (by decide +kernel)
set_option maxRecDepth 20000 in
theorem gX4_load_X1_save : GoodIn wsX4_load (wsV RX4 40 RX1 yX1_save wsX1_save) := goodIn_app (goodIn_of _ (by decide +kernel)) ggX4_load_X1_save
set_option maxRecDepth 20000 in
theorem ggX4_load_X0_take : GoodIn wsX4_load wsX0_take := goodIn_r _ [61, 39, 42, 12, 40, 41, 62, 63, 64, 10, 65, 13, 14, 15, 16, 17, 18, 66, 67, 68, 69, 56, 70, 71, 72, 73, 46, 43, 74, 75, 76, 77, 78, 79, 80, 81, 82, 83, 84, 85, 86, 87, 88, 89, 47, 44, 45, 90, 91, 92, 93, 94, 95, 96, 97, 98, 99, 100, 101, 102, 103, 104, 105, 106, 107, 108, 109, 110, 111, 112, 113, 114, 115, 116, 117, 118, 119, 120, 125, 126, 127, 128, 129, 130, 131, 132, 133, 134, 135, 136, 137, 138, 139, 140] (by decide +kernel) (by decide +kernel)
set_option maxRecDepth 20000 in
theorem gX4_load_X0_take : GoodIn wsX4_load (wsV RX4 63 RX0 yX0_take wsX0_take) := goodIn_app (goodIn_of _ (by decide +kernel)) ggX4_load_X0_take
theorem dX4_load_0 : decode cX4_load 0 = .ok (.iload_n 1, 1) := by decide +kernel
theorem dX4_load_1 : decode cX4_load 1 = .ok (.ifCond .lt 21, 3) := by decide +kernel
theorem dX4_load_4 : decode cX4_load 4 = .ok (.iload_n 1, 1) := by decide +kernel
theorem dX4_load_5 : decode cX4_load 5 = .ok (.sipush 999, 3) := by decide +kernel
theorem dX4_load_8 : decode cX4_load 8 = .ok (.if_icmp .gt 14, 3) := by decide +kernel
theorem dX4_load_11 : decode cX4_load 11 = .ok (.iload_n 2, 1) := by decide +kernel
theorem dX4_load_12 : decode cX4_load 12 = .ok (.iconst 1, 1) := by decide +kernel
theorem dX4_load_13 : decode cX4_load 13 = .ok (.if_icmp .lt 9, 3) := by decide +kernel
theorem dX4_load_16 : decode cX4_load 16 = .ok (.iload_n 2, 1) := by decide +kernel
theorem dX4_load_17 : decode cX4_load 17 = .ok (.bipush 50, 2) := by decide +kernel
theorem dX4_load_19 : decode cX4_load 19 = .ok (.if_icmp .le 13, 3) := by decide +kernel
theorem dX4_load_22 : decode cX4_load 22 = .ok (.new 33, 3) := by decide +kernel
theorem dX4_load_25 : decode cX4_load 25 = .ok (.dup, 1) := by decide +kernel
theorem dX4_load_26 : decode cX4_load 26 = .ok (.ldc 52, 2) := by decide +kernel
theorem dX4_load_28 : decode cX4_load 28 = .ok (.invokespecial 37, 3) := by decide +kernel
theorem dX4_load_31 : decode cX4_load 31 = .ok (.athrow, 1) := by decide +kernel
theorem dX4_load_32 : decode cX4_load 32 = .ok (.aload_n 0, 1) := by decide +kernel
theorem dX4_load_33 : decode cX4_load 33 = .ok (.getfield 10, 3) := by decide +kernel
theorem dX4_load_36 : decode cX4_load 36 = .ok (.invokevirtual 54, 3) := by decide +kernel
theorem dX4_load_39 : decode cX4_load 39 = .ok (.ifCond .eq 13, 3) := by decide +kernel
theorem dX4_load_42 : decode cX4_load 42 = .ok (.new 58, 3) := by decide +kernel
theorem dX4_load_45 : decode cX4_load 45 = .ok (.dup, 1) := by decide +kernel
theorem dX4_load_46 : decode cX4_load 46 = .ok (.ldc 60, 2) := by decide +kernel
theorem dX4_load_48 : decode cX4_load 48 = .ok (.invokespecial 62, 3) := by decide +kernel
theorem dX4_load_51 : decode cX4_load 51 = .ok (.athrow, 1) := by decide +kernel
theorem dX4_load_52 : decode cX4_load 52 = .ok (.aload_n 0, 1) := by decide +kernel
theorem dX4_load_53 : decode cX4_load 53 = .ok (.getfield 22, 3) := by decide +kernel
theorem dX4_load_56 : decode cX4_load 56 = .ok (.aload_n 0, 1) := by decide +kernel
theorem dX4_load_57 : decode cX4_load 57 = .ok (.getfield 10, 3) := by decide +kernel
theorem dX4_load_60 : decode cX4_load 60 = .ok (.invokevirtual 40, 3) := by decide +kernel
theorem dX4_load_63 : decode cX4_load 63 = .ok (.aload_n 0, 1) := by decide +kernel
theorem dX4_load_64 : decode cX4_load 64 = .ok (.getfield 10, 3) := by decide +kernel
theorem dX4_load_67 : decode cX4_load 67 = .ok (.iload_n 1, 1) := by decide +kernel
theorem dX4_load_68 : decode cX4_load 68 = .ok (.iload_n 2, 1) := by decide +kernel
theorem dX4_load_69 : decode cX4_load 69 = .ok (.invokevirtual 63, 3) := by decide +kernel
theorem dX4_load_72 : decode cX4_load 72 = .ok (.ireturn, 1) := by decide +kernel
set_option maxRecDepth 20000 in
theorem ggX4_loadDrawn_X1_save : GoodIn wsX4_loadDrawn wsX1_save := goodIn_r _ [10, 11, 12, 13, 14, 15, 16, 17, 18, 19, 9, 20, 21, 22, 23, 24, 25, 26, 27, 28, 29, 30, 31, 32, 33, 34, 35, 36, 37, 38, 39, 40, 41, 42, 43, 44, 45, 46, 47, 48, 134, 135, 136, 137, 138, 139, 140, 141, 142, 143, 144, 145, 146, 147, 148, 149, 150, 151, 152] (by decide +kernel) (by decide +kernel)
set_option maxRecDepth 20000 in
theorem gX4_loadDrawn_X1_save : GoodIn wsX4_loadDrawn (wsV RX4 40 RX1 yX1_save wsX1_save) := goodIn_app (goodIn_of _ (by decide +kernel)) ggX4_loadDrawn_X1_save
set_option maxRecDepth 20000 in
theorem ggX4_loadDrawn_X0_takeDrawn : GoodIn wsX4_loadDrawn wsX0_takeDrawn := goodIn_r _ [52, 53, 54, 55, 56, 57, 58, 59, 60, 61, 25, 62, 28, 63, 64, 65, 44, 66, 46, 67, 68, 69, 70, 27, 31, 29, 30, 71, 72, 73, 74, 75, 76, 77, 78, 47, 79, 80, 81, 82, 35, 32, 83, 84, 85, 86, 87, 88, 89, 90, 91, 92, 93, 94, 95, 96, 97, 98, 36, 33, 34, 99, 100, 101, 102, 103, 104, 105, 106, 107, 108, 109, 110, 111, 112, 113, 114, 115, 116, 117, 118, 119, 120, 121, 122, 123, 124, 125, 126, 127, 128, 129, 137, 138, 139, 140, 141, 142, 143, 144, 145, 146, 147, 148, 149, 150, 151, 152] (by decide +kernel) (by decide +kernel)
set_option maxRecDepth 20000 in
theorem gX4_loadDrawn_X0_takeDrawn : GoodIn wsX4_loadDrawn (wsV RX4 70 RX0 yX0_takeDrawn wsX0_takeDrawn) := goodIn_app (goodIn_of _ (by decide +kernel)) ggX4_loadDrawn_X0_takeDrawn
theorem dX4_loadDrawn_0 : decode cX4_loadDrawn 0 = .ok (.iload_n 1, 1) := by decide +kernel
theorem dX4_loadDrawn_1 : decode cX4_loadDrawn 1 = .ok (.ifCond .lt 32, 3) := by decide +kernel
theorem dX4_loadDrawn_4 : decode cX4_loadDrawn 4 = .ok (.iload_n 1, 1) := by decide +kernel
theorem dX4_loadDrawn_5 : decode cX4_loadDrawn 5 = .ok (.ldc 67, 2) := by decide +kernel
theorem dX4_loadDrawn_7 : decode cX4_loadDrawn 7 = .ok (.if_icmp .gt 26, 3) := by decide +kernel
theorem dX4_loadDrawn_10 : decode cX4_loadDrawn 10 = .ok (.iload_n 2, 1) := by decide +kernel
theorem dX4_loadDrawn_11 : decode cX4_loadDrawn 11 = .ok (.iconst 1, 1) := by decide +kernel
theorem dX4_loadDrawn_12 : decode cX4_loadDrawn 12 = .ok (.if_icmp .lt 21, 3) := by decide +kernel
theorem dX4_loadDrawn_15 : decode cX4_loadDrawn 15 = .ok (.iload_n 2, 1) := by decide +kernel
theorem dX4_loadDrawn_16 : decode cX4_loadDrawn 16 = .ok (.bipush 60, 2) := by decide +kernel
theorem dX4_loadDrawn_18 : decode cX4_loadDrawn 18 = .ok (.if_icmp .gt 15, 3) := by decide +kernel
theorem dX4_loadDrawn_21 : decode cX4_loadDrawn 21 = .ok (.iload_n 3, 1) := by decide +kernel
theorem dX4_loadDrawn_22 : decode cX4_loadDrawn 22 = .ok (.iconst 1, 1) := by decide +kernel
theorem dX4_loadDrawn_23 : decode cX4_loadDrawn 23 = .ok (.if_icmp .lt 10, 3) := by decide +kernel
theorem dX4_loadDrawn_26 : decode cX4_loadDrawn 26 = .ok (.iload_n 3, 1) := by decide +kernel
theorem dX4_loadDrawn_27 : decode cX4_loadDrawn 27 = .ok (.sipush 1000, 3) := by decide +kernel
theorem dX4_loadDrawn_30 : decode cX4_loadDrawn 30 = .ok (.if_icmp .le 13, 3) := by decide +kernel
theorem dX4_loadDrawn_33 : decode cX4_loadDrawn 33 = .ok (.new 33, 3) := by decide +kernel
theorem dX4_loadDrawn_36 : decode cX4_loadDrawn 36 = .ok (.dup, 1) := by decide +kernel
theorem dX4_loadDrawn_37 : decode cX4_loadDrawn 37 = .ok (.ldc 68, 2) := by decide +kernel
theorem dX4_loadDrawn_39 : decode cX4_loadDrawn 39 = .ok (.invokespecial 37, 3) := by decide +kernel
theorem dX4_loadDrawn_42 : decode cX4_loadDrawn 42 = .ok (.athrow, 1) := by decide +kernel
theorem dX4_loadDrawn_43 : decode cX4_loadDrawn 43 = .ok (.aload_n 0, 1) := by decide +kernel
theorem dX4_loadDrawn_44 : decode cX4_loadDrawn 44 = .ok (.getfield 22, 3) := by decide +kernel
theorem dX4_loadDrawn_47 : decode cX4_loadDrawn 47 = .ok (.aload_n 0, 1) := by decide +kernel
theorem dX4_loadDrawn_48 : decode cX4_loadDrawn 48 = .ok (.getfield 10, 3) := by decide +kernel
theorem dX4_loadDrawn_51 : decode cX4_loadDrawn 51 = .ok (.invokevirtual 40, 3) := by decide +kernel
theorem dX4_loadDrawn_54 : decode cX4_loadDrawn 54 = .ok (.aload_n 0, 1) := by decide +kernel
theorem dX4_loadDrawn_55 : decode cX4_loadDrawn 55 = .ok (.getfield 10, 3) := by decide +kernel
theorem dX4_loadDrawn_58 : decode cX4_loadDrawn 58 = .ok (.iload_n 1, 1) := by decide +kernel
theorem dX4_loadDrawn_59 : decode cX4_loadDrawn 59 = .ok (.iload_n 2, 1) := by decide +kernel
theorem dX4_loadDrawn_60 : decode cX4_loadDrawn 60 = .ok (.iload_n 3, 1) := by decide +kernel
theorem dX4_loadDrawn_61 : decode cX4_loadDrawn 61 = .ok (.invokevirtual 70, 3) := by decide +kernel
theorem dX4_loadDrawn_64 : decode cX4_loadDrawn 64 = .ok (.ireturn, 1) := by decide +kernel
set_option maxRecDepth 20000 in
theorem ggX4_empty_X1_save : GoodIn wsX4_empty wsX1_save := goodIn_r _ [7, 8, 9, 10, 11, 12, 13, 14, 15, 16, 6, 17, 18, 19, 20, 21, 22, 23, 24, 25, 26, 27, 28, 29, 30, 31, 32, 33, 34, 35, 36, 37, 38, 39, 40, 41, 42, 43, 44, 45, 112, 113, 114, 115, 116, 117, 118, 119, 120, 121, 122, 123, 124, 125, 126, 127, 128, 129, 130] (by decide +kernel) (by decide +kernel)
set_option maxRecDepth 20000 in
theorem gX4_empty_X1_save : GoodIn wsX4_empty (wsV RX4 40 RX1 yX1_save wsX1_save) := goodIn_app (goodIn_of _ (by decide +kernel)) ggX4_empty_X1_save
set_option maxRecDepth 20000 in
theorem ggX4_empty_X0_throwAll : GoodIn wsX4_empty wsX0_throwAll := goodIn_r _ [49, 32, 29, 50, 51, 52, 22, 53, 27, 54, 55, 56, 41, 57, 43, 58, 59, 60, 61, 44, 62, 63, 64, 65, 66, 67, 68, 69, 28, 70, 71, 72, 73, 74, 75, 76, 77, 25, 78, 79, 80, 81, 33, 30, 31, 82, 83, 84, 85, 86, 87, 88, 89, 90, 91, 92, 93, 94, 95, 96, 97, 26, 98, 99, 100, 101, 102, 103, 104, 105, 106, 107, 115, 116, 117, 118, 119, 120, 121, 122, 123, 124, 125, 126, 127, 128, 129, 130] (by decide +kernel) (by decide +kernel)
set_option maxRecDepth 20000 in
theorem gX4_empty_X0_throwAll : GoodIn wsX4_empty (wsV RX4 74 RX0 yX0_throwAll wsX0_throwAll) := goodIn_app (goodIn_of _ (by decide +kernel)) ggX4_empty_X0_throwAll
theorem dX4_empty_0 : decode cX4_empty 0 = .ok (.aload_n 0, 1) := by decide +kernel
theorem dX4_empty_1 : decode cX4_empty 1 = .ok (.getfield 22, 3) := by decide +kernel
theorem dX4_empty_4 : decode cX4_empty 4 = .ok (.aload_n 0, 1) := by decide +kernel
theorem dX4_empty_5 : decode cX4_empty 5 = .ok (.getfield 10, 3) := by decide +kernel
theorem dX4_empty_8 : decode cX4_empty 8 = .ok (.invokevirtual 40, 3) := by decide +kernel
theorem dX4_empty_11 : decode cX4_empty 11 = .ok (.aload_n 0, 1) := by decide +kernel
theorem dX4_empty_12 : decode cX4_empty 12 = .ok (.getfield 10, 3) := by decide +kernel
theorem dX4_empty_15 : decode cX4_empty 15 = .ok (.invokevirtual 74, 3) := by decide +kernel
theorem dX4_empty_18 : decode cX4_empty 18 = .ok (.ireturn, 1) := by decide +kernel
set_option maxRecDepth 20000 in
theorem ggX4_merge_X0_hasRun : GoodIn wsX4_merge wsX0_hasRun := goodIn_r _ [11, 12, 13, 14, 15, 16, 17, 18, 19, 100, 101, 102, 103, 104, 105, 106, 107, 108, 109, 110, 111, 112, 113, 114, 115] (by decide +kernel) (by decide +kernel)
set_option maxRecDepth 20000 in
theorem gX4_merge_X0_hasRun : GoodIn wsX4_merge (wsV RX4 77 RX0 yX0_hasRun wsX0_hasRun) := goodIn_app (goodIn_of _ (by decide +kernel)) ggX4_merge_X0_hasRun
set_option maxRecDepth 20000 in
theorem ggX4_merge_X1_save : GoodIn wsX4_merge wsX1_save := goodIn_r _ [24, 25, 26, 27, 28, 29, 30, 31, 32, 33, 23, 34, 35, 36, 37, 38, 10, 39, 40, 41, 42, 43, 44, 12, 45, 46, 47, 48, 49, 50, 51, 52, 53, 54, 55, 16, 56, 18, 19, 57, 116, 117, 118, 100, 101, 102, 103, 104, 105, 106, 107, 108, 109, 110, 111, 112, 113, 114, 115] (by decide +kernel) (by decide +kernel)
set_option maxRecDepth 20000 in
theorem gX4_merge_X1_save : GoodIn wsX4_merge (wsV RX4 40 RX1 yX1_save wsX1_save) := goodIn_app (goodIn_of _ (by decide +kernel)) ggX4_merge_X1_save
set_option maxRecDepth 20000 in
theorem ggX4_merge_X0_join : GoodIn wsX4_merge wsX0_join := goodIn_r _ [61, 62, 28, 29, 30, 63, 64, 65, 12, 46, 47, 49, 50, 66, 67, 68, 10, 69, 43, 70, 71, 72, 16, 73, 18, 74, 75, 76, 77, 19, 78, 79, 80, 81, 13, 14, 15, 17, 82, 83, 84, 85, 86, 87, 88, 89, 90, 91, 45, 92, 93, 94, 95, 100, 101, 102, 103, 104, 105, 106, 107, 108, 109, 110, 111, 112, 113, 114, 115] (by decide +kernel) (by decide +kernel)
set_option maxRecDepth 20000 in
theorem gX4_merge_X0_join : GoodIn wsX4_merge (wsV RX4 88 RX0 yX0_join wsX0_join) := goodIn_app (goodIn_of _ (by decide +kernel)) ggX4_merge_X0_join
theorem dX4_merge_0 : decode cX4_merge 0 = .ok (.aload_n 0, 1) := by decide +kernel
theorem dX4_merge_1 : decode cX4_merge 1 = .ok (.getfield 10, 3) := by decide +kernel
theorem dX4_merge_4 : decode cX4_merge 4 = .ok (.iload_n 1, 1) := by decide +kernel
theorem dX4_merge_5 : decode cX4_merge 5 = .ok (.invokevirtual 77, 3) := by decide +kernel
theorem dX4_merge_8 : decode cX4_merge 8 = .ok (.ifCond .eq 14, 3) := by decide +kernel
theorem dX4_merge_11 : decode cX4_merge 11 = .ok (.aload_n 0, 1) := by decide +kernel
theorem dX4_merge_12 : decode cX4_merge 12 = .ok (.getfield 10, 3) := by decide +kernel
theorem dX4_merge_15 : decode cX4_merge 15 = .ok (.iload_n 2, 1) := by decide +kernel
theorem dX4_merge_16 : decode cX4_merge 16 = .ok (.invokevirtual 77, 3) := by decide +kernel
theorem dX4_merge_19 : decode cX4_merge 19 = .ok (.ifCond .ne 13, 3) := by decide +kernel
theorem dX4_merge_22 : decode cX4_merge 22 = .ok (.new 81, 3) := by decide +kernel
theorem dX4_merge_25 : decode cX4_merge 25 = .ok (.dup, 1) := by decide +kernel
theorem dX4_merge_26 : decode cX4_merge 26 = .ok (.ldc 83, 2) := by decide +kernel
theorem dX4_merge_28 : decode cX4_merge 28 = .ok (.invokespecial 85, 3) := by decide +kernel
theorem dX4_merge_31 : decode cX4_merge 31 = .ok (.athrow, 1) := by decide +kernel
theorem dX4_merge_32 : decode cX4_merge 32 = .ok (.iload_n 1, 1) := by decide +kernel
theorem dX4_merge_33 : decode cX4_merge 33 = .ok (.iload_n 2, 1) := by decide +kernel
theorem dX4_merge_34 : decode cX4_merge 34 = .ok (.if_icmp .ne 13, 3) := by decide +kernel
theorem dX4_merge_37 : decode cX4_merge 37 = .ok (.new 33, 3) := by decide +kernel
theorem dX4_merge_40 : decode cX4_merge 40 = .ok (.dup, 1) := by decide +kernel
theorem dX4_merge_41 : decode cX4_merge 41 = .ok (.ldc 86, 2) := by decide +kernel
theorem dX4_merge_43 : decode cX4_merge 43 = .ok (.invokespecial 37, 3) := by decide +kernel
theorem dX4_merge_46 : decode cX4_merge 46 = .ok (.athrow, 1) := by decide +kernel
theorem dX4_merge_47 : decode cX4_merge 47 = .ok (.aload_n 0, 1) := by decide +kernel
theorem dX4_merge_48 : decode cX4_merge 48 = .ok (.getfield 22, 3) := by decide +kernel
theorem dX4_merge_51 : decode cX4_merge 51 = .ok (.aload_n 0, 1) := by decide +kernel
theorem dX4_merge_52 : decode cX4_merge 52 = .ok (.getfield 10, 3) := by decide +kernel
theorem dX4_merge_55 : decode cX4_merge 55 = .ok (.invokevirtual 40, 3) := by decide +kernel
theorem dX4_merge_58 : decode cX4_merge 58 = .ok (.aload_n 0, 1) := by decide +kernel
theorem dX4_merge_59 : decode cX4_merge 59 = .ok (.getfield 10, 3) := by decide +kernel
theorem dX4_merge_62 : decode cX4_merge 62 = .ok (.iload_n 1, 1) := by decide +kernel
theorem dX4_merge_63 : decode cX4_merge 63 = .ok (.iload_n 2, 1) := by decide +kernel
theorem dX4_merge_64 : decode cX4_merge 64 = .ok (.invokevirtual 88, 3) := by decide +kernel
theorem dX4_merge_67 : decode cX4_merge 67 = .ok (.ireturn, 1) := by decide +kernel
set_option maxRecDepth 20000 in
theorem ggX4_mergeLightest_X0_runs : GoodIn wsX4_mergeLightest wsX0_runs := goodIn_r _ [9, 10, 11, 12, 13, 14, 15, 16, 106, 107, 108, 109, 110, 111, 112, 113, 114, 115, 116, 117, 118, 119, 120, 121] (by decide +kernel) (by decide +kernel)
set_option maxRecDepth 20000 in
theorem gX4_mergeLightest_X0_runs : GoodIn wsX4_mergeLightest (wsV RX4 91 RX0 yX0_runs wsX0_runs) := goodIn_app (goodIn_of _ (by decide +kernel)) ggX4_mergeLightest_X0_runs
set_option maxRecDepth 20000 in
theorem ggX4_mergeLightest_X1_save : GoodIn wsX4_mergeLightest wsX1_save := goodIn_r _ [21, 22, 23, 24, 25, 26, 27, 28, 29, 30, 20, 31, 32, 33, 34, 35, 8, 36, 37, 38, 39, 40, 41, 10, 42, 43, 44, 45, 46, 47, 48, 49, 50, 51, 52, 14, 53, 16, 54, 55, 122, 123, 124, 106, 107, 108, 109, 110, 111, 112, 113, 114, 115, 116, 117, 118, 119, 120, 121] (by decide +kernel) (by decide +kernel)
set_option maxRecDepth 20000 in
theorem gX4_mergeLightest_X1_save : GoodIn wsX4_mergeLightest (wsV RX4 40 RX1 yX1_save wsX1_save) := goodIn_app (goodIn_of _ (by decide +kernel)) ggX4_mergeLightest_X1_save
set_option maxRecDepth 20000 in
theorem ggX4_mergeLightest_X0_joinLightest : GoodIn wsX4_mergeLightest wsX0_joinLightest := goodIn_r _ [59, 10, 60, 25, 26, 27, 61, 62, 63, 8, 64, 43, 11, 12, 13, 14, 15, 16, 65, 66, 67, 68, 54, 69, 70, 71, 72, 73, 74, 75, 44, 46, 47, 76, 77, 78, 79, 40, 80, 81, 82, 83, 84, 85, 86, 87, 88, 89, 90, 91, 92, 93, 94, 95, 96, 97, 42, 98, 99, 100, 101, 106, 107, 108, 109, 110, 111, 112, 113, 114, 115, 116, 117, 118, 119, 120, 121] (by decide +kernel) (by decide +kernel)
set_option maxRecDepth 20000 in
theorem gX4_mergeLightest_X0_joinLightest : GoodIn wsX4_mergeLightest (wsV RX4 96 RX0 yX0_joinLightest wsX0_joinLightest) := goodIn_app (goodIn_of _ (by decide +kernel)) ggX4_mergeLightest_X0_joinLightest
theorem dX4_mergeLightest_0 : decode cX4_mergeLightest 0 = .ok (.aload_n 0, 1) := by decide +kernel
theorem dX4_mergeLightest_1 : decode cX4_mergeLightest 1 = .ok (.getfield 10, 3) := by decide +kernel
theorem dX4_mergeLightest_4 : decode cX4_mergeLightest 4 = .ok (.invokevirtual 91, 3) := by decide +kernel
theorem dX4_mergeLightest_7 : decode cX4_mergeLightest 7 = .ok (.iconst 2, 1) := by decide +kernel
theorem dX4_mergeLightest_8 : decode cX4_mergeLightest 8 = .ok (.if_icmp .ge 13, 3) := by decide +kernel
theorem dX4_mergeLightest_11 : decode cX4_mergeLightest 11 = .ok (.new 58, 3) := by decide +kernel
theorem dX4_mergeLightest_14 : decode cX4_mergeLightest 14 = .ok (.dup, 1) := by decide +kernel
theorem dX4_mergeLightest_15 : decode cX4_mergeLightest 15 = .ok (.ldc 94, 2) := by decide +kernel
theorem dX4_mergeLightest_17 : decode cX4_mergeLightest 17 = .ok (.invokespecial 62, 3) := by decide +kernel
theorem dX4_mergeLightest_20 : decode cX4_mergeLightest 20 = .ok (.athrow, 1) := by decide +kernel
theorem dX4_mergeLightest_21 : decode cX4_mergeLightest 21 = .ok (.aload_n 0, 1) := by decide +kernel
theorem dX4_mergeLightest_22 : decode cX4_mergeLightest 22 = .ok (.getfield 22, 3) := by decide +kernel
theorem dX4_mergeLightest_25 : decode cX4_mergeLightest 25 = .ok (.aload_n 0, 1) := by decide +kernel
theorem dX4_mergeLightest_26 : decode cX4_mergeLightest 26 = .ok (.getfield 10, 3) := by decide +kernel
theorem dX4_mergeLightest_29 : decode cX4_mergeLightest 29 = .ok (.invokevirtual 40, 3) := by decide +kernel
theorem dX4_mergeLightest_32 : decode cX4_mergeLightest 32 = .ok (.aload_n 0, 1) := by decide +kernel
theorem dX4_mergeLightest_33 : decode cX4_mergeLightest 33 = .ok (.getfield 10, 3) := by decide +kernel
theorem dX4_mergeLightest_36 : decode cX4_mergeLightest 36 = .ok (.invokevirtual 96, 3) := by decide +kernel
theorem dX4_mergeLightest_39 : decode cX4_mergeLightest 39 = .ok (.ireturn, 1) := by decide +kernel
set_option maxRecDepth 20000 in
theorem ggX4_storm_X1_save : GoodIn wsX4_storm wsX1_save := goodIn_r _ [9, 10, 11, 12, 13, 14, 15, 16, 17, 18, 8, 19, 20, 21, 22, 23, 24, 25, 26, 27, 28, 29, 30, 31, 32, 33, 34, 35, 36, 37, 38, 39, 40, 41, 42, 43, 44, 45, 46, 47, 101, 102, 103, 104, 105, 106, 107, 108, 109, 110, 111, 112, 113, 114, 115, 116, 117, 118, 119] (by decide +kernel) (by decide +kernel)
set_option maxRecDepth 20000 in
theorem gX4_storm_X1_save : GoodIn wsX4_storm (wsV RX4 40 RX1 yX1_save wsX1_save) := goodIn_app (goodIn_of _ (by decide +kernel)) ggX4_storm_X1_save
set_option maxRecDepth 20000 in
theorem ggX4_storm_X0_breakRuns : GoodIn wsX4_storm wsX0_breakRuns := goodIn_r _ [51, 31, 32, 52, 53, 14, 54, 34, 38, 39, 55, 56, 57, 43, 58, 45, 59, 60, 61, 62, 46, 63, 64, 65, 24, 66, 29, 67, 68, 69, 70, 30, 33, 28, 71, 72, 73, 74, 35, 75, 76, 77, 78, 79, 80, 81, 82, 83, 84, 85, 86, 87, 88, 89, 90, 91, 92, 93, 94, 95, 96, 104, 105, 106, 107, 108, 109, 110, 111, 112, 113, 114, 115, 116, 117, 118, 119] (by decide +kernel) (by decide +kernel)
set_option maxRecDepth 20000 in
theorem gX4_storm_X0_breakRuns : GoodIn wsX4_storm (wsV RX4 101 RX0 yX0_breakRuns wsX0_breakRuns) := goodIn_app (goodIn_of _ (by decide +kernel)) ggX4_storm_X0_breakRuns
theorem dX4_storm_0 : decode cX4_storm 0 = .ok (.iload_n 1, 1) := by decide +kernel
theorem dX4_storm_1 : decode cX4_storm 1 = .ok (.iconst 1, 1) := by decide +kernel
theorem dX4_storm_2 : decode cX4_storm 2 = .ok (.if_icmp .lt 9, 3) := by decide +kernel
theorem dX4_storm_5 : decode cX4_storm 5 = .ok (.iload_n 1, 1) := by decide +kernel
theorem dX4_storm_6 : decode cX4_storm 6 = .ok (.bipush 9, 2) := by decide +kernel
theorem dX4_storm_8 : decode cX4_storm 8 = .ok (.if_icmp .le 13, 3) := by decide +kernel
theorem dX4_storm_11 : decode cX4_storm 11 = .ok (.new 33, 3) := by decide +kernel
theorem dX4_storm_14 : decode cX4_storm 14 = .ok (.dup, 1) := by decide +kernel
theorem dX4_storm_15 : decode cX4_storm 15 = .ok (.ldc 99, 2) := by decide +kernel
theorem dX4_storm_17 : decode cX4_storm 17 = .ok (.invokespecial 37, 3) := by decide +kernel
theorem dX4_storm_20 : decode cX4_storm 20 = .ok (.athrow, 1) := by decide +kernel
theorem dX4_storm_21 : decode cX4_storm 21 = .ok (.aload_n 0, 1) := by decide +kernel
theorem dX4_storm_22 : decode cX4_storm 22 = .ok (.getfield 22, 3) := by decide +kernel
theorem dX4_storm_25 : decode cX4_storm 25 = .ok (.aload_n 0, 1) := by decide +kernel
theorem dX4_storm_26 : decode cX4_storm 26 = .ok (.getfield 10, 3) := by decide +kernel
theorem dX4_storm_29 : decode cX4_storm 29 = .ok (.invokevirtual 40, 3) := by decide +kernel
theorem dX4_storm_32 : decode cX4_storm 32 = .ok (.aload_n 0, 1) := by decide +kernel
theorem dX4_storm_33 : decode cX4_storm 33 = .ok (.getfield 10, 3) := by decide +kernel
theorem dX4_storm_36 : decode cX4_storm 36 = .ok (.iload_n 1, 1) := by decide +kernel
theorem dX4_storm_37 : decode cX4_storm 37 = .ok (.invokevirtual 101, 3) := by decide +kernel
theorem dX4_storm_40 : decode cX4_storm 40 = .ok (.ireturn, 1) := by decide +kernel
set_option maxRecDepth 20000 in
theorem ggX4_tighten_X0_hasRun : GoodIn wsX4_tighten wsX0_hasRun := goodIn_r _ [9, 10, 11, 12, 13, 14, 15, 16, 17, 73, 74, 75, 76, 77, 78, 79, 80, 81, 82, 83, 84, 85, 86, 87, 88] (by decide +kernel) (by decide +kernel)
set_option maxRecDepth 20000 in
theorem gX4_tighten_X0_hasRun : GoodIn wsX4_tighten (wsV RX4 77 RX0 yX0_hasRun wsX0_hasRun) := goodIn_app (goodIn_of _ (by decide +kernel)) ggX4_tighten_X0_hasRun
set_option maxRecDepth 20000 in
theorem ggX4_tighten_X1_save : GoodIn wsX4_tighten wsX1_save := goodIn_r _ [22, 23, 24, 25, 26, 27, 28, 29, 30, 31, 21, 32, 33, 34, 35, 36, 8, 37, 38, 39, 40, 41, 42, 10, 43, 44, 45, 46, 47, 48, 49, 50, 51, 52, 53, 14, 54, 16, 17, 55, 89, 90, 91, 73, 74, 75, 76, 77, 78, 79, 80, 81, 82, 83, 84, 85, 86, 87, 88] (by decide +kernel) (by decide +kernel)
set_option maxRecDepth 20000 in
theorem gX4_tighten_X1_save : GoodIn wsX4_tighten (wsV RX4 40 RX1 yX1_save wsX1_save) := goodIn_app (goodIn_of _ (by decide +kernel)) ggX4_tighten_X1_save
set_option maxRecDepth 20000 in
theorem ggX4_tighten_X0_strengthen : GoodIn wsX4_tighten wsX0_strengthen := goodIn_r _ [59, 10, 43, 60, 26, 27, 28, 11, 12, 13, 14, 15, 16, 17, 61, 62, 63, 64, 65, 66, 67, 68, 73, 74, 75, 76, 77, 78, 79, 80, 81, 82, 83, 84, 85, 86, 87, 88] (by decide +kernel) (by decide +kernel)
set_option maxRecDepth 20000 in
theorem gX4_tighten_X0_strengthen : GoodIn wsX4_tighten (wsV RX4 105 RX0 yX0_strengthen wsX0_strengthen) := goodIn_app (goodIn_of _ (by decide +kernel)) ggX4_tighten_X0_strengthen
theorem dX4_tighten_0 : decode cX4_tighten 0 = .ok (.aload_n 0, 1) := by decide +kernel
theorem dX4_tighten_1 : decode cX4_tighten 1 = .ok (.getfield 10, 3) := by decide +kernel
theorem dX4_tighten_4 : decode cX4_tighten 4 = .ok (.iload_n 1, 1) := by decide +kernel
theorem dX4_tighten_5 : decode cX4_tighten 5 = .ok (.invokevirtual 77, 3) := by decide +kernel
theorem dX4_tighten_8 : decode cX4_tighten 8 = .ok (.ifCond .ne 13, 3) := by decide +kernel
theorem dX4_tighten_11 : decode cX4_tighten 11 = .ok (.new 81, 3) := by decide +kernel
theorem dX4_tighten_14 : decode cX4_tighten 14 = .ok (.dup, 1) := by decide +kernel
theorem dX4_tighten_15 : decode cX4_tighten 15 = .ok (.ldc 83, 2) := by decide +kernel
theorem dX4_tighten_17 : decode cX4_tighten 17 = .ok (.invokespecial 85, 3) := by decide +kernel
theorem dX4_tighten_20 : decode cX4_tighten 20 = .ok (.athrow, 1) := by decide +kernel
theorem dX4_tighten_21 : decode cX4_tighten 21 = .ok (.aload_n 0, 1) := by decide +kernel
theorem dX4_tighten_22 : decode cX4_tighten 22 = .ok (.getfield 22, 3) := by decide +kernel
theorem dX4_tighten_25 : decode cX4_tighten 25 = .ok (.aload_n 0, 1) := by decide +kernel
theorem dX4_tighten_26 : decode cX4_tighten 26 = .ok (.getfield 10, 3) := by decide +kernel
theorem dX4_tighten_29 : decode cX4_tighten 29 = .ok (.invokevirtual 40, 3) := by decide +kernel
theorem dX4_tighten_32 : decode cX4_tighten 32 = .ok (.aload_n 0, 1) := by decide +kernel
theorem dX4_tighten_33 : decode cX4_tighten 33 = .ok (.getfield 10, 3) := by decide +kernel
theorem dX4_tighten_36 : decode cX4_tighten 36 = .ok (.iload_n 1, 1) := by decide +kernel
theorem dX4_tighten_37 : decode cX4_tighten 37 = .ok (.invokevirtual 105, 3) := by decide +kernel
theorem dX4_tighten_40 : decode cX4_tighten 40 = .ok (.ireturn, 1) := by decide +kernel
set_option maxRecDepth 20000 in
theorem ggX4_land_X0_hasRun : GoodIn wsX4_land wsX0_hasRun := goodIn_r _ [11, 12, 13, 14, 15, 16, 17, 18, 19, 110, 111, 112, 113, 114, 115, 116, 117, 118, 119, 120, 121, 122, 123, 124, 125] (by decide +kernel) (by decide +kernel)
set_option maxRecDepth 20000 in
theorem gX4_land_X0_hasRun : GoodIn wsX4_land (wsV RX4 77 RX0 yX0_hasRun wsX0_hasRun) := goodIn_app (goodIn_of _ (by decide +kernel)) ggX4_land_X0_hasRun
set_option maxRecDepth 20000 in
theorem ggX4_land_X0_canBringAshore : GoodIn wsX4_land wsX0_canBringAshore := goodIn_r _ [23, 24, 25, 26, 10, 27, 28, 29, 30, 31, 32, 16, 33, 18, 34, 35, 36, 37, 19, 38, 39, 40, 41, 42, 43, 44, 45, 46, 110, 111, 112, 113, 114, 115, 116, 117, 118, 119, 120, 121, 122, 123, 124, 125] (by decide +kernel) (by decide +kernel)
set_option maxRecDepth 20000 in
theorem gX4_land_X0_canBringAshore : GoodIn wsX4_land (wsV RX4 108 RX0 yX0_canBringAshore wsX0_canBringAshore) := goodIn_app (goodIn_of _ (by decide +kernel)) ggX4_land_X0_canBringAshore
set_option maxRecDepth 20000 in
theorem ggX4_land_X1_save : GoodIn wsX4_land wsX1_save := goodIn_r _ [51, 52, 53, 54, 55, 56, 57, 58, 59, 60, 50, 61, 62, 63, 64, 65, 10, 66, 67, 46, 68, 29, 28, 12, 69, 70, 71, 72, 73, 74, 75, 76, 77, 78, 79, 16, 80, 18, 19, 81, 126, 127, 128, 110, 111, 112, 113, 114, 115, 116, 117, 118, 119, 120, 121, 122, 123, 124, 125] (by decide +kernel) (by decide +kernel)
set_option maxRecDepth 20000 in
theorem gX4_land_X1_save : GoodIn wsX4_land (wsV RX4 40 RX1 yX1_save wsX1_save) := goodIn_app (goodIn_of _ (by decide +kernel)) ggX4_land_X1_save
set_option maxRecDepth 20000 in
theorem ggX4_land_X0_bringAshore : GoodIn wsX4_land wsX0_bringAshore := goodIn_r _ [85, 12, 71, 86, 87, 88, 10, 89, 29, 30, 31, 32, 16, 33, 18, 34, 35, 36, 37, 19, 90, 91, 92, 93, 13, 14, 15, 17, 94, 95, 96, 97, 69, 70, 98, 99, 100, 101, 102, 103, 104, 105, 110, 111, 112, 113, 114, 115, 116, 117, 118, 119, 120, 121, 122, 123, 124, 125] (by decide +kernel) (by decide +kernel)
set_option maxRecDepth 20000 in
theorem gX4_land_X0_bringAshore : GoodIn wsX4_land (wsV RX4 113 RX0 yX0_bringAshore wsX0_bringAshore) := goodIn_app (goodIn_of _ (by decide +kernel)) ggX4_land_X0_bringAshore
theorem dX4_land_0 : decode cX4_land 0 = .ok (.aload_n 0, 1) := by decide +kernel
theorem dX4_land_1 : decode cX4_land 1 = .ok (.getfield 10, 3) := by decide +kernel
theorem dX4_land_4 : decode cX4_land 4 = .ok (.iload_n 1, 1) := by decide +kernel
theorem dX4_land_5 : decode cX4_land 5 = .ok (.invokevirtual 77, 3) := by decide +kernel
theorem dX4_land_8 : decode cX4_land 8 = .ok (.ifCond .ne 13, 3) := by decide +kernel
theorem dX4_land_11 : decode cX4_land 11 = .ok (.new 81, 3) := by decide +kernel
theorem dX4_land_14 : decode cX4_land 14 = .ok (.dup, 1) := by decide +kernel
theorem dX4_land_15 : decode cX4_land 15 = .ok (.ldc 83, 2) := by decide +kernel
theorem dX4_land_17 : decode cX4_land 17 = .ok (.invokespecial 85, 3) := by decide +kernel
theorem dX4_land_20 : decode cX4_land 20 = .ok (.athrow, 1) := by decide +kernel
theorem dX4_land_21 : decode cX4_land 21 = .ok (.aload_n 0, 1) := by decide +kernel
theorem dX4_land_22 : decode cX4_land 22 = .ok (.getfield 10, 3) := by decide +kernel
theorem dX4_land_25 : decode cX4_land 25 = .ok (.iload_n 1, 1) := by decide +kernel
theorem dX4_land_26 : decode cX4_land 26 = .ok (.invokevirtual 108, 3) := by decide +kernel
theorem dX4_land_29 : decode cX4_land 29 = .ok (.ifCond .ne 13, 3) := by decide +kernel
theorem dX4_land_32 : decode cX4_land 32 = .ok (.new 58, 3) := by decide +kernel
theorem dX4_land_35 : decode cX4_land 35 = .ok (.dup, 1) := by decide +kernel
theorem dX4_land_36 : decode cX4_land 36 = .ok (.ldc 111, 2) := by decide +kernel
theorem dX4_land_38 : decode cX4_land 38 = .ok (.invokespecial 62, 3) := by decide +kernel
theorem dX4_land_41 : decode cX4_land 41 = .ok (.athrow, 1) := by decide +kernel
theorem dX4_land_42 : decode cX4_land 42 = .ok (.aload_n 0, 1) := by decide +kernel
theorem dX4_land_43 : decode cX4_land 43 = .ok (.getfield 22, 3) := by decide +kernel
theorem dX4_land_46 : decode cX4_land 46 = .ok (.aload_n 0, 1) := by decide +kernel
theorem dX4_land_47 : decode cX4_land 47 = .ok (.getfield 10, 3) := by decide +kernel
theorem dX4_land_50 : decode cX4_land 50 = .ok (.invokevirtual 40, 3) := by decide +kernel
theorem dX4_land_53 : decode cX4_land 53 = .ok (.aload_n 0, 1) := by decide +kernel
theorem dX4_land_54 : decode cX4_land 54 = .ok (.getfield 10, 3) := by decide +kernel
theorem dX4_land_57 : decode cX4_land 57 = .ok (.iload_n 1, 1) := by decide +kernel
theorem dX4_land_58 : decode cX4_land 58 = .ok (.invokevirtual 113, 3) := by decide +kernel
theorem dX4_land_61 : decode cX4_land 61 = .ok (.ireturn, 1) := by decide +kernel
set_option maxRecDepth 20000 in
theorem ggX4_parcel_X0_loaded : GoodIn wsX4_parcel wsX0_loaded := goodIn_r _ [10, 11, 12, 13, 14, 15, 16, 17, 38, 39, 40, 41, 42, 43, 44, 45, 46, 47, 48, 49, 50, 51, 52, 53] (by decide +kernel) (by decide +kernel)
set_option maxRecDepth 20000 in
theorem gX4_parcel_X0_loaded : GoodIn wsX4_parcel (wsV RX4 44 RX0 yX0_loaded wsX0_loaded) := goodIn_app (goodIn_of _ (by decide +kernel)) ggX4_parcel_X0_loaded
set_option maxRecDepth 20000 in
theorem ggX4_parcel_X0_parcelFact : GoodIn wsX4_parcel wsX0_parcelFact := goodIn_r _ [21, 22, 11, 23, 24, 25, 26, 15, 27, 17, 28, 29, 30, 31, 9, 32, 33, 12, 13, 14, 16, 38, 39, 40, 41, 42, 43, 44, 45, 46, 47, 48, 49, 50, 51, 52, 53] (by decide +kernel) (by decide +kernel)
set_option maxRecDepth 20000 in
theorem gX4_parcel_X0_parcelFact : GoodIn wsX4_parcel (wsV RX4 123 RX0 yX0_parcelFact wsX0_parcelFact) := goodIn_app (goodIn_of _ (by decide +kernel)) ggX4_parcel_X0_parcelFact
theorem dX4_parcel_0 : decode cX4_parcel 0 = .ok (.iload_n 1, 1) := by decide +kernel
theorem dX4_parcel_1 : decode cX4_parcel 1 = .ok (.ifCond .lt 14, 3) := by decide +kernel
theorem dX4_parcel_4 : decode cX4_parcel 4 = .ok (.iload_n 1, 1) := by decide +kernel
theorem dX4_parcel_5 : decode cX4_parcel 5 = .ok (.aload_n 0, 1) := by decide +kernel
theorem dX4_parcel_6 : decode cX4_parcel 6 = .ok (.getfield 10, 3) := by decide +kernel
theorem dX4_parcel_9 : decode cX4_parcel 9 = .ok (.invokevirtual 44, 3) := by decide +kernel
theorem dX4_parcel_12 : decode cX4_parcel 12 = .ok (.if_icmp .lt 13, 3) := by decide +kernel
theorem dX4_parcel_15 : decode cX4_parcel 15 = .ok (.new 116, 3) := by decide +kernel
theorem dX4_parcel_18 : decode cX4_parcel 18 = .ok (.dup, 1) := by decide +kernel
theorem dX4_parcel_19 : decode cX4_parcel 19 = .ok (.ldc 118, 2) := by decide +kernel
theorem dX4_parcel_21 : decode cX4_parcel 21 = .ok (.invokespecial 120, 3) := by decide +kernel
theorem dX4_parcel_24 : decode cX4_parcel 24 = .ok (.athrow, 1) := by decide +kernel
theorem dX4_parcel_25 : decode cX4_parcel 25 = .ok (.iload_n 2, 1) := by decide +kernel
theorem dX4_parcel_26 : decode cX4_parcel 26 = .ok (.ifCond .lt 8, 3) := by decide +kernel
theorem dX4_parcel_29 : decode cX4_parcel 29 = .ok (.iload_n 2, 1) := by decide +kernel
theorem dX4_parcel_30 : decode cX4_parcel 30 = .ok (.iconst 5, 1) := by decide +kernel
theorem dX4_parcel_31 : decode cX4_parcel 31 = .ok (.if_icmp .lt 13, 3) := by decide +kernel
theorem dX4_parcel_34 : decode cX4_parcel 34 = .ok (.new 33, 3) := by decide +kernel
theorem dX4_parcel_37 : decode cX4_parcel 37 = .ok (.dup, 1) := by decide +kernel
theorem dX4_parcel_38 : decode cX4_parcel 38 = .ok (.ldc 121, 2) := by decide +kernel
theorem dX4_parcel_40 : decode cX4_parcel 40 = .ok (.invokespecial 37, 3) := by decide +kernel
theorem dX4_parcel_43 : decode cX4_parcel 43 = .ok (.athrow, 1) := by decide +kernel
theorem dX4_parcel_44 : decode cX4_parcel 44 = .ok (.aload_n 0, 1) := by decide +kernel
theorem dX4_parcel_45 : decode cX4_parcel 45 = .ok (.getfield 10, 3) := by decide +kernel
theorem dX4_parcel_48 : decode cX4_parcel 48 = .ok (.iload_n 1, 1) := by decide +kernel
theorem dX4_parcel_49 : decode cX4_parcel 49 = .ok (.iload_n 2, 1) := by decide +kernel
theorem dX4_parcel_50 : decode cX4_parcel 50 = .ok (.invokevirtual 123, 3) := by decide +kernel
theorem dX4_parcel_53 : decode cX4_parcel 53 = .ok (.ireturn, 1) := by decide +kernel
set_option maxRecDepth 20000 in
theorem ggX4_run_X0_hasRun : GoodIn wsX4_run wsX0_hasRun := goodIn_r _ [10, 11, 12, 13, 14, 15, 16, 17, 18, 53, 54, 55, 56, 57, 58, 59, 60, 61, 62, 63, 64, 65, 66, 67, 68] (by decide +kernel) (by decide +kernel)
set_option maxRecDepth 20000 in
theorem gX4_run_X0_hasRun : GoodIn wsX4_run (wsV RX4 77 RX0 yX0_hasRun wsX0_hasRun) := goodIn_app (goodIn_of _ (by decide +kernel)) ggX4_run_X0_hasRun
set_option maxRecDepth 20000 in
theorem ggX4_run_X0_runFact : GoodIn wsX4_run wsX0_runFact := goodIn_r _ [22, 23, 11, 24, 25, 26, 27, 28, 29, 9, 30, 31, 32, 33, 34, 15, 35, 17, 36, 37, 38, 39, 18, 12, 13, 14, 16, 40, 41, 42, 43, 44, 45, 46, 47, 48, 53, 54, 55, 56, 57, 58, 59, 60, 61, 62, 63, 64, 65, 66, 67, 68] (by decide +kernel) (by decide +kernel)
set_option maxRecDepth 20000 in
theorem gX4_run_X0_runFact : GoodIn wsX4_run (wsV RX4 126 RX0 yX0_runFact wsX0_runFact) := goodIn_app (goodIn_of _ (by decide +kernel)) ggX4_run_X0_runFact
theorem dX4_run_0 : decode cX4_run 0 = .ok (.aload_n 0, 1) := by decide +kernel
theorem dX4_run_1 : decode cX4_run 1 = .ok (.getfield 10, 3) := by decide +kernel
theorem dX4_run_4 : decode cX4_run 4 = .ok (.iload_n 1, 1) := by decide +kernel
theorem dX4_run_5 : decode cX4_run 5 = .ok (.invokevirtual 77, 3) := by decide +kernel
theorem dX4_run_8 : decode cX4_run 8 = .ok (.ifCond .ne 13, 3) := by decide +kernel
theorem dX4_run_11 : decode cX4_run 11 = .ok (.new 81, 3) := by decide +kernel
theorem dX4_run_14 : decode cX4_run 14 = .ok (.dup, 1) := by decide +kernel
theorem dX4_run_15 : decode cX4_run 15 = .ok (.ldc 83, 2) := by decide +kernel
theorem dX4_run_17 : decode cX4_run 17 = .ok (.invokespecial 85, 3) := by decide +kernel
theorem dX4_run_20 : decode cX4_run 20 = .ok (.athrow, 1) := by decide +kernel
theorem dX4_run_21 : decode cX4_run 21 = .ok (.iload_n 2, 1) := by decide +kernel
theorem dX4_run_22 : decode cX4_run 22 = .ok (.ifCond .lt 9, 3) := by decide +kernel
theorem dX4_run_25 : decode cX4_run 25 = .ok (.iload_n 2, 1) := by decide +kernel
theorem dX4_run_26 : decode cX4_run 26 = .ok (.bipush 6, 2) := by decide +kernel
theorem dX4_run_28 : decode cX4_run 28 = .ok (.if_icmp .lt 13, 3) := by decide +kernel
theorem dX4_run_31 : decode cX4_run 31 = .ok (.new 33, 3) := by decide +kernel
theorem dX4_run_34 : decode cX4_run 34 = .ok (.dup, 1) := by decide +kernel
theorem dX4_run_35 : decode cX4_run 35 = .ok (.ldc 121, 2) := by decide +kernel
theorem dX4_run_37 : decode cX4_run 37 = .ok (.invokespecial 37, 3) := by decide +kernel
theorem dX4_run_40 : decode cX4_run 40 = .ok (.athrow, 1) := by decide +kernel
theorem dX4_run_41 : decode cX4_run 41 = .ok (.aload_n 0, 1) := by decide +kernel
theorem dX4_run_42 : decode cX4_run 42 = .ok (.getfield 10, 3) := by decide +kernel
theorem dX4_run_45 : decode cX4_run 45 = .ok (.iload_n 1, 1) := by decide +kernel
theorem dX4_run_46 : decode cX4_run 46 = .ok (.iload_n 2, 1) := by decide +kernel
theorem dX4_run_47 : decode cX4_run 47 = .ok (.invokevirtual 126, 3) := by decide +kernel
theorem dX4_run_50 : decode cX4_run 50 = .ok (.ireturn, 1) := by decide +kernel
set_option maxRecDepth 20000 in
theorem ggX4_inRun_X0_hasRun : GoodIn wsX4_inRun wsX0_hasRun := goodIn_r _ [10, 11, 12, 13, 14, 15, 16, 17, 18, 41, 42, 43, 44, 45, 46, 47, 48, 49, 50, 51, 52, 53, 54, 55, 56] (by decide +kernel) (by decide +kernel)
set_option maxRecDepth 20000 in
theorem gX4_inRun_X0_hasRun : GoodIn wsX4_inRun (wsV RX4 77 RX0 yX0_hasRun wsX0_hasRun) := goodIn_app (goodIn_of _ (by decide +kernel)) ggX4_inRun_X0_hasRun
set_option maxRecDepth 20000 in
theorem ggX4_inRun_X0_countAt : GoodIn wsX4_inRun wsX0_countAt := goodIn_r _ [22, 23, 24, 25, 26, 15, 27, 17, 28, 29, 30, 31, 18, 41, 42, 43, 44, 45, 46, 47, 48, 49, 50, 51, 52, 53, 54, 55, 56] (by decide +kernel) (by decide +kernel)
set_option maxRecDepth 20000 in
theorem gX4_inRun_X0_countAt : GoodIn wsX4_inRun (wsV RX4 129 RX0 yX0_countAt wsX0_countAt) := goodIn_app (goodIn_of _ (by decide +kernel)) ggX4_inRun_X0_countAt
set_option maxRecDepth 20000 in
theorem ggX4_inRun_X0_parcelAt : GoodIn wsX4_inRun wsX0_parcelAt := goodIn_r _ [35, 36, 23, 24, 25, 26, 15, 27, 17, 28, 29, 30, 31, 18, 41, 42, 43, 44, 45, 46, 47, 48, 49, 50, 51, 52, 53, 54, 55, 56] (by decide +kernel) (by decide +kernel)
set_option maxRecDepth 20000 in
theorem gX4_inRun_X0_parcelAt : GoodIn wsX4_inRun (wsV RX4 134 RX0 yX0_parcelAt wsX0_parcelAt) := goodIn_app (goodIn_of _ (by decide +kernel)) ggX4_inRun_X0_parcelAt
theorem dX4_inRun_0 : decode cX4_inRun 0 = .ok (.aload_n 0, 1) := by decide +kernel
theorem dX4_inRun_1 : decode cX4_inRun 1 = .ok (.getfield 10, 3) := by decide +kernel
theorem dX4_inRun_4 : decode cX4_inRun 4 = .ok (.iload_n 1, 1) := by decide +kernel
theorem dX4_inRun_5 : decode cX4_inRun 5 = .ok (.invokevirtual 77, 3) := by decide +kernel
theorem dX4_inRun_8 : decode cX4_inRun 8 = .ok (.ifCond .ne 13, 3) := by decide +kernel
theorem dX4_inRun_11 : decode cX4_inRun 11 = .ok (.new 81, 3) := by decide +kernel
theorem dX4_inRun_14 : decode cX4_inRun 14 = .ok (.dup, 1) := by decide +kernel
theorem dX4_inRun_15 : decode cX4_inRun 15 = .ok (.ldc 83, 2) := by decide +kernel
theorem dX4_inRun_17 : decode cX4_inRun 17 = .ok (.invokespecial 85, 3) := by decide +kernel
theorem dX4_inRun_20 : decode cX4_inRun 20 = .ok (.athrow, 1) := by decide +kernel
theorem dX4_inRun_21 : decode cX4_inRun 21 = .ok (.iload_n 2, 1) := by decide +kernel
theorem dX4_inRun_22 : decode cX4_inRun 22 = .ok (.ifCond .lt 15, 3) := by decide +kernel
theorem dX4_inRun_25 : decode cX4_inRun 25 = .ok (.iload_n 2, 1) := by decide +kernel
theorem dX4_inRun_26 : decode cX4_inRun 26 = .ok (.aload_n 0, 1) := by decide +kernel
theorem dX4_inRun_27 : decode cX4_inRun 27 = .ok (.getfield 10, 3) := by decide +kernel
theorem dX4_inRun_30 : decode cX4_inRun 30 = .ok (.iload_n 1, 1) := by decide +kernel
theorem dX4_inRun_31 : decode cX4_inRun 31 = .ok (.invokevirtual 129, 3) := by decide +kernel
theorem dX4_inRun_34 : decode cX4_inRun 34 = .ok (.if_icmp .lt 13, 3) := by decide +kernel
theorem dX4_inRun_37 : decode cX4_inRun 37 = .ok (.new 116, 3) := by decide +kernel
theorem dX4_inRun_40 : decode cX4_inRun 40 = .ok (.dup, 1) := by decide +kernel
theorem dX4_inRun_41 : decode cX4_inRun 41 = .ok (.ldc 132, 2) := by decide +kernel
theorem dX4_inRun_43 : decode cX4_inRun 43 = .ok (.invokespecial 120, 3) := by decide +kernel
theorem dX4_inRun_46 : decode cX4_inRun 46 = .ok (.athrow, 1) := by decide +kernel
theorem dX4_inRun_47 : decode cX4_inRun 47 = .ok (.aload_n 0, 1) := by decide +kernel
theorem dX4_inRun_48 : decode cX4_inRun 48 = .ok (.getfield 10, 3) := by decide +kernel
theorem dX4_inRun_51 : decode cX4_inRun 51 = .ok (.iload_n 1, 1) := by decide +kernel
theorem dX4_inRun_52 : decode cX4_inRun 52 = .ok (.iload_n 2, 1) := by decide +kernel
theorem dX4_inRun_53 : decode cX4_inRun 53 = .ok (.invokevirtual 134, 3) := by decide +kernel
theorem dX4_inRun_56 : decode cX4_inRun 56 = .ok (.ireturn, 1) := by decide +kernel
set_option maxRecDepth 20000 in
theorem ggX4_ashore_X0_countAt : GoodIn wsX4_ashore wsX0_countAt := goodIn_r _ [8, 9, 10, 11, 12, 13, 14, 15, 16, 17, 18, 19, 20, 30, 31, 32, 33, 34, 35, 36, 37, 38, 39, 40, 41, 42, 43, 44, 45] (by decide +kernel) (by decide +kernel)
set_option maxRecDepth 20000 in
theorem gX4_ashore_X0_countAt : GoodIn wsX4_ashore (wsV RX4 129 RX0 yX0_countAt wsX0_countAt) := goodIn_app (goodIn_of _ (by decide +kernel)) ggX4_ashore_X0_countAt
set_option maxRecDepth 20000 in
theorem ggX4_ashore_X0_parcelAt : GoodIn wsX4_ashore wsX0_parcelAt := goodIn_r _ [24, 25, 9, 10, 11, 12, 13, 14, 15, 16, 17, 18, 19, 20, 30, 31, 32, 33, 34, 35, 36, 37, 38, 39, 40, 41, 42, 43, 44, 45] (by decide +kernel) (by decide +kernel)
set_option maxRecDepth 20000 in
theorem gX4_ashore_X0_parcelAt : GoodIn wsX4_ashore (wsV RX4 134 RX0 yX0_parcelAt wsX0_parcelAt) := goodIn_app (goodIn_of _ (by decide +kernel)) ggX4_ashore_X0_parcelAt
theorem dX4_ashore_0 : decode cX4_ashore 0 = .ok (.iload_n 1, 1) := by decide +kernel
theorem dX4_ashore_1 : decode cX4_ashore 1 = .ok (.ifCond .lt 16, 3) := by decide +kernel
theorem dX4_ashore_4 : decode cX4_ashore 4 = .ok (.iload_n 1, 1) := by decide +kernel
theorem dX4_ashore_5 : decode cX4_ashore 5 = .ok (.aload_n 0, 1) := by decide +kernel
theorem dX4_ashore_6 : decode cX4_ashore 6 = .ok (.getfield 10, 3) := by decide +kernel
theorem dX4_ashore_9 : decode cX4_ashore 9 = .ok (.bipush (-2), 2) := by decide +kernel
theorem dX4_ashore_11 : decode cX4_ashore 11 = .ok (.invokevirtual 129, 3) := by decide +kernel
theorem dX4_ashore_14 : decode cX4_ashore 14 = .ok (.if_icmp .lt 13, 3) := by decide +kernel
theorem dX4_ashore_17 : decode cX4_ashore 17 = .ok (.new 116, 3) := by decide +kernel
theorem dX4_ashore_20 : decode cX4_ashore 20 = .ok (.dup, 1) := by decide +kernel
theorem dX4_ashore_21 : decode cX4_ashore 21 = .ok (.ldc 137, 2) := by decide +kernel
theorem dX4_ashore_23 : decode cX4_ashore 23 = .ok (.invokespecial 120, 3) := by decide +kernel
theorem dX4_ashore_26 : decode cX4_ashore 26 = .ok (.athrow, 1) := by decide +kernel
theorem dX4_ashore_27 : decode cX4_ashore 27 = .ok (.aload_n 0, 1) := by decide +kernel
theorem dX4_ashore_28 : decode cX4_ashore 28 = .ok (.getfield 10, 3) := by decide +kernel
theorem dX4_ashore_31 : decode cX4_ashore 31 = .ok (.bipush (-2), 2) := by decide +kernel
theorem dX4_ashore_33 : decode cX4_ashore 33 = .ok (.iload_n 1, 1) := by decide +kernel
theorem dX4_ashore_34 : decode cX4_ashore 34 = .ok (.invokevirtual 134, 3) := by decide +kernel
theorem dX4_ashore_37 : decode cX4_ashore 37 = .ok (.ireturn, 1) := by decide +kernel
set_option maxRecDepth 20000 in
theorem ggX4_runAt_X0_runs : GoodIn wsX4_runAt wsX0_runs := goodIn_r _ [8, 9, 10, 11, 12, 13, 14, 15, 29, 30, 31, 32, 33, 34, 35, 36, 37, 38, 39, 40, 41, 42, 43, 44] (by decide +kernel) (by decide +kernel)
set_option maxRecDepth 20000 in
theorem gX4_runAt_X0_runs : GoodIn wsX4_runAt (wsV RX4 91 RX0 yX0_runs wsX0_runs) := goodIn_app (goodIn_of _ (by decide +kernel)) ggX4_runAt_X0_runs
set_option maxRecDepth 20000 in
theorem ggX4_runAt_X0_runNumber : GoodIn wsX4_runAt wsX0_runNumber := goodIn_r _ [19, 9, 20, 21, 22, 13, 23, 15, 24, 29, 30, 31, 32, 33, 34, 35, 36, 37, 38, 39, 40, 41, 42, 43, 44] (by decide +kernel) (by decide +kernel)
set_option maxRecDepth 20000 in
theorem gX4_runAt_X0_runNumber : GoodIn wsX4_runAt (wsV RX4 141 RX0 yX0_runNumber wsX0_runNumber) := goodIn_app (goodIn_of _ (by decide +kernel)) ggX4_runAt_X0_runNumber
theorem dX4_runAt_0 : decode cX4_runAt 0 = .ok (.iload_n 1, 1) := by decide +kernel
theorem dX4_runAt_1 : decode cX4_runAt 1 = .ok (.ifCond .lt 14, 3) := by decide +kernel
theorem dX4_runAt_4 : decode cX4_runAt 4 = .ok (.iload_n 1, 1) := by decide +kernel
theorem dX4_runAt_5 : decode cX4_runAt 5 = .ok (.aload_n 0, 1) := by decide +kernel
theorem dX4_runAt_6 : decode cX4_runAt 6 = .ok (.getfield 10, 3) := by decide +kernel
theorem dX4_runAt_9 : decode cX4_runAt 9 = .ok (.invokevirtual 91, 3) := by decide +kernel
theorem dX4_runAt_12 : decode cX4_runAt 12 = .ok (.if_icmp .lt 13, 3) := by decide +kernel
theorem dX4_runAt_15 : decode cX4_runAt 15 = .ok (.new 116, 3) := by decide +kernel
theorem dX4_runAt_18 : decode cX4_runAt 18 = .ok (.dup, 1) := by decide +kernel
theorem dX4_runAt_19 : decode cX4_runAt 19 = .ok (.ldc 139, 2) := by decide +kernel
theorem dX4_runAt_21 : decode cX4_runAt 21 = .ok (.invokespecial 120, 3) := by decide +kernel
theorem dX4_runAt_24 : decode cX4_runAt 24 = .ok (.athrow, 1) := by decide +kernel
theorem dX4_runAt_25 : decode cX4_runAt 25 = .ok (.aload_n 0, 1) := by decide +kernel
theorem dX4_runAt_26 : decode cX4_runAt 26 = .ok (.getfield 10, 3) := by decide +kernel
theorem dX4_runAt_29 : decode cX4_runAt 29 = .ok (.iload_n 1, 1) := by decide +kernel
theorem dX4_runAt_30 : decode cX4_runAt 30 = .ok (.invokevirtual 141, 3) := by decide +kernel
theorem dX4_runAt_33 : decode cX4_runAt 33 = .ok (.ireturn, 1) := by decide +kernel
set_option maxRecDepth 20000 in
theorem ggX4_value_X0_number : GoodIn wsX4_value wsX0_number := goodIn_r _ [8, 9, 10, 11, 12, 13, 14, 15, 16, 17, 18, 19, 20, 7, 21, 22, 23, 24, 25, 26, 27, 28, 29, 30, 31, 32, 33, 38, 39, 40, 41, 42, 43, 44, 45, 46, 47, 48, 49, 50, 51, 52, 53] (by decide +kernel) (by decide +kernel)
set_option maxRecDepth 20000 in
theorem gX4_value_X0_number : GoodIn wsX4_value (wsV RX4 144 RX0 yX0_number wsX0_number) := goodIn_app (goodIn_of _ (by decide +kernel)) ggX4_value_X0_number
theorem dX4_value_0 : decode cX4_value 0 = .ok (.iload_n 1, 1) := by decide +kernel
theorem dX4_value_1 : decode cX4_value 1 = .ok (.ifCond .lt 9, 3) := by decide +kernel
theorem dX4_value_4 : decode cX4_value 4 = .ok (.iload_n 1, 1) := by decide +kernel
theorem dX4_value_5 : decode cX4_value 5 = .ok (.bipush 12, 2) := by decide +kernel
theorem dX4_value_7 : decode cX4_value 7 = .ok (.if_icmp .lt 13, 3) := by decide +kernel
theorem dX4_value_10 : decode cX4_value 10 = .ok (.new 33, 3) := by decide +kernel
theorem dX4_value_13 : decode cX4_value 13 = .ok (.dup, 1) := by decide +kernel
theorem dX4_value_14 : decode cX4_value 14 = .ok (.ldc 121, 2) := by decide +kernel
theorem dX4_value_16 : decode cX4_value 16 = .ok (.invokespecial 37, 3) := by decide +kernel
theorem dX4_value_19 : decode cX4_value 19 = .ok (.athrow, 1) := by decide +kernel
theorem dX4_value_20 : decode cX4_value 20 = .ok (.aload_n 0, 1) := by decide +kernel
theorem dX4_value_21 : decode cX4_value 21 = .ok (.getfield 10, 3) := by decide +kernel
theorem dX4_value_24 : decode cX4_value 24 = .ok (.iload_n 1, 1) := by decide +kernel
theorem dX4_value_25 : decode cX4_value 25 = .ok (.invokevirtual 144, 3) := by decide +kernel
theorem dX4_value_28 : decode cX4_value 28 = .ok (.ireturn, 1) := by decide +kernel
set_option maxRecDepth 20000 in
theorem ggX4_nextThrown_X0_nextOverboard : GoodIn wsX4_nextThrown wsX0_nextOverboard := goodIn_r _ [6, 7, 8, 9, 10, 11, 12, 5, 13, 14, 15, 16, 17, 18, 19, 20, 21, 22, 23, 24, 25, 26, 27, 28, 29, 34, 35, 36, 37, 38, 39, 40, 41, 42, 43, 44, 45, 46, 47, 48, 49] (by decide +kernel) (by decide +kernel)
set_option maxRecDepth 20000 in
theorem gX4_nextThrown_X0_nextOverboard : GoodIn wsX4_nextThrown (wsV RX4 147 RX0 yX0_nextOverboard wsX0_nextOverboard) := goodIn_app (goodIn_of _ (by decide +kernel)) ggX4_nextThrown_X0_nextOverboard
theorem dX4_nextThrown_0 : decode cX4_nextThrown 0 = .ok (.aload_n 0, 1) := by decide +kernel
theorem dX4_nextThrown_1 : decode cX4_nextThrown 1 = .ok (.getfield 10, 3) := by decide +kernel
theorem dX4_nextThrown_4 : decode cX4_nextThrown 4 = .ok (.invokevirtual 147, 3) := by decide +kernel
theorem dX4_nextThrown_7 : decode cX4_nextThrown 7 = .ok (.ireturn, 1) := by decide +kernel
set_option maxRecDepth 20000 in
theorem ggX4_runsIfEmptied_X0_copy : GoodIn wsX4_runsIfEmptied wsX0_copy := goodIn_r _ [7, 8, 9, 10, 11, 12, 13, 14, 15, 16, 17, 18, 19, 20, 21, 22, 23, 24, 25, 26, 27, 28, 29, 30, 31, 32, 99, 100, 101, 102, 103, 104, 105, 106, 107, 108, 109, 110, 111, 112, 113, 114] (by decide +kernel) (by decide +kernel)
set_option maxRecDepth 20000 in
theorem gX4_runsIfEmptied_X0_copy : GoodIn wsX4_runsIfEmptied (wsV RX4 150 RX0 yX0_copy wsX0_copy) := goodIn_app (goodIn_of _ (by decide +kernel)) ggX4_runsIfEmptied_X0_copy
set_option maxRecDepth 20000 in
theorem ggX4_runsIfEmptied_X0_throwAll : GoodIn wsX4_runsIfEmptied wsX0_throwAll := goodIn_r _ [36, 16, 13, 37, 38, 39, 6, 40, 11, 41, 42, 43, 25, 44, 27, 45, 46, 47, 48, 28, 49, 50, 51, 52, 53, 54, 55, 56, 12, 57, 58, 59, 60, 61, 62, 63, 64, 9, 65, 66, 67, 68, 17, 14, 15, 69, 70, 71, 72, 73, 74, 75, 76, 77, 78, 79, 80, 81, 82, 83, 84, 10, 85, 86, 87, 88, 89, 90, 91, 92, 93, 94, 99, 100, 101, 102, 103, 104, 105, 106, 107, 108, 109, 110, 111, 112, 113, 114] (by decide +kernel) (by decide +kernel)
set_option maxRecDepth 20000 in
theorem gX4_runsIfEmptied_X0_throwAll : GoodIn wsX4_runsIfEmptied (wsV RX4 74 RX0 yX0_throwAll wsX0_throwAll) := goodIn_app (goodIn_of _ (by decide +kernel)) ggX4_runsIfEmptied_X0_throwAll
theorem dX4_runsIfEmptied_0 : decode cX4_runsIfEmptied 0 = .ok (.aload_n 0, 1) := by decide +kernel
theorem dX4_runsIfEmptied_1 : decode cX4_runsIfEmptied 1 = .ok (.getfield 16, 3) := by decide +kernel
theorem dX4_runsIfEmptied_4 : decode cX4_runsIfEmptied 4 = .ok (.aload_n 0, 1) := by decide +kernel
theorem dX4_runsIfEmptied_5 : decode cX4_runsIfEmptied 5 = .ok (.getfield 10, 3) := by decide +kernel
theorem dX4_runsIfEmptied_8 : decode cX4_runsIfEmptied 8 = .ok (.invokevirtual 150, 3) := by decide +kernel
theorem dX4_runsIfEmptied_11 : decode cX4_runsIfEmptied 11 = .ok (.aload_n 0, 1) := by decide +kernel
theorem dX4_runsIfEmptied_12 : decode cX4_runsIfEmptied 12 = .ok (.getfield 16, 3) := by decide +kernel
theorem dX4_runsIfEmptied_15 : decode cX4_runsIfEmptied 15 = .ok (.invokevirtual 74, 3) := by decide +kernel
theorem dX4_runsIfEmptied_18 : decode cX4_runsIfEmptied 18 = .ok (.ireturn, 1) := by decide +kernel
set_option maxRecDepth 20000 in
theorem ggX4_costByWeight_X0_copy : GoodIn wsX4_costByWeight wsX0_copy := goodIn_r _ [7, 8, 9, 10, 11, 12, 13, 14, 15, 16, 17, 18, 19, 20, 21, 22, 23, 24, 25, 26, 27, 28, 29, 30, 31, 32, 91, 92, 93, 94, 95, 96, 97, 98, 99, 100, 101, 102, 103, 104, 105, 106] (by decide +kernel) (by decide +kernel)
set_option maxRecDepth 20000 in
theorem gX4_costByWeight_X0_copy : GoodIn wsX4_costByWeight (wsV RX4 150 RX0 yX0_copy wsX0_copy) := goodIn_app (goodIn_of _ (by decide +kernel)) ggX4_costByWeight_X0_copy
set_option maxRecDepth 20000 in
theorem ggX4_costByWeight_X0_joinAllByWeight : GoodIn wsX4_costByWeight wsX0_joinAllByWeight := goodIn_r _ [36, 18, 13, 37, 38, 39, 25, 40, 27, 41, 42, 43, 6, 44, 45, 30, 31, 32, 46, 47, 48, 49, 15, 50, 51, 52, 53, 28, 54, 55, 56, 57, 58, 59, 60, 16, 19, 61, 62, 63, 64, 11, 65, 66, 67, 68, 69, 70, 71, 72, 73, 74, 75, 76, 77, 78, 79, 80, 81, 82, 14, 83, 84, 85, 86, 91, 92, 93, 94, 95, 96, 97, 98, 99, 100, 101, 102, 103, 104, 105, 106] (by decide +kernel) (by decide +kernel)
set_option maxRecDepth 20000 in
theorem gX4_costByWeight_X0_joinAllByWeight : GoodIn wsX4_costByWeight (wsV RX4 153 RX0 yX0_joinAllByWeight wsX0_joinAllByWeight) := goodIn_app (goodIn_of _ (by decide +kernel)) ggX4_costByWeight_X0_joinAllByWeight
theorem dX4_costByWeight_0 : decode cX4_costByWeight 0 = .ok (.aload_n 0, 1) := by decide +kernel
theorem dX4_costByWeight_1 : decode cX4_costByWeight 1 = .ok (.getfield 16, 3) := by decide +kernel
theorem dX4_costByWeight_4 : decode cX4_costByWeight 4 = .ok (.aload_n 0, 1) := by decide +kernel
theorem dX4_costByWeight_5 : decode cX4_costByWeight 5 = .ok (.getfield 10, 3) := by decide +kernel
theorem dX4_costByWeight_8 : decode cX4_costByWeight 8 = .ok (.invokevirtual 150, 3) := by decide +kernel
theorem dX4_costByWeight_11 : decode cX4_costByWeight 11 = .ok (.aload_n 0, 1) := by decide +kernel
theorem dX4_costByWeight_12 : decode cX4_costByWeight 12 = .ok (.getfield 16, 3) := by decide +kernel
theorem dX4_costByWeight_15 : decode cX4_costByWeight 15 = .ok (.invokevirtual 153, 3) := by decide +kernel
theorem dX4_costByWeight_18 : decode cX4_costByWeight 18 = .ok (.ireturn, 1) := by decide +kernel
set_option maxRecDepth 20000 in
theorem ggX4_costByNumber_X0_copy : GoodIn wsX4_costByNumber wsX0_copy := goodIn_r _ [7, 8, 9, 10, 11, 12, 13, 14, 15, 16, 17, 18, 19, 20, 21, 22, 23, 24, 25, 26, 27, 28, 29, 30, 31, 32, 83, 84, 85, 86, 87, 88, 89, 90, 91, 92, 93, 94, 95, 96, 97, 98] (by decide +kernel) (by decide +kernel)
set_option maxRecDepth 20000 in
theorem gX4_costByNumber_X0_copy : GoodIn wsX4_costByNumber (wsV RX4 150 RX0 yX0_copy wsX0_copy) := goodIn_app (goodIn_of _ (by decide +kernel)) ggX4_costByNumber_X0_copy
set_option maxRecDepth 20000 in
theorem ggX4_costByNumber_X0_joinAllByNumber : GoodIn wsX4_costByNumber wsX0_joinAllByNumber := goodIn_r _ [36, 18, 13, 37, 38, 39, 25, 40, 27, 41, 42, 43, 44, 28, 45, 46, 47, 6, 48, 49, 30, 31, 32, 50, 51, 52, 15, 16, 19, 53, 54, 55, 56, 11, 57, 58, 59, 60, 61, 62, 63, 64, 65, 66, 67, 68, 69, 70, 71, 72, 73, 74, 14, 75, 76, 77, 78, 83, 84, 85, 86, 87, 88, 89, 90, 91, 92, 93, 94, 95, 96, 97, 98] (by decide +kernel) (by decide +kernel)
set_option maxRecDepth 20000 in
theorem gX4_costByNumber_X0_joinAllByNumber : GoodIn wsX4_costByNumber (wsV RX4 156 RX0 yX0_joinAllByNumber wsX0_joinAllByNumber) := goodIn_app (goodIn_of _ (by decide +kernel)) ggX4_costByNumber_X0_joinAllByNumber
theorem dX4_costByNumber_0 : decode cX4_costByNumber 0 = .ok (.aload_n 0, 1) := by decide +kernel
theorem dX4_costByNumber_1 : decode cX4_costByNumber 1 = .ok (.getfield 16, 3) := by decide +kernel
theorem dX4_costByNumber_4 : decode cX4_costByNumber 4 = .ok (.aload_n 0, 1) := by decide +kernel
theorem dX4_costByNumber_5 : decode cX4_costByNumber 5 = .ok (.getfield 10, 3) := by decide +kernel
theorem dX4_costByNumber_8 : decode cX4_costByNumber 8 = .ok (.invokevirtual 150, 3) := by decide +kernel
theorem dX4_costByNumber_11 : decode cX4_costByNumber 11 = .ok (.aload_n 0, 1) := by decide +kernel
theorem dX4_costByNumber_12 : decode cX4_costByNumber 12 = .ok (.getfield 16, 3) := by decide +kernel
theorem dX4_costByNumber_15 : decode cX4_costByNumber 15 = .ok (.invokevirtual 156, 3) := by decide +kernel
theorem dX4_costByNumber_18 : decode cX4_costByNumber 18 = .ok (.ireturn, 1) := by decide +kernel
set_option maxRecDepth 20000 in
theorem ggX4_runsWith_X0_startAgain : GoodIn wsX4_runsWith wsX0_startAgain := goodIn_r _ [9, 10, 11, 12, 13, 14, 15, 16, 17, 18, 19, 20, 21, 22, 23, 24, 25, 26, 27, 28, 29, 118, 119, 120, 121, 122, 123, 124, 125, 126, 127, 128, 129, 130, 131, 132, 133] (by decide +kernel) (by decide +kernel)
set_option maxRecDepth 20000 in
theorem gX4_runsWith_X0_startAgain : GoodIn wsX4_runsWith (wsV RX4 48 RX0 yX0_startAgain wsX0_startAgain) := goodIn_app (goodIn_of _ (by decide +kernel)) ggX4_runsWith_X0_startAgain
set_option maxRecDepth 20000 in
theorem ggX4_runsWith_X0_loaded : GoodIn wsX4_runsWith wsX0_loaded := goodIn_r _ [33, 11, 34, 35, 36, 27, 37, 29, 118, 119, 120, 121, 122, 123, 124, 125, 126, 127, 128, 129, 130, 131, 132, 133] (by decide +kernel) (by decide +kernel)
set_option maxRecDepth 20000 in
theorem gX4_runsWith_X0_loaded : GoodIn wsX4_runsWith (wsV RX4 44 RX0 yX0_loaded wsX0_loaded) := goodIn_app (goodIn_of _ (by decide +kernel)) ggX4_runsWith_X0_loaded
set_option maxRecDepth 20000 in
theorem ggX4_runsWith_X0_keyOf : GoodIn wsX4_runsWith wsX0_keyOf := goodIn_r _ [41, 11, 42, 43, 44, 27, 45, 29, 46, 118, 119, 120, 121, 122, 123, 124, 125, 126, 127, 128, 129, 130, 131, 132, 133] (by decide +kernel) (by decide +kernel)
set_option maxRecDepth 20000 in
theorem gX4_runsWith_X0_keyOf : GoodIn wsX4_runsWith (wsV RX4 159 RX0 yX0_keyOf wsX0_keyOf) := goodIn_app (goodIn_of _ (by decide +kernel)) ggX4_runsWith_X0_keyOf
set_option maxRecDepth 20000 in
theorem ggX4_runsWith_X0_weightOf : GoodIn wsX4_runsWith wsX0_weightOf := goodIn_r _ [50, 12, 42, 43, 44, 27, 45, 29, 46, 118, 119, 120, 121, 122, 123, 124, 125, 126, 127, 128, 129, 130, 131, 132, 133] (by decide +kernel) (by decide +kernel)
set_option maxRecDepth 20000 in
theorem gX4_runsWith_X0_weightOf : GoodIn wsX4_runsWith (wsV RX4 162 RX0 yX0_weightOf wsX0_weightOf) := goodIn_app (goodIn_of _ (by decide +kernel)) ggX4_runsWith_X0_weightOf
set_option maxRecDepth 20000 in
theorem ggX4_runsWith_X0_take : GoodIn wsX4_runsWith wsX0_take := goodIn_r _ [54, 10, 14, 11, 12, 13, 55, 56, 57, 8, 58, 34, 35, 36, 27, 37, 29, 42, 43, 44, 45, 46, 59, 60, 61, 62, 18, 15, 63, 64, 65, 66, 67, 68, 69, 70, 71, 72, 73, 74, 75, 76, 77, 78, 19, 16, 17, 79, 80, 81, 82, 83, 84, 85, 86, 87, 88, 89, 90, 91, 92, 93, 94, 95, 96, 97, 98, 99, 100, 101, 102, 103, 104, 105, 106, 107, 108, 109, 118, 119, 120, 121, 122, 123, 124, 125, 126, 127, 128, 129, 130, 131, 132, 133] (by decide +kernel) (by decide +kernel)
set_option maxRecDepth 20000 in
theorem gX4_runsWith_X0_take : GoodIn wsX4_runsWith (wsV RX4 63 RX0 yX0_take wsX0_take) := goodIn_app (goodIn_of _ (by decide +kernel)) ggX4_runsWith_X0_take
set_option maxRecDepth 20000 in
theorem ggX4_runsWith_X0_throwAll : GoodIn wsX4_runsWith wsX0_throwAll := goodIn_r _ [113, 18, 15, 55, 56, 57, 8, 58, 13, 34, 35, 36, 27, 37, 29, 42, 43, 44, 45, 46, 59, 60, 61, 62, 63, 64, 65, 66, 14, 67, 68, 69, 70, 71, 72, 73, 74, 11, 75, 76, 77, 78, 19, 16, 17, 79, 80, 81, 82, 83, 84, 85, 86, 87, 88, 89, 90, 91, 92, 93, 94, 12, 95, 96, 97, 98, 99, 100, 101, 102, 103, 104, 118, 119, 120, 121, 122, 123, 124, 125, 126, 127, 128, 129, 130, 131, 132, 133] (by decide +kernel) (by decide +kernel)
set_option maxRecDepth 20000 in
theorem gX4_runsWith_X0_throwAll : GoodIn wsX4_runsWith (wsV RX4 74 RX0 yX0_throwAll wsX0_throwAll) := goodIn_app (goodIn_of _ (by decide +kernel)) ggX4_runsWith_X0_throwAll
theorem dX4_runsWith_0 : decode cX4_runsWith 0 = .ok (.iload_n 1, 1) := by decide +kernel
theorem dX4_runsWith_1 : decode cX4_runsWith 1 = .ok (.iconst 1, 1) := by decide +kernel
theorem dX4_runsWith_2 : decode cX4_runsWith 2 = .ok (.if_icmp .lt 9, 3) := by decide +kernel
theorem dX4_runsWith_5 : decode cX4_runsWith 5 = .ok (.iload_n 1, 1) := by decide +kernel
theorem dX4_runsWith_6 : decode cX4_runsWith 6 = .ok (.bipush 120, 2) := by decide +kernel
theorem dX4_runsWith_8 : decode cX4_runsWith 8 = .ok (.if_icmp .le 13, 3) := by decide +kernel
theorem dX4_runsWith_11 : decode cX4_runsWith 11 = .ok (.new 33, 3) := by decide +kernel
theorem dX4_runsWith_14 : decode cX4_runsWith 14 = .ok (.dup, 1) := by decide +kernel
theorem dX4_runsWith_15 : decode cX4_runsWith 15 = .ok (.ldc 35, 2) := by decide +kernel
theorem dX4_runsWith_17 : decode cX4_runsWith 17 = .ok (.invokespecial 37, 3) := by decide +kernel
theorem dX4_runsWith_20 : decode cX4_runsWith 20 = .ok (.athrow, 1) := by decide +kernel
theorem dX4_runsWith_21 : decode cX4_runsWith 21 = .ok (.aload_n 0, 1) := by decide +kernel
theorem dX4_runsWith_22 : decode cX4_runsWith 22 = .ok (.getfield 16, 3) := by decide +kernel
theorem dX4_runsWith_25 : decode cX4_runsWith 25 = .ok (.iload_n 1, 1) := by decide +kernel
theorem dX4_runsWith_26 : decode cX4_runsWith 26 = .ok (.invokevirtual 48, 3) := by decide +kernel
theorem dX4_runsWith_29 : decode cX4_runsWith 29 = .ok (.iconst 0, 1) := by decide +kernel
theorem dX4_runsWith_30 : decode cX4_runsWith 30 = .ok (.istore_n 2, 1) := by decide +kernel
theorem dX4_runsWith_31 : decode cX4_runsWith 31 = .ok (.iload_n 2, 1) := by decide +kernel
theorem dX4_runsWith_32 : decode cX4_runsWith 32 = .ok (.aload_n 0, 1) := by decide +kernel
theorem dX4_runsWith_33 : decode cX4_runsWith 33 = .ok (.getfield 10, 3) := by decide +kernel
theorem dX4_runsWith_36 : decode cX4_runsWith 36 = .ok (.invokevirtual 44, 3) := by decide +kernel
theorem dX4_runsWith_39 : decode cX4_runsWith 39 = .ok (.if_icmp .ge 33, 3) := by decide +kernel
theorem dX4_runsWith_42 : decode cX4_runsWith 42 = .ok (.aload_n 0, 1) := by decide +kernel
theorem dX4_runsWith_43 : decode cX4_runsWith 43 = .ok (.getfield 16, 3) := by decide +kernel
theorem dX4_runsWith_46 : decode cX4_runsWith 46 = .ok (.aload_n 0, 1) := by decide +kernel
theorem dX4_runsWith_47 : decode cX4_runsWith 47 = .ok (.getfield 10, 3) := by decide +kernel
theorem dX4_runsWith_50 : decode cX4_runsWith 50 = .ok (.iload_n 2, 1) := by decide +kernel
theorem dX4_runsWith_51 : decode cX4_runsWith 51 = .ok (.invokevirtual 159, 3) := by decide +kernel
theorem dX4_runsWith_54 : decode cX4_runsWith 54 = .ok (.aload_n 0, 1) := by decide +kernel
theorem dX4_runsWith_55 : decode cX4_runsWith 55 = .ok (.getfield 10, 3) := by decide +kernel
theorem dX4_runsWith_58 : decode cX4_runsWith 58 = .ok (.iload_n 2, 1) := by decide +kernel
theorem dX4_runsWith_59 : decode cX4_runsWith 59 = .ok (.invokevirtual 162, 3) := by decide +kernel
theorem dX4_runsWith_62 : decode cX4_runsWith 62 = .ok (.invokevirtual 63, 3) := by decide +kernel
theorem dX4_runsWith_65 : decode cX4_runsWith 65 = .ok (.pop, 1) := by decide +kernel
theorem dX4_runsWith_66 : decode cX4_runsWith 66 = .ok (.iinc 2 1, 3) := by decide +kernel
theorem dX4_runsWith_69 : decode cX4_runsWith 69 = .ok (.goto (-38), 3) := by decide +kernel
theorem dX4_runsWith_72 : decode cX4_runsWith 72 = .ok (.aload_n 0, 1) := by decide +kernel
theorem dX4_runsWith_73 : decode cX4_runsWith 73 = .ok (.getfield 16, 3) := by decide +kernel
theorem dX4_runsWith_76 : decode cX4_runsWith 76 = .ok (.invokevirtual 74, 3) := by decide +kernel
theorem dX4_runsWith_79 : decode cX4_runsWith 79 = .ok (.ireturn, 1) := by decide +kernel
set_option maxRecDepth 20000 in
theorem ggX4_leastRoom_X0_loaded : GoodIn wsX4_leastRoom wsX0_loaded := goodIn_r _ [10, 11, 12, 13, 14, 15, 16, 17, 31, 32, 33, 34, 35, 36, 37, 38, 39, 40, 41, 42, 43, 44, 45, 46] (by decide +kernel) (by decide +kernel)
set_option maxRecDepth 20000 in
theorem gX4_leastRoom_X0_loaded : GoodIn wsX4_leastRoom (wsV RX4 44 RX0 yX0_loaded wsX0_loaded) := goodIn_app (goodIn_of _ (by decide +kernel)) ggX4_leastRoom_X0_loaded
set_option maxRecDepth 20000 in
theorem ggX4_leastRoom_X0_earlierGreater : GoodIn wsX4_leastRoom wsX0_earlierGreater := goodIn_r _ [21, 11, 22, 23, 24, 15, 25, 17, 26, 31, 32, 33, 34, 35, 36, 37, 38, 39, 40, 41, 42, 43, 44, 45, 46] (by decide +kernel) (by decide +kernel)
set_option maxRecDepth 20000 in
theorem gX4_leastRoom_X0_earlierGreater : GoodIn wsX4_leastRoom (wsV RX4 165 RX0 yX0_earlierGreater wsX0_earlierGreater) := goodIn_app (goodIn_of _ (by decide +kernel)) ggX4_leastRoom_X0_earlierGreater
theorem dX4_leastRoom_0 : decode cX4_leastRoom 0 = .ok (.iconst 0, 1) := by decide +kernel
theorem dX4_leastRoom_1 : decode cX4_leastRoom 1 = .ok (.istore_n 1, 1) := by decide +kernel
theorem dX4_leastRoom_2 : decode cX4_leastRoom 2 = .ok (.iconst 0, 1) := by decide +kernel
theorem dX4_leastRoom_3 : decode cX4_leastRoom 3 = .ok (.istore_n 2, 1) := by decide +kernel
theorem dX4_leastRoom_4 : decode cX4_leastRoom 4 = .ok (.iload_n 2, 1) := by decide +kernel
theorem dX4_leastRoom_5 : decode cX4_leastRoom 5 = .ok (.aload_n 0, 1) := by decide +kernel
theorem dX4_leastRoom_6 : decode cX4_leastRoom 6 = .ok (.getfield 10, 3) := by decide +kernel
theorem dX4_leastRoom_9 : decode cX4_leastRoom 9 = .ok (.invokevirtual 44, 3) := by decide +kernel
theorem dX4_leastRoom_12 : decode cX4_leastRoom 12 = .ok (.if_icmp .ge 22, 3) := by decide +kernel
theorem dX4_leastRoom_15 : decode cX4_leastRoom 15 = .ok (.iload_n 1, 1) := by decide +kernel
theorem dX4_leastRoom_16 : decode cX4_leastRoom 16 = .ok (.aload_n 0, 1) := by decide +kernel
theorem dX4_leastRoom_17 : decode cX4_leastRoom 17 = .ok (.getfield 10, 3) := by decide +kernel
theorem dX4_leastRoom_20 : decode cX4_leastRoom 20 = .ok (.iload_n 2, 1) := by decide +kernel
theorem dX4_leastRoom_21 : decode cX4_leastRoom 21 = .ok (.invokevirtual 165, 3) := by decide +kernel
theorem dX4_leastRoom_24 : decode cX4_leastRoom 24 = .ok (.invokestatic 168, 3) := by decide +kernel
theorem dX4_leastRoom_27 : decode cX4_leastRoom 27 = .ok (.istore_n 1, 1) := by decide +kernel
theorem dX4_leastRoom_28 : decode cX4_leastRoom 28 = .ok (.iinc 2 1, 3) := by decide +kernel
theorem dX4_leastRoom_31 : decode cX4_leastRoom 31 = .ok (.goto (-27), 3) := by decide +kernel
theorem dX4_leastRoom_34 : decode cX4_leastRoom 34 = .ok (.iload_n 1, 1) := by decide +kernel
theorem dX4_leastRoom_35 : decode cX4_leastRoom 35 = .ok (.iconst 1, 1) := by decide +kernel
theorem dX4_leastRoom_36 : decode cX4_leastRoom 36 = .ok (.iadd, 1) := by decide +kernel
theorem dX4_leastRoom_37 : decode cX4_leastRoom 37 = .ok (.ireturn, 1) := by decide +kernel
set_option maxRecDepth 20000 in
theorem ggX4_inversions_X0_loaded : GoodIn wsX4_inversions wsX0_loaded := goodIn_r _ [6, 7, 8, 9, 10, 11, 12, 13, 27, 28, 29, 30, 31, 32, 33, 34, 35, 36, 37, 38, 39, 40, 41, 42] (by decide +kernel) (by decide +kernel)
set_option maxRecDepth 20000 in
theorem gX4_inversions_X0_loaded : GoodIn wsX4_inversions (wsV RX4 44 RX0 yX0_loaded wsX0_loaded) := goodIn_app (goodIn_of _ (by decide +kernel)) ggX4_inversions_X0_loaded
set_option maxRecDepth 20000 in
theorem ggX4_inversions_X0_earlierGreater : GoodIn wsX4_inversions wsX0_earlierGreater := goodIn_r _ [17, 7, 18, 19, 20, 11, 21, 13, 22, 27, 28, 29, 30, 31, 32, 33, 34, 35, 36, 37, 38, 39, 40, 41, 42] (by decide +kernel) (by decide +kernel)
set_option maxRecDepth 20000 in
theorem gX4_inversions_X0_earlierGreater : GoodIn wsX4_inversions (wsV RX4 165 RX0 yX0_earlierGreater wsX0_earlierGreater) := goodIn_app (goodIn_of _ (by decide +kernel)) ggX4_inversions_X0_earlierGreater
theorem dX4_inversions_0 : decode cX4_inversions 0 = .ok (.iconst 0, 1) := by decide +kernel
theorem dX4_inversions_1 : decode cX4_inversions 1 = .ok (.istore_n 1, 1) := by decide +kernel
theorem dX4_inversions_2 : decode cX4_inversions 2 = .ok (.iconst 0, 1) := by decide +kernel
theorem dX4_inversions_3 : decode cX4_inversions 3 = .ok (.istore_n 2, 1) := by decide +kernel
theorem dX4_inversions_4 : decode cX4_inversions 4 = .ok (.iload_n 2, 1) := by decide +kernel
theorem dX4_inversions_5 : decode cX4_inversions 5 = .ok (.aload_n 0, 1) := by decide +kernel
theorem dX4_inversions_6 : decode cX4_inversions 6 = .ok (.getfield 10, 3) := by decide +kernel
theorem dX4_inversions_9 : decode cX4_inversions 9 = .ok (.invokevirtual 44, 3) := by decide +kernel
theorem dX4_inversions_12 : decode cX4_inversions 12 = .ok (.if_icmp .ge 20, 3) := by decide +kernel
theorem dX4_inversions_15 : decode cX4_inversions 15 = .ok (.iload_n 1, 1) := by decide +kernel
theorem dX4_inversions_16 : decode cX4_inversions 16 = .ok (.aload_n 0, 1) := by decide +kernel
theorem dX4_inversions_17 : decode cX4_inversions 17 = .ok (.getfield 10, 3) := by decide +kernel
theorem dX4_inversions_20 : decode cX4_inversions 20 = .ok (.iload_n 2, 1) := by decide +kernel
theorem dX4_inversions_21 : decode cX4_inversions 21 = .ok (.invokevirtual 165, 3) := by decide +kernel
theorem dX4_inversions_24 : decode cX4_inversions 24 = .ok (.iadd, 1) := by decide +kernel
theorem dX4_inversions_25 : decode cX4_inversions 25 = .ok (.istore_n 1, 1) := by decide +kernel
theorem dX4_inversions_26 : decode cX4_inversions 26 = .ok (.iinc 2 1, 3) := by decide +kernel
theorem dX4_inversions_29 : decode cX4_inversions 29 = .ok (.goto (-25), 3) := by decide +kernel
theorem dX4_inversions_32 : decode cX4_inversions 32 = .ok (.iload_n 1, 1) := by decide +kernel
theorem dX4_inversions_33 : decode cX4_inversions 33 = .ok (.ireturn, 1) := by decide +kernel
set_option maxRecDepth 20000 in
theorem ggX4_append_X3_length : GoodIn wsX4_append wsX3_length := goodIn_r _ [10, 11, 12, 13, 14, 15, 16, 17, 35, 36, 37, 38, 39, 40, 41, 42] (by decide +kernel) (by decide +kernel)
set_option maxRecDepth 20000 in
theorem gX4_append_X3_length : GoodIn wsX4_append (wsV RX4 175 RX3 yX3_length wsX3_length) := goodIn_app (goodIn_of _ (by decide +kernel)) ggX4_append_X3_length
set_option maxRecDepth 20000 in
theorem ggX4_append_X3_write : GoodIn wsX4_append wsX3_write := goodIn_r _ [21, 11, 22, 23, 24, 15, 25, 17, 26, 27, 28, 29, 30, 12, 13, 14, 16, 35, 36, 37, 38, 39, 40, 41, 42] (by decide +kernel) (by decide +kernel)
set_option maxRecDepth 20000 in
theorem gX4_append_X3_write : GoodIn wsX4_append (wsV RX4 180 RX3 yX3_write wsX3_write) := goodIn_app (goodIn_of _ (by decide +kernel)) ggX4_append_X3_write
theorem dX4_append_0 : decode cX4_append 0 = .ok (.iload_n 1, 1) := by decide +kernel
theorem dX4_append_1 : decode cX4_append 1 = .ok (.ifCond .lt 9, 3) := by decide +kernel
theorem dX4_append_4 : decode cX4_append 4 = .ok (.iload_n 1, 1) := by decide +kernel
theorem dX4_append_5 : decode cX4_append 5 = .ok (.bipush 127, 2) := by decide +kernel
theorem dX4_append_7 : decode cX4_append 7 = .ok (.if_icmp .le 13, 3) := by decide +kernel
theorem dX4_append_10 : decode cX4_append 10 = .ok (.new 33, 3) := by decide +kernel
theorem dX4_append_13 : decode cX4_append 13 = .ok (.dup, 1) := by decide +kernel
theorem dX4_append_14 : decode cX4_append 14 = .ok (.ldc 173, 2) := by decide +kernel
theorem dX4_append_16 : decode cX4_append 16 = .ok (.invokespecial 37, 3) := by decide +kernel
theorem dX4_append_19 : decode cX4_append 19 = .ok (.athrow, 1) := by decide +kernel
theorem dX4_append_20 : decode cX4_append 20 = .ok (.aload_n 0, 1) := by decide +kernel
theorem dX4_append_21 : decode cX4_append 21 = .ok (.getfield 29, 3) := by decide +kernel
theorem dX4_append_24 : decode cX4_append 24 = .ok (.invokevirtual 175, 3) := by decide +kernel
theorem dX4_append_27 : decode cX4_append 27 = .ok (.bipush 100, 2) := by decide +kernel
theorem dX4_append_29 : decode cX4_append 29 = .ok (.if_icmp .lt 13, 3) := by decide +kernel
theorem dX4_append_32 : decode cX4_append 32 = .ok (.new 58, 3) := by decide +kernel
theorem dX4_append_35 : decode cX4_append 35 = .ok (.dup, 1) := by decide +kernel
theorem dX4_append_36 : decode cX4_append 36 = .ok (.ldc 178, 2) := by decide +kernel
theorem dX4_append_38 : decode cX4_append 38 = .ok (.invokespecial 62, 3) := by decide +kernel
theorem dX4_append_41 : decode cX4_append 41 = .ok (.athrow, 1) := by decide +kernel
theorem dX4_append_42 : decode cX4_append 42 = .ok (.aload_n 0, 1) := by decide +kernel
theorem dX4_append_43 : decode cX4_append 43 = .ok (.getfield 29, 3) := by decide +kernel
theorem dX4_append_46 : decode cX4_append 46 = .ok (.iload_n 1, 1) := by decide +kernel
theorem dX4_append_47 : decode cX4_append 47 = .ok (.invokevirtual 180, 3) := by decide +kernel
theorem dX4_append_50 : decode cX4_append 50 = .ok (.ireturn, 1) := by decide +kernel
set_option maxRecDepth 20000 in
theorem ggX4_clearText_X3_wipe : GoodIn wsX4_clearText wsX3_wipe := goodIn_r _ [6, 7, 8, 9, 10, 11, 12, 13, 14, 15, 16, 17, 22, 23, 24, 25, 26, 27, 28, 29] (by decide +kernel) (by decide +kernel)
set_option maxRecDepth 20000 in
theorem gX4_clearText_X3_wipe : GoodIn wsX4_clearText (wsV RX4 183 RX3 yX3_wipe wsX3_wipe) := goodIn_app (goodIn_of _ (by decide +kernel)) ggX4_clearText_X3_wipe
theorem dX4_clearText_0 : decode cX4_clearText 0 = .ok (.aload_n 0, 1) := by decide +kernel
theorem dX4_clearText_1 : decode cX4_clearText 1 = .ok (.getfield 29, 3) := by decide +kernel
theorem dX4_clearText_4 : decode cX4_clearText 4 = .ok (.invokevirtual 183, 3) := by decide +kernel
theorem dX4_clearText_7 : decode cX4_clearText 7 = .ok (.ireturn, 1) := by decide +kernel
set_option maxRecDepth 20000 in
theorem ggX4_carryOut_X3_readOrders : GoodIn wsX4_carryOut wsX3_readOrders := goodIn_r _ [8, 9, 10, 11, 12, 13, 14, 15, 16, 17, 18, 19, 20, 21, 22, 23, 24, 25, 26, 27, 7, 28, 29, 30, 31, 32, 33, 34, 35, 36, 37, 38, 39, 40, 41, 42, 43, 44, 45, 46, 47, 48, 49, 50, 51, 52, 53, 54, 55, 56, 57, 58, 59, 60, 61, 234, 235, 236, 237, 238, 239, 240, 241] (by decide +kernel) (by decide +kernel)
set_option maxRecDepth 20000 in
theorem gX4_carryOut_X3_readOrders : GoodIn wsX4_carryOut (wsV RX4 186 RX3 yX3_readOrders wsX3_readOrders) := goodIn_app (goodIn_of _ (by decide +kernel)) ggX4_carryOut_X3_readOrders
set_option maxRecDepth 20000 in
theorem ggX4_carryOut_X1_save : GoodIn wsX4_carryOut wsX1_save := goodIn_r _ [66, 67, 68, 69, 70, 71, 72, 73, 74, 75, 65, 76, 77, 78, 79, 80, 81, 82, 83, 84, 85, 86, 87, 88, 89, 90, 91, 92, 93, 94, 95, 96, 97, 98, 99, 18, 100, 20, 37, 101, 242, 243, 244, 245, 246, 247, 248, 249, 250, 251, 252, 253, 254, 255, 256, 257, 258, 240, 241] (by decide +kernel) (by decide +kernel)
set_option maxRecDepth 20000 in
theorem gX4_carryOut_X1_save : GoodIn wsX4_carryOut (wsV RX4 40 RX1 yX1_save wsX1_save) := goodIn_app (goodIn_of _ (by decide +kernel)) ggX4_carryOut_X1_save
set_option maxRecDepth 20000 in
theorem ggX4_carryOut_X3_orders : GoodIn wsX4_carryOut wsX3_orders := goodIn_r _ [105, 9, 21, 22, 23, 18, 24, 20, 234, 235, 236, 237, 238, 239, 240, 241] (by decide +kernel) (by decide +kernel)
set_option maxRecDepth 20000 in
theorem gX4_carryOut_X3_orders : GoodIn wsX4_carryOut (wsV RX4 189 RX3 yX3_orders wsX3_orders) := goodIn_app (goodIn_of _ (by decide +kernel)) ggX4_carryOut_X3_orders
set_option maxRecDepth 20000 in
theorem ggX4_carryOut_X3_kind : GoodIn wsX4_carryOut wsX3_kind := goodIn_r _ [109, 9, 33, 34, 35, 18, 36, 20, 37, 234, 235, 236, 237, 238, 239, 240, 241] (by decide +kernel) (by decide +kernel)
set_option maxRecDepth 20000 in
theorem gX4_carryOut_X3_kind : GoodIn wsX4_carryOut (wsV RX4 192 RX3 yX3_kind wsX3_kind) := goodIn_app (goodIn_of _ (by decide +kernel)) ggX4_carryOut_X3_kind
set_option maxRecDepth 20000 in
theorem ggX4_carryOut_X3_first : GoodIn wsX4_carryOut wsX3_first := goodIn_r _ [113, 10, 33, 34, 35, 18, 36, 20, 37, 234, 235, 236, 237, 238, 239, 240, 241] (by decide +kernel) (by decide +kernel)
set_option maxRecDepth 20000 in
theorem gX4_carryOut_X3_first : GoodIn wsX4_carryOut (wsV RX4 195 RX3 yX3_first wsX3_first) := goodIn_app (goodIn_of _ (by decide +kernel)) ggX4_carryOut_X3_first
set_option maxRecDepth 20000 in
theorem ggX4_carryOut_X3_second : GoodIn wsX4_carryOut wsX3_second := goodIn_r _ [117, 11, 33, 34, 35, 18, 36, 20, 37, 234, 235, 236, 237, 238, 239, 240, 241] (by decide +kernel) (by decide +kernel)
set_option maxRecDepth 20000 in
theorem gX4_carryOut_X3_second : GoodIn wsX4_carryOut (wsV RX4 198 RX3 yX3_second wsX3_second) := goodIn_app (goodIn_of _ (by decide +kernel)) ggX4_carryOut_X3_second
set_option maxRecDepth 20000 in
theorem ggX4_carryOut_X4_obey : GoodIn wsX4_carryOut wsX4_obey := goodIn_r _ [122, 3, 123, 124, 125, 81, 126, 84, 127, 22, 23, 18, 24, 20, 128, 129, 130, 131, 83, 87, 85, 86, 132, 133, 134, 135, 136, 34, 35, 36, 37, 137, 138, 139, 140, 91, 88, 141, 142, 143, 144, 145, 146, 147, 148, 149, 150, 151, 152, 153, 154, 155, 156, 92, 89, 90, 157, 55, 56, 57, 58, 59, 60, 61, 158, 159, 160, 161, 162, 163, 164, 165, 166, 167, 168, 169, 170, 171, 172, 173, 174, 175, 176, 177, 178, 179, 180, 181, 182, 183, 184, 185, 186, 187, 188, 189, 190, 191, 192, 193, 70, 71, 72, 194, 195, 196, 197, 198, 199, 200, 201, 202, 203, 204, 93, 94, 205, 206, 207, 208, 209, 210, 211, 212, 213, 214, 215, 216, 217, 218, 219, 220, 95, 96, 221, 222, 223, 224, 225, 226, 227, 228, 229, 230, 231, 232, 233, 245, 246, 247, 248, 249, 250, 251, 252, 253, 254, 255, 256, 257, 258, 240, 241] (by decide +kernel) (by decide +kernel)
set_option maxRecDepth 20000 in
theorem gX4_carryOut_X4_obey : GoodIn wsX4_carryOut (wsV RX4 201 RX4 yX4_obey wsX4_obey) := goodIn_app (goodIn_of _ (by decide +kernel)) ggX4_carryOut_X4_obey
theorem dX4_carryOut_0 : decode cX4_carryOut 0 = .ok (.aload_n 0, 1) := by decide +kernel
theorem dX4_carryOut_1 : decode cX4_carryOut 1 = .ok (.getfield 29, 3) := by decide +kernel
theorem dX4_carryOut_4 : decode cX4_carryOut 4 = .ok (.invokevirtual 186, 3) := by decide +kernel
theorem dX4_carryOut_7 : decode cX4_carryOut 7 = .ok (.istore_n 1, 1) := by decide +kernel
theorem dX4_carryOut_8 : decode cX4_carryOut 8 = .ok (.iload_n 1, 1) := by decide +kernel
theorem dX4_carryOut_9 : decode cX4_carryOut 9 = .ok (.iconst (-1), 1) := by decide +kernel
theorem dX4_carryOut_10 : decode cX4_carryOut 10 = .ok (.if_icmp .eq 8, 3) := by decide +kernel
theorem dX4_carryOut_13 : decode cX4_carryOut 13 = .ok (.bipush (-10), 2) := by decide +kernel
theorem dX4_carryOut_15 : decode cX4_carryOut 15 = .ok (.iload_n 1, 1) := by decide +kernel
theorem dX4_carryOut_16 : decode cX4_carryOut 16 = .ok (.isub, 1) := by decide +kernel
theorem dX4_carryOut_17 : decode cX4_carryOut 17 = .ok (.ireturn, 1) := by decide +kernel
theorem dX4_carryOut_18 : decode cX4_carryOut 18 = .ok (.aload_n 0, 1) := by decide +kernel
theorem dX4_carryOut_19 : decode cX4_carryOut 19 = .ok (.getfield 22, 3) := by decide +kernel
theorem dX4_carryOut_22 : decode cX4_carryOut 22 = .ok (.aload_n 0, 1) := by decide +kernel
theorem dX4_carryOut_23 : decode cX4_carryOut 23 = .ok (.getfield 10, 3) := by decide +kernel
theorem dX4_carryOut_26 : decode cX4_carryOut 26 = .ok (.invokevirtual 40, 3) := by decide +kernel
theorem dX4_carryOut_29 : decode cX4_carryOut 29 = .ok (.iconst 0, 1) := by decide +kernel
theorem dX4_carryOut_30 : decode cX4_carryOut 30 = .ok (.istore_n 2, 1) := by decide +kernel
theorem dX4_carryOut_31 : decode cX4_carryOut 31 = .ok (.iload_n 2, 1) := by decide +kernel
theorem dX4_carryOut_32 : decode cX4_carryOut 32 = .ok (.aload_n 0, 1) := by decide +kernel
theorem dX4_carryOut_33 : decode cX4_carryOut 33 = .ok (.getfield 29, 3) := by decide +kernel
theorem dX4_carryOut_36 : decode cX4_carryOut 36 = .ok (.invokevirtual 189, 3) := by decide +kernel
theorem dX4_carryOut_39 : decode cX4_carryOut 39 = .ok (.if_icmp .ge 40, 3) := by decide +kernel
theorem dX4_carryOut_42 : decode cX4_carryOut 42 = .ok (.aload_n 0, 1) := by decide +kernel
theorem dX4_carryOut_43 : decode cX4_carryOut 43 = .ok (.aload_n 0, 1) := by decide +kernel
theorem dX4_carryOut_44 : decode cX4_carryOut 44 = .ok (.getfield 29, 3) := by decide +kernel
theorem dX4_carryOut_47 : decode cX4_carryOut 47 = .ok (.iload_n 2, 1) := by decide +kernel
theorem dX4_carryOut_48 : decode cX4_carryOut 48 = .ok (.invokevirtual 192, 3) := by decide +kernel
theorem dX4_carryOut_51 : decode cX4_carryOut 51 = .ok (.aload_n 0, 1) := by decide +kernel
theorem dX4_carryOut_52 : decode cX4_carryOut 52 = .ok (.getfield 29, 3) := by decide +kernel
theorem dX4_carryOut_55 : decode cX4_carryOut 55 = .ok (.iload_n 2, 1) := by decide +kernel
theorem dX4_carryOut_56 : decode cX4_carryOut 56 = .ok (.invokevirtual 195, 3) := by decide +kernel
theorem dX4_carryOut_59 : decode cX4_carryOut 59 = .ok (.aload_n 0, 1) := by decide +kernel
theorem dX4_carryOut_60 : decode cX4_carryOut 60 = .ok (.getfield 29, 3) := by decide +kernel
theorem dX4_carryOut_63 : decode cX4_carryOut 63 = .ok (.iload_n 2, 1) := by decide +kernel
theorem dX4_carryOut_64 : decode cX4_carryOut 64 = .ok (.invokevirtual 198, 3) := by decide +kernel
theorem dX4_carryOut_67 : decode cX4_carryOut 67 = .ok (.invokevirtual 201, 3) := by decide +kernel
theorem dX4_carryOut_70 : decode cX4_carryOut 70 = .ok (.ifCond .eq 9, 3) := by decide +kernel
theorem dX4_carryOut_73 : decode cX4_carryOut 73 = .ok (.iinc 2 1, 3) := by decide +kernel
theorem dX4_carryOut_76 : decode cX4_carryOut 76 = .ok (.goto (-45), 3) := by decide +kernel
theorem dX4_carryOut_79 : decode cX4_carryOut 79 = .ok (.iload_n 2, 1) := by decide +kernel
theorem dX4_carryOut_80 : decode cX4_carryOut 80 = .ok (.ireturn, 1) := by decide +kernel
set_option maxRecDepth 20000 in
theorem ggX4_obey_X0_allLoaded : GoodIn wsX4_obey wsX0_allLoaded := goodIn_r _ [6, 7, 8, 9, 10, 11, 12, 13, 147, 148, 149, 150, 151, 152, 153, 154, 155, 156, 157, 158, 159, 160, 161, 162] (by decide +kernel) (by decide +kernel)
set_option maxRecDepth 20000 in
theorem gX4_obey_X0_allLoaded : GoodIn wsX4_obey (wsV RX4 54 RX0 yX0_allLoaded wsX0_allLoaded) := goodIn_app (goodIn_of _ (by decide +kernel)) ggX4_obey_X0_allLoaded
set_option maxRecDepth 20000 in
theorem ggX4_obey_X0_take : GoodIn wsX4_obey wsX0_take := goodIn_r _ [17, 18, 19, 7, 20, 21, 22, 23, 24, 5, 25, 8, 9, 10, 11, 12, 13, 26, 27, 28, 29, 30, 31, 32, 33, 34, 35, 36, 37, 38, 39, 40, 41, 42, 43, 44, 45, 46, 47, 48, 49, 50, 51, 52, 53, 54, 55, 56, 57, 58, 59, 60, 61, 62, 63, 64, 65, 66, 67, 68, 69, 70, 71, 72, 73, 74, 75, 76, 77, 78, 79, 80, 81, 82, 83, 84, 85, 86, 147, 148, 149, 150, 151, 152, 153, 154, 155, 156, 157, 158, 159, 160, 161, 162] (by decide +kernel) (by decide +kernel)
set_option maxRecDepth 20000 in
theorem gX4_obey_X0_take : GoodIn wsX4_obey (wsV RX4 63 RX0 yX0_take wsX0_take) := goodIn_app (goodIn_of _ (by decide +kernel)) ggX4_obey_X0_take
set_option maxRecDepth 20000 in
theorem ggX4_obey_X0_throwAll : GoodIn wsX4_obey wsX0_throwAll := goodIn_r _ [90, 35, 36, 22, 23, 24, 5, 25, 21, 8, 9, 10, 11, 12, 13, 26, 27, 28, 29, 30, 31, 32, 33, 34, 37, 38, 39, 40, 19, 41, 42, 43, 44, 45, 46, 47, 48, 7, 49, 50, 51, 52, 53, 54, 55, 56, 57, 58, 59, 60, 61, 62, 63, 64, 65, 66, 67, 68, 69, 70, 71, 20, 72, 73, 74, 75, 76, 77, 78, 79, 80, 81, 147, 148, 149, 150, 151, 152, 153, 154, 155, 156, 157, 158, 159, 160, 161, 162] (by decide +kernel) (by decide +kernel)
set_option maxRecDepth 20000 in
theorem gX4_obey_X0_throwAll : GoodIn wsX4_obey (wsV RX4 74 RX0 yX0_throwAll wsX0_throwAll) := goodIn_app (goodIn_of _ (by decide +kernel)) ggX4_obey_X0_throwAll
set_option maxRecDepth 20000 in
theorem ggX4_obey_X0_runs : GoodIn wsX4_obey wsX0_runs := goodIn_r _ [94, 36, 8, 9, 10, 11, 12, 13, 147, 148, 149, 150, 151, 152, 153, 154, 155, 156, 157, 158, 159, 160, 161, 162] (by decide +kernel) (by decide +kernel)
set_option maxRecDepth 20000 in
theorem gX4_obey_X0_runs : GoodIn wsX4_obey (wsV RX4 91 RX0 yX0_runs wsX0_runs) := goodIn_app (goodIn_of _ (by decide +kernel)) ggX4_obey_X0_runs
set_option maxRecDepth 20000 in
theorem ggX4_obey_X0_joinLightest : GoodIn wsX4_obey wsX0_joinLightest := goodIn_r _ [98, 36, 99, 100, 101, 102, 103, 104, 105, 5, 106, 55, 8, 9, 10, 11, 12, 13, 26, 27, 28, 29, 30, 107, 108, 109, 110, 111, 112, 113, 35, 114, 115, 116, 117, 118, 119, 21, 72, 73, 74, 75, 64, 65, 66, 67, 76, 77, 78, 79, 80, 81, 120, 121, 122, 123, 54, 124, 125, 126, 127, 147, 148, 149, 150, 151, 152, 153, 154, 155, 156, 157, 158, 159, 160, 161, 162] (by decide +kernel) (by decide +kernel)
set_option maxRecDepth 20000 in
theorem gX4_obey_X0_joinLightest : GoodIn wsX4_obey (wsV RX4 96 RX0 yX0_joinLightest wsX0_joinLightest) := goodIn_app (goodIn_of _ (by decide +kernel)) ggX4_obey_X0_joinLightest
set_option maxRecDepth 20000 in
theorem ggX4_obey_X0_breakRuns : GoodIn wsX4_obey wsX0_breakRuns := goodIn_r _ [131, 36, 54, 111, 112, 101, 113, 35, 132, 133, 8, 9, 10, 11, 12, 13, 26, 27, 28, 29, 30, 22, 23, 24, 5, 25, 21, 134, 135, 136, 137, 19, 55, 20, 49, 50, 51, 52, 53, 56, 57, 58, 59, 60, 61, 62, 63, 76, 77, 78, 79, 80, 81, 73, 74, 75, 68, 69, 70, 71, 72, 147, 148, 149, 150, 151, 152, 153, 154, 155, 156, 157, 158, 159, 160, 161, 162] (by decide +kernel) (by decide +kernel)
set_option maxRecDepth 20000 in
theorem gX4_obey_X0_breakRuns : GoodIn wsX4_obey (wsV RX4 101 RX0 yX0_breakRuns wsX0_breakRuns) := goodIn_app (goodIn_of _ (by decide +kernel)) ggX4_obey_X0_breakRuns
set_option maxRecDepth 20000 in
theorem ggX4_obey_X0_hasRun : GoodIn wsX4_obey wsX0_hasRun := goodIn_r _ [141, 36, 64, 65, 66, 11, 67, 13, 30, 147, 148, 149, 150, 151, 152, 153, 154, 155, 156, 157, 158, 159, 160, 161, 162] (by decide +kernel) (by decide +kernel)
set_option maxRecDepth 20000 in
theorem gX4_obey_X0_hasRun : GoodIn wsX4_obey (wsV RX4 77 RX0 yX0_hasRun wsX0_hasRun) := goodIn_app (goodIn_of _ (by decide +kernel)) ggX4_obey_X0_hasRun
set_option maxRecDepth 20000 in
theorem ggX4_obey_X0_join : GoodIn wsX4_obey wsX0_join := goodIn_r _ [110, 99, 100, 101, 102, 111, 112, 113, 36, 55, 35, 114, 115, 116, 117, 118, 5, 119, 21, 8, 9, 10, 11, 12, 13, 26, 27, 28, 29, 30, 72, 73, 74, 75, 64, 65, 66, 67, 76, 77, 78, 79, 80, 81, 120, 121, 122, 123, 54, 124, 125, 126, 127, 147, 148, 149, 150, 151, 152, 153, 154, 155, 156, 157, 158, 159, 160, 161, 162] (by decide +kernel) (by decide +kernel)
set_option maxRecDepth 20000 in
theorem gX4_obey_X0_join : GoodIn wsX4_obey (wsV RX4 88 RX0 yX0_join wsX0_join) := goodIn_app (goodIn_of _ (by decide +kernel)) ggX4_obey_X0_join
theorem dX4_obey_0 : decode cX4_obey 0 = .ok (.iload_n 1, 1) := by decide +kernel
theorem dX4_obey_1 : decode cX4_obey 1 = .ok (.tableswitch 184 101 115 #[99, 184, 184, 184, 184, 184, 184, 109, 143, 184, 184, 75, 184, 184, 132], 75) := by decide +kernel
theorem dX4_obey_76 : decode cX4_obey 76 = .ok (.aload_n 0, 1) := by decide +kernel
theorem dX4_obey_77 : decode cX4_obey 77 = .ok (.getfield 10, 3) := by decide +kernel
theorem dX4_obey_80 : decode cX4_obey 80 = .ok (.invokevirtual 54, 3) := by decide +kernel
theorem dX4_obey_83 : decode cX4_obey 83 = .ok (.ifCond .eq 5, 3) := by decide +kernel
theorem dX4_obey_86 : decode cX4_obey 86 = .ok (.iconst 0, 1) := by decide +kernel
theorem dX4_obey_87 : decode cX4_obey 87 = .ok (.ireturn, 1) := by decide +kernel
theorem dX4_obey_88 : decode cX4_obey 88 = .ok (.aload_n 0, 1) := by decide +kernel
theorem dX4_obey_89 : decode cX4_obey 89 = .ok (.getfield 10, 3) := by decide +kernel
theorem dX4_obey_92 : decode cX4_obey 92 = .ok (.iload_n 2, 1) := by decide +kernel
theorem dX4_obey_93 : decode cX4_obey 93 = .ok (.iload_n 3, 1) := by decide +kernel
theorem dX4_obey_94 : decode cX4_obey 94 = .ok (.invokevirtual 63, 3) := by decide +kernel
theorem dX4_obey_97 : decode cX4_obey 97 = .ok (.pop, 1) := by decide +kernel
theorem dX4_obey_98 : decode cX4_obey 98 = .ok (.iconst 1, 1) := by decide +kernel
theorem dX4_obey_99 : decode cX4_obey 99 = .ok (.ireturn, 1) := by decide +kernel
theorem dX4_obey_100 : decode cX4_obey 100 = .ok (.aload_n 0, 1) := by decide +kernel
theorem dX4_obey_101 : decode cX4_obey 101 = .ok (.getfield 10, 3) := by decide +kernel
theorem dX4_obey_104 : decode cX4_obey 104 = .ok (.invokevirtual 74, 3) := by decide +kernel
theorem dX4_obey_107 : decode cX4_obey 107 = .ok (.pop, 1) := by decide +kernel
theorem dX4_obey_108 : decode cX4_obey 108 = .ok (.iconst 1, 1) := by decide +kernel
theorem dX4_obey_109 : decode cX4_obey 109 = .ok (.ireturn, 1) := by decide +kernel
theorem dX4_obey_110 : decode cX4_obey 110 = .ok (.aload_n 0, 1) := by decide +kernel
theorem dX4_obey_111 : decode cX4_obey 111 = .ok (.getfield 10, 3) := by decide +kernel
theorem dX4_obey_114 : decode cX4_obey 114 = .ok (.invokevirtual 91, 3) := by decide +kernel
theorem dX4_obey_117 : decode cX4_obey 117 = .ok (.iconst 2, 1) := by decide +kernel
theorem dX4_obey_118 : decode cX4_obey 118 = .ok (.if_icmp .ge 5, 3) := by decide +kernel
theorem dX4_obey_121 : decode cX4_obey 121 = .ok (.iconst 0, 1) := by decide +kernel
theorem dX4_obey_122 : decode cX4_obey 122 = .ok (.ireturn, 1) := by decide +kernel
theorem dX4_obey_123 : decode cX4_obey 123 = .ok (.aload_n 0, 1) := by decide +kernel
theorem dX4_obey_124 : decode cX4_obey 124 = .ok (.getfield 10, 3) := by decide +kernel
theorem dX4_obey_127 : decode cX4_obey 127 = .ok (.invokevirtual 96, 3) := by decide +kernel
theorem dX4_obey_130 : decode cX4_obey 130 = .ok (.pop, 1) := by decide +kernel
theorem dX4_obey_131 : decode cX4_obey 131 = .ok (.iconst 1, 1) := by decide +kernel
theorem dX4_obey_132 : decode cX4_obey 132 = .ok (.ireturn, 1) := by decide +kernel
theorem dX4_obey_133 : decode cX4_obey 133 = .ok (.aload_n 0, 1) := by decide +kernel
theorem dX4_obey_134 : decode cX4_obey 134 = .ok (.getfield 10, 3) := by decide +kernel
theorem dX4_obey_137 : decode cX4_obey 137 = .ok (.iload_n 2, 1) := by decide +kernel
theorem dX4_obey_138 : decode cX4_obey 138 = .ok (.invokevirtual 101, 3) := by decide +kernel
theorem dX4_obey_141 : decode cX4_obey 141 = .ok (.pop, 1) := by decide +kernel
theorem dX4_obey_142 : decode cX4_obey 142 = .ok (.iconst 1, 1) := by decide +kernel
theorem dX4_obey_143 : decode cX4_obey 143 = .ok (.ireturn, 1) := by decide +kernel
theorem dX4_obey_144 : decode cX4_obey 144 = .ok (.iload_n 2, 1) := by decide +kernel
theorem dX4_obey_145 : decode cX4_obey 145 = .ok (.iload_n 3, 1) := by decide +kernel
theorem dX4_obey_146 : decode cX4_obey 146 = .ok (.if_icmp .eq 25, 3) := by decide +kernel
theorem dX4_obey_149 : decode cX4_obey 149 = .ok (.aload_n 0, 1) := by decide +kernel
theorem dX4_obey_150 : decode cX4_obey 150 = .ok (.getfield 10, 3) := by decide +kernel
theorem dX4_obey_153 : decode cX4_obey 153 = .ok (.iload_n 2, 1) := by decide +kernel
theorem dX4_obey_154 : decode cX4_obey 154 = .ok (.invokevirtual 77, 3) := by decide +kernel
theorem dX4_obey_157 : decode cX4_obey 157 = .ok (.ifCond .eq 14, 3) := by decide +kernel
theorem dX4_obey_160 : decode cX4_obey 160 = .ok (.aload_n 0, 1) := by decide +kernel
theorem dX4_obey_161 : decode cX4_obey 161 = .ok (.getfield 10, 3) := by decide +kernel
theorem dX4_obey_164 : decode cX4_obey 164 = .ok (.iload_n 3, 1) := by decide +kernel
theorem dX4_obey_165 : decode cX4_obey 165 = .ok (.invokevirtual 77, 3) := by decide +kernel
theorem dX4_obey_168 : decode cX4_obey 168 = .ok (.ifCond .ne 5, 3) := by decide +kernel
theorem dX4_obey_171 : decode cX4_obey 171 = .ok (.iconst 0, 1) := by decide +kernel
theorem dX4_obey_172 : decode cX4_obey 172 = .ok (.ireturn, 1) := by decide +kernel
theorem dX4_obey_173 : decode cX4_obey 173 = .ok (.aload_n 0, 1) := by decide +kernel
theorem dX4_obey_174 : decode cX4_obey 174 = .ok (.getfield 10, 3) := by decide +kernel
theorem dX4_obey_177 : decode cX4_obey 177 = .ok (.iload_n 2, 1) := by decide +kernel
theorem dX4_obey_178 : decode cX4_obey 178 = .ok (.iload_n 3, 1) := by decide +kernel
theorem dX4_obey_179 : decode cX4_obey 179 = .ok (.invokevirtual 88, 3) := by decide +kernel
theorem dX4_obey_182 : decode cX4_obey 182 = .ok (.pop, 1) := by decide +kernel
theorem dX4_obey_183 : decode cX4_obey 183 = .ok (.iconst 1, 1) := by decide +kernel
theorem dX4_obey_184 : decode cX4_obey 184 = .ok (.ireturn, 1) := by decide +kernel
theorem dX4_obey_185 : decode cX4_obey 185 = .ok (.iconst 0, 1) := by decide +kernel
theorem dX4_obey_186 : decode cX4_obey 186 = .ok (.ireturn, 1) := by decide +kernel
set_option maxRecDepth 20000 in
theorem ggX4_undo_X1_count : GoodIn wsX4_undo wsX1_count := goodIn_r _ [9, 10, 55, 56, 57] (by decide +kernel) (by decide +kernel)
set_option maxRecDepth 20000 in
theorem gX4_undo_X1_count : GoodIn wsX4_undo (wsV RX4 205 RX1 yX1_count wsX1_count) := goodIn_app (goodIn_of _ (by decide +kernel)) ggX4_undo_X1_count
set_option maxRecDepth 20000 in
theorem ggX4_undo_X1_restore : GoodIn wsX4_undo wsX1_restore := goodIn_r _ [14, 15, 10, 16, 17, 18, 8, 19, 20, 21, 22, 23, 24, 25, 26, 27, 28, 29, 30, 31, 32, 33, 34, 35, 36, 37, 38, 39, 40, 41, 42, 43, 44, 45, 46, 47, 48, 49, 50, 55, 56, 57, 58, 59, 60, 61, 62, 63, 64, 65, 66, 67, 68, 69, 70, 71, 72, 73] (by decide +kernel) (by decide +kernel)
set_option maxRecDepth 20000 in
theorem gX4_undo_X1_restore : GoodIn wsX4_undo (wsV RX4 210 RX1 yX1_restore wsX1_restore) := goodIn_app (goodIn_of _ (by decide +kernel)) ggX4_undo_X1_restore
theorem dX4_undo_0 : decode cX4_undo 0 = .ok (.aload_n 0, 1) := by decide +kernel
theorem dX4_undo_1 : decode cX4_undo 1 = .ok (.getfield 22, 3) := by decide +kernel
theorem dX4_undo_4 : decode cX4_undo 4 = .ok (.invokevirtual 205, 3) := by decide +kernel
theorem dX4_undo_7 : decode cX4_undo 7 = .ok (.ifCond .ne 13, 3) := by decide +kernel
theorem dX4_undo_10 : decode cX4_undo 10 = .ok (.new 58, 3) := by decide +kernel
theorem dX4_undo_13 : decode cX4_undo 13 = .ok (.dup, 1) := by decide +kernel
theorem dX4_undo_14 : decode cX4_undo 14 = .ok (.ldc 208, 2) := by decide +kernel
theorem dX4_undo_16 : decode cX4_undo 16 = .ok (.invokespecial 62, 3) := by decide +kernel
theorem dX4_undo_19 : decode cX4_undo 19 = .ok (.athrow, 1) := by decide +kernel
theorem dX4_undo_20 : decode cX4_undo 20 = .ok (.aload_n 0, 1) := by decide +kernel
theorem dX4_undo_21 : decode cX4_undo 21 = .ok (.getfield 22, 3) := by decide +kernel
theorem dX4_undo_24 : decode cX4_undo 24 = .ok (.aload_n 0, 1) := by decide +kernel
theorem dX4_undo_25 : decode cX4_undo 25 = .ok (.getfield 10, 3) := by decide +kernel
theorem dX4_undo_28 : decode cX4_undo 28 = .ok (.invokevirtual 210, 3) := by decide +kernel
theorem dX4_undo_31 : decode cX4_undo 31 = .ok (.aload_n 0, 1) := by decide +kernel
theorem dX4_undo_32 : decode cX4_undo 32 = .ok (.getfield 22, 3) := by decide +kernel
theorem dX4_undo_35 : decode cX4_undo 35 = .ok (.invokevirtual 205, 3) := by decide +kernel
theorem dX4_undo_38 : decode cX4_undo 38 = .ok (.ireturn, 1) := by decide +kernel
set_option maxRecDepth 20000 in
theorem ggX4_digest_X3_length : GoodIn wsX4_digest wsX3_length := goodIn_r _ [9, 10, 11, 12, 13, 14, 15, 16, 168, 169, 170, 171, 172, 173, 174, 175] (by decide +kernel) (by decide +kernel)
set_option maxRecDepth 20000 in
theorem gX4_digest_X3_length : GoodIn wsX4_digest (wsV RX4 175 RX3 yX3_length wsX3_length) := goodIn_app (goodIn_of _ (by decide +kernel)) ggX4_digest_X3_length
set_option maxRecDepth 20000 in
theorem ggX4_digest_X4_mixed : GoodIn wsX4_digest wsX4_mixed := goodIn_r _ [20, 21] (by decide +kernel) (by decide +kernel)
set_option maxRecDepth 20000 in
theorem gX4_digest_X4_mixed : GoodIn wsX4_digest (va_wsS RX4 215 yX4_mixed wsX4_mixed) := goodIn_app (goodIn_of _ (by decide +kernel)) ggX4_digest_X4_mixed
set_option maxRecDepth 20000 in
theorem ggX4_digest_X0_number : GoodIn wsX4_digest wsX0_number := goodIn_r _ [26, 27, 28, 29, 30, 31, 32, 33, 34, 35, 36, 37, 38, 25, 39, 40, 41, 12, 13, 14, 15, 16, 42, 43, 44, 45, 46, 176, 177, 178, 179, 180, 181, 182, 183, 184, 185, 186, 187, 188, 189, 174, 175] (by decide +kernel) (by decide +kernel)
set_option maxRecDepth 20000 in
theorem gX4_digest_X0_number : GoodIn wsX4_digest (wsV RX4 144 RX0 yX0_number wsX0_number) := goodIn_app (goodIn_of _ (by decide +kernel)) ggX4_digest_X0_number
set_option maxRecDepth 20000 in
theorem ggX4_digest_X0_loaded : GoodIn wsX4_digest wsX0_loaded := goodIn_r _ [50, 28, 41, 12, 13, 14, 15, 16, 176, 177, 178, 179, 180, 181, 182, 183, 184, 185, 186, 187, 188, 189, 174, 175] (by decide +kernel) (by decide +kernel)
set_option maxRecDepth 20000 in
theorem gX4_digest_X0_loaded : GoodIn wsX4_digest (wsV RX4 44 RX0 yX0_loaded wsX0_loaded) := goodIn_app (goodIn_of _ (by decide +kernel)) ggX4_digest_X0_loaded
set_option maxRecDepth 20000 in
theorem ggX4_digest_X0_parcelFact : GoodIn wsX4_digest wsX0_parcelFact := goodIn_r _ [54, 40, 28, 55, 42, 43, 44, 14, 45, 16, 46, 56, 57, 58, 25, 59, 60, 41, 12, 13, 15, 176, 177, 178, 179, 180, 181, 182, 183, 184, 185, 186, 187, 188, 189, 174, 175] (by decide +kernel) (by decide +kernel)
set_option maxRecDepth 20000 in
theorem gX4_digest_X0_parcelFact : GoodIn wsX4_digest (wsV RX4 123 RX0 yX0_parcelFact wsX0_parcelFact) := goodIn_app (goodIn_of _ (by decide +kernel)) ggX4_digest_X0_parcelFact
set_option maxRecDepth 20000 in
theorem ggX4_digest_X0_runs : GoodIn wsX4_digest wsX0_runs := goodIn_r _ [64, 29, 41, 12, 13, 14, 15, 16, 176, 177, 178, 179, 180, 181, 182, 183, 184, 185, 186, 187, 188, 189, 174, 175] (by decide +kernel) (by decide +kernel)
set_option maxRecDepth 20000 in
theorem gX4_digest_X0_runs : GoodIn wsX4_digest (wsV RX4 91 RX0 yX0_runs wsX0_runs) := goodIn_app (goodIn_of _ (by decide +kernel)) ggX4_digest_X0_runs
set_option maxRecDepth 20000 in
theorem ggX4_digest_X0_runNumber : GoodIn wsX4_digest wsX0_runNumber := goodIn_r _ [68, 29, 42, 43, 44, 14, 45, 16, 46, 176, 177, 178, 179, 180, 181, 182, 183, 184, 185, 186, 187, 188, 189, 174, 175] (by decide +kernel) (by decide +kernel)
set_option maxRecDepth 20000 in
theorem gX4_digest_X0_runNumber : GoodIn wsX4_digest (wsV RX4 141 RX0 yX0_runNumber wsX0_runNumber) := goodIn_app (goodIn_of _ (by decide +kernel)) ggX4_digest_X0_runNumber
set_option maxRecDepth 20000 in
theorem ggX4_digest_X0_runFact : GoodIn wsX4_digest wsX0_runFact := goodIn_r _ [72, 73, 29, 74, 28, 34, 36, 37, 38, 25, 39, 40, 41, 12, 13, 14, 15, 16, 42, 43, 44, 45, 46, 75, 76, 77, 78, 79, 80, 81, 82, 60, 83, 84, 85, 86, 176, 177, 178, 179, 180, 181, 182, 183, 184, 185, 186, 187, 188, 189, 174, 175] (by decide +kernel) (by decide +kernel)
set_option maxRecDepth 20000 in
theorem gX4_digest_X0_runFact : GoodIn wsX4_digest (wsV RX4 126 RX0 yX0_runFact wsX0_runFact) := goodIn_app (goodIn_of _ (by decide +kernel)) ggX4_digest_X0_runFact
set_option maxRecDepth 20000 in
theorem ggX4_digest_X4_nextThrown : GoodIn wsX4_digest wsX4_nextThrown := goodIn_r _ [90, 3, 91, 92, 93, 25, 94, 34, 60, 40, 83, 84, 85, 86, 41, 12, 13, 14, 15, 16, 42, 43, 44, 45, 46, 95, 96, 97, 98, 28, 164, 165, 166, 167, 176, 177, 178, 179, 180, 181, 182, 183, 184, 185, 186, 187, 188, 189, 174, 175] (by decide +kernel) (by decide +kernel)
set_option maxRecDepth 20000 in
theorem gX4_digest_X4_nextThrown : GoodIn wsX4_digest (wsV RX4 219 RX4 yX4_nextThrown wsX4_nextThrown) := goodIn_app (goodIn_of _ (by decide +kernel)) ggX4_digest_X4_nextThrown
set_option maxRecDepth 20000 in
theorem ggX4_digest_X4_costByWeight : GoodIn wsX4_digest wsX4_costByWeight := goodIn_r _ [102, 103, 3, 104, 105, 106, 25, 107, 27, 28, 55, 40, 60, 29, 74, 73, 34, 35, 30, 31, 32, 33, 108, 109, 110, 14, 111, 16, 46, 112, 113, 114, 115, 116, 117, 118, 119, 41, 12, 13, 15, 120, 121, 122, 123, 124, 125, 126, 127, 128, 42, 43, 44, 45, 129, 130, 131, 132, 133, 134, 135, 136, 137, 138, 139, 140, 141, 142, 143, 75, 76, 77, 78, 144, 145, 146, 147, 148, 149, 150, 151, 152, 153, 154, 155, 156, 157, 164, 165, 166, 167, 176, 177, 178, 179, 180, 181, 182, 183, 184, 185, 186, 187, 188, 189, 174, 175] (by decide +kernel) (by decide +kernel)
set_option maxRecDepth 20000 in
theorem gX4_digest_X4_costByWeight : GoodIn wsX4_digest (wsV RX4 222 RX4 yX4_costByWeight wsX4_costByWeight) := goodIn_app (goodIn_of _ (by decide +kernel)) ggX4_digest_X4_costByWeight
set_option maxRecDepth 20000 in
theorem ggX4_digest_X1_count : GoodIn wsX4_digest wsX1_count := goodIn_r _ [162, 163, 190, 191, 192] (by decide +kernel) (by decide +kernel)
set_option maxRecDepth 20000 in
theorem gX4_digest_X1_count : GoodIn wsX4_digest (wsV RX4 205 RX1 yX1_count wsX1_count) := goodIn_app (goodIn_of _ (by decide +kernel)) ggX4_digest_X1_count
theorem dX4_digest_0 : decode cX4_digest 0 = .ok (.ldc2_w 213, 3) := by decide +kernel
theorem dX4_digest_3 : decode cX4_digest 3 = .ok (.aload_n 0, 1) := by decide +kernel
theorem dX4_digest_4 : decode cX4_digest 4 = .ok (.getfield 29, 3) := by decide +kernel
theorem dX4_digest_7 : decode cX4_digest 7 = .ok (.invokevirtual 175, 3) := by decide +kernel
theorem dX4_digest_10 : decode cX4_digest 10 = .ok (.invokestatic 215, 3) := by decide +kernel
theorem dX4_digest_13 : decode cX4_digest 13 = .ok (.lstore_n 1, 1) := by decide +kernel
theorem dX4_digest_14 : decode cX4_digest 14 = .ok (.iconst 0, 1) := by decide +kernel
theorem dX4_digest_15 : decode cX4_digest 15 = .ok (.istore_n 3, 1) := by decide +kernel
theorem dX4_digest_16 : decode cX4_digest 16 = .ok (.iload_n 3, 1) := by decide +kernel
theorem dX4_digest_17 : decode cX4_digest 17 = .ok (.bipush 12, 2) := by decide +kernel
theorem dX4_digest_19 : decode cX4_digest 19 = .ok (.if_icmp .ge 22, 3) := by decide +kernel
theorem dX4_digest_22 : decode cX4_digest 22 = .ok (.lload_n 1, 1) := by decide +kernel
theorem dX4_digest_23 : decode cX4_digest 23 = .ok (.aload_n 0, 1) := by decide +kernel
theorem dX4_digest_24 : decode cX4_digest 24 = .ok (.getfield 10, 3) := by decide +kernel
theorem dX4_digest_27 : decode cX4_digest 27 = .ok (.iload_n 3, 1) := by decide +kernel
theorem dX4_digest_28 : decode cX4_digest 28 = .ok (.invokevirtual 144, 3) := by decide +kernel
theorem dX4_digest_31 : decode cX4_digest 31 = .ok (.invokestatic 215, 3) := by decide +kernel
theorem dX4_digest_34 : decode cX4_digest 34 = .ok (.lstore_n 1, 1) := by decide +kernel
theorem dX4_digest_35 : decode cX4_digest 35 = .ok (.iinc 3 1, 3) := by decide +kernel
theorem dX4_digest_38 : decode cX4_digest 38 = .ok (.goto (-22), 3) := by decide +kernel
theorem dX4_digest_41 : decode cX4_digest 41 = .ok (.iconst 0, 1) := by decide +kernel
theorem dX4_digest_42 : decode cX4_digest 42 = .ok (.istore_n 3, 1) := by decide +kernel
theorem dX4_digest_43 : decode cX4_digest 43 = .ok (.iload_n 3, 1) := by decide +kernel
theorem dX4_digest_44 : decode cX4_digest 44 = .ok (.aload_n 0, 1) := by decide +kernel
theorem dX4_digest_45 : decode cX4_digest 45 = .ok (.getfield 10, 3) := by decide +kernel
theorem dX4_digest_48 : decode cX4_digest 48 = .ok (.invokevirtual 44, 3) := by decide +kernel
theorem dX4_digest_51 : decode cX4_digest 51 = .ok (.if_icmp .ge 39, 3) := by decide +kernel
theorem dX4_digest_54 : decode cX4_digest 54 = .ok (.iconst 0, 1) := by decide +kernel
theorem dX4_digest_55 : decode cX4_digest 55 = .ok (.istore 4, 2) := by decide +kernel
theorem dX4_digest_57 : decode cX4_digest 57 = .ok (.iload 4, 2) := by decide +kernel
theorem dX4_digest_59 : decode cX4_digest 59 = .ok (.iconst 5, 1) := by decide +kernel
theorem dX4_digest_60 : decode cX4_digest 60 = .ok (.if_icmp .ge 24, 3) := by decide +kernel
theorem dX4_digest_63 : decode cX4_digest 63 = .ok (.lload_n 1, 1) := by decide +kernel
theorem dX4_digest_64 : decode cX4_digest 64 = .ok (.aload_n 0, 1) := by decide +kernel
theorem dX4_digest_65 : decode cX4_digest 65 = .ok (.getfield 10, 3) := by decide +kernel
theorem dX4_digest_68 : decode cX4_digest 68 = .ok (.iload_n 3, 1) := by decide +kernel
theorem dX4_digest_69 : decode cX4_digest 69 = .ok (.iload 4, 2) := by decide +kernel
theorem dX4_digest_71 : decode cX4_digest 71 = .ok (.invokevirtual 123, 3) := by decide +kernel
theorem dX4_digest_74 : decode cX4_digest 74 = .ok (.invokestatic 215, 3) := by decide +kernel
theorem dX4_digest_77 : decode cX4_digest 77 = .ok (.lstore_n 1, 1) := by decide +kernel
theorem dX4_digest_78 : decode cX4_digest 78 = .ok (.iinc 4 1, 3) := by decide +kernel
theorem dX4_digest_81 : decode cX4_digest 81 = .ok (.goto (-24), 3) := by decide +kernel
theorem dX4_digest_84 : decode cX4_digest 84 = .ok (.iinc 3 1, 3) := by decide +kernel
theorem dX4_digest_87 : decode cX4_digest 87 = .ok (.goto (-44), 3) := by decide +kernel
theorem dX4_digest_90 : decode cX4_digest 90 = .ok (.iconst 0, 1) := by decide +kernel
theorem dX4_digest_91 : decode cX4_digest 91 = .ok (.istore_n 3, 1) := by decide +kernel
theorem dX4_digest_92 : decode cX4_digest 92 = .ok (.iload_n 3, 1) := by decide +kernel
theorem dX4_digest_93 : decode cX4_digest 93 = .ok (.aload_n 0, 1) := by decide +kernel
theorem dX4_digest_94 : decode cX4_digest 94 = .ok (.getfield 10, 3) := by decide +kernel
theorem dX4_digest_97 : decode cX4_digest 97 = .ok (.invokevirtual 91, 3) := by decide +kernel
theorem dX4_digest_100 : decode cX4_digest 100 = .ok (.if_icmp .ge 58, 3) := by decide +kernel
theorem dX4_digest_103 : decode cX4_digest 103 = .ok (.aload_n 0, 1) := by decide +kernel
theorem dX4_digest_104 : decode cX4_digest 104 = .ok (.getfield 10, 3) := by decide +kernel
theorem dX4_digest_107 : decode cX4_digest 107 = .ok (.iload_n 3, 1) := by decide +kernel
theorem dX4_digest_108 : decode cX4_digest 108 = .ok (.invokevirtual 141, 3) := by decide +kernel
theorem dX4_digest_111 : decode cX4_digest 111 = .ok (.istore 4, 2) := by decide +kernel
theorem dX4_digest_113 : decode cX4_digest 113 = .ok (.lload_n 1, 1) := by decide +kernel
theorem dX4_digest_114 : decode cX4_digest 114 = .ok (.iload 4, 2) := by decide +kernel
theorem dX4_digest_116 : decode cX4_digest 116 = .ok (.invokestatic 215, 3) := by decide +kernel
theorem dX4_digest_119 : decode cX4_digest 119 = .ok (.lstore_n 1, 1) := by decide +kernel
theorem dX4_digest_120 : decode cX4_digest 120 = .ok (.iconst 0, 1) := by decide +kernel
theorem dX4_digest_121 : decode cX4_digest 121 = .ok (.istore 5, 2) := by decide +kernel
theorem dX4_digest_123 : decode cX4_digest 123 = .ok (.iload 5, 2) := by decide +kernel
theorem dX4_digest_125 : decode cX4_digest 125 = .ok (.bipush 6, 2) := by decide +kernel
theorem dX4_digest_127 : decode cX4_digest 127 = .ok (.if_icmp .ge 25, 3) := by decide +kernel
theorem dX4_digest_130 : decode cX4_digest 130 = .ok (.lload_n 1, 1) := by decide +kernel
theorem dX4_digest_131 : decode cX4_digest 131 = .ok (.aload_n 0, 1) := by decide +kernel
theorem dX4_digest_132 : decode cX4_digest 132 = .ok (.getfield 10, 3) := by decide +kernel
theorem dX4_digest_135 : decode cX4_digest 135 = .ok (.iload 4, 2) := by decide +kernel
theorem dX4_digest_137 : decode cX4_digest 137 = .ok (.iload 5, 2) := by decide +kernel
theorem dX4_digest_139 : decode cX4_digest 139 = .ok (.invokevirtual 126, 3) := by decide +kernel
theorem dX4_digest_142 : decode cX4_digest 142 = .ok (.invokestatic 215, 3) := by decide +kernel
theorem dX4_digest_145 : decode cX4_digest 145 = .ok (.lstore_n 1, 1) := by decide +kernel
theorem dX4_digest_146 : decode cX4_digest 146 = .ok (.iinc 5 1, 3) := by decide +kernel
theorem dX4_digest_149 : decode cX4_digest 149 = .ok (.goto (-26), 3) := by decide +kernel
theorem dX4_digest_152 : decode cX4_digest 152 = .ok (.iinc 3 1, 3) := by decide +kernel
theorem dX4_digest_155 : decode cX4_digest 155 = .ok (.goto (-63), 3) := by decide +kernel
theorem dX4_digest_158 : decode cX4_digest 158 = .ok (.lload_n 1, 1) := by decide +kernel
theorem dX4_digest_159 : decode cX4_digest 159 = .ok (.aload_n 0, 1) := by decide +kernel
theorem dX4_digest_160 : decode cX4_digest 160 = .ok (.invokevirtual 219, 3) := by decide +kernel
theorem dX4_digest_163 : decode cX4_digest 163 = .ok (.invokestatic 215, 3) := by decide +kernel
theorem dX4_digest_166 : decode cX4_digest 166 = .ok (.lstore_n 1, 1) := by decide +kernel
theorem dX4_digest_167 : decode cX4_digest 167 = .ok (.lload_n 1, 1) := by decide +kernel
theorem dX4_digest_168 : decode cX4_digest 168 = .ok (.aload_n 0, 1) := by decide +kernel
theorem dX4_digest_169 : decode cX4_digest 169 = .ok (.invokevirtual 222, 3) := by decide +kernel
theorem dX4_digest_172 : decode cX4_digest 172 = .ok (.invokestatic 215, 3) := by decide +kernel
theorem dX4_digest_175 : decode cX4_digest 175 = .ok (.lstore_n 1, 1) := by decide +kernel
theorem dX4_digest_176 : decode cX4_digest 176 = .ok (.lload_n 1, 1) := by decide +kernel
theorem dX4_digest_177 : decode cX4_digest 177 = .ok (.aload_n 0, 1) := by decide +kernel
theorem dX4_digest_178 : decode cX4_digest 178 = .ok (.getfield 22, 3) := by decide +kernel
theorem dX4_digest_181 : decode cX4_digest 181 = .ok (.invokevirtual 205, 3) := by decide +kernel
theorem dX4_digest_184 : decode cX4_digest 184 = .ok (.invokestatic 215, 3) := by decide +kernel
theorem dX4_digest_187 : decode cX4_digest 187 = .ok (.lreturn, 1) := by decide +kernel
theorem dX4_mixed_0 : decode cX4_mixed 0 = .ok (.ldc2_w 225, 3) := by decide +kernel
theorem dX4_mixed_3 : decode cX4_mixed 3 = .ok (.lload_n 0, 1) := by decide +kernel
theorem dX4_mixed_4 : decode cX4_mixed 4 = .ok (.lmul, 1) := by decide +kernel
theorem dX4_mixed_5 : decode cX4_mixed 5 = .ok (.iload_n 2, 1) := by decide +kernel
theorem dX4_mixed_6 : decode cX4_mixed 6 = .ok (.i2l, 1) := by decide +kernel
theorem dX4_mixed_7 : decode cX4_mixed 7 = .ok (.ladd, 1) := by decide +kernel
theorem dX4_mixed_8 : decode cX4_mixed 8 = .ok (.lreturn, 1) := by decide +kernel
