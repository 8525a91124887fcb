theorem dX1_init_0 : decode cX1_init 0 = .ok (.aload_n 0, 1) := by decide +kernel
theorem dX1_init_1 : decode cX1_init 1 = .ok (.invokespecial 3, 3) := by decide +kernel
theorem dX1_init_4 : decode cX1_init 4 = .ok (.aload_n 0, 1) := by decide +kernel
theorem dX1_init_5 : decode cX1_init 5 = .ok (.iconst 4, 1) := by decide +kernel
theorem dX1_init_6 : decode cX1_init 6 = .ok (.anewarray 9, 3) := by decide +kernel
theorem dX1_init_9 : decode cX1_init 9 = .ok (.putfield 11, 3) := by decide +kernel
theorem dX1_init_12 : decode cX1_init 12 = .ok (.iconst 0, 1) := by decide +kernel
theorem dX1_init_13 : decode cX1_init 13 = .ok (.istore_n 1, 1) := by decide +kernel
theorem dX1_init_14 : decode cX1_init 14 = .ok (.iload_n 1, 1) := by decide +kernel
theorem dX1_init_15 : decode cX1_init 15 = .ok (.aload_n 0, 1) := by decide +kernel
theorem dX1_init_16 : decode cX1_init 16 = .ok (.getfield 11, 3) := by decide +kernel
theorem dX1_init_19 : decode cX1_init 19 = .ok (.arraylength, 1) := by decide +kernel
theorem dX1_init_20 : decode cX1_init 20 = .ok (.if_icmp .ge 22, 3) := by decide +kernel
theorem dX1_init_23 : decode cX1_init 23 = .ok (.aload_n 0, 1) := by decide +kernel
theorem dX1_init_24 : decode cX1_init 24 = .ok (.getfield 11, 3) := by decide +kernel
theorem dX1_init_27 : decode cX1_init 27 = .ok (.iload_n 1, 1) := by decide +kernel
theorem dX1_init_28 : decode cX1_init 28 = .ok (.new 9, 3) := by decide +kernel
theorem dX1_init_31 : decode cX1_init 31 = .ok (.dup, 1) := by decide +kernel
theorem dX1_init_32 : decode cX1_init 32 = .ok (.invokespecial 17, 3) := by decide +kernel
theorem dX1_init_35 : decode cX1_init 35 = .ok (.aastore, 1) := by decide +kernel
theorem dX1_init_36 : decode cX1_init 36 = .ok (.iinc 1 1, 3) := by decide +kernel
theorem dX1_init_39 : decode cX1_init 39 = .ok (.goto (-25), 3) := by decide +kernel
theorem dX1_init_42 : decode cX1_init 42 = .ok (.return_, 1) := by decide +kernel
theorem dX1_count_0 : decode cX1_count 0 = .ok (.aload_n 0, 1) := by decide +kernel
theorem dX1_count_1 : decode cX1_count 1 = .ok (.getfield 18, 3) := by decide +kernel
theorem dX1_count_4 : decode cX1_count 4 = .ok (.ireturn, 1) := by decide +kernel
set_option maxRecDepth 20000 in
theorem ggX1_save_X1_placeAt : GoodIn wsX1_save wsX1_placeAt := goodIn_r _ [11, 12, 40, 41, 42] (by decide +kernel) (by decide +kernel)
set_option maxRecDepth 20000 in
theorem gX1_save_X1_placeAt : GoodIn wsX1_save (wsV RX1 25 RX1 yX1_placeAt wsX1_placeAt) := goodIn_app (goodIn_of _ (by decide +kernel)) ggX1_save_X1_placeAt
set_option maxRecDepth 20000 in
theorem ggX1_save_X0_copy : GoodIn wsX1_save wsX0_copy := goodIn_r _ [17, 18, 19, 20, 21, 22, 23, 24, 25, 26, 27, 28, 29, 30, 31, 32, 33, 34, 35, 36, 37, 38, 39, 4, 5, 6, 43, 44, 45, 46, 47, 48, 49, 50, 51, 52, 53, 54, 55, 56, 57, 58] (by decide +kernel) (by decide +kernel)
set_option maxRecDepth 20000 in
theorem gX1_save_X0_copy : GoodIn wsX1_save (wsV RX1 29 RX0 yX0_copy wsX0_copy) := goodIn_app (goodIn_of _ (by decide +kernel)) ggX1_save_X0_copy
theorem dX1_save_0 : decode cX1_save 0 = .ok (.aload_n 0, 1) := by decide +kernel
theorem dX1_save_1 : decode cX1_save 1 = .ok (.aload_n 0, 1) := by decide +kernel
theorem dX1_save_2 : decode cX1_save 2 = .ok (.getfield 22, 3) := by decide +kernel
theorem dX1_save_5 : decode cX1_save 5 = .ok (.invokevirtual 25, 3) := by decide +kernel
theorem dX1_save_8 : decode cX1_save 8 = .ok (.astore_n 2, 1) := by decide +kernel
theorem dX1_save_9 : decode cX1_save 9 = .ok (.aload_n 2, 1) := by decide +kernel
theorem dX1_save_10 : decode cX1_save 10 = .ok (.ifnull 34, 3) := by decide +kernel
theorem dX1_save_13 : decode cX1_save 13 = .ok (.aload_n 2, 1) := by decide +kernel
theorem dX1_save_14 : decode cX1_save 14 = .ok (.aload_n 1, 1) := by decide +kernel
theorem dX1_save_15 : decode cX1_save 15 = .ok (.invokevirtual 29, 3) := by decide +kernel
theorem dX1_save_18 : decode cX1_save 18 = .ok (.aload_n 0, 1) := by decide +kernel
theorem dX1_save_19 : decode cX1_save 19 = .ok (.aload_n 0, 1) := by decide +kernel
theorem dX1_save_20 : decode cX1_save 20 = .ok (.getfield 22, 3) := by decide +kernel
theorem dX1_save_23 : decode cX1_save 23 = .ok (.iconst 1, 1) := by decide +kernel
theorem dX1_save_24 : decode cX1_save 24 = .ok (.iadd, 1) := by decide +kernel
theorem dX1_save_25 : decode cX1_save 25 = .ok (.iconst 4, 1) := by decide +kernel
theorem dX1_save_26 : decode cX1_save 26 = .ok (.irem, 1) := by decide +kernel
theorem dX1_save_27 : decode cX1_save 27 = .ok (.putfield 22, 3) := by decide +kernel
theorem dX1_save_30 : decode cX1_save 30 = .ok (.aload_n 0, 1) := by decide +kernel
theorem dX1_save_31 : decode cX1_save 31 = .ok (.aload_n 0, 1) := by decide +kernel
theorem dX1_save_32 : decode cX1_save 32 = .ok (.getfield 18, 3) := by decide +kernel
theorem dX1_save_35 : decode cX1_save 35 = .ok (.iconst 1, 1) := by decide +kernel
theorem dX1_save_36 : decode cX1_save 36 = .ok (.iadd, 1) := by decide +kernel
theorem dX1_save_37 : decode cX1_save 37 = .ok (.iconst 4, 1) := by decide +kernel
theorem dX1_save_38 : decode cX1_save 38 = .ok (.invokestatic 33, 3) := by decide +kernel
theorem dX1_save_41 : decode cX1_save 41 = .ok (.putfield 18, 3) := by decide +kernel
theorem dX1_save_44 : decode cX1_save 44 = .ok (.return_, 1) := by decide +kernel
set_option maxRecDepth 20000 in
theorem ggX1_restore_X1_placeAt : GoodIn wsX1_restore wsX1_placeAt := goodIn_r _ [7, 8, 39, 40, 41] (by decide +kernel) (by decide +kernel)
set_option maxRecDepth 20000 in
theorem gX1_restore_X1_placeAt : GoodIn wsX1_restore (wsV RX1 25 RX1 yX1_placeAt wsX1_placeAt) := goodIn_app (goodIn_of _ (by decide +kernel)) ggX1_restore_X1_placeAt
set_option maxRecDepth 20000 in
theorem ggX1_restore_X0_copy : GoodIn wsX1_restore wsX0_copy := goodIn_r _ [13, 14, 15, 16, 17, 18, 19, 20, 21, 22, 23, 24, 25, 26, 27, 28, 29, 30, 31, 32, 33, 34, 35, 36, 37, 38, 42, 43, 44, 45, 46, 47, 48, 49, 50, 51, 52, 53, 54, 55, 56, 57] (by decide +kernel) (by decide +kernel)
set_option maxRecDepth 20000 in
theorem gX1_restore_X0_copy : GoodIn wsX1_restore (wsV RX1 29 RX0 yX0_copy wsX0_copy) := goodIn_app (goodIn_of _ (by decide +kernel)) ggX1_restore_X0_copy
theorem dX1_restore_0 : decode cX1_restore 0 = .ok (.aload_n 0, 1) := by decide +kernel
theorem dX1_restore_1 : decode cX1_restore 1 = .ok (.getfield 22, 3) := by decide +kernel
theorem dX1_restore_4 : decode cX1_restore 4 = .ok (.iconst 4, 1) := by decide +kernel
theorem dX1_restore_5 : decode cX1_restore 5 = .ok (.iadd, 1) := by decide +kernel
theorem dX1_restore_6 : decode cX1_restore 6 = .ok (.iconst 1, 1) := by decide +kernel
theorem dX1_restore_7 : decode cX1_restore 7 = .ok (.isub, 1) := by decide +kernel
theorem dX1_restore_8 : decode cX1_restore 8 = .ok (.iconst 4, 1) := by decide +kernel
theorem dX1_restore_9 : decode cX1_restore 9 = .ok (.irem, 1) := by decide +kernel
theorem dX1_restore_10 : decode cX1_restore 10 = .ok (.istore_n 2, 1) := by decide +kernel
theorem dX1_restore_11 : decode cX1_restore 11 = .ok (.aload_n 0, 1) := by decide +kernel
theorem dX1_restore_12 : decode cX1_restore 12 = .ok (.iload_n 2, 1) := by decide +kernel
theorem dX1_restore_13 : decode cX1_restore 13 = .ok (.invokevirtual 25, 3) := by decide +kernel
theorem dX1_restore_16 : decode cX1_restore 16 = .ok (.astore_n 3, 1) := by decide +kernel
theorem dX1_restore_17 : decode cX1_restore 17 = .ok (.aload_n 3, 1) := by decide +kernel
theorem dX1_restore_18 : decode cX1_restore 18 = .ok (.ifnull 23, 3) := by decide +kernel
theorem dX1_restore_21 : decode cX1_restore 21 = .ok (.aload_n 1, 1) := by decide +kernel
theorem dX1_restore_22 : decode cX1_restore 22 = .ok (.aload_n 3, 1) := by decide +kernel
theorem dX1_restore_23 : decode cX1_restore 23 = .ok (.invokevirtual 29, 3) := by decide +kernel
theorem dX1_restore_26 : decode cX1_restore 26 = .ok (.aload_n 0, 1) := by decide +kernel
theorem dX1_restore_27 : decode cX1_restore 27 = .ok (.iload_n 2, 1) := by decide +kernel
theorem dX1_restore_28 : decode cX1_restore 28 = .ok (.putfield 22, 3) := by decide +kernel
theorem dX1_restore_31 : decode cX1_restore 31 = .ok (.aload_n 0, 1) := by decide +kernel
theorem dX1_restore_32 : decode cX1_restore 32 = .ok (.dup, 1) := by decide +kernel
theorem dX1_restore_33 : decode cX1_restore 33 = .ok (.getfield 18, 3) := by decide +kernel
theorem dX1_restore_36 : decode cX1_restore 36 = .ok (.iconst 1, 1) := by decide +kernel
theorem dX1_restore_37 : decode cX1_restore 37 = .ok (.isub, 1) := by decide +kernel
theorem dX1_restore_38 : decode cX1_restore 38 = .ok (.putfield 18, 3) := by decide +kernel
theorem dX1_restore_41 : decode cX1_restore 41 = .ok (.return_, 1) := by decide +kernel
theorem dX1_placeAt_0 : decode cX1_placeAt 0 = .ok (.iload_n 1, 1) := by decide +kernel
theorem dX1_placeAt_1 : decode cX1_placeAt 1 = .ok (.ifCond .lt 21, 3) := by decide +kernel
theorem dX1_placeAt_4 : decode cX1_placeAt 4 = .ok (.iload_n 1, 1) := by decide +kernel
theorem dX1_placeAt_5 : decode cX1_placeAt 5 = .ok (.aload_n 0, 1) := by decide +kernel
theorem dX1_placeAt_6 : decode cX1_placeAt 6 = .ok (.getfield 11, 3) := by decide +kernel
theorem dX1_placeAt_9 : decode cX1_placeAt 9 = .ok (.arraylength, 1) := by decide +kernel
theorem dX1_placeAt_10 : decode cX1_placeAt 10 = .ok (.if_icmp .ge 12, 3) := by decide +kernel
theorem dX1_placeAt_13 : decode cX1_placeAt 13 = .ok (.aload_n 0, 1) := by decide +kernel
theorem dX1_placeAt_14 : decode cX1_placeAt 14 = .ok (.getfield 11, 3) := by decide +kernel
theorem dX1_placeAt_17 : decode cX1_placeAt 17 = .ok (.iload_n 1, 1) := by decide +kernel
theorem dX1_placeAt_18 : decode cX1_placeAt 18 = .ok (.aaload, 1) := by decide +kernel
theorem dX1_placeAt_19 : decode cX1_placeAt 19 = .ok (.goto 4, 3) := by decide +kernel
theorem dX1_placeAt_22 : decode cX1_placeAt 22 = .ok (.aconst_null, 1) := by decide +kernel
theorem dX1_placeAt_23 : decode cX1_placeAt 23 = .ok (.areturn, 1) := by decide +kernel
theorem dX2_init_0 : decode cX2_init 0 = .ok (.aload_n 0, 1) := by decide +kernel
theorem dX2_init_1 : decode cX2_init 1 = .ok (.invokespecial 3, 3) := by decide +kernel
theorem dX2_init_4 : decode cX2_init 4 = .ok (.aload_n 0, 1) := by decide +kernel
theorem dX2_init_5 : decode cX2_init 5 = .ok (.iload_n 1, 1) := by decide +kernel
theorem dX2_init_6 : decode cX2_init 6 = .ok (.iconst 0, 1) := by decide +kernel
theorem dX2_init_7 : decode cX2_init 7 = .ok (.invokestatic 9, 3) := by decide +kernel
theorem dX2_init_10 : decode cX2_init 10 = .ok (.newarray .int, 2) := by decide +kernel
theorem dX2_init_12 : decode cX2_init 12 = .ok (.putfield 15, 3) := by decide +kernel
theorem dX2_init_15 : decode cX2_init 15 = .ok (.return_, 1) := by decide +kernel
theorem dX2_size_0 : decode cX2_size 0 = .ok (.aload_n 0, 1) := by decide +kernel
theorem dX2_size_1 : decode cX2_size 1 = .ok (.getfield 21, 3) := by decide +kernel
theorem dX2_size_4 : decode cX2_size 4 = .ok (.ireturn, 1) := by decide +kernel
theorem dX2_clear_0 : decode cX2_clear 0 = .ok (.aload_n 0, 1) := by decide +kernel
theorem dX2_clear_1 : decode cX2_clear 1 = .ok (.iconst 0, 1) := by decide +kernel
theorem dX2_clear_2 : decode cX2_clear 2 = .ok (.putfield 21, 3) := by decide +kernel
theorem dX2_clear_5 : decode cX2_clear 5 = .ok (.return_, 1) := by decide +kernel
theorem dX2_get_0 : decode cX2_get 0 = .ok (.iload_n 1, 1) := by decide +kernel
theorem dX2_get_1 : decode cX2_get 1 = .ok (.ifCond .lt 20, 3) := by decide +kernel
theorem dX2_get_4 : decode cX2_get 4 = .ok (.iload_n 1, 1) := by decide +kernel
theorem dX2_get_5 : decode cX2_get 5 = .ok (.aload_n 0, 1) := by decide +kernel
theorem dX2_get_6 : decode cX2_get 6 = .ok (.getfield 21, 3) := by decide +kernel
theorem dX2_get_9 : decode cX2_get 9 = .ok (.if_icmp .ge 12, 3) := by decide +kernel
theorem dX2_get_12 : decode cX2_get 12 = .ok (.aload_n 0, 1) := by decide +kernel
theorem dX2_get_13 : decode cX2_get 13 = .ok (.getfield 15, 3) := by decide +kernel
theorem dX2_get_16 : decode cX2_get 16 = .ok (.iload_n 1, 1) := by decide +kernel
theorem dX2_get_17 : decode cX2_get 17 = .ok (.iaload, 1) := by decide +kernel
theorem dX2_get_18 : decode cX2_get 18 = .ok (.goto 4, 3) := by decide +kernel
theorem dX2_get_21 : decode cX2_get 21 = .ok (.iconst (-1), 1) := by decide +kernel
theorem dX2_get_22 : decode cX2_get 22 = .ok (.ireturn, 1) := by decide +kernel
theorem dX2_set_0 : decode cX2_set 0 = .ok (.iload_n 1, 1) := by decide +kernel
theorem dX2_set_1 : decode cX2_set 1 = .ok (.ifCond .lt 18, 3) := by decide +kernel
theorem dX2_set_4 : decode cX2_set 4 = .ok (.iload_n 1, 1) := by decide +kernel
theorem dX2_set_5 : decode cX2_set 5 = .ok (.aload_n 0, 1) := by decide +kernel
theorem dX2_set_6 : decode cX2_set 6 = .ok (.getfield 21, 3) := by decide +kernel
theorem dX2_set_9 : decode cX2_set 9 = .ok (.if_icmp .ge 10, 3) := by decide +kernel
theorem dX2_set_12 : decode cX2_set 12 = .ok (.aload_n 0, 1) := by decide +kernel
theorem dX2_set_13 : decode cX2_set 13 = .ok (.getfield 15, 3) := by decide +kernel
theorem dX2_set_16 : decode cX2_set 16 = .ok (.iload_n 1, 1) := by decide +kernel
theorem dX2_set_17 : decode cX2_set 17 = .ok (.iload_n 2, 1) := by decide +kernel
theorem dX2_set_18 : decode cX2_set 18 = .ok (.iastore, 1) := by decide +kernel
theorem dX2_set_19 : decode cX2_set 19 = .ok (.return_, 1) := by decide +kernel
set_option maxRecDepth 20000 in
theorem ggX2_increase_X2_get : GoodIn wsX2_increase wsX2_get := goodIn_r _ [5, 6, 7, 12, 13] (by decide +kernel) (by decide +kernel)
set_option maxRecDepth 20000 in
theorem gX2_increase_X2_get : GoodIn wsX2_increase (wsV RX2 25 RX2 yX2_get wsX2_get) := goodIn_app (goodIn_of _ (by decide +kernel)) ggX2_increase_X2_get
set_option maxRecDepth 20000 in
theorem ggX2_increase_X2_set : GoodIn wsX2_increase wsX2_set := goodIn_r _ [11, 6, 7, 12, 13] (by decide +kernel) (by decide +kernel)
set_option maxRecDepth 20000 in
theorem gX2_increase_X2_set : GoodIn wsX2_increase (wsV RX2 29 RX2 yX2_set wsX2_set) := goodIn_app (goodIn_of _ (by decide +kernel)) ggX2_increase_X2_set
theorem dX2_increase_0 : decode cX2_increase 0 = .ok (.aload_n 0, 1) := by decide +kernel
theorem dX2_increase_1 : decode cX2_increase 1 = .ok (.iload_n 1, 1) := by decide +kernel
theorem dX2_increase_2 : decode cX2_increase 2 = .ok (.aload_n 0, 1) := by decide +kernel
theorem dX2_increase_3 : decode cX2_increase 3 = .ok (.iload_n 1, 1) := by decide +kernel
theorem dX2_increase_4 : decode cX2_increase 4 = .ok (.invokevirtual 25, 3) := by decide +kernel
theorem dX2_increase_7 : decode cX2_increase 7 = .ok (.iload_n 2, 1) := by decide +kernel
theorem dX2_increase_8 : decode cX2_increase 8 = .ok (.iadd, 1) := by decide +kernel
theorem dX2_increase_9 : decode cX2_increase 9 = .ok (.invokevirtual 29, 3) := by decide +kernel
theorem dX2_increase_12 : decode cX2_increase 12 = .ok (.return_, 1) := by decide +kernel
set_option maxRecDepth 20000 in
theorem ggX2_add_X2_insert : GoodIn wsX2_add wsX2_insert := goodIn_r _ [6, 1, 7, 8, 9] (by decide +kernel) (by decide +kernel)
set_option maxRecDepth 20000 in
theorem gX2_add_X2_insert : GoodIn wsX2_add (wsV RX2 33 RX2 yX2_insert wsX2_insert) := goodIn_app (goodIn_of _ (by decide +kernel)) ggX2_add_X2_insert
theorem dX2_add_0 : decode cX2_add 0 = .ok (.aload_n 0, 1) := by decide +kernel
theorem dX2_add_1 : decode cX2_add 1 = .ok (.aload_n 0, 1) := by decide +kernel
theorem dX2_add_2 : decode cX2_add 2 = .ok (.getfield 21, 3) := by decide +kernel
theorem dX2_add_5 : decode cX2_add 5 = .ok (.iload_n 1, 1) := by decide +kernel
theorem dX2_add_6 : decode cX2_add 6 = .ok (.invokevirtual 33, 3) := by decide +kernel
theorem dX2_add_9 : decode cX2_add 9 = .ok (.return_, 1) := by decide +kernel
theorem dX2_insert_0 : decode cX2_insert 0 = .ok (.iload_n 1, 1) := by decide +kernel
theorem dX2_insert_1 : decode cX2_insert 1 = .ok (.ifCond .lt 23, 3) := by decide +kernel
theorem dX2_insert_4 : decode cX2_insert 4 = .ok (.iload_n 1, 1) := by decide +kernel
theorem dX2_insert_5 : decode cX2_insert 5 = .ok (.aload_n 0, 1) := by decide +kernel
theorem dX2_insert_6 : decode cX2_insert 6 = .ok (.getfield 21, 3) := by decide +kernel
theorem dX2_insert_9 : decode cX2_insert 9 = .ok (.if_icmp .gt 15, 3) := by decide +kernel
theorem dX2_insert_12 : decode cX2_insert 12 = .ok (.aload_n 0, 1) := by decide +kernel
theorem dX2_insert_13 : decode cX2_insert 13 = .ok (.getfield 21, 3) := by decide +kernel
theorem dX2_insert_16 : decode cX2_insert 16 = .ok (.aload_n 0, 1) := by decide +kernel
theorem dX2_insert_17 : decode cX2_insert 17 = .ok (.getfield 15, 3) := by decide +kernel
theorem dX2_insert_20 : decode cX2_insert 20 = .ok (.arraylength, 1) := by decide +kernel
theorem dX2_insert_21 : decode cX2_insert 21 = .ok (.if_icmp .lt 4, 3) := by decide +kernel
theorem dX2_insert_24 : decode cX2_insert 24 = .ok (.return_, 1) := by decide +kernel
theorem dX2_insert_25 : decode cX2_insert 25 = .ok (.aload_n 0, 1) := by decide +kernel
theorem dX2_insert_26 : decode cX2_insert 26 = .ok (.getfield 21, 3) := by decide +kernel
theorem dX2_insert_29 : decode cX2_insert 29 = .ok (.istore_n 3, 1) := by decide +kernel
theorem dX2_insert_30 : decode cX2_insert 30 = .ok (.iload_n 3, 1) := by decide +kernel
theorem dX2_insert_31 : decode cX2_insert 31 = .ok (.iload_n 1, 1) := by decide +kernel
theorem dX2_insert_32 : decode cX2_insert 32 = .ok (.if_icmp .le 23, 3) := by decide +kernel
theorem dX2_insert_35 : decode cX2_insert 35 = .ok (.aload_n 0, 1) := by decide +kernel
theorem dX2_insert_36 : decode cX2_insert 36 = .ok (.getfield 15, 3) := by decide +kernel
theorem dX2_insert_39 : decode cX2_insert 39 = .ok (.iload_n 3, 1) := by decide +kernel
theorem dX2_insert_40 : decode cX2_insert 40 = .ok (.aload_n 0, 1) := by decide +kernel
theorem dX2_insert_41 : decode cX2_insert 41 = .ok (.getfield 15, 3) := by decide +kernel
theorem dX2_insert_44 : decode cX2_insert 44 = .ok (.iload_n 3, 1) := by decide +kernel
theorem dX2_insert_45 : decode cX2_insert 45 = .ok (.iconst 1, 1) := by decide +kernel
theorem dX2_insert_46 : decode cX2_insert 46 = .ok (.isub, 1) := by decide +kernel
theorem dX2_insert_47 : decode cX2_insert 47 = .ok (.iaload, 1) := by decide +kernel
theorem dX2_insert_48 : decode cX2_insert 48 = .ok (.iastore, 1) := by decide +kernel
theorem dX2_insert_49 : decode cX2_insert 49 = .ok (.iinc 3 (-1), 3) := by decide +kernel
theorem dX2_insert_52 : decode cX2_insert 52 = .ok (.goto (-22), 3) := by decide +kernel
theorem dX2_insert_55 : decode cX2_insert 55 = .ok (.aload_n 0, 1) := by decide +kernel
theorem dX2_insert_56 : decode cX2_insert 56 = .ok (.getfield 15, 3) := by decide +kernel
theorem dX2_insert_59 : decode cX2_insert 59 = .ok (.iload_n 1, 1) := by decide +kernel
theorem dX2_insert_60 : decode cX2_insert 60 = .ok (.iload_n 2, 1) := by decide +kernel
theorem dX2_insert_61 : decode cX2_insert 61 = .ok (.iastore, 1) := by decide +kernel
theorem dX2_insert_62 : decode cX2_insert 62 = .ok (.aload_n 0, 1) := by decide +kernel
theorem dX2_insert_63 : decode cX2_insert 63 = .ok (.dup, 1) := by decide +kernel
theorem dX2_insert_64 : decode cX2_insert 64 = .ok (.getfield 21, 3) := by decide +kernel
theorem dX2_insert_67 : decode cX2_insert 67 = .ok (.iconst 1, 1) := by decide +kernel
theorem dX2_insert_68 : decode cX2_insert 68 = .ok (.iadd, 1) := by decide +kernel
theorem dX2_insert_69 : decode cX2_insert 69 = .ok (.putfield 21, 3) := by decide +kernel
theorem dX2_insert_72 : decode cX2_insert 72 = .ok (.return_, 1) := by decide +kernel
theorem dX2_remove_0 : decode cX2_remove 0 = .ok (.iload_n 1, 1) := by decide +kernel
theorem dX2_remove_1 : decode cX2_remove 1 = .ok (.ifCond .lt 11, 3) := by decide +kernel
theorem dX2_remove_4 : decode cX2_remove 4 = .ok (.iload_n 1, 1) := by decide +kernel
theorem dX2_remove_5 : decode cX2_remove 5 = .ok (.aload_n 0, 1) := by decide +kernel
theorem dX2_remove_6 : decode cX2_remove 6 = .ok (.getfield 21, 3) := by decide +kernel
theorem dX2_remove_9 : decode cX2_remove 9 = .ok (.if_icmp .lt 4, 3) := by decide +kernel
theorem dX2_remove_12 : decode cX2_remove 12 = .ok (.return_, 1) := by decide +kernel
theorem dX2_remove_13 : decode cX2_remove 13 = .ok (.iload_n 1, 1) := by decide +kernel
theorem dX2_remove_14 : decode cX2_remove 14 = .ok (.istore_n 2, 1) := by decide +kernel
theorem dX2_remove_15 : decode cX2_remove 15 = .ok (.iload_n 2, 1) := by decide +kernel
theorem dX2_remove_16 : decode cX2_remove 16 = .ok (.aload_n 0, 1) := by decide +kernel
theorem dX2_remove_17 : decode cX2_remove 17 = .ok (.getfield 21, 3) := by decide +kernel
theorem dX2_remove_20 : decode cX2_remove 20 = .ok (.iconst 1, 1) := by decide +kernel
theorem dX2_remove_21 : decode cX2_remove 21 = .ok (.isub, 1) := by decide +kernel
theorem dX2_remove_22 : decode cX2_remove 22 = .ok (.if_icmp .ge 23, 3) := by decide +kernel
theorem dX2_remove_25 : decode cX2_remove 25 = .ok (.aload_n 0, 1) := by decide +kernel
theorem dX2_remove_26 : decode cX2_remove 26 = .ok (.getfield 15, 3) := by decide +kernel
theorem dX2_remove_29 : decode cX2_remove 29 = .ok (.iload_n 2, 1) := by decide +kernel
theorem dX2_remove_30 : decode cX2_remove 30 = .ok (.aload_n 0, 1) := by decide +kernel
theorem dX2_remove_31 : decode cX2_remove 31 = .ok (.getfield 15, 3) := by decide +kernel
theorem dX2_remove_34 : decode cX2_remove 34 = .ok (.iload_n 2, 1) := by decide +kernel
theorem dX2_remove_35 : decode cX2_remove 35 = .ok (.iconst 1, 1) := by decide +kernel
theorem dX2_remove_36 : decode cX2_remove 36 = .ok (.iadd, 1) := by decide +kernel
theorem dX2_remove_37 : decode cX2_remove 37 = .ok (.iaload, 1) := by decide +kernel
theorem dX2_remove_38 : decode cX2_remove 38 = .ok (.iastore, 1) := by decide +kernel
theorem dX2_remove_39 : decode cX2_remove 39 = .ok (.iinc 2 1, 3) := by decide +kernel
theorem dX2_remove_42 : decode cX2_remove 42 = .ok (.goto (-27), 3) := by decide +kernel
theorem dX2_remove_45 : decode cX2_remove 45 = .ok (.aload_n 0, 1) := by decide +kernel
theorem dX2_remove_46 : decode cX2_remove 46 = .ok (.dup, 1) := by decide +kernel
theorem dX2_remove_47 : decode cX2_remove 47 = .ok (.getfield 21, 3) := by decide +kernel
theorem dX2_remove_50 : decode cX2_remove 50 = .ok (.iconst 1, 1) := by decide +kernel
theorem dX2_remove_51 : decode cX2_remove 51 = .ok (.isub, 1) := by decide +kernel
theorem dX2_remove_52 : decode cX2_remove 52 = .ok (.putfield 21, 3) := by decide +kernel
theorem dX2_remove_55 : decode cX2_remove 55 = .ok (.return_, 1) := by decide +kernel
theorem dX2_indexOf_0 : decode cX2_indexOf 0 = .ok (.iconst 0, 1) := by decide +kernel
theorem dX2_indexOf_1 : decode cX2_indexOf 1 = .ok (.istore_n 2, 1) := by decide +kernel
theorem dX2_indexOf_2 : decode cX2_indexOf 2 = .ok (.iload_n 2, 1) := by decide +kernel
theorem dX2_indexOf_3 : decode cX2_indexOf 3 = .ok (.aload_n 0, 1) := by decide +kernel
theorem dX2_indexOf_4 : decode cX2_indexOf 4 = .ok (.getfield 21, 3) := by decide +kernel
theorem dX2_indexOf_7 : decode cX2_indexOf 7 = .ok (.if_icmp .ge 21, 3) := by decide +kernel
theorem dX2_indexOf_10 : decode cX2_indexOf 10 = .ok (.aload_n 0, 1) := by decide +kernel
theorem dX2_indexOf_11 : decode cX2_indexOf 11 = .ok (.getfield 15, 3) := by decide +kernel
theorem dX2_indexOf_14 : decode cX2_indexOf 14 = .ok (.iload_n 2, 1) := by decide +kernel
theorem dX2_indexOf_15 : decode cX2_indexOf 15 = .ok (.iaload, 1) := by decide +kernel
theorem dX2_indexOf_16 : decode cX2_indexOf 16 = .ok (.iload_n 1, 1) := by decide +kernel
theorem dX2_indexOf_17 : decode cX2_indexOf 17 = .ok (.if_icmp .ne 5, 3) := by decide +kernel
theorem dX2_indexOf_20 : decode cX2_indexOf 20 = .ok (.iload_n 2, 1) := by decide +kernel
theorem dX2_indexOf_21 : decode cX2_indexOf 21 = .ok (.ireturn, 1) := by decide +kernel
theorem dX2_indexOf_22 : decode cX2_indexOf 22 = .ok (.iinc 2 1, 3) := by decide +kernel
theorem dX2_indexOf_25 : decode cX2_indexOf 25 = .ok (.goto (-23), 3) := by decide +kernel
theorem dX2_indexOf_28 : decode cX2_indexOf 28 = .ok (.iconst (-1), 1) := by decide +kernel
theorem dX2_indexOf_29 : decode cX2_indexOf 29 = .ok (.ireturn, 1) := by decide +kernel
theorem dX2_copy_0 : decode cX2_copy 0 = .ok (.aload_n 0, 1) := by decide +kernel
theorem dX2_copy_1 : decode cX2_copy 1 = .ok (.aload_n 1, 1) := by decide +kernel
theorem dX2_copy_2 : decode cX2_copy 2 = .ok (.getfield 21, 3) := by decide +kernel
theorem dX2_copy_5 : decode cX2_copy 5 = .ok (.aload_n 0, 1) := by decide +kernel
theorem dX2_copy_6 : decode cX2_copy 6 = .ok (.getfield 15, 3) := by decide +kernel
theorem dX2_copy_9 : decode cX2_copy 9 = .ok (.arraylength, 1) := by decide +kernel
theorem dX2_copy_10 : decode cX2_copy 10 = .ok (.invokestatic 36, 3) := by decide +kernel
theorem dX2_copy_13 : decode cX2_copy 13 = .ok (.putfield 21, 3) := by decide +kernel
theorem dX2_copy_16 : decode cX2_copy 16 = .ok (.iconst 0, 1) := by decide +kernel
theorem dX2_copy_17 : decode cX2_copy 17 = .ok (.istore_n 2, 1) := by decide +kernel
theorem dX2_copy_18 : decode cX2_copy 18 = .ok (.iload_n 2, 1) := by decide +kernel
theorem dX2_copy_19 : decode cX2_copy 19 = .ok (.aload_n 0, 1) := by decide +kernel
theorem dX2_copy_20 : decode cX2_copy 20 = .ok (.getfield 21, 3) := by decide +kernel
theorem dX2_copy_23 : decode cX2_copy 23 = .ok (.if_icmp .ge 21, 3) := by decide +kernel
theorem dX2_copy_26 : decode cX2_copy 26 = .ok (.aload_n 0, 1) := by decide +kernel
theorem dX2_copy_27 : decode cX2_copy 27 = .ok (.getfield 15, 3) := by decide +kernel
theorem dX2_copy_30 : decode cX2_copy 30 = .ok (.iload_n 2, 1) := by decide +kernel
theorem dX2_copy_31 : decode cX2_copy 31 = .ok (.aload_n 1, 1) := by decide +kernel
theorem dX2_copy_32 : decode cX2_copy 32 = .ok (.getfield 15, 3) := by decide +kernel
theorem dX2_copy_35 : decode cX2_copy 35 = .ok (.iload_n 2, 1) := by decide +kernel
theorem dX2_copy_36 : decode cX2_copy 36 = .ok (.iaload, 1) := by decide +kernel
theorem dX2_copy_37 : decode cX2_copy 37 = .ok (.iastore, 1) := by decide +kernel
theorem dX2_copy_38 : decode cX2_copy 38 = .ok (.iinc 2 1, 3) := by decide +kernel
theorem dX2_copy_41 : decode cX2_copy 41 = .ok (.goto (-23), 3) := by decide +kernel
theorem dX2_copy_44 : decode cX2_copy 44 = .ok (.return_, 1) := by decide +kernel
set_option maxRecDepth 20000 in
theorem ggX3_init_X2_init : GoodIn wsX3_init wsX2_init := goodIn_r _ [14, 15, 2, 3, 16, 17, 18, 19, 20, 21, 22, 23] (by decide +kernel) (by decide +kernel)
set_option maxRecDepth 20000 in
theorem gX3_init_X2_init : GoodIn wsX3_init (wsX2_init) := ggX3_init_X2_init
theorem dX3_init_0 : decode cX3_init 0 = .ok (.aload_n 0, 1) := by decide +kernel
theorem dX3_init_1 : decode cX3_init 1 = .ok (.invokespecial 3, 3) := by decide +kernel
theorem dX3_init_4 : decode cX3_init 4 = .ok (.aload_n 0, 1) := by decide +kernel
theorem dX3_init_5 : decode cX3_init 5 = .ok (.new 9, 3) := by decide +kernel
theorem dX3_init_8 : decode cX3_init 8 = .ok (.dup, 1) := by decide +kernel
theorem dX3_init_9 : decode cX3_init 9 = .ok (.bipush 100, 2) := by decide +kernel
theorem dX3_init_11 : decode cX3_init 11 = .ok (.invokespecial 11, 3) := by decide +kernel
theorem dX3_init_14 : decode cX3_init 14 = .ok (.putfield 14, 3) := by decide +kernel
theorem dX3_init_17 : decode cX3_init 17 = .ok (.aload_n 0, 1) := by decide +kernel
theorem dX3_init_18 : decode cX3_init 18 = .ok (.new 9, 3) := by decide +kernel
theorem dX3_init_21 : decode cX3_init 21 = .ok (.dup, 1) := by decide +kernel
theorem dX3_init_22 : decode cX3_init 22 = .ok (.bipush 50, 2) := by decide +kernel
theorem dX3_init_24 : decode cX3_init 24 = .ok (.invokespecial 11, 3) := by decide +kernel
theorem dX3_init_27 : decode cX3_init 27 = .ok (.putfield 20, 3) := by decide +kernel
theorem dX3_init_30 : decode cX3_init 30 = .ok (.aload_n 0, 1) := by decide +kernel
theorem dX3_init_31 : decode cX3_init 31 = .ok (.new 9, 3) := by decide +kernel
theorem dX3_init_34 : decode cX3_init 34 = .ok (.dup, 1) := by decide +kernel
theorem dX3_init_35 : decode cX3_init 35 = .ok (.bipush 50, 2) := by decide +kernel
theorem dX3_init_37 : decode cX3_init 37 = .ok (.invokespecial 11, 3) := by decide +kernel
theorem dX3_init_40 : decode cX3_init 40 = .ok (.putfield 23, 3) := by decide +kernel
theorem dX3_init_43 : decode cX3_init 43 = .ok (.aload_n 0, 1) := by decide +kernel
theorem dX3_init_44 : decode cX3_init 44 = .ok (.new 9, 3) := by decide +kernel
theorem dX3_init_47 : decode cX3_init 47 = .ok (.dup, 1) := by decide +kernel
theorem dX3_init_48 : decode cX3_init 48 = .ok (.bipush 50, 2) := by decide +kernel
theorem dX3_init_50 : decode cX3_init 50 = .ok (.invokespecial 11, 3) := by decide +kernel
theorem dX3_init_53 : decode cX3_init 53 = .ok (.putfield 26, 3) := by decide +kernel
theorem dX3_init_56 : decode cX3_init 56 = .ok (.aload_n 0, 1) := by decide +kernel
theorem dX3_init_57 : decode cX3_init 57 = .ok (.iconst (-1), 1) := by decide +kernel
theorem dX3_init_58 : decode cX3_init 58 = .ok (.putfield 29, 3) := by decide +kernel
theorem dX3_init_61 : decode cX3_init 61 = .ok (.return_, 1) := by decide +kernel
set_option maxRecDepth 20000 in
theorem ggX3_length_X2_size : GoodIn wsX3_length wsX2_size := goodIn_r _ [6, 7, 14, 15] (by decide +kernel) (by decide +kernel)
set_option maxRecDepth 20000 in
theorem gX3_length_X2_size : GoodIn wsX3_length (wsV RX3 33 RX2 yX2_size wsX2_size) := goodIn_app (goodIn_of _ (by decide +kernel)) ggX3_length_X2_size
theorem dX3_length_0 : decode cX3_length 0 = .ok (.aload_n 0, 1) := by decide +kernel
theorem dX3_length_1 : decode cX3_length 1 = .ok (.getfield 14, 3) := by decide +kernel
theorem dX3_length_4 : decode cX3_length 4 = .ok (.invokevirtual 33, 3) := by decide +kernel
theorem dX3_length_7 : decode cX3_length 7 = .ok (.ireturn, 1) := by decide +kernel
set_option maxRecDepth 20000 in
theorem ggX3_write_X2_add : GoodIn wsX3_write wsX2_add := goodIn_r _ [6, 7, 8, 9, 10, 5, 11, 12, 23, 24] (by decide +kernel) (by decide +kernel)
set_option maxRecDepth 20000 in
theorem gX3_write_X2_add : GoodIn wsX3_write (wsV RX3 37 RX2 yX2_add wsX2_add) := goodIn_app (goodIn_of _ (by decide +kernel)) ggX3_write_X2_add
set_option maxRecDepth 20000 in
theorem ggX3_write_X2_size : GoodIn wsX3_write wsX2_size := goodIn_r _ [16, 7, 23, 24] (by decide +kernel) (by decide +kernel)
set_option maxRecDepth 20000 in
theorem gX3_write_X2_size : GoodIn wsX3_write (wsV RX3 33 RX2 yX2_size wsX2_size) := goodIn_app (goodIn_of _ (by decide +kernel)) ggX3_write_X2_size
theorem dX3_write_0 : decode cX3_write 0 = .ok (.aload_n 0, 1) := by decide +kernel
theorem dX3_write_1 : decode cX3_write 1 = .ok (.getfield 14, 3) := by decide +kernel
theorem dX3_write_4 : decode cX3_write 4 = .ok (.iload_n 1, 1) := by decide +kernel
theorem dX3_write_5 : decode cX3_write 5 = .ok (.invokevirtual 37, 3) := by decide +kernel
theorem dX3_write_8 : decode cX3_write 8 = .ok (.aload_n 0, 1) := by decide +kernel
theorem dX3_write_9 : decode cX3_write 9 = .ok (.getfield 14, 3) := by decide +kernel
theorem dX3_write_12 : decode cX3_write 12 = .ok (.invokevirtual 33, 3) := by decide +kernel
theorem dX3_write_15 : decode cX3_write 15 = .ok (.ireturn, 1) := by decide +kernel
set_option maxRecDepth 20000 in
theorem ggX3_wipe_X2_size : GoodIn wsX3_wipe wsX2_size := goodIn_r _ [6, 7, 18, 19] (by decide +kernel) (by decide +kernel)
set_option maxRecDepth 20000 in
theorem gX3_wipe_X2_size : GoodIn wsX3_wipe (wsV RX3 33 RX2 yX2_size wsX2_size) := goodIn_app (goodIn_of _ (by decide +kernel)) ggX3_wipe_X2_size
set_option maxRecDepth 20000 in
theorem ggX3_wipe_X2_clear : GoodIn wsX3_wipe wsX2_clear := goodIn_r _ [11, 7, 18, 19] (by decide +kernel) (by decide +kernel)
set_option maxRecDepth 20000 in
theorem gX3_wipe_X2_clear : GoodIn wsX3_wipe (wsV RX3 40 RX2 yX2_clear wsX2_clear) := goodIn_app (goodIn_of _ (by decide +kernel)) ggX3_wipe_X2_clear
theorem dX3_wipe_0 : decode cX3_wipe 0 = .ok (.aload_n 0, 1) := by decide +kernel
theorem dX3_wipe_1 : decode cX3_wipe 1 = .ok (.getfield 14, 3) := by decide +kernel
theorem dX3_wipe_4 : decode cX3_wipe 4 = .ok (.invokevirtual 33, 3) := by decide +kernel
theorem dX3_wipe_7 : decode cX3_wipe 7 = .ok (.istore_n 1, 1) := by decide +kernel
theorem dX3_wipe_8 : decode cX3_wipe 8 = .ok (.aload_n 0, 1) := by decide +kernel
theorem dX3_wipe_9 : decode cX3_wipe 9 = .ok (.getfield 14, 3) := by decide +kernel
theorem dX3_wipe_12 : decode cX3_wipe 12 = .ok (.invokevirtual 40, 3) := by decide +kernel
theorem dX3_wipe_15 : decode cX3_wipe 15 = .ok (.iload_n 1, 1) := by decide +kernel
theorem dX3_wipe_16 : decode cX3_wipe 16 = .ok (.ireturn, 1) := by decide +kernel
set_option maxRecDepth 20000 in
theorem ggX3_orders_X2_size : GoodIn wsX3_orders wsX2_size := goodIn_r _ [6, 7, 14, 15] (by decide +kernel) (by decide +kernel)
set_option maxRecDepth 20000 in
theorem gX3_orders_X2_size : GoodIn wsX3_orders (wsV RX3 33 RX2 yX2_size wsX2_size) := goodIn_app (goodIn_of _ (by decide +kernel)) ggX3_orders_X2_size
theorem dX3_orders_0 : decode cX3_orders 0 = .ok (.aload_n 0, 1) := by decide +kernel
theorem dX3_orders_1 : decode cX3_orders 1 = .ok (.getfield 20, 3) := by decide +kernel
theorem dX3_orders_4 : decode cX3_orders 4 = .ok (.invokevirtual 33, 3) := by decide +kernel
theorem dX3_orders_7 : decode cX3_orders 7 = .ok (.ireturn, 1) := by decide +kernel
set_option maxRecDepth 20000 in
theorem ggX3_kind_X2_get : GoodIn wsX3_kind wsX2_get := goodIn_r _ [6, 7, 8, 15, 16] (by decide +kernel) (by decide +kernel)
set_option maxRecDepth 20000 in
theorem gX3_kind_X2_get : GoodIn wsX3_kind (wsV RX3 43 RX2 yX2_get wsX2_get) := goodIn_app (goodIn_of _ (by decide +kernel)) ggX3_kind_X2_get
theorem dX3_kind_0 : decode cX3_kind 0 = .ok (.aload_n 0, 1) := by decide +kernel
theorem dX3_kind_1 : decode cX3_kind 1 = .ok (.getfield 20, 3) := by decide +kernel
theorem dX3_kind_4 : decode cX3_kind 4 = .ok (.iload_n 1, 1) := by decide +kernel
theorem dX3_kind_5 : decode cX3_kind 5 = .ok (.invokevirtual 43, 3) := by decide +kernel
theorem dX3_kind_8 : decode cX3_kind 8 = .ok (.ireturn, 1) := by decide +kernel
set_option maxRecDepth 20000 in
theorem ggX3_first_X2_get : GoodIn wsX3_first wsX2_get := goodIn_r _ [6, 7, 8, 15, 16] (by decide +kernel) (by decide +kernel)
set_option maxRecDepth 20000 in
theorem gX3_first_X2_get : GoodIn wsX3_first (wsV RX3 43 RX2 yX2_get wsX2_get) := goodIn_app (goodIn_of _ (by decide +kernel)) ggX3_first_X2_get
theorem dX3_first_0 : decode cX3_first 0 = .ok (.aload_n 0, 1) := by decide +kernel
theorem dX3_first_1 : decode cX3_first 1 = .ok (.getfield 23, 3) := by decide +kernel
theorem dX3_first_4 : decode cX3_first 4 = .ok (.iload_n 1, 1) := by decide +kernel
theorem dX3_first_5 : decode cX3_first 5 = .ok (.invokevirtual 43, 3) := by decide +kernel
theorem dX3_first_8 : decode cX3_first 8 = .ok (.ireturn, 1) := by decide +kernel
set_option maxRecDepth 20000 in
theorem ggX3_second_X2_get : GoodIn wsX3_second wsX2_get := goodIn_r _ [6, 7, 8, 15, 16] (by decide +kernel) (by decide +kernel)
set_option maxRecDepth 20000 in
theorem gX3_second_X2_get : GoodIn wsX3_second (wsV RX3 43 RX2 yX2_get wsX2_get) := goodIn_app (goodIn_of _ (by decide +kernel)) ggX3_second_X2_get
theorem dX3_second_0 : decode cX3_second 0 = .ok (.aload_n 0, 1) := by decide +kernel
theorem dX3_second_1 : decode cX3_second 1 = .ok (.getfield 26, 3) := by decide +kernel
theorem dX3_second_4 : decode cX3_second 4 = .ok (.iload_n 1, 1) := by decide +kernel
theorem dX3_second_5 : decode cX3_second 5 = .ok (.invokevirtual 43, 3) := by decide +kernel
theorem dX3_second_8 : decode cX3_second 8 = .ok (.ireturn, 1) := by decide +kernel
set_option maxRecDepth 20000 in
theorem ggX3_readOrders_X2_clear : GoodIn wsX3_readOrders wsX2_clear := goodIn_r _ [11, 12, 61, 62] (by decide +kernel) (by decide +kernel)
set_option maxRecDepth 20000 in
theorem gX3_readOrders_X2_clear : GoodIn wsX3_readOrders (wsV RX3 40 RX2 yX2_clear wsX2_clear) := goodIn_app (goodIn_of _ (by decide +kernel)) ggX3_readOrders_X2_clear
set_option maxRecDepth 20000 in
theorem ggX3_readOrders_X2_size : GoodIn wsX3_readOrders wsX2_size := goodIn_r _ [16, 12, 61, 62] (by decide +kernel) (by decide +kernel)
set_option maxRecDepth 20000 in
theorem gX3_readOrders_X2_size : GoodIn wsX3_readOrders (wsV RX3 33 RX2 yX2_size wsX2_size) := goodIn_app (goodIn_of _ (by decide +kernel)) ggX3_readOrders_X2_size
set_option maxRecDepth 20000 in
theorem ggX3_readOrders_X3_readOrder : GoodIn wsX3_readOrders wsX3_readOrder := goodIn_r _ [21, 4, 5, 1, 2, 3, 22, 23, 24, 20, 25, 6, 26, 27, 28, 10, 29, 12, 30, 31, 32, 33, 34, 35, 36, 37, 38, 39, 40, 41, 42, 43, 44, 45, 46, 47, 48, 49, 50, 51, 52, 53, 54, 55, 56, 57, 58, 59, 60, 61, 62] (by decide +kernel) (by decide +kernel)
set_option maxRecDepth 20000 in
theorem gX3_readOrders_X3_readOrder : GoodIn wsX3_readOrders (wsV RX3 50 RX3 yX3_readOrder wsX3_readOrder) := goodIn_app (goodIn_of _ (by decide +kernel)) ggX3_readOrders_X3_readOrder
theorem dX3_readOrders_0 : decode cX3_readOrders 0 = .ok (.aload_n 0, 1) := by decide +kernel
theorem dX3_readOrders_1 : decode cX3_readOrders 1 = .ok (.getfield 20, 3) := by decide +kernel
theorem dX3_readOrders_4 : decode cX3_readOrders 4 = .ok (.invokevirtual 40, 3) := by decide +kernel
theorem dX3_readOrders_7 : decode cX3_readOrders 7 = .ok (.aload_n 0, 1) := by decide +kernel
theorem dX3_readOrders_8 : decode cX3_readOrders 8 = .ok (.getfield 23, 3) := by decide +kernel
theorem dX3_readOrders_11 : decode cX3_readOrders 11 = .ok (.invokevirtual 40, 3) := by decide +kernel
theorem dX3_readOrders_14 : decode cX3_readOrders 14 = .ok (.aload_n 0, 1) := by decide +kernel
theorem dX3_readOrders_15 : decode cX3_readOrders 15 = .ok (.getfield 26, 3) := by decide +kernel
theorem dX3_readOrders_18 : decode cX3_readOrders 18 = .ok (.invokevirtual 40, 3) := by decide +kernel
theorem dX3_readOrders_21 : decode cX3_readOrders 21 = .ok (.aload_n 0, 1) := by decide +kernel
theorem dX3_readOrders_22 : decode cX3_readOrders 22 = .ok (.iconst 0, 1) := by decide +kernel
theorem dX3_readOrders_23 : decode cX3_readOrders 23 = .ok (.putfield 47, 3) := by decide +kernel
theorem dX3_readOrders_26 : decode cX3_readOrders 26 = .ok (.aload_n 0, 1) := by decide +kernel
theorem dX3_readOrders_27 : decode cX3_readOrders 27 = .ok (.iconst (-1), 1) := by decide +kernel
theorem dX3_readOrders_28 : decode cX3_readOrders 28 = .ok (.putfield 29, 3) := by decide +kernel
theorem dX3_readOrders_31 : decode cX3_readOrders 31 = .ok (.iconst 0, 1) := by decide +kernel
theorem dX3_readOrders_32 : decode cX3_readOrders 32 = .ok (.istore_n 1, 1) := by decide +kernel
theorem dX3_readOrders_33 : decode cX3_readOrders 33 = .ok (.iload_n 1, 1) := by decide +kernel
theorem dX3_readOrders_34 : decode cX3_readOrders 34 = .ok (.bipush 100, 2) := by decide +kernel
theorem dX3_readOrders_36 : decode cX3_readOrders 36 = .ok (.if_icmp .ge 35, 3) := by decide +kernel
theorem dX3_readOrders_39 : decode cX3_readOrders 39 = .ok (.aload_n 0, 1) := by decide +kernel
theorem dX3_readOrders_40 : decode cX3_readOrders 40 = .ok (.getfield 29, 3) := by decide +kernel
theorem dX3_readOrders_43 : decode cX3_readOrders 43 = .ok (.iconst (-1), 1) := by decide +kernel
theorem dX3_readOrders_44 : decode cX3_readOrders 44 = .ok (.if_icmp .ne 27, 3) := by decide +kernel
theorem dX3_readOrders_47 : decode cX3_readOrders 47 = .ok (.aload_n 0, 1) := by decide +kernel
theorem dX3_readOrders_48 : decode cX3_readOrders 48 = .ok (.getfield 47, 3) := by decide +kernel
theorem dX3_readOrders_51 : decode cX3_readOrders 51 = .ok (.aload_n 0, 1) := by decide +kernel
theorem dX3_readOrders_52 : decode cX3_readOrders 52 = .ok (.getfield 14, 3) := by decide +kernel
theorem dX3_readOrders_55 : decode cX3_readOrders 55 = .ok (.invokevirtual 33, 3) := by decide +kernel
theorem dX3_readOrders_58 : decode cX3_readOrders 58 = .ok (.if_icmp .ge 13, 3) := by decide +kernel
theorem dX3_readOrders_61 : decode cX3_readOrders 61 = .ok (.aload_n 0, 1) := by decide +kernel
theorem dX3_readOrders_62 : decode cX3_readOrders 62 = .ok (.invokevirtual 50, 3) := by decide +kernel
theorem dX3_readOrders_65 : decode cX3_readOrders 65 = .ok (.iinc 1 1, 3) := by decide +kernel
theorem dX3_readOrders_68 : decode cX3_readOrders 68 = .ok (.goto (-35), 3) := by decide +kernel
theorem dX3_readOrders_71 : decode cX3_readOrders 71 = .ok (.aload_n 0, 1) := by decide +kernel
theorem dX3_readOrders_72 : decode cX3_readOrders 72 = .ok (.getfield 29, 3) := by decide +kernel
theorem dX3_readOrders_75 : decode cX3_readOrders 75 = .ok (.ireturn, 1) := by decide +kernel
set_option maxRecDepth 20000 in
theorem ggX3_readOrder_X3_here : GoodIn wsX3_readOrder wsX3_here := goodIn_r _ [10, 11, 1, 12, 13, 14, 15, 16, 17, 18, 43, 44, 45, 46, 47, 48, 49, 50] (by decide +kernel) (by decide +kernel)
set_option maxRecDepth 20000 in
theorem gX3_readOrder_X3_here : GoodIn wsX3_readOrder (wsV RX3 53 RX3 yX3_here wsX3_here) := goodIn_app (goodIn_of _ (by decide +kernel)) ggX3_readOrder_X3_here
set_option maxRecDepth 20000 in
theorem ggX3_readOrder_X3_readNumber : GoodIn wsX3_readOrder wsX3_readNumber := goodIn_r _ [22, 2, 1, 23, 24, 25, 9, 26, 6, 7, 8, 10, 11, 12, 13, 14, 15, 16, 17, 18, 43, 44, 45, 46, 47, 48, 49, 50] (by decide +kernel) (by decide +kernel)
set_option maxRecDepth 20000 in
theorem gX3_readOrder_X3_readNumber : GoodIn wsX3_readOrder (wsV RX3 56 RX3 yX3_readNumber wsX3_readNumber) := goodIn_app (goodIn_of _ (by decide +kernel)) ggX3_readOrder_X3_readNumber
set_option maxRecDepth 20000 in
theorem ggX3_readOrder_X3_readSign : GoodIn wsX3_readOrder wsX3_readSign := goodIn_r _ [30, 2, 1, 6, 7, 8, 9, 10, 11, 12, 13, 14, 15, 16, 17, 18, 43, 44, 45, 46, 47, 48, 49, 50] (by decide +kernel) (by decide +kernel)
set_option maxRecDepth 20000 in
theorem gX3_readOrder_X3_readSign : GoodIn wsX3_readOrder (wsV RX3 60 RX3 yX3_readSign wsX3_readSign) := goodIn_app (goodIn_of _ (by decide +kernel)) ggX3_readOrder_X3_readSign
set_option maxRecDepth 20000 in
theorem ggX3_readOrder_X3_readForce : GoodIn wsX3_readOrder wsX3_readForce := goodIn_r _ [34, 1, 2, 6, 7, 8, 9, 10, 11, 12, 13, 14, 15, 16, 17, 18, 43, 44, 45, 46, 47, 48, 49, 50] (by decide +kernel) (by decide +kernel)
set_option maxRecDepth 20000 in
theorem gX3_readOrder_X3_readForce : GoodIn wsX3_readOrder (wsV RX3 63 RX3 yX3_readForce wsX3_readForce) := goodIn_app (goodIn_of _ (by decide +kernel)) ggX3_readOrder_X3_readForce
set_option maxRecDepth 20000 in
theorem ggX3_readOrder_X2_add : GoodIn wsX3_readOrder wsX2_add := goodIn_r _ [38, 17, 39, 40, 41, 15, 42, 18, 49, 50] (by decide +kernel) (by decide +kernel)
set_option maxRecDepth 20000 in
theorem gX3_readOrder_X2_add : GoodIn wsX3_readOrder (wsV RX3 37 RX2 yX2_add wsX2_add) := goodIn_app (goodIn_of _ (by decide +kernel)) ggX3_readOrder_X2_add
theorem dX3_readOrder_0 : decode cX3_readOrder 0 = .ok (.aload_n 0, 1) := by decide +kernel
theorem dX3_readOrder_1 : decode cX3_readOrder 1 = .ok (.invokevirtual 53, 3) := by decide +kernel
theorem dX3_readOrder_4 : decode cX3_readOrder 4 = .ok (.istore_n 1, 1) := by decide +kernel
theorem dX3_readOrder_5 : decode cX3_readOrder 5 = .ok (.iconst 0, 1) := by decide +kernel
theorem dX3_readOrder_6 : decode cX3_readOrder 6 = .ok (.istore_n 2, 1) := by decide +kernel
theorem dX3_readOrder_7 : decode cX3_readOrder 7 = .ok (.iconst 0, 1) := by decide +kernel
theorem dX3_readOrder_8 : decode cX3_readOrder 8 = .ok (.istore_n 3, 1) := by decide +kernel
theorem dX3_readOrder_9 : decode cX3_readOrder 9 = .ok (.iload_n 1, 1) := by decide +kernel
theorem dX3_readOrder_10 : decode cX3_readOrder 10 = .ok (.tableswitch 182 101 115 #[112, 182, 182, 182, 182, 182, 182, 112, 143, 182, 182, 74, 182, 182, 125], 74) := by decide +kernel
theorem dX3_readOrder_84 : decode cX3_readOrder 84 = .ok (.aload_n 0, 1) := by decide +kernel
theorem dX3_readOrder_85 : decode cX3_readOrder 85 = .ok (.dup, 1) := by decide +kernel
theorem dX3_readOrder_86 : decode cX3_readOrder 86 = .ok (.getfield 47, 3) := by decide +kernel
theorem dX3_readOrder_89 : decode cX3_readOrder 89 = .ok (.iconst 1, 1) := by decide +kernel
theorem dX3_readOrder_90 : decode cX3_readOrder 90 = .ok (.iadd, 1) := by decide +kernel
theorem dX3_readOrder_91 : decode cX3_readOrder 91 = .ok (.putfield 47, 3) := by decide +kernel
theorem dX3_readOrder_94 : decode cX3_readOrder 94 = .ok (.aload_n 0, 1) := by decide +kernel
theorem dX3_readOrder_95 : decode cX3_readOrder 95 = .ok (.iconst 3, 1) := by decide +kernel
theorem dX3_readOrder_96 : decode cX3_readOrder 96 = .ok (.iconst 0, 1) := by decide +kernel
theorem dX3_readOrder_97 : decode cX3_readOrder 97 = .ok (.sipush 999, 3) := by decide +kernel
theorem dX3_readOrder_100 : decode cX3_readOrder 100 = .ok (.invokevirtual 56, 3) := by decide +kernel
theorem dX3_readOrder_103 : decode cX3_readOrder 103 = .ok (.istore_n 2, 1) := by decide +kernel
theorem dX3_readOrder_104 : decode cX3_readOrder 104 = .ok (.aload_n 0, 1) := by decide +kernel
theorem dX3_readOrder_105 : decode cX3_readOrder 105 = .ok (.bipush 44, 2) := by decide +kernel
theorem dX3_readOrder_107 : decode cX3_readOrder 107 = .ok (.invokevirtual 60, 3) := by decide +kernel
theorem dX3_readOrder_110 : decode cX3_readOrder 110 = .ok (.aload_n 0, 1) := by decide +kernel
theorem dX3_readOrder_111 : decode cX3_readOrder 111 = .ok (.iconst 2, 1) := by decide +kernel
theorem dX3_readOrder_112 : decode cX3_readOrder 112 = .ok (.iconst 1, 1) := by decide +kernel
theorem dX3_readOrder_113 : decode cX3_readOrder 113 = .ok (.bipush 50, 2) := by decide +kernel
theorem dX3_readOrder_115 : decode cX3_readOrder 115 = .ok (.invokevirtual 56, 3) := by decide +kernel
theorem dX3_readOrder_118 : decode cX3_readOrder 118 = .ok (.istore_n 3, 1) := by decide +kernel
theorem dX3_readOrder_119 : decode cX3_readOrder 119 = .ok (.goto 81, 3) := by decide +kernel
theorem dX3_readOrder_122 : decode cX3_readOrder 122 = .ok (.aload_n 0, 1) := by decide +kernel
theorem dX3_readOrder_123 : decode cX3_readOrder 123 = .ok (.dup, 1) := by decide +kernel
theorem dX3_readOrder_124 : decode cX3_readOrder 124 = .ok (.getfield 47, 3) := by decide +kernel
theorem dX3_readOrder_127 : decode cX3_readOrder 127 = .ok (.iconst 1, 1) := by decide +kernel
theorem dX3_readOrder_128 : decode cX3_readOrder 128 = .ok (.iadd, 1) := by decide +kernel
theorem dX3_readOrder_129 : decode cX3_readOrder 129 = .ok (.putfield 47, 3) := by decide +kernel
theorem dX3_readOrder_132 : decode cX3_readOrder 132 = .ok (.goto 68, 3) := by decide +kernel
theorem dX3_readOrder_135 : decode cX3_readOrder 135 = .ok (.aload_n 0, 1) := by decide +kernel
theorem dX3_readOrder_136 : decode cX3_readOrder 136 = .ok (.dup, 1) := by decide +kernel
theorem dX3_readOrder_137 : decode cX3_readOrder 137 = .ok (.getfield 47, 3) := by decide +kernel
theorem dX3_readOrder_140 : decode cX3_readOrder 140 = .ok (.iconst 1, 1) := by decide +kernel
theorem dX3_readOrder_141 : decode cX3_readOrder 141 = .ok (.iadd, 1) := by decide +kernel
theorem dX3_readOrder_142 : decode cX3_readOrder 142 = .ok (.putfield 47, 3) := by decide +kernel
theorem dX3_readOrder_145 : decode cX3_readOrder 145 = .ok (.aload_n 0, 1) := by decide +kernel
theorem dX3_readOrder_146 : decode cX3_readOrder 146 = .ok (.invokevirtual 63, 3) := by decide +kernel
theorem dX3_readOrder_149 : decode cX3_readOrder 149 = .ok (.istore_n 2, 1) := by decide +kernel
theorem dX3_readOrder_150 : decode cX3_readOrder 150 = .ok (.goto 50, 3) := by decide +kernel
theorem dX3_readOrder_153 : decode cX3_readOrder 153 = .ok (.aload_n 0, 1) := by decide +kernel
theorem dX3_readOrder_154 : decode cX3_readOrder 154 = .ok (.dup, 1) := by decide +kernel
theorem dX3_readOrder_155 : decode cX3_readOrder 155 = .ok (.getfield 47, 3) := by decide +kernel
theorem dX3_readOrder_158 : decode cX3_readOrder 158 = .ok (.iconst 1, 1) := by decide +kernel
theorem dX3_readOrder_159 : decode cX3_readOrder 159 = .ok (.iadd, 1) := by decide +kernel
theorem dX3_readOrder_160 : decode cX3_readOrder 160 = .ok (.putfield 47, 3) := by decide +kernel
theorem dX3_readOrder_163 : decode cX3_readOrder 163 = .ok (.aload_n 0, 1) := by decide +kernel
theorem dX3_readOrder_164 : decode cX3_readOrder 164 = .ok (.iconst 3, 1) := by decide +kernel
theorem dX3_readOrder_165 : decode cX3_readOrder 165 = .ok (.iconst 0, 1) := by decide +kernel
theorem dX3_readOrder_166 : decode cX3_readOrder 166 = .ok (.sipush 999, 3) := by decide +kernel
theorem dX3_readOrder_169 : decode cX3_readOrder 169 = .ok (.invokevirtual 56, 3) := by decide +kernel
theorem dX3_readOrder_172 : decode cX3_readOrder 172 = .ok (.istore_n 2, 1) := by decide +kernel
theorem dX3_readOrder_173 : decode cX3_readOrder 173 = .ok (.aload_n 0, 1) := by decide +kernel
theorem dX3_readOrder_174 : decode cX3_readOrder 174 = .ok (.bipush 43, 2) := by decide +kernel
theorem dX3_readOrder_176 : decode cX3_readOrder 176 = .ok (.invokevirtual 60, 3) := by decide +kernel
theorem dX3_readOrder_179 : decode cX3_readOrder 179 = .ok (.aload_n 0, 1) := by decide +kernel
theorem dX3_readOrder_180 : decode cX3_readOrder 180 = .ok (.iconst 3, 1) := by decide +kernel
theorem dX3_readOrder_181 : decode cX3_readOrder 181 = .ok (.iconst 0, 1) := by decide +kernel
theorem dX3_readOrder_182 : decode cX3_readOrder 182 = .ok (.sipush 999, 3) := by decide +kernel
theorem dX3_readOrder_185 : decode cX3_readOrder 185 = .ok (.invokevirtual 56, 3) := by decide +kernel
theorem dX3_readOrder_188 : decode cX3_readOrder 188 = .ok (.istore_n 3, 1) := by decide +kernel
theorem dX3_readOrder_189 : decode cX3_readOrder 189 = .ok (.goto 11, 3) := by decide +kernel
theorem dX3_readOrder_192 : decode cX3_readOrder 192 = .ok (.aload_n 0, 1) := by decide +kernel
theorem dX3_readOrder_193 : decode cX3_readOrder 193 = .ok (.aload_n 0, 1) := by decide +kernel
theorem dX3_readOrder_194 : decode cX3_readOrder 194 = .ok (.getfield 47, 3) := by decide +kernel
theorem dX3_readOrder_197 : decode cX3_readOrder 197 = .ok (.putfield 29, 3) := by decide +kernel
theorem dX3_readOrder_200 : decode cX3_readOrder 200 = .ok (.aload_n 0, 1) := by decide +kernel
theorem dX3_readOrder_201 : decode cX3_readOrder 201 = .ok (.bipush 59, 2) := by decide +kernel
theorem dX3_readOrder_203 : decode cX3_readOrder 203 = .ok (.invokevirtual 60, 3) := by decide +kernel
theorem dX3_readOrder_206 : decode cX3_readOrder 206 = .ok (.aload_n 0, 1) := by decide +kernel
theorem dX3_readOrder_207 : decode cX3_readOrder 207 = .ok (.getfield 29, 3) := by decide +kernel
theorem dX3_readOrder_210 : decode cX3_readOrder 210 = .ok (.iconst (-1), 1) := by decide +kernel
theorem dX3_readOrder_211 : decode cX3_readOrder 211 = .ok (.if_icmp .ne 27, 3) := by decide +kernel
theorem dX3_readOrder_214 : decode cX3_readOrder 214 = .ok (.aload_n 0, 1) := by decide +kernel
theorem dX3_readOrder_215 : decode cX3_readOrder 215 = .ok (.getfield 20, 3) := by decide +kernel
theorem dX3_readOrder_218 : decode cX3_readOrder 218 = .ok (.iload_n 1, 1) := by decide +kernel
theorem dX3_readOrder_219 : decode cX3_readOrder 219 = .ok (.invokevirtual 37, 3) := by decide +kernel
theorem dX3_readOrder_222 : decode cX3_readOrder 222 = .ok (.aload_n 0, 1) := by decide +kernel
theorem dX3_readOrder_223 : decode cX3_readOrder 223 = .ok (.getfield 23, 3) := by decide +kernel
theorem dX3_readOrder_226 : decode cX3_readOrder 226 = .ok (.iload_n 2, 1) := by decide +kernel
theorem dX3_readOrder_227 : decode cX3_readOrder 227 = .ok (.invokevirtual 37, 3) := by decide +kernel
theorem dX3_readOrder_230 : decode cX3_readOrder 230 = .ok (.aload_n 0, 1) := by decide +kernel
theorem dX3_readOrder_231 : decode cX3_readOrder 231 = .ok (.getfield 26, 3) := by decide +kernel
theorem dX3_readOrder_234 : decode cX3_readOrder 234 = .ok (.iload_n 3, 1) := by decide +kernel
theorem dX3_readOrder_235 : decode cX3_readOrder 235 = .ok (.invokevirtual 37, 3) := by decide +kernel
theorem dX3_readOrder_238 : decode cX3_readOrder 238 = .ok (.return_, 1) := by decide +kernel
set_option maxRecDepth 20000 in
theorem ggX3_here_X2_get : GoodIn wsX3_here wsX2_get := goodIn_r _ [7, 8, 9, 16, 17] (by decide +kernel) (by decide +kernel)
set_option maxRecDepth 20000 in
theorem gX3_here_X2_get : GoodIn wsX3_here (wsV RX3 43 RX2 yX2_get wsX2_get) := goodIn_app (goodIn_of _ (by decide +kernel)) ggX3_here_X2_get
theorem dX3_here_0 : decode cX3_here 0 = .ok (.aload_n 0, 1) := by decide +kernel
theorem dX3_here_1 : decode cX3_here 1 = .ok (.getfield 14, 3) := by decide +kernel
theorem dX3_here_4 : decode cX3_here 4 = .ok (.aload_n 0, 1) := by decide +kernel
theorem dX3_here_5 : decode cX3_here 5 = .ok (.getfield 47, 3) := by decide +kernel
theorem dX3_here_8 : decode cX3_here 8 = .ok (.invokevirtual 43, 3) := by decide +kernel
theorem dX3_here_11 : decode cX3_here 11 = .ok (.ireturn, 1) := by decide +kernel
set_option maxRecDepth 20000 in
theorem ggX3_isDigitHere_X3_here : GoodIn wsX3_isDigitHere wsX3_here := goodIn_r _ [5, 6, 7, 8, 9, 10, 11, 12, 13, 14, 15, 16, 17, 18, 19, 20, 21, 22] (by decide +kernel) (by decide +kernel)
set_option maxRecDepth 20000 in
theorem gX3_isDigitHere_X3_here : GoodIn wsX3_isDigitHere (wsV RX3 53 RX3 yX3_here wsX3_here) := goodIn_app (goodIn_of _ (by decide +kernel)) ggX3_isDigitHere_X3_here
theorem dX3_isDigitHere_0 : decode cX3_isDigitHere 0 = .ok (.aload_n 0, 1) := by decide +kernel
theorem dX3_isDigitHere_1 : decode cX3_isDigitHere 1 = .ok (.invokevirtual 53, 3) := by decide +kernel
theorem dX3_isDigitHere_4 : decode cX3_isDigitHere 4 = .ok (.bipush 48, 2) := by decide +kernel
theorem dX3_isDigitHere_6 : decode cX3_isDigitHere 6 = .ok (.if_icmp .lt 16, 3) := by decide +kernel
theorem dX3_isDigitHere_9 : decode cX3_isDigitHere 9 = .ok (.aload_n 0, 1) := by decide +kernel
theorem dX3_isDigitHere_10 : decode cX3_isDigitHere 10 = .ok (.invokevirtual 53, 3) := by decide +kernel
theorem dX3_isDigitHere_13 : decode cX3_isDigitHere 13 = .ok (.bipush 57, 2) := by decide +kernel
theorem dX3_isDigitHere_15 : decode cX3_isDigitHere 15 = .ok (.if_icmp .gt 7, 3) := by decide +kernel
theorem dX3_isDigitHere_18 : decode cX3_isDigitHere 18 = .ok (.iconst 1, 1) := by decide +kernel
theorem dX3_isDigitHere_19 : decode cX3_isDigitHere 19 = .ok (.goto 4, 3) := by decide +kernel
theorem dX3_isDigitHere_22 : decode cX3_isDigitHere 22 = .ok (.iconst 0, 1) := by decide +kernel
theorem dX3_isDigitHere_23 : decode cX3_isDigitHere 23 = .ok (.ireturn, 1) := by decide +kernel
set_option maxRecDepth 20000 in
theorem ggX3_readSign_X3_here : GoodIn wsX3_readSign wsX3_here := goodIn_r _ [7, 8, 2, 9, 10, 11, 12, 13, 14, 15, 16, 17, 18, 19, 20, 21, 22, 23] (by decide +kernel) (by decide +kernel)
set_option maxRecDepth 20000 in
theorem gX3_readSign_X3_here : GoodIn wsX3_readSign (wsV RX3 53 RX3 yX3_here wsX3_here) := goodIn_app (goodIn_of _ (by decide +kernel)) ggX3_readSign_X3_here
theorem dX3_readSign_0 : decode cX3_readSign 0 = .ok (.aload_n 0, 1) := by decide +kernel
theorem dX3_readSign_1 : decode cX3_readSign 1 = .ok (.getfield 29, 3) := by decide +kernel
theorem dX3_readSign_4 : decode cX3_readSign 4 = .ok (.iconst (-1), 1) := by decide +kernel
theorem dX3_readSign_5 : decode cX3_readSign 5 = .ok (.if_icmp .eq 4, 3) := by decide +kernel
theorem dX3_readSign_8 : decode cX3_readSign 8 = .ok (.return_, 1) := by decide +kernel
theorem dX3_readSign_9 : decode cX3_readSign 9 = .ok (.aload_n 0, 1) := by decide +kernel
theorem dX3_readSign_10 : decode cX3_readSign 10 = .ok (.invokevirtual 53, 3) := by decide +kernel
theorem dX3_readSign_13 : decode cX3_readSign 13 = .ok (.iload_n 1, 1) := by decide +kernel
theorem dX3_readSign_14 : decode cX3_readSign 14 = .ok (.if_icmp .ne 16, 3) := by decide +kernel
theorem dX3_readSign_17 : decode cX3_readSign 17 = .ok (.aload_n 0, 1) := by decide +kernel
theorem dX3_readSign_18 : decode cX3_readSign 18 = .ok (.dup, 1) := by decide +kernel
theorem dX3_readSign_19 : decode cX3_readSign 19 = .ok (.getfield 47, 3) := by decide +kernel
theorem dX3_readSign_22 : decode cX3_readSign 22 = .ok (.iconst 1, 1) := by decide +kernel
theorem dX3_readSign_23 : decode cX3_readSign 23 = .ok (.iadd, 1) := by decide +kernel
theorem dX3_readSign_24 : decode cX3_readSign 24 = .ok (.putfield 47, 3) := by decide +kernel
theorem dX3_readSign_27 : decode cX3_readSign 27 = .ok (.goto 11, 3) := by decide +kernel
theorem dX3_readSign_30 : decode cX3_readSign 30 = .ok (.aload_n 0, 1) := by decide +kernel
theorem dX3_readSign_31 : decode cX3_readSign 31 = .ok (.aload_n 0, 1) := by decide +kernel
theorem dX3_readSign_32 : decode cX3_readSign 32 = .ok (.getfield 47, 3) := by decide +kernel
theorem dX3_readSign_35 : decode cX3_readSign 35 = .ok (.putfield 29, 3) := by decide +kernel
theorem dX3_readSign_38 : decode cX3_readSign 38 = .ok (.return_, 1) := by decide +kernel
set_option maxRecDepth 20000 in
theorem ggX3_readForce_X3_here : GoodIn wsX3_readForce wsX3_here := goodIn_r _ [7, 8, 1, 9, 10, 11, 12, 13, 14, 15, 16, 17, 18, 19, 20, 21, 22, 23] (by decide +kernel) (by decide +kernel)
set_option maxRecDepth 20000 in
theorem gX3_readForce_X3_here : GoodIn wsX3_readForce (wsV RX3 53 RX3 yX3_here wsX3_here) := goodIn_app (goodIn_of _ (by decide +kernel)) ggX3_readForce_X3_here
theorem dX3_readForce_0 : decode cX3_readForce 0 = .ok (.aload_n 0, 1) := by decide +kernel
theorem dX3_readForce_1 : decode cX3_readForce 1 = .ok (.invokevirtual 53, 3) := by decide +kernel
theorem dX3_readForce_4 : decode cX3_readForce 4 = .ok (.istore_n 1, 1) := by decide +kernel
theorem dX3_readForce_5 : decode cX3_readForce 5 = .ok (.iload_n 1, 1) := by decide +kernel
theorem dX3_readForce_6 : decode cX3_readForce 6 = .ok (.bipush 49, 2) := by decide +kernel
theorem dX3_readForce_8 : decode cX3_readForce 8 = .ok (.if_icmp .lt 9, 3) := by decide +kernel
theorem dX3_readForce_11 : decode cX3_readForce 11 = .ok (.iload_n 1, 1) := by decide +kernel
theorem dX3_readForce_12 : decode cX3_readForce 12 = .ok (.bipush 57, 2) := by decide +kernel
theorem dX3_readForce_14 : decode cX3_readForce 14 = .ok (.if_icmp .le 13, 3) := by decide +kernel
theorem dX3_readForce_17 : decode cX3_readForce 17 = .ok (.aload_n 0, 1) := by decide +kernel
theorem dX3_readForce_18 : decode cX3_readForce 18 = .ok (.aload_n 0, 1) := by decide +kernel
theorem dX3_readForce_19 : decode cX3_readForce 19 = .ok (.getfield 47, 3) := by decide +kernel
theorem dX3_readForce_22 : decode cX3_readForce 22 = .ok (.putfield 29, 3) := by decide +kernel
theorem dX3_readForce_25 : decode cX3_readForce 25 = .ok (.iconst 0, 1) := by decide +kernel
theorem dX3_readForce_26 : decode cX3_readForce 26 = .ok (.ireturn, 1) := by decide +kernel
theorem dX3_readForce_27 : decode cX3_readForce 27 = .ok (.aload_n 0, 1) := by decide +kernel
theorem dX3_readForce_28 : decode cX3_readForce 28 = .ok (.dup, 1) := by decide +kernel
theorem dX3_readForce_29 : decode cX3_readForce 29 = .ok (.getfield 47, 3) := by decide +kernel
theorem dX3_readForce_32 : decode cX3_readForce 32 = .ok (.iconst 1, 1) := by decide +kernel
theorem dX3_readForce_33 : decode cX3_readForce 33 = .ok (.iadd, 1) := by decide +kernel
theorem dX3_readForce_34 : decode cX3_readForce 34 = .ok (.putfield 47, 3) := by decide +kernel
theorem dX3_readForce_37 : decode cX3_readForce 37 = .ok (.iload_n 1, 1) := by decide +kernel
theorem dX3_readForce_38 : decode cX3_readForce 38 = .ok (.bipush 48, 2) := by decide +kernel
theorem dX3_readForce_40 : decode cX3_readForce 40 = .ok (.isub, 1) := by decide +kernel
theorem dX3_readForce_41 : decode cX3_readForce 41 = .ok (.ireturn, 1) := by decide +kernel
set_option maxRecDepth 20000 in
theorem ggX3_readNumber_X3_isDigitHere : GoodIn wsX3_readNumber wsX3_isDigitHere := goodIn_r _ [7, 8, 9, 10, 6, 11, 12, 2, 13, 14, 15, 16, 17, 18, 19, 20, 21, 22, 23, 24, 25, 26, 27] (by decide +kernel) (by decide +kernel)
set_option maxRecDepth 20000 in
theorem gX3_readNumber_X3_isDigitHere : GoodIn wsX3_readNumber (wsV RX3 66 RX3 yX3_isDigitHere wsX3_isDigitHere) := goodIn_app (goodIn_of _ (by decide +kernel)) ggX3_readNumber_X3_isDigitHere
set_option maxRecDepth 20000 in
theorem ggX3_readNumber_X3_here : GoodIn wsX3_readNumber wsX3_here := goodIn_r _ [11, 12, 2, 13, 14, 15, 16, 17, 18, 19, 20, 21, 22, 23, 24, 25, 26, 27] (by decide +kernel) (by decide +kernel)
set_option maxRecDepth 20000 in
theorem gX3_readNumber_X3_here : GoodIn wsX3_readNumber (wsV RX3 53 RX3 yX3_here wsX3_here) := goodIn_app (goodIn_of _ (by decide +kernel)) ggX3_readNumber_X3_here
theorem dX3_readNumber_0 : decode cX3_readNumber 0 = .ok (.aload_n 0, 1) := by decide +kernel
theorem dX3_readNumber_1 : decode cX3_readNumber 1 = .ok (.getfield 29, 3) := by decide +kernel
theorem dX3_readNumber_4 : decode cX3_readNumber 4 = .ok (.iconst (-1), 1) := by decide +kernel
theorem dX3_readNumber_5 : decode cX3_readNumber 5 = .ok (.if_icmp .eq 5, 3) := by decide +kernel
theorem dX3_readNumber_8 : decode cX3_readNumber 8 = .ok (.iconst 0, 1) := by decide +kernel
theorem dX3_readNumber_9 : decode cX3_readNumber 9 = .ok (.ireturn, 1) := by decide +kernel
theorem dX3_readNumber_10 : decode cX3_readNumber 10 = .ok (.aload_n 0, 1) := by decide +kernel
theorem dX3_readNumber_11 : decode cX3_readNumber 11 = .ok (.getfield 47, 3) := by decide +kernel
theorem dX3_readNumber_14 : decode cX3_readNumber 14 = .ok (.istore 4, 2) := by decide +kernel
theorem dX3_readNumber_16 : decode cX3_readNumber 16 = .ok (.iconst 0, 1) := by decide +kernel
theorem dX3_readNumber_17 : decode cX3_readNumber 17 = .ok (.istore 5, 2) := by decide +kernel
theorem dX3_readNumber_19 : decode cX3_readNumber 19 = .ok (.iconst 0, 1) := by decide +kernel
theorem dX3_readNumber_20 : decode cX3_readNumber 20 = .ok (.istore 6, 2) := by decide +kernel
theorem dX3_readNumber_22 : decode cX3_readNumber 22 = .ok (.iload 6, 2) := by decide +kernel
theorem dX3_readNumber_24 : decode cX3_readNumber 24 = .ok (.iload_n 1, 1) := by decide +kernel
theorem dX3_readNumber_25 : decode cX3_readNumber 25 = .ok (.if_icmp .ge 41, 3) := by decide +kernel
theorem dX3_readNumber_28 : decode cX3_readNumber 28 = .ok (.aload_n 0, 1) := by decide +kernel
theorem dX3_readNumber_29 : decode cX3_readNumber 29 = .ok (.invokevirtual 66, 3) := by decide +kernel
theorem dX3_readNumber_32 : decode cX3_readNumber 32 = .ok (.ifCond .eq 34, 3) := by decide +kernel
theorem dX3_readNumber_35 : decode cX3_readNumber 35 = .ok (.bipush 10, 2) := by decide +kernel
theorem dX3_readNumber_37 : decode cX3_readNumber 37 = .ok (.iload 5, 2) := by decide +kernel
theorem dX3_readNumber_39 : decode cX3_readNumber 39 = .ok (.imul, 1) := by decide +kernel
theorem dX3_readNumber_40 : decode cX3_readNumber 40 = .ok (.aload_n 0, 1) := by decide +kernel
theorem dX3_readNumber_41 : decode cX3_readNumber 41 = .ok (.invokevirtual 53, 3) := by decide +kernel
theorem dX3_readNumber_44 : decode cX3_readNumber 44 = .ok (.iadd, 1) := by decide +kernel
theorem dX3_readNumber_45 : decode cX3_readNumber 45 = .ok (.bipush 48, 2) := by decide +kernel
theorem dX3_readNumber_47 : decode cX3_readNumber 47 = .ok (.isub, 1) := by decide +kernel
theorem dX3_readNumber_48 : decode cX3_readNumber 48 = .ok (.istore 5, 2) := by decide +kernel
theorem dX3_readNumber_50 : decode cX3_readNumber 50 = .ok (.aload_n 0, 1) := by decide +kernel
theorem dX3_readNumber_51 : decode cX3_readNumber 51 = .ok (.dup, 1) := by decide +kernel
theorem dX3_readNumber_52 : decode cX3_readNumber 52 = .ok (.getfield 47, 3) := by decide +kernel
theorem dX3_readNumber_55 : decode cX3_readNumber 55 = .ok (.iconst 1, 1) := by decide +kernel
theorem dX3_readNumber_56 : decode cX3_readNumber 56 = .ok (.iadd, 1) := by decide +kernel
theorem dX3_readNumber_57 : decode cX3_readNumber 57 = .ok (.putfield 47, 3) := by decide +kernel
theorem dX3_readNumber_60 : decode cX3_readNumber 60 = .ok (.iinc 6 1, 3) := by decide +kernel
theorem dX3_readNumber_63 : decode cX3_readNumber 63 = .ok (.goto (-41), 3) := by decide +kernel
theorem dX3_readNumber_66 : decode cX3_readNumber 66 = .ok (.aload_n 0, 1) := by decide +kernel
theorem dX3_readNumber_67 : decode cX3_readNumber 67 = .ok (.getfield 47, 3) := by decide +kernel
theorem dX3_readNumber_70 : decode cX3_readNumber 70 = .ok (.iload 4, 2) := by decide +kernel
theorem dX3_readNumber_72 : decode cX3_readNumber 72 = .ok (.if_icmp .eq 10, 3) := by decide +kernel
theorem dX3_readNumber_75 : decode cX3_readNumber 75 = .ok (.aload_n 0, 1) := by decide +kernel
theorem dX3_readNumber_76 : decode cX3_readNumber 76 = .ok (.invokevirtual 66, 3) := by decide +kernel
theorem dX3_readNumber_79 : decode cX3_readNumber 79 = .ok (.ifCond .eq 14, 3) := by decide +kernel
theorem dX3_readNumber_82 : decode cX3_readNumber 82 = .ok (.aload_n 0, 1) := by decide +kernel
theorem dX3_readNumber_83 : decode cX3_readNumber 83 = .ok (.aload_n 0, 1) := by decide +kernel
theorem dX3_readNumber_84 : decode cX3_readNumber 84 = .ok (.getfield 47, 3) := by decide +kernel
theorem dX3_readNumber_87 : decode cX3_readNumber 87 = .ok (.putfield 29, 3) := by decide +kernel
theorem dX3_readNumber_90 : decode cX3_readNumber 90 = .ok (.goto 21, 3) := by decide +kernel
theorem dX3_readNumber_93 : decode cX3_readNumber 93 = .ok (.iload 5, 2) := by decide +kernel
theorem dX3_readNumber_95 : decode cX3_readNumber 95 = .ok (.iload_n 2, 1) := by decide +kernel
theorem dX3_readNumber_96 : decode cX3_readNumber 96 = .ok (.if_icmp .lt 9, 3) := by decide +kernel
theorem dX3_readNumber_99 : decode cX3_readNumber 99 = .ok (.iload 5, 2) := by decide +kernel
theorem dX3_readNumber_101 : decode cX3_readNumber 101 = .ok (.iload_n 3, 1) := by decide +kernel
theorem dX3_readNumber_102 : decode cX3_readNumber 102 = .ok (.if_icmp .le 9, 3) := by decide +kernel
theorem dX3_readNumber_105 : decode cX3_readNumber 105 = .ok (.aload_n 0, 1) := by decide +kernel
theorem dX3_readNumber_106 : decode cX3_readNumber 106 = .ok (.iload 4, 2) := by decide +kernel
theorem dX3_readNumber_108 : decode cX3_readNumber 108 = .ok (.putfield 29, 3) := by decide +kernel
theorem dX3_readNumber_111 : decode cX3_readNumber 111 = .ok (.iload 5, 2) := by decide +kernel
theorem dX3_readNumber_113 : decode cX3_readNumber 113 = .ok (.ireturn, 1) := by decide +kernel
set_option maxRecDepth 20000 in
theorem ggX4_init_X0_init : GoodIn wsX4_init wsX0_init := goodIn_r _ [19, 20, 2, 3, 21, 22, 23, 24, 25, 26, 27, 28, 29, 30, 31, 32, 33, 34, 35, 36, 37, 38, 39, 40, 41, 42, 61, 62, 63, 64, 65, 66, 67, 68, 69, 70, 71, 72, 73, 74, 88, 89] (by decide +kernel) (by decide +kernel)
set_option maxRecDepth 20000 in
theorem gX4_init_X0_init : GoodIn wsX4_init (wsX0_init) := ggX4_init_X0_init
set_option maxRecDepth 20000 in
theorem ggX4_init_X1_init : GoodIn wsX4_init wsX1_init := goodIn_r _ [45, 46, 2, 3, 47, 48, 5, 6, 49, 18, 19, 20, 21, 22, 23, 24, 25, 26, 27, 28, 29, 30, 31, 32, 33, 34, 35, 36, 37, 38, 39, 40, 41, 42, 79, 80, 81, 61, 62, 63, 64, 65, 66, 67, 68, 69, 70, 71, 72, 73, 74, 88, 89] (by decide +kernel) (by decide +kernel)
set_option maxRecDepth 20000 in
theorem gX4_init_X1_init : GoodIn wsX4_init (wsX1_init) := ggX4_init_X1_init
set_option maxRecDepth 20000 in
theorem ggX4_init_X3_init : GoodIn wsX4_init wsX3_init := goodIn_r _ [52, 53, 2, 3, 54, 24, 25, 55, 56, 57, 58, 59, 60, 34, 35, 36, 37, 38, 39, 40, 41, 42, 88, 89, 82, 83, 84, 85, 86, 87] (by decide +kernel) (by decide +kernel)
set_option maxRecDepth 20000 in
theorem gX4_init_X3_init : GoodIn wsX4_init (wsX3_init) := ggX4_init_X3_init
