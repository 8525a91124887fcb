theorem dX4_init_0 : decode cX4_init 0 = .ok (.aload_n 0, 1) := by decide +kernel
theorem dX4_init_1 : decode cX4_init 1 = .ok (.invokespecial 1, 3) := by decide +kernel
theorem dX4_init_4 : decode cX4_init 4 = .ok (.aload_n 0, 1) := by decide +kernel
theorem dX4_init_5 : decode cX4_init 5 = .ok (.new 7, 3) := by decide +kernel
theorem dX4_init_8 : decode cX4_init 8 = .ok (.dup, 1) := by decide +kernel
theorem dX4_init_9 : decode cX4_init 9 = .ok (.invokespecial 9, 3) := by decide +kernel
theorem dX4_init_12 : decode cX4_init 12 = .ok (.putfield 10, 3) := by decide +kernel
theorem dX4_init_15 : decode cX4_init 15 = .ok (.aload_n 0, 1) := by decide +kernel
theorem dX4_init_16 : decode cX4_init 16 = .ok (.new 7, 3) := by decide +kernel
theorem dX4_init_19 : decode cX4_init 19 = .ok (.dup, 1) := by decide +kernel
theorem dX4_init_20 : decode cX4_init 20 = .ok (.invokespecial 9, 3) := by decide +kernel
theorem dX4_init_23 : decode cX4_init 23 = .ok (.putfield 16, 3) := by decide +kernel
theorem dX4_init_26 : decode cX4_init 26 = .ok (.aload_n 0, 1) := by decide +kernel
theorem dX4_init_27 : decode cX4_init 27 = .ok (.new 19, 3) := by decide +kernel
theorem dX4_init_30 : decode cX4_init 30 = .ok (.dup, 1) := by decide +kernel
theorem dX4_init_31 : decode cX4_init 31 = .ok (.invokespecial 21, 3) := by decide +kernel
theorem dX4_init_34 : decode cX4_init 34 = .ok (.putfield 22, 3) := by decide +kernel
theorem dX4_init_37 : decode cX4_init 37 = .ok (.aload_n 0, 1) := by decide +kernel
theorem dX4_init_38 : decode cX4_init 38 = .ok (.new 26, 3) := by decide +kernel
theorem dX4_init_41 : decode cX4_init 41 = .ok (.dup, 1) := by decide +kernel
theorem dX4_init_42 : decode cX4_init 42 = .ok (.invokespecial 28, 3) := by decide +kernel
theorem dX4_init_45 : decode cX4_init 45 = .ok (.putfield 29, 3) := by decide +kernel
theorem dX4_init_48 : decode cX4_init 48 = .ok (.return_, 1) := by decide +kernel
theorem dX4_begin_0 : decode cX4_begin 0 = .ok (.iload_n 1, 1) := by decide +kernel
theorem dX4_begin_1 : decode cX4_begin 1 = .ok (.iconst 1, 1) := by decide +kernel
theorem dX4_begin_2 : decode cX4_begin 2 = .ok (.if_icmp .lt 9, 3) := by decide +kernel
theorem dX4_begin_5 : decode cX4_begin 5 = .ok (.iload_n 1, 1) := by decide +kernel
theorem dX4_begin_6 : decode cX4_begin 6 = .ok (.bipush 12, 2) := by decide +kernel
theorem dX4_begin_8 : decode cX4_begin 8 = .ok (.if_icmp .le 13, 3) := by decide +kernel
theorem dX4_begin_11 : decode cX4_begin 11 = .ok (.new 33, 3) := by decide +kernel
theorem dX4_begin_14 : decode cX4_begin 14 = .ok (.dup, 1) := by decide +kernel
theorem dX4_begin_15 : decode cX4_begin 15 = .ok (.ldc 35, 2) := by decide +kernel
theorem dX4_begin_17 : decode cX4_begin 17 = .ok (.invokespecial 37, 3) := by decide +kernel
theorem dX4_begin_20 : decode cX4_begin 20 = .ok (.athrow, 1) := by decide +kernel
theorem dX4_begin_21 : decode cX4_begin 21 = .ok (.aload_n 0, 1) := by decide +kernel
theorem dX4_begin_22 : decode cX4_begin 22 = .ok (.getfield 22, 3) := by decide +kernel
theorem dX4_begin_25 : decode cX4_begin 25 = .ok (.aload_n 0, 1) := by decide +kernel
theorem dX4_begin_26 : decode cX4_begin 26 = .ok (.getfield 10, 3) := by decide +kernel
theorem dX4_begin_29 : decode cX4_begin 29 = .ok (.invokevirtual 40, 3) := by decide +kernel
theorem dX4_begin_32 : decode cX4_begin 32 = .ok (.aload_n 0, 1) := by decide +kernel
theorem dX4_begin_33 : decode cX4_begin 33 = .ok (.getfield 10, 3) := by decide +kernel
theorem dX4_begin_36 : decode cX4_begin 36 = .ok (.invokevirtual 44, 3) := by decide +kernel
theorem dX4_begin_39 : decode cX4_begin 39 = .ok (.istore_n 2, 1) := by decide +kernel
theorem dX4_begin_40 : decode cX4_begin 40 = .ok (.aload_n 0, 1) := by decide +kernel
theorem dX4_begin_41 : decode cX4_begin 41 = .ok (.getfield 10, 3) := by decide +kernel
theorem dX4_begin_44 : decode cX4_begin 44 = .ok (.iload_n 1, 1) := by decide +kernel
theorem dX4_begin_45 : decode cX4_begin 45 = .ok (.invokevirtual 48, 3) := by decide +kernel
theorem dX4_begin_48 : decode cX4_begin 48 = .ok (.iload_n 2, 1) := by decide +kernel
theorem dX4_begin_49 : decode cX4_begin 49 = .ok (.ireturn, 1) := by decide +kernel
theorem dX4_load_0 : decode cX4_load 0 = .ok (.iload_n 1, 1) := by decide +kernel
theorem dX4_load_1 : decode cX4_load 1 = .ok (.ifCond .lt 21, 3) := by decide +kernel
theorem dX4_load_4 : decode cX4_load 4 = .ok (.iload_n 1, 1) := by decide +kernel
theorem dX4_load_5 : decode cX4_load 5 = .ok (.sipush 999, 3) := by decide +kernel
theorem dX4_load_8 : decode cX4_load 8 = .ok (.if_icmp .gt 14, 3) := by decide +kernel
theorem dX4_load_11 : decode cX4_load 11 = .ok (.iload_n 2, 1) := by decide +kernel
theorem dX4_load_12 : decode cX4_load 12 = .ok (.iconst 1, 1) := by decide +kernel
theorem dX4_load_13 : decode cX4_load 13 = .ok (.if_icmp .lt 9, 3) := by decide +kernel
theorem dX4_load_16 : decode cX4_load 16 = .ok (.iload_n 2, 1) := by decide +kernel
theorem dX4_load_17 : decode cX4_load 17 = .ok (.bipush 50, 2) := by decide +kernel
theorem dX4_load_19 : decode cX4_load 19 = .ok (.if_icmp .le 13, 3) := by decide +kernel
theorem dX4_load_22 : decode cX4_load 22 = .ok (.new 33, 3) := by decide +kernel
theorem dX4_load_25 : decode cX4_load 25 = .ok (.dup, 1) := by decide +kernel
theorem dX4_load_26 : decode cX4_load 26 = .ok (.ldc 52, 2) := by decide +kernel
theorem dX4_load_28 : decode cX4_load 28 = .ok (.invokespecial 37, 3) := by decide +kernel
theorem dX4_load_31 : decode cX4_load 31 = .ok (.athrow, 1) := by decide +kernel
theorem dX4_load_32 : decode cX4_load 32 = .ok (.aload_n 0, 1) := by decide +kernel
theorem dX4_load_33 : decode cX4_load 33 = .ok (.getfield 10, 3) := by decide +kernel
theorem dX4_load_36 : decode cX4_load 36 = .ok (.invokevirtual 54, 3) := by decide +kernel
theorem dX4_load_39 : decode cX4_load 39 = .ok (.ifCond .eq 13, 3) := by decide +kernel
theorem dX4_load_42 : decode cX4_load 42 = .ok (.new 58, 3) := by decide +kernel
theorem dX4_load_45 : decode cX4_load 45 = .ok (.dup, 1) := by decide +kernel
theorem dX4_load_46 : decode cX4_load 46 = .ok (.ldc 60, 2) := by decide +kernel
theorem dX4_load_48 : decode cX4_load 48 = .ok (.invokespecial 62, 3) := by decide +kernel
theorem dX4_load_51 : decode cX4_load 51 = .ok (.athrow, 1) := by decide +kernel
theorem dX4_load_52 : decode cX4_load 52 = .ok (.aload_n 0, 1) := by decide +kernel
theorem dX4_load_53 : decode cX4_load 53 = .ok (.getfield 22, 3) := by decide +kernel
theorem dX4_load_56 : decode cX4_load 56 = .ok (.aload_n 0, 1) := by decide +kernel
theorem dX4_load_57 : decode cX4_load 57 = .ok (.getfield 10, 3) := by decide +kernel
theorem dX4_load_60 : decode cX4_load 60 = .ok (.invokevirtual 40, 3) := by decide +kernel
theorem dX4_load_63 : decode cX4_load 63 = .ok (.aload_n 0, 1) := by decide +kernel
theorem dX4_load_64 : decode cX4_load 64 = .ok (.getfield 10, 3) := by decide +kernel
theorem dX4_load_67 : decode cX4_load 67 = .ok (.iload_n 1, 1) := by decide +kernel
theorem dX4_load_68 : decode cX4_load 68 = .ok (.iload_n 2, 1) := by decide +kernel
theorem dX4_load_69 : decode cX4_load 69 = .ok (.invokevirtual 63, 3) := by decide +kernel
theorem dX4_load_72 : decode cX4_load 72 = .ok (.ireturn, 1) := by decide +kernel
theorem dX4_empty_0 : decode cX4_empty 0 = .ok (.aload_n 0, 1) := by decide +kernel
theorem dX4_empty_1 : decode cX4_empty 1 = .ok (.getfield 22, 3) := by decide +kernel
theorem dX4_empty_4 : decode cX4_empty 4 = .ok (.aload_n 0, 1) := by decide +kernel
theorem dX4_empty_5 : decode cX4_empty 5 = .ok (.getfield 10, 3) := by decide +kernel
theorem dX4_empty_8 : decode cX4_empty 8 = .ok (.invokevirtual 40, 3) := by decide +kernel
theorem dX4_empty_11 : decode cX4_empty 11 = .ok (.aload_n 0, 1) := by decide +kernel
theorem dX4_empty_12 : decode cX4_empty 12 = .ok (.getfield 10, 3) := by decide +kernel
theorem dX4_empty_15 : decode cX4_empty 15 = .ok (.invokevirtual 74, 3) := by decide +kernel
theorem dX4_empty_18 : decode cX4_empty 18 = .ok (.ireturn, 1) := by decide +kernel
theorem dX4_merge_0 : decode cX4_merge 0 = .ok (.aload_n 0, 1) := by decide +kernel
theorem dX4_merge_1 : decode cX4_merge 1 = .ok (.getfield 10, 3) := by decide +kernel
theorem dX4_merge_4 : decode cX4_merge 4 = .ok (.iload_n 1, 1) := by decide +kernel
theorem dX4_merge_5 : decode cX4_merge 5 = .ok (.invokevirtual 77, 3) := by decide +kernel
theorem dX4_merge_8 : decode cX4_merge 8 = .ok (.ifCond .eq 14, 3) := by decide +kernel
theorem dX4_merge_11 : decode cX4_merge 11 = .ok (.aload_n 0, 1) := by decide +kernel
theorem dX4_merge_12 : decode cX4_merge 12 = .ok (.getfield 10, 3) := by decide +kernel
theorem dX4_merge_15 : decode cX4_merge 15 = .ok (.iload_n 2, 1) := by decide +kernel
theorem dX4_merge_16 : decode cX4_merge 16 = .ok (.invokevirtual 77, 3) := by decide +kernel
theorem dX4_merge_19 : decode cX4_merge 19 = .ok (.ifCond .ne 13, 3) := by decide +kernel
theorem dX4_merge_22 : decode cX4_merge 22 = .ok (.new 81, 3) := by decide +kernel
theorem dX4_merge_25 : decode cX4_merge 25 = .ok (.dup, 1) := by decide +kernel
theorem dX4_merge_26 : decode cX4_merge 26 = .ok (.ldc 83, 2) := by decide +kernel
theorem dX4_merge_28 : decode cX4_merge 28 = .ok (.invokespecial 85, 3) := by decide +kernel
theorem dX4_merge_31 : decode cX4_merge 31 = .ok (.athrow, 1) := by decide +kernel
theorem dX4_merge_32 : decode cX4_merge 32 = .ok (.iload_n 1, 1) := by decide +kernel
theorem dX4_merge_33 : decode cX4_merge 33 = .ok (.iload_n 2, 1) := by decide +kernel
theorem dX4_merge_34 : decode cX4_merge 34 = .ok (.if_icmp .ne 13, 3) := by decide +kernel
theorem dX4_merge_37 : decode cX4_merge 37 = .ok (.new 33, 3) := by decide +kernel
theorem dX4_merge_40 : decode cX4_merge 40 = .ok (.dup, 1) := by decide +kernel
theorem dX4_merge_41 : decode cX4_merge 41 = .ok (.ldc 86, 2) := by decide +kernel
theorem dX4_merge_43 : decode cX4_merge 43 = .ok (.invokespecial 37, 3) := by decide +kernel
theorem dX4_merge_46 : decode cX4_merge 46 = .ok (.athrow, 1) := by decide +kernel
theorem dX4_merge_47 : decode cX4_merge 47 = .ok (.aload_n 0, 1) := by decide +kernel
theorem dX4_merge_48 : decode cX4_merge 48 = .ok (.getfield 22, 3) := by decide +kernel
theorem dX4_merge_51 : decode cX4_merge 51 = .ok (.aload_n 0, 1) := by decide +kernel
theorem dX4_merge_52 : decode cX4_merge 52 = .ok (.getfield 10, 3) := by decide +kernel
theorem dX4_merge_55 : decode cX4_merge 55 = .ok (.invokevirtual 40, 3) := by decide +kernel
theorem dX4_merge_58 : decode cX4_merge 58 = .ok (.aload_n 0, 1) := by decide +kernel
theorem dX4_merge_59 : decode cX4_merge 59 = .ok (.getfield 10, 3) := by decide +kernel
theorem dX4_merge_62 : decode cX4_merge 62 = .ok (.iload_n 1, 1) := by decide +kernel
theorem dX4_merge_63 : decode cX4_merge 63 = .ok (.iload_n 2, 1) := by decide +kernel
theorem dX4_merge_64 : decode cX4_merge 64 = .ok (.invokevirtual 88, 3) := by decide +kernel
theorem dX4_merge_67 : decode cX4_merge 67 = .ok (.ireturn, 1) := by decide +kernel
theorem dX4_mergeLightest_0 : decode cX4_mergeLightest 0 = .ok (.aload_n 0, 1) := by decide +kernel
theorem dX4_mergeLightest_1 : decode cX4_mergeLightest 1 = .ok (.getfield 10, 3) := by decide +kernel
theorem dX4_mergeLightest_4 : decode cX4_mergeLightest 4 = .ok (.invokevirtual 91, 3) := by decide +kernel
theorem dX4_mergeLightest_7 : decode cX4_mergeLightest 7 = .ok (.iconst 2, 1) := by decide +kernel
theorem dX4_mergeLightest_8 : decode cX4_mergeLightest 8 = .ok (.if_icmp .ge 13, 3) := by decide +kernel
theorem dX4_mergeLightest_11 : decode cX4_mergeLightest 11 = .ok (.new 58, 3) := by decide +kernel
theorem dX4_mergeLightest_14 : decode cX4_mergeLightest 14 = .ok (.dup, 1) := by decide +kernel
theorem dX4_mergeLightest_15 : decode cX4_mergeLightest 15 = .ok (.ldc 94, 2) := by decide +kernel
theorem dX4_mergeLightest_17 : decode cX4_mergeLightest 17 = .ok (.invokespecial 62, 3) := by decide +kernel
theorem dX4_mergeLightest_20 : decode cX4_mergeLightest 20 = .ok (.athrow, 1) := by decide +kernel
theorem dX4_mergeLightest_21 : decode cX4_mergeLightest 21 = .ok (.aload_n 0, 1) := by decide +kernel
theorem dX4_mergeLightest_22 : decode cX4_mergeLightest 22 = .ok (.getfield 22, 3) := by decide +kernel
theorem dX4_mergeLightest_25 : decode cX4_mergeLightest 25 = .ok (.aload_n 0, 1) := by decide +kernel
theorem dX4_mergeLightest_26 : decode cX4_mergeLightest 26 = .ok (.getfield 10, 3) := by decide +kernel
theorem dX4_mergeLightest_29 : decode cX4_mergeLightest 29 = .ok (.invokevirtual 40, 3) := by decide +kernel
theorem dX4_mergeLightest_32 : decode cX4_mergeLightest 32 = .ok (.aload_n 0, 1) := by decide +kernel
theorem dX4_mergeLightest_33 : decode cX4_mergeLightest 33 = .ok (.getfield 10, 3) := by decide +kernel
theorem dX4_mergeLightest_36 : decode cX4_mergeLightest 36 = .ok (.invokevirtual 96, 3) := by decide +kernel
theorem dX4_mergeLightest_39 : decode cX4_mergeLightest 39 = .ok (.ireturn, 1) := by decide +kernel
theorem dX4_storm_0 : decode cX4_storm 0 = .ok (.iload_n 1, 1) := by decide +kernel
theorem dX4_storm_1 : decode cX4_storm 1 = .ok (.iconst 1, 1) := by decide +kernel
theorem dX4_storm_2 : decode cX4_storm 2 = .ok (.if_icmp .lt 9, 3) := by decide +kernel
theorem dX4_storm_5 : decode cX4_storm 5 = .ok (.iload_n 1, 1) := by decide +kernel
theorem dX4_storm_6 : decode cX4_storm 6 = .ok (.bipush 9, 2) := by decide +kernel
theorem dX4_storm_8 : decode cX4_storm 8 = .ok (.if_icmp .le 13, 3) := by decide +kernel
theorem dX4_storm_11 : decode cX4_storm 11 = .ok (.new 33, 3) := by decide +kernel
theorem dX4_storm_14 : decode cX4_storm 14 = .ok (.dup, 1) := by decide +kernel
theorem dX4_storm_15 : decode cX4_storm 15 = .ok (.ldc 99, 2) := by decide +kernel
theorem dX4_storm_17 : decode cX4_storm 17 = .ok (.invokespecial 37, 3) := by decide +kernel
theorem dX4_storm_20 : decode cX4_storm 20 = .ok (.athrow, 1) := by decide +kernel
theorem dX4_storm_21 : decode cX4_storm 21 = .ok (.aload_n 0, 1) := by decide +kernel
theorem dX4_storm_22 : decode cX4_storm 22 = .ok (.getfield 22, 3) := by decide +kernel
theorem dX4_storm_25 : decode cX4_storm 25 = .ok (.aload_n 0, 1) := by decide +kernel
theorem dX4_storm_26 : decode cX4_storm 26 = .ok (.getfield 10, 3) := by decide +kernel
theorem dX4_storm_29 : decode cX4_storm 29 = .ok (.invokevirtual 40, 3) := by decide +kernel
theorem dX4_storm_32 : decode cX4_storm 32 = .ok (.aload_n 0, 1) := by decide +kernel
theorem dX4_storm_33 : decode cX4_storm 33 = .ok (.getfield 10, 3) := by decide +kernel
theorem dX4_storm_36 : decode cX4_storm 36 = .ok (.iload_n 1, 1) := by decide +kernel
theorem dX4_storm_37 : decode cX4_storm 37 = .ok (.invokevirtual 101, 3) := by decide +kernel
theorem dX4_storm_40 : decode cX4_storm 40 = .ok (.ireturn, 1) := by decide +kernel
theorem dX4_tighten_0 : decode cX4_tighten 0 = .ok (.aload_n 0, 1) := by decide +kernel
theorem dX4_tighten_1 : decode cX4_tighten 1 = .ok (.getfield 10, 3) := by decide +kernel
theorem dX4_tighten_4 : decode cX4_tighten 4 = .ok (.iload_n 1, 1) := by decide +kernel
theorem dX4_tighten_5 : decode cX4_tighten 5 = .ok (.invokevirtual 77, 3) := by decide +kernel
theorem dX4_tighten_8 : decode cX4_tighten 8 = .ok (.ifCond .ne 13, 3) := by decide +kernel
theorem dX4_tighten_11 : decode cX4_tighten 11 = .ok (.new 81, 3) := by decide +kernel
theorem dX4_tighten_14 : decode cX4_tighten 14 = .ok (.dup, 1) := by decide +kernel
theorem dX4_tighten_15 : decode cX4_tighten 15 = .ok (.ldc 83, 2) := by decide +kernel
theorem dX4_tighten_17 : decode cX4_tighten 17 = .ok (.invokespecial 85, 3) := by decide +kernel
theorem dX4_tighten_20 : decode cX4_tighten 20 = .ok (.athrow, 1) := by decide +kernel
theorem dX4_tighten_21 : decode cX4_tighten 21 = .ok (.aload_n 0, 1) := by decide +kernel
theorem dX4_tighten_22 : decode cX4_tighten 22 = .ok (.getfield 22, 3) := by decide +kernel
theorem dX4_tighten_25 : decode cX4_tighten 25 = .ok (.aload_n 0, 1) := by decide +kernel
theorem dX4_tighten_26 : decode cX4_tighten 26 = .ok (.getfield 10, 3) := by decide +kernel
theorem dX4_tighten_29 : decode cX4_tighten 29 = .ok (.invokevirtual 40, 3) := by decide +kernel
theorem dX4_tighten_32 : decode cX4_tighten 32 = .ok (.aload_n 0, 1) := by decide +kernel
theorem dX4_tighten_33 : decode cX4_tighten 33 = .ok (.getfield 10, 3) := by decide +kernel
theorem dX4_tighten_36 : decode cX4_tighten 36 = .ok (.iload_n 1, 1) := by decide +kernel
theorem dX4_tighten_37 : decode cX4_tighten 37 = .ok (.invokevirtual 105, 3) := by decide +kernel
theorem dX4_tighten_40 : decode cX4_tighten 40 = .ok (.ireturn, 1) := by decide +kernel
theorem dX4_land_0 : decode cX4_land 0 = .ok (.aload_n 0, 1) := by decide +kernel
theorem dX4_land_1 : decode cX4_land 1 = .ok (.getfield 10, 3) := by decide +kernel
theorem dX4_land_4 : decode cX4_land 4 = .ok (.iload_n 1, 1) := by decide +kernel
theorem dX4_land_5 : decode cX4_land 5 = .ok (.invokevirtual 77, 3) := by decide +kernel
theorem dX4_land_8 : decode cX4_land 8 = .ok (.ifCond .ne 13, 3) := by decide +kernel
theorem dX4_land_11 : decode cX4_land 11 = .ok (.new 81, 3) := by decide +kernel
theorem dX4_land_14 : decode cX4_land 14 = .ok (.dup, 1) := by decide +kernel
theorem dX4_land_15 : decode cX4_land 15 = .ok (.ldc 83, 2) := by decide +kernel
theorem dX4_land_17 : decode cX4_land 17 = .ok (.invokespecial 85, 3) := by decide +kernel
theorem dX4_land_20 : decode cX4_land 20 = .ok (.athrow, 1) := by decide +kernel
theorem dX4_land_21 : decode cX4_land 21 = .ok (.aload_n 0, 1) := by decide +kernel
theorem dX4_land_22 : decode cX4_land 22 = .ok (.getfield 10, 3) := by decide +kernel
theorem dX4_land_25 : decode cX4_land 25 = .ok (.iload_n 1, 1) := by decide +kernel
theorem dX4_land_26 : decode cX4_land 26 = .ok (.invokevirtual 108, 3) := by decide +kernel
theorem dX4_land_29 : decode cX4_land 29 = .ok (.ifCond .ne 13, 3) := by decide +kernel
theorem dX4_land_32 : decode cX4_land 32 = .ok (.new 58, 3) := by decide +kernel
theorem dX4_land_35 : decode cX4_land 35 = .ok (.dup, 1) := by decide +kernel
theorem dX4_land_36 : decode cX4_land 36 = .ok (.ldc 111, 2) := by decide +kernel
theorem dX4_land_38 : decode cX4_land 38 = .ok (.invokespecial 62, 3) := by decide +kernel
theorem dX4_land_41 : decode cX4_land 41 = .ok (.athrow, 1) := by decide +kernel
theorem dX4_land_42 : decode cX4_land 42 = .ok (.aload_n 0, 1) := by decide +kernel
theorem dX4_land_43 : decode cX4_land 43 = .ok (.getfield 22, 3) := by decide +kernel
theorem dX4_land_46 : decode cX4_land 46 = .ok (.aload_n 0, 1) := by decide +kernel
theorem dX4_land_47 : decode cX4_land 47 = .ok (.getfield 10, 3) := by decide +kernel
theorem dX4_land_50 : decode cX4_land 50 = .ok (.invokevirtual 40, 3) := by decide +kernel
theorem dX4_land_53 : decode cX4_land 53 = .ok (.aload_n 0, 1) := by decide +kernel
theorem dX4_land_54 : decode cX4_land 54 = .ok (.getfield 10, 3) := by decide +kernel
theorem dX4_land_57 : decode cX4_land 57 = .ok (.iload_n 1, 1) := by decide +kernel
theorem dX4_land_58 : decode cX4_land 58 = .ok (.invokevirtual 113, 3) := by decide +kernel
theorem dX4_land_61 : decode cX4_land 61 = .ok (.ireturn, 1) := by decide +kernel
theorem dX4_parcel_0 : decode cX4_parcel 0 = .ok (.iload_n 1, 1) := by decide +kernel
theorem dX4_parcel_1 : decode cX4_parcel 1 = .ok (.ifCond .lt 14, 3) := by decide +kernel
theorem dX4_parcel_4 : decode cX4_parcel 4 = .ok (.iload_n 1, 1) := by decide +kernel
theorem dX4_parcel_5 : decode cX4_parcel 5 = .ok (.aload_n 0, 1) := by decide +kernel
theorem dX4_parcel_6 : decode cX4_parcel 6 = .ok (.getfield 10, 3) := by decide +kernel
theorem dX4_parcel_9 : decode cX4_parcel 9 = .ok (.invokevirtual 44, 3) := by decide +kernel
theorem dX4_parcel_12 : decode cX4_parcel 12 = .ok (.if_icmp .lt 13, 3) := by decide +kernel
theorem dX4_parcel_15 : decode cX4_parcel 15 = .ok (.new 116, 3) := by decide +kernel
theorem dX4_parcel_18 : decode cX4_parcel 18 = .ok (.dup, 1) := by decide +kernel
theorem dX4_parcel_19 : decode cX4_parcel 19 = .ok (.ldc 118, 2) := by decide +kernel
theorem dX4_parcel_21 : decode cX4_parcel 21 = .ok (.invokespecial 120, 3) := by decide +kernel
theorem dX4_parcel_24 : decode cX4_parcel 24 = .ok (.athrow, 1) := by decide +kernel
theorem dX4_parcel_25 : decode cX4_parcel 25 = .ok (.iload_n 2, 1) := by decide +kernel
theorem dX4_parcel_26 : decode cX4_parcel 26 = .ok (.ifCond .lt 8, 3) := by decide +kernel
theorem dX4_parcel_29 : decode cX4_parcel 29 = .ok (.iload_n 2, 1) := by decide +kernel
theorem dX4_parcel_30 : decode cX4_parcel 30 = .ok (.iconst 5, 1) := by decide +kernel
theorem dX4_parcel_31 : decode cX4_parcel 31 = .ok (.if_icmp .lt 13, 3) := by decide +kernel
theorem dX4_parcel_34 : decode cX4_parcel 34 = .ok (.new 33, 3) := by decide +kernel
theorem dX4_parcel_37 : decode cX4_parcel 37 = .ok (.dup, 1) := by decide +kernel
theorem dX4_parcel_38 : decode cX4_parcel 38 = .ok (.ldc 121, 2) := by decide +kernel
theorem dX4_parcel_40 : decode cX4_parcel 40 = .ok (.invokespecial 37, 3) := by decide +kernel
theorem dX4_parcel_43 : decode cX4_parcel 43 = .ok (.athrow, 1) := by decide +kernel
theorem dX4_parcel_44 : decode cX4_parcel 44 = .ok (.aload_n 0, 1) := by decide +kernel
theorem dX4_parcel_45 : decode cX4_parcel 45 = .ok (.getfield 10, 3) := by decide +kernel
theorem dX4_parcel_48 : decode cX4_parcel 48 = .ok (.iload_n 1, 1) := by decide +kernel
theorem dX4_parcel_49 : decode cX4_parcel 49 = .ok (.iload_n 2, 1) := by decide +kernel
theorem dX4_parcel_50 : decode cX4_parcel 50 = .ok (.invokevirtual 123, 3) := by decide +kernel
theorem dX4_parcel_53 : decode cX4_parcel 53 = .ok (.ireturn, 1) := by decide +kernel
theorem dX4_run_0 : decode cX4_run 0 = .ok (.aload_n 0, 1) := by decide +kernel
theorem dX4_run_1 : decode cX4_run 1 = .ok (.getfield 10, 3) := by decide +kernel
theorem dX4_run_4 : decode cX4_run 4 = .ok (.iload_n 1, 1) := by decide +kernel
theorem dX4_run_5 : decode cX4_run 5 = .ok (.invokevirtual 77, 3) := by decide +kernel
theorem dX4_run_8 : decode cX4_run 8 = .ok (.ifCond .ne 13, 3) := by decide +kernel
theorem dX4_run_11 : decode cX4_run 11 = .ok (.new 81, 3) := by decide +kernel
theorem dX4_run_14 : decode cX4_run 14 = .ok (.dup, 1) := by decide +kernel
theorem dX4_run_15 : decode cX4_run 15 = .ok (.ldc 83, 2) := by decide +kernel
theorem dX4_run_17 : decode cX4_run 17 = .ok (.invokespecial 85, 3) := by decide +kernel
theorem dX4_run_20 : decode cX4_run 20 = .ok (.athrow, 1) := by decide +kernel
theorem dX4_run_21 : decode cX4_run 21 = .ok (.iload_n 2, 1) := by decide +kernel
theorem dX4_run_22 : decode cX4_run 22 = .ok (.ifCond .lt 9, 3) := by decide +kernel
theorem dX4_run_25 : decode cX4_run 25 = .ok (.iload_n 2, 1) := by decide +kernel
theorem dX4_run_26 : decode cX4_run 26 = .ok (.bipush 6, 2) := by decide +kernel
theorem dX4_run_28 : decode cX4_run 28 = .ok (.if_icmp .lt 13, 3) := by decide +kernel
theorem dX4_run_31 : decode cX4_run 31 = .ok (.new 33, 3) := by decide +kernel
theorem dX4_run_34 : decode cX4_run 34 = .ok (.dup, 1) := by decide +kernel
theorem dX4_run_35 : decode cX4_run 35 = .ok (.ldc 121, 2) := by decide +kernel
theorem dX4_run_37 : decode cX4_run 37 = .ok (.invokespecial 37, 3) := by decide +kernel
theorem dX4_run_40 : decode cX4_run 40 = .ok (.athrow, 1) := by decide +kernel
theorem dX4_run_41 : decode cX4_run 41 = .ok (.aload_n 0, 1) := by decide +kernel
theorem dX4_run_42 : decode cX4_run 42 = .ok (.getfield 10, 3) := by decide +kernel
theorem dX4_run_45 : decode cX4_run 45 = .ok (.iload_n 1, 1) := by decide +kernel
theorem dX4_run_46 : decode cX4_run 46 = .ok (.iload_n 2, 1) := by decide +kernel
theorem dX4_run_47 : decode cX4_run 47 = .ok (.invokevirtual 126, 3) := by decide +kernel
theorem dX4_run_50 : decode cX4_run 50 = .ok (.ireturn, 1) := by decide +kernel
theorem dX4_inRun_0 : decode cX4_inRun 0 = .ok (.aload_n 0, 1) := by decide +kernel
theorem dX4_inRun_1 : decode cX4_inRun 1 = .ok (.getfield 10, 3) := by decide +kernel
theorem dX4_inRun_4 : decode cX4_inRun 4 = .ok (.iload_n 1, 1) := by decide +kernel
theorem dX4_inRun_5 : decode cX4_inRun 5 = .ok (.invokevirtual 77, 3) := by decide +kernel
theorem dX4_inRun_8 : decode cX4_inRun 8 = .ok (.ifCond .ne 13, 3) := by decide +kernel
theorem dX4_inRun_11 : decode cX4_inRun 11 = .ok (.new 81, 3) := by decide +kernel
theorem dX4_inRun_14 : decode cX4_inRun 14 = .ok (.dup, 1) := by decide +kernel
theorem dX4_inRun_15 : decode cX4_inRun 15 = .ok (.ldc 83, 2) := by decide +kernel
theorem dX4_inRun_17 : decode cX4_inRun 17 = .ok (.invokespecial 85, 3) := by decide +kernel
theorem dX4_inRun_20 : decode cX4_inRun 20 = .ok (.athrow, 1) := by decide +kernel
theorem dX4_inRun_21 : decode cX4_inRun 21 = .ok (.iload_n 2, 1) := by decide +kernel
theorem dX4_inRun_22 : decode cX4_inRun 22 = .ok (.ifCond .lt 15, 3) := by decide +kernel
theorem dX4_inRun_25 : decode cX4_inRun 25 = .ok (.iload_n 2, 1) := by decide +kernel
theorem dX4_inRun_26 : decode cX4_inRun 26 = .ok (.aload_n 0, 1) := by decide +kernel
theorem dX4_inRun_27 : decode cX4_inRun 27 = .ok (.getfield 10, 3) := by decide +kernel
theorem dX4_inRun_30 : decode cX4_inRun 30 = .ok (.iload_n 1, 1) := by decide +kernel
theorem dX4_inRun_31 : decode cX4_inRun 31 = .ok (.invokevirtual 129, 3) := by decide +kernel
theorem dX4_inRun_34 : decode cX4_inRun 34 = .ok (.if_icmp .lt 13, 3) := by decide +kernel
theorem dX4_inRun_37 : decode cX4_inRun 37 = .ok (.new 116, 3) := by decide +kernel
theorem dX4_inRun_40 : decode cX4_inRun 40 = .ok (.dup, 1) := by decide +kernel
theorem dX4_inRun_41 : decode cX4_inRun 41 = .ok (.ldc 132, 2) := by decide +kernel
theorem dX4_inRun_43 : decode cX4_inRun 43 = .ok (.invokespecial 120, 3) := by decide +kernel
theorem dX4_inRun_46 : decode cX4_inRun 46 = .ok (.athrow, 1) := by decide +kernel
theorem dX4_inRun_47 : decode cX4_inRun 47 = .ok (.aload_n 0, 1) := by decide +kernel
theorem dX4_inRun_48 : decode cX4_inRun 48 = .ok (.getfield 10, 3) := by decide +kernel
theorem dX4_inRun_51 : decode cX4_inRun 51 = .ok (.iload_n 1, 1) := by decide +kernel
theorem dX4_inRun_52 : decode cX4_inRun 52 = .ok (.iload_n 2, 1) := by decide +kernel
theorem dX4_inRun_53 : decode cX4_inRun 53 = .ok (.invokevirtual 134, 3) := by decide +kernel
theorem dX4_inRun_56 : decode cX4_inRun 56 = .ok (.ireturn, 1) := by decide +kernel
theorem dX4_ashore_0 : decode cX4_ashore 0 = .ok (.iload_n 1, 1) := by decide +kernel
theorem dX4_ashore_1 : decode cX4_ashore 1 = .ok (.ifCond .lt 16, 3) := by decide +kernel
theorem dX4_ashore_4 : decode cX4_ashore 4 = .ok (.iload_n 1, 1) := by decide +kernel
theorem dX4_ashore_5 : decode cX4_ashore 5 = .ok (.aload_n 0, 1) := by decide +kernel
theorem dX4_ashore_6 : decode cX4_ashore 6 = .ok (.getfield 10, 3) := by decide +kernel
theorem dX4_ashore_9 : decode cX4_ashore 9 = .ok (.bipush (-2), 2) := by decide +kernel
theorem dX4_ashore_11 : decode cX4_ashore 11 = .ok (.invokevirtual 129, 3) := by decide +kernel
theorem dX4_ashore_14 : decode cX4_ashore 14 = .ok (.if_icmp .lt 13, 3) := by decide +kernel
theorem dX4_ashore_17 : decode cX4_ashore 17 = .ok (.new 116, 3) := by decide +kernel
theorem dX4_ashore_20 : decode cX4_ashore 20 = .ok (.dup, 1) := by decide +kernel
theorem dX4_ashore_21 : decode cX4_ashore 21 = .ok (.ldc 137, 2) := by decide +kernel
theorem dX4_ashore_23 : decode cX4_ashore 23 = .ok (.invokespecial 120, 3) := by decide +kernel
theorem dX4_ashore_26 : decode cX4_ashore 26 = .ok (.athrow, 1) := by decide +kernel
theorem dX4_ashore_27 : decode cX4_ashore 27 = .ok (.aload_n 0, 1) := by decide +kernel
theorem dX4_ashore_28 : decode cX4_ashore 28 = .ok (.getfield 10, 3) := by decide +kernel
theorem dX4_ashore_31 : decode cX4_ashore 31 = .ok (.bipush (-2), 2) := by decide +kernel
theorem dX4_ashore_33 : decode cX4_ashore 33 = .ok (.iload_n 1, 1) := by decide +kernel
theorem dX4_ashore_34 : decode cX4_ashore 34 = .ok (.invokevirtual 134, 3) := by decide +kernel
theorem dX4_ashore_37 : decode cX4_ashore 37 = .ok (.ireturn, 1) := by decide +kernel
theorem dX4_runAt_0 : decode cX4_runAt 0 = .ok (.iload_n 1, 1) := by decide +kernel
theorem dX4_runAt_1 : decode cX4_runAt 1 = .ok (.ifCond .lt 14, 3) := by decide +kernel
theorem dX4_runAt_4 : decode cX4_runAt 4 = .ok (.iload_n 1, 1) := by decide +kernel
theorem dX4_runAt_5 : decode cX4_runAt 5 = .ok (.aload_n 0, 1) := by decide +kernel
theorem dX4_runAt_6 : decode cX4_runAt 6 = .ok (.getfield 10, 3) := by decide +kernel
theorem dX4_runAt_9 : decode cX4_runAt 9 = .ok (.invokevirtual 91, 3) := by decide +kernel
theorem dX4_runAt_12 : decode cX4_runAt 12 = .ok (.if_icmp .lt 13, 3) := by decide +kernel
theorem dX4_runAt_15 : decode cX4_runAt 15 = .ok (.new 116, 3) := by decide +kernel
theorem dX4_runAt_18 : decode cX4_runAt 18 = .ok (.dup, 1) := by decide +kernel
theorem dX4_runAt_19 : decode cX4_runAt 19 = .ok (.ldc 139, 2) := by decide +kernel
theorem dX4_runAt_21 : decode cX4_runAt 21 = .ok (.invokespecial 120, 3) := by decide +kernel
theorem dX4_runAt_24 : decode cX4_runAt 24 = .ok (.athrow, 1) := by decide +kernel
theorem dX4_runAt_25 : decode cX4_runAt 25 = .ok (.aload_n 0, 1) := by decide +kernel
theorem dX4_runAt_26 : decode cX4_runAt 26 = .ok (.getfield 10, 3) := by decide +kernel
theorem dX4_runAt_29 : decode cX4_runAt 29 = .ok (.iload_n 1, 1) := by decide +kernel
theorem dX4_runAt_30 : decode cX4_runAt 30 = .ok (.invokevirtual 141, 3) := by decide +kernel
theorem dX4_runAt_33 : decode cX4_runAt 33 = .ok (.ireturn, 1) := by decide +kernel
theorem dX4_value_0 : decode cX4_value 0 = .ok (.iload_n 1, 1) := by decide +kernel
theorem dX4_value_1 : decode cX4_value 1 = .ok (.ifCond .lt 9, 3) := by decide +kernel
theorem dX4_value_4 : decode cX4_value 4 = .ok (.iload_n 1, 1) := by decide +kernel
theorem dX4_value_5 : decode cX4_value 5 = .ok (.bipush 12, 2) := by decide +kernel
theorem dX4_value_7 : decode cX4_value 7 = .ok (.if_icmp .lt 13, 3) := by decide +kernel
theorem dX4_value_10 : decode cX4_value 10 = .ok (.new 33, 3) := by decide +kernel
theorem dX4_value_13 : decode cX4_value 13 = .ok (.dup, 1) := by decide +kernel
theorem dX4_value_14 : decode cX4_value 14 = .ok (.ldc 121, 2) := by decide +kernel
theorem dX4_value_16 : decode cX4_value 16 = .ok (.invokespecial 37, 3) := by decide +kernel
theorem dX4_value_19 : decode cX4_value 19 = .ok (.athrow, 1) := by decide +kernel
theorem dX4_value_20 : decode cX4_value 20 = .ok (.aload_n 0, 1) := by decide +kernel
theorem dX4_value_21 : decode cX4_value 21 = .ok (.getfield 10, 3) := by decide +kernel
theorem dX4_value_24 : decode cX4_value 24 = .ok (.iload_n 1, 1) := by decide +kernel
theorem dX4_value_25 : decode cX4_value 25 = .ok (.invokevirtual 144, 3) := by decide +kernel
theorem dX4_value_28 : decode cX4_value 28 = .ok (.ireturn, 1) := by decide +kernel
theorem dX4_nextThrown_0 : decode cX4_nextThrown 0 = .ok (.aload_n 0, 1) := by decide +kernel
theorem dX4_nextThrown_1 : decode cX4_nextThrown 1 = .ok (.getfield 10, 3) := by decide +kernel
theorem dX4_nextThrown_4 : decode cX4_nextThrown 4 = .ok (.invokevirtual 147, 3) := by decide +kernel
theorem dX4_nextThrown_7 : decode cX4_nextThrown 7 = .ok (.ireturn, 1) := by decide +kernel
theorem dJ9_max_7cf53_0 : decode cJ9_max_7cf53 0 = .ok (.iload_n 0, 1) := by decide +kernel
theorem dJ9_max_7cf53_1 : decode cJ9_max_7cf53 1 = .ok (.iload_n 1, 1) := by decide +kernel
theorem dJ9_max_7cf53_2 : decode cJ9_max_7cf53 2 = .ok (.if_icmp .lt 7, 3) := by decide +kernel
theorem dJ9_max_7cf53_5 : decode cJ9_max_7cf53 5 = .ok (.iload_n 0, 1) := by decide +kernel
theorem dJ9_max_7cf53_6 : decode cJ9_max_7cf53 6 = .ok (.goto 4, 3) := by decide +kernel
theorem dJ9_max_7cf53_9 : decode cJ9_max_7cf53 9 = .ok (.iload_n 1, 1) := by decide +kernel
theorem dJ9_max_7cf53_10 : decode cJ9_max_7cf53 10 = .ok (.ireturn, 1) := by decide +kernel
theorem dJ9_min_7cf53_0 : decode cJ9_min_7cf53 0 = .ok (.iload_n 0, 1) := by decide +kernel
theorem dJ9_min_7cf53_1 : decode cJ9_min_7cf53 1 = .ok (.iload_n 1, 1) := by decide +kernel
theorem dJ9_min_7cf53_2 : decode cJ9_min_7cf53 2 = .ok (.if_icmp .gt 7, 3) := by decide +kernel
theorem dJ9_min_7cf53_5 : decode cJ9_min_7cf53 5 = .ok (.iload_n 0, 1) := by decide +kernel
theorem dJ9_min_7cf53_6 : decode cJ9_min_7cf53 6 = .ok (.goto 4, 3) := by decide +kernel
theorem dJ9_min_7cf53_9 : decode cJ9_min_7cf53 9 = .ok (.iload_n 1, 1) := by decide +kernel
theorem dJ9_min_7cf53_10 : decode cJ9_min_7cf53 10 = .ok (.ireturn, 1) := by decide +kernel
