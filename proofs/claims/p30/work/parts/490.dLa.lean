theorem dL_cell_0 : decode cL_cell 0 = .ok (.iload_n 1, 1) := by decide +kernel
theorem dL_cell_1 : decode cL_cell 1 = .ok (.aload_n 0, 1) := by decide +kernel
theorem dL_cell_2 : decode cL_cell 2 = .ok (.arraylength, 1) := by decide +kernel
theorem dL_cell_3 : decode cL_cell 3 = .ok (.if_icmp .ge 9, 3) := by decide +kernel
theorem dL_cell_6 : decode cL_cell 6 = .ok (.aload_n 0, 1) := by decide +kernel
theorem dL_cell_7 : decode cL_cell 7 = .ok (.iload_n 1, 1) := by decide +kernel
theorem dL_cell_8 : decode cL_cell 8 = .ok (.iaload, 1) := by decide +kernel
theorem dL_cell_9 : decode cL_cell 9 = .ok (.goto 9, 3) := by decide +kernel
theorem dL_cell_12 : decode cL_cell 12 = .ok (.ldc 7, 2) := by decide +kernel
theorem dL_cell_14 : decode cL_cell 14 = .ok (.iload_n 1, 1) := by decide +kernel
theorem dL_cell_15 : decode cL_cell 15 = .ok (.iconst 1, 1) := by decide +kernel
theorem dL_cell_16 : decode cL_cell 16 = .ok (.iadd, 1) := by decide +kernel
theorem dL_cell_17 : decode cL_cell 17 = .ok (.imul, 1) := by decide +kernel
theorem dL_cell_18 : decode cL_cell 18 = .ok (.ireturn, 1) := by decide +kernel
theorem dL_low_0 : decode cL_low 0 = .ok (.iload_n 0, 1) := by decide +kernel
theorem dL_low_1 : decode cL_low 1 = .ok (.ldc 8, 2) := by decide +kernel
theorem dL_low_3 : decode cL_low 3 = .ok (.iand, 1) := by decide +kernel
theorem dL_low_4 : decode cL_low 4 = .ok (.iload_n 1, 1) := by decide +kernel
theorem dL_low_5 : decode cL_low 5 = .ok (.irem, 1) := by decide +kernel
theorem dL_low_6 : decode cL_low 6 = .ok (.ireturn, 1) := by decide +kernel
theorem dL_pack_0 : decode cL_pack 0 = .ok (.iload_n 0, 1) := by decide +kernel
theorem dL_pack_1 : decode cL_pack 1 = .ok (.iload_n 1, 1) := by decide +kernel
theorem dL_pack_2 : decode cL_pack 2 = .ok (.bipush 10, 2) := by decide +kernel
theorem dL_pack_4 : decode cL_pack 4 = .ok (.ishl, 1) := by decide +kernel
theorem dL_pack_5 : decode cL_pack 5 = .ok (.ior, 1) := by decide +kernel
theorem dL_pack_6 : decode cL_pack 6 = .ok (.iload_n 2, 1) := by decide +kernel
theorem dL_pack_7 : decode cL_pack 7 = .ok (.bipush 16, 2) := by decide +kernel
theorem dL_pack_9 : decode cL_pack 9 = .ok (.ishl, 1) := by decide +kernel
theorem dL_pack_10 : decode cL_pack 10 = .ok (.ior, 1) := by decide +kernel
theorem dL_pack_11 : decode cL_pack 11 = .ok (.iload_n 3, 1) := by decide +kernel
theorem dL_pack_12 : decode cL_pack 12 = .ok (.iconst 1, 1) := by decide +kernel
theorem dL_pack_13 : decode cL_pack 13 = .ok (.iadd, 1) := by decide +kernel
theorem dL_pack_14 : decode cL_pack 14 = .ok (.bipush 18, 2) := by decide +kernel
theorem dL_pack_16 : decode cL_pack 16 = .ok (.ishl, 1) := by decide +kernel
theorem dL_pack_17 : decode cL_pack 17 = .ok (.ior, 1) := by decide +kernel
theorem dL_pack_18 : decode cL_pack 18 = .ok (.ireturn, 1) := by decide +kernel
theorem dL_key_0 : decode cL_key 0 = .ok (.aload_n 0, 1) := by decide +kernel
theorem dL_key_1 : decode cL_key 1 = .ok (.iload_n 1, 1) := by decide +kernel
theorem dL_key_2 : decode cL_key 2 = .ok (.iaload, 1) := by decide +kernel
theorem dL_key_3 : decode cL_key 3 = .ok (.sipush 1023, 3) := by decide +kernel
theorem dL_key_6 : decode cL_key 6 = .ok (.iand, 1) := by decide +kernel
theorem dL_key_7 : decode cL_key 7 = .ok (.ireturn, 1) := by decide +kernel
theorem dL_weight_0 : decode cL_weight 0 = .ok (.aload_n 0, 1) := by decide +kernel
theorem dL_weight_1 : decode cL_weight 1 = .ok (.iload_n 1, 1) := by decide +kernel
theorem dL_weight_2 : decode cL_weight 2 = .ok (.iaload, 1) := by decide +kernel
theorem dL_weight_3 : decode cL_weight 3 = .ok (.bipush 10, 2) := by decide +kernel
theorem dL_weight_5 : decode cL_weight 5 = .ok (.ishr, 1) := by decide +kernel
theorem dL_weight_6 : decode cL_weight 6 = .ok (.bipush 63, 2) := by decide +kernel
theorem dL_weight_8 : decode cL_weight 8 = .ok (.iand, 1) := by decide +kernel
theorem dL_weight_9 : decode cL_weight 9 = .ok (.ireturn, 1) := by decide +kernel
theorem dL_where_0 : decode cL_where 0 = .ok (.aload_n 0, 1) := by decide +kernel
theorem dL_where_1 : decode cL_where 1 = .ok (.iload_n 1, 1) := by decide +kernel
theorem dL_where_2 : decode cL_where 2 = .ok (.iaload, 1) := by decide +kernel
theorem dL_where_3 : decode cL_where 3 = .ok (.bipush 16, 2) := by decide +kernel
theorem dL_where_5 : decode cL_where 5 = .ok (.ishr, 1) := by decide +kernel
theorem dL_where_6 : decode cL_where 6 = .ok (.iconst 3, 1) := by decide +kernel
theorem dL_where_7 : decode cL_where 7 = .ok (.iand, 1) := by decide +kernel
theorem dL_where_8 : decode cL_where 8 = .ok (.ireturn, 1) := by decide +kernel
theorem dL_run_0 : decode cL_run 0 = .ok (.aload_n 0, 1) := by decide +kernel
theorem dL_run_1 : decode cL_run 1 = .ok (.iload_n 1, 1) := by decide +kernel
theorem dL_run_2 : decode cL_run 2 = .ok (.iaload, 1) := by decide +kernel
theorem dL_run_3 : decode cL_run 3 = .ok (.bipush 18, 2) := by decide +kernel
theorem dL_run_5 : decode cL_run 5 = .ok (.ishr, 1) := by decide +kernel
theorem dL_run_6 : decode cL_run 6 = .ok (.iconst 1, 1) := by decide +kernel
theorem dL_run_7 : decode cL_run 7 = .ok (.isub, 1) := by decide +kernel
theorem dL_run_8 : decode cL_run 8 = .ok (.ireturn, 1) := by decide +kernel
theorem dL_goes_0 : decode cL_goes 0 = .ok (.aload_n 0, 1) := by decide +kernel
theorem dL_goes_1 : decode cL_goes 1 = .ok (.iload_n 1, 1) := by decide +kernel
theorem dL_goes_2 : decode cL_goes 2 = .ok (.aload_n 0, 1) := by decide +kernel
theorem dL_goes_3 : decode cL_goes 3 = .ok (.iload_n 1, 1) := by decide +kernel
theorem dL_goes_4 : decode cL_goes 4 = .ok (.invokestatic 9, 3) := by decide +kernel
theorem dL_goes_7 : decode cL_goes 7 = .ok (.aload_n 0, 1) := by decide +kernel
theorem dL_goes_8 : decode cL_goes 8 = .ok (.iload_n 1, 1) := by decide +kernel
theorem dL_goes_9 : decode cL_goes 9 = .ok (.invokestatic 15, 3) := by decide +kernel
theorem dL_goes_12 : decode cL_goes 12 = .ok (.iload_n 2, 1) := by decide +kernel
theorem dL_goes_13 : decode cL_goes 13 = .ok (.iload_n 3, 1) := by decide +kernel
theorem dL_goes_14 : decode cL_goes 14 = .ok (.invokestatic 18, 3) := by decide +kernel
theorem dL_goes_17 : decode cL_goes 17 = .ok (.iastore, 1) := by decide +kernel
theorem dL_goes_18 : decode cL_goes 18 = .ok (.return_, 1) := by decide +kernel
theorem dL_isLess_0 : decode cL_isLess 0 = .ok (.aload_n 0, 1) := by decide +kernel
theorem dL_isLess_1 : decode cL_isLess 1 = .ok (.iload_n 1, 1) := by decide +kernel
theorem dL_isLess_2 : decode cL_isLess 2 = .ok (.invokestatic 9, 3) := by decide +kernel
theorem dL_isLess_5 : decode cL_isLess 5 = .ok (.aload_n 0, 1) := by decide +kernel
theorem dL_isLess_6 : decode cL_isLess 6 = .ok (.iload_n 2, 1) := by decide +kernel
theorem dL_isLess_7 : decode cL_isLess 7 = .ok (.invokestatic 9, 3) := by decide +kernel
theorem dL_isLess_10 : decode cL_isLess 10 = .ok (.if_icmp .eq 24, 3) := by decide +kernel
theorem dL_isLess_13 : decode cL_isLess 13 = .ok (.aload_n 0, 1) := by decide +kernel
theorem dL_isLess_14 : decode cL_isLess 14 = .ok (.iload_n 1, 1) := by decide +kernel
theorem dL_isLess_15 : decode cL_isLess 15 = .ok (.invokestatic 9, 3) := by decide +kernel
theorem dL_isLess_18 : decode cL_isLess 18 = .ok (.aload_n 0, 1) := by decide +kernel
theorem dL_isLess_19 : decode cL_isLess 19 = .ok (.iload_n 2, 1) := by decide +kernel
theorem dL_isLess_20 : decode cL_isLess 20 = .ok (.invokestatic 9, 3) := by decide +kernel
theorem dL_isLess_23 : decode cL_isLess 23 = .ok (.if_icmp .ge 7, 3) := by decide +kernel
theorem dL_isLess_26 : decode cL_isLess 26 = .ok (.iconst 1, 1) := by decide +kernel
theorem dL_isLess_27 : decode cL_isLess 27 = .ok (.goto 17, 3) := by decide +kernel
theorem dL_isLess_30 : decode cL_isLess 30 = .ok (.iconst 0, 1) := by decide +kernel
theorem dL_isLess_31 : decode cL_isLess 31 = .ok (.goto 13, 3) := by decide +kernel
theorem dL_isLess_34 : decode cL_isLess 34 = .ok (.iload_n 1, 1) := by decide +kernel
theorem dL_isLess_35 : decode cL_isLess 35 = .ok (.iload_n 2, 1) := by decide +kernel
theorem dL_isLess_36 : decode cL_isLess 36 = .ok (.if_icmp .ge 7, 3) := by decide +kernel
theorem dL_isLess_39 : decode cL_isLess 39 = .ok (.iconst 1, 1) := by decide +kernel
theorem dL_isLess_40 : decode cL_isLess 40 = .ok (.goto 4, 3) := by decide +kernel
theorem dL_isLess_43 : decode cL_isLess 43 = .ok (.iconst 0, 1) := by decide +kernel
theorem dL_isLess_44 : decode cL_isLess 44 = .ok (.ireturn, 1) := by decide +kernel
theorem dL_many_0 : decode cL_many 0 = .ok (.iconst 0, 1) := by decide +kernel
theorem dL_many_1 : decode cL_many 1 = .ok (.istore 4, 2) := by decide +kernel
theorem dL_many_3 : decode cL_many 3 = .ok (.iconst 0, 1) := by decide +kernel
theorem dL_many_4 : decode cL_many 4 = .ok (.istore 5, 2) := by decide +kernel
theorem dL_many_6 : decode cL_many 6 = .ok (.iload 5, 2) := by decide +kernel
theorem dL_many_8 : decode cL_many 8 = .ok (.aload_n 1, 1) := by decide +kernel
theorem dL_many_9 : decode cL_many 9 = .ok (.iconst 0, 1) := by decide +kernel
theorem dL_many_10 : decode cL_many 10 = .ok (.iaload, 1) := by decide +kernel
theorem dL_many_11 : decode cL_many 11 = .ok (.if_icmp .ge 39, 3) := by decide +kernel
theorem dL_many_14 : decode cL_many 14 = .ok (.iload 4, 2) := by decide +kernel
theorem dL_many_16 : decode cL_many 16 = .ok (.aload_n 0, 1) := by decide +kernel
theorem dL_many_17 : decode cL_many 17 = .ok (.iload 5, 2) := by decide +kernel
theorem dL_many_19 : decode cL_many 19 = .ok (.invokestatic 22, 3) := by decide +kernel
theorem dL_many_22 : decode cL_many 22 = .ok (.iload_n 2, 1) := by decide +kernel
theorem dL_many_23 : decode cL_many 23 = .ok (.if_icmp .ne 17, 3) := by decide +kernel
theorem dL_many_26 : decode cL_many 26 = .ok (.aload_n 0, 1) := by decide +kernel
theorem dL_many_27 : decode cL_many 27 = .ok (.iload 5, 2) := by decide +kernel
theorem dL_many_29 : decode cL_many 29 = .ok (.invokestatic 25, 3) := by decide +kernel
theorem dL_many_32 : decode cL_many 32 = .ok (.iload_n 3, 1) := by decide +kernel
theorem dL_many_33 : decode cL_many 33 = .ok (.if_icmp .ne 7, 3) := by decide +kernel
theorem dL_many_36 : decode cL_many 36 = .ok (.iconst 1, 1) := by decide +kernel
theorem dL_many_37 : decode cL_many 37 = .ok (.goto 4, 3) := by decide +kernel
theorem dL_many_40 : decode cL_many 40 = .ok (.iconst 0, 1) := by decide +kernel
theorem dL_many_41 : decode cL_many 41 = .ok (.iadd, 1) := by decide +kernel
theorem dL_many_42 : decode cL_many 42 = .ok (.istore 4, 2) := by decide +kernel
theorem dL_many_44 : decode cL_many 44 = .ok (.iinc 5 1, 3) := by decide +kernel
theorem dL_many_47 : decode cL_many 47 = .ok (.goto (-41), 3) := by decide +kernel
theorem dL_many_50 : decode cL_many 50 = .ok (.iload 4, 2) := by decide +kernel
theorem dL_many_52 : decode cL_many 52 = .ok (.ireturn, 1) := by decide +kernel
theorem dL_weighs_0 : decode cL_weighs 0 = .ok (.iconst 0, 1) := by decide +kernel
theorem dL_weighs_1 : decode cL_weighs 1 = .ok (.istore_n 3, 1) := by decide +kernel
theorem dL_weighs_2 : decode cL_weighs 2 = .ok (.iconst 0, 1) := by decide +kernel
theorem dL_weighs_3 : decode cL_weighs 3 = .ok (.istore 4, 2) := by decide +kernel
theorem dL_weighs_5 : decode cL_weighs 5 = .ok (.iload 4, 2) := by decide +kernel
theorem dL_weighs_7 : decode cL_weighs 7 = .ok (.aload_n 1, 1) := by decide +kernel
theorem dL_weighs_8 : decode cL_weighs 8 = .ok (.iconst 0, 1) := by decide +kernel
theorem dL_weighs_9 : decode cL_weighs 9 = .ok (.iaload, 1) := by decide +kernel
theorem dL_weighs_10 : decode cL_weighs 10 = .ok (.if_icmp .ge 42, 3) := by decide +kernel
theorem dL_weighs_13 : decode cL_weighs 13 = .ok (.iload_n 3, 1) := by decide +kernel
theorem dL_weighs_14 : decode cL_weighs 14 = .ok (.aload_n 0, 1) := by decide +kernel
theorem dL_weighs_15 : decode cL_weighs 15 = .ok (.iload 4, 2) := by decide +kernel
theorem dL_weighs_17 : decode cL_weighs 17 = .ok (.invokestatic 22, 3) := by decide +kernel
theorem dL_weighs_20 : decode cL_weighs 20 = .ok (.iconst 1, 1) := by decide +kernel
theorem dL_weighs_21 : decode cL_weighs 21 = .ok (.if_icmp .ne 22, 3) := by decide +kernel
theorem dL_weighs_24 : decode cL_weighs 24 = .ok (.aload_n 0, 1) := by decide +kernel
theorem dL_weighs_25 : decode cL_weighs 25 = .ok (.iload 4, 2) := by decide +kernel
theorem dL_weighs_27 : decode cL_weighs 27 = .ok (.invokestatic 25, 3) := by decide +kernel
theorem dL_weighs_30 : decode cL_weighs 30 = .ok (.iload_n 2, 1) := by decide +kernel
theorem dL_weighs_31 : decode cL_weighs 31 = .ok (.if_icmp .ne 12, 3) := by decide +kernel
theorem dL_weighs_34 : decode cL_weighs 34 = .ok (.aload_n 0, 1) := by decide +kernel
theorem dL_weighs_35 : decode cL_weighs 35 = .ok (.iload 4, 2) := by decide +kernel
theorem dL_weighs_37 : decode cL_weighs 37 = .ok (.invokestatic 15, 3) := by decide +kernel
theorem dL_weighs_40 : decode cL_weighs 40 = .ok (.goto 4, 3) := by decide +kernel
theorem dL_weighs_43 : decode cL_weighs 43 = .ok (.iconst 0, 1) := by decide +kernel
theorem dL_weighs_44 : decode cL_weighs 44 = .ok (.iadd, 1) := by decide +kernel
theorem dL_weighs_45 : decode cL_weighs 45 = .ok (.istore_n 3, 1) := by decide +kernel
theorem dL_weighs_46 : decode cL_weighs 46 = .ok (.iinc 4 1, 3) := by decide +kernel
theorem dL_weighs_49 : decode cL_weighs 49 = .ok (.goto (-44), 3) := by decide +kernel
theorem dL_weighs_52 : decode cL_weighs 52 = .ok (.iload_n 3, 1) := by decide +kernel
theorem dL_weighs_53 : decode cL_weighs 53 = .ok (.ireturn, 1) := by decide +kernel
theorem dL_ranked_0 : decode cL_ranked 0 = .ok (.iconst 0, 1) := by decide +kernel
theorem dL_ranked_1 : decode cL_ranked 1 = .ok (.istore 5, 2) := by decide +kernel
theorem dL_ranked_3 : decode cL_ranked 3 = .ok (.iload 5, 2) := by decide +kernel
theorem dL_ranked_5 : decode cL_ranked 5 = .ok (.aload_n 1, 1) := by decide +kernel
theorem dL_ranked_6 : decode cL_ranked 6 = .ok (.iconst 0, 1) := by decide +kernel
theorem dL_ranked_7 : decode cL_ranked 7 = .ok (.iaload, 1) := by decide +kernel
theorem dL_ranked_8 : decode cL_ranked 8 = .ok (.if_icmp .ge 117, 3) := by decide +kernel
theorem dL_ranked_11 : decode cL_ranked 11 = .ok (.iconst 0, 1) := by decide +kernel
theorem dL_ranked_12 : decode cL_ranked 12 = .ok (.istore 6, 2) := by decide +kernel
theorem dL_ranked_14 : decode cL_ranked 14 = .ok (.aload_n 0, 1) := by decide +kernel
theorem dL_ranked_15 : decode cL_ranked 15 = .ok (.iload 5, 2) := by decide +kernel
theorem dL_ranked_17 : decode cL_ranked 17 = .ok (.invokestatic 22, 3) := by decide +kernel
theorem dL_ranked_20 : decode cL_ranked 20 = .ok (.iload_n 2, 1) := by decide +kernel
theorem dL_ranked_21 : decode cL_ranked 21 = .ok (.if_icmp .ne 17, 3) := by decide +kernel
theorem dL_ranked_24 : decode cL_ranked 24 = .ok (.aload_n 0, 1) := by decide +kernel
theorem dL_ranked_25 : decode cL_ranked 25 = .ok (.iload 5, 2) := by decide +kernel
theorem dL_ranked_27 : decode cL_ranked 27 = .ok (.invokestatic 25, 3) := by decide +kernel
theorem dL_ranked_30 : decode cL_ranked 30 = .ok (.iload_n 3, 1) := by decide +kernel
theorem dL_ranked_31 : decode cL_ranked 31 = .ok (.if_icmp .ne 7, 3) := by decide +kernel
theorem dL_ranked_34 : decode cL_ranked 34 = .ok (.iconst 1, 1) := by decide +kernel
theorem dL_ranked_35 : decode cL_ranked 35 = .ok (.goto 4, 3) := by decide +kernel
theorem dL_ranked_38 : decode cL_ranked 38 = .ok (.iconst 0, 1) := by decide +kernel
theorem dL_ranked_39 : decode cL_ranked 39 = .ok (.istore 7, 2) := by decide +kernel
theorem dL_ranked_41 : decode cL_ranked 41 = .ok (.iconst 0, 1) := by decide +kernel
theorem dL_ranked_42 : decode cL_ranked 42 = .ok (.istore 8, 2) := by decide +kernel
theorem dL_ranked_44 : decode cL_ranked 44 = .ok (.iload 8, 2) := by decide +kernel
theorem dL_ranked_46 : decode cL_ranked 46 = .ok (.aload_n 1, 1) := by decide +kernel
theorem dL_ranked_47 : decode cL_ranked 47 = .ok (.iconst 0, 1) := by decide +kernel
theorem dL_ranked_48 : decode cL_ranked 48 = .ok (.iaload, 1) := by decide +kernel
theorem dL_ranked_49 : decode cL_ranked 49 = .ok (.if_icmp .ge 55, 3) := by decide +kernel
theorem dL_ranked_52 : decode cL_ranked 52 = .ok (.iload 7, 2) := by decide +kernel
theorem dL_ranked_54 : decode cL_ranked 54 = .ok (.ifCond .eq 50, 3) := by decide +kernel
theorem dL_ranked_57 : decode cL_ranked 57 = .ok (.iload 6, 2) := by decide +kernel
theorem dL_ranked_59 : decode cL_ranked 59 = .ok (.aload_n 0, 1) := by decide +kernel
theorem dL_ranked_60 : decode cL_ranked 60 = .ok (.iload 8, 2) := by decide +kernel
theorem dL_ranked_62 : decode cL_ranked 62 = .ok (.invokestatic 22, 3) := by decide +kernel
theorem dL_ranked_65 : decode cL_ranked 65 = .ok (.iload_n 2, 1) := by decide +kernel
theorem dL_ranked_66 : decode cL_ranked 66 = .ok (.if_icmp .ne 28, 3) := by decide +kernel
theorem dL_ranked_69 : decode cL_ranked 69 = .ok (.aload_n 0, 1) := by decide +kernel
theorem dL_ranked_70 : decode cL_ranked 70 = .ok (.iload 8, 2) := by decide +kernel
theorem dL_ranked_72 : decode cL_ranked 72 = .ok (.invokestatic 25, 3) := by decide +kernel
theorem dL_ranked_75 : decode cL_ranked 75 = .ok (.iload_n 3, 1) := by decide +kernel
theorem dL_ranked_76 : decode cL_ranked 76 = .ok (.if_icmp .ne 18, 3) := by decide +kernel
theorem dL_ranked_79 : decode cL_ranked 79 = .ok (.aload_n 0, 1) := by decide +kernel
theorem dL_ranked_80 : decode cL_ranked 80 = .ok (.iload 8, 2) := by decide +kernel
theorem dL_ranked_82 : decode cL_ranked 82 = .ok (.iload 5, 2) := by decide +kernel
theorem dL_ranked_84 : decode cL_ranked 84 = .ok (.invokestatic 28, 3) := by decide +kernel
theorem dL_ranked_87 : decode cL_ranked 87 = .ok (.ifCond .eq 7, 3) := by decide +kernel
theorem dL_ranked_90 : decode cL_ranked 90 = .ok (.iconst 1, 1) := by decide +kernel
theorem dL_ranked_91 : decode cL_ranked 91 = .ok (.goto 4, 3) := by decide +kernel
theorem dL_ranked_94 : decode cL_ranked 94 = .ok (.iconst 0, 1) := by decide +kernel
theorem dL_ranked_95 : decode cL_ranked 95 = .ok (.iadd, 1) := by decide +kernel
theorem dL_ranked_96 : decode cL_ranked 96 = .ok (.istore 6, 2) := by decide +kernel
theorem dL_ranked_98 : decode cL_ranked 98 = .ok (.iinc 8 1, 3) := by decide +kernel
theorem dL_ranked_101 : decode cL_ranked 101 = .ok (.goto (-57), 3) := by decide +kernel
theorem dL_ranked_104 : decode cL_ranked 104 = .ok (.iload 7, 2) := by decide +kernel
theorem dL_ranked_106 : decode cL_ranked 106 = .ok (.ifCond .eq 13, 3) := by decide +kernel
theorem dL_ranked_109 : decode cL_ranked 109 = .ok (.iload 6, 2) := by decide +kernel
theorem dL_ranked_111 : decode cL_ranked 111 = .ok (.iload 4, 2) := by decide +kernel
theorem dL_ranked_113 : decode cL_ranked 113 = .ok (.if_icmp .ne 6, 3) := by decide +kernel
theorem dL_ranked_116 : decode cL_ranked 116 = .ok (.iload 5, 2) := by decide +kernel
theorem dL_ranked_118 : decode cL_ranked 118 = .ok (.ireturn, 1) := by decide +kernel
theorem dL_ranked_119 : decode cL_ranked 119 = .ok (.iinc 5 1, 3) := by decide +kernel
theorem dL_ranked_122 : decode cL_ranked 122 = .ok (.goto (-119), 3) := by decide +kernel
theorem dL_ranked_125 : decode cL_ranked 125 = .ok (.iconst (-1), 1) := by decide +kernel
theorem dL_ranked_126 : decode cL_ranked 126 = .ok (.ireturn, 1) := by decide +kernel
theorem dL_lastOf_0 : decode cL_lastOf 0 = .ok (.aload_n 0, 1) := by decide +kernel
theorem dL_lastOf_1 : decode cL_lastOf 1 = .ok (.aload_n 1, 1) := by decide +kernel
theorem dL_lastOf_2 : decode cL_lastOf 2 = .ok (.iconst 1, 1) := by decide +kernel
theorem dL_lastOf_3 : decode cL_lastOf 3 = .ok (.iload_n 2, 1) := by decide +kernel
theorem dL_lastOf_4 : decode cL_lastOf 4 = .ok (.aload_n 0, 1) := by decide +kernel
theorem dL_lastOf_5 : decode cL_lastOf 5 = .ok (.aload_n 1, 1) := by decide +kernel
theorem dL_lastOf_6 : decode cL_lastOf 6 = .ok (.iconst 1, 1) := by decide +kernel
theorem dL_lastOf_7 : decode cL_lastOf 7 = .ok (.iload_n 2, 1) := by decide +kernel
theorem dL_lastOf_8 : decode cL_lastOf 8 = .ok (.invokestatic 32, 3) := by decide +kernel
theorem dL_lastOf_11 : decode cL_lastOf 11 = .ok (.iconst 1, 1) := by decide +kernel
theorem dL_lastOf_12 : decode cL_lastOf 12 = .ok (.isub, 1) := by decide +kernel
theorem dL_lastOf_13 : decode cL_lastOf 13 = .ok (.invokestatic 36, 3) := by decide +kernel
theorem dL_lastOf_16 : decode cL_lastOf 16 = .ok (.ireturn, 1) := by decide +kernel
theorem dL_next_0 : decode cL_next 0 = .ok (.aload_n 0, 1) := by decide +kernel
theorem dL_next_1 : decode cL_next 1 = .ok (.aload_n 1, 1) := by decide +kernel
theorem dL_next_2 : decode cL_next 2 = .ok (.iconst 0, 1) := by decide +kernel
theorem dL_next_3 : decode cL_next 3 = .ok (.iconst (-1), 1) := by decide +kernel
theorem dL_next_4 : decode cL_next 4 = .ok (.invokestatic 32, 3) := by decide +kernel
theorem dL_next_7 : decode cL_next 7 = .ok (.istore_n 2, 1) := by decide +kernel
theorem dL_next_8 : decode cL_next 8 = .ok (.aload_n 1, 1) := by decide +kernel
theorem dL_next_9 : decode cL_next 9 = .ok (.iconst 2, 1) := by decide +kernel
theorem dL_next_10 : decode cL_next 10 = .ok (.iaload, 1) := by decide +kernel
theorem dL_next_11 : decode cL_next 11 = .ok (.ifCond .lt 51, 3) := by decide +kernel
theorem dL_next_14 : decode cL_next 14 = .ok (.aload_n 0, 1) := by decide +kernel
theorem dL_next_15 : decode cL_next 15 = .ok (.aload_n 1, 1) := by decide +kernel
theorem dL_next_16 : decode cL_next 16 = .ok (.aload_n 1, 1) := by decide +kernel
theorem dL_next_17 : decode cL_next 17 = .ok (.iconst 2, 1) := by decide +kernel
theorem dL_next_18 : decode cL_next 18 = .ok (.iaload, 1) := by decide +kernel
theorem dL_next_19 : decode cL_next 19 = .ok (.invokestatic 40, 3) := by decide +kernel
theorem dL_next_22 : decode cL_next 22 = .ok (.istore_n 3, 1) := by decide +kernel
theorem dL_next_23 : decode cL_next 23 = .ok (.iconst 0, 1) := by decide +kernel
theorem dL_next_24 : decode cL_next 24 = .ok (.istore 4, 2) := by decide +kernel
theorem dL_next_26 : decode cL_next 26 = .ok (.iload 4, 2) := by decide +kernel
theorem dL_next_28 : decode cL_next 28 = .ok (.iload_n 2, 1) := by decide +kernel
theorem dL_next_29 : decode cL_next 29 = .ok (.if_icmp .ge 33, 3) := by decide +kernel
theorem dL_next_32 : decode cL_next 32 = .ok (.aload_n 0, 1) := by decide +kernel
theorem dL_next_33 : decode cL_next 33 = .ok (.aload_n 1, 1) := by decide +kernel
theorem dL_next_34 : decode cL_next 34 = .ok (.iconst 0, 1) := by decide +kernel
theorem dL_next_35 : decode cL_next 35 = .ok (.iconst (-1), 1) := by decide +kernel
theorem dL_next_36 : decode cL_next 36 = .ok (.iload 4, 2) := by decide +kernel
theorem dL_next_38 : decode cL_next 38 = .ok (.invokestatic 36, 3) := by decide +kernel
theorem dL_next_41 : decode cL_next 41 = .ok (.istore 5, 2) := by decide +kernel
theorem dL_next_43 : decode cL_next 43 = .ok (.aload_n 0, 1) := by decide +kernel
theorem dL_next_44 : decode cL_next 44 = .ok (.iload_n 3, 1) := by decide +kernel
theorem dL_next_45 : decode cL_next 45 = .ok (.iload 5, 2) := by decide +kernel
theorem dL_next_47 : decode cL_next 47 = .ok (.invokestatic 28, 3) := by decide +kernel
theorem dL_next_50 : decode cL_next 50 = .ok (.ifCond .eq 6, 3) := by decide +kernel
theorem dL_next_53 : decode cL_next 53 = .ok (.iload 5, 2) := by decide +kernel
theorem dL_next_55 : decode cL_next 55 = .ok (.ireturn, 1) := by decide +kernel
theorem dL_next_56 : decode cL_next 56 = .ok (.iinc 4 1, 3) := by decide +kernel
theorem dL_next_59 : decode cL_next 59 = .ok (.goto (-33), 3) := by decide +kernel
theorem dL_next_62 : decode cL_next 62 = .ok (.iload_n 2, 1) := by decide +kernel
theorem dL_next_63 : decode cL_next 63 = .ok (.ifCond .ne 7, 3) := by decide +kernel
theorem dL_next_66 : decode cL_next 66 = .ok (.iconst (-1), 1) := by decide +kernel
theorem dL_next_67 : decode cL_next 67 = .ok (.goto 11, 3) := by decide +kernel
theorem dL_next_70 : decode cL_next 70 = .ok (.aload_n 0, 1) := by decide +kernel
theorem dL_next_71 : decode cL_next 71 = .ok (.aload_n 1, 1) := by decide +kernel
theorem dL_next_72 : decode cL_next 72 = .ok (.iconst 0, 1) := by decide +kernel
theorem dL_next_73 : decode cL_next 73 = .ok (.iconst (-1), 1) := by decide +kernel
theorem dL_next_74 : decode cL_next 74 = .ok (.iconst 0, 1) := by decide +kernel
theorem dL_next_75 : decode cL_next 75 = .ok (.invokestatic 36, 3) := by decide +kernel
theorem dL_next_78 : decode cL_next 78 = .ok (.ireturn, 1) := by decide +kernel
theorem dL_throwsOne_0 : decode cL_throwsOne 0 = .ok (.aload_n 0, 1) := by decide +kernel
theorem dL_throwsOne_1 : decode cL_throwsOne 1 = .ok (.aload_n 1, 1) := by decide +kernel
theorem dL_throwsOne_2 : decode cL_throwsOne 2 = .ok (.invokestatic 44, 3) := by decide +kernel
theorem dL_throwsOne_5 : decode cL_throwsOne 5 = .ok (.istore_n 3, 1) := by decide +kernel
theorem dL_throwsOne_6 : decode cL_throwsOne 6 = .ok (.aload_n 1, 1) := by decide +kernel
theorem dL_throwsOne_7 : decode cL_throwsOne 7 = .ok (.iconst 2, 1) := by decide +kernel
theorem dL_throwsOne_8 : decode cL_throwsOne 8 = .ok (.iaload, 1) := by decide +kernel
theorem dL_throwsOne_9 : decode cL_throwsOne 9 = .ok (.ifCond .lt 19, 3) := by decide +kernel
theorem dL_throwsOne_12 : decode cL_throwsOne 12 = .ok (.aload_n 0, 1) := by decide +kernel
theorem dL_throwsOne_13 : decode cL_throwsOne 13 = .ok (.aload_n 0, 1) := by decide +kernel
theorem dL_throwsOne_14 : decode cL_throwsOne 14 = .ok (.aload_n 1, 1) := by decide +kernel
theorem dL_throwsOne_15 : decode cL_throwsOne 15 = .ok (.aload_n 1, 1) := by decide +kernel
theorem dL_throwsOne_16 : decode cL_throwsOne 16 = .ok (.iconst 2, 1) := by decide +kernel
theorem dL_throwsOne_17 : decode cL_throwsOne 17 = .ok (.iaload, 1) := by decide +kernel
theorem dL_throwsOne_18 : decode cL_throwsOne 18 = .ok (.invokestatic 40, 3) := by decide +kernel
theorem dL_throwsOne_21 : decode cL_throwsOne 21 = .ok (.iload_n 3, 1) := by decide +kernel
theorem dL_throwsOne_22 : decode cL_throwsOne 22 = .ok (.invokestatic 28, 3) := by decide +kernel
theorem dL_throwsOne_25 : decode cL_throwsOne 25 = .ok (.ifCond .ne 22, 3) := by decide +kernel
theorem dL_throwsOne_28 : decode cL_throwsOne 28 = .ok (.aload_n 1, 1) := by decide +kernel
theorem dL_throwsOne_29 : decode cL_throwsOne 29 = .ok (.iconst 2, 1) := by decide +kernel
theorem dL_throwsOne_30 : decode cL_throwsOne 30 = .ok (.aload_n 1, 1) := by decide +kernel
theorem dL_throwsOne_31 : decode cL_throwsOne 31 = .ok (.iconst 3, 1) := by decide +kernel
theorem dL_throwsOne_32 : decode cL_throwsOne 32 = .ok (.iaload, 1) := by decide +kernel
theorem dL_throwsOne_33 : decode cL_throwsOne 33 = .ok (.iastore, 1) := by decide +kernel
theorem dL_throwsOne_34 : decode cL_throwsOne 34 = .ok (.aload_n 2, 1) := by decide +kernel
theorem dL_throwsOne_35 : decode cL_throwsOne 35 = .ok (.aload_n 1, 1) := by decide +kernel
theorem dL_throwsOne_36 : decode cL_throwsOne 36 = .ok (.iconst 3, 1) := by decide +kernel
theorem dL_throwsOne_37 : decode cL_throwsOne 37 = .ok (.iaload, 1) := by decide +kernel
theorem dL_throwsOne_38 : decode cL_throwsOne 38 = .ok (.iconst 5, 1) := by decide +kernel
theorem dL_throwsOne_39 : decode cL_throwsOne 39 = .ok (.iastore, 1) := by decide +kernel
theorem dL_throwsOne_40 : decode cL_throwsOne 40 = .ok (.aload_n 1, 1) := by decide +kernel
theorem dL_throwsOne_41 : decode cL_throwsOne 41 = .ok (.iconst 3, 1) := by decide +kernel
theorem dL_throwsOne_42 : decode cL_throwsOne 42 = .ok (.dup2, 1) := by decide +kernel
theorem dL_throwsOne_43 : decode cL_throwsOne 43 = .ok (.iaload, 1) := by decide +kernel
theorem dL_throwsOne_44 : decode cL_throwsOne 44 = .ok (.iconst 1, 1) := by decide +kernel
theorem dL_throwsOne_45 : decode cL_throwsOne 45 = .ok (.iadd, 1) := by decide +kernel
theorem dL_throwsOne_46 : decode cL_throwsOne 46 = .ok (.iastore, 1) := by decide +kernel
theorem dL_throwsOne_47 : decode cL_throwsOne 47 = .ok (.aload_n 0, 1) := by decide +kernel
theorem dL_throwsOne_48 : decode cL_throwsOne 48 = .ok (.iload_n 3, 1) := by decide +kernel
theorem dL_throwsOne_49 : decode cL_throwsOne 49 = .ok (.iconst 1, 1) := by decide +kernel
theorem dL_throwsOne_50 : decode cL_throwsOne 50 = .ok (.aload_n 1, 1) := by decide +kernel
theorem dL_throwsOne_51 : decode cL_throwsOne 51 = .ok (.iconst 2, 1) := by decide +kernel
theorem dL_throwsOne_52 : decode cL_throwsOne 52 = .ok (.iaload, 1) := by decide +kernel
theorem dL_throwsOne_53 : decode cL_throwsOne 53 = .ok (.invokestatic 48, 3) := by decide +kernel
theorem dL_throwsOne_56 : decode cL_throwsOne 56 = .ok (.aload_n 1, 1) := by decide +kernel
theorem dL_throwsOne_57 : decode cL_throwsOne 57 = .ok (.iconst 2, 1) := by decide +kernel
theorem dL_throwsOne_58 : decode cL_throwsOne 58 = .ok (.iaload, 1) := by decide +kernel
theorem dL_throwsOne_59 : decode cL_throwsOne 59 = .ok (.ireturn, 1) := by decide +kernel
theorem dL_loads_0 : decode cL_loads 0 = .ok (.aload_n 0, 1) := by decide +kernel
theorem dL_loads_1 : decode cL_loads 1 = .ok (.aload_n 1, 1) := by decide +kernel
theorem dL_loads_2 : decode cL_loads 2 = .ok (.iconst 0, 1) := by decide +kernel
theorem dL_loads_3 : decode cL_loads 3 = .ok (.iconst (-1), 1) := by decide +kernel
theorem dL_loads_4 : decode cL_loads 4 = .ok (.invokestatic 32, 3) := by decide +kernel
theorem dL_loads_7 : decode cL_loads 7 = .ok (.aload_n 1, 1) := by decide +kernel
theorem dL_loads_8 : decode cL_loads 8 = .ok (.iconst 1, 1) := by decide +kernel
theorem dL_loads_9 : decode cL_loads 9 = .ok (.iaload, 1) := by decide +kernel
theorem dL_loads_10 : decode cL_loads 10 = .ok (.if_icmp .ge 7, 3) := by decide +kernel
theorem dL_loads_13 : decode cL_loads 13 = .ok (.iconst (-1), 1) := by decide +kernel
theorem dL_loads_14 : decode cL_loads 14 = .ok (.goto 9, 3) := by decide +kernel
theorem dL_loads_17 : decode cL_loads 17 = .ok (.aload_n 0, 1) := by decide +kernel
theorem dL_loads_18 : decode cL_loads 18 = .ok (.aload_n 1, 1) := by decide +kernel
theorem dL_loads_19 : decode cL_loads 19 = .ok (.aload_n 2, 1) := by decide +kernel
theorem dL_loads_20 : decode cL_loads 20 = .ok (.invokestatic 52, 3) := by decide +kernel
theorem dL_loads_23 : decode cL_loads 23 = .ok (.istore 5, 2) := by decide +kernel
theorem dL_loads_25 : decode cL_loads 25 = .ok (.aload_n 0, 1) := by decide +kernel
theorem dL_loads_26 : decode cL_loads 26 = .ok (.aload_n 1, 1) := by decide +kernel
theorem dL_loads_27 : decode cL_loads 27 = .ok (.iconst 0, 1) := by decide +kernel
theorem dL_loads_28 : decode cL_loads 28 = .ok (.iaload, 1) := by decide +kernel
theorem dL_loads_29 : decode cL_loads 29 = .ok (.iload_n 3, 1) := by decide +kernel
theorem dL_loads_30 : decode cL_loads 30 = .ok (.iload 4, 2) := by decide +kernel
theorem dL_loads_32 : decode cL_loads 32 = .ok (.iconst 0, 1) := by decide +kernel
theorem dL_loads_33 : decode cL_loads 33 = .ok (.iconst (-1), 1) := by decide +kernel
theorem dL_loads_34 : decode cL_loads 34 = .ok (.invokestatic 18, 3) := by decide +kernel
theorem dL_loads_37 : decode cL_loads 37 = .ok (.iastore, 1) := by decide +kernel
theorem dL_loads_38 : decode cL_loads 38 = .ok (.aload_n 1, 1) := by decide +kernel
theorem dL_loads_39 : decode cL_loads 39 = .ok (.iconst 0, 1) := by decide +kernel
theorem dL_loads_40 : decode cL_loads 40 = .ok (.dup2, 1) := by decide +kernel
theorem dL_loads_41 : decode cL_loads 41 = .ok (.iaload, 1) := by decide +kernel
theorem dL_loads_42 : decode cL_loads 42 = .ok (.iconst 1, 1) := by decide +kernel
theorem dL_loads_43 : decode cL_loads 43 = .ok (.iadd, 1) := by decide +kernel
theorem dL_loads_44 : decode cL_loads 44 = .ok (.iastore, 1) := by decide +kernel
theorem dL_loads_45 : decode cL_loads 45 = .ok (.iload 5, 2) := by decide +kernel
theorem dL_loads_47 : decode cL_loads 47 = .ok (.ireturn, 1) := by decide +kernel
theorem dL_runs_0 : decode cL_runs 0 = .ok (.iconst 0, 1) := by decide +kernel
theorem dL_runs_1 : decode cL_runs 1 = .ok (.istore_n 2, 1) := by decide +kernel
theorem dL_runs_2 : decode cL_runs 2 = .ok (.iconst 0, 1) := by decide +kernel
theorem dL_runs_3 : decode cL_runs 3 = .ok (.istore_n 3, 1) := by decide +kernel
theorem dL_runs_4 : decode cL_runs 4 = .ok (.iload_n 3, 1) := by decide +kernel
theorem dL_runs_5 : decode cL_runs 5 = .ok (.aload_n 0, 1) := by decide +kernel
theorem dL_runs_6 : decode cL_runs 6 = .ok (.iconst 3, 1) := by decide +kernel
theorem dL_runs_7 : decode cL_runs 7 = .ok (.iaload, 1) := by decide +kernel
theorem dL_runs_8 : decode cL_runs 8 = .ok (.if_icmp .ge 23, 3) := by decide +kernel
theorem dL_runs_11 : decode cL_runs 11 = .ok (.iload_n 2, 1) := by decide +kernel
theorem dL_runs_12 : decode cL_runs 12 = .ok (.aload_n 1, 1) := by decide +kernel
theorem dL_runs_13 : decode cL_runs 13 = .ok (.iload_n 3, 1) := by decide +kernel
theorem dL_runs_14 : decode cL_runs 14 = .ok (.iaload, 1) := by decide +kernel
theorem dL_runs_15 : decode cL_runs 15 = .ok (.ifCond .lt 7, 3) := by decide +kernel
theorem dL_runs_18 : decode cL_runs 18 = .ok (.iconst 1, 1) := by decide +kernel
theorem dL_runs_19 : decode cL_runs 19 = .ok (.goto 4, 3) := by decide +kernel
theorem dL_runs_22 : decode cL_runs 22 = .ok (.iconst 0, 1) := by decide +kernel
theorem dL_runs_23 : decode cL_runs 23 = .ok (.iadd, 1) := by decide +kernel
theorem dL_runs_24 : decode cL_runs 24 = .ok (.istore_n 2, 1) := by decide +kernel
theorem dL_runs_25 : decode cL_runs 25 = .ok (.iinc 3 1, 3) := by decide +kernel
theorem dL_runs_28 : decode cL_runs 28 = .ok (.goto (-24), 3) := by decide +kernel
theorem dL_runs_31 : decode cL_runs 31 = .ok (.iload_n 2, 1) := by decide +kernel
theorem dL_runs_32 : decode cL_runs 32 = .ok (.ireturn, 1) := by decide +kernel
theorem dL_runBy_0 : decode cL_runBy 0 = .ok (.iconst 0, 1) := by decide +kernel
theorem dL_runBy_1 : decode cL_runBy 1 = .ok (.istore_n 3, 1) := by decide +kernel
theorem dL_runBy_2 : decode cL_runBy 2 = .ok (.iconst 0, 1) := by decide +kernel
theorem dL_runBy_3 : decode cL_runBy 3 = .ok (.istore 4, 2) := by decide +kernel
theorem dL_runBy_5 : decode cL_runBy 5 = .ok (.iload 4, 2) := by decide +kernel
theorem dL_runBy_7 : decode cL_runBy 7 = .ok (.aload_n 0, 1) := by decide +kernel
theorem dL_runBy_8 : decode cL_runBy 8 = .ok (.iconst 3, 1) := by decide +kernel
theorem dL_runBy_9 : decode cL_runBy 9 = .ok (.iaload, 1) := by decide +kernel
theorem dL_runBy_10 : decode cL_runBy 10 = .ok (.if_icmp .ge 27, 3) := by decide +kernel
theorem dL_runBy_13 : decode cL_runBy 13 = .ok (.aload_n 1, 1) := by decide +kernel
theorem dL_runBy_14 : decode cL_runBy 14 = .ok (.iload 4, 2) := by decide +kernel
theorem dL_runBy_16 : decode cL_runBy 16 = .ok (.iaload, 1) := by decide +kernel
theorem dL_runBy_17 : decode cL_runBy 17 = .ok (.ifCond .lt 14, 3) := by decide +kernel
theorem dL_runBy_20 : decode cL_runBy 20 = .ok (.iload_n 3, 1) := by decide +kernel
theorem dL_runBy_21 : decode cL_runBy 21 = .ok (.iload_n 2, 1) := by decide +kernel
theorem dL_runBy_22 : decode cL_runBy 22 = .ok (.if_icmp .ne 6, 3) := by decide +kernel
theorem dL_runBy_25 : decode cL_runBy 25 = .ok (.iload 4, 2) := by decide +kernel
theorem dL_runBy_27 : decode cL_runBy 27 = .ok (.ireturn, 1) := by decide +kernel
theorem dL_runBy_28 : decode cL_runBy 28 = .ok (.iinc 3 1, 3) := by decide +kernel
theorem dL_runBy_31 : decode cL_runBy 31 = .ok (.iinc 4 1, 3) := by decide +kernel
theorem dL_runBy_34 : decode cL_runBy 34 = .ok (.goto (-29), 3) := by decide +kernel
theorem dL_runBy_37 : decode cL_runBy 37 = .ok (.iconst (-1), 1) := by decide +kernel
theorem dL_runBy_38 : decode cL_runBy 38 = .ok (.ireturn, 1) := by decide +kernel
theorem dL_empties_0 : decode cL_empties 0 = .ok (.aload_n 0, 1) := by decide +kernel
theorem dL_empties_1 : decode cL_empties 1 = .ok (.aload_n 1, 1) := by decide +kernel
theorem dL_empties_2 : decode cL_empties 2 = .ok (.iconst 0, 1) := by decide +kernel
theorem dL_empties_3 : decode cL_empties 3 = .ok (.iconst (-1), 1) := by decide +kernel
theorem dL_empties_4 : decode cL_empties 4 = .ok (.invokestatic 32, 3) := by decide +kernel
theorem dL_empties_7 : decode cL_empties 7 = .ok (.istore_n 3, 1) := by decide +kernel
theorem dL_empties_8 : decode cL_empties 8 = .ok (.iload_n 3, 1) := by decide +kernel
theorem dL_empties_9 : decode cL_empties 9 = .ok (.ifCond .le 16, 3) := by decide +kernel
theorem dL_empties_12 : decode cL_empties 12 = .ok (.aload_n 0, 1) := by decide +kernel
theorem dL_empties_13 : decode cL_empties 13 = .ok (.aload_n 1, 1) := by decide +kernel
theorem dL_empties_14 : decode cL_empties 14 = .ok (.aload_n 2, 1) := by decide +kernel
theorem dL_empties_15 : decode cL_empties 15 = .ok (.invokestatic 52, 3) := by decide +kernel
theorem dL_empties_18 : decode cL_empties 18 = .ok (.pop, 1) := by decide +kernel
theorem dL_empties_19 : decode cL_empties 19 = .ok (.iinc 3 (-1), 3) := by decide +kernel
theorem dL_empties_22 : decode cL_empties 22 = .ok (.goto (-14), 3) := by decide +kernel
theorem dL_empties_25 : decode cL_empties 25 = .ok (.aload_n 1, 1) := by decide +kernel
theorem dL_empties_26 : decode cL_empties 26 = .ok (.iconst 2, 1) := by decide +kernel
theorem dL_empties_27 : decode cL_empties 27 = .ok (.iconst (-1), 1) := by decide +kernel
theorem dL_empties_28 : decode cL_empties 28 = .ok (.iastore, 1) := by decide +kernel
theorem dL_empties_29 : decode cL_empties 29 = .ok (.return_, 1) := by decide +kernel
theorem dL_merges_0 : decode cL_merges 0 = .ok (.iload_n 3, 1) := by decide +kernel
theorem dL_merges_1 : decode cL_merges 1 = .ok (.iload 4, 2) := by decide +kernel
theorem dL_merges_3 : decode cL_merges 3 = .ok (.if_icmp .ge 7, 3) := by decide +kernel
theorem dL_merges_6 : decode cL_merges 6 = .ok (.iload_n 3, 1) := by decide +kernel
theorem dL_merges_7 : decode cL_merges 7 = .ok (.goto 5, 3) := by decide +kernel
theorem dL_merges_10 : decode cL_merges 10 = .ok (.iload 4, 2) := by decide +kernel
theorem dL_merges_12 : decode cL_merges 12 = .ok (.istore 5, 2) := by decide +kernel
theorem dL_merges_14 : decode cL_merges 14 = .ok (.iload_n 3, 1) := by decide +kernel
theorem dL_merges_15 : decode cL_merges 15 = .ok (.iload 4, 2) := by decide +kernel
theorem dL_merges_17 : decode cL_merges 17 = .ok (.iadd, 1) := by decide +kernel
theorem dL_merges_18 : decode cL_merges 18 = .ok (.iload 5, 2) := by decide +kernel
theorem dL_merges_20 : decode cL_merges 20 = .ok (.isub, 1) := by decide +kernel
theorem dL_merges_21 : decode cL_merges 21 = .ok (.istore 6, 2) := by decide +kernel
theorem dL_merges_23 : decode cL_merges 23 = .ok (.aload_n 0, 1) := by decide +kernel
theorem dL_merges_24 : decode cL_merges 24 = .ok (.aload_n 1, 1) := by decide +kernel
theorem dL_merges_25 : decode cL_merges 25 = .ok (.iload_n 3, 1) := by decide +kernel
theorem dL_merges_26 : decode cL_merges 26 = .ok (.invokestatic 56, 3) := by decide +kernel
theorem dL_merges_29 : decode cL_merges 29 = .ok (.aload_n 0, 1) := by decide +kernel
theorem dL_merges_30 : decode cL_merges 30 = .ok (.aload_n 1, 1) := by decide +kernel
theorem dL_merges_31 : decode cL_merges 31 = .ok (.iload 4, 2) := by decide +kernel
theorem dL_merges_33 : decode cL_merges 33 = .ok (.invokestatic 56, 3) := by decide +kernel
theorem dL_merges_36 : decode cL_merges 36 = .ok (.iadd, 1) := by decide +kernel
theorem dL_merges_37 : decode cL_merges 37 = .ok (.istore 7, 2) := by decide +kernel
theorem dL_merges_39 : decode cL_merges 39 = .ok (.iconst 0, 1) := by decide +kernel
theorem dL_merges_40 : decode cL_merges 40 = .ok (.istore 8, 2) := by decide +kernel
theorem dL_merges_42 : decode cL_merges 42 = .ok (.iload 8, 2) := by decide +kernel
theorem dL_merges_44 : decode cL_merges 44 = .ok (.aload_n 1, 1) := by decide +kernel
theorem dL_merges_45 : decode cL_merges 45 = .ok (.iconst 0, 1) := by decide +kernel
theorem dL_merges_46 : decode cL_merges 46 = .ok (.iaload, 1) := by decide +kernel
theorem dL_merges_47 : decode cL_merges 47 = .ok (.if_icmp .ge 39, 3) := by decide +kernel
theorem dL_merges_50 : decode cL_merges 50 = .ok (.aload_n 0, 1) := by decide +kernel
theorem dL_merges_51 : decode cL_merges 51 = .ok (.iload 8, 2) := by decide +kernel
theorem dL_merges_53 : decode cL_merges 53 = .ok (.invokestatic 22, 3) := by decide +kernel
theorem dL_merges_56 : decode cL_merges 56 = .ok (.iconst 1, 1) := by decide +kernel
theorem dL_merges_57 : decode cL_merges 57 = .ok (.if_icmp .ne 23, 3) := by decide +kernel
theorem dL_merges_60 : decode cL_merges 60 = .ok (.aload_n 0, 1) := by decide +kernel
theorem dL_merges_61 : decode cL_merges 61 = .ok (.iload 8, 2) := by decide +kernel
theorem dL_merges_63 : decode cL_merges 63 = .ok (.invokestatic 25, 3) := by decide +kernel
theorem dL_merges_66 : decode cL_merges 66 = .ok (.iload 6, 2) := by decide +kernel
theorem dL_merges_68 : decode cL_merges 68 = .ok (.if_icmp .ne 12, 3) := by decide +kernel
theorem dL_merges_71 : decode cL_merges 71 = .ok (.aload_n 0, 1) := by decide +kernel
theorem dL_merges_72 : decode cL_merges 72 = .ok (.iload 8, 2) := by decide +kernel
theorem dL_merges_74 : decode cL_merges 74 = .ok (.iconst 1, 1) := by decide +kernel
theorem dL_merges_75 : decode cL_merges 75 = .ok (.iload 5, 2) := by decide +kernel
theorem dL_merges_77 : decode cL_merges 77 = .ok (.invokestatic 48, 3) := by decide +kernel
theorem dL_merges_80 : decode cL_merges 80 = .ok (.iinc 8 1, 3) := by decide +kernel
theorem dL_merges_83 : decode cL_merges 83 = .ok (.goto (-41), 3) := by decide +kernel
theorem dL_merges_86 : decode cL_merges 86 = .ok (.aload_n 2, 1) := by decide +kernel
theorem dL_merges_87 : decode cL_merges 87 = .ok (.iload 6, 2) := by decide +kernel
theorem dL_merges_89 : decode cL_merges 89 = .ok (.iconst (-1), 1) := by decide +kernel
theorem dL_merges_90 : decode cL_merges 90 = .ok (.iastore, 1) := by decide +kernel
theorem dL_merges_91 : decode cL_merges 91 = .ok (.aload_n 1, 1) := by decide +kernel
theorem dL_merges_92 : decode cL_merges 92 = .ok (.iconst 2, 1) := by decide +kernel
theorem dL_merges_93 : decode cL_merges 93 = .ok (.aload_n 1, 1) := by decide +kernel
theorem dL_merges_94 : decode cL_merges 94 = .ok (.iconst 2, 1) := by decide +kernel
theorem dL_merges_95 : decode cL_merges 95 = .ok (.iaload, 1) := by decide +kernel
theorem dL_merges_96 : decode cL_merges 96 = .ok (.iload_n 3, 1) := by decide +kernel
theorem dL_merges_97 : decode cL_merges 97 = .ok (.if_icmp .eq 11, 3) := by decide +kernel
theorem dL_merges_100 : decode cL_merges 100 = .ok (.aload_n 1, 1) := by decide +kernel
theorem dL_merges_101 : decode cL_merges 101 = .ok (.iconst 2, 1) := by decide +kernel
theorem dL_merges_102 : decode cL_merges 102 = .ok (.iaload, 1) := by decide +kernel
theorem dL_merges_103 : decode cL_merges 103 = .ok (.iload 4, 2) := by decide +kernel
theorem dL_merges_105 : decode cL_merges 105 = .ok (.if_icmp .ne 7, 3) := by decide +kernel
theorem dL_merges_108 : decode cL_merges 108 = .ok (.iconst (-1), 1) := by decide +kernel
theorem dL_merges_109 : decode cL_merges 109 = .ok (.goto 6, 3) := by decide +kernel
theorem dL_merges_112 : decode cL_merges 112 = .ok (.aload_n 1, 1) := by decide +kernel
theorem dL_merges_113 : decode cL_merges 113 = .ok (.iconst 2, 1) := by decide +kernel
theorem dL_merges_114 : decode cL_merges 114 = .ok (.iaload, 1) := by decide +kernel
theorem dL_merges_115 : decode cL_merges 115 = .ok (.iastore, 1) := by decide +kernel
theorem dL_merges_116 : decode cL_merges 116 = .ok (.aload_n 1, 1) := by decide +kernel
theorem dL_merges_117 : decode cL_merges 117 = .ok (.iconst 4, 1) := by decide +kernel
theorem dL_merges_118 : decode cL_merges 118 = .ok (.dup2, 1) := by decide +kernel
theorem dL_merges_119 : decode cL_merges 119 = .ok (.iaload, 1) := by decide +kernel
theorem dL_merges_120 : decode cL_merges 120 = .ok (.iload 7, 2) := by decide +kernel
theorem dL_merges_122 : decode cL_merges 122 = .ok (.iadd, 1) := by decide +kernel
theorem dL_merges_123 : decode cL_merges 123 = .ok (.iastore, 1) := by decide +kernel
theorem dL_merges_124 : decode cL_merges 124 = .ok (.aload_n 1, 1) := by decide +kernel
theorem dL_merges_125 : decode cL_merges 125 = .ok (.iconst 5, 1) := by decide +kernel
theorem dL_merges_126 : decode cL_merges 126 = .ok (.dup2, 1) := by decide +kernel
theorem dL_merges_127 : decode cL_merges 127 = .ok (.iaload, 1) := by decide +kernel
theorem dL_merges_128 : decode cL_merges 128 = .ok (.iconst 1, 1) := by decide +kernel
theorem dL_merges_129 : decode cL_merges 129 = .ok (.iadd, 1) := by decide +kernel
theorem dL_merges_130 : decode cL_merges 130 = .ok (.iastore, 1) := by decide +kernel
theorem dL_merges_131 : decode cL_merges 131 = .ok (.iload 7, 2) := by decide +kernel
theorem dL_merges_133 : decode cL_merges 133 = .ok (.ireturn, 1) := by decide +kernel
theorem dL_lightest_0 : decode cL_lightest 0 = .ok (.iconst (-1), 1) := by decide +kernel
theorem dL_lightest_1 : decode cL_lightest 1 = .ok (.istore 4, 2) := by decide +kernel
theorem dL_lightest_3 : decode cL_lightest 3 = .ok (.iconst 0, 1) := by decide +kernel
theorem dL_lightest_4 : decode cL_lightest 4 = .ok (.istore 5, 2) := by decide +kernel
theorem dL_lightest_6 : decode cL_lightest 6 = .ok (.iload 5, 2) := by decide +kernel
theorem dL_lightest_8 : decode cL_lightest 8 = .ok (.aload_n 1, 1) := by decide +kernel
theorem dL_lightest_9 : decode cL_lightest 9 = .ok (.iconst 3, 1) := by decide +kernel
theorem dL_lightest_10 : decode cL_lightest 10 = .ok (.iaload, 1) := by decide +kernel
theorem dL_lightest_11 : decode cL_lightest 11 = .ok (.if_icmp .ge 53, 3) := by decide +kernel
theorem dL_lightest_14 : decode cL_lightest 14 = .ok (.aload_n 2, 1) := by decide +kernel
theorem dL_lightest_15 : decode cL_lightest 15 = .ok (.iload 5, 2) := by decide +kernel
theorem dL_lightest_17 : decode cL_lightest 17 = .ok (.iaload, 1) := by decide +kernel
theorem dL_lightest_18 : decode cL_lightest 18 = .ok (.ifCond .lt 36, 3) := by decide +kernel
theorem dL_lightest_21 : decode cL_lightest 21 = .ok (.iload 5, 2) := by decide +kernel
theorem dL_lightest_23 : decode cL_lightest 23 = .ok (.iload_n 3, 1) := by decide +kernel
theorem dL_lightest_24 : decode cL_lightest 24 = .ok (.if_icmp .eq 30, 3) := by decide +kernel
theorem dL_lightest_27 : decode cL_lightest 27 = .ok (.iload 4, 2) := by decide +kernel
theorem dL_lightest_29 : decode cL_lightest 29 = .ok (.ifCond .lt 20, 3) := by decide +kernel
theorem dL_lightest_32 : decode cL_lightest 32 = .ok (.aload_n 0, 1) := by decide +kernel
theorem dL_lightest_33 : decode cL_lightest 33 = .ok (.aload_n 1, 1) := by decide +kernel
theorem dL_lightest_34 : decode cL_lightest 34 = .ok (.iload 5, 2) := by decide +kernel
theorem dL_lightest_36 : decode cL_lightest 36 = .ok (.invokestatic 56, 3) := by decide +kernel
theorem dL_lightest_39 : decode cL_lightest 39 = .ok (.aload_n 0, 1) := by decide +kernel
theorem dL_lightest_40 : decode cL_lightest 40 = .ok (.aload_n 1, 1) := by decide +kernel
theorem dL_lightest_41 : decode cL_lightest 41 = .ok (.iload 4, 2) := by decide +kernel
theorem dL_lightest_43 : decode cL_lightest 43 = .ok (.invokestatic 56, 3) := by decide +kernel
theorem dL_lightest_46 : decode cL_lightest 46 = .ok (.if_icmp .ge 8, 3) := by decide +kernel
theorem dL_lightest_49 : decode cL_lightest 49 = .ok (.iload 5, 2) := by decide +kernel
theorem dL_lightest_51 : decode cL_lightest 51 = .ok (.goto 5, 3) := by decide +kernel
theorem dL_lightest_54 : decode cL_lightest 54 = .ok (.iload 4, 2) := by decide +kernel
theorem dL_lightest_56 : decode cL_lightest 56 = .ok (.istore 4, 2) := by decide +kernel
theorem dL_lightest_58 : decode cL_lightest 58 = .ok (.iinc 5 1, 3) := by decide +kernel
theorem dL_lightest_61 : decode cL_lightest 61 = .ok (.goto (-55), 3) := by decide +kernel
theorem dL_lightest_64 : decode cL_lightest 64 = .ok (.iload 4, 2) := by decide +kernel
theorem dL_lightest_66 : decode cL_lightest 66 = .ok (.ireturn, 1) := by decide +kernel
theorem dL_storms_0 : decode cL_storms 0 = .ok (.aload_n 1, 1) := by decide +kernel
theorem dL_storms_1 : decode cL_storms 1 = .ok (.iconst 3, 1) := by decide +kernel
theorem dL_storms_2 : decode cL_storms 2 = .ok (.iaload, 1) := by decide +kernel
theorem dL_storms_3 : decode cL_storms 3 = .ok (.istore 4, 2) := by decide +kernel
theorem dL_storms_5 : decode cL_storms 5 = .ok (.iconst 0, 1) := by decide +kernel
theorem dL_storms_6 : decode cL_storms 6 = .ok (.istore 5, 2) := by decide +kernel
theorem dL_storms_8 : decode cL_storms 8 = .ok (.iconst 0, 1) := by decide +kernel
theorem dL_storms_9 : decode cL_storms 9 = .ok (.istore 6, 2) := by decide +kernel
theorem dL_storms_11 : decode cL_storms 11 = .ok (.iload 6, 2) := by decide +kernel
theorem dL_storms_13 : decode cL_storms 13 = .ok (.iload 4, 2) := by decide +kernel
theorem dL_storms_15 : decode cL_storms 15 = .ok (.if_icmp .ge 101, 3) := by decide +kernel
theorem dL_storms_18 : decode cL_storms 18 = .ok (.aload_n 2, 1) := by decide +kernel
theorem dL_storms_19 : decode cL_storms 19 = .ok (.iload 6, 2) := by decide +kernel
theorem dL_storms_21 : decode cL_storms 21 = .ok (.iaload, 1) := by decide +kernel
theorem dL_storms_22 : decode cL_storms 22 = .ok (.ifCond .lt 11, 3) := by decide +kernel
theorem dL_storms_25 : decode cL_storms 25 = .ok (.aload_n 2, 1) := by decide +kernel
theorem dL_storms_26 : decode cL_storms 26 = .ok (.iload 6, 2) := by decide +kernel
theorem dL_storms_28 : decode cL_storms 28 = .ok (.iaload, 1) := by decide +kernel
theorem dL_storms_29 : decode cL_storms 29 = .ok (.iload_n 3, 1) := by decide +kernel
theorem dL_storms_30 : decode cL_storms 30 = .ok (.if_icmp .lt 7, 3) := by decide +kernel
theorem dL_storms_33 : decode cL_storms 33 = .ok (.iconst 0, 1) := by decide +kernel
theorem dL_storms_34 : decode cL_storms 34 = .ok (.goto 11, 3) := by decide +kernel
theorem dL_storms_37 : decode cL_storms 37 = .ok (.aload_n 0, 1) := by decide +kernel
theorem dL_storms_38 : decode cL_storms 38 = .ok (.aload_n 1, 1) := by decide +kernel
theorem dL_storms_39 : decode cL_storms 39 = .ok (.iconst 1, 1) := by decide +kernel
theorem dL_storms_40 : decode cL_storms 40 = .ok (.iload 6, 2) := by decide +kernel
theorem dL_storms_42 : decode cL_storms 42 = .ok (.invokestatic 32, 3) := by decide +kernel
theorem dL_storms_45 : decode cL_storms 45 = .ok (.istore 7, 2) := by decide +kernel
theorem dL_storms_47 : decode cL_storms 47 = .ok (.iload 7, 2) := by decide +kernel
theorem dL_storms_49 : decode cL_storms 49 = .ok (.iconst 1, 1) := by decide +kernel
theorem dL_storms_50 : decode cL_storms 50 = .ok (.if_icmp .le 60, 3) := by decide +kernel
theorem dL_storms_53 : decode cL_storms 53 = .ok (.aload_n 2, 1) := by decide +kernel
theorem dL_storms_54 : decode cL_storms 54 = .ok (.aload_n 1, 1) := by decide +kernel
theorem dL_storms_55 : decode cL_storms 55 = .ok (.iconst 3, 1) := by decide +kernel
theorem dL_storms_56 : decode cL_storms 56 = .ok (.iaload, 1) := by decide +kernel
theorem dL_storms_57 : decode cL_storms 57 = .ok (.iconst 5, 1) := by decide +kernel
theorem dL_storms_58 : decode cL_storms 58 = .ok (.iastore, 1) := by decide +kernel
theorem dL_storms_59 : decode cL_storms 59 = .ok (.iinc 5 1, 3) := by decide +kernel
theorem dL_storms_62 : decode cL_storms 62 = .ok (.iload 7, 2) := by decide +kernel
theorem dL_storms_64 : decode cL_storms 64 = .ok (.iconst 1, 1) := by decide +kernel
theorem dL_storms_65 : decode cL_storms 65 = .ok (.isub, 1) := by decide +kernel
theorem dL_storms_66 : decode cL_storms 66 = .ok (.istore 8, 2) := by decide +kernel
theorem dL_storms_68 : decode cL_storms 68 = .ok (.iload 8, 2) := by decide +kernel
theorem dL_storms_70 : decode cL_storms 70 = .ok (.iload 7, 2) := by decide +kernel
theorem dL_storms_72 : decode cL_storms 72 = .ok (.iconst 1, 1) := by decide +kernel
theorem dL_storms_73 : decode cL_storms 73 = .ok (.iadd, 1) := by decide +kernel
theorem dL_storms_74 : decode cL_storms 74 = .ok (.iconst 2, 1) := by decide +kernel
theorem dL_storms_75 : decode cL_storms 75 = .ok (.idiv, 1) := by decide +kernel
theorem dL_storms_76 : decode cL_storms 76 = .ok (.if_icmp .lt 27, 3) := by decide +kernel
theorem dL_storms_79 : decode cL_storms 79 = .ok (.aload_n 0, 1) := by decide +kernel
theorem dL_storms_80 : decode cL_storms 80 = .ok (.aload_n 0, 1) := by decide +kernel
theorem dL_storms_81 : decode cL_storms 81 = .ok (.aload_n 1, 1) := by decide +kernel
theorem dL_storms_82 : decode cL_storms 82 = .ok (.iconst 1, 1) := by decide +kernel
theorem dL_storms_83 : decode cL_storms 83 = .ok (.iload 6, 2) := by decide +kernel
theorem dL_storms_85 : decode cL_storms 85 = .ok (.iload 8, 2) := by decide +kernel
theorem dL_storms_87 : decode cL_storms 87 = .ok (.invokestatic 36, 3) := by decide +kernel
theorem dL_storms_90 : decode cL_storms 90 = .ok (.iconst 1, 1) := by decide +kernel
theorem dL_storms_91 : decode cL_storms 91 = .ok (.aload_n 1, 1) := by decide +kernel
theorem dL_storms_92 : decode cL_storms 92 = .ok (.iconst 3, 1) := by decide +kernel
theorem dL_storms_93 : decode cL_storms 93 = .ok (.iaload, 1) := by decide +kernel
theorem dL_storms_94 : decode cL_storms 94 = .ok (.invokestatic 48, 3) := by decide +kernel
theorem dL_storms_97 : decode cL_storms 97 = .ok (.iinc 8 (-1), 3) := by decide +kernel
theorem dL_storms_100 : decode cL_storms 100 = .ok (.goto (-32), 3) := by decide +kernel
theorem dL_storms_103 : decode cL_storms 103 = .ok (.aload_n 1, 1) := by decide +kernel
theorem dL_storms_104 : decode cL_storms 104 = .ok (.iconst 3, 1) := by decide +kernel
theorem dL_storms_105 : decode cL_storms 105 = .ok (.dup2, 1) := by decide +kernel
theorem dL_storms_106 : decode cL_storms 106 = .ok (.iaload, 1) := by decide +kernel
theorem dL_storms_107 : decode cL_storms 107 = .ok (.iconst 1, 1) := by decide +kernel
theorem dL_storms_108 : decode cL_storms 108 = .ok (.iadd, 1) := by decide +kernel
theorem dL_storms_109 : decode cL_storms 109 = .ok (.iastore, 1) := by decide +kernel
theorem dL_storms_110 : decode cL_storms 110 = .ok (.iinc 6 1, 3) := by decide +kernel
theorem dL_storms_113 : decode cL_storms 113 = .ok (.goto (-102), 3) := by decide +kernel
theorem dL_storms_116 : decode cL_storms 116 = .ok (.iconst 0, 1) := by decide +kernel
theorem dL_storms_117 : decode cL_storms 117 = .ok (.istore 6, 2) := by decide +kernel
theorem dL_storms_119 : decode cL_storms 119 = .ok (.iload 6, 2) := by decide +kernel
theorem dL_storms_121 : decode cL_storms 121 = .ok (.iload 4, 2) := by decide +kernel
theorem dL_storms_123 : decode cL_storms 123 = .ok (.if_icmp .ge 33, 3) := by decide +kernel
theorem dL_storms_126 : decode cL_storms 126 = .ok (.aload_n 2, 1) := by decide +kernel
theorem dL_storms_127 : decode cL_storms 127 = .ok (.iload 6, 2) := by decide +kernel
theorem dL_storms_129 : decode cL_storms 129 = .ok (.aload_n 2, 1) := by decide +kernel
theorem dL_storms_130 : decode cL_storms 130 = .ok (.iload 6, 2) := by decide +kernel
theorem dL_storms_132 : decode cL_storms 132 = .ok (.iaload, 1) := by decide +kernel
theorem dL_storms_133 : decode cL_storms 133 = .ok (.ifCond .le 12, 3) := by decide +kernel
theorem dL_storms_136 : decode cL_storms 136 = .ok (.aload_n 2, 1) := by decide +kernel
theorem dL_storms_137 : decode cL_storms 137 = .ok (.iload 6, 2) := by decide +kernel
theorem dL_storms_139 : decode cL_storms 139 = .ok (.iaload, 1) := by decide +kernel
theorem dL_storms_140 : decode cL_storms 140 = .ok (.iconst 1, 1) := by decide +kernel
theorem dL_storms_141 : decode cL_storms 141 = .ok (.isub, 1) := by decide +kernel
theorem dL_storms_142 : decode cL_storms 142 = .ok (.goto 7, 3) := by decide +kernel
theorem dL_storms_145 : decode cL_storms 145 = .ok (.aload_n 2, 1) := by decide +kernel
theorem dL_storms_146 : decode cL_storms 146 = .ok (.iload 6, 2) := by decide +kernel
theorem dL_storms_148 : decode cL_storms 148 = .ok (.iaload, 1) := by decide +kernel
theorem dL_storms_149 : decode cL_storms 149 = .ok (.iastore, 1) := by decide +kernel
theorem dL_storms_150 : decode cL_storms 150 = .ok (.iinc 6 1, 3) := by decide +kernel
theorem dL_storms_153 : decode cL_storms 153 = .ok (.goto (-34), 3) := by decide +kernel
theorem dL_storms_156 : decode cL_storms 156 = .ok (.aload_n 1, 1) := by decide +kernel
theorem dL_storms_157 : decode cL_storms 157 = .ok (.iconst 2, 1) := by decide +kernel
theorem dL_storms_158 : decode cL_storms 158 = .ok (.iconst (-1), 1) := by decide +kernel
theorem dL_storms_159 : decode cL_storms 159 = .ok (.iastore, 1) := by decide +kernel
theorem dL_storms_160 : decode cL_storms 160 = .ok (.aload_n 1, 1) := by decide +kernel
theorem dL_storms_161 : decode cL_storms 161 = .ok (.bipush 6, 2) := by decide +kernel
theorem dL_storms_163 : decode cL_storms 163 = .ok (.dup2, 1) := by decide +kernel
theorem dL_storms_164 : decode cL_storms 164 = .ok (.iaload, 1) := by decide +kernel
theorem dL_storms_165 : decode cL_storms 165 = .ok (.iconst 1, 1) := by decide +kernel
theorem dL_storms_166 : decode cL_storms 166 = .ok (.iadd, 1) := by decide +kernel
theorem dL_storms_167 : decode cL_storms 167 = .ok (.iastore, 1) := by decide +kernel
theorem dL_storms_168 : decode cL_storms 168 = .ok (.aload_n 1, 1) := by decide +kernel
theorem dL_storms_169 : decode cL_storms 169 = .ok (.bipush 7, 2) := by decide +kernel
theorem dL_storms_171 : decode cL_storms 171 = .ok (.dup2, 1) := by decide +kernel
theorem dL_storms_172 : decode cL_storms 172 = .ok (.iaload, 1) := by decide +kernel
theorem dL_storms_173 : decode cL_storms 173 = .ok (.iload 5, 2) := by decide +kernel
theorem dL_storms_175 : decode cL_storms 175 = .ok (.iadd, 1) := by decide +kernel
theorem dL_storms_176 : decode cL_storms 176 = .ok (.iastore, 1) := by decide +kernel
theorem dL_storms_177 : decode cL_storms 177 = .ok (.iload 5, 2) := by decide +kernel
theorem dL_storms_179 : decode cL_storms 179 = .ok (.ireturn, 1) := by decide +kernel
theorem dL_load_0 : decode cL_load 0 = .ok (.aload_n 3, 1) := by decide +kernel
theorem dL_load_1 : decode cL_load 1 = .ok (.iconst 0, 1) := by decide +kernel
theorem dL_load_2 : decode cL_load 2 = .ok (.aload_n 0, 1) := by decide +kernel
theorem dL_load_3 : decode cL_load 3 = .ok (.iload_n 1, 1) := by decide +kernel
theorem dL_load_4 : decode cL_load 4 = .ok (.iload_n 2, 1) := by decide +kernel
theorem dL_load_5 : decode cL_load 5 = .ok (.invokevirtual 59, 3) := by decide +kernel
theorem dL_load_8 : decode cL_load 8 = .ok (.iastore, 1) := by decide +kernel
theorem dL_load_9 : decode cL_load 9 = .ok (.goto 11, 3) := by decide +kernel
theorem dL_load_12 : decode cL_load 12 = .ok (.astore 4, 2) := by decide +kernel
theorem dL_load_14 : decode cL_load 14 = .ok (.iconst 1, 1) := by decide +kernel
theorem dL_load_15 : decode cL_load 15 = .ok (.ireturn, 1) := by decide +kernel
theorem dL_load_16 : decode cL_load 16 = .ok (.astore 4, 2) := by decide +kernel
theorem dL_load_18 : decode cL_load 18 = .ok (.iconst 2, 1) := by decide +kernel
theorem dL_load_19 : decode cL_load 19 = .ok (.ireturn, 1) := by decide +kernel
theorem dL_load_20 : decode cL_load 20 = .ok (.iconst 0, 1) := by decide +kernel
theorem dL_load_21 : decode cL_load 21 = .ok (.ireturn, 1) := by decide +kernel
theorem dL_merge_0 : decode cL_merge 0 = .ok (.aload_n 3, 1) := by decide +kernel
theorem dL_merge_1 : decode cL_merge 1 = .ok (.iconst 0, 1) := by decide +kernel
theorem dL_merge_2 : decode cL_merge 2 = .ok (.aload_n 0, 1) := by decide +kernel
theorem dL_merge_3 : decode cL_merge 3 = .ok (.iload_n 1, 1) := by decide +kernel
theorem dL_merge_4 : decode cL_merge 4 = .ok (.iload_n 2, 1) := by decide +kernel
theorem dL_merge_5 : decode cL_merge 5 = .ok (.invokevirtual 69, 3) := by decide +kernel
theorem dL_merge_8 : decode cL_merge 8 = .ok (.iastore, 1) := by decide +kernel
theorem dL_merge_9 : decode cL_merge 9 = .ok (.goto 11, 3) := by decide +kernel
theorem dL_merge_12 : decode cL_merge 12 = .ok (.astore 4, 2) := by decide +kernel
theorem dL_merge_14 : decode cL_merge 14 = .ok (.iconst 1, 1) := by decide +kernel
theorem dL_merge_15 : decode cL_merge 15 = .ok (.ireturn, 1) := by decide +kernel
theorem dL_merge_16 : decode cL_merge 16 = .ok (.astore 4, 2) := by decide +kernel
theorem dL_merge_18 : decode cL_merge 18 = .ok (.iconst 2, 1) := by decide +kernel
theorem dL_merge_19 : decode cL_merge 19 = .ok (.ireturn, 1) := by decide +kernel
theorem dL_merge_20 : decode cL_merge 20 = .ok (.iconst 0, 1) := by decide +kernel
theorem dL_merge_21 : decode cL_merge 21 = .ok (.ireturn, 1) := by decide +kernel
theorem dL_mergeLightest_0 : decode cL_mergeLightest 0 = .ok (.aload_n 1, 1) := by decide +kernel
theorem dL_mergeLightest_1 : decode cL_mergeLightest 1 = .ok (.iconst 0, 1) := by decide +kernel
theorem dL_mergeLightest_2 : decode cL_mergeLightest 2 = .ok (.aload_n 0, 1) := by decide +kernel
theorem dL_mergeLightest_3 : decode cL_mergeLightest 3 = .ok (.invokevirtual 74, 3) := by decide +kernel
theorem dL_mergeLightest_6 : decode cL_mergeLightest 6 = .ok (.iastore, 1) := by decide +kernel
theorem dL_mergeLightest_7 : decode cL_mergeLightest 7 = .ok (.goto 6, 3) := by decide +kernel
theorem dL_mergeLightest_10 : decode cL_mergeLightest 10 = .ok (.astore_n 2, 1) := by decide +kernel
theorem dL_mergeLightest_11 : decode cL_mergeLightest 11 = .ok (.iconst 1, 1) := by decide +kernel
theorem dL_mergeLightest_12 : decode cL_mergeLightest 12 = .ok (.ireturn, 1) := by decide +kernel
theorem dL_mergeLightest_13 : decode cL_mergeLightest 13 = .ok (.iconst 0, 1) := by decide +kernel
theorem dL_mergeLightest_14 : decode cL_mergeLightest 14 = .ok (.ireturn, 1) := by decide +kernel
theorem dL_storm_0 : decode cL_storm 0 = .ok (.aload_n 2, 1) := by decide +kernel
theorem dL_storm_1 : decode cL_storm 1 = .ok (.iconst 0, 1) := by decide +kernel
theorem dL_storm_2 : decode cL_storm 2 = .ok (.aload_n 0, 1) := by decide +kernel
theorem dL_storm_3 : decode cL_storm 3 = .ok (.iload_n 1, 1) := by decide +kernel
theorem dL_storm_4 : decode cL_storm 4 = .ok (.invokevirtual 78, 3) := by decide +kernel
theorem dL_storm_7 : decode cL_storm 7 = .ok (.iastore, 1) := by decide +kernel
theorem dL_storm_8 : decode cL_storm 8 = .ok (.goto 6, 3) := by decide +kernel
theorem dL_storm_11 : decode cL_storm 11 = .ok (.astore_n 3, 1) := by decide +kernel
theorem dL_storm_12 : decode cL_storm 12 = .ok (.iconst 1, 1) := by decide +kernel
theorem dL_storm_13 : decode cL_storm 13 = .ok (.ireturn, 1) := by decide +kernel
theorem dL_storm_14 : decode cL_storm 14 = .ok (.iconst 0, 1) := by decide +kernel
theorem dL_storm_15 : decode cL_storm 15 = .ok (.ireturn, 1) := by decide +kernel
theorem dL_tighten_0 : decode cL_tighten 0 = .ok (.aload_n 2, 1) := by decide +kernel
theorem dL_tighten_1 : decode cL_tighten 1 = .ok (.iconst 0, 1) := by decide +kernel
theorem dL_tighten_2 : decode cL_tighten 2 = .ok (.aload_n 0, 1) := by decide +kernel
theorem dL_tighten_3 : decode cL_tighten 3 = .ok (.iload_n 1, 1) := by decide +kernel
theorem dL_tighten_4 : decode cL_tighten 4 = .ok (.invokevirtual 82, 3) := by decide +kernel
theorem dL_tighten_7 : decode cL_tighten 7 = .ok (.iastore, 1) := by decide +kernel
theorem dL_tighten_8 : decode cL_tighten 8 = .ok (.goto 6, 3) := by decide +kernel
theorem dL_tighten_11 : decode cL_tighten 11 = .ok (.astore_n 3, 1) := by decide +kernel
theorem dL_tighten_12 : decode cL_tighten 12 = .ok (.iconst 1, 1) := by decide +kernel
theorem dL_tighten_13 : decode cL_tighten 13 = .ok (.ireturn, 1) := by decide +kernel
theorem dL_tighten_14 : decode cL_tighten 14 = .ok (.iconst 0, 1) := by decide +kernel
theorem dL_tighten_15 : decode cL_tighten 15 = .ok (.ireturn, 1) := by decide +kernel
theorem dL_land_0 : decode cL_land 0 = .ok (.aload_n 2, 1) := by decide +kernel
theorem dL_land_1 : decode cL_land 1 = .ok (.iconst 0, 1) := by decide +kernel
theorem dL_land_2 : decode cL_land 2 = .ok (.aload_n 0, 1) := by decide +kernel
theorem dL_land_3 : decode cL_land 3 = .ok (.iload_n 1, 1) := by decide +kernel
theorem dL_land_4 : decode cL_land 4 = .ok (.invokevirtual 85, 3) := by decide +kernel
theorem dL_land_7 : decode cL_land 7 = .ok (.iastore, 1) := by decide +kernel
theorem dL_land_8 : decode cL_land 8 = .ok (.goto 9, 3) := by decide +kernel
theorem dL_land_11 : decode cL_land 11 = .ok (.astore_n 3, 1) := by decide +kernel
theorem dL_land_12 : decode cL_land 12 = .ok (.iconst 1, 1) := by decide +kernel
theorem dL_land_13 : decode cL_land 13 = .ok (.ireturn, 1) := by decide +kernel
theorem dL_land_14 : decode cL_land 14 = .ok (.astore_n 3, 1) := by decide +kernel
theorem dL_land_15 : decode cL_land 15 = .ok (.iconst 2, 1) := by decide +kernel
theorem dL_land_16 : decode cL_land 16 = .ok (.ireturn, 1) := by decide +kernel
theorem dL_land_17 : decode cL_land 17 = .ok (.iconst 0, 1) := by decide +kernel
theorem dL_land_18 : decode cL_land 18 = .ok (.ireturn, 1) := by decide +kernel
theorem dL_inRun_0 : decode cL_inRun 0 = .ok (.aload_n 3, 1) := by decide +kernel
theorem dL_inRun_1 : decode cL_inRun 1 = .ok (.iconst 0, 1) := by decide +kernel
theorem dL_inRun_2 : decode cL_inRun 2 = .ok (.aload_n 0, 1) := by decide +kernel
theorem dL_inRun_3 : decode cL_inRun 3 = .ok (.iload_n 1, 1) := by decide +kernel
theorem dL_inRun_4 : decode cL_inRun 4 = .ok (.iload_n 2, 1) := by decide +kernel
theorem dL_inRun_5 : decode cL_inRun 5 = .ok (.invokevirtual 88, 3) := by decide +kernel
theorem dL_inRun_8 : decode cL_inRun 8 = .ok (.iastore, 1) := by decide +kernel
theorem dL_inRun_9 : decode cL_inRun 9 = .ok (.goto 11, 3) := by decide +kernel
theorem dL_inRun_12 : decode cL_inRun 12 = .ok (.astore 4, 2) := by decide +kernel
theorem dL_inRun_14 : decode cL_inRun 14 = .ok (.iconst 1, 1) := by decide +kernel
theorem dL_inRun_15 : decode cL_inRun 15 = .ok (.ireturn, 1) := by decide +kernel
theorem dL_inRun_16 : decode cL_inRun 16 = .ok (.astore 4, 2) := by decide +kernel
theorem dL_inRun_18 : decode cL_inRun 18 = .ok (.iconst 2, 1) := by decide +kernel
theorem dL_inRun_19 : decode cL_inRun 19 = .ok (.ireturn, 1) := by decide +kernel
theorem dL_inRun_20 : decode cL_inRun 20 = .ok (.iconst 0, 1) := by decide +kernel
theorem dL_inRun_21 : decode cL_inRun 21 = .ok (.ireturn, 1) := by decide +kernel
theorem dL_ashore_0 : decode cL_ashore 0 = .ok (.aload_n 2, 1) := by decide +kernel
theorem dL_ashore_1 : decode cL_ashore 1 = .ok (.iconst 0, 1) := by decide +kernel
theorem dL_ashore_2 : decode cL_ashore 2 = .ok (.aload_n 0, 1) := by decide +kernel
theorem dL_ashore_3 : decode cL_ashore 3 = .ok (.iload_n 1, 1) := by decide +kernel
theorem dL_ashore_4 : decode cL_ashore 4 = .ok (.invokevirtual 93, 3) := by decide +kernel
theorem dL_ashore_7 : decode cL_ashore 7 = .ok (.iastore, 1) := by decide +kernel
theorem dL_ashore_8 : decode cL_ashore 8 = .ok (.goto 6, 3) := by decide +kernel
theorem dL_ashore_11 : decode cL_ashore 11 = .ok (.astore_n 3, 1) := by decide +kernel
theorem dL_ashore_12 : decode cL_ashore 12 = .ok (.iconst 1, 1) := by decide +kernel
theorem dL_ashore_13 : decode cL_ashore 13 = .ok (.ireturn, 1) := by decide +kernel
theorem dL_ashore_14 : decode cL_ashore 14 = .ok (.iconst 0, 1) := by decide +kernel
theorem dL_ashore_15 : decode cL_ashore 15 = .ok (.ireturn, 1) := by decide +kernel
theorem dL_runAt_0 : decode cL_runAt 0 = .ok (.aload_n 2, 1) := by decide +kernel
theorem dL_runAt_1 : decode cL_runAt 1 = .ok (.iconst 0, 1) := by decide +kernel
theorem dL_runAt_2 : decode cL_runAt 2 = .ok (.aload_n 0, 1) := by decide +kernel
theorem dL_runAt_3 : decode cL_runAt 3 = .ok (.iload_n 1, 1) := by decide +kernel
theorem dL_runAt_4 : decode cL_runAt 4 = .ok (.invokevirtual 96, 3) := by decide +kernel
theorem dL_runAt_7 : decode cL_runAt 7 = .ok (.iastore, 1) := by decide +kernel
theorem dL_runAt_8 : decode cL_runAt 8 = .ok (.goto 6, 3) := by decide +kernel
theorem dL_runAt_11 : decode cL_runAt 11 = .ok (.astore_n 3, 1) := by decide +kernel
theorem dL_runAt_12 : decode cL_runAt 12 = .ok (.iconst 1, 1) := by decide +kernel
theorem dL_runAt_13 : decode cL_runAt 13 = .ok (.ireturn, 1) := by decide +kernel
theorem dL_runAt_14 : decode cL_runAt 14 = .ok (.iconst 0, 1) := by decide +kernel
theorem dL_runAt_15 : decode cL_runAt 15 = .ok (.ireturn, 1) := by decide +kernel
theorem dL_parcel_0 : decode cL_parcel 0 = .ok (.aload_n 3, 1) := by decide +kernel
theorem dL_parcel_1 : decode cL_parcel 1 = .ok (.iconst 0, 1) := by decide +kernel
theorem dL_parcel_2 : decode cL_parcel 2 = .ok (.aload_n 0, 1) := by decide +kernel
theorem dL_parcel_3 : decode cL_parcel 3 = .ok (.iload_n 1, 1) := by decide +kernel
theorem dL_parcel_4 : decode cL_parcel 4 = .ok (.iload_n 2, 1) := by decide +kernel
theorem dL_parcel_5 : decode cL_parcel 5 = .ok (.invokevirtual 99, 3) := by decide +kernel
theorem dL_parcel_8 : decode cL_parcel 8 = .ok (.iastore, 1) := by decide +kernel
theorem dL_parcel_9 : decode cL_parcel 9 = .ok (.goto 11, 3) := by decide +kernel
theorem dL_parcel_12 : decode cL_parcel 12 = .ok (.astore 4, 2) := by decide +kernel
theorem dL_parcel_14 : decode cL_parcel 14 = .ok (.iconst 1, 1) := by decide +kernel
theorem dL_parcel_15 : decode cL_parcel 15 = .ok (.ireturn, 1) := by decide +kernel
theorem dL_parcel_16 : decode cL_parcel 16 = .ok (.astore 4, 2) := by decide +kernel
theorem dL_parcel_18 : decode cL_parcel 18 = .ok (.iconst 2, 1) := by decide +kernel
theorem dL_parcel_19 : decode cL_parcel 19 = .ok (.ireturn, 1) := by decide +kernel
theorem dL_parcel_20 : decode cL_parcel 20 = .ok (.iconst 0, 1) := by decide +kernel
theorem dL_parcel_21 : decode cL_parcel 21 = .ok (.ireturn, 1) := by decide +kernel
theorem dL_areParcels_0 : decode cL_areParcels 0 = .ok (.iconst 1, 1) := by decide +kernel
theorem dL_areParcels_1 : decode cL_areParcels 1 = .ok (.newarray .int, 2) := by decide +kernel
theorem dL_areParcels_3 : decode cL_areParcels 3 = .ok (.astore_n 3, 1) := by decide +kernel
theorem dL_areParcels_4 : decode cL_areParcels 4 = .ok (.iconst 0, 1) := by decide +kernel
theorem dL_areParcels_5 : decode cL_areParcels 5 = .ok (.istore 4, 2) := by decide +kernel
theorem dL_areParcels_7 : decode cL_areParcels 7 = .ok (.iload 4, 2) := by decide +kernel
theorem dL_areParcels_9 : decode cL_areParcels 9 = .ok (.aload_n 2, 1) := by decide +kernel
theorem dL_areParcels_10 : decode cL_areParcels 10 = .ok (.iconst 0, 1) := by decide +kernel
theorem dL_areParcels_11 : decode cL_areParcels 11 = .ok (.iaload, 1) := by decide +kernel
theorem dL_areParcels_12 : decode cL_areParcels 12 = .ok (.if_icmp .ge 162, 3) := by decide +kernel
theorem dL_areParcels_15 : decode cL_areParcels 15 = .ok (.aload_n 0, 1) := by decide +kernel
theorem dL_areParcels_16 : decode cL_areParcels 16 = .ok (.iload 4, 2) := by decide +kernel
theorem dL_areParcels_18 : decode cL_areParcels 18 = .ok (.iconst 0, 1) := by decide +kernel
theorem dL_areParcels_19 : decode cL_areParcels 19 = .ok (.aload_n 3, 1) := by decide +kernel
theorem dL_areParcels_20 : decode cL_areParcels 20 = .ok (.invokestatic 102, 3) := by decide +kernel
theorem dL_areParcels_23 : decode cL_areParcels 23 = .ok (.ifCond .ne 38, 3) := by decide +kernel
theorem dL_areParcels_26 : decode cL_areParcels 26 = .ok (.aload_n 3, 1) := by decide +kernel
theorem dL_areParcels_27 : decode cL_areParcels 27 = .ok (.iconst 0, 1) := by decide +kernel
theorem dL_areParcels_28 : decode cL_areParcels 28 = .ok (.iaload, 1) := by decide +kernel
theorem dL_areParcels_29 : decode cL_areParcels 29 = .ok (.aload_n 1, 1) := by decide +kernel
theorem dL_areParcels_30 : decode cL_areParcels 30 = .ok (.iload 4, 2) := by decide +kernel
theorem dL_areParcels_32 : decode cL_areParcels 32 = .ok (.invokestatic 9, 3) := by decide +kernel
theorem dL_areParcels_35 : decode cL_areParcels 35 = .ok (.if_icmp .ne 26, 3) := by decide +kernel
theorem dL_areParcels_38 : decode cL_areParcels 38 = .ok (.aload_n 0, 1) := by decide +kernel
theorem dL_areParcels_39 : decode cL_areParcels 39 = .ok (.iload 4, 2) := by decide +kernel
theorem dL_areParcels_41 : decode cL_areParcels 41 = .ok (.iconst 1, 1) := by decide +kernel
theorem dL_areParcels_42 : decode cL_areParcels 42 = .ok (.aload_n 3, 1) := by decide +kernel
theorem dL_areParcels_43 : decode cL_areParcels 43 = .ok (.invokestatic 102, 3) := by decide +kernel
theorem dL_areParcels_46 : decode cL_areParcels 46 = .ok (.ifCond .ne 15, 3) := by decide +kernel
theorem dL_areParcels_49 : decode cL_areParcels 49 = .ok (.aload_n 3, 1) := by decide +kernel
theorem dL_areParcels_50 : decode cL_areParcels 50 = .ok (.iconst 0, 1) := by decide +kernel
theorem dL_areParcels_51 : decode cL_areParcels 51 = .ok (.iaload, 1) := by decide +kernel
theorem dL_areParcels_52 : decode cL_areParcels 52 = .ok (.aload_n 1, 1) := by decide +kernel
theorem dL_areParcels_53 : decode cL_areParcels 53 = .ok (.iload 4, 2) := by decide +kernel
theorem dL_areParcels_55 : decode cL_areParcels 55 = .ok (.invokestatic 15, 3) := by decide +kernel
theorem dL_areParcels_58 : decode cL_areParcels 58 = .ok (.if_icmp .eq 5, 3) := by decide +kernel
theorem dL_areParcels_61 : decode cL_areParcels 61 = .ok (.iconst 0, 1) := by decide +kernel
theorem dL_areParcels_62 : decode cL_areParcels 62 = .ok (.ireturn, 1) := by decide +kernel
theorem dL_areParcels_63 : decode cL_areParcels 63 = .ok (.aload_n 0, 1) := by decide +kernel
theorem dL_areParcels_64 : decode cL_areParcels 64 = .ok (.iload 4, 2) := by decide +kernel
theorem dL_areParcels_66 : decode cL_areParcels 66 = .ok (.iconst 2, 1) := by decide +kernel
theorem dL_areParcels_67 : decode cL_areParcels 67 = .ok (.aload_n 3, 1) := by decide +kernel
theorem dL_areParcels_68 : decode cL_areParcels 68 = .ok (.invokestatic 102, 3) := by decide +kernel
theorem dL_areParcels_71 : decode cL_areParcels 71 = .ok (.ifCond .ne 49, 3) := by decide +kernel
theorem dL_areParcels_74 : decode cL_areParcels 74 = .ok (.aload_n 3, 1) := by decide +kernel
theorem dL_areParcels_75 : decode cL_areParcels 75 = .ok (.iconst 0, 1) := by decide +kernel
theorem dL_areParcels_76 : decode cL_areParcels 76 = .ok (.iaload, 1) := by decide +kernel
theorem dL_areParcels_77 : decode cL_areParcels 77 = .ok (.aload_n 1, 1) := by decide +kernel
theorem dL_areParcels_78 : decode cL_areParcels 78 = .ok (.iload 4, 2) := by decide +kernel
theorem dL_areParcels_80 : decode cL_areParcels 80 = .ok (.invokestatic 22, 3) := by decide +kernel
theorem dL_areParcels_83 : decode cL_areParcels 83 = .ok (.if_icmp .ne 37, 3) := by decide +kernel
theorem dL_areParcels_86 : decode cL_areParcels 86 = .ok (.aload_n 0, 1) := by decide +kernel
theorem dL_areParcels_87 : decode cL_areParcels 87 = .ok (.iload 4, 2) := by decide +kernel
theorem dL_areParcels_89 : decode cL_areParcels 89 = .ok (.iconst 3, 1) := by decide +kernel
theorem dL_areParcels_90 : decode cL_areParcels 90 = .ok (.aload_n 3, 1) := by decide +kernel
theorem dL_areParcels_91 : decode cL_areParcels 91 = .ok (.invokestatic 102, 3) := by decide +kernel
theorem dL_areParcels_94 : decode cL_areParcels 94 = .ok (.ifCond .ne 26, 3) := by decide +kernel
theorem dL_areParcels_97 : decode cL_areParcels 97 = .ok (.aload_n 3, 1) := by decide +kernel
theorem dL_areParcels_98 : decode cL_areParcels 98 = .ok (.iconst 0, 1) := by decide +kernel
theorem dL_areParcels_99 : decode cL_areParcels 99 = .ok (.iaload, 1) := by decide +kernel
theorem dL_areParcels_100 : decode cL_areParcels 100 = .ok (.aload_n 1, 1) := by decide +kernel
theorem dL_areParcels_101 : decode cL_areParcels 101 = .ok (.iload 4, 2) := by decide +kernel
theorem dL_areParcels_103 : decode cL_areParcels 103 = .ok (.invokestatic 25, 3) := by decide +kernel
theorem dL_areParcels_106 : decode cL_areParcels 106 = .ok (.if_icmp .ne 14, 3) := by decide +kernel
theorem dL_areParcels_109 : decode cL_areParcels 109 = .ok (.aload_n 0, 1) := by decide +kernel
theorem dL_areParcels_110 : decode cL_areParcels 110 = .ok (.iload 4, 2) := by decide +kernel
theorem dL_areParcels_112 : decode cL_areParcels 112 = .ok (.iconst 4, 1) := by decide +kernel
theorem dL_areParcels_113 : decode cL_areParcels 113 = .ok (.aload_n 3, 1) := by decide +kernel
theorem dL_areParcels_114 : decode cL_areParcels 114 = .ok (.invokestatic 102, 3) := by decide +kernel
theorem dL_areParcels_117 : decode cL_areParcels 117 = .ok (.ifCond .eq 5, 3) := by decide +kernel
theorem dL_areParcels_120 : decode cL_areParcels 120 = .ok (.iconst 0, 1) := by decide +kernel
theorem dL_areParcels_121 : decode cL_areParcels 121 = .ok (.ireturn, 1) := by decide +kernel
theorem dL_areParcels_122 : decode cL_areParcels 122 = .ok (.aload_n 1, 1) := by decide +kernel
theorem dL_areParcels_123 : decode cL_areParcels 123 = .ok (.iload 4, 2) := by decide +kernel
theorem dL_areParcels_125 : decode cL_areParcels 125 = .ok (.invokestatic 22, 3) := by decide +kernel
theorem dL_areParcels_128 : decode cL_areParcels 128 = .ok (.ifCond .ne 13, 3) := by decide +kernel
theorem dL_areParcels_131 : decode cL_areParcels 131 = .ok (.aload_n 3, 1) := by decide +kernel
theorem dL_areParcels_132 : decode cL_areParcels 132 = .ok (.iconst 0, 1) := by decide +kernel
theorem dL_areParcels_133 : decode cL_areParcels 133 = .ok (.iaload, 1) := by decide +kernel
theorem dL_areParcels_134 : decode cL_areParcels 134 = .ok (.iconst (-1), 1) := by decide +kernel
theorem dL_areParcels_135 : decode cL_areParcels 135 = .ok (.if_icmp .eq 33, 3) := by decide +kernel
theorem dL_areParcels_138 : decode cL_areParcels 138 = .ok (.goto 28, 3) := by decide +kernel
theorem dL_areParcels_141 : decode cL_areParcels 141 = .ok (.aload_n 1, 1) := by decide +kernel
theorem dL_areParcels_142 : decode cL_areParcels 142 = .ok (.aload_n 2, 1) := by decide +kernel
theorem dL_areParcels_143 : decode cL_areParcels 143 = .ok (.aload_n 1, 1) := by decide +kernel
theorem dL_areParcels_144 : decode cL_areParcels 144 = .ok (.iload 4, 2) := by decide +kernel
theorem dL_areParcels_146 : decode cL_areParcels 146 = .ok (.invokestatic 22, 3) := by decide +kernel
theorem dL_areParcels_149 : decode cL_areParcels 149 = .ok (.aload_n 1, 1) := by decide +kernel
theorem dL_areParcels_150 : decode cL_areParcels 150 = .ok (.iload 4, 2) := by decide +kernel
theorem dL_areParcels_152 : decode cL_areParcels 152 = .ok (.invokestatic 25, 3) := by decide +kernel
theorem dL_areParcels_155 : decode cL_areParcels 155 = .ok (.aload_n 3, 1) := by decide +kernel
theorem dL_areParcels_156 : decode cL_areParcels 156 = .ok (.iconst 0, 1) := by decide +kernel
theorem dL_areParcels_157 : decode cL_areParcels 157 = .ok (.iaload, 1) := by decide +kernel
theorem dL_areParcels_158 : decode cL_areParcels 158 = .ok (.invokestatic 36, 3) := by decide +kernel
theorem dL_areParcels_161 : decode cL_areParcels 161 = .ok (.iload 4, 2) := by decide +kernel
theorem dL_areParcels_163 : decode cL_areParcels 163 = .ok (.if_icmp .eq 5, 3) := by decide +kernel
theorem dL_areParcels_166 : decode cL_areParcels 166 = .ok (.iconst 0, 1) := by decide +kernel
theorem dL_areParcels_167 : decode cL_areParcels 167 = .ok (.ireturn, 1) := by decide +kernel
theorem dL_areParcels_168 : decode cL_areParcels 168 = .ok (.iinc 4 1, 3) := by decide +kernel
theorem dL_areParcels_171 : decode cL_areParcels 171 = .ok (.goto (-164), 3) := by decide +kernel
theorem dL_areParcels_174 : decode cL_areParcels 174 = .ok (.aload_n 0, 1) := by decide +kernel
theorem dL_areParcels_175 : decode cL_areParcels 175 = .ok (.aload_n 2, 1) := by decide +kernel
theorem dL_areParcels_176 : decode cL_areParcels 176 = .ok (.iconst 0, 1) := by decide +kernel
theorem dL_areParcels_177 : decode cL_areParcels 177 = .ok (.iaload, 1) := by decide +kernel
theorem dL_areParcels_178 : decode cL_areParcels 178 = .ok (.iconst 0, 1) := by decide +kernel
theorem dL_areParcels_179 : decode cL_areParcels 179 = .ok (.aload_n 3, 1) := by decide +kernel
theorem dL_areParcels_180 : decode cL_areParcels 180 = .ok (.invokestatic 102, 3) := by decide +kernel
theorem dL_areParcels_183 : decode cL_areParcels 183 = .ok (.iconst 1, 1) := by decide +kernel
theorem dL_areParcels_184 : decode cL_areParcels 184 = .ok (.if_icmp .ne 35, 3) := by decide +kernel
theorem dL_areParcels_187 : decode cL_areParcels 187 = .ok (.aload_n 0, 1) := by decide +kernel
theorem dL_areParcels_188 : decode cL_areParcels 188 = .ok (.iconst (-1), 1) := by decide +kernel
theorem dL_areParcels_189 : decode cL_areParcels 189 = .ok (.iconst 5, 1) := by decide +kernel
theorem dL_areParcels_190 : decode cL_areParcels 190 = .ok (.aload_n 3, 1) := by decide +kernel
theorem dL_areParcels_191 : decode cL_areParcels 191 = .ok (.invokestatic 102, 3) := by decide +kernel
theorem dL_areParcels_194 : decode cL_areParcels 194 = .ok (.iconst 1, 1) := by decide +kernel
theorem dL_areParcels_195 : decode cL_areParcels 195 = .ok (.if_icmp .ne 24, 3) := by decide +kernel
theorem dL_areParcels_198 : decode cL_areParcels 198 = .ok (.aload_n 2, 1) := by decide +kernel
theorem dL_areParcels_199 : decode cL_areParcels 199 = .ok (.iconst 0, 1) := by decide +kernel
theorem dL_areParcels_200 : decode cL_areParcels 200 = .ok (.iaload, 1) := by decide +kernel
theorem dL_areParcels_201 : decode cL_areParcels 201 = .ok (.ifCond .eq 14, 3) := by decide +kernel
theorem dL_areParcels_204 : decode cL_areParcels 204 = .ok (.aload_n 0, 1) := by decide +kernel
theorem dL_areParcels_205 : decode cL_areParcels 205 = .ok (.iconst 0, 1) := by decide +kernel
theorem dL_areParcels_206 : decode cL_areParcels 206 = .ok (.iconst 5, 1) := by decide +kernel
theorem dL_areParcels_207 : decode cL_areParcels 207 = .ok (.aload_n 3, 1) := by decide +kernel
theorem dL_areParcels_208 : decode cL_areParcels 208 = .ok (.invokestatic 102, 3) := by decide +kernel
theorem dL_areParcels_211 : decode cL_areParcels 211 = .ok (.iconst 2, 1) := by decide +kernel
theorem dL_areParcels_212 : decode cL_areParcels 212 = .ok (.if_icmp .ne 7, 3) := by decide +kernel
theorem dL_areParcels_215 : decode cL_areParcels 215 = .ok (.iconst 1, 1) := by decide +kernel
theorem dL_areParcels_216 : decode cL_areParcels 216 = .ok (.goto 4, 3) := by decide +kernel
theorem dL_areParcels_219 : decode cL_areParcels 219 = .ok (.iconst 0, 1) := by decide +kernel
theorem dL_areParcels_220 : decode cL_areParcels 220 = .ok (.ireturn, 1) := by decide +kernel
theorem dL_areRuns_0 : decode cL_areRuns 0 = .ok (.iconst 1, 1) := by decide +kernel
theorem dL_areRuns_1 : decode cL_areRuns 1 = .ok (.newarray .int, 2) := by decide +kernel
theorem dL_areRuns_3 : decode cL_areRuns 3 = .ok (.astore 4, 2) := by decide +kernel
theorem dL_areRuns_5 : decode cL_areRuns 5 = .ok (.aload_n 2, 1) := by decide +kernel
theorem dL_areRuns_6 : decode cL_areRuns 6 = .ok (.aload_n 3, 1) := by decide +kernel
theorem dL_areRuns_7 : decode cL_areRuns 7 = .ok (.invokestatic 105, 3) := by decide +kernel
theorem dL_areRuns_10 : decode cL_areRuns 10 = .ok (.istore 5, 2) := by decide +kernel
theorem dL_areRuns_12 : decode cL_areRuns 12 = .ok (.iconst 0, 1) := by decide +kernel
theorem dL_areRuns_13 : decode cL_areRuns 13 = .ok (.istore 6, 2) := by decide +kernel
theorem dL_areRuns_15 : decode cL_areRuns 15 = .ok (.iload 6, 2) := by decide +kernel
theorem dL_areRuns_17 : decode cL_areRuns 17 = .ok (.iload 5, 2) := by decide +kernel
