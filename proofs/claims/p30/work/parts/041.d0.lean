theorem dX0_init_0 : decode cX0_init 0 = .ok (.aload_n 0, 1) := by decide +kernel
theorem dX0_init_1 : decode cX0_init 1 = .ok (.invokespecial 3, 3) := by decide +kernel
theorem dX0_init_4 : decode cX0_init 4 = .ok (.aload_n 0, 1) := by decide +kernel
theorem dX0_init_5 : decode cX0_init 5 = .ok (.iconst 4, 1) := by decide +kernel
theorem dX0_init_6 : decode cX0_init 6 = .ok (.putfield 9, 3) := by decide +kernel
theorem dX0_init_9 : decode cX0_init 9 = .ok (.aload_n 0, 1) := by decide +kernel
theorem dX0_init_10 : decode cX0_init 10 = .ok (.iconst (-1), 1) := by decide +kernel
theorem dX0_init_11 : decode cX0_init 11 = .ok (.putfield 15, 3) := by decide +kernel
theorem dX0_init_14 : decode cX0_init 14 = .ok (.aload_n 0, 1) := by decide +kernel
theorem dX0_init_15 : decode cX0_init 15 = .ok (.new 18, 3) := by decide +kernel
theorem dX0_init_18 : decode cX0_init 18 = .ok (.dup, 1) := by decide +kernel
theorem dX0_init_19 : decode cX0_init 19 = .ok (.bipush 120, 2) := by decide +kernel
theorem dX0_init_21 : decode cX0_init 21 = .ok (.invokespecial 20, 3) := by decide +kernel
theorem dX0_init_24 : decode cX0_init 24 = .ok (.putfield 23, 3) := by decide +kernel
theorem dX0_init_27 : decode cX0_init 27 = .ok (.aload_n 0, 1) := by decide +kernel
theorem dX0_init_28 : decode cX0_init 28 = .ok (.new 18, 3) := by decide +kernel
theorem dX0_init_31 : decode cX0_init 31 = .ok (.dup, 1) := by decide +kernel
theorem dX0_init_32 : decode cX0_init 32 = .ok (.bipush 120, 2) := by decide +kernel
theorem dX0_init_34 : decode cX0_init 34 = .ok (.invokespecial 20, 3) := by decide +kernel
theorem dX0_init_37 : decode cX0_init 37 = .ok (.putfield 27, 3) := by decide +kernel
theorem dX0_init_40 : decode cX0_init 40 = .ok (.aload_n 0, 1) := by decide +kernel
theorem dX0_init_41 : decode cX0_init 41 = .ok (.new 18, 3) := by decide +kernel
theorem dX0_init_44 : decode cX0_init 44 = .ok (.dup, 1) := by decide +kernel
theorem dX0_init_45 : decode cX0_init 45 = .ok (.bipush 120, 2) := by decide +kernel
theorem dX0_init_47 : decode cX0_init 47 = .ok (.invokespecial 20, 3) := by decide +kernel
theorem dX0_init_50 : decode cX0_init 50 = .ok (.putfield 30, 3) := by decide +kernel
theorem dX0_init_53 : decode cX0_init 53 = .ok (.aload_n 0, 1) := by decide +kernel
theorem dX0_init_54 : decode cX0_init 54 = .ok (.new 18, 3) := by decide +kernel
theorem dX0_init_57 : decode cX0_init 57 = .ok (.dup, 1) := by decide +kernel
theorem dX0_init_58 : decode cX0_init 58 = .ok (.bipush 120, 2) := by decide +kernel
theorem dX0_init_60 : decode cX0_init 60 = .ok (.invokespecial 20, 3) := by decide +kernel
theorem dX0_init_63 : decode cX0_init 63 = .ok (.putfield 33, 3) := by decide +kernel
theorem dX0_init_66 : decode cX0_init 66 = .ok (.aload_n 0, 1) := by decide +kernel
theorem dX0_init_67 : decode cX0_init 67 = .ok (.new 18, 3) := by decide +kernel
theorem dX0_init_70 : decode cX0_init 70 = .ok (.dup, 1) := by decide +kernel
theorem dX0_init_71 : decode cX0_init 71 = .ok (.bipush 120, 2) := by decide +kernel
theorem dX0_init_73 : decode cX0_init 73 = .ok (.invokespecial 20, 3) := by decide +kernel
theorem dX0_init_76 : decode cX0_init 76 = .ok (.putfield 36, 3) := by decide +kernel
theorem dX0_init_79 : decode cX0_init 79 = .ok (.aload_n 0, 1) := by decide +kernel
theorem dX0_init_80 : decode cX0_init 80 = .ok (.new 18, 3) := by decide +kernel
theorem dX0_init_83 : decode cX0_init 83 = .ok (.dup, 1) := by decide +kernel
theorem dX0_init_84 : decode cX0_init 84 = .ok (.bipush 120, 2) := by decide +kernel
theorem dX0_init_86 : decode cX0_init 86 = .ok (.invokespecial 20, 3) := by decide +kernel
theorem dX0_init_89 : decode cX0_init 89 = .ok (.putfield 39, 3) := by decide +kernel
theorem dX0_init_92 : decode cX0_init 92 = .ok (.aload_n 0, 1) := by decide +kernel
theorem dX0_init_93 : decode cX0_init 93 = .ok (.new 18, 3) := by decide +kernel
theorem dX0_init_96 : decode cX0_init 96 = .ok (.dup, 1) := by decide +kernel
theorem dX0_init_97 : decode cX0_init 97 = .ok (.bipush 120, 2) := by decide +kernel
theorem dX0_init_99 : decode cX0_init 99 = .ok (.invokespecial 20, 3) := by decide +kernel
theorem dX0_init_102 : decode cX0_init 102 = .ok (.putfield 42, 3) := by decide +kernel
theorem dX0_init_105 : decode cX0_init 105 = .ok (.return_, 1) := by decide +kernel
theorem dX0_startAgain_0 : decode cX0_startAgain 0 = .ok (.aload_n 0, 1) := by decide +kernel
theorem dX0_startAgain_1 : decode cX0_startAgain 1 = .ok (.iload_n 1, 1) := by decide +kernel
theorem dX0_startAgain_2 : decode cX0_startAgain 2 = .ok (.putfield 9, 3) := by decide +kernel
theorem dX0_startAgain_5 : decode cX0_startAgain 5 = .ok (.aload_n 0, 1) := by decide +kernel
theorem dX0_startAgain_6 : decode cX0_startAgain 6 = .ok (.getfield 23, 3) := by decide +kernel
theorem dX0_startAgain_9 : decode cX0_startAgain 9 = .ok (.invokevirtual 45, 3) := by decide +kernel
theorem dX0_startAgain_12 : decode cX0_startAgain 12 = .ok (.aload_n 0, 1) := by decide +kernel
theorem dX0_startAgain_13 : decode cX0_startAgain 13 = .ok (.getfield 27, 3) := by decide +kernel
theorem dX0_startAgain_16 : decode cX0_startAgain 16 = .ok (.invokevirtual 45, 3) := by decide +kernel
theorem dX0_startAgain_19 : decode cX0_startAgain 19 = .ok (.aload_n 0, 1) := by decide +kernel
theorem dX0_startAgain_20 : decode cX0_startAgain 20 = .ok (.getfield 30, 3) := by decide +kernel
theorem dX0_startAgain_23 : decode cX0_startAgain 23 = .ok (.invokevirtual 45, 3) := by decide +kernel
theorem dX0_startAgain_26 : decode cX0_startAgain 26 = .ok (.aload_n 0, 1) := by decide +kernel
theorem dX0_startAgain_27 : decode cX0_startAgain 27 = .ok (.getfield 33, 3) := by decide +kernel
theorem dX0_startAgain_30 : decode cX0_startAgain 30 = .ok (.invokevirtual 45, 3) := by decide +kernel
theorem dX0_startAgain_33 : decode cX0_startAgain 33 = .ok (.aload_n 0, 1) := by decide +kernel
theorem dX0_startAgain_34 : decode cX0_startAgain 34 = .ok (.getfield 36, 3) := by decide +kernel
theorem dX0_startAgain_37 : decode cX0_startAgain 37 = .ok (.invokevirtual 45, 3) := by decide +kernel
theorem dX0_startAgain_40 : decode cX0_startAgain 40 = .ok (.aload_n 0, 1) := by decide +kernel
theorem dX0_startAgain_41 : decode cX0_startAgain 41 = .ok (.getfield 39, 3) := by decide +kernel
theorem dX0_startAgain_44 : decode cX0_startAgain 44 = .ok (.invokevirtual 45, 3) := by decide +kernel
theorem dX0_startAgain_47 : decode cX0_startAgain 47 = .ok (.aload_n 0, 1) := by decide +kernel
theorem dX0_startAgain_48 : decode cX0_startAgain 48 = .ok (.getfield 42, 3) := by decide +kernel
theorem dX0_startAgain_51 : decode cX0_startAgain 51 = .ok (.invokevirtual 45, 3) := by decide +kernel
theorem dX0_startAgain_54 : decode cX0_startAgain 54 = .ok (.aload_n 0, 1) := by decide +kernel
theorem dX0_startAgain_55 : decode cX0_startAgain 55 = .ok (.iconst (-1), 1) := by decide +kernel
theorem dX0_startAgain_56 : decode cX0_startAgain 56 = .ok (.putfield 15, 3) := by decide +kernel
theorem dX0_startAgain_59 : decode cX0_startAgain 59 = .ok (.aload_n 0, 1) := by decide +kernel
theorem dX0_startAgain_60 : decode cX0_startAgain 60 = .ok (.iconst 0, 1) := by decide +kernel
theorem dX0_startAgain_61 : decode cX0_startAgain 61 = .ok (.putfield 48, 3) := by decide +kernel
theorem dX0_startAgain_64 : decode cX0_startAgain 64 = .ok (.aload_n 0, 1) := by decide +kernel
theorem dX0_startAgain_65 : decode cX0_startAgain 65 = .ok (.iconst 0, 1) := by decide +kernel
theorem dX0_startAgain_66 : decode cX0_startAgain 66 = .ok (.putfield 51, 3) := by decide +kernel
theorem dX0_startAgain_69 : decode cX0_startAgain 69 = .ok (.aload_n 0, 1) := by decide +kernel
theorem dX0_startAgain_70 : decode cX0_startAgain 70 = .ok (.iconst 0, 1) := by decide +kernel
theorem dX0_startAgain_71 : decode cX0_startAgain 71 = .ok (.putfield 54, 3) := by decide +kernel
theorem dX0_startAgain_74 : decode cX0_startAgain 74 = .ok (.aload_n 0, 1) := by decide +kernel
theorem dX0_startAgain_75 : decode cX0_startAgain 75 = .ok (.iconst 0, 1) := by decide +kernel
theorem dX0_startAgain_76 : decode cX0_startAgain 76 = .ok (.putfield 57, 3) := by decide +kernel
theorem dX0_startAgain_79 : decode cX0_startAgain 79 = .ok (.aload_n 0, 1) := by decide +kernel
theorem dX0_startAgain_80 : decode cX0_startAgain 80 = .ok (.iconst 0, 1) := by decide +kernel
theorem dX0_startAgain_81 : decode cX0_startAgain 81 = .ok (.putfield 60, 3) := by decide +kernel
theorem dX0_startAgain_84 : decode cX0_startAgain 84 = .ok (.return_, 1) := by decide +kernel
theorem dX0_copy_0 : decode cX0_copy 0 = .ok (.aload_n 0, 1) := by decide +kernel
theorem dX0_copy_1 : decode cX0_copy 1 = .ok (.aload_n 1, 1) := by decide +kernel
theorem dX0_copy_2 : decode cX0_copy 2 = .ok (.getfield 9, 3) := by decide +kernel
theorem dX0_copy_5 : decode cX0_copy 5 = .ok (.putfield 9, 3) := by decide +kernel
theorem dX0_copy_8 : decode cX0_copy 8 = .ok (.aload_n 0, 1) := by decide +kernel
theorem dX0_copy_9 : decode cX0_copy 9 = .ok (.getfield 23, 3) := by decide +kernel
theorem dX0_copy_12 : decode cX0_copy 12 = .ok (.aload_n 1, 1) := by decide +kernel
theorem dX0_copy_13 : decode cX0_copy 13 = .ok (.getfield 23, 3) := by decide +kernel
theorem dX0_copy_16 : decode cX0_copy 16 = .ok (.invokevirtual 63, 3) := by decide +kernel
theorem dX0_copy_19 : decode cX0_copy 19 = .ok (.aload_n 0, 1) := by decide +kernel
theorem dX0_copy_20 : decode cX0_copy 20 = .ok (.getfield 27, 3) := by decide +kernel
theorem dX0_copy_23 : decode cX0_copy 23 = .ok (.aload_n 1, 1) := by decide +kernel
theorem dX0_copy_24 : decode cX0_copy 24 = .ok (.getfield 27, 3) := by decide +kernel
theorem dX0_copy_27 : decode cX0_copy 27 = .ok (.invokevirtual 63, 3) := by decide +kernel
theorem dX0_copy_30 : decode cX0_copy 30 = .ok (.aload_n 0, 1) := by decide +kernel
theorem dX0_copy_31 : decode cX0_copy 31 = .ok (.getfield 30, 3) := by decide +kernel
theorem dX0_copy_34 : decode cX0_copy 34 = .ok (.aload_n 1, 1) := by decide +kernel
theorem dX0_copy_35 : decode cX0_copy 35 = .ok (.getfield 30, 3) := by decide +kernel
theorem dX0_copy_38 : decode cX0_copy 38 = .ok (.invokevirtual 63, 3) := by decide +kernel
theorem dX0_copy_41 : decode cX0_copy 41 = .ok (.aload_n 0, 1) := by decide +kernel
theorem dX0_copy_42 : decode cX0_copy 42 = .ok (.getfield 33, 3) := by decide +kernel
theorem dX0_copy_45 : decode cX0_copy 45 = .ok (.aload_n 1, 1) := by decide +kernel
theorem dX0_copy_46 : decode cX0_copy 46 = .ok (.getfield 33, 3) := by decide +kernel
theorem dX0_copy_49 : decode cX0_copy 49 = .ok (.invokevirtual 63, 3) := by decide +kernel
theorem dX0_copy_52 : decode cX0_copy 52 = .ok (.aload_n 0, 1) := by decide +kernel
theorem dX0_copy_53 : decode cX0_copy 53 = .ok (.getfield 36, 3) := by decide +kernel
theorem dX0_copy_56 : decode cX0_copy 56 = .ok (.aload_n 1, 1) := by decide +kernel
theorem dX0_copy_57 : decode cX0_copy 57 = .ok (.getfield 36, 3) := by decide +kernel
theorem dX0_copy_60 : decode cX0_copy 60 = .ok (.invokevirtual 63, 3) := by decide +kernel
theorem dX0_copy_63 : decode cX0_copy 63 = .ok (.aload_n 0, 1) := by decide +kernel
theorem dX0_copy_64 : decode cX0_copy 64 = .ok (.getfield 39, 3) := by decide +kernel
theorem dX0_copy_67 : decode cX0_copy 67 = .ok (.aload_n 1, 1) := by decide +kernel
theorem dX0_copy_68 : decode cX0_copy 68 = .ok (.getfield 39, 3) := by decide +kernel
theorem dX0_copy_71 : decode cX0_copy 71 = .ok (.invokevirtual 63, 3) := by decide +kernel
theorem dX0_copy_74 : decode cX0_copy 74 = .ok (.aload_n 0, 1) := by decide +kernel
theorem dX0_copy_75 : decode cX0_copy 75 = .ok (.getfield 42, 3) := by decide +kernel
theorem dX0_copy_78 : decode cX0_copy 78 = .ok (.aload_n 1, 1) := by decide +kernel
theorem dX0_copy_79 : decode cX0_copy 79 = .ok (.getfield 42, 3) := by decide +kernel
theorem dX0_copy_82 : decode cX0_copy 82 = .ok (.invokevirtual 63, 3) := by decide +kernel
theorem dX0_copy_85 : decode cX0_copy 85 = .ok (.aload_n 0, 1) := by decide +kernel
theorem dX0_copy_86 : decode cX0_copy 86 = .ok (.aload_n 1, 1) := by decide +kernel
theorem dX0_copy_87 : decode cX0_copy 87 = .ok (.getfield 15, 3) := by decide +kernel
theorem dX0_copy_90 : decode cX0_copy 90 = .ok (.putfield 15, 3) := by decide +kernel
theorem dX0_copy_93 : decode cX0_copy 93 = .ok (.aload_n 0, 1) := by decide +kernel
theorem dX0_copy_94 : decode cX0_copy 94 = .ok (.aload_n 1, 1) := by decide +kernel
theorem dX0_copy_95 : decode cX0_copy 95 = .ok (.getfield 48, 3) := by decide +kernel
theorem dX0_copy_98 : decode cX0_copy 98 = .ok (.putfield 48, 3) := by decide +kernel
theorem dX0_copy_101 : decode cX0_copy 101 = .ok (.aload_n 0, 1) := by decide +kernel
theorem dX0_copy_102 : decode cX0_copy 102 = .ok (.aload_n 1, 1) := by decide +kernel
theorem dX0_copy_103 : decode cX0_copy 103 = .ok (.getfield 51, 3) := by decide +kernel
theorem dX0_copy_106 : decode cX0_copy 106 = .ok (.putfield 51, 3) := by decide +kernel
theorem dX0_copy_109 : decode cX0_copy 109 = .ok (.aload_n 0, 1) := by decide +kernel
theorem dX0_copy_110 : decode cX0_copy 110 = .ok (.aload_n 1, 1) := by decide +kernel
theorem dX0_copy_111 : decode cX0_copy 111 = .ok (.getfield 54, 3) := by decide +kernel
theorem dX0_copy_114 : decode cX0_copy 114 = .ok (.putfield 54, 3) := by decide +kernel
theorem dX0_copy_117 : decode cX0_copy 117 = .ok (.aload_n 0, 1) := by decide +kernel
theorem dX0_copy_118 : decode cX0_copy 118 = .ok (.aload_n 1, 1) := by decide +kernel
theorem dX0_copy_119 : decode cX0_copy 119 = .ok (.getfield 57, 3) := by decide +kernel
theorem dX0_copy_122 : decode cX0_copy 122 = .ok (.putfield 57, 3) := by decide +kernel
theorem dX0_copy_125 : decode cX0_copy 125 = .ok (.aload_n 0, 1) := by decide +kernel
theorem dX0_copy_126 : decode cX0_copy 126 = .ok (.aload_n 1, 1) := by decide +kernel
theorem dX0_copy_127 : decode cX0_copy 127 = .ok (.getfield 60, 3) := by decide +kernel
theorem dX0_copy_130 : decode cX0_copy 130 = .ok (.putfield 60, 3) := by decide +kernel
theorem dX0_copy_133 : decode cX0_copy 133 = .ok (.return_, 1) := by decide +kernel
theorem dX0_loaded_0 : decode cX0_loaded 0 = .ok (.aload_n 0, 1) := by decide +kernel
theorem dX0_loaded_1 : decode cX0_loaded 1 = .ok (.getfield 23, 3) := by decide +kernel
theorem dX0_loaded_4 : decode cX0_loaded 4 = .ok (.invokevirtual 67, 3) := by decide +kernel
theorem dX0_loaded_7 : decode cX0_loaded 7 = .ok (.ireturn, 1) := by decide +kernel
theorem dX0_allLoaded_0 : decode cX0_allLoaded 0 = .ok (.aload_n 0, 1) := by decide +kernel
theorem dX0_allLoaded_1 : decode cX0_allLoaded 1 = .ok (.getfield 23, 3) := by decide +kernel
theorem dX0_allLoaded_4 : decode cX0_allLoaded 4 = .ok (.invokevirtual 67, 3) := by decide +kernel
theorem dX0_allLoaded_7 : decode cX0_allLoaded 7 = .ok (.bipush 120, 2) := by decide +kernel
theorem dX0_allLoaded_9 : decode cX0_allLoaded 9 = .ok (.if_icmp .lt 7, 3) := by decide +kernel
theorem dX0_allLoaded_12 : decode cX0_allLoaded 12 = .ok (.iconst 1, 1) := by decide +kernel
theorem dX0_allLoaded_13 : decode cX0_allLoaded 13 = .ok (.goto 4, 3) := by decide +kernel
theorem dX0_allLoaded_16 : decode cX0_allLoaded 16 = .ok (.iconst 0, 1) := by decide +kernel
theorem dX0_allLoaded_17 : decode cX0_allLoaded 17 = .ok (.ireturn, 1) := by decide +kernel
theorem dX0_runs_0 : decode cX0_runs 0 = .ok (.aload_n 0, 1) := by decide +kernel
theorem dX0_runs_1 : decode cX0_runs 1 = .ok (.getfield 36, 3) := by decide +kernel
theorem dX0_runs_4 : decode cX0_runs 4 = .ok (.invokevirtual 67, 3) := by decide +kernel
theorem dX0_runs_7 : decode cX0_runs 7 = .ok (.ireturn, 1) := by decide +kernel
theorem dX0_runNumber_0 : decode cX0_runNumber 0 = .ok (.aload_n 0, 1) := by decide +kernel
theorem dX0_runNumber_1 : decode cX0_runNumber 1 = .ok (.getfield 36, 3) := by decide +kernel
theorem dX0_runNumber_4 : decode cX0_runNumber 4 = .ok (.iload_n 1, 1) := by decide +kernel
theorem dX0_runNumber_5 : decode cX0_runNumber 5 = .ok (.invokevirtual 71, 3) := by decide +kernel
theorem dX0_runNumber_8 : decode cX0_runNumber 8 = .ok (.ireturn, 1) := by decide +kernel
theorem dX0_hasRun_0 : decode cX0_hasRun 0 = .ok (.aload_n 0, 1) := by decide +kernel
theorem dX0_hasRun_1 : decode cX0_hasRun 1 = .ok (.getfield 36, 3) := by decide +kernel
theorem dX0_hasRun_4 : decode cX0_hasRun 4 = .ok (.iload_n 1, 1) := by decide +kernel
theorem dX0_hasRun_5 : decode cX0_hasRun 5 = .ok (.invokevirtual 75, 3) := by decide +kernel
theorem dX0_hasRun_8 : decode cX0_hasRun 8 = .ok (.iconst (-1), 1) := by decide +kernel
theorem dX0_hasRun_9 : decode cX0_hasRun 9 = .ok (.if_icmp .eq 7, 3) := by decide +kernel
theorem dX0_hasRun_12 : decode cX0_hasRun 12 = .ok (.iconst 1, 1) := by decide +kernel
theorem dX0_hasRun_13 : decode cX0_hasRun 13 = .ok (.goto 4, 3) := by decide +kernel
theorem dX0_hasRun_16 : decode cX0_hasRun 16 = .ok (.iconst 0, 1) := by decide +kernel
theorem dX0_hasRun_17 : decode cX0_hasRun 17 = .ok (.ireturn, 1) := by decide +kernel
theorem dX0_isLess_0 : decode cX0_isLess 0 = .ok (.aload_n 0, 1) := by decide +kernel
theorem dX0_isLess_1 : decode cX0_isLess 1 = .ok (.getfield 23, 3) := by decide +kernel
theorem dX0_isLess_4 : decode cX0_isLess 4 = .ok (.iload_n 1, 1) := by decide +kernel
theorem dX0_isLess_5 : decode cX0_isLess 5 = .ok (.invokevirtual 71, 3) := by decide +kernel
theorem dX0_isLess_8 : decode cX0_isLess 8 = .ok (.istore_n 3, 1) := by decide +kernel
theorem dX0_isLess_9 : decode cX0_isLess 9 = .ok (.aload_n 0, 1) := by decide +kernel
theorem dX0_isLess_10 : decode cX0_isLess 10 = .ok (.getfield 23, 3) := by decide +kernel
theorem dX0_isLess_13 : decode cX0_isLess 13 = .ok (.iload_n 2, 1) := by decide +kernel
theorem dX0_isLess_14 : decode cX0_isLess 14 = .ok (.invokevirtual 71, 3) := by decide +kernel
theorem dX0_isLess_17 : decode cX0_isLess 17 = .ok (.istore 4, 2) := by decide +kernel
theorem dX0_isLess_19 : decode cX0_isLess 19 = .ok (.iload_n 3, 1) := by decide +kernel
theorem dX0_isLess_20 : decode cX0_isLess 20 = .ok (.iload 4, 2) := by decide +kernel
theorem dX0_isLess_22 : decode cX0_isLess 22 = .ok (.if_icmp .lt 14, 3) := by decide +kernel
theorem dX0_isLess_25 : decode cX0_isLess 25 = .ok (.iload_n 3, 1) := by decide +kernel
theorem dX0_isLess_26 : decode cX0_isLess 26 = .ok (.iload 4, 2) := by decide +kernel
theorem dX0_isLess_28 : decode cX0_isLess 28 = .ok (.if_icmp .ne 12, 3) := by decide +kernel
theorem dX0_isLess_31 : decode cX0_isLess 31 = .ok (.iload_n 1, 1) := by decide +kernel
theorem dX0_isLess_32 : decode cX0_isLess 32 = .ok (.iload_n 2, 1) := by decide +kernel
theorem dX0_isLess_33 : decode cX0_isLess 33 = .ok (.if_icmp .ge 7, 3) := by decide +kernel
theorem dX0_isLess_36 : decode cX0_isLess 36 = .ok (.iconst 1, 1) := by decide +kernel
theorem dX0_isLess_37 : decode cX0_isLess 37 = .ok (.goto 4, 3) := by decide +kernel
theorem dX0_isLess_40 : decode cX0_isLess 40 = .ok (.iconst 0, 1) := by decide +kernel
theorem dX0_isLess_41 : decode cX0_isLess 41 = .ok (.ireturn, 1) := by decide +kernel
theorem dX0_countAt_0 : decode cX0_countAt 0 = .ok (.iconst 0, 1) := by decide +kernel
theorem dX0_countAt_1 : decode cX0_countAt 1 = .ok (.istore_n 2, 1) := by decide +kernel
theorem dX0_countAt_2 : decode cX0_countAt 2 = .ok (.iconst 0, 1) := by decide +kernel
theorem dX0_countAt_3 : decode cX0_countAt 3 = .ok (.istore_n 3, 1) := by decide +kernel
theorem dX0_countAt_4 : decode cX0_countAt 4 = .ok (.iload_n 3, 1) := by decide +kernel
theorem dX0_countAt_5 : decode cX0_countAt 5 = .ok (.aload_n 0, 1) := by decide +kernel
theorem dX0_countAt_6 : decode cX0_countAt 6 = .ok (.getfield 30, 3) := by decide +kernel
theorem dX0_countAt_9 : decode cX0_countAt 9 = .ok (.invokevirtual 67, 3) := by decide +kernel
theorem dX0_countAt_12 : decode cX0_countAt 12 = .ok (.if_icmp .ge 24, 3) := by decide +kernel
theorem dX0_countAt_15 : decode cX0_countAt 15 = .ok (.aload_n 0, 1) := by decide +kernel
theorem dX0_countAt_16 : decode cX0_countAt 16 = .ok (.getfield 30, 3) := by decide +kernel
theorem dX0_countAt_19 : decode cX0_countAt 19 = .ok (.iload_n 3, 1) := by decide +kernel
theorem dX0_countAt_20 : decode cX0_countAt 20 = .ok (.invokevirtual 71, 3) := by decide +kernel
theorem dX0_countAt_23 : decode cX0_countAt 23 = .ok (.iload_n 1, 1) := by decide +kernel
theorem dX0_countAt_24 : decode cX0_countAt 24 = .ok (.if_icmp .ne 6, 3) := by decide +kernel
theorem dX0_countAt_27 : decode cX0_countAt 27 = .ok (.iinc 2 1, 3) := by decide +kernel
theorem dX0_countAt_30 : decode cX0_countAt 30 = .ok (.iinc 3 1, 3) := by decide +kernel
theorem dX0_countAt_33 : decode cX0_countAt 33 = .ok (.goto (-29), 3) := by decide +kernel
theorem dX0_countAt_36 : decode cX0_countAt 36 = .ok (.iload_n 2, 1) := by decide +kernel
theorem dX0_countAt_37 : decode cX0_countAt 37 = .ok (.ireturn, 1) := by decide +kernel
theorem dX0_parcelAt_0 : decode cX0_parcelAt 0 = .ok (.iload_n 2, 1) := by decide +kernel
theorem dX0_parcelAt_1 : decode cX0_parcelAt 1 = .ok (.istore_n 3, 1) := by decide +kernel
theorem dX0_parcelAt_2 : decode cX0_parcelAt 2 = .ok (.iconst 0, 1) := by decide +kernel
theorem dX0_parcelAt_3 : decode cX0_parcelAt 3 = .ok (.istore 4, 2) := by decide +kernel
theorem dX0_parcelAt_5 : decode cX0_parcelAt 5 = .ok (.iload 4, 2) := by decide +kernel
theorem dX0_parcelAt_7 : decode cX0_parcelAt 7 = .ok (.aload_n 0, 1) := by decide +kernel
theorem dX0_parcelAt_8 : decode cX0_parcelAt 8 = .ok (.getfield 33, 3) := by decide +kernel
theorem dX0_parcelAt_11 : decode cX0_parcelAt 11 = .ok (.invokevirtual 67, 3) := by decide +kernel
theorem dX0_parcelAt_14 : decode cX0_parcelAt 14 = .ok (.if_icmp .ge 43, 3) := by decide +kernel
theorem dX0_parcelAt_17 : decode cX0_parcelAt 17 = .ok (.aload_n 0, 1) := by decide +kernel
theorem dX0_parcelAt_18 : decode cX0_parcelAt 18 = .ok (.getfield 33, 3) := by decide +kernel
theorem dX0_parcelAt_21 : decode cX0_parcelAt 21 = .ok (.iload 4, 2) := by decide +kernel
theorem dX0_parcelAt_23 : decode cX0_parcelAt 23 = .ok (.invokevirtual 71, 3) := by decide +kernel
theorem dX0_parcelAt_26 : decode cX0_parcelAt 26 = .ok (.istore 5, 2) := by decide +kernel
theorem dX0_parcelAt_28 : decode cX0_parcelAt 28 = .ok (.aload_n 0, 1) := by decide +kernel
theorem dX0_parcelAt_29 : decode cX0_parcelAt 29 = .ok (.getfield 30, 3) := by decide +kernel
theorem dX0_parcelAt_32 : decode cX0_parcelAt 32 = .ok (.iload 5, 2) := by decide +kernel
theorem dX0_parcelAt_34 : decode cX0_parcelAt 34 = .ok (.invokevirtual 71, 3) := by decide +kernel
theorem dX0_parcelAt_37 : decode cX0_parcelAt 37 = .ok (.iload_n 1, 1) := by decide +kernel
theorem dX0_parcelAt_38 : decode cX0_parcelAt 38 = .ok (.if_icmp .ne 13, 3) := by decide +kernel
theorem dX0_parcelAt_41 : decode cX0_parcelAt 41 = .ok (.iload_n 3, 1) := by decide +kernel
theorem dX0_parcelAt_42 : decode cX0_parcelAt 42 = .ok (.ifCond .ne 6, 3) := by decide +kernel
theorem dX0_parcelAt_45 : decode cX0_parcelAt 45 = .ok (.iload 5, 2) := by decide +kernel
theorem dX0_parcelAt_47 : decode cX0_parcelAt 47 = .ok (.ireturn, 1) := by decide +kernel
theorem dX0_parcelAt_48 : decode cX0_parcelAt 48 = .ok (.iinc 3 (-1), 3) := by decide +kernel
theorem dX0_parcelAt_51 : decode cX0_parcelAt 51 = .ok (.iinc 4 1, 3) := by decide +kernel
theorem dX0_parcelAt_54 : decode cX0_parcelAt 54 = .ok (.goto (-49), 3) := by decide +kernel
theorem dX0_parcelAt_57 : decode cX0_parcelAt 57 = .ok (.iconst (-1), 1) := by decide +kernel
theorem dX0_parcelAt_58 : decode cX0_parcelAt 58 = .ok (.ireturn, 1) := by decide +kernel
theorem dX0_lastAt_0 : decode cX0_lastAt 0 = .ok (.aload_n 0, 1) := by decide +kernel
theorem dX0_lastAt_1 : decode cX0_lastAt 1 = .ok (.getfield 33, 3) := by decide +kernel
theorem dX0_lastAt_4 : decode cX0_lastAt 4 = .ok (.invokevirtual 67, 3) := by decide +kernel
theorem dX0_lastAt_7 : decode cX0_lastAt 7 = .ok (.iconst 1, 1) := by decide +kernel
theorem dX0_lastAt_8 : decode cX0_lastAt 8 = .ok (.isub, 1) := by decide +kernel
theorem dX0_lastAt_9 : decode cX0_lastAt 9 = .ok (.istore_n 2, 1) := by decide +kernel
theorem dX0_lastAt_10 : decode cX0_lastAt 10 = .ok (.iload_n 2, 1) := by decide +kernel
theorem dX0_lastAt_11 : decode cX0_lastAt 11 = .ok (.ifCond .lt 32, 3) := by decide +kernel
theorem dX0_lastAt_14 : decode cX0_lastAt 14 = .ok (.aload_n 0, 1) := by decide +kernel
theorem dX0_lastAt_15 : decode cX0_lastAt 15 = .ok (.getfield 33, 3) := by decide +kernel
theorem dX0_lastAt_18 : decode cX0_lastAt 18 = .ok (.iload_n 2, 1) := by decide +kernel
theorem dX0_lastAt_19 : decode cX0_lastAt 19 = .ok (.invokevirtual 71, 3) := by decide +kernel
theorem dX0_lastAt_22 : decode cX0_lastAt 22 = .ok (.istore_n 3, 1) := by decide +kernel
theorem dX0_lastAt_23 : decode cX0_lastAt 23 = .ok (.aload_n 0, 1) := by decide +kernel
theorem dX0_lastAt_24 : decode cX0_lastAt 24 = .ok (.getfield 30, 3) := by decide +kernel
theorem dX0_lastAt_27 : decode cX0_lastAt 27 = .ok (.iload_n 3, 1) := by decide +kernel
theorem dX0_lastAt_28 : decode cX0_lastAt 28 = .ok (.invokevirtual 71, 3) := by decide +kernel
theorem dX0_lastAt_31 : decode cX0_lastAt 31 = .ok (.iload_n 1, 1) := by decide +kernel
theorem dX0_lastAt_32 : decode cX0_lastAt 32 = .ok (.if_icmp .ne 5, 3) := by decide +kernel
theorem dX0_lastAt_35 : decode cX0_lastAt 35 = .ok (.iload_n 3, 1) := by decide +kernel
theorem dX0_lastAt_36 : decode cX0_lastAt 36 = .ok (.ireturn, 1) := by decide +kernel
theorem dX0_lastAt_37 : decode cX0_lastAt 37 = .ok (.iinc 2 (-1), 3) := by decide +kernel
theorem dX0_lastAt_40 : decode cX0_lastAt 40 = .ok (.goto (-30), 3) := by decide +kernel
theorem dX0_lastAt_43 : decode cX0_lastAt 43 = .ok (.iconst (-1), 1) := by decide +kernel
theorem dX0_lastAt_44 : decode cX0_lastAt 44 = .ok (.ireturn, 1) := by decide +kernel
theorem dX0_placeOf_0 : decode cX0_placeOf 0 = .ok (.aload_n 0, 1) := by decide +kernel
theorem dX0_placeOf_1 : decode cX0_placeOf 1 = .ok (.getfield 30, 3) := by decide +kernel
theorem dX0_placeOf_4 : decode cX0_placeOf 4 = .ok (.iload_n 1, 1) := by decide +kernel
theorem dX0_placeOf_5 : decode cX0_placeOf 5 = .ok (.invokevirtual 71, 3) := by decide +kernel
theorem dX0_placeOf_8 : decode cX0_placeOf 8 = .ok (.istore_n 2, 1) := by decide +kernel
theorem dX0_placeOf_9 : decode cX0_placeOf 9 = .ok (.iconst 0, 1) := by decide +kernel
theorem dX0_placeOf_10 : decode cX0_placeOf 10 = .ok (.istore_n 3, 1) := by decide +kernel
theorem dX0_placeOf_11 : decode cX0_placeOf 11 = .ok (.iconst 0, 1) := by decide +kernel
theorem dX0_placeOf_12 : decode cX0_placeOf 12 = .ok (.istore 4, 2) := by decide +kernel
theorem dX0_placeOf_14 : decode cX0_placeOf 14 = .ok (.iload 4, 2) := by decide +kernel
theorem dX0_placeOf_16 : decode cX0_placeOf 16 = .ok (.aload_n 0, 1) := by decide +kernel
theorem dX0_placeOf_17 : decode cX0_placeOf 17 = .ok (.getfield 33, 3) := by decide +kernel
theorem dX0_placeOf_20 : decode cX0_placeOf 20 = .ok (.invokevirtual 67, 3) := by decide +kernel
theorem dX0_placeOf_23 : decode cX0_placeOf 23 = .ok (.if_icmp .ge 44, 3) := by decide +kernel
theorem dX0_placeOf_26 : decode cX0_placeOf 26 = .ok (.aload_n 0, 1) := by decide +kernel
theorem dX0_placeOf_27 : decode cX0_placeOf 27 = .ok (.getfield 33, 3) := by decide +kernel
theorem dX0_placeOf_30 : decode cX0_placeOf 30 = .ok (.iload 4, 2) := by decide +kernel
theorem dX0_placeOf_32 : decode cX0_placeOf 32 = .ok (.invokevirtual 71, 3) := by decide +kernel
theorem dX0_placeOf_35 : decode cX0_placeOf 35 = .ok (.istore 5, 2) := by decide +kernel
theorem dX0_placeOf_37 : decode cX0_placeOf 37 = .ok (.iload 5, 2) := by decide +kernel
theorem dX0_placeOf_39 : decode cX0_placeOf 39 = .ok (.iload_n 1, 1) := by decide +kernel
theorem dX0_placeOf_40 : decode cX0_placeOf 40 = .ok (.if_icmp .ne 5, 3) := by decide +kernel
theorem dX0_placeOf_43 : decode cX0_placeOf 43 = .ok (.iload_n 3, 1) := by decide +kernel
theorem dX0_placeOf_44 : decode cX0_placeOf 44 = .ok (.ireturn, 1) := by decide +kernel
theorem dX0_placeOf_45 : decode cX0_placeOf 45 = .ok (.aload_n 0, 1) := by decide +kernel
theorem dX0_placeOf_46 : decode cX0_placeOf 46 = .ok (.getfield 30, 3) := by decide +kernel
theorem dX0_placeOf_49 : decode cX0_placeOf 49 = .ok (.iload 5, 2) := by decide +kernel
theorem dX0_placeOf_51 : decode cX0_placeOf 51 = .ok (.invokevirtual 71, 3) := by decide +kernel
theorem dX0_placeOf_54 : decode cX0_placeOf 54 = .ok (.iload_n 2, 1) := by decide +kernel
theorem dX0_placeOf_55 : decode cX0_placeOf 55 = .ok (.if_icmp .ne 6, 3) := by decide +kernel
theorem dX0_placeOf_58 : decode cX0_placeOf 58 = .ok (.iinc 3 1, 3) := by decide +kernel
theorem dX0_placeOf_61 : decode cX0_placeOf 61 = .ok (.iinc 4 1, 3) := by decide +kernel
theorem dX0_placeOf_64 : decode cX0_placeOf 64 = .ok (.goto (-50), 3) := by decide +kernel
theorem dX0_placeOf_67 : decode cX0_placeOf 67 = .ok (.iconst (-1), 1) := by decide +kernel
theorem dX0_placeOf_68 : decode cX0_placeOf 68 = .ok (.ireturn, 1) := by decide +kernel
theorem dX0_take_0 : decode cX0_take 0 = .ok (.aload_n 0, 1) := by decide +kernel
theorem dX0_take_1 : decode cX0_take 1 = .ok (.iconst (-1), 1) := by decide +kernel
theorem dX0_take_2 : decode cX0_take 2 = .ok (.invokevirtual 78, 3) := by decide +kernel
theorem dX0_take_5 : decode cX0_take 5 = .ok (.aload_n 0, 1) := by decide +kernel
theorem dX0_take_6 : decode cX0_take 6 = .ok (.getfield 9, 3) := by decide +kernel
theorem dX0_take_9 : decode cX0_take 9 = .ok (.if_icmp .lt 10, 3) := by decide +kernel
theorem dX0_take_12 : decode cX0_take 12 = .ok (.aload_n 0, 1) := by decide +kernel
theorem dX0_take_13 : decode cX0_take 13 = .ok (.invokevirtual 81, 3) := by decide +kernel
theorem dX0_take_16 : decode cX0_take 16 = .ok (.goto 4, 3) := by decide +kernel
theorem dX0_take_19 : decode cX0_take 19 = .ok (.iconst (-1), 1) := by decide +kernel
theorem dX0_take_20 : decode cX0_take 20 = .ok (.istore_n 3, 1) := by decide +kernel
theorem dX0_take_21 : decode cX0_take 21 = .ok (.aload_n 0, 1) := by decide +kernel
theorem dX0_take_22 : decode cX0_take 22 = .ok (.getfield 33, 3) := by decide +kernel
theorem dX0_take_25 : decode cX0_take 25 = .ok (.aload_n 0, 1) := by decide +kernel
theorem dX0_take_26 : decode cX0_take 26 = .ok (.iload_n 1, 1) := by decide +kernel
theorem dX0_take_27 : decode cX0_take 27 = .ok (.invokevirtual 84, 3) := by decide +kernel
theorem dX0_take_30 : decode cX0_take 30 = .ok (.aload_n 0, 1) := by decide +kernel
theorem dX0_take_31 : decode cX0_take 31 = .ok (.getfield 23, 3) := by decide +kernel
theorem dX0_take_34 : decode cX0_take 34 = .ok (.invokevirtual 67, 3) := by decide +kernel
theorem dX0_take_37 : decode cX0_take 37 = .ok (.invokevirtual 87, 3) := by decide +kernel
theorem dX0_take_40 : decode cX0_take 40 = .ok (.aload_n 0, 1) := by decide +kernel
theorem dX0_take_41 : decode cX0_take 41 = .ok (.getfield 23, 3) := by decide +kernel
theorem dX0_take_44 : decode cX0_take 44 = .ok (.iload_n 1, 1) := by decide +kernel
theorem dX0_take_45 : decode cX0_take 45 = .ok (.invokevirtual 91, 3) := by decide +kernel
theorem dX0_take_48 : decode cX0_take 48 = .ok (.aload_n 0, 1) := by decide +kernel
theorem dX0_take_49 : decode cX0_take 49 = .ok (.getfield 27, 3) := by decide +kernel
theorem dX0_take_52 : decode cX0_take 52 = .ok (.iload_n 2, 1) := by decide +kernel
theorem dX0_take_53 : decode cX0_take 53 = .ok (.invokevirtual 91, 3) := by decide +kernel
theorem dX0_take_56 : decode cX0_take 56 = .ok (.aload_n 0, 1) := by decide +kernel
theorem dX0_take_57 : decode cX0_take 57 = .ok (.getfield 30, 3) := by decide +kernel
theorem dX0_take_60 : decode cX0_take 60 = .ok (.iconst (-1), 1) := by decide +kernel
theorem dX0_take_61 : decode cX0_take 61 = .ok (.invokevirtual 91, 3) := by decide +kernel
theorem dX0_take_64 : decode cX0_take 64 = .ok (.iload_n 3, 1) := by decide +kernel
theorem dX0_take_65 : decode cX0_take 65 = .ok (.ireturn, 1) := by decide +kernel
theorem dX0_notGreater_0 : decode cX0_notGreater 0 = .ok (.iconst 0, 1) := by decide +kernel
theorem dX0_notGreater_1 : decode cX0_notGreater 1 = .ok (.istore_n 2, 1) := by decide +kernel
theorem dX0_notGreater_2 : decode cX0_notGreater 2 = .ok (.iconst 0, 1) := by decide +kernel
theorem dX0_notGreater_3 : decode cX0_notGreater 3 = .ok (.istore_n 3, 1) := by decide +kernel
theorem dX0_notGreater_4 : decode cX0_notGreater 4 = .ok (.iload_n 3, 1) := by decide +kernel
theorem dX0_notGreater_5 : decode cX0_notGreater 5 = .ok (.aload_n 0, 1) := by decide +kernel
theorem dX0_notGreater_6 : decode cX0_notGreater 6 = .ok (.getfield 23, 3) := by decide +kernel
theorem dX0_notGreater_9 : decode cX0_notGreater 9 = .ok (.invokevirtual 67, 3) := by decide +kernel
theorem dX0_notGreater_12 : decode cX0_notGreater 12 = .ok (.if_icmp .ge 24, 3) := by decide +kernel
theorem dX0_notGreater_15 : decode cX0_notGreater 15 = .ok (.aload_n 0, 1) := by decide +kernel
theorem dX0_notGreater_16 : decode cX0_notGreater 16 = .ok (.getfield 23, 3) := by decide +kernel
theorem dX0_notGreater_19 : decode cX0_notGreater 19 = .ok (.iload_n 3, 1) := by decide +kernel
theorem dX0_notGreater_20 : decode cX0_notGreater 20 = .ok (.invokevirtual 71, 3) := by decide +kernel
theorem dX0_notGreater_23 : decode cX0_notGreater 23 = .ok (.iload_n 1, 1) := by decide +kernel
theorem dX0_notGreater_24 : decode cX0_notGreater 24 = .ok (.if_icmp .gt 6, 3) := by decide +kernel
theorem dX0_notGreater_27 : decode cX0_notGreater 27 = .ok (.iinc 2 1, 3) := by decide +kernel
theorem dX0_notGreater_30 : decode cX0_notGreater 30 = .ok (.iinc 3 1, 3) := by decide +kernel
theorem dX0_notGreater_33 : decode cX0_notGreater 33 = .ok (.goto (-29), 3) := by decide +kernel
theorem dX0_notGreater_36 : decode cX0_notGreater 36 = .ok (.iload_n 2, 1) := by decide +kernel
theorem dX0_notGreater_37 : decode cX0_notGreater 37 = .ok (.ireturn, 1) := by decide +kernel
theorem dX0_nextOverboard_0 : decode cX0_nextOverboard 0 = .ok (.aload_n 0, 1) := by decide +kernel
theorem dX0_nextOverboard_1 : decode cX0_nextOverboard 1 = .ok (.getfield 15, 3) := by decide +kernel
theorem dX0_nextOverboard_4 : decode cX0_nextOverboard 4 = .ok (.iconst (-1), 1) := by decide +kernel
theorem dX0_nextOverboard_5 : decode cX0_nextOverboard 5 = .ok (.if_icmp .ne 7, 3) := by decide +kernel
theorem dX0_nextOverboard_8 : decode cX0_nextOverboard 8 = .ok (.iconst (-1), 1) := by decide +kernel
theorem dX0_nextOverboard_9 : decode cX0_nextOverboard 9 = .ok (.goto 11, 3) := by decide +kernel
theorem dX0_nextOverboard_12 : decode cX0_nextOverboard 12 = .ok (.aload_n 0, 1) := by decide +kernel
theorem dX0_nextOverboard_13 : decode cX0_nextOverboard 13 = .ok (.aload_n 0, 1) := by decide +kernel
theorem dX0_nextOverboard_14 : decode cX0_nextOverboard 14 = .ok (.getfield 15, 3) := by decide +kernel
theorem dX0_nextOverboard_17 : decode cX0_nextOverboard 17 = .ok (.invokevirtual 114, 3) := by decide +kernel
theorem dX0_nextOverboard_20 : decode cX0_nextOverboard 20 = .ok (.istore_n 1, 1) := by decide +kernel
theorem dX0_nextOverboard_21 : decode cX0_nextOverboard 21 = .ok (.iconst (-1), 1) := by decide +kernel
theorem dX0_nextOverboard_22 : decode cX0_nextOverboard 22 = .ok (.istore_n 2, 1) := by decide +kernel
theorem dX0_nextOverboard_23 : decode cX0_nextOverboard 23 = .ok (.iconst 0, 1) := by decide +kernel
theorem dX0_nextOverboard_24 : decode cX0_nextOverboard 24 = .ok (.istore_n 3, 1) := by decide +kernel
theorem dX0_nextOverboard_25 : decode cX0_nextOverboard 25 = .ok (.iload_n 3, 1) := by decide +kernel
theorem dX0_nextOverboard_26 : decode cX0_nextOverboard 26 = .ok (.aload_n 0, 1) := by decide +kernel
theorem dX0_nextOverboard_27 : decode cX0_nextOverboard 27 = .ok (.getfield 33, 3) := by decide +kernel
theorem dX0_nextOverboard_30 : decode cX0_nextOverboard 30 = .ok (.invokevirtual 67, 3) := by decide +kernel
theorem dX0_nextOverboard_33 : decode cX0_nextOverboard 33 = .ok (.if_icmp .ge 58, 3) := by decide +kernel
theorem dX0_nextOverboard_36 : decode cX0_nextOverboard 36 = .ok (.aload_n 0, 1) := by decide +kernel
theorem dX0_nextOverboard_37 : decode cX0_nextOverboard 37 = .ok (.getfield 33, 3) := by decide +kernel
theorem dX0_nextOverboard_40 : decode cX0_nextOverboard 40 = .ok (.iload_n 3, 1) := by decide +kernel
theorem dX0_nextOverboard_41 : decode cX0_nextOverboard 41 = .ok (.invokevirtual 71, 3) := by decide +kernel
theorem dX0_nextOverboard_44 : decode cX0_nextOverboard 44 = .ok (.istore 4, 2) := by decide +kernel
theorem dX0_nextOverboard_46 : decode cX0_nextOverboard 46 = .ok (.aload_n 0, 1) := by decide +kernel
theorem dX0_nextOverboard_47 : decode cX0_nextOverboard 47 = .ok (.getfield 30, 3) := by decide +kernel
theorem dX0_nextOverboard_50 : decode cX0_nextOverboard 50 = .ok (.iload 4, 2) := by decide +kernel
theorem dX0_nextOverboard_52 : decode cX0_nextOverboard 52 = .ok (.invokevirtual 71, 3) := by decide +kernel
theorem dX0_nextOverboard_55 : decode cX0_nextOverboard 55 = .ok (.iconst (-1), 1) := by decide +kernel
theorem dX0_nextOverboard_56 : decode cX0_nextOverboard 56 = .ok (.if_icmp .ne 29, 3) := by decide +kernel
theorem dX0_nextOverboard_59 : decode cX0_nextOverboard 59 = .ok (.iload_n 1, 1) := by decide +kernel
theorem dX0_nextOverboard_60 : decode cX0_nextOverboard 60 = .ok (.iconst (-1), 1) := by decide +kernel
theorem dX0_nextOverboard_61 : decode cX0_nextOverboard 61 = .ok (.if_icmp .eq 13, 3) := by decide +kernel
theorem dX0_nextOverboard_64 : decode cX0_nextOverboard 64 = .ok (.aload_n 0, 1) := by decide +kernel
theorem dX0_nextOverboard_65 : decode cX0_nextOverboard 65 = .ok (.iload_n 1, 1) := by decide +kernel
theorem dX0_nextOverboard_66 : decode cX0_nextOverboard 66 = .ok (.iload 4, 2) := by decide +kernel
theorem dX0_nextOverboard_68 : decode cX0_nextOverboard 68 = .ok (.invokevirtual 117, 3) := by decide +kernel
theorem dX0_nextOverboard_71 : decode cX0_nextOverboard 71 = .ok (.ifCond .eq 6, 3) := by decide +kernel
theorem dX0_nextOverboard_74 : decode cX0_nextOverboard 74 = .ok (.iload 4, 2) := by decide +kernel
theorem dX0_nextOverboard_76 : decode cX0_nextOverboard 76 = .ok (.ireturn, 1) := by decide +kernel
theorem dX0_nextOverboard_77 : decode cX0_nextOverboard 77 = .ok (.iload_n 2, 1) := by decide +kernel
theorem dX0_nextOverboard_78 : decode cX0_nextOverboard 78 = .ok (.iconst (-1), 1) := by decide +kernel
theorem dX0_nextOverboard_79 : decode cX0_nextOverboard 79 = .ok (.if_icmp .ne 6, 3) := by decide +kernel
theorem dX0_nextOverboard_82 : decode cX0_nextOverboard 82 = .ok (.iload 4, 2) := by decide +kernel
theorem dX0_nextOverboard_84 : decode cX0_nextOverboard 84 = .ok (.istore_n 2, 1) := by decide +kernel
theorem dX0_nextOverboard_85 : decode cX0_nextOverboard 85 = .ok (.iinc 3 1, 3) := by decide +kernel
theorem dX0_nextOverboard_88 : decode cX0_nextOverboard 88 = .ok (.goto (-63), 3) := by decide +kernel
theorem dX0_nextOverboard_91 : decode cX0_nextOverboard 91 = .ok (.iload_n 2, 1) := by decide +kernel
theorem dX0_nextOverboard_92 : decode cX0_nextOverboard 92 = .ok (.ireturn, 1) := by decide +kernel
theorem dX0_throwOne_0 : decode cX0_throwOne 0 = .ok (.aload_n 0, 1) := by decide +kernel
theorem dX0_throwOne_1 : decode cX0_throwOne 1 = .ok (.invokevirtual 121, 3) := by decide +kernel
theorem dX0_throwOne_4 : decode cX0_throwOne 4 = .ok (.istore_n 1, 1) := by decide +kernel
theorem dX0_throwOne_5 : decode cX0_throwOne 5 = .ok (.iload_n 1, 1) := by decide +kernel
theorem dX0_throwOne_6 : decode cX0_throwOne 6 = .ok (.iconst (-1), 1) := by decide +kernel
theorem dX0_throwOne_7 : decode cX0_throwOne 7 = .ok (.if_icmp .ne 5, 3) := by decide +kernel
theorem dX0_throwOne_10 : decode cX0_throwOne 10 = .ok (.iconst (-1), 1) := by decide +kernel
theorem dX0_throwOne_11 : decode cX0_throwOne 11 = .ok (.ireturn, 1) := by decide +kernel
theorem dX0_throwOne_12 : decode cX0_throwOne 12 = .ok (.aload_n 0, 1) := by decide +kernel
theorem dX0_throwOne_13 : decode cX0_throwOne 13 = .ok (.getfield 15, 3) := by decide +kernel
theorem dX0_throwOne_16 : decode cX0_throwOne 16 = .ok (.iconst (-1), 1) := by decide +kernel
theorem dX0_throwOne_17 : decode cX0_throwOne 17 = .ok (.if_icmp .eq 19, 3) := by decide +kernel
theorem dX0_throwOne_20 : decode cX0_throwOne 20 = .ok (.aload_n 0, 1) := by decide +kernel
theorem dX0_throwOne_21 : decode cX0_throwOne 21 = .ok (.iload_n 1, 1) := by decide +kernel
theorem dX0_throwOne_22 : decode cX0_throwOne 22 = .ok (.aload_n 0, 1) := by decide +kernel
theorem dX0_throwOne_23 : decode cX0_throwOne 23 = .ok (.aload_n 0, 1) := by decide +kernel
theorem dX0_throwOne_24 : decode cX0_throwOne 24 = .ok (.getfield 15, 3) := by decide +kernel
theorem dX0_throwOne_27 : decode cX0_throwOne 27 = .ok (.invokevirtual 114, 3) := by decide +kernel
theorem dX0_throwOne_30 : decode cX0_throwOne 30 = .ok (.invokevirtual 117, 3) := by decide +kernel
theorem dX0_throwOne_33 : decode cX0_throwOne 33 = .ok (.ifCond .eq 11, 3) := by decide +kernel
theorem dX0_throwOne_36 : decode cX0_throwOne 36 = .ok (.aload_n 0, 1) := by decide +kernel
theorem dX0_throwOne_37 : decode cX0_throwOne 37 = .ok (.aload_n 0, 1) := by decide +kernel
theorem dX0_throwOne_38 : decode cX0_throwOne 38 = .ok (.invokevirtual 124, 3) := by decide +kernel
theorem dX0_throwOne_41 : decode cX0_throwOne 41 = .ok (.putfield 15, 3) := by decide +kernel
theorem dX0_throwOne_44 : decode cX0_throwOne 44 = .ok (.aload_n 0, 1) := by decide +kernel
theorem dX0_throwOne_45 : decode cX0_throwOne 45 = .ok (.iload_n 1, 1) := by decide +kernel
theorem dX0_throwOne_46 : decode cX0_throwOne 46 = .ok (.aload_n 0, 1) := by decide +kernel
theorem dX0_throwOne_47 : decode cX0_throwOne 47 = .ok (.getfield 36, 3) := by decide +kernel
theorem dX0_throwOne_50 : decode cX0_throwOne 50 = .ok (.aload_n 0, 1) := by decide +kernel
theorem dX0_throwOne_51 : decode cX0_throwOne 51 = .ok (.getfield 15, 3) := by decide +kernel
theorem dX0_throwOne_54 : decode cX0_throwOne 54 = .ok (.invokevirtual 75, 3) := by decide +kernel
theorem dX0_throwOne_57 : decode cX0_throwOne 57 = .ok (.invokevirtual 127, 3) := by decide +kernel
theorem dX0_throwOne_60 : decode cX0_throwOne 60 = .ok (.aload_n 0, 1) := by decide +kernel
theorem dX0_throwOne_61 : decode cX0_throwOne 61 = .ok (.getfield 15, 3) := by decide +kernel
theorem dX0_throwOne_64 : decode cX0_throwOne 64 = .ok (.ireturn, 1) := by decide +kernel
theorem dX0_throwAll_0 : decode cX0_throwAll 0 = .ok (.aload_n 0, 1) := by decide +kernel
theorem dX0_throwAll_1 : decode cX0_throwAll 1 = .ok (.iconst (-1), 1) := by decide +kernel
theorem dX0_throwAll_2 : decode cX0_throwAll 2 = .ok (.invokevirtual 78, 3) := by decide +kernel
theorem dX0_throwAll_5 : decode cX0_throwAll 5 = .ok (.istore_n 1, 1) := by decide +kernel
theorem dX0_throwAll_6 : decode cX0_throwAll 6 = .ok (.iload_n 1, 1) := by decide +kernel
theorem dX0_throwAll_7 : decode cX0_throwAll 7 = .ok (.ifCond .le 14, 3) := by decide +kernel
theorem dX0_throwAll_10 : decode cX0_throwAll 10 = .ok (.aload_n 0, 1) := by decide +kernel
theorem dX0_throwAll_11 : decode cX0_throwAll 11 = .ok (.invokevirtual 81, 3) := by decide +kernel
theorem dX0_throwAll_14 : decode cX0_throwAll 14 = .ok (.pop, 1) := by decide +kernel
theorem dX0_throwAll_15 : decode cX0_throwAll 15 = .ok (.iinc 1 (-1), 3) := by decide +kernel
theorem dX0_throwAll_18 : decode cX0_throwAll 18 = .ok (.goto (-12), 3) := by decide +kernel
theorem dX0_throwAll_21 : decode cX0_throwAll 21 = .ok (.aload_n 0, 1) := by decide +kernel
theorem dX0_throwAll_22 : decode cX0_throwAll 22 = .ok (.iconst (-1), 1) := by decide +kernel
theorem dX0_throwAll_23 : decode cX0_throwAll 23 = .ok (.putfield 15, 3) := by decide +kernel
theorem dX0_throwAll_26 : decode cX0_throwAll 26 = .ok (.aload_n 0, 1) := by decide +kernel
theorem dX0_throwAll_27 : decode cX0_throwAll 27 = .ok (.getfield 36, 3) := by decide +kernel
theorem dX0_throwAll_30 : decode cX0_throwAll 30 = .ok (.invokevirtual 67, 3) := by decide +kernel
theorem dX0_throwAll_33 : decode cX0_throwAll 33 = .ok (.ireturn, 1) := by decide +kernel
theorem dX0_newFloat_0 : decode cX0_newFloat 0 = .ok (.aload_n 0, 1) := by decide +kernel
theorem dX0_newFloat_1 : decode cX0_newFloat 1 = .ok (.getfield 48, 3) := by decide +kernel
theorem dX0_newFloat_4 : decode cX0_newFloat 4 = .ok (.istore_n 1, 1) := by decide +kernel
theorem dX0_newFloat_5 : decode cX0_newFloat 5 = .ok (.aload_n 0, 1) := by decide +kernel
theorem dX0_newFloat_6 : decode cX0_newFloat 6 = .ok (.dup, 1) := by decide +kernel
theorem dX0_newFloat_7 : decode cX0_newFloat 7 = .ok (.getfield 48, 3) := by decide +kernel
theorem dX0_newFloat_10 : decode cX0_newFloat 10 = .ok (.iconst 1, 1) := by decide +kernel
theorem dX0_newFloat_11 : decode cX0_newFloat 11 = .ok (.iadd, 1) := by decide +kernel
theorem dX0_newFloat_12 : decode cX0_newFloat 12 = .ok (.putfield 48, 3) := by decide +kernel
theorem dX0_newFloat_15 : decode cX0_newFloat 15 = .ok (.aload_n 0, 1) := by decide +kernel
theorem dX0_newFloat_16 : decode cX0_newFloat 16 = .ok (.getfield 36, 3) := by decide +kernel
theorem dX0_newFloat_19 : decode cX0_newFloat 19 = .ok (.iload_n 1, 1) := by decide +kernel
theorem dX0_newFloat_20 : decode cX0_newFloat 20 = .ok (.invokevirtual 91, 3) := by decide +kernel
theorem dX0_newFloat_23 : decode cX0_newFloat 23 = .ok (.aload_n 0, 1) := by decide +kernel
theorem dX0_newFloat_24 : decode cX0_newFloat 24 = .ok (.getfield 39, 3) := by decide +kernel
theorem dX0_newFloat_27 : decode cX0_newFloat 27 = .ok (.iconst 5, 1) := by decide +kernel
theorem dX0_newFloat_28 : decode cX0_newFloat 28 = .ok (.invokevirtual 91, 3) := by decide +kernel
theorem dX0_newFloat_31 : decode cX0_newFloat 31 = .ok (.aload_n 0, 1) := by decide +kernel
theorem dX0_newFloat_32 : decode cX0_newFloat 32 = .ok (.getfield 42, 3) := by decide +kernel
theorem dX0_newFloat_35 : decode cX0_newFloat 35 = .ok (.iconst 0, 1) := by decide +kernel
theorem dX0_newFloat_36 : decode cX0_newFloat 36 = .ok (.invokevirtual 91, 3) := by decide +kernel
theorem dX0_newFloat_39 : decode cX0_newFloat 39 = .ok (.iload_n 1, 1) := by decide +kernel
theorem dX0_newFloat_40 : decode cX0_newFloat 40 = .ok (.ireturn, 1) := by decide +kernel
theorem dX0_tie_0 : decode cX0_tie 0 = .ok (.aload_n 0, 1) := by decide +kernel
theorem dX0_tie_1 : decode cX0_tie 1 = .ok (.getfield 30, 3) := by decide +kernel
theorem dX0_tie_4 : decode cX0_tie 4 = .ok (.iload_n 1, 1) := by decide +kernel
theorem dX0_tie_5 : decode cX0_tie 5 = .ok (.aload_n 0, 1) := by decide +kernel
theorem dX0_tie_6 : decode cX0_tie 6 = .ok (.getfield 36, 3) := by decide +kernel
theorem dX0_tie_9 : decode cX0_tie 9 = .ok (.iload_n 2, 1) := by decide +kernel
theorem dX0_tie_10 : decode cX0_tie 10 = .ok (.invokevirtual 71, 3) := by decide +kernel
theorem dX0_tie_13 : decode cX0_tie 13 = .ok (.invokevirtual 130, 3) := by decide +kernel
theorem dX0_tie_16 : decode cX0_tie 16 = .ok (.aload_n 0, 1) := by decide +kernel
theorem dX0_tie_17 : decode cX0_tie 17 = .ok (.getfield 42, 3) := by decide +kernel
theorem dX0_tie_20 : decode cX0_tie 20 = .ok (.iload_n 2, 1) := by decide +kernel
theorem dX0_tie_21 : decode cX0_tie 21 = .ok (.aload_n 0, 1) := by decide +kernel
theorem dX0_tie_22 : decode cX0_tie 22 = .ok (.getfield 27, 3) := by decide +kernel
theorem dX0_tie_25 : decode cX0_tie 25 = .ok (.iload_n 1, 1) := by decide +kernel
theorem dX0_tie_26 : decode cX0_tie 26 = .ok (.invokevirtual 71, 3) := by decide +kernel
theorem dX0_tie_29 : decode cX0_tie 29 = .ok (.invokevirtual 133, 3) := by decide +kernel
theorem dX0_tie_32 : decode cX0_tie 32 = .ok (.return_, 1) := by decide +kernel
theorem dX0_join_0 : decode cX0_join 0 = .ok (.iload_n 1, 1) := by decide +kernel
theorem dX0_join_1 : decode cX0_join 1 = .ok (.iload_n 2, 1) := by decide +kernel
theorem dX0_join_2 : decode cX0_join 2 = .ok (.invokestatic 136, 3) := by decide +kernel
theorem dX0_join_5 : decode cX0_join 5 = .ok (.istore_n 3, 1) := by decide +kernel
theorem dX0_join_6 : decode cX0_join 6 = .ok (.iload_n 1, 1) := by decide +kernel
theorem dX0_join_7 : decode cX0_join 7 = .ok (.iload_n 2, 1) := by decide +kernel
theorem dX0_join_8 : decode cX0_join 8 = .ok (.invokestatic 141, 3) := by decide +kernel
theorem dX0_join_11 : decode cX0_join 11 = .ok (.istore 4, 2) := by decide +kernel
theorem dX0_join_13 : decode cX0_join 13 = .ok (.aload_n 0, 1) := by decide +kernel
theorem dX0_join_14 : decode cX0_join 14 = .ok (.iload 4, 2) := by decide +kernel
theorem dX0_join_16 : decode cX0_join 16 = .ok (.iload_n 3, 1) := by decide +kernel
theorem dX0_join_17 : decode cX0_join 17 = .ok (.invokevirtual 144, 3) := by decide +kernel
theorem dX0_join_20 : decode cX0_join 20 = .ok (.aload_n 0, 1) := by decide +kernel
theorem dX0_join_21 : decode cX0_join 21 = .ok (.getfield 36, 3) := by decide +kernel
theorem dX0_join_24 : decode cX0_join 24 = .ok (.iload_n 3, 1) := by decide +kernel
theorem dX0_join_25 : decode cX0_join 25 = .ok (.invokevirtual 75, 3) := by decide +kernel
theorem dX0_join_28 : decode cX0_join 28 = .ok (.istore 5, 2) := by decide +kernel
theorem dX0_join_30 : decode cX0_join 30 = .ok (.aload_n 0, 1) := by decide +kernel
theorem dX0_join_31 : decode cX0_join 31 = .ok (.getfield 36, 3) := by decide +kernel
theorem dX0_join_34 : decode cX0_join 34 = .ok (.iload 4, 2) := by decide +kernel
theorem dX0_join_36 : decode cX0_join 36 = .ok (.invokevirtual 75, 3) := by decide +kernel
theorem dX0_join_39 : decode cX0_join 39 = .ok (.istore 6, 2) := by decide +kernel
theorem dX0_join_41 : decode cX0_join 41 = .ok (.aload_n 0, 1) := by decide +kernel
theorem dX0_join_42 : decode cX0_join 42 = .ok (.getfield 42, 3) := by decide +kernel
theorem dX0_join_45 : decode cX0_join 45 = .ok (.iload 5, 2) := by decide +kernel
theorem dX0_join_47 : decode cX0_join 47 = .ok (.aload_n 0, 1) := by decide +kernel
theorem dX0_join_48 : decode cX0_join 48 = .ok (.getfield 42, 3) := by decide +kernel
theorem dX0_join_51 : decode cX0_join 51 = .ok (.iload 6, 2) := by decide +kernel
theorem dX0_join_53 : decode cX0_join 53 = .ok (.invokevirtual 71, 3) := by decide +kernel
theorem dX0_join_56 : decode cX0_join 56 = .ok (.invokevirtual 133, 3) := by decide +kernel
theorem dX0_join_59 : decode cX0_join 59 = .ok (.aload_n 0, 1) := by decide +kernel
theorem dX0_join_60 : decode cX0_join 60 = .ok (.iload 6, 2) := by decide +kernel
theorem dX0_join_62 : decode cX0_join 62 = .ok (.invokevirtual 147, 3) := by decide +kernel
theorem dX0_join_65 : decode cX0_join 65 = .ok (.aload_n 0, 1) := by decide +kernel
theorem dX0_join_66 : decode cX0_join 66 = .ok (.getfield 15, 3) := by decide +kernel
theorem dX0_join_69 : decode cX0_join 69 = .ok (.iload_n 1, 1) := by decide +kernel
theorem dX0_join_70 : decode cX0_join 70 = .ok (.if_icmp .eq 11, 3) := by decide +kernel
theorem dX0_join_73 : decode cX0_join 73 = .ok (.aload_n 0, 1) := by decide +kernel
theorem dX0_join_74 : decode cX0_join 74 = .ok (.getfield 15, 3) := by decide +kernel
theorem dX0_join_77 : decode cX0_join 77 = .ok (.iload_n 2, 1) := by decide +kernel
theorem dX0_join_78 : decode cX0_join 78 = .ok (.if_icmp .ne 8, 3) := by decide +kernel
theorem dX0_join_81 : decode cX0_join 81 = .ok (.aload_n 0, 1) := by decide +kernel
theorem dX0_join_82 : decode cX0_join 82 = .ok (.iconst (-1), 1) := by decide +kernel
theorem dX0_join_83 : decode cX0_join 83 = .ok (.putfield 15, 3) := by decide +kernel
theorem dX0_join_86 : decode cX0_join 86 = .ok (.aload_n 0, 1) := by decide +kernel
theorem dX0_join_87 : decode cX0_join 87 = .ok (.getfield 42, 3) := by decide +kernel
theorem dX0_join_90 : decode cX0_join 90 = .ok (.iload 5, 2) := by decide +kernel
theorem dX0_join_92 : decode cX0_join 92 = .ok (.invokevirtual 71, 3) := by decide +kernel
theorem dX0_join_95 : decode cX0_join 95 = .ok (.istore 7, 2) := by decide +kernel
theorem dX0_join_97 : decode cX0_join 97 = .ok (.aload_n 0, 1) := by decide +kernel
theorem dX0_join_98 : decode cX0_join 98 = .ok (.dup, 1) := by decide +kernel
theorem dX0_join_99 : decode cX0_join 99 = .ok (.getfield 51, 3) := by decide +kernel
theorem dX0_join_102 : decode cX0_join 102 = .ok (.iload 7, 2) := by decide +kernel
theorem dX0_join_104 : decode cX0_join 104 = .ok (.iadd, 1) := by decide +kernel
theorem dX0_join_105 : decode cX0_join 105 = .ok (.putfield 51, 3) := by decide +kernel
theorem dX0_join_108 : decode cX0_join 108 = .ok (.aload_n 0, 1) := by decide +kernel
theorem dX0_join_109 : decode cX0_join 109 = .ok (.dup, 1) := by decide +kernel
theorem dX0_join_110 : decode cX0_join 110 = .ok (.getfield 54, 3) := by decide +kernel
theorem dX0_join_113 : decode cX0_join 113 = .ok (.iconst 1, 1) := by decide +kernel
theorem dX0_join_114 : decode cX0_join 114 = .ok (.iadd, 1) := by decide +kernel
theorem dX0_join_115 : decode cX0_join 115 = .ok (.putfield 54, 3) := by decide +kernel
theorem dX0_join_118 : decode cX0_join 118 = .ok (.iload 7, 2) := by decide +kernel
theorem dX0_join_120 : decode cX0_join 120 = .ok (.ireturn, 1) := by decide +kernel
theorem dX0_move_0 : decode cX0_move 0 = .ok (.iconst 0, 1) := by decide +kernel
theorem dX0_move_1 : decode cX0_move 1 = .ok (.istore_n 3, 1) := by decide +kernel
theorem dX0_move_2 : decode cX0_move 2 = .ok (.iload_n 3, 1) := by decide +kernel
theorem dX0_move_3 : decode cX0_move 3 = .ok (.aload_n 0, 1) := by decide +kernel
theorem dX0_move_4 : decode cX0_move 4 = .ok (.getfield 30, 3) := by decide +kernel
theorem dX0_move_7 : decode cX0_move 7 = .ok (.invokevirtual 67, 3) := by decide +kernel
theorem dX0_move_10 : decode cX0_move 10 = .ok (.if_icmp .ge 30, 3) := by decide +kernel
theorem dX0_move_13 : decode cX0_move 13 = .ok (.aload_n 0, 1) := by decide +kernel
theorem dX0_move_14 : decode cX0_move 14 = .ok (.getfield 30, 3) := by decide +kernel
theorem dX0_move_17 : decode cX0_move 17 = .ok (.iload_n 3, 1) := by decide +kernel
theorem dX0_move_18 : decode cX0_move 18 = .ok (.invokevirtual 71, 3) := by decide +kernel
theorem dX0_move_21 : decode cX0_move 21 = .ok (.iload_n 1, 1) := by decide +kernel
theorem dX0_move_22 : decode cX0_move 22 = .ok (.if_icmp .ne 12, 3) := by decide +kernel
theorem dX0_move_25 : decode cX0_move 25 = .ok (.aload_n 0, 1) := by decide +kernel
theorem dX0_move_26 : decode cX0_move 26 = .ok (.getfield 30, 3) := by decide +kernel
theorem dX0_move_29 : decode cX0_move 29 = .ok (.iload_n 3, 1) := by decide +kernel
theorem dX0_move_30 : decode cX0_move 30 = .ok (.iload_n 2, 1) := by decide +kernel
theorem dX0_move_31 : decode cX0_move 31 = .ok (.invokevirtual 130, 3) := by decide +kernel
theorem dX0_move_34 : decode cX0_move 34 = .ok (.iinc 3 1, 3) := by decide +kernel
theorem dX0_move_37 : decode cX0_move 37 = .ok (.goto (-35), 3) := by decide +kernel
theorem dX0_move_40 : decode cX0_move 40 = .ok (.return_, 1) := by decide +kernel
theorem dX0_removeFloat_0 : decode cX0_removeFloat 0 = .ok (.aload_n 0, 1) := by decide +kernel
theorem dX0_removeFloat_1 : decode cX0_removeFloat 1 = .ok (.getfield 36, 3) := by decide +kernel
theorem dX0_removeFloat_4 : decode cX0_removeFloat 4 = .ok (.iload_n 1, 1) := by decide +kernel
theorem dX0_removeFloat_5 : decode cX0_removeFloat 5 = .ok (.invokevirtual 150, 3) := by decide +kernel
theorem dX0_removeFloat_8 : decode cX0_removeFloat 8 = .ok (.aload_n 0, 1) := by decide +kernel
theorem dX0_removeFloat_9 : decode cX0_removeFloat 9 = .ok (.getfield 39, 3) := by decide +kernel
theorem dX0_removeFloat_12 : decode cX0_removeFloat 12 = .ok (.iload_n 1, 1) := by decide +kernel
theorem dX0_removeFloat_13 : decode cX0_removeFloat 13 = .ok (.invokevirtual 150, 3) := by decide +kernel
theorem dX0_removeFloat_16 : decode cX0_removeFloat 16 = .ok (.aload_n 0, 1) := by decide +kernel
theorem dX0_removeFloat_17 : decode cX0_removeFloat 17 = .ok (.getfield 42, 3) := by decide +kernel
theorem dX0_removeFloat_20 : decode cX0_removeFloat 20 = .ok (.iload_n 1, 1) := by decide +kernel
theorem dX0_removeFloat_21 : decode cX0_removeFloat 21 = .ok (.invokevirtual 150, 3) := by decide +kernel
theorem dX0_removeFloat_24 : decode cX0_removeFloat 24 = .ok (.return_, 1) := by decide +kernel
theorem dX0_joinLightest_0 : decode cX0_joinLightest 0 = .ok (.aload_n 0, 1) := by decide +kernel
theorem dX0_joinLightest_1 : decode cX0_joinLightest 1 = .ok (.iconst (-1), 1) := by decide +kernel
theorem dX0_joinLightest_2 : decode cX0_joinLightest 2 = .ok (.invokevirtual 153, 3) := by decide +kernel
theorem dX0_joinLightest_5 : decode cX0_joinLightest 5 = .ok (.istore_n 1, 1) := by decide +kernel
theorem dX0_joinLightest_6 : decode cX0_joinLightest 6 = .ok (.aload_n 0, 1) := by decide +kernel
theorem dX0_joinLightest_7 : decode cX0_joinLightest 7 = .ok (.iload_n 1, 1) := by decide +kernel
theorem dX0_joinLightest_8 : decode cX0_joinLightest 8 = .ok (.invokevirtual 153, 3) := by decide +kernel
theorem dX0_joinLightest_11 : decode cX0_joinLightest 11 = .ok (.istore_n 2, 1) := by decide +kernel
theorem dX0_joinLightest_12 : decode cX0_joinLightest 12 = .ok (.aload_n 0, 1) := by decide +kernel
theorem dX0_joinLightest_13 : decode cX0_joinLightest 13 = .ok (.getfield 36, 3) := by decide +kernel
theorem dX0_joinLightest_16 : decode cX0_joinLightest 16 = .ok (.iload_n 1, 1) := by decide +kernel
theorem dX0_joinLightest_17 : decode cX0_joinLightest 17 = .ok (.invokevirtual 71, 3) := by decide +kernel
theorem dX0_joinLightest_20 : decode cX0_joinLightest 20 = .ok (.istore_n 3, 1) := by decide +kernel
theorem dX0_joinLightest_21 : decode cX0_joinLightest 21 = .ok (.aload_n 0, 1) := by decide +kernel
theorem dX0_joinLightest_22 : decode cX0_joinLightest 22 = .ok (.getfield 36, 3) := by decide +kernel
theorem dX0_joinLightest_25 : decode cX0_joinLightest 25 = .ok (.iload_n 2, 1) := by decide +kernel
theorem dX0_joinLightest_26 : decode cX0_joinLightest 26 = .ok (.invokevirtual 71, 3) := by decide +kernel
theorem dX0_joinLightest_29 : decode cX0_joinLightest 29 = .ok (.istore 4, 2) := by decide +kernel
theorem dX0_joinLightest_31 : decode cX0_joinLightest 31 = .ok (.aload_n 0, 1) := by decide +kernel
theorem dX0_joinLightest_32 : decode cX0_joinLightest 32 = .ok (.iload_n 3, 1) := by decide +kernel
theorem dX0_joinLightest_33 : decode cX0_joinLightest 33 = .ok (.iload 4, 2) := by decide +kernel
theorem dX0_joinLightest_35 : decode cX0_joinLightest 35 = .ok (.invokevirtual 156, 3) := by decide +kernel
theorem dX0_joinLightest_38 : decode cX0_joinLightest 38 = .ok (.pop, 1) := by decide +kernel
theorem dX0_joinLightest_39 : decode cX0_joinLightest 39 = .ok (.iload_n 3, 1) := by decide +kernel
theorem dX0_joinLightest_40 : decode cX0_joinLightest 40 = .ok (.iload 4, 2) := by decide +kernel
theorem dX0_joinLightest_42 : decode cX0_joinLightest 42 = .ok (.invokestatic 136, 3) := by decide +kernel
theorem dX0_joinLightest_45 : decode cX0_joinLightest 45 = .ok (.ireturn, 1) := by decide +kernel
theorem dX0_lightestBut_0 : decode cX0_lightestBut 0 = .ok (.iconst (-1), 1) := by decide +kernel
theorem dX0_lightestBut_1 : decode cX0_lightestBut 1 = .ok (.istore_n 2, 1) := by decide +kernel
theorem dX0_lightestBut_2 : decode cX0_lightestBut 2 = .ok (.iconst 0, 1) := by decide +kernel
theorem dX0_lightestBut_3 : decode cX0_lightestBut 3 = .ok (.istore_n 3, 1) := by decide +kernel
theorem dX0_lightestBut_4 : decode cX0_lightestBut 4 = .ok (.iload_n 3, 1) := by decide +kernel
theorem dX0_lightestBut_5 : decode cX0_lightestBut 5 = .ok (.aload_n 0, 1) := by decide +kernel
theorem dX0_lightestBut_6 : decode cX0_lightestBut 6 = .ok (.getfield 36, 3) := by decide +kernel
theorem dX0_lightestBut_9 : decode cX0_lightestBut 9 = .ok (.invokevirtual 67, 3) := by decide +kernel
theorem dX0_lightestBut_12 : decode cX0_lightestBut 12 = .ok (.if_icmp .ge 40, 3) := by decide +kernel
theorem dX0_lightestBut_15 : decode cX0_lightestBut 15 = .ok (.iload_n 3, 1) := by decide +kernel
theorem dX0_lightestBut_16 : decode cX0_lightestBut 16 = .ok (.iload_n 1, 1) := by decide +kernel
theorem dX0_lightestBut_17 : decode cX0_lightestBut 17 = .ok (.if_icmp .eq 29, 3) := by decide +kernel
theorem dX0_lightestBut_20 : decode cX0_lightestBut 20 = .ok (.iload_n 2, 1) := by decide +kernel
theorem dX0_lightestBut_21 : decode cX0_lightestBut 21 = .ok (.iconst (-1), 1) := by decide +kernel
theorem dX0_lightestBut_22 : decode cX0_lightestBut 22 = .ok (.if_icmp .eq 22, 3) := by decide +kernel
theorem dX0_lightestBut_25 : decode cX0_lightestBut 25 = .ok (.aload_n 0, 1) := by decide +kernel
theorem dX0_lightestBut_26 : decode cX0_lightestBut 26 = .ok (.getfield 42, 3) := by decide +kernel
theorem dX0_lightestBut_29 : decode cX0_lightestBut 29 = .ok (.iload_n 3, 1) := by decide +kernel
theorem dX0_lightestBut_30 : decode cX0_lightestBut 30 = .ok (.invokevirtual 71, 3) := by decide +kernel
theorem dX0_lightestBut_33 : decode cX0_lightestBut 33 = .ok (.aload_n 0, 1) := by decide +kernel
theorem dX0_lightestBut_34 : decode cX0_lightestBut 34 = .ok (.getfield 42, 3) := by decide +kernel
theorem dX0_lightestBut_37 : decode cX0_lightestBut 37 = .ok (.iload_n 2, 1) := by decide +kernel
theorem dX0_lightestBut_38 : decode cX0_lightestBut 38 = .ok (.invokevirtual 71, 3) := by decide +kernel
theorem dX0_lightestBut_41 : decode cX0_lightestBut 41 = .ok (.if_icmp .ge 5, 3) := by decide +kernel
theorem dX0_lightestBut_44 : decode cX0_lightestBut 44 = .ok (.iload_n 3, 1) := by decide +kernel
theorem dX0_lightestBut_45 : decode cX0_lightestBut 45 = .ok (.istore_n 2, 1) := by decide +kernel
theorem dX0_lightestBut_46 : decode cX0_lightestBut 46 = .ok (.iinc 3 1, 3) := by decide +kernel
theorem dX0_lightestBut_49 : decode cX0_lightestBut 49 = .ok (.goto (-45), 3) := by decide +kernel
theorem dX0_lightestBut_52 : decode cX0_lightestBut 52 = .ok (.iload_n 2, 1) := by decide +kernel
theorem dX0_lightestBut_53 : decode cX0_lightestBut 53 = .ok (.ireturn, 1) := by decide +kernel
theorem dX0_breakRuns_0 : decode cX0_breakRuns 0 = .ok (.aload_n 0, 1) := by decide +kernel
theorem dX0_breakRuns_1 : decode cX0_breakRuns 1 = .ok (.getfield 36, 3) := by decide +kernel
theorem dX0_breakRuns_4 : decode cX0_breakRuns 4 = .ok (.invokevirtual 67, 3) := by decide +kernel
theorem dX0_breakRuns_7 : decode cX0_breakRuns 7 = .ok (.istore_n 2, 1) := by decide +kernel
theorem dX0_breakRuns_8 : decode cX0_breakRuns 8 = .ok (.iconst 0, 1) := by decide +kernel
theorem dX0_breakRuns_9 : decode cX0_breakRuns 9 = .ok (.istore_n 3, 1) := by decide +kernel
theorem dX0_breakRuns_10 : decode cX0_breakRuns 10 = .ok (.iconst 0, 1) := by decide +kernel
theorem dX0_breakRuns_11 : decode cX0_breakRuns 11 = .ok (.istore 4, 2) := by decide +kernel
theorem dX0_breakRuns_13 : decode cX0_breakRuns 13 = .ok (.iload 4, 2) := by decide +kernel
theorem dX0_breakRuns_15 : decode cX0_breakRuns 15 = .ok (.iload_n 2, 1) := by decide +kernel
theorem dX0_breakRuns_16 : decode cX0_breakRuns 16 = .ok (.if_icmp .ge 72, 3) := by decide +kernel
theorem dX0_breakRuns_19 : decode cX0_breakRuns 19 = .ok (.aload_n 0, 1) := by decide +kernel
theorem dX0_breakRuns_20 : decode cX0_breakRuns 20 = .ok (.getfield 39, 3) := by decide +kernel
theorem dX0_breakRuns_23 : decode cX0_breakRuns 23 = .ok (.iload 4, 2) := by decide +kernel
theorem dX0_breakRuns_25 : decode cX0_breakRuns 25 = .ok (.invokevirtual 71, 3) := by decide +kernel
theorem dX0_breakRuns_28 : decode cX0_breakRuns 28 = .ok (.iload_n 1, 1) := by decide +kernel
theorem dX0_breakRuns_29 : decode cX0_breakRuns 29 = .ok (.if_icmp .ge 29, 3) := by decide +kernel
theorem dX0_breakRuns_32 : decode cX0_breakRuns 32 = .ok (.aload_n 0, 1) := by decide +kernel
theorem dX0_breakRuns_33 : decode cX0_breakRuns 33 = .ok (.aload_n 0, 1) := by decide +kernel
theorem dX0_breakRuns_34 : decode cX0_breakRuns 34 = .ok (.getfield 36, 3) := by decide +kernel
theorem dX0_breakRuns_37 : decode cX0_breakRuns 37 = .ok (.iload 4, 2) := by decide +kernel
theorem dX0_breakRuns_39 : decode cX0_breakRuns 39 = .ok (.invokevirtual 71, 3) := by decide +kernel
theorem dX0_breakRuns_42 : decode cX0_breakRuns 42 = .ok (.invokevirtual 78, 3) := by decide +kernel
theorem dX0_breakRuns_45 : decode cX0_breakRuns 45 = .ok (.iconst 2, 1) := by decide +kernel
theorem dX0_breakRuns_46 : decode cX0_breakRuns 46 = .ok (.if_icmp .lt 12, 3) := by decide +kernel
theorem dX0_breakRuns_49 : decode cX0_breakRuns 49 = .ok (.aload_n 0, 1) := by decide +kernel
theorem dX0_breakRuns_50 : decode cX0_breakRuns 50 = .ok (.iload 4, 2) := by decide +kernel
theorem dX0_breakRuns_52 : decode cX0_breakRuns 52 = .ok (.invokevirtual 162, 3) := by decide +kernel
theorem dX0_breakRuns_55 : decode cX0_breakRuns 55 = .ok (.iinc 3 1, 3) := by decide +kernel
theorem dX0_breakRuns_58 : decode cX0_breakRuns 58 = .ok (.aload_n 0, 1) := by decide +kernel
theorem dX0_breakRuns_59 : decode cX0_breakRuns 59 = .ok (.getfield 39, 3) := by decide +kernel
theorem dX0_breakRuns_62 : decode cX0_breakRuns 62 = .ok (.iload 4, 2) := by decide +kernel
theorem dX0_breakRuns_64 : decode cX0_breakRuns 64 = .ok (.aload_n 0, 1) := by decide +kernel
theorem dX0_breakRuns_65 : decode cX0_breakRuns 65 = .ok (.getfield 39, 3) := by decide +kernel
theorem dX0_breakRuns_68 : decode cX0_breakRuns 68 = .ok (.iload 4, 2) := by decide +kernel
theorem dX0_breakRuns_70 : decode cX0_breakRuns 70 = .ok (.invokevirtual 71, 3) := by decide +kernel
theorem dX0_breakRuns_73 : decode cX0_breakRuns 73 = .ok (.iconst 1, 1) := by decide +kernel
theorem dX0_breakRuns_74 : decode cX0_breakRuns 74 = .ok (.isub, 1) := by decide +kernel
theorem dX0_breakRuns_75 : decode cX0_breakRuns 75 = .ok (.iconst 0, 1) := by decide +kernel
theorem dX0_breakRuns_76 : decode cX0_breakRuns 76 = .ok (.invokestatic 141, 3) := by decide +kernel
theorem dX0_breakRuns_79 : decode cX0_breakRuns 79 = .ok (.invokevirtual 130, 3) := by decide +kernel
theorem dX0_breakRuns_82 : decode cX0_breakRuns 82 = .ok (.iinc 4 1, 3) := by decide +kernel
theorem dX0_breakRuns_85 : decode cX0_breakRuns 85 = .ok (.goto (-72), 3) := by decide +kernel
theorem dX0_breakRuns_88 : decode cX0_breakRuns 88 = .ok (.aload_n 0, 1) := by decide +kernel
theorem dX0_breakRuns_89 : decode cX0_breakRuns 89 = .ok (.iconst (-1), 1) := by decide +kernel
theorem dX0_breakRuns_90 : decode cX0_breakRuns 90 = .ok (.putfield 15, 3) := by decide +kernel
theorem dX0_breakRuns_93 : decode cX0_breakRuns 93 = .ok (.aload_n 0, 1) := by decide +kernel
theorem dX0_breakRuns_94 : decode cX0_breakRuns 94 = .ok (.dup, 1) := by decide +kernel
theorem dX0_breakRuns_95 : decode cX0_breakRuns 95 = .ok (.getfield 57, 3) := by decide +kernel
theorem dX0_breakRuns_98 : decode cX0_breakRuns 98 = .ok (.iconst 1, 1) := by decide +kernel
theorem dX0_breakRuns_99 : decode cX0_breakRuns 99 = .ok (.iadd, 1) := by decide +kernel
theorem dX0_breakRuns_100 : decode cX0_breakRuns 100 = .ok (.putfield 57, 3) := by decide +kernel
theorem dX0_breakRuns_103 : decode cX0_breakRuns 103 = .ok (.aload_n 0, 1) := by decide +kernel
theorem dX0_breakRuns_104 : decode cX0_breakRuns 104 = .ok (.dup, 1) := by decide +kernel
theorem dX0_breakRuns_105 : decode cX0_breakRuns 105 = .ok (.getfield 60, 3) := by decide +kernel
theorem dX0_breakRuns_108 : decode cX0_breakRuns 108 = .ok (.iload_n 3, 1) := by decide +kernel
theorem dX0_breakRuns_109 : decode cX0_breakRuns 109 = .ok (.iadd, 1) := by decide +kernel
theorem dX0_breakRuns_110 : decode cX0_breakRuns 110 = .ok (.putfield 60, 3) := by decide +kernel
theorem dX0_breakRuns_113 : decode cX0_breakRuns 113 = .ok (.iload_n 3, 1) := by decide +kernel
theorem dX0_breakRuns_114 : decode cX0_breakRuns 114 = .ok (.ireturn, 1) := by decide +kernel
theorem dX0_breakRun_0 : decode cX0_breakRun 0 = .ok (.aload_n 0, 1) := by decide +kernel
theorem dX0_breakRun_1 : decode cX0_breakRun 1 = .ok (.getfield 36, 3) := by decide +kernel
theorem dX0_breakRun_4 : decode cX0_breakRun 4 = .ok (.iload_n 1, 1) := by decide +kernel
theorem dX0_breakRun_5 : decode cX0_breakRun 5 = .ok (.invokevirtual 71, 3) := by decide +kernel
theorem dX0_breakRun_8 : decode cX0_breakRun 8 = .ok (.istore_n 2, 1) := by decide +kernel
theorem dX0_breakRun_9 : decode cX0_breakRun 9 = .ok (.aload_n 0, 1) := by decide +kernel
theorem dX0_breakRun_10 : decode cX0_breakRun 10 = .ok (.iload_n 2, 1) := by decide +kernel
theorem dX0_breakRun_11 : decode cX0_breakRun 11 = .ok (.invokevirtual 78, 3) := by decide +kernel
theorem dX0_breakRun_14 : decode cX0_breakRun 14 = .ok (.iconst 1, 1) := by decide +kernel
theorem dX0_breakRun_15 : decode cX0_breakRun 15 = .ok (.iadd, 1) := by decide +kernel
theorem dX0_breakRun_16 : decode cX0_breakRun 16 = .ok (.iconst 2, 1) := by decide +kernel
theorem dX0_breakRun_17 : decode cX0_breakRun 17 = .ok (.idiv, 1) := by decide +kernel
theorem dX0_breakRun_18 : decode cX0_breakRun 18 = .ok (.istore_n 3, 1) := by decide +kernel
theorem dX0_breakRun_19 : decode cX0_breakRun 19 = .ok (.aload_n 0, 1) := by decide +kernel
theorem dX0_breakRun_20 : decode cX0_breakRun 20 = .ok (.invokevirtual 124, 3) := by decide +kernel
theorem dX0_breakRun_23 : decode cX0_breakRun 23 = .ok (.pop, 1) := by decide +kernel
theorem dX0_breakRun_24 : decode cX0_breakRun 24 = .ok (.aload_n 0, 1) := by decide +kernel
theorem dX0_breakRun_25 : decode cX0_breakRun 25 = .ok (.getfield 36, 3) := by decide +kernel
theorem dX0_breakRun_28 : decode cX0_breakRun 28 = .ok (.invokevirtual 67, 3) := by decide +kernel
theorem dX0_breakRun_31 : decode cX0_breakRun 31 = .ok (.iconst 1, 1) := by decide +kernel
theorem dX0_breakRun_32 : decode cX0_breakRun 32 = .ok (.isub, 1) := by decide +kernel
theorem dX0_breakRun_33 : decode cX0_breakRun 33 = .ok (.istore 4, 2) := by decide +kernel
theorem dX0_breakRun_35 : decode cX0_breakRun 35 = .ok (.iconst 0, 1) := by decide +kernel
theorem dX0_breakRun_36 : decode cX0_breakRun 36 = .ok (.istore 5, 2) := by decide +kernel
theorem dX0_breakRun_38 : decode cX0_breakRun 38 = .ok (.iload 5, 2) := by decide +kernel
theorem dX0_breakRun_40 : decode cX0_breakRun 40 = .ok (.aload_n 0, 1) := by decide +kernel
theorem dX0_breakRun_41 : decode cX0_breakRun 41 = .ok (.getfield 33, 3) := by decide +kernel
theorem dX0_breakRun_44 : decode cX0_breakRun 44 = .ok (.invokevirtual 67, 3) := by decide +kernel
theorem dX0_breakRun_47 : decode cX0_breakRun 47 = .ok (.if_icmp .ge 69, 3) := by decide +kernel
theorem dX0_breakRun_50 : decode cX0_breakRun 50 = .ok (.aload_n 0, 1) := by decide +kernel
theorem dX0_breakRun_51 : decode cX0_breakRun 51 = .ok (.getfield 33, 3) := by decide +kernel
theorem dX0_breakRun_54 : decode cX0_breakRun 54 = .ok (.iload 5, 2) := by decide +kernel
theorem dX0_breakRun_56 : decode cX0_breakRun 56 = .ok (.invokevirtual 71, 3) := by decide +kernel
theorem dX0_breakRun_59 : decode cX0_breakRun 59 = .ok (.istore 6, 2) := by decide +kernel
theorem dX0_breakRun_61 : decode cX0_breakRun 61 = .ok (.aload_n 0, 1) := by decide +kernel
theorem dX0_breakRun_62 : decode cX0_breakRun 62 = .ok (.getfield 30, 3) := by decide +kernel
theorem dX0_breakRun_65 : decode cX0_breakRun 65 = .ok (.iload 6, 2) := by decide +kernel
theorem dX0_breakRun_67 : decode cX0_breakRun 67 = .ok (.invokevirtual 71, 3) := by decide +kernel
theorem dX0_breakRun_70 : decode cX0_breakRun 70 = .ok (.iload_n 2, 1) := by decide +kernel
theorem dX0_breakRun_71 : decode cX0_breakRun 71 = .ok (.if_icmp .ne 39, 3) := by decide +kernel
theorem dX0_breakRun_74 : decode cX0_breakRun 74 = .ok (.iload_n 3, 1) := by decide +kernel
theorem dX0_breakRun_75 : decode cX0_breakRun 75 = .ok (.ifCond .le 9, 3) := by decide +kernel
theorem dX0_breakRun_78 : decode cX0_breakRun 78 = .ok (.iinc 3 (-1), 3) := by decide +kernel
theorem dX0_breakRun_81 : decode cX0_breakRun 81 = .ok (.goto 29, 3) := by decide +kernel
theorem dX0_breakRun_84 : decode cX0_breakRun 84 = .ok (.aload_n 0, 1) := by decide +kernel
theorem dX0_breakRun_85 : decode cX0_breakRun 85 = .ok (.getfield 42, 3) := by decide +kernel
theorem dX0_breakRun_88 : decode cX0_breakRun 88 = .ok (.iload_n 1, 1) := by decide +kernel
theorem dX0_breakRun_89 : decode cX0_breakRun 89 = .ok (.aload_n 0, 1) := by decide +kernel
theorem dX0_breakRun_90 : decode cX0_breakRun 90 = .ok (.getfield 27, 3) := by decide +kernel
theorem dX0_breakRun_93 : decode cX0_breakRun 93 = .ok (.iload 6, 2) := by decide +kernel
theorem dX0_breakRun_95 : decode cX0_breakRun 95 = .ok (.invokevirtual 71, 3) := by decide +kernel
theorem dX0_breakRun_98 : decode cX0_breakRun 98 = .ok (.ineg, 1) := by decide +kernel
theorem dX0_breakRun_99 : decode cX0_breakRun 99 = .ok (.invokevirtual 133, 3) := by decide +kernel
theorem dX0_breakRun_102 : decode cX0_breakRun 102 = .ok (.aload_n 0, 1) := by decide +kernel
theorem dX0_breakRun_103 : decode cX0_breakRun 103 = .ok (.iload 6, 2) := by decide +kernel
theorem dX0_breakRun_105 : decode cX0_breakRun 105 = .ok (.iload 4, 2) := by decide +kernel
theorem dX0_breakRun_107 : decode cX0_breakRun 107 = .ok (.invokevirtual 127, 3) := by decide +kernel
theorem dX0_breakRun_110 : decode cX0_breakRun 110 = .ok (.iinc 5 1, 3) := by decide +kernel
theorem dX0_breakRun_113 : decode cX0_breakRun 113 = .ok (.goto (-75), 3) := by decide +kernel
theorem dX0_breakRun_116 : decode cX0_breakRun 116 = .ok (.return_, 1) := by decide +kernel
theorem dX0_strengthen_0 : decode cX0_strengthen 0 = .ok (.aload_n 0, 1) := by decide +kernel
theorem dX0_strengthen_1 : decode cX0_strengthen 1 = .ok (.getfield 36, 3) := by decide +kernel
theorem dX0_strengthen_4 : decode cX0_strengthen 4 = .ok (.iload_n 1, 1) := by decide +kernel
theorem dX0_strengthen_5 : decode cX0_strengthen 5 = .ok (.invokevirtual 75, 3) := by decide +kernel
theorem dX0_strengthen_8 : decode cX0_strengthen 8 = .ok (.istore_n 2, 1) := by decide +kernel
theorem dX0_strengthen_9 : decode cX0_strengthen 9 = .ok (.aload_n 0, 1) := by decide +kernel
theorem dX0_strengthen_10 : decode cX0_strengthen 10 = .ok (.getfield 39, 3) := by decide +kernel
theorem dX0_strengthen_13 : decode cX0_strengthen 13 = .ok (.iload_n 2, 1) := by decide +kernel
theorem dX0_strengthen_14 : decode cX0_strengthen 14 = .ok (.aload_n 0, 1) := by decide +kernel
theorem dX0_strengthen_15 : decode cX0_strengthen 15 = .ok (.getfield 39, 3) := by decide +kernel
theorem dX0_strengthen_18 : decode cX0_strengthen 18 = .ok (.iload_n 2, 1) := by decide +kernel
theorem dX0_strengthen_19 : decode cX0_strengthen 19 = .ok (.invokevirtual 71, 3) := by decide +kernel
theorem dX0_strengthen_22 : decode cX0_strengthen 22 = .ok (.iconst 1, 1) := by decide +kernel
theorem dX0_strengthen_23 : decode cX0_strengthen 23 = .ok (.iadd, 1) := by decide +kernel
theorem dX0_strengthen_24 : decode cX0_strengthen 24 = .ok (.bipush 9, 2) := by decide +kernel
theorem dX0_strengthen_26 : decode cX0_strengthen 26 = .ok (.invokestatic 136, 3) := by decide +kernel
theorem dX0_strengthen_29 : decode cX0_strengthen 29 = .ok (.invokevirtual 130, 3) := by decide +kernel
theorem dX0_strengthen_32 : decode cX0_strengthen 32 = .ok (.aload_n 0, 1) := by decide +kernel
theorem dX0_strengthen_33 : decode cX0_strengthen 33 = .ok (.getfield 39, 3) := by decide +kernel
theorem dX0_strengthen_36 : decode cX0_strengthen 36 = .ok (.iload_n 2, 1) := by decide +kernel
theorem dX0_strengthen_37 : decode cX0_strengthen 37 = .ok (.invokevirtual 71, 3) := by decide +kernel
theorem dX0_strengthen_40 : decode cX0_strengthen 40 = .ok (.ireturn, 1) := by decide +kernel
theorem dX0_canBringAshore_0 : decode cX0_canBringAshore 0 = .ok (.aload_n 0, 1) := by decide +kernel
theorem dX0_canBringAshore_1 : decode cX0_canBringAshore 1 = .ok (.bipush (-2), 2) := by decide +kernel
theorem dX0_canBringAshore_3 : decode cX0_canBringAshore 3 = .ok (.invokevirtual 114, 3) := by decide +kernel
theorem dX0_canBringAshore_6 : decode cX0_canBringAshore 6 = .ok (.istore_n 2, 1) := by decide +kernel
theorem dX0_canBringAshore_7 : decode cX0_canBringAshore 7 = .ok (.iload_n 2, 1) := by decide +kernel
theorem dX0_canBringAshore_8 : decode cX0_canBringAshore 8 = .ok (.iconst (-1), 1) := by decide +kernel
theorem dX0_canBringAshore_9 : decode cX0_canBringAshore 9 = .ok (.if_icmp .eq 17, 3) := by decide +kernel
theorem dX0_canBringAshore_12 : decode cX0_canBringAshore 12 = .ok (.aload_n 0, 1) := by decide +kernel
theorem dX0_canBringAshore_13 : decode cX0_canBringAshore 13 = .ok (.iload_n 2, 1) := by decide +kernel
theorem dX0_canBringAshore_14 : decode cX0_canBringAshore 14 = .ok (.aload_n 0, 1) := by decide +kernel
theorem dX0_canBringAshore_15 : decode cX0_canBringAshore 15 = .ok (.iload_n 1, 1) := by decide +kernel
theorem dX0_canBringAshore_16 : decode cX0_canBringAshore 16 = .ok (.iconst 0, 1) := by decide +kernel
theorem dX0_canBringAshore_17 : decode cX0_canBringAshore 17 = .ok (.invokevirtual 165, 3) := by decide +kernel
theorem dX0_canBringAshore_20 : decode cX0_canBringAshore 20 = .ok (.invokevirtual 117, 3) := by decide +kernel
theorem dX0_canBringAshore_23 : decode cX0_canBringAshore 23 = .ok (.ifCond .eq 7, 3) := by decide +kernel
theorem dX0_canBringAshore_26 : decode cX0_canBringAshore 26 = .ok (.iconst 1, 1) := by decide +kernel
theorem dX0_canBringAshore_27 : decode cX0_canBringAshore 27 = .ok (.goto 4, 3) := by decide +kernel
theorem dX0_canBringAshore_30 : decode cX0_canBringAshore 30 = .ok (.iconst 0, 1) := by decide +kernel
theorem dX0_canBringAshore_31 : decode cX0_canBringAshore 31 = .ok (.ireturn, 1) := by decide +kernel
theorem dX0_bringAshore_0 : decode cX0_bringAshore 0 = .ok (.aload_n 0, 1) := by decide +kernel
theorem dX0_bringAshore_1 : decode cX0_bringAshore 1 = .ok (.iload_n 1, 1) := by decide +kernel
theorem dX0_bringAshore_2 : decode cX0_bringAshore 2 = .ok (.bipush (-2), 2) := by decide +kernel
theorem dX0_bringAshore_4 : decode cX0_bringAshore 4 = .ok (.invokevirtual 144, 3) := by decide +kernel
theorem dX0_bringAshore_7 : decode cX0_bringAshore 7 = .ok (.aload_n 0, 1) := by decide +kernel
theorem dX0_bringAshore_8 : decode cX0_bringAshore 8 = .ok (.aload_n 0, 1) := by decide +kernel
theorem dX0_bringAshore_9 : decode cX0_bringAshore 9 = .ok (.getfield 36, 3) := by decide +kernel
theorem dX0_bringAshore_12 : decode cX0_bringAshore 12 = .ok (.iload_n 1, 1) := by decide +kernel
theorem dX0_bringAshore_13 : decode cX0_bringAshore 13 = .ok (.invokevirtual 75, 3) := by decide +kernel
theorem dX0_bringAshore_16 : decode cX0_bringAshore 16 = .ok (.invokevirtual 147, 3) := by decide +kernel
theorem dX0_bringAshore_19 : decode cX0_bringAshore 19 = .ok (.aload_n 0, 1) := by decide +kernel
theorem dX0_bringAshore_20 : decode cX0_bringAshore 20 = .ok (.getfield 15, 3) := by decide +kernel
theorem dX0_bringAshore_23 : decode cX0_bringAshore 23 = .ok (.iload_n 1, 1) := by decide +kernel
theorem dX0_bringAshore_24 : decode cX0_bringAshore 24 = .ok (.if_icmp .ne 8, 3) := by decide +kernel
theorem dX0_bringAshore_27 : decode cX0_bringAshore 27 = .ok (.aload_n 0, 1) := by decide +kernel
theorem dX0_bringAshore_28 : decode cX0_bringAshore 28 = .ok (.iconst (-1), 1) := by decide +kernel
theorem dX0_bringAshore_29 : decode cX0_bringAshore 29 = .ok (.putfield 15, 3) := by decide +kernel
theorem dX0_bringAshore_32 : decode cX0_bringAshore 32 = .ok (.aload_n 0, 1) := by decide +kernel
theorem dX0_bringAshore_33 : decode cX0_bringAshore 33 = .ok (.bipush (-2), 2) := by decide +kernel
theorem dX0_bringAshore_35 : decode cX0_bringAshore 35 = .ok (.invokevirtual 78, 3) := by decide +kernel
theorem dX0_bringAshore_38 : decode cX0_bringAshore 38 = .ok (.ireturn, 1) := by decide +kernel
theorem dX0_parcelFact_0 : decode cX0_parcelFact 0 = .ok (.aload_n 0, 1) := by decide +kernel
theorem dX0_parcelFact_1 : decode cX0_parcelFact 1 = .ok (.getfield 30, 3) := by decide +kernel
theorem dX0_parcelFact_4 : decode cX0_parcelFact 4 = .ok (.iload_n 1, 1) := by decide +kernel
theorem dX0_parcelFact_5 : decode cX0_parcelFact 5 = .ok (.invokevirtual 71, 3) := by decide +kernel
theorem dX0_parcelFact_8 : decode cX0_parcelFact 8 = .ok (.istore_n 3, 1) := by decide +kernel
theorem dX0_parcelFact_9 : decode cX0_parcelFact 9 = .ok (.iload_n 2, 1) := by decide +kernel
theorem dX0_parcelFact_10 : decode cX0_parcelFact 10 = .ok (.tableswitch 86 0 3 #[30, 39, 48, 69], 30) := by decide +kernel
theorem dX0_parcelFact_40 : decode cX0_parcelFact 40 = .ok (.aload_n 0, 1) := by decide +kernel
theorem dX0_parcelFact_41 : decode cX0_parcelFact 41 = .ok (.getfield 23, 3) := by decide +kernel
theorem dX0_parcelFact_44 : decode cX0_parcelFact 44 = .ok (.iload_n 1, 1) := by decide +kernel
theorem dX0_parcelFact_45 : decode cX0_parcelFact 45 = .ok (.invokevirtual 71, 3) := by decide +kernel
theorem dX0_parcelFact_48 : decode cX0_parcelFact 48 = .ok (.ireturn, 1) := by decide +kernel
theorem dX0_parcelFact_49 : decode cX0_parcelFact 49 = .ok (.aload_n 0, 1) := by decide +kernel
theorem dX0_parcelFact_50 : decode cX0_parcelFact 50 = .ok (.getfield 27, 3) := by decide +kernel
theorem dX0_parcelFact_53 : decode cX0_parcelFact 53 = .ok (.iload_n 1, 1) := by decide +kernel
theorem dX0_parcelFact_54 : decode cX0_parcelFact 54 = .ok (.invokevirtual 71, 3) := by decide +kernel
theorem dX0_parcelFact_57 : decode cX0_parcelFact 57 = .ok (.ireturn, 1) := by decide +kernel
theorem dX0_parcelFact_58 : decode cX0_parcelFact 58 = .ok (.iload_n 3, 1) := by decide +kernel
theorem dX0_parcelFact_59 : decode cX0_parcelFact 59 = .ok (.iconst (-1), 1) := by decide +kernel
theorem dX0_parcelFact_60 : decode cX0_parcelFact 60 = .ok (.if_icmp .ne 7, 3) := by decide +kernel
theorem dX0_parcelFact_63 : decode cX0_parcelFact 63 = .ok (.iconst 0, 1) := by decide +kernel
theorem dX0_parcelFact_64 : decode cX0_parcelFact 64 = .ok (.goto 14, 3) := by decide +kernel
theorem dX0_parcelFact_67 : decode cX0_parcelFact 67 = .ok (.iload_n 3, 1) := by decide +kernel
theorem dX0_parcelFact_68 : decode cX0_parcelFact 68 = .ok (.bipush (-2), 2) := by decide +kernel
theorem dX0_parcelFact_70 : decode cX0_parcelFact 70 = .ok (.if_icmp .ne 7, 3) := by decide +kernel
theorem dX0_parcelFact_73 : decode cX0_parcelFact 73 = .ok (.iconst 2, 1) := by decide +kernel
theorem dX0_parcelFact_74 : decode cX0_parcelFact 74 = .ok (.goto 4, 3) := by decide +kernel
theorem dX0_parcelFact_77 : decode cX0_parcelFact 77 = .ok (.iconst 1, 1) := by decide +kernel
theorem dX0_parcelFact_78 : decode cX0_parcelFact 78 = .ok (.ireturn, 1) := by decide +kernel
theorem dX0_parcelFact_79 : decode cX0_parcelFact 79 = .ok (.iload_n 3, 1) := by decide +kernel
theorem dX0_parcelFact_80 : decode cX0_parcelFact 80 = .ok (.iconst (-1), 1) := by decide +kernel
theorem dX0_parcelFact_81 : decode cX0_parcelFact 81 = .ok (.if_icmp .eq 9, 3) := by decide +kernel
theorem dX0_parcelFact_84 : decode cX0_parcelFact 84 = .ok (.iload_n 3, 1) := by decide +kernel
theorem dX0_parcelFact_85 : decode cX0_parcelFact 85 = .ok (.bipush (-2), 2) := by decide +kernel
theorem dX0_parcelFact_87 : decode cX0_parcelFact 87 = .ok (.if_icmp .ne 7, 3) := by decide +kernel
theorem dX0_parcelFact_90 : decode cX0_parcelFact 90 = .ok (.iconst (-1), 1) := by decide +kernel
theorem dX0_parcelFact_91 : decode cX0_parcelFact 91 = .ok (.goto 4, 3) := by decide +kernel
theorem dX0_parcelFact_94 : decode cX0_parcelFact 94 = .ok (.iload_n 3, 1) := by decide +kernel
theorem dX0_parcelFact_95 : decode cX0_parcelFact 95 = .ok (.ireturn, 1) := by decide +kernel
theorem dX0_parcelFact_96 : decode cX0_parcelFact 96 = .ok (.iload_n 3, 1) := by decide +kernel
theorem dX0_parcelFact_97 : decode cX0_parcelFact 97 = .ok (.iconst (-1), 1) := by decide +kernel
theorem dX0_parcelFact_98 : decode cX0_parcelFact 98 = .ok (.if_icmp .ne 7, 3) := by decide +kernel
theorem dX0_parcelFact_101 : decode cX0_parcelFact 101 = .ok (.iconst (-1), 1) := by decide +kernel
theorem dX0_parcelFact_102 : decode cX0_parcelFact 102 = .ok (.goto 8, 3) := by decide +kernel
theorem dX0_parcelFact_105 : decode cX0_parcelFact 105 = .ok (.aload_n 0, 1) := by decide +kernel
theorem dX0_parcelFact_106 : decode cX0_parcelFact 106 = .ok (.iload_n 1, 1) := by decide +kernel
theorem dX0_parcelFact_107 : decode cX0_parcelFact 107 = .ok (.invokevirtual 168, 3) := by decide +kernel
theorem dX0_parcelFact_110 : decode cX0_parcelFact 110 = .ok (.ireturn, 1) := by decide +kernel
theorem dX0_runFact_0 : decode cX0_runFact 0 = .ok (.iload_n 2, 1) := by decide +kernel
theorem dX0_runFact_1 : decode cX0_runFact 1 = .ok (.tableswitch 100 0 4 #[35, 41, 57, 73, 87], 35) := by decide +kernel
theorem dX0_runFact_36 : decode cX0_runFact 36 = .ok (.aload_n 0, 1) := by decide +kernel
theorem dX0_runFact_37 : decode cX0_runFact 37 = .ok (.iload_n 1, 1) := by decide +kernel
theorem dX0_runFact_38 : decode cX0_runFact 38 = .ok (.invokevirtual 78, 3) := by decide +kernel
theorem dX0_runFact_41 : decode cX0_runFact 41 = .ok (.ireturn, 1) := by decide +kernel
theorem dX0_runFact_42 : decode cX0_runFact 42 = .ok (.aload_n 0, 1) := by decide +kernel
theorem dX0_runFact_43 : decode cX0_runFact 43 = .ok (.getfield 42, 3) := by decide +kernel
theorem dX0_runFact_46 : decode cX0_runFact 46 = .ok (.aload_n 0, 1) := by decide +kernel
theorem dX0_runFact_47 : decode cX0_runFact 47 = .ok (.getfield 36, 3) := by decide +kernel
theorem dX0_runFact_50 : decode cX0_runFact 50 = .ok (.iload_n 1, 1) := by decide +kernel
theorem dX0_runFact_51 : decode cX0_runFact 51 = .ok (.invokevirtual 75, 3) := by decide +kernel
theorem dX0_runFact_54 : decode cX0_runFact 54 = .ok (.invokevirtual 71, 3) := by decide +kernel
theorem dX0_runFact_57 : decode cX0_runFact 57 = .ok (.ireturn, 1) := by decide +kernel
theorem dX0_runFact_58 : decode cX0_runFact 58 = .ok (.aload_n 0, 1) := by decide +kernel
theorem dX0_runFact_59 : decode cX0_runFact 59 = .ok (.getfield 39, 3) := by decide +kernel
theorem dX0_runFact_62 : decode cX0_runFact 62 = .ok (.aload_n 0, 1) := by decide +kernel
theorem dX0_runFact_63 : decode cX0_runFact 63 = .ok (.getfield 36, 3) := by decide +kernel
theorem dX0_runFact_66 : decode cX0_runFact 66 = .ok (.iload_n 1, 1) := by decide +kernel
theorem dX0_runFact_67 : decode cX0_runFact 67 = .ok (.invokevirtual 75, 3) := by decide +kernel
theorem dX0_runFact_70 : decode cX0_runFact 70 = .ok (.invokevirtual 71, 3) := by decide +kernel
theorem dX0_runFact_73 : decode cX0_runFact 73 = .ok (.ireturn, 1) := by decide +kernel
theorem dX0_runFact_74 : decode cX0_runFact 74 = .ok (.aload_n 0, 1) := by decide +kernel
theorem dX0_runFact_75 : decode cX0_runFact 75 = .ok (.getfield 23, 3) := by decide +kernel
theorem dX0_runFact_78 : decode cX0_runFact 78 = .ok (.aload_n 0, 1) := by decide +kernel
theorem dX0_runFact_79 : decode cX0_runFact 79 = .ok (.iload_n 1, 1) := by decide +kernel
theorem dX0_runFact_80 : decode cX0_runFact 80 = .ok (.iconst 0, 1) := by decide +kernel
theorem dX0_runFact_81 : decode cX0_runFact 81 = .ok (.invokevirtual 165, 3) := by decide +kernel
theorem dX0_runFact_84 : decode cX0_runFact 84 = .ok (.invokevirtual 71, 3) := by decide +kernel
theorem dX0_runFact_87 : decode cX0_runFact 87 = .ok (.ireturn, 1) := by decide +kernel
theorem dX0_runFact_88 : decode cX0_runFact 88 = .ok (.aload_n 0, 1) := by decide +kernel
theorem dX0_runFact_89 : decode cX0_runFact 89 = .ok (.getfield 23, 3) := by decide +kernel
theorem dX0_runFact_92 : decode cX0_runFact 92 = .ok (.aload_n 0, 1) := by decide +kernel
theorem dX0_runFact_93 : decode cX0_runFact 93 = .ok (.iload_n 1, 1) := by decide +kernel
theorem dX0_runFact_94 : decode cX0_runFact 94 = .ok (.invokevirtual 114, 3) := by decide +kernel
theorem dX0_runFact_97 : decode cX0_runFact 97 = .ok (.invokevirtual 71, 3) := by decide +kernel
theorem dX0_runFact_100 : decode cX0_runFact 100 = .ok (.ireturn, 1) := by decide +kernel
theorem dX0_runFact_101 : decode cX0_runFact 101 = .ok (.aload_n 0, 1) := by decide +kernel
theorem dX0_runFact_102 : decode cX0_runFact 102 = .ok (.getfield 15, 3) := by decide +kernel
theorem dX0_runFact_105 : decode cX0_runFact 105 = .ok (.iload_n 1, 1) := by decide +kernel
theorem dX0_runFact_106 : decode cX0_runFact 106 = .ok (.if_icmp .ne 7, 3) := by decide +kernel
theorem dX0_runFact_109 : decode cX0_runFact 109 = .ok (.iconst 1, 1) := by decide +kernel
theorem dX0_runFact_110 : decode cX0_runFact 110 = .ok (.goto 4, 3) := by decide +kernel
theorem dX0_runFact_113 : decode cX0_runFact 113 = .ok (.iconst 0, 1) := by decide +kernel
theorem dX0_runFact_114 : decode cX0_runFact 114 = .ok (.ireturn, 1) := by decide +kernel
theorem dX0_number_0 : decode cX0_number 0 = .ok (.iload_n 1, 1) := by decide +kernel
theorem dX0_number_1 : decode cX0_number 1 = .ok (.tableswitch 139 0 10 #[59, 64, 70, 78, 86, 107, 114, 119, 124, 129, 134], 59) := by decide +kernel
theorem dX0_number_60 : decode cX0_number 60 = .ok (.aload_n 0, 1) := by decide +kernel
theorem dX0_number_61 : decode cX0_number 61 = .ok (.getfield 9, 3) := by decide +kernel
theorem dX0_number_64 : decode cX0_number 64 = .ok (.ireturn, 1) := by decide +kernel
theorem dX0_number_65 : decode cX0_number 65 = .ok (.aload_n 0, 1) := by decide +kernel
theorem dX0_number_66 : decode cX0_number 66 = .ok (.iconst (-1), 1) := by decide +kernel
theorem dX0_number_67 : decode cX0_number 67 = .ok (.invokevirtual 78, 3) := by decide +kernel
theorem dX0_number_70 : decode cX0_number 70 = .ok (.ireturn, 1) := by decide +kernel
theorem dX0_number_71 : decode cX0_number 71 = .ok (.aload_n 0, 1) := by decide +kernel
theorem dX0_number_72 : decode cX0_number 72 = .ok (.getfield 23, 3) := by decide +kernel
theorem dX0_number_75 : decode cX0_number 75 = .ok (.invokevirtual 67, 3) := by decide +kernel
theorem dX0_number_78 : decode cX0_number 78 = .ok (.ireturn, 1) := by decide +kernel
theorem dX0_number_79 : decode cX0_number 79 = .ok (.aload_n 0, 1) := by decide +kernel
theorem dX0_number_80 : decode cX0_number 80 = .ok (.getfield 36, 3) := by decide +kernel
theorem dX0_number_83 : decode cX0_number 83 = .ok (.invokevirtual 67, 3) := by decide +kernel
theorem dX0_number_86 : decode cX0_number 86 = .ok (.ireturn, 1) := by decide +kernel
theorem dX0_number_87 : decode cX0_number 87 = .ok (.aload_n 0, 1) := by decide +kernel
theorem dX0_number_88 : decode cX0_number 88 = .ok (.getfield 23, 3) := by decide +kernel
theorem dX0_number_91 : decode cX0_number 91 = .ok (.invokevirtual 67, 3) := by decide +kernel
theorem dX0_number_94 : decode cX0_number 94 = .ok (.aload_n 0, 1) := by decide +kernel
theorem dX0_number_95 : decode cX0_number 95 = .ok (.iconst (-1), 1) := by decide +kernel
theorem dX0_number_96 : decode cX0_number 96 = .ok (.invokevirtual 78, 3) := by decide +kernel
theorem dX0_number_99 : decode cX0_number 99 = .ok (.isub, 1) := by decide +kernel
theorem dX0_number_100 : decode cX0_number 100 = .ok (.aload_n 0, 1) := by decide +kernel
theorem dX0_number_101 : decode cX0_number 101 = .ok (.bipush (-2), 2) := by decide +kernel
theorem dX0_number_103 : decode cX0_number 103 = .ok (.invokevirtual 78, 3) := by decide +kernel
theorem dX0_number_106 : decode cX0_number 106 = .ok (.isub, 1) := by decide +kernel
theorem dX0_number_107 : decode cX0_number 107 = .ok (.ireturn, 1) := by decide +kernel
theorem dX0_number_108 : decode cX0_number 108 = .ok (.aload_n 0, 1) := by decide +kernel
theorem dX0_number_109 : decode cX0_number 109 = .ok (.bipush (-2), 2) := by decide +kernel
theorem dX0_number_111 : decode cX0_number 111 = .ok (.invokevirtual 78, 3) := by decide +kernel
theorem dX0_number_114 : decode cX0_number 114 = .ok (.ireturn, 1) := by decide +kernel
theorem dX0_number_115 : decode cX0_number 115 = .ok (.aload_n 0, 1) := by decide +kernel
theorem dX0_number_116 : decode cX0_number 116 = .ok (.getfield 51, 3) := by decide +kernel
theorem dX0_number_119 : decode cX0_number 119 = .ok (.ireturn, 1) := by decide +kernel
theorem dX0_number_120 : decode cX0_number 120 = .ok (.aload_n 0, 1) := by decide +kernel
theorem dX0_number_121 : decode cX0_number 121 = .ok (.getfield 54, 3) := by decide +kernel
theorem dX0_number_124 : decode cX0_number 124 = .ok (.ireturn, 1) := by decide +kernel
theorem dX0_number_125 : decode cX0_number 125 = .ok (.aload_n 0, 1) := by decide +kernel
theorem dX0_number_126 : decode cX0_number 126 = .ok (.getfield 57, 3) := by decide +kernel
theorem dX0_number_129 : decode cX0_number 129 = .ok (.ireturn, 1) := by decide +kernel
theorem dX0_number_130 : decode cX0_number 130 = .ok (.aload_n 0, 1) := by decide +kernel
theorem dX0_number_131 : decode cX0_number 131 = .ok (.getfield 60, 3) := by decide +kernel
theorem dX0_number_134 : decode cX0_number 134 = .ok (.ireturn, 1) := by decide +kernel
theorem dX0_number_135 : decode cX0_number 135 = .ok (.aload_n 0, 1) := by decide +kernel
theorem dX0_number_136 : decode cX0_number 136 = .ok (.getfield 15, 3) := by decide +kernel
theorem dX0_number_139 : decode cX0_number 139 = .ok (.ireturn, 1) := by decide +kernel
theorem dX0_number_140 : decode cX0_number 140 = .ok (.aload_n 0, 1) := by decide +kernel
theorem dX0_number_141 : decode cX0_number 141 = .ok (.getfield 48, 3) := by decide +kernel
theorem dX0_number_144 : decode cX0_number 144 = .ok (.ireturn, 1) := by decide +kernel
