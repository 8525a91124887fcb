theorem dX5_land_91 : decode cX5_land 91 = .ok (.aload_n 0, 1) := by decide +kernel
theorem dX5_land_92 : decode cX5_land 92 = .ok (.getfield 13, 3) := by decide +kernel
theorem dX5_land_95 : decode cX5_land 95 = .ok (.bipush 6, 2) := by decide +kernel
theorem dX5_land_97 : decode cX5_land 97 = .ok (.aload_n 0, 1) := by decide +kernel
theorem dX5_land_98 : decode cX5_land 98 = .ok (.getfield 13, 3) := by decide +kernel
theorem dX5_land_101 : decode cX5_land 101 = .ok (.bipush 6, 2) := by decide +kernel
theorem dX5_land_103 : decode cX5_land 103 = .ok (.iaload, 1) := by decide +kernel
theorem dX5_land_104 : decode cX5_land 104 = .ok (.iload_n 1, 1) := by decide +kernel
theorem dX5_land_105 : decode cX5_land 105 = .ok (.if_icmp .ne 7, 3) := by decide +kernel
theorem dX5_land_108 : decode cX5_land 108 = .ok (.iconst (-1), 1) := by decide +kernel
theorem dX5_land_109 : decode cX5_land 109 = .ok (.goto 10, 3) := by decide +kernel
theorem dX5_land_112 : decode cX5_land 112 = .ok (.aload_n 0, 1) := by decide +kernel
theorem dX5_land_113 : decode cX5_land 113 = .ok (.getfield 13, 3) := by decide +kernel
theorem dX5_land_116 : decode cX5_land 116 = .ok (.bipush 6, 2) := by decide +kernel
theorem dX5_land_118 : decode cX5_land 118 = .ok (.iaload, 1) := by decide +kernel
theorem dX5_land_119 : decode cX5_land 119 = .ok (.iastore, 1) := by decide +kernel
theorem dX5_land_120 : decode cX5_land 120 = .ok (.aload_n 0, 1) := by decide +kernel
theorem dX5_land_121 : decode cX5_land 121 = .ok (.iconst 2, 1) := by decide +kernel
theorem dX5_land_122 : decode cX5_land 122 = .ok (.invokevirtual 78, 3) := by decide +kernel
theorem dX5_land_125 : decode cX5_land 125 = .ok (.ireturn, 1) := by decide +kernel
set_option maxRecDepth 20000 in
theorem ggX5_parcelBy_X5_of : GoodIn wsX5_parcelBy wsX5_of := goodIn_r _ [5, 6, 19, 20, 21, 22, 23, 24, 25, 26, 27, 28, 29, 30, 31] (by decide +kernel) (by decide +kernel)
set_option maxRecDepth 20000 in
theorem gX5_parcelBy_X5_of : GoodIn wsX5_parcelBy (wsV RX5 44 RX5 yX5_of wsX5_of) := goodIn_app (goodIn_of _ (by decide +kernel)) ggX5_parcelBy_X5_of
set_option maxRecDepth 20000 in
theorem ggX5_parcelBy_X5_placeIn : GoodIn wsX5_parcelBy wsX5_placeIn := goodIn_r _ [10, 6, 11, 12, 13, 4, 14, 1, 2, 3, 5, 15, 16, 17, 18, 19, 20, 21, 22, 23, 24, 25, 26, 27, 28, 29, 30, 31] (by decide +kernel) (by decide +kernel)
set_option maxRecDepth 20000 in
theorem gX5_parcelBy_X5_placeIn : GoodIn wsX5_parcelBy (wsV RX5 147 RX5 yX5_placeIn wsX5_placeIn) := goodIn_app (goodIn_of _ (by decide +kernel)) ggX5_parcelBy_X5_placeIn
theorem dX5_parcelBy_0 : decode cX5_parcelBy 0 = .ok (.iload_n 2, 1) := by decide +kernel
theorem dX5_parcelBy_1 : decode cX5_parcelBy 1 = .ok (.iconst 3, 1) := by decide +kernel
theorem dX5_parcelBy_2 : decode cX5_parcelBy 2 = .ok (.if_icmp .ge 12, 3) := by decide +kernel
theorem dX5_parcelBy_5 : decode cX5_parcelBy 5 = .ok (.aload_n 0, 1) := by decide +kernel
theorem dX5_parcelBy_6 : decode cX5_parcelBy 6 = .ok (.iload_n 1, 1) := by decide +kernel
theorem dX5_parcelBy_7 : decode cX5_parcelBy 7 = .ok (.iload_n 2, 1) := by decide +kernel
theorem dX5_parcelBy_8 : decode cX5_parcelBy 8 = .ok (.invokevirtual 44, 3) := by decide +kernel
theorem dX5_parcelBy_11 : decode cX5_parcelBy 11 = .ok (.goto 49, 3) := by decide +kernel
theorem dX5_parcelBy_14 : decode cX5_parcelBy 14 = .ok (.iload_n 2, 1) := by decide +kernel
theorem dX5_parcelBy_15 : decode cX5_parcelBy 15 = .ok (.iconst 3, 1) := by decide +kernel
theorem dX5_parcelBy_16 : decode cX5_parcelBy 16 = .ok (.if_icmp .ne 26, 3) := by decide +kernel
theorem dX5_parcelBy_19 : decode cX5_parcelBy 19 = .ok (.aload_n 0, 1) := by decide +kernel
theorem dX5_parcelBy_20 : decode cX5_parcelBy 20 = .ok (.iload_n 1, 1) := by decide +kernel
theorem dX5_parcelBy_21 : decode cX5_parcelBy 21 = .ok (.iconst 2, 1) := by decide +kernel
theorem dX5_parcelBy_22 : decode cX5_parcelBy 22 = .ok (.invokevirtual 44, 3) := by decide +kernel
theorem dX5_parcelBy_25 : decode cX5_parcelBy 25 = .ok (.iconst 1, 1) := by decide +kernel
theorem dX5_parcelBy_26 : decode cX5_parcelBy 26 = .ok (.if_icmp .ne 12, 3) := by decide +kernel
theorem dX5_parcelBy_29 : decode cX5_parcelBy 29 = .ok (.aload_n 0, 1) := by decide +kernel
theorem dX5_parcelBy_30 : decode cX5_parcelBy 30 = .ok (.iload_n 1, 1) := by decide +kernel
theorem dX5_parcelBy_31 : decode cX5_parcelBy 31 = .ok (.iconst 3, 1) := by decide +kernel
theorem dX5_parcelBy_32 : decode cX5_parcelBy 32 = .ok (.invokevirtual 44, 3) := by decide +kernel
theorem dX5_parcelBy_35 : decode cX5_parcelBy 35 = .ok (.goto 25, 3) := by decide +kernel
theorem dX5_parcelBy_38 : decode cX5_parcelBy 38 = .ok (.iconst (-1), 1) := by decide +kernel
theorem dX5_parcelBy_39 : decode cX5_parcelBy 39 = .ok (.goto 21, 3) := by decide +kernel
theorem dX5_parcelBy_42 : decode cX5_parcelBy 42 = .ok (.aload_n 0, 1) := by decide +kernel
theorem dX5_parcelBy_43 : decode cX5_parcelBy 43 = .ok (.iload_n 1, 1) := by decide +kernel
theorem dX5_parcelBy_44 : decode cX5_parcelBy 44 = .ok (.iconst 2, 1) := by decide +kernel
theorem dX5_parcelBy_45 : decode cX5_parcelBy 45 = .ok (.invokevirtual 44, 3) := by decide +kernel
theorem dX5_parcelBy_48 : decode cX5_parcelBy 48 = .ok (.ifCond .ne 7, 3) := by decide +kernel
theorem dX5_parcelBy_51 : decode cX5_parcelBy 51 = .ok (.iconst (-1), 1) := by decide +kernel
theorem dX5_parcelBy_52 : decode cX5_parcelBy 52 = .ok (.goto 8, 3) := by decide +kernel
theorem dX5_parcelBy_55 : decode cX5_parcelBy 55 = .ok (.aload_n 0, 1) := by decide +kernel
theorem dX5_parcelBy_56 : decode cX5_parcelBy 56 = .ok (.iload_n 1, 1) := by decide +kernel
theorem dX5_parcelBy_57 : decode cX5_parcelBy 57 = .ok (.invokevirtual 147, 3) := by decide +kernel
theorem dX5_parcelBy_60 : decode cX5_parcelBy 60 = .ok (.ireturn, 1) := by decide +kernel
set_option maxRecDepth 20000 in
theorem ggX5_parcel_X5_in : GoodIn wsX5_parcel wsX5_in := goodIn_r _ [6] (by decide +kernel) (by decide +kernel)
set_option maxRecDepth 20000 in
theorem gX5_parcel_X5_in : GoodIn wsX5_parcel (va_wsS RX5 84 yX5_in wsX5_in) := goodIn_app (goodIn_of _ (by decide +kernel)) ggX5_parcel_X5_in
set_option maxRecDepth 20000 in
theorem ggX5_parcel_X5_parcelBy : GoodIn wsX5_parcel wsX5_parcelBy := goodIn_r _ [10, 11, 12, 13, 5, 14, 1, 15, 16, 17, 18, 19, 20, 21, 22, 23, 24, 25, 26, 27, 28, 29, 30, 31, 32, 33, 34, 35, 36, 37, 38, 39] (by decide +kernel) (by decide +kernel)
set_option maxRecDepth 20000 in
theorem gX5_parcel_X5_parcelBy : GoodIn wsX5_parcel (wsV RX5 150 RX5 yX5_parcelBy wsX5_parcelBy) := goodIn_app (goodIn_of _ (by decide +kernel)) ggX5_parcel_X5_parcelBy
theorem dX5_parcel_0 : decode cX5_parcel 0 = .ok (.aload_n 0, 1) := by decide +kernel
theorem dX5_parcel_1 : decode cX5_parcel 1 = .ok (.iload_n 1, 1) := by decide +kernel
theorem dX5_parcel_2 : decode cX5_parcel 2 = .ok (.iconst 0, 1) := by decide +kernel
theorem dX5_parcel_3 : decode cX5_parcel 3 = .ok (.aload_n 0, 1) := by decide +kernel
theorem dX5_parcel_4 : decode cX5_parcel 4 = .ok (.getfield 13, 3) := by decide +kernel
theorem dX5_parcel_7 : decode cX5_parcel 7 = .ok (.iconst 1, 1) := by decide +kernel
theorem dX5_parcel_8 : decode cX5_parcel 8 = .ok (.iaload, 1) := by decide +kernel
theorem dX5_parcel_9 : decode cX5_parcel 9 = .ok (.iconst 1, 1) := by decide +kernel
theorem dX5_parcel_10 : decode cX5_parcel 10 = .ok (.isub, 1) := by decide +kernel
theorem dX5_parcel_11 : decode cX5_parcel 11 = .ok (.invokestatic 84, 3) := by decide +kernel
theorem dX5_parcel_14 : decode cX5_parcel 14 = .ok (.ifCond .ne 7, 3) := by decide +kernel
theorem dX5_parcel_17 : decode cX5_parcel 17 = .ok (.iconst 1, 1) := by decide +kernel
theorem dX5_parcel_18 : decode cX5_parcel 18 = .ok (.goto 17, 3) := by decide +kernel
theorem dX5_parcel_21 : decode cX5_parcel 21 = .ok (.iload_n 2, 1) := by decide +kernel
theorem dX5_parcel_22 : decode cX5_parcel 22 = .ok (.iconst 0, 1) := by decide +kernel
theorem dX5_parcel_23 : decode cX5_parcel 23 = .ok (.iconst 4, 1) := by decide +kernel
theorem dX5_parcel_24 : decode cX5_parcel 24 = .ok (.invokestatic 84, 3) := by decide +kernel
theorem dX5_parcel_27 : decode cX5_parcel 27 = .ok (.ifCond .ne 7, 3) := by decide +kernel
theorem dX5_parcel_30 : decode cX5_parcel 30 = .ok (.iconst 2, 1) := by decide +kernel
theorem dX5_parcel_31 : decode cX5_parcel 31 = .ok (.goto 4, 3) := by decide +kernel
theorem dX5_parcel_34 : decode cX5_parcel 34 = .ok (.iconst 0, 1) := by decide +kernel
theorem dX5_parcel_35 : decode cX5_parcel 35 = .ok (.putfield 1, 3) := by decide +kernel
theorem dX5_parcel_38 : decode cX5_parcel 38 = .ok (.aload_n 0, 1) := by decide +kernel
theorem dX5_parcel_39 : decode cX5_parcel 39 = .ok (.getfield 1, 3) := by decide +kernel
theorem dX5_parcel_42 : decode cX5_parcel 42 = .ok (.ifCond .le 7, 3) := by decide +kernel
theorem dX5_parcel_45 : decode cX5_parcel 45 = .ok (.iconst 0, 1) := by decide +kernel
theorem dX5_parcel_46 : decode cX5_parcel 46 = .ok (.goto 9, 3) := by decide +kernel
theorem dX5_parcel_49 : decode cX5_parcel 49 = .ok (.aload_n 0, 1) := by decide +kernel
theorem dX5_parcel_50 : decode cX5_parcel 50 = .ok (.iload_n 1, 1) := by decide +kernel
theorem dX5_parcel_51 : decode cX5_parcel 51 = .ok (.iload_n 2, 1) := by decide +kernel
theorem dX5_parcel_52 : decode cX5_parcel 52 = .ok (.invokevirtual 150, 3) := by decide +kernel
theorem dX5_parcel_55 : decode cX5_parcel 55 = .ok (.ireturn, 1) := by decide +kernel
set_option maxRecDepth 20000 in
theorem ggX5_runBy_X5_manyOf : GoodIn wsX5_runBy wsX5_manyOf := goodIn_r _ [6, 1, 7, 8, 9, 5, 10, 11, 12, 13, 14, 39, 40, 41, 42, 43, 44, 45, 46, 47, 48, 49, 50, 51] (by decide +kernel) (by decide +kernel)
set_option maxRecDepth 20000 in
theorem gX5_runBy_X5_manyOf : GoodIn wsX5_runBy (wsV RX5 131 RX5 yX5_manyOf wsX5_manyOf) := goodIn_app (goodIn_of _ (by decide +kernel)) ggX5_runBy_X5_manyOf
set_option maxRecDepth 20000 in
theorem ggX5_runBy_X5_weightOf : GoodIn wsX5_runBy wsX5_weightOf := goodIn_r _ [18, 1, 7, 8, 9, 5, 10, 11, 12, 13, 14, 39, 40, 41, 42, 43, 44, 45, 46, 47, 48, 49, 50, 51] (by decide +kernel) (by decide +kernel)
set_option maxRecDepth 20000 in
theorem gX5_runBy_X5_weightOf : GoodIn wsX5_runBy (wsV RX5 116 RX5 yX5_weightOf wsX5_weightOf) := goodIn_app (goodIn_of _ (by decide +kernel)) ggX5_runBy_X5_weightOf
set_option maxRecDepth 20000 in
theorem ggX5_runBy_X5_placeOf : GoodIn wsX5_runBy wsX5_placeOf := goodIn_r _ [22, 1, 23, 24, 25, 5, 26, 39, 40, 41, 42, 43, 44, 45, 46, 47, 48, 49, 50, 51] (by decide +kernel) (by decide +kernel)
set_option maxRecDepth 20000 in
theorem gX5_runBy_X5_placeOf : GoodIn wsX5_runBy (wsV RX5 110 RX5 yX5_placeOf wsX5_placeOf) := goodIn_app (goodIn_of _ (by decide +kernel)) ggX5_runBy_X5_placeOf
set_option maxRecDepth 20000 in
theorem ggX5_runBy_X5_firstOf : GoodIn wsX5_runBy wsX5_firstOf := goodIn_r _ [30, 1, 7, 8, 9, 5, 10, 11, 12, 13, 14, 31, 32, 33, 34, 39, 40, 41, 42, 43, 44, 45, 46, 47, 48, 49, 50, 51] (by decide +kernel) (by decide +kernel)
set_option maxRecDepth 20000 in
theorem gX5_runBy_X5_firstOf : GoodIn wsX5_runBy (wsV RX5 140 RX5 yX5_firstOf wsX5_firstOf) := goodIn_app (goodIn_of _ (by decide +kernel)) ggX5_runBy_X5_firstOf
set_option maxRecDepth 20000 in
theorem ggX5_runBy_X5_of : GoodIn wsX5_runBy wsX5_of := goodIn_r _ [14, 1, 39, 40, 41, 42, 43, 44, 45, 46, 47, 48, 49, 50, 51] (by decide +kernel) (by decide +kernel)
set_option maxRecDepth 20000 in
theorem gX5_runBy_X5_of : GoodIn wsX5_runBy (wsV RX5 44 RX5 yX5_of wsX5_of) := goodIn_app (goodIn_of _ (by decide +kernel)) ggX5_runBy_X5_of
set_option maxRecDepth 20000 in
theorem ggX5_runBy_X5_lastOf : GoodIn wsX5_runBy wsX5_lastOf := goodIn_r _ [38, 1, 7, 8, 9, 5, 10, 11, 12, 13, 14, 31, 32, 33, 34, 39, 40, 41, 42, 43, 44, 45, 46, 47, 48, 49, 50, 51] (by decide +kernel) (by decide +kernel)
set_option maxRecDepth 20000 in
theorem gX5_runBy_X5_lastOf : GoodIn wsX5_runBy (wsV RX5 61 RX5 yX5_lastOf wsX5_lastOf) := goodIn_app (goodIn_of _ (by decide +kernel)) ggX5_runBy_X5_lastOf
theorem dX5_runBy_0 : decode cX5_runBy 0 = .ok (.iload_n 2, 1) := by decide +kernel
theorem dX5_runBy_1 : decode cX5_runBy 1 = .ok (.tableswitch 87 0 4 #[35, 41, 47, 65, 76], 35) := by decide +kernel
theorem dX5_runBy_36 : decode cX5_runBy 36 = .ok (.aload_n 0, 1) := by decide +kernel
theorem dX5_runBy_37 : decode cX5_runBy 37 = .ok (.iload_n 1, 1) := by decide +kernel
theorem dX5_runBy_38 : decode cX5_runBy 38 = .ok (.invokevirtual 131, 3) := by decide +kernel
theorem dX5_runBy_41 : decode cX5_runBy 41 = .ok (.ireturn, 1) := by decide +kernel
theorem dX5_runBy_42 : decode cX5_runBy 42 = .ok (.aload_n 0, 1) := by decide +kernel
theorem dX5_runBy_43 : decode cX5_runBy 43 = .ok (.iload_n 1, 1) := by decide +kernel
theorem dX5_runBy_44 : decode cX5_runBy 44 = .ok (.invokevirtual 116, 3) := by decide +kernel
theorem dX5_runBy_47 : decode cX5_runBy 47 = .ok (.ireturn, 1) := by decide +kernel
theorem dX5_runBy_48 : decode cX5_runBy 48 = .ok (.aload_n 0, 1) := by decide +kernel
theorem dX5_runBy_49 : decode cX5_runBy 49 = .ok (.getfield 13, 3) := by decide +kernel
theorem dX5_runBy_52 : decode cX5_runBy 52 = .ok (.bipush 10, 2) := by decide +kernel
theorem dX5_runBy_54 : decode cX5_runBy 54 = .ok (.iconst 2, 1) := by decide +kernel
theorem dX5_runBy_55 : decode cX5_runBy 55 = .ok (.aload_n 0, 1) := by decide +kernel
theorem dX5_runBy_56 : decode cX5_runBy 56 = .ok (.iload_n 1, 1) := by decide +kernel
theorem dX5_runBy_57 : decode cX5_runBy 57 = .ok (.invokevirtual 110, 3) := by decide +kernel
theorem dX5_runBy_60 : decode cX5_runBy 60 = .ok (.imul, 1) := by decide +kernel
theorem dX5_runBy_61 : decode cX5_runBy 61 = .ok (.iadd, 1) := by decide +kernel
theorem dX5_runBy_62 : decode cX5_runBy 62 = .ok (.iconst 1, 1) := by decide +kernel
theorem dX5_runBy_63 : decode cX5_runBy 63 = .ok (.iadd, 1) := by decide +kernel
theorem dX5_runBy_64 : decode cX5_runBy 64 = .ok (.iaload, 1) := by decide +kernel
theorem dX5_runBy_65 : decode cX5_runBy 65 = .ok (.ireturn, 1) := by decide +kernel
theorem dX5_runBy_66 : decode cX5_runBy 66 = .ok (.aload_n 0, 1) := by decide +kernel
theorem dX5_runBy_67 : decode cX5_runBy 67 = .ok (.aload_n 0, 1) := by decide +kernel
theorem dX5_runBy_68 : decode cX5_runBy 68 = .ok (.iload_n 1, 1) := by decide +kernel
theorem dX5_runBy_69 : decode cX5_runBy 69 = .ok (.invokevirtual 140, 3) := by decide +kernel
theorem dX5_runBy_72 : decode cX5_runBy 72 = .ok (.iconst 0, 1) := by decide +kernel
theorem dX5_runBy_73 : decode cX5_runBy 73 = .ok (.invokevirtual 44, 3) := by decide +kernel
theorem dX5_runBy_76 : decode cX5_runBy 76 = .ok (.ireturn, 1) := by decide +kernel
theorem dX5_runBy_77 : decode cX5_runBy 77 = .ok (.aload_n 0, 1) := by decide +kernel
theorem dX5_runBy_78 : decode cX5_runBy 78 = .ok (.aload_n 0, 1) := by decide +kernel
theorem dX5_runBy_79 : decode cX5_runBy 79 = .ok (.iload_n 1, 1) := by decide +kernel
theorem dX5_runBy_80 : decode cX5_runBy 80 = .ok (.invokevirtual 61, 3) := by decide +kernel
theorem dX5_runBy_83 : decode cX5_runBy 83 = .ok (.iconst 0, 1) := by decide +kernel
theorem dX5_runBy_84 : decode cX5_runBy 84 = .ok (.invokevirtual 44, 3) := by decide +kernel
theorem dX5_runBy_87 : decode cX5_runBy 87 = .ok (.ireturn, 1) := by decide +kernel
theorem dX5_runBy_88 : decode cX5_runBy 88 = .ok (.aload_n 0, 1) := by decide +kernel
theorem dX5_runBy_89 : decode cX5_runBy 89 = .ok (.getfield 13, 3) := by decide +kernel
theorem dX5_runBy_92 : decode cX5_runBy 92 = .ok (.bipush 6, 2) := by decide +kernel
theorem dX5_runBy_94 : decode cX5_runBy 94 = .ok (.iaload, 1) := by decide +kernel
theorem dX5_runBy_95 : decode cX5_runBy 95 = .ok (.iload_n 1, 1) := by decide +kernel
theorem dX5_runBy_96 : decode cX5_runBy 96 = .ok (.if_icmp .ne 7, 3) := by decide +kernel
theorem dX5_runBy_99 : decode cX5_runBy 99 = .ok (.iconst 1, 1) := by decide +kernel
theorem dX5_runBy_100 : decode cX5_runBy 100 = .ok (.goto 4, 3) := by decide +kernel
theorem dX5_runBy_103 : decode cX5_runBy 103 = .ok (.iconst 0, 1) := by decide +kernel
theorem dX5_runBy_104 : decode cX5_runBy 104 = .ok (.ireturn, 1) := by decide +kernel
set_option maxRecDepth 20000 in
theorem ggX5_run_X5_placeOf : GoodIn wsX5_run wsX5_placeOf := goodIn_r _ [6, 7, 8, 9, 10, 5, 11, 47, 48, 49, 50, 51, 52, 53, 54, 55, 56, 57, 58, 59] (by decide +kernel) (by decide +kernel)
set_option maxRecDepth 20000 in
theorem gX5_run_X5_placeOf : GoodIn wsX5_run (wsV RX5 110 RX5 yX5_placeOf wsX5_placeOf) := goodIn_app (goodIn_of _ (by decide +kernel)) ggX5_run_X5_placeOf
set_option maxRecDepth 20000 in
theorem ggX5_run_X5_in : GoodIn wsX5_run wsX5_in := goodIn_r _ [14] (by decide +kernel) (by decide +kernel)
set_option maxRecDepth 20000 in
theorem gX5_run_X5_in : GoodIn wsX5_run (va_wsS RX5 84 yX5_in wsX5_in) := goodIn_app (goodIn_of _ (by decide +kernel)) ggX5_run_X5_in
set_option maxRecDepth 20000 in
theorem ggX5_run_X5_runBy : GoodIn wsX5_run wsX5_runBy := goodIn_r _ [18, 7, 19, 20, 21, 5, 22, 23, 24, 25, 26, 27, 28, 29, 30, 31, 32, 33, 34, 2, 3, 4, 6, 8, 9, 10, 11, 35, 36, 37, 38, 39, 40, 41, 42, 43, 44, 45, 46, 47, 48, 49, 50, 51, 52, 53, 54, 55, 56, 57, 58, 59] (by decide +kernel) (by decide +kernel)
set_option maxRecDepth 20000 in
theorem gX5_run_X5_runBy : GoodIn wsX5_run (wsV RX5 153 RX5 yX5_runBy wsX5_runBy) := goodIn_app (goodIn_of _ (by decide +kernel)) ggX5_run_X5_runBy
theorem dX5_run_0 : decode cX5_run 0 = .ok (.aload_n 0, 1) := by decide +kernel
theorem dX5_run_1 : decode cX5_run 1 = .ok (.aload_n 0, 1) := by decide +kernel
theorem dX5_run_2 : decode cX5_run 2 = .ok (.iload_n 1, 1) := by decide +kernel
theorem dX5_run_3 : decode cX5_run 3 = .ok (.invokevirtual 110, 3) := by decide +kernel
theorem dX5_run_6 : decode cX5_run 6 = .ok (.iconst (-1), 1) := by decide +kernel
theorem dX5_run_7 : decode cX5_run 7 = .ok (.if_icmp .ne 7, 3) := by decide +kernel
theorem dX5_run_10 : decode cX5_run 10 = .ok (.iconst 1, 1) := by decide +kernel
theorem dX5_run_11 : decode cX5_run 11 = .ok (.goto 17, 3) := by decide +kernel
theorem dX5_run_14 : decode cX5_run 14 = .ok (.iload_n 2, 1) := by decide +kernel
theorem dX5_run_15 : decode cX5_run 15 = .ok (.iconst 0, 1) := by decide +kernel
theorem dX5_run_16 : decode cX5_run 16 = .ok (.iconst 5, 1) := by decide +kernel
theorem dX5_run_17 : decode cX5_run 17 = .ok (.invokestatic 84, 3) := by decide +kernel
theorem dX5_run_20 : decode cX5_run 20 = .ok (.ifCond .ne 7, 3) := by decide +kernel
theorem dX5_run_23 : decode cX5_run 23 = .ok (.iconst 2, 1) := by decide +kernel
theorem dX5_run_24 : decode cX5_run 24 = .ok (.goto 4, 3) := by decide +kernel
theorem dX5_run_27 : decode cX5_run 27 = .ok (.iconst 0, 1) := by decide +kernel
theorem dX5_run_28 : decode cX5_run 28 = .ok (.putfield 1, 3) := by decide +kernel
theorem dX5_run_31 : decode cX5_run 31 = .ok (.aload_n 0, 1) := by decide +kernel
theorem dX5_run_32 : decode cX5_run 32 = .ok (.getfield 1, 3) := by decide +kernel
theorem dX5_run_35 : decode cX5_run 35 = .ok (.ifCond .le 7, 3) := by decide +kernel
theorem dX5_run_38 : decode cX5_run 38 = .ok (.iconst 0, 1) := by decide +kernel
theorem dX5_run_39 : decode cX5_run 39 = .ok (.goto 9, 3) := by decide +kernel
theorem dX5_run_42 : decode cX5_run 42 = .ok (.aload_n 0, 1) := by decide +kernel
theorem dX5_run_43 : decode cX5_run 43 = .ok (.iload_n 1, 1) := by decide +kernel
theorem dX5_run_44 : decode cX5_run 44 = .ok (.iload_n 2, 1) := by decide +kernel
theorem dX5_run_45 : decode cX5_run 45 = .ok (.invokevirtual 153, 3) := by decide +kernel
theorem dX5_run_48 : decode cX5_run 48 = .ok (.ireturn, 1) := by decide +kernel
set_option maxRecDepth 20000 in
theorem ggX5_inRun_X5_placeOf : GoodIn wsX5_inRun wsX5_placeOf := goodIn_r _ [7, 2, 8, 9, 10, 6, 11, 39, 40, 41, 42, 43, 44, 45, 46, 47, 48, 49, 50, 51] (by decide +kernel) (by decide +kernel)
set_option maxRecDepth 20000 in
theorem gX5_inRun_X5_placeOf : GoodIn wsX5_inRun (wsV RX5 110 RX5 yX5_placeOf wsX5_placeOf) := goodIn_app (goodIn_of _ (by decide +kernel)) ggX5_inRun_X5_placeOf
set_option maxRecDepth 20000 in
theorem ggX5_inRun_X5_manyOf : GoodIn wsX5_inRun wsX5_manyOf := goodIn_r _ [15, 2, 16, 17, 18, 6, 19, 20, 21, 22, 23, 39, 40, 41, 42, 43, 44, 45, 46, 47, 48, 49, 50, 51] (by decide +kernel) (by decide +kernel)
set_option maxRecDepth 20000 in
theorem gX5_inRun_X5_manyOf : GoodIn wsX5_inRun (wsV RX5 131 RX5 yX5_manyOf wsX5_manyOf) := goodIn_app (goodIn_of _ (by decide +kernel)) ggX5_inRun_X5_manyOf
set_option maxRecDepth 20000 in
theorem ggX5_inRun_X5_in : GoodIn wsX5_inRun wsX5_in := goodIn_r _ [26] (by decide +kernel) (by decide +kernel)
set_option maxRecDepth 20000 in
theorem gX5_inRun_X5_in : GoodIn wsX5_inRun (va_wsS RX5 84 yX5_in wsX5_in) := goodIn_app (goodIn_of _ (by decide +kernel)) ggX5_inRun_X5_in
set_option maxRecDepth 20000 in
theorem ggX5_inRun_X5_isOf : GoodIn wsX5_inRun wsX5_isOf := goodIn_r _ [19, 20, 21, 22, 6, 23, 2, 39, 40, 41, 42, 43, 44, 45, 46, 47, 48, 49, 50, 51] (by decide +kernel) (by decide +kernel)
set_option maxRecDepth 20000 in
theorem gX5_inRun_X5_isOf : GoodIn wsX5_inRun (wsV RX5 48 RX5 yX5_isOf wsX5_isOf) := goodIn_app (goodIn_of _ (by decide +kernel)) ggX5_inRun_X5_isOf
set_option maxRecDepth 20000 in
theorem ggX5_inRun_X5_placeIn : GoodIn wsX5_inRun wsX5_placeIn := goodIn_r _ [30, 2, 31, 32, 33, 6, 34, 20, 21, 22, 23, 35, 36, 37, 38, 39, 40, 41, 42, 43, 44, 45, 46, 47, 48, 49, 50, 51] (by decide +kernel) (by decide +kernel)
set_option maxRecDepth 20000 in
theorem gX5_inRun_X5_placeIn : GoodIn wsX5_inRun (wsV RX5 147 RX5 yX5_placeIn wsX5_placeIn) := goodIn_app (goodIn_of _ (by decide +kernel)) ggX5_inRun_X5_placeIn
theorem dX5_inRun_0 : decode cX5_inRun 0 = .ok (.aload_n 0, 1) := by decide +kernel
theorem dX5_inRun_1 : decode cX5_inRun 1 = .ok (.aload_n 0, 1) := by decide +kernel
theorem dX5_inRun_2 : decode cX5_inRun 2 = .ok (.iload_n 1, 1) := by decide +kernel
theorem dX5_inRun_3 : decode cX5_inRun 3 = .ok (.invokevirtual 110, 3) := by decide +kernel
theorem dX5_inRun_6 : decode cX5_inRun 6 = .ok (.iconst (-1), 1) := by decide +kernel
theorem dX5_inRun_7 : decode cX5_inRun 7 = .ok (.if_icmp .ne 7, 3) := by decide +kernel
theorem dX5_inRun_10 : decode cX5_inRun 10 = .ok (.iconst 1, 1) := by decide +kernel
theorem dX5_inRun_11 : decode cX5_inRun 11 = .ok (.goto 23, 3) := by decide +kernel
theorem dX5_inRun_14 : decode cX5_inRun 14 = .ok (.iload_n 2, 1) := by decide +kernel
theorem dX5_inRun_15 : decode cX5_inRun 15 = .ok (.iconst 0, 1) := by decide +kernel
theorem dX5_inRun_16 : decode cX5_inRun 16 = .ok (.aload_n 0, 1) := by decide +kernel
theorem dX5_inRun_17 : decode cX5_inRun 17 = .ok (.iload_n 1, 1) := by decide +kernel
theorem dX5_inRun_18 : decode cX5_inRun 18 = .ok (.invokevirtual 131, 3) := by decide +kernel
theorem dX5_inRun_21 : decode cX5_inRun 21 = .ok (.iconst 1, 1) := by decide +kernel
theorem dX5_inRun_22 : decode cX5_inRun 22 = .ok (.isub, 1) := by decide +kernel
theorem dX5_inRun_23 : decode cX5_inRun 23 = .ok (.invokestatic 84, 3) := by decide +kernel
theorem dX5_inRun_26 : decode cX5_inRun 26 = .ok (.ifCond .ne 7, 3) := by decide +kernel
theorem dX5_inRun_29 : decode cX5_inRun 29 = .ok (.iconst 2, 1) := by decide +kernel
theorem dX5_inRun_30 : decode cX5_inRun 30 = .ok (.goto 4, 3) := by decide +kernel
theorem dX5_inRun_33 : decode cX5_inRun 33 = .ok (.iconst 0, 1) := by decide +kernel
theorem dX5_inRun_34 : decode cX5_inRun 34 = .ok (.putfield 1, 3) := by decide +kernel
theorem dX5_inRun_37 : decode cX5_inRun 37 = .ok (.iconst 0, 1) := by decide +kernel
theorem dX5_inRun_38 : decode cX5_inRun 38 = .ok (.istore_n 3, 1) := by decide +kernel
theorem dX5_inRun_39 : decode cX5_inRun 39 = .ok (.iload_n 3, 1) := by decide +kernel
theorem dX5_inRun_40 : decode cX5_inRun 40 = .ok (.aload_n 0, 1) := by decide +kernel
theorem dX5_inRun_41 : decode cX5_inRun 41 = .ok (.getfield 13, 3) := by decide +kernel
theorem dX5_inRun_44 : decode cX5_inRun 44 = .ok (.iconst 1, 1) := by decide +kernel
theorem dX5_inRun_45 : decode cX5_inRun 45 = .ok (.iaload, 1) := by decide +kernel
theorem dX5_inRun_46 : decode cX5_inRun 46 = .ok (.if_icmp .ge 36, 3) := by decide +kernel
theorem dX5_inRun_49 : decode cX5_inRun 49 = .ok (.aload_n 0, 1) := by decide +kernel
theorem dX5_inRun_50 : decode cX5_inRun 50 = .ok (.getfield 1, 3) := by decide +kernel
theorem dX5_inRun_53 : decode cX5_inRun 53 = .ok (.ifCond .ne 29, 3) := by decide +kernel
theorem dX5_inRun_56 : decode cX5_inRun 56 = .ok (.aload_n 0, 1) := by decide +kernel
theorem dX5_inRun_57 : decode cX5_inRun 57 = .ok (.iload_n 3, 1) := by decide +kernel
theorem dX5_inRun_58 : decode cX5_inRun 58 = .ok (.iload_n 1, 1) := by decide +kernel
theorem dX5_inRun_59 : decode cX5_inRun 59 = .ok (.invokevirtual 48, 3) := by decide +kernel
theorem dX5_inRun_62 : decode cX5_inRun 62 = .ok (.ifCond .eq 14, 3) := by decide +kernel
theorem dX5_inRun_65 : decode cX5_inRun 65 = .ok (.aload_n 0, 1) := by decide +kernel
theorem dX5_inRun_66 : decode cX5_inRun 66 = .ok (.iload_n 3, 1) := by decide +kernel
theorem dX5_inRun_67 : decode cX5_inRun 67 = .ok (.invokevirtual 147, 3) := by decide +kernel
theorem dX5_inRun_70 : decode cX5_inRun 70 = .ok (.iload_n 2, 1) := by decide +kernel
theorem dX5_inRun_71 : decode cX5_inRun 71 = .ok (.if_icmp .ne 5, 3) := by decide +kernel
theorem dX5_inRun_74 : decode cX5_inRun 74 = .ok (.iload_n 3, 1) := by decide +kernel
theorem dX5_inRun_75 : decode cX5_inRun 75 = .ok (.ireturn, 1) := by decide +kernel
theorem dX5_inRun_76 : decode cX5_inRun 76 = .ok (.iinc 3 1, 3) := by decide +kernel
theorem dX5_inRun_79 : decode cX5_inRun 79 = .ok (.goto (-40), 3) := by decide +kernel
theorem dX5_inRun_82 : decode cX5_inRun 82 = .ok (.iconst 0, 1) := by decide +kernel
theorem dX5_inRun_83 : decode cX5_inRun 83 = .ok (.ireturn, 1) := by decide +kernel
set_option maxRecDepth 20000 in
theorem ggX5_ashore_X5_many : GoodIn wsX5_ashore wsX5_many := goodIn_r _ [7, 2, 8, 9, 10, 6, 11, 27, 28, 29, 30, 31, 32, 33, 34, 35, 36, 37, 38, 39] (by decide +kernel) (by decide +kernel)
set_option maxRecDepth 20000 in
theorem gX5_ashore_X5_many : GoodIn wsX5_ashore (wsV RX5 78 RX5 yX5_many wsX5_many) := goodIn_app (goodIn_of _ (by decide +kernel)) ggX5_ashore_X5_many
set_option maxRecDepth 20000 in
theorem ggX5_ashore_X5_in : GoodIn wsX5_ashore wsX5_in := goodIn_r _ [14] (by decide +kernel) (by decide +kernel)
set_option maxRecDepth 20000 in
theorem gX5_ashore_X5_in : GoodIn wsX5_ashore (va_wsS RX5 84 yX5_in wsX5_in) := goodIn_app (goodIn_of _ (by decide +kernel)) ggX5_ashore_X5_in
set_option maxRecDepth 20000 in
theorem ggX5_ashore_X5_of : GoodIn wsX5_ashore wsX5_of := goodIn_r _ [11, 2, 27, 28, 29, 30, 31, 32, 33, 34, 35, 36, 37, 38, 39] (by decide +kernel) (by decide +kernel)
set_option maxRecDepth 20000 in
theorem gX5_ashore_X5_of : GoodIn wsX5_ashore (wsV RX5 44 RX5 yX5_of wsX5_of) := goodIn_app (goodIn_of _ (by decide +kernel)) ggX5_ashore_X5_of
set_option maxRecDepth 20000 in
theorem ggX5_ashore_X5_placeIn : GoodIn wsX5_ashore wsX5_placeIn := goodIn_r _ [18, 2, 19, 20, 21, 6, 22, 8, 9, 10, 11, 23, 24, 25, 26, 27, 28, 29, 30, 31, 32, 33, 34, 35, 36, 37, 38, 39] (by decide +kernel) (by decide +kernel)
set_option maxRecDepth 20000 in
theorem gX5_ashore_X5_placeIn : GoodIn wsX5_ashore (wsV RX5 147 RX5 yX5_placeIn wsX5_placeIn) := goodIn_app (goodIn_of _ (by decide +kernel)) ggX5_ashore_X5_placeIn
theorem dX5_ashore_0 : decode cX5_ashore 0 = .ok (.aload_n 0, 1) := by decide +kernel
theorem dX5_ashore_1 : decode cX5_ashore 1 = .ok (.iload_n 1, 1) := by decide +kernel
theorem dX5_ashore_2 : decode cX5_ashore 2 = .ok (.iconst 0, 1) := by decide +kernel
theorem dX5_ashore_3 : decode cX5_ashore 3 = .ok (.aload_n 0, 1) := by decide +kernel
theorem dX5_ashore_4 : decode cX5_ashore 4 = .ok (.iconst 2, 1) := by decide +kernel
theorem dX5_ashore_5 : decode cX5_ashore 5 = .ok (.invokevirtual 78, 3) := by decide +kernel
theorem dX5_ashore_8 : decode cX5_ashore 8 = .ok (.iconst 1, 1) := by decide +kernel
theorem dX5_ashore_9 : decode cX5_ashore 9 = .ok (.isub, 1) := by decide +kernel
theorem dX5_ashore_10 : decode cX5_ashore 10 = .ok (.invokestatic 84, 3) := by decide +kernel
theorem dX5_ashore_13 : decode cX5_ashore 13 = .ok (.ifCond .eq 7, 3) := by decide +kernel
theorem dX5_ashore_16 : decode cX5_ashore 16 = .ok (.iconst 0, 1) := by decide +kernel
theorem dX5_ashore_17 : decode cX5_ashore 17 = .ok (.goto 4, 3) := by decide +kernel
theorem dX5_ashore_20 : decode cX5_ashore 20 = .ok (.iconst 1, 1) := by decide +kernel
theorem dX5_ashore_21 : decode cX5_ashore 21 = .ok (.putfield 1, 3) := by decide +kernel
theorem dX5_ashore_24 : decode cX5_ashore 24 = .ok (.iconst 0, 1) := by decide +kernel
theorem dX5_ashore_25 : decode cX5_ashore 25 = .ok (.istore_n 2, 1) := by decide +kernel
theorem dX5_ashore_26 : decode cX5_ashore 26 = .ok (.iload_n 2, 1) := by decide +kernel
theorem dX5_ashore_27 : decode cX5_ashore 27 = .ok (.aload_n 0, 1) := by decide +kernel
theorem dX5_ashore_28 : decode cX5_ashore 28 = .ok (.getfield 13, 3) := by decide +kernel
theorem dX5_ashore_31 : decode cX5_ashore 31 = .ok (.iconst 1, 1) := by decide +kernel
theorem dX5_ashore_32 : decode cX5_ashore 32 = .ok (.iaload, 1) := by decide +kernel
theorem dX5_ashore_33 : decode cX5_ashore 33 = .ok (.if_icmp .ge 37, 3) := by decide +kernel
theorem dX5_ashore_36 : decode cX5_ashore 36 = .ok (.aload_n 0, 1) := by decide +kernel
theorem dX5_ashore_37 : decode cX5_ashore 37 = .ok (.getfield 1, 3) := by decide +kernel
theorem dX5_ashore_40 : decode cX5_ashore 40 = .ok (.ifCond .ne 30, 3) := by decide +kernel
theorem dX5_ashore_43 : decode cX5_ashore 43 = .ok (.aload_n 0, 1) := by decide +kernel
theorem dX5_ashore_44 : decode cX5_ashore 44 = .ok (.iload_n 2, 1) := by decide +kernel
theorem dX5_ashore_45 : decode cX5_ashore 45 = .ok (.iconst 2, 1) := by decide +kernel
theorem dX5_ashore_46 : decode cX5_ashore 46 = .ok (.invokevirtual 44, 3) := by decide +kernel
theorem dX5_ashore_49 : decode cX5_ashore 49 = .ok (.iconst 2, 1) := by decide +kernel
theorem dX5_ashore_50 : decode cX5_ashore 50 = .ok (.if_icmp .ne 14, 3) := by decide +kernel
theorem dX5_ashore_53 : decode cX5_ashore 53 = .ok (.aload_n 0, 1) := by decide +kernel
theorem dX5_ashore_54 : decode cX5_ashore 54 = .ok (.iload_n 2, 1) := by decide +kernel
theorem dX5_ashore_55 : decode cX5_ashore 55 = .ok (.invokevirtual 147, 3) := by decide +kernel
theorem dX5_ashore_58 : decode cX5_ashore 58 = .ok (.iload_n 1, 1) := by decide +kernel
theorem dX5_ashore_59 : decode cX5_ashore 59 = .ok (.if_icmp .ne 5, 3) := by decide +kernel
theorem dX5_ashore_62 : decode cX5_ashore 62 = .ok (.iload_n 2, 1) := by decide +kernel
theorem dX5_ashore_63 : decode cX5_ashore 63 = .ok (.ireturn, 1) := by decide +kernel
theorem dX5_ashore_64 : decode cX5_ashore 64 = .ok (.iinc 2 1, 3) := by decide +kernel
theorem dX5_ashore_67 : decode cX5_ashore 67 = .ok (.goto (-41), 3) := by decide +kernel
theorem dX5_ashore_70 : decode cX5_ashore 70 = .ok (.iconst 0, 1) := by decide +kernel
theorem dX5_ashore_71 : decode cX5_ashore 71 = .ok (.ireturn, 1) := by decide +kernel
set_option maxRecDepth 20000 in
theorem ggX5_runAt_X5_in : GoodIn wsX5_runAt wsX5_in := goodIn_r _ [6] (by decide +kernel) (by decide +kernel)
set_option maxRecDepth 20000 in
theorem gX5_runAt_X5_in : GoodIn wsX5_runAt (va_wsS RX5 84 yX5_in wsX5_in) := goodIn_app (goodIn_of _ (by decide +kernel)) ggX5_runAt_X5_in
set_option maxRecDepth 20000 in
theorem ggX5_runAt_X5_numberAt : GoodIn wsX5_runAt wsX5_numberAt := goodIn_r _ [10, 1, 11, 12, 13, 14, 15, 16, 17, 18, 19, 20, 21, 22, 23] (by decide +kernel) (by decide +kernel)
set_option maxRecDepth 20000 in
theorem gX5_runAt_X5_numberAt : GoodIn wsX5_runAt (wsV RX5 40 RX5 yX5_numberAt wsX5_numberAt) := goodIn_app (goodIn_of _ (by decide +kernel)) ggX5_runAt_X5_numberAt
theorem dX5_runAt_0 : decode cX5_runAt 0 = .ok (.aload_n 0, 1) := by decide +kernel
theorem dX5_runAt_1 : decode cX5_runAt 1 = .ok (.iload_n 1, 1) := by decide +kernel
theorem dX5_runAt_2 : decode cX5_runAt 2 = .ok (.iconst 0, 1) := by decide +kernel
theorem dX5_runAt_3 : decode cX5_runAt 3 = .ok (.aload_n 0, 1) := by decide +kernel
theorem dX5_runAt_4 : decode cX5_runAt 4 = .ok (.getfield 13, 3) := by decide +kernel
theorem dX5_runAt_7 : decode cX5_runAt 7 = .ok (.bipush 8, 2) := by decide +kernel
theorem dX5_runAt_9 : decode cX5_runAt 9 = .ok (.iaload, 1) := by decide +kernel
theorem dX5_runAt_10 : decode cX5_runAt 10 = .ok (.iconst 1, 1) := by decide +kernel
theorem dX5_runAt_11 : decode cX5_runAt 11 = .ok (.isub, 1) := by decide +kernel
theorem dX5_runAt_12 : decode cX5_runAt 12 = .ok (.invokestatic 84, 3) := by decide +kernel
theorem dX5_runAt_15 : decode cX5_runAt 15 = .ok (.ifCond .eq 7, 3) := by decide +kernel
theorem dX5_runAt_18 : decode cX5_runAt 18 = .ok (.iconst 0, 1) := by decide +kernel
theorem dX5_runAt_19 : decode cX5_runAt 19 = .ok (.goto 4, 3) := by decide +kernel
theorem dX5_runAt_22 : decode cX5_runAt 22 = .ok (.iconst 1, 1) := by decide +kernel
theorem dX5_runAt_23 : decode cX5_runAt 23 = .ok (.putfield 1, 3) := by decide +kernel
theorem dX5_runAt_26 : decode cX5_runAt 26 = .ok (.aload_n 0, 1) := by decide +kernel
theorem dX5_runAt_27 : decode cX5_runAt 27 = .ok (.getfield 1, 3) := by decide +kernel
theorem dX5_runAt_30 : decode cX5_runAt 30 = .ok (.ifCond .le 7, 3) := by decide +kernel
theorem dX5_runAt_33 : decode cX5_runAt 33 = .ok (.iconst 0, 1) := by decide +kernel
theorem dX5_runAt_34 : decode cX5_runAt 34 = .ok (.goto 8, 3) := by decide +kernel
theorem dX5_runAt_37 : decode cX5_runAt 37 = .ok (.aload_n 0, 1) := by decide +kernel
theorem dX5_runAt_38 : decode cX5_runAt 38 = .ok (.iload_n 1, 1) := by decide +kernel
theorem dX5_runAt_39 : decode cX5_runAt 39 = .ok (.invokevirtual 40, 3) := by decide +kernel
theorem dX5_runAt_42 : decode cX5_runAt 42 = .ok (.ireturn, 1) := by decide +kernel
set_option maxRecDepth 20000 in
theorem ggX5_valueBy_X5_many : GoodIn wsX5_valueBy wsX5_many := goodIn_r _ [6, 1, 7, 8, 9, 5, 10, 11, 12, 13, 14, 15, 16, 17, 18, 19, 20, 21, 22, 23] (by decide +kernel) (by decide +kernel)
set_option maxRecDepth 20000 in
theorem gX5_valueBy_X5_many : GoodIn wsX5_valueBy (wsV RX5 78 RX5 yX5_many wsX5_many) := goodIn_app (goodIn_of _ (by decide +kernel)) ggX5_valueBy_X5_many
theorem dX5_valueBy_0 : decode cX5_valueBy 0 = .ok (.iload_n 1, 1) := by decide +kernel
theorem dX5_valueBy_1 : decode cX5_valueBy 1 = .ok (.tableswitch 135 0 10 #[59, 66, 72, 79, 87, 93, 99, 106, 113, 120, 127], 59) := by decide +kernel
theorem dX5_valueBy_60 : decode cX5_valueBy 60 = .ok (.aload_n 0, 1) := by decide +kernel
theorem dX5_valueBy_61 : decode cX5_valueBy 61 = .ok (.getfield 13, 3) := by decide +kernel
theorem dX5_valueBy_64 : decode cX5_valueBy 64 = .ok (.iconst 0, 1) := by decide +kernel
theorem dX5_valueBy_65 : decode cX5_valueBy 65 = .ok (.iaload, 1) := by decide +kernel
theorem dX5_valueBy_66 : decode cX5_valueBy 66 = .ok (.ireturn, 1) := by decide +kernel
theorem dX5_valueBy_67 : decode cX5_valueBy 67 = .ok (.aload_n 0, 1) := by decide +kernel
theorem dX5_valueBy_68 : decode cX5_valueBy 68 = .ok (.iconst 0, 1) := by decide +kernel
theorem dX5_valueBy_69 : decode cX5_valueBy 69 = .ok (.invokevirtual 78, 3) := by decide +kernel
theorem dX5_valueBy_72 : decode cX5_valueBy 72 = .ok (.ireturn, 1) := by decide +kernel
theorem dX5_valueBy_73 : decode cX5_valueBy 73 = .ok (.aload_n 0, 1) := by decide +kernel
theorem dX5_valueBy_74 : decode cX5_valueBy 74 = .ok (.getfield 13, 3) := by decide +kernel
theorem dX5_valueBy_77 : decode cX5_valueBy 77 = .ok (.iconst 1, 1) := by decide +kernel
theorem dX5_valueBy_78 : decode cX5_valueBy 78 = .ok (.iaload, 1) := by decide +kernel
theorem dX5_valueBy_79 : decode cX5_valueBy 79 = .ok (.ireturn, 1) := by decide +kernel
theorem dX5_valueBy_80 : decode cX5_valueBy 80 = .ok (.aload_n 0, 1) := by decide +kernel
theorem dX5_valueBy_81 : decode cX5_valueBy 81 = .ok (.getfield 13, 3) := by decide +kernel
theorem dX5_valueBy_84 : decode cX5_valueBy 84 = .ok (.bipush 8, 2) := by decide +kernel
theorem dX5_valueBy_86 : decode cX5_valueBy 86 = .ok (.iaload, 1) := by decide +kernel
theorem dX5_valueBy_87 : decode cX5_valueBy 87 = .ok (.ireturn, 1) := by decide +kernel
theorem dX5_valueBy_88 : decode cX5_valueBy 88 = .ok (.aload_n 0, 1) := by decide +kernel
theorem dX5_valueBy_89 : decode cX5_valueBy 89 = .ok (.iconst 1, 1) := by decide +kernel
theorem dX5_valueBy_90 : decode cX5_valueBy 90 = .ok (.invokevirtual 78, 3) := by decide +kernel
theorem dX5_valueBy_93 : decode cX5_valueBy 93 = .ok (.ireturn, 1) := by decide +kernel
theorem dX5_valueBy_94 : decode cX5_valueBy 94 = .ok (.aload_n 0, 1) := by decide +kernel
theorem dX5_valueBy_95 : decode cX5_valueBy 95 = .ok (.iconst 2, 1) := by decide +kernel
theorem dX5_valueBy_96 : decode cX5_valueBy 96 = .ok (.invokevirtual 78, 3) := by decide +kernel
theorem dX5_valueBy_99 : decode cX5_valueBy 99 = .ok (.ireturn, 1) := by decide +kernel
theorem dX5_valueBy_100 : decode cX5_valueBy 100 = .ok (.aload_n 0, 1) := by decide +kernel
theorem dX5_valueBy_101 : decode cX5_valueBy 101 = .ok (.getfield 13, 3) := by decide +kernel
theorem dX5_valueBy_104 : decode cX5_valueBy 104 = .ok (.iconst 2, 1) := by decide +kernel
theorem dX5_valueBy_105 : decode cX5_valueBy 105 = .ok (.iaload, 1) := by decide +kernel
theorem dX5_valueBy_106 : decode cX5_valueBy 106 = .ok (.ireturn, 1) := by decide +kernel
theorem dX5_valueBy_107 : decode cX5_valueBy 107 = .ok (.aload_n 0, 1) := by decide +kernel
theorem dX5_valueBy_108 : decode cX5_valueBy 108 = .ok (.getfield 13, 3) := by decide +kernel
theorem dX5_valueBy_111 : decode cX5_valueBy 111 = .ok (.iconst 3, 1) := by decide +kernel
theorem dX5_valueBy_112 : decode cX5_valueBy 112 = .ok (.iaload, 1) := by decide +kernel
theorem dX5_valueBy_113 : decode cX5_valueBy 113 = .ok (.ireturn, 1) := by decide +kernel
theorem dX5_valueBy_114 : decode cX5_valueBy 114 = .ok (.aload_n 0, 1) := by decide +kernel
theorem dX5_valueBy_115 : decode cX5_valueBy 115 = .ok (.getfield 13, 3) := by decide +kernel
theorem dX5_valueBy_118 : decode cX5_valueBy 118 = .ok (.iconst 4, 1) := by decide +kernel
theorem dX5_valueBy_119 : decode cX5_valueBy 119 = .ok (.iaload, 1) := by decide +kernel
theorem dX5_valueBy_120 : decode cX5_valueBy 120 = .ok (.ireturn, 1) := by decide +kernel
theorem dX5_valueBy_121 : decode cX5_valueBy 121 = .ok (.aload_n 0, 1) := by decide +kernel
theorem dX5_valueBy_122 : decode cX5_valueBy 122 = .ok (.getfield 13, 3) := by decide +kernel
theorem dX5_valueBy_125 : decode cX5_valueBy 125 = .ok (.iconst 5, 1) := by decide +kernel
theorem dX5_valueBy_126 : decode cX5_valueBy 126 = .ok (.iaload, 1) := by decide +kernel
theorem dX5_valueBy_127 : decode cX5_valueBy 127 = .ok (.ireturn, 1) := by decide +kernel
theorem dX5_valueBy_128 : decode cX5_valueBy 128 = .ok (.aload_n 0, 1) := by decide +kernel
theorem dX5_valueBy_129 : decode cX5_valueBy 129 = .ok (.getfield 13, 3) := by decide +kernel
theorem dX5_valueBy_132 : decode cX5_valueBy 132 = .ok (.bipush 6, 2) := by decide +kernel
theorem dX5_valueBy_134 : decode cX5_valueBy 134 = .ok (.iaload, 1) := by decide +kernel
theorem dX5_valueBy_135 : decode cX5_valueBy 135 = .ok (.ireturn, 1) := by decide +kernel
theorem dX5_valueBy_136 : decode cX5_valueBy 136 = .ok (.aload_n 0, 1) := by decide +kernel
theorem dX5_valueBy_137 : decode cX5_valueBy 137 = .ok (.getfield 13, 3) := by decide +kernel
theorem dX5_valueBy_140 : decode cX5_valueBy 140 = .ok (.bipush 7, 2) := by decide +kernel
theorem dX5_valueBy_142 : decode cX5_valueBy 142 = .ok (.iaload, 1) := by decide +kernel
theorem dX5_valueBy_143 : decode cX5_valueBy 143 = .ok (.ireturn, 1) := by decide +kernel
set_option maxRecDepth 20000 in
theorem ggX5_value_X5_in : GoodIn wsX5_value wsX5_in := goodIn_r _ [5] (by decide +kernel) (by decide +kernel)
set_option maxRecDepth 20000 in
theorem gX5_value_X5_in : GoodIn wsX5_value (va_wsS RX5 84 yX5_in wsX5_in) := goodIn_app (goodIn_of _ (by decide +kernel)) ggX5_value_X5_in
set_option maxRecDepth 20000 in
theorem ggX5_value_X5_valueBy : GoodIn wsX5_value wsX5_valueBy := goodIn_r _ [9, 10, 11, 12, 13, 4, 14, 15, 16, 17, 18, 19, 20, 21, 22, 23, 24, 25, 26, 27, 28, 29, 30, 31] (by decide +kernel) (by decide +kernel)
set_option maxRecDepth 20000 in
theorem gX5_value_X5_valueBy : GoodIn wsX5_value (wsV RX5 156 RX5 yX5_valueBy wsX5_valueBy) := goodIn_app (goodIn_of _ (by decide +kernel)) ggX5_value_X5_valueBy
theorem dX5_value_0 : decode cX5_value 0 = .ok (.aload_n 0, 1) := by decide +kernel
theorem dX5_value_1 : decode cX5_value 1 = .ok (.iload_n 1, 1) := by decide +kernel
theorem dX5_value_2 : decode cX5_value 2 = .ok (.iconst 0, 1) := by decide +kernel
theorem dX5_value_3 : decode cX5_value 3 = .ok (.bipush 11, 2) := by decide +kernel
theorem dX5_value_5 : decode cX5_value 5 = .ok (.invokestatic 84, 3) := by decide +kernel
theorem dX5_value_8 : decode cX5_value 8 = .ok (.ifCond .eq 7, 3) := by decide +kernel
theorem dX5_value_11 : decode cX5_value 11 = .ok (.iconst 0, 1) := by decide +kernel
theorem dX5_value_12 : decode cX5_value 12 = .ok (.goto 4, 3) := by decide +kernel
theorem dX5_value_15 : decode cX5_value 15 = .ok (.iconst 1, 1) := by decide +kernel
theorem dX5_value_16 : decode cX5_value 16 = .ok (.putfield 1, 3) := by decide +kernel
theorem dX5_value_19 : decode cX5_value 19 = .ok (.aload_n 0, 1) := by decide +kernel
theorem dX5_value_20 : decode cX5_value 20 = .ok (.getfield 1, 3) := by decide +kernel
theorem dX5_value_23 : decode cX5_value 23 = .ok (.ifCond .le 7, 3) := by decide +kernel
theorem dX5_value_26 : decode cX5_value 26 = .ok (.iconst 0, 1) := by decide +kernel
theorem dX5_value_27 : decode cX5_value 27 = .ok (.goto 8, 3) := by decide +kernel
theorem dX5_value_30 : decode cX5_value 30 = .ok (.aload_n 0, 1) := by decide +kernel
theorem dX5_value_31 : decode cX5_value 31 = .ok (.iload_n 1, 1) := by decide +kernel
theorem dX5_value_32 : decode cX5_value 32 = .ok (.invokevirtual 156, 3) := by decide +kernel
theorem dX5_value_35 : decode cX5_value 35 = .ok (.ireturn, 1) := by decide +kernel
set_option maxRecDepth 20000 in
theorem ggX5_thrownNext_X5_fitting : GoodIn wsX5_thrownNext wsX5_fitting := goodIn_r _ [5, 6, 7, 8, 9, 4, 10, 11, 12, 13, 14, 15, 16, 17, 18, 19, 20, 21, 22, 23, 24, 25, 26, 27, 28, 29, 30, 31, 32, 33, 34, 35, 36, 37, 38, 39] (by decide +kernel) (by decide +kernel)
set_option maxRecDepth 20000 in
theorem gX5_thrownNext_X5_fitting : GoodIn wsX5_thrownNext (wsV RX5 67 RX5 yX5_fitting wsX5_fitting) := goodIn_app (goodIn_of _ (by decide +kernel)) ggX5_thrownNext_X5_fitting
set_option maxRecDepth 20000 in
theorem ggX5_thrownNext_X5_leastInBoat : GoodIn wsX5_thrownNext wsX5_leastInBoat := goodIn_r _ [26, 6, 15, 16, 17, 4, 18, 19, 20, 21, 22, 27, 28, 29, 30, 31, 32, 33, 34, 35, 36, 37, 38, 39] (by decide +kernel) (by decide +kernel)
set_option maxRecDepth 20000 in
theorem gX5_thrownNext_X5_leastInBoat : GoodIn wsX5_thrownNext (wsV RX5 64 RX5 yX5_leastInBoat wsX5_leastInBoat) := goodIn_app (goodIn_of _ (by decide +kernel)) ggX5_thrownNext_X5_leastInBoat
theorem dX5_thrownNext_0 : decode cX5_thrownNext 0 = .ok (.aload_n 0, 1) := by decide +kernel
theorem dX5_thrownNext_1 : decode cX5_thrownNext 1 = .ok (.invokevirtual 67, 3) := by decide +kernel
theorem dX5_thrownNext_4 : decode cX5_thrownNext 4 = .ok (.istore_n 1, 1) := by decide +kernel
theorem dX5_thrownNext_5 : decode cX5_thrownNext 5 = .ok (.iload_n 1, 1) := by decide +kernel
theorem dX5_thrownNext_6 : decode cX5_thrownNext 6 = .ok (.iconst (-1), 1) := by decide +kernel
theorem dX5_thrownNext_7 : decode cX5_thrownNext 7 = .ok (.if_icmp .ne 11, 3) := by decide +kernel
theorem dX5_thrownNext_10 : decode cX5_thrownNext 10 = .ok (.aload_n 0, 1) := by decide +kernel
theorem dX5_thrownNext_11 : decode cX5_thrownNext 11 = .ok (.iconst (-1), 1) := by decide +kernel
theorem dX5_thrownNext_12 : decode cX5_thrownNext 12 = .ok (.invokevirtual 64, 3) := by decide +kernel
theorem dX5_thrownNext_15 : decode cX5_thrownNext 15 = .ok (.goto 4, 3) := by decide +kernel
theorem dX5_thrownNext_18 : decode cX5_thrownNext 18 = .ok (.iload_n 1, 1) := by decide +kernel
theorem dX5_thrownNext_19 : decode cX5_thrownNext 19 = .ok (.ireturn, 1) := by decide +kernel
set_option maxRecDepth 20000 in
theorem ggX5_nextThrown_X5_thrownNext : GoodIn wsX5_nextThrown wsX5_thrownNext := goodIn_r _ [6, 7, 8, 9, 5, 10, 11, 12, 13, 14, 15, 16, 17, 18, 19, 20, 21, 22, 23, 24, 25, 26, 27, 28, 29, 30, 31, 32, 33, 34, 35, 36, 37, 38, 39, 40, 41, 42, 43, 44] (by decide +kernel) (by decide +kernel)
set_option maxRecDepth 20000 in
theorem gX5_nextThrown_X5_thrownNext : GoodIn wsX5_nextThrown (wsV RX5 159 RX5 yX5_thrownNext wsX5_thrownNext) := goodIn_app (goodIn_of _ (by decide +kernel)) ggX5_nextThrown_X5_thrownNext
theorem dX5_nextThrown_0 : decode cX5_nextThrown 0 = .ok (.aload_n 0, 1) := by decide +kernel
theorem dX5_nextThrown_1 : decode cX5_nextThrown 1 = .ok (.iconst 0, 1) := by decide +kernel
theorem dX5_nextThrown_2 : decode cX5_nextThrown 2 = .ok (.putfield 1, 3) := by decide +kernel
theorem dX5_nextThrown_5 : decode cX5_nextThrown 5 = .ok (.aload_n 0, 1) := by decide +kernel
theorem dX5_nextThrown_6 : decode cX5_nextThrown 6 = .ok (.invokevirtual 159, 3) := by decide +kernel
theorem dX5_nextThrown_9 : decode cX5_nextThrown 9 = .ok (.ireturn, 1) := by decide +kernel
set_option maxRecDepth 20000 in
theorem ggX5_runsIfEmptied_X5_emptyAll : GoodIn wsX5_runsIfEmptied wsX5_emptyAll := goodIn_r _ [8, 3, 9, 10, 11, 7, 12, 13, 14, 15, 16, 17, 18, 19, 20, 21, 22, 23, 24, 25, 26, 27, 28, 29, 30, 31, 32, 33, 34, 35, 36, 37, 38, 39, 40, 41, 42, 43, 44, 45, 46, 47, 48, 49, 50, 51, 52, 53, 54, 55, 56, 57] (by decide +kernel) (by decide +kernel)
set_option maxRecDepth 20000 in
theorem gX5_runsIfEmptied_X5_emptyAll : GoodIn wsX5_runsIfEmptied (wsV RX5 107 RX5 yX5_emptyAll wsX5_emptyAll) := goodIn_app (goodIn_of _ (by decide +kernel)) ggX5_runsIfEmptied_X5_emptyAll
theorem dX5_runsIfEmptied_0 : decode cX5_runsIfEmptied 0 = .ok (.aload_n 0, 1) := by decide +kernel
theorem dX5_runsIfEmptied_1 : decode cX5_runsIfEmptied 1 = .ok (.iconst 0, 1) := by decide +kernel
theorem dX5_runsIfEmptied_2 : decode cX5_runsIfEmptied 2 = .ok (.putfield 1, 3) := by decide +kernel
theorem dX5_runsIfEmptied_5 : decode cX5_runsIfEmptied 5 = .ok (.iconst 0, 1) := by decide +kernel
theorem dX5_runsIfEmptied_6 : decode cX5_runsIfEmptied 6 = .ok (.istore_n 1, 1) := by decide +kernel
theorem dX5_runsIfEmptied_7 : decode cX5_runsIfEmptied 7 = .ok (.iload_n 1, 1) := by decide +kernel
theorem dX5_runsIfEmptied_8 : decode cX5_runsIfEmptied 8 = .ok (.sipush 730, 3) := by decide +kernel
theorem dX5_runsIfEmptied_11 : decode cX5_runsIfEmptied 11 = .ok (.if_icmp .ge 21, 3) := by decide +kernel
theorem dX5_runsIfEmptied_14 : decode cX5_runsIfEmptied 14 = .ok (.aload_n 0, 1) := by decide +kernel
theorem dX5_runsIfEmptied_15 : decode cX5_runsIfEmptied 15 = .ok (.getfield 17, 3) := by decide +kernel
theorem dX5_runsIfEmptied_18 : decode cX5_runsIfEmptied 18 = .ok (.iload_n 1, 1) := by decide +kernel
theorem dX5_runsIfEmptied_19 : decode cX5_runsIfEmptied 19 = .ok (.aload_n 0, 1) := by decide +kernel
theorem dX5_runsIfEmptied_20 : decode cX5_runsIfEmptied 20 = .ok (.getfield 13, 3) := by decide +kernel
theorem dX5_runsIfEmptied_23 : decode cX5_runsIfEmptied 23 = .ok (.iload_n 1, 1) := by decide +kernel
theorem dX5_runsIfEmptied_24 : decode cX5_runsIfEmptied 24 = .ok (.iaload, 1) := by decide +kernel
theorem dX5_runsIfEmptied_25 : decode cX5_runsIfEmptied 25 = .ok (.iastore, 1) := by decide +kernel
theorem dX5_runsIfEmptied_26 : decode cX5_runsIfEmptied 26 = .ok (.iinc 1 1, 3) := by decide +kernel
theorem dX5_runsIfEmptied_29 : decode cX5_runsIfEmptied 29 = .ok (.goto (-22), 3) := by decide +kernel
theorem dX5_runsIfEmptied_32 : decode cX5_runsIfEmptied 32 = .ok (.aload_n 0, 1) := by decide +kernel
theorem dX5_runsIfEmptied_33 : decode cX5_runsIfEmptied 33 = .ok (.invokevirtual 107, 3) := by decide +kernel
theorem dX5_runsIfEmptied_36 : decode cX5_runsIfEmptied 36 = .ok (.aload_n 0, 1) := by decide +kernel
theorem dX5_runsIfEmptied_37 : decode cX5_runsIfEmptied 37 = .ok (.getfield 13, 3) := by decide +kernel
theorem dX5_runsIfEmptied_40 : decode cX5_runsIfEmptied 40 = .ok (.bipush 8, 2) := by decide +kernel
theorem dX5_runsIfEmptied_42 : decode cX5_runsIfEmptied 42 = .ok (.iaload, 1) := by decide +kernel
theorem dX5_runsIfEmptied_43 : decode cX5_runsIfEmptied 43 = .ok (.istore_n 1, 1) := by decide +kernel
theorem dX5_runsIfEmptied_44 : decode cX5_runsIfEmptied 44 = .ok (.iconst 0, 1) := by decide +kernel
theorem dX5_runsIfEmptied_45 : decode cX5_runsIfEmptied 45 = .ok (.istore_n 2, 1) := by decide +kernel
theorem dX5_runsIfEmptied_46 : decode cX5_runsIfEmptied 46 = .ok (.iload_n 2, 1) := by decide +kernel
theorem dX5_runsIfEmptied_47 : decode cX5_runsIfEmptied 47 = .ok (.sipush 730, 3) := by decide +kernel
theorem dX5_runsIfEmptied_50 : decode cX5_runsIfEmptied 50 = .ok (.if_icmp .ge 21, 3) := by decide +kernel
theorem dX5_runsIfEmptied_53 : decode cX5_runsIfEmptied 53 = .ok (.aload_n 0, 1) := by decide +kernel
theorem dX5_runsIfEmptied_54 : decode cX5_runsIfEmptied 54 = .ok (.getfield 13, 3) := by decide +kernel
theorem dX5_runsIfEmptied_57 : decode cX5_runsIfEmptied 57 = .ok (.iload_n 2, 1) := by decide +kernel
theorem dX5_runsIfEmptied_58 : decode cX5_runsIfEmptied 58 = .ok (.aload_n 0, 1) := by decide +kernel
theorem dX5_runsIfEmptied_59 : decode cX5_runsIfEmptied 59 = .ok (.getfield 17, 3) := by decide +kernel
theorem dX5_runsIfEmptied_62 : decode cX5_runsIfEmptied 62 = .ok (.iload_n 2, 1) := by decide +kernel
theorem dX5_runsIfEmptied_63 : decode cX5_runsIfEmptied 63 = .ok (.iaload, 1) := by decide +kernel
theorem dX5_runsIfEmptied_64 : decode cX5_runsIfEmptied 64 = .ok (.iastore, 1) := by decide +kernel
theorem dX5_runsIfEmptied_65 : decode cX5_runsIfEmptied 65 = .ok (.iinc 2 1, 3) := by decide +kernel
theorem dX5_runsIfEmptied_68 : decode cX5_runsIfEmptied 68 = .ok (.goto (-22), 3) := by decide +kernel
theorem dX5_runsIfEmptied_71 : decode cX5_runsIfEmptied 71 = .ok (.iload_n 1, 1) := by decide +kernel
theorem dX5_runsIfEmptied_72 : decode cX5_runsIfEmptied 72 = .ok (.ireturn, 1) := by decide +kernel
theorem dX5_lightestLeft_0 : decode cX5_lightestLeft 0 = .ok (.iconst (-1), 1) := by decide +kernel
theorem dX5_lightestLeft_1 : decode cX5_lightestLeft 1 = .ok (.istore_n 2, 1) := by decide +kernel
theorem dX5_lightestLeft_2 : decode cX5_lightestLeft 2 = .ok (.iconst 0, 1) := by decide +kernel
theorem dX5_lightestLeft_3 : decode cX5_lightestLeft 3 = .ok (.istore_n 3, 1) := by decide +kernel
theorem dX5_lightestLeft_4 : decode cX5_lightestLeft 4 = .ok (.iload_n 3, 1) := by decide +kernel
theorem dX5_lightestLeft_5 : decode cX5_lightestLeft 5 = .ok (.aload_n 0, 1) := by decide +kernel
theorem dX5_lightestLeft_6 : decode cX5_lightestLeft 6 = .ok (.getfield 13, 3) := by decide +kernel
theorem dX5_lightestLeft_9 : decode cX5_lightestLeft 9 = .ok (.bipush 8, 2) := by decide +kernel
theorem dX5_lightestLeft_11 : decode cX5_lightestLeft 11 = .ok (.iaload, 1) := by decide +kernel
theorem dX5_lightestLeft_12 : decode cX5_lightestLeft 12 = .ok (.if_icmp .ge 50, 3) := by decide +kernel
theorem dX5_lightestLeft_15 : decode cX5_lightestLeft 15 = .ok (.iload_n 3, 1) := by decide +kernel
theorem dX5_lightestLeft_16 : decode cX5_lightestLeft 16 = .ok (.iload_n 1, 1) := by decide +kernel
theorem dX5_lightestLeft_17 : decode cX5_lightestLeft 17 = .ok (.if_icmp .eq 37, 3) := by decide +kernel
theorem dX5_lightestLeft_20 : decode cX5_lightestLeft 20 = .ok (.aload_n 0, 1) := by decide +kernel
theorem dX5_lightestLeft_21 : decode cX5_lightestLeft 21 = .ok (.getfield 26, 3) := by decide +kernel
theorem dX5_lightestLeft_24 : decode cX5_lightestLeft 24 = .ok (.iload_n 3, 1) := by decide +kernel
theorem dX5_lightestLeft_25 : decode cX5_lightestLeft 25 = .ok (.iaload, 1) := by decide +kernel
theorem dX5_lightestLeft_26 : decode cX5_lightestLeft 26 = .ok (.iconst (-1), 1) := by decide +kernel
theorem dX5_lightestLeft_27 : decode cX5_lightestLeft 27 = .ok (.if_icmp .eq 27, 3) := by decide +kernel
theorem dX5_lightestLeft_30 : decode cX5_lightestLeft 30 = .ok (.iload_n 2, 1) := by decide +kernel
theorem dX5_lightestLeft_31 : decode cX5_lightestLeft 31 = .ok (.iconst (-1), 1) := by decide +kernel
theorem dX5_lightestLeft_32 : decode cX5_lightestLeft 32 = .ok (.if_icmp .eq 18, 3) := by decide +kernel
theorem dX5_lightestLeft_35 : decode cX5_lightestLeft 35 = .ok (.aload_n 0, 1) := by decide +kernel
theorem dX5_lightestLeft_36 : decode cX5_lightestLeft 36 = .ok (.getfield 26, 3) := by decide +kernel
theorem dX5_lightestLeft_39 : decode cX5_lightestLeft 39 = .ok (.iload_n 3, 1) := by decide +kernel
theorem dX5_lightestLeft_40 : decode cX5_lightestLeft 40 = .ok (.iaload, 1) := by decide +kernel
theorem dX5_lightestLeft_41 : decode cX5_lightestLeft 41 = .ok (.aload_n 0, 1) := by decide +kernel
theorem dX5_lightestLeft_42 : decode cX5_lightestLeft 42 = .ok (.getfield 26, 3) := by decide +kernel
theorem dX5_lightestLeft_45 : decode cX5_lightestLeft 45 = .ok (.iload_n 2, 1) := by decide +kernel
theorem dX5_lightestLeft_46 : decode cX5_lightestLeft 46 = .ok (.iaload, 1) := by decide +kernel
theorem dX5_lightestLeft_47 : decode cX5_lightestLeft 47 = .ok (.if_icmp .ge 7, 3) := by decide +kernel
theorem dX5_lightestLeft_50 : decode cX5_lightestLeft 50 = .ok (.iload_n 3, 1) := by decide +kernel
theorem dX5_lightestLeft_51 : decode cX5_lightestLeft 51 = .ok (.goto 4, 3) := by decide +kernel
theorem dX5_lightestLeft_54 : decode cX5_lightestLeft 54 = .ok (.iload_n 2, 1) := by decide +kernel
theorem dX5_lightestLeft_55 : decode cX5_lightestLeft 55 = .ok (.istore_n 2, 1) := by decide +kernel
theorem dX5_lightestLeft_56 : decode cX5_lightestLeft 56 = .ok (.iinc 3 1, 3) := by decide +kernel
theorem dX5_lightestLeft_59 : decode cX5_lightestLeft 59 = .ok (.goto (-55), 3) := by decide +kernel
theorem dX5_lightestLeft_62 : decode cX5_lightestLeft 62 = .ok (.iload_n 2, 1) := by decide +kernel
theorem dX5_lightestLeft_63 : decode cX5_lightestLeft 63 = .ok (.ireturn, 1) := by decide +kernel
set_option maxRecDepth 20000 in
theorem ggX5_costOfAll_X5_numberAt : GoodIn wsX5_costOfAll wsX5_numberAt := goodIn_r _ [7, 1, 24, 25, 26, 27, 28, 29, 30, 31, 32, 33, 34, 35, 36] (by decide +kernel) (by decide +kernel)
set_option maxRecDepth 20000 in
theorem gX5_costOfAll_X5_numberAt : GoodIn wsX5_costOfAll (wsV RX5 40 RX5 yX5_numberAt wsX5_numberAt) := goodIn_app (goodIn_of _ (by decide +kernel)) ggX5_costOfAll_X5_numberAt
set_option maxRecDepth 20000 in
theorem ggX5_costOfAll_X5_weightOf : GoodIn wsX5_costOfAll wsX5_weightOf := goodIn_r _ [11, 1, 12, 13, 14, 6, 15, 16, 17, 18, 19, 24, 25, 26, 27, 28, 29, 30, 31, 32, 33, 34, 35, 36] (by decide +kernel) (by decide +kernel)
set_option maxRecDepth 20000 in
theorem gX5_costOfAll_X5_weightOf : GoodIn wsX5_costOfAll (wsV RX5 116 RX5 yX5_weightOf wsX5_weightOf) := goodIn_app (goodIn_of _ (by decide +kernel)) ggX5_costOfAll_X5_weightOf
set_option maxRecDepth 20000 in
theorem ggX5_costOfAll_X5_lightestLeft : GoodIn wsX5_costOfAll wsX5_lightestLeft := goodIn_r _ [23, 1, 2, 24, 25, 26, 27, 28, 29, 30, 31, 32, 33, 34, 35, 36] (by decide +kernel) (by decide +kernel)
set_option maxRecDepth 20000 in
theorem gX5_costOfAll_X5_lightestLeft : GoodIn wsX5_costOfAll (wsV RX5 162 RX5 yX5_lightestLeft wsX5_lightestLeft) := goodIn_app (goodIn_of _ (by decide +kernel)) ggX5_costOfAll_X5_lightestLeft
theorem dX5_costOfAll_0 : decode cX5_costOfAll 0 = .ok (.iconst 0, 1) := by decide +kernel
theorem dX5_costOfAll_1 : decode cX5_costOfAll 1 = .ok (.istore_n 1, 1) := by decide +kernel
theorem dX5_costOfAll_2 : decode cX5_costOfAll 2 = .ok (.iload_n 1, 1) := by decide +kernel
theorem dX5_costOfAll_3 : decode cX5_costOfAll 3 = .ok (.aload_n 0, 1) := by decide +kernel
theorem dX5_costOfAll_4 : decode cX5_costOfAll 4 = .ok (.getfield 13, 3) := by decide +kernel
theorem dX5_costOfAll_7 : decode cX5_costOfAll 7 = .ok (.bipush 8, 2) := by decide +kernel
theorem dX5_costOfAll_9 : decode cX5_costOfAll 9 = .ok (.iaload, 1) := by decide +kernel
theorem dX5_costOfAll_10 : decode cX5_costOfAll 10 = .ok (.if_icmp .ge 24, 3) := by decide +kernel
theorem dX5_costOfAll_13 : decode cX5_costOfAll 13 = .ok (.aload_n 0, 1) := by decide +kernel
theorem dX5_costOfAll_14 : decode cX5_costOfAll 14 = .ok (.getfield 26, 3) := by decide +kernel
theorem dX5_costOfAll_17 : decode cX5_costOfAll 17 = .ok (.iload_n 1, 1) := by decide +kernel
theorem dX5_costOfAll_18 : decode cX5_costOfAll 18 = .ok (.aload_n 0, 1) := by decide +kernel
theorem dX5_costOfAll_19 : decode cX5_costOfAll 19 = .ok (.aload_n 0, 1) := by decide +kernel
theorem dX5_costOfAll_20 : decode cX5_costOfAll 20 = .ok (.iload_n 1, 1) := by decide +kernel
theorem dX5_costOfAll_21 : decode cX5_costOfAll 21 = .ok (.invokevirtual 40, 3) := by decide +kernel
theorem dX5_costOfAll_24 : decode cX5_costOfAll 24 = .ok (.invokevirtual 116, 3) := by decide +kernel
theorem dX5_costOfAll_27 : decode cX5_costOfAll 27 = .ok (.iastore, 1) := by decide +kernel
theorem dX5_costOfAll_28 : decode cX5_costOfAll 28 = .ok (.iinc 1 1, 3) := by decide +kernel
theorem dX5_costOfAll_31 : decode cX5_costOfAll 31 = .ok (.goto (-29), 3) := by decide +kernel
theorem dX5_costOfAll_34 : decode cX5_costOfAll 34 = .ok (.iconst 0, 1) := by decide +kernel
theorem dX5_costOfAll_35 : decode cX5_costOfAll 35 = .ok (.istore_n 1, 1) := by decide +kernel
theorem dX5_costOfAll_36 : decode cX5_costOfAll 36 = .ok (.aload_n 0, 1) := by decide +kernel
theorem dX5_costOfAll_37 : decode cX5_costOfAll 37 = .ok (.getfield 13, 3) := by decide +kernel
theorem dX5_costOfAll_40 : decode cX5_costOfAll 40 = .ok (.bipush 8, 2) := by decide +kernel
theorem dX5_costOfAll_42 : decode cX5_costOfAll 42 = .ok (.iaload, 1) := by decide +kernel
theorem dX5_costOfAll_43 : decode cX5_costOfAll 43 = .ok (.istore_n 2, 1) := by decide +kernel
theorem dX5_costOfAll_44 : decode cX5_costOfAll 44 = .ok (.iload_n 2, 1) := by decide +kernel
theorem dX5_costOfAll_45 : decode cX5_costOfAll 45 = .ok (.iconst 1, 1) := by decide +kernel
theorem dX5_costOfAll_46 : decode cX5_costOfAll 46 = .ok (.if_icmp .le 81, 3) := by decide +kernel
theorem dX5_costOfAll_49 : decode cX5_costOfAll 49 = .ok (.aload_n 0, 1) := by decide +kernel
theorem dX5_costOfAll_50 : decode cX5_costOfAll 50 = .ok (.iconst (-1), 1) := by decide +kernel
theorem dX5_costOfAll_51 : decode cX5_costOfAll 51 = .ok (.invokevirtual 162, 3) := by decide +kernel
theorem dX5_costOfAll_54 : decode cX5_costOfAll 54 = .ok (.istore_n 3, 1) := by decide +kernel
theorem dX5_costOfAll_55 : decode cX5_costOfAll 55 = .ok (.aload_n 0, 1) := by decide +kernel
theorem dX5_costOfAll_56 : decode cX5_costOfAll 56 = .ok (.iload_n 3, 1) := by decide +kernel
theorem dX5_costOfAll_57 : decode cX5_costOfAll 57 = .ok (.invokevirtual 162, 3) := by decide +kernel
theorem dX5_costOfAll_60 : decode cX5_costOfAll 60 = .ok (.istore 4, 2) := by decide +kernel
theorem dX5_costOfAll_62 : decode cX5_costOfAll 62 = .ok (.iload_n 3, 1) := by decide +kernel
theorem dX5_costOfAll_63 : decode cX5_costOfAll 63 = .ok (.iload 4, 2) := by decide +kernel
theorem dX5_costOfAll_65 : decode cX5_costOfAll 65 = .ok (.if_icmp .ge 7, 3) := by decide +kernel
theorem dX5_costOfAll_68 : decode cX5_costOfAll 68 = .ok (.iload_n 3, 1) := by decide +kernel
theorem dX5_costOfAll_69 : decode cX5_costOfAll 69 = .ok (.goto 5, 3) := by decide +kernel
theorem dX5_costOfAll_72 : decode cX5_costOfAll 72 = .ok (.iload 4, 2) := by decide +kernel
theorem dX5_costOfAll_74 : decode cX5_costOfAll 74 = .ok (.istore 5, 2) := by decide +kernel
theorem dX5_costOfAll_76 : decode cX5_costOfAll 76 = .ok (.aload_n 0, 1) := by decide +kernel
theorem dX5_costOfAll_77 : decode cX5_costOfAll 77 = .ok (.getfield 26, 3) := by decide +kernel
theorem dX5_costOfAll_80 : decode cX5_costOfAll 80 = .ok (.iload_n 3, 1) := by decide +kernel
theorem dX5_costOfAll_81 : decode cX5_costOfAll 81 = .ok (.iaload, 1) := by decide +kernel
theorem dX5_costOfAll_82 : decode cX5_costOfAll 82 = .ok (.aload_n 0, 1) := by decide +kernel
theorem dX5_costOfAll_83 : decode cX5_costOfAll 83 = .ok (.getfield 26, 3) := by decide +kernel
theorem dX5_costOfAll_86 : decode cX5_costOfAll 86 = .ok (.iload 4, 2) := by decide +kernel
theorem dX5_costOfAll_88 : decode cX5_costOfAll 88 = .ok (.iaload, 1) := by decide +kernel
theorem dX5_costOfAll_89 : decode cX5_costOfAll 89 = .ok (.iadd, 1) := by decide +kernel
theorem dX5_costOfAll_90 : decode cX5_costOfAll 90 = .ok (.istore 6, 2) := by decide +kernel
theorem dX5_costOfAll_92 : decode cX5_costOfAll 92 = .ok (.aload_n 0, 1) := by decide +kernel
theorem dX5_costOfAll_93 : decode cX5_costOfAll 93 = .ok (.getfield 26, 3) := by decide +kernel
theorem dX5_costOfAll_96 : decode cX5_costOfAll 96 = .ok (.iload_n 3, 1) := by decide +kernel
theorem dX5_costOfAll_97 : decode cX5_costOfAll 97 = .ok (.iconst (-1), 1) := by decide +kernel
theorem dX5_costOfAll_98 : decode cX5_costOfAll 98 = .ok (.iastore, 1) := by decide +kernel
theorem dX5_costOfAll_99 : decode cX5_costOfAll 99 = .ok (.aload_n 0, 1) := by decide +kernel
theorem dX5_costOfAll_100 : decode cX5_costOfAll 100 = .ok (.getfield 26, 3) := by decide +kernel
theorem dX5_costOfAll_103 : decode cX5_costOfAll 103 = .ok (.iload 4, 2) := by decide +kernel
theorem dX5_costOfAll_105 : decode cX5_costOfAll 105 = .ok (.iconst (-1), 1) := by decide +kernel
theorem dX5_costOfAll_106 : decode cX5_costOfAll 106 = .ok (.iastore, 1) := by decide +kernel
theorem dX5_costOfAll_107 : decode cX5_costOfAll 107 = .ok (.aload_n 0, 1) := by decide +kernel
theorem dX5_costOfAll_108 : decode cX5_costOfAll 108 = .ok (.getfield 26, 3) := by decide +kernel
theorem dX5_costOfAll_111 : decode cX5_costOfAll 111 = .ok (.iload 5, 2) := by decide +kernel
theorem dX5_costOfAll_113 : decode cX5_costOfAll 113 = .ok (.iload 6, 2) := by decide +kernel
theorem dX5_costOfAll_115 : decode cX5_costOfAll 115 = .ok (.iastore, 1) := by decide +kernel
theorem dX5_costOfAll_116 : decode cX5_costOfAll 116 = .ok (.iload_n 1, 1) := by decide +kernel
theorem dX5_costOfAll_117 : decode cX5_costOfAll 117 = .ok (.iload 6, 2) := by decide +kernel
theorem dX5_costOfAll_119 : decode cX5_costOfAll 119 = .ok (.iadd, 1) := by decide +kernel
theorem dX5_costOfAll_120 : decode cX5_costOfAll 120 = .ok (.istore_n 1, 1) := by decide +kernel
theorem dX5_costOfAll_121 : decode cX5_costOfAll 121 = .ok (.iinc 2 (-1), 3) := by decide +kernel
theorem dX5_costOfAll_124 : decode cX5_costOfAll 124 = .ok (.goto (-80), 3) := by decide +kernel
theorem dX5_costOfAll_127 : decode cX5_costOfAll 127 = .ok (.iload_n 1, 1) := by decide +kernel
theorem dX5_costOfAll_128 : decode cX5_costOfAll 128 = .ok (.ireturn, 1) := by decide +kernel
set_option maxRecDepth 20000 in
theorem ggX5_costByWeight_X5_costOfAll : GoodIn wsX5_costByWeight wsX5_costOfAll := goodIn_r _ [6, 7, 8, 9, 10, 11, 5, 12, 13, 14, 15, 16, 17, 18, 19, 20, 21, 22, 23, 24, 25, 26, 27, 28, 29, 30, 31, 32, 33, 34, 35, 36, 37, 38, 39, 40, 41] (by decide +kernel) (by decide +kernel)
set_option maxRecDepth 20000 in
theorem gX5_costByWeight_X5_costOfAll : GoodIn wsX5_costByWeight (wsV RX5 165 RX5 yX5_costOfAll wsX5_costOfAll) := goodIn_app (goodIn_of _ (by decide +kernel)) ggX5_costByWeight_X5_costOfAll
theorem dX5_costByWeight_0 : decode cX5_costByWeight 0 = .ok (.aload_n 0, 1) := by decide +kernel
theorem dX5_costByWeight_1 : decode cX5_costByWeight 1 = .ok (.iconst 0, 1) := by decide +kernel
theorem dX5_costByWeight_2 : decode cX5_costByWeight 2 = .ok (.putfield 1, 3) := by decide +kernel
theorem dX5_costByWeight_5 : decode cX5_costByWeight 5 = .ok (.aload_n 0, 1) := by decide +kernel
theorem dX5_costByWeight_6 : decode cX5_costByWeight 6 = .ok (.invokevirtual 165, 3) := by decide +kernel
theorem dX5_costByWeight_9 : decode cX5_costByWeight 9 = .ok (.ireturn, 1) := by decide +kernel
set_option maxRecDepth 20000 in
theorem ggX5_costByNumber_X5_numberAt : GoodIn wsX5_costByNumber wsX5_numberAt := goodIn_r _ [7, 2, 20, 21, 22, 23, 24, 25, 26, 27, 28, 29, 30, 31, 32] (by decide +kernel) (by decide +kernel)
set_option maxRecDepth 20000 in
theorem gX5_costByNumber_X5_numberAt : GoodIn wsX5_costByNumber (wsV RX5 40 RX5 yX5_numberAt wsX5_numberAt) := goodIn_app (goodIn_of _ (by decide +kernel)) ggX5_costByNumber_X5_numberAt
set_option maxRecDepth 20000 in
theorem ggX5_costByNumber_X5_weightOf : GoodIn wsX5_costByNumber wsX5_weightOf := goodIn_r _ [11, 2, 12, 13, 14, 6, 15, 16, 17, 18, 19, 20, 21, 22, 23, 24, 25, 26, 27, 28, 29, 30, 31, 32] (by decide +kernel) (by decide +kernel)
set_option maxRecDepth 20000 in
theorem gX5_costByNumber_X5_weightOf : GoodIn wsX5_costByNumber (wsV RX5 116 RX5 yX5_weightOf wsX5_weightOf) := goodIn_app (goodIn_of _ (by decide +kernel)) ggX5_costByNumber_X5_weightOf
theorem dX5_costByNumber_0 : decode cX5_costByNumber 0 = .ok (.aload_n 0, 1) := by decide +kernel
theorem dX5_costByNumber_1 : decode cX5_costByNumber 1 = .ok (.iconst 0, 1) := by decide +kernel
theorem dX5_costByNumber_2 : decode cX5_costByNumber 2 = .ok (.putfield 1, 3) := by decide +kernel
theorem dX5_costByNumber_5 : decode cX5_costByNumber 5 = .ok (.iconst 0, 1) := by decide +kernel
theorem dX5_costByNumber_6 : decode cX5_costByNumber 6 = .ok (.istore_n 1, 1) := by decide +kernel
theorem dX5_costByNumber_7 : decode cX5_costByNumber 7 = .ok (.iconst 0, 1) := by decide +kernel
theorem dX5_costByNumber_8 : decode cX5_costByNumber 8 = .ok (.istore_n 2, 1) := by decide +kernel
theorem dX5_costByNumber_9 : decode cX5_costByNumber 9 = .ok (.iconst 0, 1) := by decide +kernel
theorem dX5_costByNumber_10 : decode cX5_costByNumber 10 = .ok (.istore_n 3, 1) := by decide +kernel
theorem dX5_costByNumber_11 : decode cX5_costByNumber 11 = .ok (.iload_n 3, 1) := by decide +kernel
theorem dX5_costByNumber_12 : decode cX5_costByNumber 12 = .ok (.aload_n 0, 1) := by decide +kernel
theorem dX5_costByNumber_13 : decode cX5_costByNumber 13 = .ok (.getfield 13, 3) := by decide +kernel
theorem dX5_costByNumber_16 : decode cX5_costByNumber 16 = .ok (.bipush 8, 2) := by decide +kernel
theorem dX5_costByNumber_18 : decode cX5_costByNumber 18 = .ok (.iaload, 1) := by decide +kernel
theorem dX5_costByNumber_19 : decode cX5_costByNumber 19 = .ok (.if_icmp .ge 33, 3) := by decide +kernel
theorem dX5_costByNumber_22 : decode cX5_costByNumber 22 = .ok (.iload_n 2, 1) := by decide +kernel
theorem dX5_costByNumber_23 : decode cX5_costByNumber 23 = .ok (.aload_n 0, 1) := by decide +kernel
theorem dX5_costByNumber_24 : decode cX5_costByNumber 24 = .ok (.aload_n 0, 1) := by decide +kernel
theorem dX5_costByNumber_25 : decode cX5_costByNumber 25 = .ok (.iload_n 3, 1) := by decide +kernel
theorem dX5_costByNumber_26 : decode cX5_costByNumber 26 = .ok (.invokevirtual 40, 3) := by decide +kernel
theorem dX5_costByNumber_29 : decode cX5_costByNumber 29 = .ok (.invokevirtual 116, 3) := by decide +kernel
theorem dX5_costByNumber_32 : decode cX5_costByNumber 32 = .ok (.iadd, 1) := by decide +kernel
theorem dX5_costByNumber_33 : decode cX5_costByNumber 33 = .ok (.istore_n 2, 1) := by decide +kernel
theorem dX5_costByNumber_34 : decode cX5_costByNumber 34 = .ok (.iload_n 1, 1) := by decide +kernel
theorem dX5_costByNumber_35 : decode cX5_costByNumber 35 = .ok (.iload_n 3, 1) := by decide +kernel
theorem dX5_costByNumber_36 : decode cX5_costByNumber 36 = .ok (.ifCond .le 7, 3) := by decide +kernel
theorem dX5_costByNumber_39 : decode cX5_costByNumber 39 = .ok (.iload_n 2, 1) := by decide +kernel
theorem dX5_costByNumber_40 : decode cX5_costByNumber 40 = .ok (.goto 4, 3) := by decide +kernel
theorem dX5_costByNumber_43 : decode cX5_costByNumber 43 = .ok (.iconst 0, 1) := by decide +kernel
theorem dX5_costByNumber_44 : decode cX5_costByNumber 44 = .ok (.iadd, 1) := by decide +kernel
theorem dX5_costByNumber_45 : decode cX5_costByNumber 45 = .ok (.istore_n 1, 1) := by decide +kernel
theorem dX5_costByNumber_46 : decode cX5_costByNumber 46 = .ok (.iinc 3 1, 3) := by decide +kernel
theorem dX5_costByNumber_49 : decode cX5_costByNumber 49 = .ok (.goto (-38), 3) := by decide +kernel
theorem dX5_costByNumber_52 : decode cX5_costByNumber 52 = .ok (.iload_n 1, 1) := by decide +kernel
theorem dX5_costByNumber_53 : decode cX5_costByNumber 53 = .ok (.ireturn, 1) := by decide +kernel
set_option maxRecDepth 20000 in
theorem ggX5_leastAboard_X5_isLess : GoodIn wsX5_leastAboard wsX5_isLess := goodIn_r _ [7, 8, 9, 10, 6, 11, 1, 12, 13, 14, 15, 16, 17, 18, 19, 20, 21, 22, 23, 24] (by decide +kernel) (by decide +kernel)
set_option maxRecDepth 20000 in
theorem gX5_leastAboard_X5_isLess : GoodIn wsX5_leastAboard (wsV RX5 55 RX5 yX5_isLess wsX5_isLess) := goodIn_app (goodIn_of _ (by decide +kernel)) ggX5_leastAboard_X5_isLess
theorem dX5_leastAboard_0 : decode cX5_leastAboard 0 = .ok (.iconst (-1), 1) := by decide +kernel
theorem dX5_leastAboard_1 : decode cX5_leastAboard 1 = .ok (.istore_n 2, 1) := by decide +kernel
theorem dX5_leastAboard_2 : decode cX5_leastAboard 2 = .ok (.iconst 0, 1) := by decide +kernel
theorem dX5_leastAboard_3 : decode cX5_leastAboard 3 = .ok (.istore_n 3, 1) := by decide +kernel
theorem dX5_leastAboard_4 : decode cX5_leastAboard 4 = .ok (.iload_n 3, 1) := by decide +kernel
theorem dX5_leastAboard_5 : decode cX5_leastAboard 5 = .ok (.aload_n 0, 1) := by decide +kernel
theorem dX5_leastAboard_6 : decode cX5_leastAboard 6 = .ok (.getfield 13, 3) := by decide +kernel
theorem dX5_leastAboard_9 : decode cX5_leastAboard 9 = .ok (.iconst 1, 1) := by decide +kernel
theorem dX5_leastAboard_10 : decode cX5_leastAboard 10 = .ok (.iaload, 1) := by decide +kernel
theorem dX5_leastAboard_11 : decode cX5_leastAboard 11 = .ok (.if_icmp .ge 64, 3) := by decide +kernel
theorem dX5_leastAboard_14 : decode cX5_leastAboard 14 = .ok (.aload_n 0, 1) := by decide +kernel
theorem dX5_leastAboard_15 : decode cX5_leastAboard 15 = .ok (.getfield 29, 3) := by decide +kernel
theorem dX5_leastAboard_18 : decode cX5_leastAboard 18 = .ok (.iload_n 3, 1) := by decide +kernel
theorem dX5_leastAboard_19 : decode cX5_leastAboard 19 = .ok (.baload, 1) := by decide +kernel
theorem dX5_leastAboard_20 : decode cX5_leastAboard 20 = .ok (.ifCond .eq 21, 3) := by decide +kernel
theorem dX5_leastAboard_23 : decode cX5_leastAboard 23 = .ok (.iload_n 1, 1) := by decide +kernel
theorem dX5_leastAboard_24 : decode cX5_leastAboard 24 = .ok (.iconst (-1), 1) := by decide +kernel
theorem dX5_leastAboard_25 : decode cX5_leastAboard 25 = .ok (.if_icmp .eq 12, 3) := by decide +kernel
theorem dX5_leastAboard_28 : decode cX5_leastAboard 28 = .ok (.aload_n 0, 1) := by decide +kernel
theorem dX5_leastAboard_29 : decode cX5_leastAboard 29 = .ok (.iload_n 1, 1) := by decide +kernel
theorem dX5_leastAboard_30 : decode cX5_leastAboard 30 = .ok (.iload_n 3, 1) := by decide +kernel
theorem dX5_leastAboard_31 : decode cX5_leastAboard 31 = .ok (.invokevirtual 55, 3) := by decide +kernel
theorem dX5_leastAboard_34 : decode cX5_leastAboard 34 = .ok (.ifCond .eq 7, 3) := by decide +kernel
theorem dX5_leastAboard_37 : decode cX5_leastAboard 37 = .ok (.iconst 1, 1) := by decide +kernel
theorem dX5_leastAboard_38 : decode cX5_leastAboard 38 = .ok (.goto 4, 3) := by decide +kernel
theorem dX5_leastAboard_41 : decode cX5_leastAboard 41 = .ok (.iconst 0, 1) := by decide +kernel
theorem dX5_leastAboard_42 : decode cX5_leastAboard 42 = .ok (.istore 4, 2) := by decide +kernel
theorem dX5_leastAboard_44 : decode cX5_leastAboard 44 = .ok (.iload 4, 2) := by decide +kernel
theorem dX5_leastAboard_46 : decode cX5_leastAboard 46 = .ok (.ifCond .eq 21, 3) := by decide +kernel
theorem dX5_leastAboard_49 : decode cX5_leastAboard 49 = .ok (.iload_n 2, 1) := by decide +kernel
theorem dX5_leastAboard_50 : decode cX5_leastAboard 50 = .ok (.iconst (-1), 1) := by decide +kernel
theorem dX5_leastAboard_51 : decode cX5_leastAboard 51 = .ok (.if_icmp .eq 12, 3) := by decide +kernel
theorem dX5_leastAboard_54 : decode cX5_leastAboard 54 = .ok (.aload_n 0, 1) := by decide +kernel
theorem dX5_leastAboard_55 : decode cX5_leastAboard 55 = .ok (.iload_n 3, 1) := by decide +kernel
theorem dX5_leastAboard_56 : decode cX5_leastAboard 56 = .ok (.iload_n 2, 1) := by decide +kernel
theorem dX5_leastAboard_57 : decode cX5_leastAboard 57 = .ok (.invokevirtual 55, 3) := by decide +kernel
theorem dX5_leastAboard_60 : decode cX5_leastAboard 60 = .ok (.ifCond .eq 7, 3) := by decide +kernel
theorem dX5_leastAboard_63 : decode cX5_leastAboard 63 = .ok (.iload_n 3, 1) := by decide +kernel
theorem dX5_leastAboard_64 : decode cX5_leastAboard 64 = .ok (.goto 4, 3) := by decide +kernel
theorem dX5_leastAboard_67 : decode cX5_leastAboard 67 = .ok (.iload_n 2, 1) := by decide +kernel
theorem dX5_leastAboard_68 : decode cX5_leastAboard 68 = .ok (.istore_n 2, 1) := by decide +kernel
theorem dX5_leastAboard_69 : decode cX5_leastAboard 69 = .ok (.iinc 3 1, 3) := by decide +kernel
theorem dX5_leastAboard_72 : decode cX5_leastAboard 72 = .ok (.goto (-68), 3) := by decide +kernel
theorem dX5_leastAboard_75 : decode cX5_leastAboard 75 = .ok (.iload_n 2, 1) := by decide +kernel
theorem dX5_leastAboard_76 : decode cX5_leastAboard 76 = .ok (.ireturn, 1) := by decide +kernel
set_option maxRecDepth 20000 in
theorem ggX5_tries_X5_leastAboard : GoodIn wsX5_tries wsX5_leastAboard := goodIn_r _ [7, 8, 2, 9, 10, 11, 6, 12, 13, 14, 15, 16, 17, 18, 19, 20, 21, 22, 23, 24, 25, 26, 27, 28, 29] (by decide +kernel) (by decide +kernel)
set_option maxRecDepth 20000 in
theorem gX5_tries_X5_leastAboard : GoodIn wsX5_tries (wsV RX5 171 RX5 yX5_leastAboard wsX5_leastAboard) := goodIn_app (goodIn_of _ (by decide +kernel)) ggX5_tries_X5_leastAboard
theorem dX5_tries_0 : decode cX5_tries 0 = .ok (.aload_n 0, 1) := by decide +kernel
theorem dX5_tries_1 : decode cX5_tries 1 = .ok (.getfield 168, 3) := by decide +kernel
theorem dX5_tries_4 : decode cX5_tries 4 = .ok (.iconst (-1), 1) := by decide +kernel
theorem dX5_tries_5 : decode cX5_tries 5 = .ok (.if_icmp .ne 7, 3) := by decide +kernel
theorem dX5_tries_8 : decode cX5_tries 8 = .ok (.iconst (-1), 1) := by decide +kernel
theorem dX5_tries_9 : decode cX5_tries 9 = .ok (.goto 11, 3) := by decide +kernel
theorem dX5_tries_12 : decode cX5_tries 12 = .ok (.aload_n 0, 1) := by decide +kernel
theorem dX5_tries_13 : decode cX5_tries 13 = .ok (.aload_n 0, 1) := by decide +kernel
theorem dX5_tries_14 : decode cX5_tries 14 = .ok (.getfield 168, 3) := by decide +kernel
theorem dX5_tries_17 : decode cX5_tries 17 = .ok (.invokevirtual 171, 3) := by decide +kernel
theorem dX5_tries_20 : decode cX5_tries 20 = .ok (.istore_n 1, 1) := by decide +kernel
theorem dX5_tries_21 : decode cX5_tries 21 = .ok (.iload_n 1, 1) := by decide +kernel
theorem dX5_tries_22 : decode cX5_tries 22 = .ok (.iconst (-1), 1) := by decide +kernel
theorem dX5_tries_23 : decode cX5_tries 23 = .ok (.if_icmp .ne 7, 3) := by decide +kernel
theorem dX5_tries_26 : decode cX5_tries 26 = .ok (.iconst 1, 1) := by decide +kernel
theorem dX5_tries_27 : decode cX5_tries 27 = .ok (.goto 4, 3) := by decide +kernel
theorem dX5_tries_30 : decode cX5_tries 30 = .ok (.iconst 0, 1) := by decide +kernel
theorem dX5_tries_31 : decode cX5_tries 31 = .ok (.istore_n 2, 1) := by decide +kernel
theorem dX5_tries_32 : decode cX5_tries 32 = .ok (.iload_n 1, 1) := by decide +kernel
theorem dX5_tries_33 : decode cX5_tries 33 = .ok (.iconst (-1), 1) := by decide +kernel
theorem dX5_tries_34 : decode cX5_tries 34 = .ok (.if_icmp .ne 11, 3) := by decide +kernel
theorem dX5_tries_37 : decode cX5_tries 37 = .ok (.aload_n 0, 1) := by decide +kernel
theorem dX5_tries_38 : decode cX5_tries 38 = .ok (.iconst (-1), 1) := by decide +kernel
theorem dX5_tries_39 : decode cX5_tries 39 = .ok (.invokevirtual 171, 3) := by decide +kernel
theorem dX5_tries_42 : decode cX5_tries 42 = .ok (.goto 4, 3) := by decide +kernel
theorem dX5_tries_45 : decode cX5_tries 45 = .ok (.iload_n 1, 1) := by decide +kernel
theorem dX5_tries_46 : decode cX5_tries 46 = .ok (.istore_n 1, 1) := by decide +kernel
theorem dX5_tries_47 : decode cX5_tries 47 = .ok (.aload_n 0, 1) := by decide +kernel
theorem dX5_tries_48 : decode cX5_tries 48 = .ok (.getfield 29, 3) := by decide +kernel
theorem dX5_tries_51 : decode cX5_tries 51 = .ok (.iload_n 1, 1) := by decide +kernel
theorem dX5_tries_52 : decode cX5_tries 52 = .ok (.iconst 0, 1) := by decide +kernel
theorem dX5_tries_53 : decode cX5_tries 53 = .ok (.bastore, 1) := by decide +kernel
theorem dX5_tries_54 : decode cX5_tries 54 = .ok (.aload_n 0, 1) := by decide +kernel
theorem dX5_tries_55 : decode cX5_tries 55 = .ok (.iload_n 1, 1) := by decide +kernel
theorem dX5_tries_56 : decode cX5_tries 56 = .ok (.putfield 168, 3) := by decide +kernel
theorem dX5_tries_59 : decode cX5_tries 59 = .ok (.iload_n 2, 1) := by decide +kernel
theorem dX5_tries_60 : decode cX5_tries 60 = .ok (.ireturn, 1) := by decide +kernel
set_option maxRecDepth 20000 in
theorem ggX5_runsBy_X5_tries : GoodIn wsX5_runsBy wsX5_tries := goodIn_r _ [8, 2, 1, 9, 10, 11, 7, 12, 3, 13, 14, 15, 16, 17, 18, 19, 20, 21, 22, 23, 24, 25, 26, 27, 28, 29, 30, 31, 32, 33] (by decide +kernel) (by decide +kernel)
set_option maxRecDepth 20000 in
theorem gX5_runsBy_X5_tries : GoodIn wsX5_runsBy (wsV RX5 174 RX5 yX5_tries wsX5_tries) := goodIn_app (goodIn_of _ (by decide +kernel)) ggX5_runsBy_X5_tries
theorem dX5_runsBy_0 : decode cX5_runsBy 0 = .ok (.iconst 0, 1) := by decide +kernel
theorem dX5_runsBy_1 : decode cX5_runsBy 1 = .ok (.istore_n 2, 1) := by decide +kernel
theorem dX5_runsBy_2 : decode cX5_runsBy 2 = .ok (.iload_n 2, 1) := by decide +kernel
theorem dX5_runsBy_3 : decode cX5_runsBy 3 = .ok (.bipush 120, 2) := by decide +kernel
theorem dX5_runsBy_5 : decode cX5_runsBy 5 = .ok (.if_icmp .ge 16, 3) := by decide +kernel
theorem dX5_runsBy_8 : decode cX5_runsBy 8 = .ok (.aload_n 0, 1) := by decide +kernel
theorem dX5_runsBy_9 : decode cX5_runsBy 9 = .ok (.getfield 29, 3) := by decide +kernel
theorem dX5_runsBy_12 : decode cX5_runsBy 12 = .ok (.iload_n 2, 1) := by decide +kernel
theorem dX5_runsBy_13 : decode cX5_runsBy 13 = .ok (.iconst 0, 1) := by decide +kernel
theorem dX5_runsBy_14 : decode cX5_runsBy 14 = .ok (.bastore, 1) := by decide +kernel
theorem dX5_runsBy_15 : decode cX5_runsBy 15 = .ok (.iinc 2 1, 3) := by decide +kernel
theorem dX5_runsBy_18 : decode cX5_runsBy 18 = .ok (.goto (-16), 3) := by decide +kernel
theorem dX5_runsBy_21 : decode cX5_runsBy 21 = .ok (.aload_n 0, 1) := by decide +kernel
theorem dX5_runsBy_22 : decode cX5_runsBy 22 = .ok (.iconst (-1), 1) := by decide +kernel
theorem dX5_runsBy_23 : decode cX5_runsBy 23 = .ok (.putfield 168, 3) := by decide +kernel
theorem dX5_runsBy_26 : decode cX5_runsBy 26 = .ok (.iconst 0, 1) := by decide +kernel
theorem dX5_runsBy_27 : decode cX5_runsBy 27 = .ok (.istore_n 2, 1) := by decide +kernel
theorem dX5_runsBy_28 : decode cX5_runsBy 28 = .ok (.iconst 0, 1) := by decide +kernel
theorem dX5_runsBy_29 : decode cX5_runsBy 29 = .ok (.istore_n 3, 1) := by decide +kernel
theorem dX5_runsBy_30 : decode cX5_runsBy 30 = .ok (.iconst 0, 1) := by decide +kernel
theorem dX5_runsBy_31 : decode cX5_runsBy 31 = .ok (.istore 4, 2) := by decide +kernel
theorem dX5_runsBy_33 : decode cX5_runsBy 33 = .ok (.iload 4, 2) := by decide +kernel
theorem dX5_runsBy_35 : decode cX5_runsBy 35 = .ok (.aload_n 0, 1) := by decide +kernel
theorem dX5_runsBy_36 : decode cX5_runsBy 36 = .ok (.getfield 13, 3) := by decide +kernel
theorem dX5_runsBy_39 : decode cX5_runsBy 39 = .ok (.iconst 1, 1) := by decide +kernel
theorem dX5_runsBy_40 : decode cX5_runsBy 40 = .ok (.iaload, 1) := by decide +kernel
theorem dX5_runsBy_41 : decode cX5_runsBy 41 = .ok (.if_icmp .ge 35, 3) := by decide +kernel
theorem dX5_runsBy_44 : decode cX5_runsBy 44 = .ok (.iload_n 3, 1) := by decide +kernel
theorem dX5_runsBy_45 : decode cX5_runsBy 45 = .ok (.iload_n 1, 1) := by decide +kernel
theorem dX5_runsBy_46 : decode cX5_runsBy 46 = .ok (.if_icmp .ne 13, 3) := by decide +kernel
theorem dX5_runsBy_49 : decode cX5_runsBy 49 = .ok (.iload_n 2, 1) := by decide +kernel
theorem dX5_runsBy_50 : decode cX5_runsBy 50 = .ok (.aload_n 0, 1) := by decide +kernel
theorem dX5_runsBy_51 : decode cX5_runsBy 51 = .ok (.invokevirtual 174, 3) := by decide +kernel
theorem dX5_runsBy_54 : decode cX5_runsBy 54 = .ok (.iadd, 1) := by decide +kernel
theorem dX5_runsBy_55 : decode cX5_runsBy 55 = .ok (.istore_n 2, 1) := by decide +kernel
theorem dX5_runsBy_56 : decode cX5_runsBy 56 = .ok (.iinc 3 (-1), 3) := by decide +kernel
theorem dX5_runsBy_59 : decode cX5_runsBy 59 = .ok (.aload_n 0, 1) := by decide +kernel
theorem dX5_runsBy_60 : decode cX5_runsBy 60 = .ok (.getfield 29, 3) := by decide +kernel
theorem dX5_runsBy_63 : decode cX5_runsBy 63 = .ok (.iload 4, 2) := by decide +kernel
theorem dX5_runsBy_65 : decode cX5_runsBy 65 = .ok (.iconst 1, 1) := by decide +kernel
theorem dX5_runsBy_66 : decode cX5_runsBy 66 = .ok (.bastore, 1) := by decide +kernel
theorem dX5_runsBy_67 : decode cX5_runsBy 67 = .ok (.iinc 3 1, 3) := by decide +kernel
theorem dX5_runsBy_70 : decode cX5_runsBy 70 = .ok (.iinc 4 1, 3) := by decide +kernel
theorem dX5_runsBy_73 : decode cX5_runsBy 73 = .ok (.goto (-40), 3) := by decide +kernel
theorem dX5_runsBy_76 : decode cX5_runsBy 76 = .ok (.iconst 0, 1) := by decide +kernel
theorem dX5_runsBy_77 : decode cX5_runsBy 77 = .ok (.istore 4, 2) := by decide +kernel
theorem dX5_runsBy_79 : decode cX5_runsBy 79 = .ok (.iload 4, 2) := by decide +kernel
theorem dX5_runsBy_81 : decode cX5_runsBy 81 = .ok (.iload_n 3, 1) := by decide +kernel
theorem dX5_runsBy_82 : decode cX5_runsBy 82 = .ok (.if_icmp .ge 16, 3) := by decide +kernel
theorem dX5_runsBy_85 : decode cX5_runsBy 85 = .ok (.iload_n 2, 1) := by decide +kernel
theorem dX5_runsBy_86 : decode cX5_runsBy 86 = .ok (.aload_n 0, 1) := by decide +kernel
theorem dX5_runsBy_87 : decode cX5_runsBy 87 = .ok (.invokevirtual 174, 3) := by decide +kernel
theorem dX5_runsBy_90 : decode cX5_runsBy 90 = .ok (.iadd, 1) := by decide +kernel
theorem dX5_runsBy_91 : decode cX5_runsBy 91 = .ok (.istore_n 2, 1) := by decide +kernel
theorem dX5_runsBy_92 : decode cX5_runsBy 92 = .ok (.iinc 4 1, 3) := by decide +kernel
theorem dX5_runsBy_95 : decode cX5_runsBy 95 = .ok (.goto (-16), 3) := by decide +kernel
theorem dX5_runsBy_98 : decode cX5_runsBy 98 = .ok (.iload_n 2, 1) := by decide +kernel
theorem dX5_runsBy_99 : decode cX5_runsBy 99 = .ok (.ireturn, 1) := by decide +kernel
set_option maxRecDepth 20000 in
theorem ggX5_runsWith_X5_in : GoodIn wsX5_runsWith wsX5_in := goodIn_r _ [5] (by decide +kernel) (by decide +kernel)
set_option maxRecDepth 20000 in
theorem gX5_runsWith_X5_in : GoodIn wsX5_runsWith (va_wsS RX5 84 yX5_in wsX5_in) := goodIn_app (goodIn_of _ (by decide +kernel)) ggX5_runsWith_X5_in
set_option maxRecDepth 20000 in
theorem ggX5_runsWith_X5_runsBy : GoodIn wsX5_runsWith wsX5_runsBy := goodIn_r _ [9, 10, 11, 12, 13, 14, 15, 4, 16, 17, 18, 19, 20, 21, 22, 23, 24, 25, 26, 27, 28, 29, 30, 31, 32, 33, 34, 35, 36, 37, 38, 39, 40, 41] (by decide +kernel) (by decide +kernel)
set_option maxRecDepth 20000 in
theorem gX5_runsWith_X5_runsBy : GoodIn wsX5_runsWith (wsV RX5 177 RX5 yX5_runsBy wsX5_runsBy) := goodIn_app (goodIn_of _ (by decide +kernel)) ggX5_runsWith_X5_runsBy
theorem dX5_runsWith_0 : decode cX5_runsWith 0 = .ok (.aload_n 0, 1) := by decide +kernel
theorem dX5_runsWith_1 : decode cX5_runsWith 1 = .ok (.iload_n 1, 1) := by decide +kernel
theorem dX5_runsWith_2 : decode cX5_runsWith 2 = .ok (.iconst 1, 1) := by decide +kernel
theorem dX5_runsWith_3 : decode cX5_runsWith 3 = .ok (.bipush 120, 2) := by decide +kernel
theorem dX5_runsWith_5 : decode cX5_runsWith 5 = .ok (.invokestatic 84, 3) := by decide +kernel
theorem dX5_runsWith_8 : decode cX5_runsWith 8 = .ok (.ifCond .eq 7, 3) := by decide +kernel
theorem dX5_runsWith_11 : decode cX5_runsWith 11 = .ok (.iconst 0, 1) := by decide +kernel
theorem dX5_runsWith_12 : decode cX5_runsWith 12 = .ok (.goto 4, 3) := by decide +kernel
theorem dX5_runsWith_15 : decode cX5_runsWith 15 = .ok (.iconst 1, 1) := by decide +kernel
theorem dX5_runsWith_16 : decode cX5_runsWith 16 = .ok (.putfield 1, 3) := by decide +kernel
theorem dX5_runsWith_19 : decode cX5_runsWith 19 = .ok (.aload_n 0, 1) := by decide +kernel
theorem dX5_runsWith_20 : decode cX5_runsWith 20 = .ok (.getfield 1, 3) := by decide +kernel
theorem dX5_runsWith_23 : decode cX5_runsWith 23 = .ok (.ifCond .le 7, 3) := by decide +kernel
theorem dX5_runsWith_26 : decode cX5_runsWith 26 = .ok (.iconst 0, 1) := by decide +kernel
theorem dX5_runsWith_27 : decode cX5_runsWith 27 = .ok (.goto 8, 3) := by decide +kernel
theorem dX5_runsWith_30 : decode cX5_runsWith 30 = .ok (.aload_n 0, 1) := by decide +kernel
theorem dX5_runsWith_31 : decode cX5_runsWith 31 = .ok (.iload_n 1, 1) := by decide +kernel
theorem dX5_runsWith_32 : decode cX5_runsWith 32 = .ok (.invokevirtual 177, 3) := by decide +kernel
theorem dX5_runsWith_35 : decode cX5_runsWith 35 = .ok (.ireturn, 1) := by decide +kernel
set_option maxRecDepth 20000 in
theorem ggX5_leastRoom_X5_runsBy : GoodIn wsX5_leastRoom wsX5_runsBy := goodIn_r _ [6, 7, 8, 9, 10, 11, 12, 5, 13, 14, 15, 16, 17, 18, 19, 20, 21, 22, 23, 24, 25, 26, 27, 28, 29, 30, 31, 32, 33, 34, 35, 36, 37, 38] (by decide +kernel) (by decide +kernel)
set_option maxRecDepth 20000 in
theorem gX5_leastRoom_X5_runsBy : GoodIn wsX5_leastRoom (wsV RX5 177 RX5 yX5_runsBy wsX5_runsBy) := goodIn_app (goodIn_of _ (by decide +kernel)) ggX5_leastRoom_X5_runsBy
theorem dX5_leastRoom_0 : decode cX5_leastRoom 0 = .ok (.aload_n 0, 1) := by decide +kernel
theorem dX5_leastRoom_1 : decode cX5_leastRoom 1 = .ok (.iconst 0, 1) := by decide +kernel
theorem dX5_leastRoom_2 : decode cX5_leastRoom 2 = .ok (.putfield 1, 3) := by decide +kernel
theorem dX5_leastRoom_5 : decode cX5_leastRoom 5 = .ok (.iconst 1, 1) := by decide +kernel
theorem dX5_leastRoom_6 : decode cX5_leastRoom 6 = .ok (.istore_n 1, 1) := by decide +kernel
theorem dX5_leastRoom_7 : decode cX5_leastRoom 7 = .ok (.aload_n 0, 1) := by decide +kernel
theorem dX5_leastRoom_8 : decode cX5_leastRoom 8 = .ok (.iload_n 1, 1) := by decide +kernel
theorem dX5_leastRoom_9 : decode cX5_leastRoom 9 = .ok (.invokevirtual 177, 3) := by decide +kernel
theorem dX5_leastRoom_12 : decode cX5_leastRoom 12 = .ok (.iconst 1, 1) := by decide +kernel
theorem dX5_leastRoom_13 : decode cX5_leastRoom 13 = .ok (.if_icmp .le 9, 3) := by decide +kernel
theorem dX5_leastRoom_16 : decode cX5_leastRoom 16 = .ok (.iinc 1 1, 3) := by decide +kernel
theorem dX5_leastRoom_19 : decode cX5_leastRoom 19 = .ok (.goto (-12), 3) := by decide +kernel
theorem dX5_leastRoom_22 : decode cX5_leastRoom 22 = .ok (.iload_n 1, 1) := by decide +kernel
theorem dX5_leastRoom_23 : decode cX5_leastRoom 23 = .ok (.ireturn, 1) := by decide +kernel
set_option maxRecDepth 20000 in
theorem ggX5_inversions_X5_of : GoodIn wsX5_inversions wsX5_of := goodIn_r _ [7, 2, 8, 9, 10, 11, 12, 13, 14, 15, 16, 17, 18, 19, 20] (by decide +kernel) (by decide +kernel)
set_option maxRecDepth 20000 in
theorem gX5_inversions_X5_of : GoodIn wsX5_inversions (wsV RX5 44 RX5 yX5_of wsX5_of) := goodIn_app (goodIn_of _ (by decide +kernel)) ggX5_inversions_X5_of
theorem dX5_inversions_0 : decode cX5_inversions 0 = .ok (.aload_n 0, 1) := by decide +kernel
theorem dX5_inversions_1 : decode cX5_inversions 1 = .ok (.iconst 0, 1) := by decide +kernel
theorem dX5_inversions_2 : decode cX5_inversions 2 = .ok (.putfield 1, 3) := by decide +kernel
theorem dX5_inversions_5 : decode cX5_inversions 5 = .ok (.iconst 0, 1) := by decide +kernel
theorem dX5_inversions_6 : decode cX5_inversions 6 = .ok (.istore_n 1, 1) := by decide +kernel
theorem dX5_inversions_7 : decode cX5_inversions 7 = .ok (.iconst 0, 1) := by decide +kernel
theorem dX5_inversions_8 : decode cX5_inversions 8 = .ok (.istore_n 2, 1) := by decide +kernel
theorem dX5_inversions_9 : decode cX5_inversions 9 = .ok (.iload_n 2, 1) := by decide +kernel
theorem dX5_inversions_10 : decode cX5_inversions 10 = .ok (.aload_n 0, 1) := by decide +kernel
theorem dX5_inversions_11 : decode cX5_inversions 11 = .ok (.getfield 13, 3) := by decide +kernel
theorem dX5_inversions_14 : decode cX5_inversions 14 = .ok (.iconst 1, 1) := by decide +kernel
theorem dX5_inversions_15 : decode cX5_inversions 15 = .ok (.iaload, 1) := by decide +kernel
theorem dX5_inversions_16 : decode cX5_inversions 16 = .ok (.if_icmp .ge 52, 3) := by decide +kernel
theorem dX5_inversions_19 : decode cX5_inversions 19 = .ok (.iload_n 2, 1) := by decide +kernel
theorem dX5_inversions_20 : decode cX5_inversions 20 = .ok (.iconst 1, 1) := by decide +kernel
theorem dX5_inversions_21 : decode cX5_inversions 21 = .ok (.iadd, 1) := by decide +kernel
theorem dX5_inversions_22 : decode cX5_inversions 22 = .ok (.istore_n 3, 1) := by decide +kernel
theorem dX5_inversions_23 : decode cX5_inversions 23 = .ok (.iload_n 3, 1) := by decide +kernel
theorem dX5_inversions_24 : decode cX5_inversions 24 = .ok (.aload_n 0, 1) := by decide +kernel
theorem dX5_inversions_25 : decode cX5_inversions 25 = .ok (.getfield 13, 3) := by decide +kernel
theorem dX5_inversions_28 : decode cX5_inversions 28 = .ok (.iconst 1, 1) := by decide +kernel
theorem dX5_inversions_29 : decode cX5_inversions 29 = .ok (.iaload, 1) := by decide +kernel
theorem dX5_inversions_30 : decode cX5_inversions 30 = .ok (.if_icmp .ge 32, 3) := by decide +kernel
theorem dX5_inversions_33 : decode cX5_inversions 33 = .ok (.iload_n 1, 1) := by decide +kernel
theorem dX5_inversions_34 : decode cX5_inversions 34 = .ok (.aload_n 0, 1) := by decide +kernel
theorem dX5_inversions_35 : decode cX5_inversions 35 = .ok (.iload_n 2, 1) := by decide +kernel
theorem dX5_inversions_36 : decode cX5_inversions 36 = .ok (.iconst 0, 1) := by decide +kernel
theorem dX5_inversions_37 : decode cX5_inversions 37 = .ok (.invokevirtual 44, 3) := by decide +kernel
theorem dX5_inversions_40 : decode cX5_inversions 40 = .ok (.aload_n 0, 1) := by decide +kernel
theorem dX5_inversions_41 : decode cX5_inversions 41 = .ok (.iload_n 3, 1) := by decide +kernel
theorem dX5_inversions_42 : decode cX5_inversions 42 = .ok (.iconst 0, 1) := by decide +kernel
theorem dX5_inversions_43 : decode cX5_inversions 43 = .ok (.invokevirtual 44, 3) := by decide +kernel
theorem dX5_inversions_46 : decode cX5_inversions 46 = .ok (.if_icmp .le 7, 3) := by decide +kernel
theorem dX5_inversions_49 : decode cX5_inversions 49 = .ok (.iconst 1, 1) := by decide +kernel
theorem dX5_inversions_50 : decode cX5_inversions 50 = .ok (.goto 4, 3) := by decide +kernel
theorem dX5_inversions_53 : decode cX5_inversions 53 = .ok (.iconst 0, 1) := by decide +kernel
theorem dX5_inversions_54 : decode cX5_inversions 54 = .ok (.iadd, 1) := by decide +kernel
theorem dX5_inversions_55 : decode cX5_inversions 55 = .ok (.istore_n 1, 1) := by decide +kernel
theorem dX5_inversions_56 : decode cX5_inversions 56 = .ok (.iinc 3 1, 3) := by decide +kernel
theorem dX5_inversions_59 : decode cX5_inversions 59 = .ok (.goto (-36), 3) := by decide +kernel
theorem dX5_inversions_62 : decode cX5_inversions 62 = .ok (.iinc 2 1, 3) := by decide +kernel
theorem dX5_inversions_65 : decode cX5_inversions 65 = .ok (.goto (-56), 3) := by decide +kernel
theorem dX5_inversions_68 : decode cX5_inversions 68 = .ok (.iload_n 1, 1) := by decide +kernel
theorem dX5_inversions_69 : decode cX5_inversions 69 = .ok (.ireturn, 1) := by decide +kernel
set_option maxRecDepth 20000 in
theorem ggX5_append_X5_in : GoodIn wsX5_append wsX5_in := goodIn_r _ [7] (by decide +kernel) (by decide +kernel)
set_option maxRecDepth 20000 in
theorem gX5_append_X5_in : GoodIn wsX5_append (va_wsS RX5 84 yX5_in wsX5_in) := goodIn_app (goodIn_of _ (by decide +kernel)) ggX5_append_X5_in
theorem dX5_append_0 : decode cX5_append 0 = .ok (.aload_n 0, 1) := by decide +kernel
theorem dX5_append_1 : decode cX5_append 1 = .ok (.iload_n 1, 1) := by decide +kernel
theorem dX5_append_2 : decode cX5_append 2 = .ok (.iconst 0, 1) := by decide +kernel
theorem dX5_append_3 : decode cX5_append 3 = .ok (.bipush 127, 2) := by decide +kernel
theorem dX5_append_5 : decode cX5_append 5 = .ok (.invokestatic 84, 3) := by decide +kernel
theorem dX5_append_8 : decode cX5_append 8 = .ok (.ifCond .ne 7, 3) := by decide +kernel
theorem dX5_append_11 : decode cX5_append 11 = .ok (.iconst 1, 1) := by decide +kernel
theorem dX5_append_12 : decode cX5_append 12 = .ok (.goto 17, 3) := by decide +kernel
theorem dX5_append_15 : decode cX5_append 15 = .ok (.aload_n 0, 1) := by decide +kernel
theorem dX5_append_16 : decode cX5_append 16 = .ok (.getfield 180, 3) := by decide +kernel
theorem dX5_append_19 : decode cX5_append 19 = .ok (.bipush 100, 2) := by decide +kernel
theorem dX5_append_21 : decode cX5_append 21 = .ok (.if_icmp .ne 7, 3) := by decide +kernel
theorem dX5_append_24 : decode cX5_append 24 = .ok (.iconst 2, 1) := by decide +kernel
theorem dX5_append_25 : decode cX5_append 25 = .ok (.goto 4, 3) := by decide +kernel
theorem dX5_append_28 : decode cX5_append 28 = .ok (.iconst 0, 1) := by decide +kernel
theorem dX5_append_29 : decode cX5_append 29 = .ok (.putfield 1, 3) := by decide +kernel
theorem dX5_append_32 : decode cX5_append 32 = .ok (.aload_n 0, 1) := by decide +kernel
theorem dX5_append_33 : decode cX5_append 33 = .ok (.getfield 1, 3) := by decide +kernel
theorem dX5_append_36 : decode cX5_append 36 = .ok (.ifCond .le 5, 3) := by decide +kernel
theorem dX5_append_39 : decode cX5_append 39 = .ok (.iconst 0, 1) := by decide +kernel
theorem dX5_append_40 : decode cX5_append 40 = .ok (.ireturn, 1) := by decide +kernel
theorem dX5_append_41 : decode cX5_append 41 = .ok (.aload_n 0, 1) := by decide +kernel
theorem dX5_append_42 : decode cX5_append 42 = .ok (.getfield 23, 3) := by decide +kernel
theorem dX5_append_45 : decode cX5_append 45 = .ok (.aload_n 0, 1) := by decide +kernel
theorem dX5_append_46 : decode cX5_append 46 = .ok (.getfield 180, 3) := by decide +kernel
theorem dX5_append_49 : decode cX5_append 49 = .ok (.iload_n 1, 1) := by decide +kernel
theorem dX5_append_50 : decode cX5_append 50 = .ok (.iastore, 1) := by decide +kernel
theorem dX5_append_51 : decode cX5_append 51 = .ok (.aload_n 0, 1) := by decide +kernel
theorem dX5_append_52 : decode cX5_append 52 = .ok (.dup, 1) := by decide +kernel
theorem dX5_append_53 : decode cX5_append 53 = .ok (.getfield 180, 3) := by decide +kernel
theorem dX5_append_56 : decode cX5_append 56 = .ok (.iconst 1, 1) := by decide +kernel
theorem dX5_append_57 : decode cX5_append 57 = .ok (.iadd, 1) := by decide +kernel
theorem dX5_append_58 : decode cX5_append 58 = .ok (.putfield 180, 3) := by decide +kernel
theorem dX5_append_61 : decode cX5_append 61 = .ok (.aload_n 0, 1) := by decide +kernel
theorem dX5_append_62 : decode cX5_append 62 = .ok (.getfield 180, 3) := by decide +kernel
theorem dX5_append_65 : decode cX5_append 65 = .ok (.ireturn, 1) := by decide +kernel
theorem dX5_clearText_0 : decode cX5_clearText 0 = .ok (.aload_n 0, 1) := by decide +kernel
theorem dX5_clearText_1 : decode cX5_clearText 1 = .ok (.iconst 0, 1) := by decide +kernel
theorem dX5_clearText_2 : decode cX5_clearText 2 = .ok (.putfield 1, 3) := by decide +kernel
theorem dX5_clearText_5 : decode cX5_clearText 5 = .ok (.aload_n 0, 1) := by decide +kernel
theorem dX5_clearText_6 : decode cX5_clearText 6 = .ok (.getfield 180, 3) := by decide +kernel
theorem dX5_clearText_9 : decode cX5_clearText 9 = .ok (.istore_n 1, 1) := by decide +kernel
theorem dX5_clearText_10 : decode cX5_clearText 10 = .ok (.aload_n 0, 1) := by decide +kernel
theorem dX5_clearText_11 : decode cX5_clearText 11 = .ok (.iconst 0, 1) := by decide +kernel
theorem dX5_clearText_12 : decode cX5_clearText 12 = .ok (.putfield 180, 3) := by decide +kernel
theorem dX5_clearText_15 : decode cX5_clearText 15 = .ok (.iload_n 1, 1) := by decide +kernel
theorem dX5_clearText_16 : decode cX5_clearText 16 = .ok (.ireturn, 1) := by decide +kernel
theorem dX5_look_0 : decode cX5_look 0 = .ok (.aload_n 0, 1) := by decide +kernel
theorem dX5_look_1 : decode cX5_look 1 = .ok (.getfield 183, 3) := by decide +kernel
theorem dX5_look_4 : decode cX5_look 4 = .ok (.aload_n 0, 1) := by decide +kernel
theorem dX5_look_5 : decode cX5_look 5 = .ok (.getfield 180, 3) := by decide +kernel
theorem dX5_look_8 : decode cX5_look 8 = .ok (.if_icmp .ge 15, 3) := by decide +kernel
theorem dX5_look_11 : decode cX5_look 11 = .ok (.aload_n 0, 1) := by decide +kernel
theorem dX5_look_12 : decode cX5_look 12 = .ok (.getfield 23, 3) := by decide +kernel
theorem dX5_look_15 : decode cX5_look 15 = .ok (.aload_n 0, 1) := by decide +kernel
theorem dX5_look_16 : decode cX5_look 16 = .ok (.getfield 183, 3) := by decide +kernel
theorem dX5_look_19 : decode cX5_look 19 = .ok (.iaload, 1) := by decide +kernel
theorem dX5_look_20 : decode cX5_look 20 = .ok (.goto 4, 3) := by decide +kernel
theorem dX5_look_23 : decode cX5_look 23 = .ok (.iconst (-1), 1) := by decide +kernel
theorem dX5_look_24 : decode cX5_look 24 = .ok (.ireturn, 1) := by decide +kernel
theorem dX5_wrong_0 : decode cX5_wrong 0 = .ok (.aload_n 0, 1) := by decide +kernel
theorem dX5_wrong_1 : decode cX5_wrong 1 = .ok (.aload_n 0, 1) := by decide +kernel
theorem dX5_wrong_2 : decode cX5_wrong 2 = .ok (.getfield 186, 3) := by decide +kernel
theorem dX5_wrong_5 : decode cX5_wrong 5 = .ok (.iconst (-1), 1) := by decide +kernel
theorem dX5_wrong_6 : decode cX5_wrong 6 = .ok (.if_icmp .ne 7, 3) := by decide +kernel
theorem dX5_wrong_9 : decode cX5_wrong 9 = .ok (.iload_n 1, 1) := by decide +kernel
theorem dX5_wrong_10 : decode cX5_wrong 10 = .ok (.goto 7, 3) := by decide +kernel
theorem dX5_wrong_13 : decode cX5_wrong 13 = .ok (.aload_n 0, 1) := by decide +kernel
theorem dX5_wrong_14 : decode cX5_wrong 14 = .ok (.getfield 186, 3) := by decide +kernel
theorem dX5_wrong_17 : decode cX5_wrong 17 = .ok (.putfield 186, 3) := by decide +kernel
theorem dX5_wrong_20 : decode cX5_wrong 20 = .ok (.return_, 1) := by decide +kernel
set_option maxRecDepth 20000 in
theorem ggX5_sign_X5_look : GoodIn wsX5_sign wsX5_look := goodIn_r _ [6, 1, 7, 8, 14, 15, 16, 17, 18, 19, 20, 21, 22, 23, 24, 25, 26] (by decide +kernel) (by decide +kernel)
set_option maxRecDepth 20000 in
theorem gX5_sign_X5_look : GoodIn wsX5_sign (wsV RX5 189 RX5 yX5_look wsX5_look) := goodIn_app (goodIn_of _ (by decide +kernel)) ggX5_sign_X5_look
set_option maxRecDepth 20000 in
theorem ggX5_sign_X5_wrong : GoodIn wsX5_sign wsX5_wrong := goodIn_r _ [12, 13, 14, 15, 16, 17, 18, 19, 20, 21, 22, 23, 24, 25, 26] (by decide +kernel) (by decide +kernel)
set_option maxRecDepth 20000 in
theorem gX5_sign_X5_wrong : GoodIn wsX5_sign (wsV RX5 192 RX5 yX5_wrong wsX5_wrong) := goodIn_app (goodIn_of _ (by decide +kernel)) ggX5_sign_X5_wrong
theorem dX5_sign_0 : decode cX5_sign 0 = .ok (.aload_n 0, 1) := by decide +kernel
theorem dX5_sign_1 : decode cX5_sign 1 = .ok (.invokevirtual 189, 3) := by decide +kernel
theorem dX5_sign_4 : decode cX5_sign 4 = .ok (.iload_n 1, 1) := by decide +kernel
theorem dX5_sign_5 : decode cX5_sign 5 = .ok (.if_icmp .eq 11, 3) := by decide +kernel
theorem dX5_sign_8 : decode cX5_sign 8 = .ok (.aload_n 0, 1) := by decide +kernel
theorem dX5_sign_9 : decode cX5_sign 9 = .ok (.aload_n 0, 1) := by decide +kernel
theorem dX5_sign_10 : decode cX5_sign 10 = .ok (.getfield 183, 3) := by decide +kernel
theorem dX5_sign_13 : decode cX5_sign 13 = .ok (.invokevirtual 192, 3) := by decide +kernel
theorem dX5_sign_16 : decode cX5_sign 16 = .ok (.aload_n 0, 1) := by decide +kernel
theorem dX5_sign_17 : decode cX5_sign 17 = .ok (.dup, 1) := by decide +kernel
theorem dX5_sign_18 : decode cX5_sign 18 = .ok (.getfield 183, 3) := by decide +kernel
theorem dX5_sign_21 : decode cX5_sign 21 = .ok (.iconst 1, 1) := by decide +kernel
theorem dX5_sign_22 : decode cX5_sign 22 = .ok (.iadd, 1) := by decide +kernel
theorem dX5_sign_23 : decode cX5_sign 23 = .ok (.putfield 183, 3) := by decide +kernel
theorem dX5_sign_26 : decode cX5_sign 26 = .ok (.return_, 1) := by decide +kernel
set_option maxRecDepth 20000 in
theorem ggX5_number_X5_look : GoodIn wsX5_number wsX5_look := goodIn_r _ [7, 1, 8, 9, 17, 18, 19, 20, 21, 22, 23, 24, 25, 26, 27, 28, 29] (by decide +kernel) (by decide +kernel)
set_option maxRecDepth 20000 in
theorem gX5_number_X5_look : GoodIn wsX5_number (wsV RX5 189 RX5 yX5_look wsX5_look) := goodIn_app (goodIn_of _ (by decide +kernel)) ggX5_number_X5_look
set_option maxRecDepth 20000 in
theorem ggX5_number_X5_in : GoodIn wsX5_number wsX5_in := goodIn_r _ [12] (by decide +kernel) (by decide +kernel)
set_option maxRecDepth 20000 in
theorem gX5_number_X5_in : GoodIn wsX5_number (va_wsS RX5 84 yX5_in wsX5_in) := goodIn_app (goodIn_of _ (by decide +kernel)) ggX5_number_X5_in
set_option maxRecDepth 20000 in
theorem ggX5_number_X5_wrong : GoodIn wsX5_number wsX5_wrong := goodIn_r _ [16, 2, 17, 18, 19, 20, 21, 22, 23, 24, 25, 26, 27, 28, 29] (by decide +kernel) (by decide +kernel)
set_option maxRecDepth 20000 in
theorem gX5_number_X5_wrong : GoodIn wsX5_number (wsV RX5 192 RX5 yX5_wrong wsX5_wrong) := goodIn_app (goodIn_of _ (by decide +kernel)) ggX5_number_X5_wrong
theorem dX5_number_0 : decode cX5_number 0 = .ok (.aload_n 0, 1) := by decide +kernel
theorem dX5_number_1 : decode cX5_number 1 = .ok (.getfield 183, 3) := by decide +kernel
theorem dX5_number_4 : decode cX5_number 4 = .ok (.istore 4, 2) := by decide +kernel
theorem dX5_number_6 : decode cX5_number 6 = .ok (.iconst 0, 1) := by decide +kernel
theorem dX5_number_7 : decode cX5_number 7 = .ok (.istore 5, 2) := by decide +kernel
theorem dX5_number_9 : decode cX5_number 9 = .ok (.aload_n 0, 1) := by decide +kernel
theorem dX5_number_10 : decode cX5_number 10 = .ok (.invokevirtual 189, 3) := by decide +kernel
theorem dX5_number_13 : decode cX5_number 13 = .ok (.bipush 48, 2) := by decide +kernel
theorem dX5_number_15 : decode cX5_number 15 = .ok (.bipush 57, 2) := by decide +kernel
theorem dX5_number_17 : decode cX5_number 17 = .ok (.invokestatic 84, 3) := by decide +kernel
theorem dX5_number_20 : decode cX5_number 20 = .ok (.ifCond .eq 62, 3) := by decide +kernel
theorem dX5_number_23 : decode cX5_number 23 = .ok (.aload_n 0, 1) := by decide +kernel
theorem dX5_number_24 : decode cX5_number 24 = .ok (.getfield 183, 3) := by decide +kernel
theorem dX5_number_27 : decode cX5_number 27 = .ok (.iload 4, 2) := by decide +kernel
theorem dX5_number_29 : decode cX5_number 29 = .ok (.iload_n 1, 1) := by decide +kernel
theorem dX5_number_30 : decode cX5_number 30 = .ok (.iadd, 1) := by decide +kernel
theorem dX5_number_31 : decode cX5_number 31 = .ok (.if_icmp .ne 11, 3) := by decide +kernel
theorem dX5_number_34 : decode cX5_number 34 = .ok (.aload_n 0, 1) := by decide +kernel
theorem dX5_number_35 : decode cX5_number 35 = .ok (.aload_n 0, 1) := by decide +kernel
theorem dX5_number_36 : decode cX5_number 36 = .ok (.getfield 183, 3) := by decide +kernel
theorem dX5_number_39 : decode cX5_number 39 = .ok (.invokevirtual 192, 3) := by decide +kernel
theorem dX5_number_42 : decode cX5_number 42 = .ok (.aload_n 0, 1) := by decide +kernel
theorem dX5_number_43 : decode cX5_number 43 = .ok (.getfield 186, 3) := by decide +kernel
theorem dX5_number_46 : decode cX5_number 46 = .ok (.iconst (-1), 1) := by decide +kernel
theorem dX5_number_47 : decode cX5_number 47 = .ok (.if_icmp .ne 19, 3) := by decide +kernel
theorem dX5_number_50 : decode cX5_number 50 = .ok (.bipush 10, 2) := by decide +kernel
theorem dX5_number_52 : decode cX5_number 52 = .ok (.iload 5, 2) := by decide +kernel
theorem dX5_number_54 : decode cX5_number 54 = .ok (.imul, 1) := by decide +kernel
theorem dX5_number_55 : decode cX5_number 55 = .ok (.aload_n 0, 1) := by decide +kernel
theorem dX5_number_56 : decode cX5_number 56 = .ok (.invokevirtual 189, 3) := by decide +kernel
theorem dX5_number_59 : decode cX5_number 59 = .ok (.iadd, 1) := by decide +kernel
theorem dX5_number_60 : decode cX5_number 60 = .ok (.bipush 48, 2) := by decide +kernel
theorem dX5_number_62 : decode cX5_number 62 = .ok (.isub, 1) := by decide +kernel
theorem dX5_number_63 : decode cX5_number 63 = .ok (.goto 4, 3) := by decide +kernel
theorem dX5_number_66 : decode cX5_number 66 = .ok (.iconst 0, 1) := by decide +kernel
theorem dX5_number_67 : decode cX5_number 67 = .ok (.istore 5, 2) := by decide +kernel
theorem dX5_number_69 : decode cX5_number 69 = .ok (.aload_n 0, 1) := by decide +kernel
theorem dX5_number_70 : decode cX5_number 70 = .ok (.dup, 1) := by decide +kernel
theorem dX5_number_71 : decode cX5_number 71 = .ok (.getfield 183, 3) := by decide +kernel
theorem dX5_number_74 : decode cX5_number 74 = .ok (.iconst 1, 1) := by decide +kernel
theorem dX5_number_75 : decode cX5_number 75 = .ok (.iadd, 1) := by decide +kernel
theorem dX5_number_76 : decode cX5_number 76 = .ok (.putfield 183, 3) := by decide +kernel
theorem dX5_number_79 : decode cX5_number 79 = .ok (.goto (-70), 3) := by decide +kernel
theorem dX5_number_82 : decode cX5_number 82 = .ok (.aload_n 0, 1) := by decide +kernel
theorem dX5_number_83 : decode cX5_number 83 = .ok (.getfield 183, 3) := by decide +kernel
theorem dX5_number_86 : decode cX5_number 86 = .ok (.iload 4, 2) := by decide +kernel
theorem dX5_number_88 : decode cX5_number 88 = .ok (.if_icmp .ne 11, 3) := by decide +kernel
theorem dX5_number_91 : decode cX5_number 91 = .ok (.aload_n 0, 1) := by decide +kernel
theorem dX5_number_92 : decode cX5_number 92 = .ok (.aload_n 0, 1) := by decide +kernel
theorem dX5_number_93 : decode cX5_number 93 = .ok (.getfield 183, 3) := by decide +kernel
theorem dX5_number_96 : decode cX5_number 96 = .ok (.invokevirtual 192, 3) := by decide +kernel
theorem dX5_number_99 : decode cX5_number 99 = .ok (.aload_n 0, 1) := by decide +kernel
theorem dX5_number_100 : decode cX5_number 100 = .ok (.getfield 186, 3) := by decide +kernel
theorem dX5_number_103 : decode cX5_number 103 = .ok (.iconst (-1), 1) := by decide +kernel
theorem dX5_number_104 : decode cX5_number 104 = .ok (.if_icmp .ne 19, 3) := by decide +kernel
theorem dX5_number_107 : decode cX5_number 107 = .ok (.iload 5, 2) := by decide +kernel
theorem dX5_number_109 : decode cX5_number 109 = .ok (.iload_n 2, 1) := by decide +kernel
theorem dX5_number_110 : decode cX5_number 110 = .ok (.iload_n 3, 1) := by decide +kernel
theorem dX5_number_111 : decode cX5_number 111 = .ok (.invokestatic 84, 3) := by decide +kernel
theorem dX5_number_114 : decode cX5_number 114 = .ok (.ifCond .ne 9, 3) := by decide +kernel
theorem dX5_number_117 : decode cX5_number 117 = .ok (.aload_n 0, 1) := by decide +kernel
theorem dX5_number_118 : decode cX5_number 118 = .ok (.iload 4, 2) := by decide +kernel
theorem dX5_number_120 : decode cX5_number 120 = .ok (.invokevirtual 192, 3) := by decide +kernel
theorem dX5_number_123 : decode cX5_number 123 = .ok (.iload 5, 2) := by decide +kernel
theorem dX5_number_125 : decode cX5_number 125 = .ok (.ireturn, 1) := by decide +kernel
set_option maxRecDepth 20000 in
theorem ggX5_order_X5_look : GoodIn wsX5_order wsX5_look := goodIn_r _ [7, 2, 8, 9, 26, 27, 28, 29, 30, 31, 32, 33, 34, 35, 36, 37, 38] (by decide +kernel) (by decide +kernel)
set_option maxRecDepth 20000 in
theorem gX5_order_X5_look : GoodIn wsX5_order (wsV RX5 189 RX5 yX5_look wsX5_look) := goodIn_app (goodIn_of _ (by decide +kernel)) ggX5_order_X5_look
set_option maxRecDepth 20000 in
theorem ggX5_order_X5_number : GoodIn wsX5_order wsX5_number := goodIn_r _ [13, 2, 14, 3, 4, 5, 6, 7, 8, 9, 15, 16, 17, 18, 19, 20, 21, 26, 27, 28, 29, 30, 31, 32, 33, 34, 35, 36, 37, 38] (by decide +kernel) (by decide +kernel)
set_option maxRecDepth 20000 in
theorem gX5_order_X5_number : GoodIn wsX5_order (wsV RX5 195 RX5 yX5_number wsX5_number) := goodIn_app (goodIn_of _ (by decide +kernel)) ggX5_order_X5_number
set_option maxRecDepth 20000 in
theorem ggX5_order_X5_sign : GoodIn wsX5_order wsX5_sign := goodIn_r _ [25, 2, 3, 4, 5, 6, 7, 8, 9, 18, 19, 20, 21, 14, 26, 27, 28, 29, 30, 31, 32, 33, 34, 35, 36, 37, 38] (by decide +kernel) (by decide +kernel)
set_option maxRecDepth 20000 in
theorem gX5_order_X5_sign : GoodIn wsX5_order (wsV RX5 199 RX5 yX5_sign wsX5_sign) := goodIn_app (goodIn_of _ (by decide +kernel)) ggX5_order_X5_sign
set_option maxRecDepth 20000 in
theorem ggX5_order_X5_in : GoodIn wsX5_order wsX5_in := goodIn_r _ [17] (by decide +kernel) (by decide +kernel)
set_option maxRecDepth 20000 in
theorem gX5_order_X5_in : GoodIn wsX5_order (va_wsS RX5 84 yX5_in wsX5_in) := goodIn_app (goodIn_of _ (by decide +kernel)) ggX5_order_X5_in
set_option maxRecDepth 20000 in
theorem ggX5_order_X5_wrong : GoodIn wsX5_order wsX5_wrong := goodIn_r _ [21, 14, 26, 27, 28, 29, 30, 31, 32, 33, 34, 35, 36, 37, 38] (by decide +kernel) (by decide +kernel)
set_option maxRecDepth 20000 in
theorem gX5_order_X5_wrong : GoodIn wsX5_order (wsV RX5 192 RX5 yX5_wrong wsX5_wrong) := goodIn_app (goodIn_of _ (by decide +kernel)) ggX5_order_X5_wrong
theorem dX5_order_0 : decode cX5_order 0 = .ok (.aload_n 0, 1) := by decide +kernel
theorem dX5_order_1 : decode cX5_order 1 = .ok (.invokevirtual 189, 3) := by decide +kernel
theorem dX5_order_4 : decode cX5_order 4 = .ok (.istore_n 2, 1) := by decide +kernel
theorem dX5_order_5 : decode cX5_order 5 = .ok (.aload_n 0, 1) := by decide +kernel
theorem dX5_order_6 : decode cX5_order 6 = .ok (.getfield 33, 3) := by decide +kernel
theorem dX5_order_9 : decode cX5_order 9 = .ok (.iconst 3, 1) := by decide +kernel
theorem dX5_order_10 : decode cX5_order 10 = .ok (.iload_n 1, 1) := by decide +kernel
theorem dX5_order_11 : decode cX5_order 11 = .ok (.imul, 1) := by decide +kernel
theorem dX5_order_12 : decode cX5_order 12 = .ok (.iload_n 2, 1) := by decide +kernel
theorem dX5_order_13 : decode cX5_order 13 = .ok (.iastore, 1) := by decide +kernel
theorem dX5_order_14 : decode cX5_order 14 = .ok (.aload_n 0, 1) := by decide +kernel
theorem dX5_order_15 : decode cX5_order 15 = .ok (.dup, 1) := by decide +kernel
theorem dX5_order_16 : decode cX5_order 16 = .ok (.getfield 183, 3) := by decide +kernel
theorem dX5_order_19 : decode cX5_order 19 = .ok (.iconst 1, 1) := by decide +kernel
theorem dX5_order_20 : decode cX5_order 20 = .ok (.iadd, 1) := by decide +kernel
theorem dX5_order_21 : decode cX5_order 21 = .ok (.putfield 183, 3) := by decide +kernel
theorem dX5_order_24 : decode cX5_order 24 = .ok (.iload_n 2, 1) := by decide +kernel
theorem dX5_order_25 : decode cX5_order 25 = .ok (.tableswitch 223 101 115 #[220, 223, 223, 223, 223, 223, 223, 220, 173, 223, 223, 75, 223, 223, 121], 75) := by decide +kernel
theorem dX5_order_100 : decode cX5_order 100 = .ok (.aload_n 0, 1) := by decide +kernel
theorem dX5_order_101 : decode cX5_order 101 = .ok (.getfield 33, 3) := by decide +kernel
theorem dX5_order_104 : decode cX5_order 104 = .ok (.iconst 3, 1) := by decide +kernel
theorem dX5_order_105 : decode cX5_order 105 = .ok (.iload_n 1, 1) := by decide +kernel
theorem dX5_order_106 : decode cX5_order 106 = .ok (.imul, 1) := by decide +kernel
theorem dX5_order_107 : decode cX5_order 107 = .ok (.iconst 1, 1) := by decide +kernel
theorem dX5_order_108 : decode cX5_order 108 = .ok (.iadd, 1) := by decide +kernel
theorem dX5_order_109 : decode cX5_order 109 = .ok (.aload_n 0, 1) := by decide +kernel
theorem dX5_order_110 : decode cX5_order 110 = .ok (.iconst 3, 1) := by decide +kernel
theorem dX5_order_111 : decode cX5_order 111 = .ok (.iconst 0, 1) := by decide +kernel
theorem dX5_order_112 : decode cX5_order 112 = .ok (.sipush 999, 3) := by decide +kernel
theorem dX5_order_115 : decode cX5_order 115 = .ok (.invokevirtual 195, 3) := by decide +kernel
theorem dX5_order_118 : decode cX5_order 118 = .ok (.iastore, 1) := by decide +kernel
theorem dX5_order_119 : decode cX5_order 119 = .ok (.aload_n 0, 1) := by decide +kernel
theorem dX5_order_120 : decode cX5_order 120 = .ok (.bipush 44, 2) := by decide +kernel
theorem dX5_order_122 : decode cX5_order 122 = .ok (.invokevirtual 199, 3) := by decide +kernel
theorem dX5_order_125 : decode cX5_order 125 = .ok (.aload_n 0, 1) := by decide +kernel
theorem dX5_order_126 : decode cX5_order 126 = .ok (.getfield 33, 3) := by decide +kernel
theorem dX5_order_129 : decode cX5_order 129 = .ok (.iconst 3, 1) := by decide +kernel
theorem dX5_order_130 : decode cX5_order 130 = .ok (.iload_n 1, 1) := by decide +kernel
theorem dX5_order_131 : decode cX5_order 131 = .ok (.imul, 1) := by decide +kernel
theorem dX5_order_132 : decode cX5_order 132 = .ok (.iconst 2, 1) := by decide +kernel
theorem dX5_order_133 : decode cX5_order 133 = .ok (.iadd, 1) := by decide +kernel
theorem dX5_order_134 : decode cX5_order 134 = .ok (.aload_n 0, 1) := by decide +kernel
theorem dX5_order_135 : decode cX5_order 135 = .ok (.iconst 2, 1) := by decide +kernel
theorem dX5_order_136 : decode cX5_order 136 = .ok (.iconst 1, 1) := by decide +kernel
theorem dX5_order_137 : decode cX5_order 137 = .ok (.bipush 50, 2) := by decide +kernel
theorem dX5_order_139 : decode cX5_order 139 = .ok (.invokevirtual 195, 3) := by decide +kernel
theorem dX5_order_142 : decode cX5_order 142 = .ok (.iastore, 1) := by decide +kernel
theorem dX5_order_143 : decode cX5_order 143 = .ok (.goto 115, 3) := by decide +kernel
theorem dX5_order_146 : decode cX5_order 146 = .ok (.aload_n 0, 1) := by decide +kernel
theorem dX5_order_147 : decode cX5_order 147 = .ok (.invokevirtual 189, 3) := by decide +kernel
theorem dX5_order_150 : decode cX5_order 150 = .ok (.bipush 49, 2) := by decide +kernel
theorem dX5_order_152 : decode cX5_order 152 = .ok (.bipush 57, 2) := by decide +kernel
theorem dX5_order_154 : decode cX5_order 154 = .ok (.invokestatic 84, 3) := by decide +kernel
theorem dX5_order_157 : decode cX5_order 157 = .ok (.ifCond .ne 11, 3) := by decide +kernel
theorem dX5_order_160 : decode cX5_order 160 = .ok (.aload_n 0, 1) := by decide +kernel
theorem dX5_order_161 : decode cX5_order 161 = .ok (.aload_n 0, 1) := by decide +kernel
theorem dX5_order_162 : decode cX5_order 162 = .ok (.getfield 183, 3) := by decide +kernel
theorem dX5_order_165 : decode cX5_order 165 = .ok (.invokevirtual 192, 3) := by decide +kernel
theorem dX5_order_168 : decode cX5_order 168 = .ok (.aload_n 0, 1) := by decide +kernel
theorem dX5_order_169 : decode cX5_order 169 = .ok (.getfield 33, 3) := by decide +kernel
theorem dX5_order_172 : decode cX5_order 172 = .ok (.iconst 3, 1) := by decide +kernel
theorem dX5_order_173 : decode cX5_order 173 = .ok (.iload_n 1, 1) := by decide +kernel
theorem dX5_order_174 : decode cX5_order 174 = .ok (.imul, 1) := by decide +kernel
theorem dX5_order_175 : decode cX5_order 175 = .ok (.iconst 1, 1) := by decide +kernel
theorem dX5_order_176 : decode cX5_order 176 = .ok (.iadd, 1) := by decide +kernel
theorem dX5_order_177 : decode cX5_order 177 = .ok (.aload_n 0, 1) := by decide +kernel
theorem dX5_order_178 : decode cX5_order 178 = .ok (.invokevirtual 189, 3) := by decide +kernel
theorem dX5_order_181 : decode cX5_order 181 = .ok (.bipush 48, 2) := by decide +kernel
theorem dX5_order_183 : decode cX5_order 183 = .ok (.isub, 1) := by decide +kernel
theorem dX5_order_184 : decode cX5_order 184 = .ok (.iastore, 1) := by decide +kernel
theorem dX5_order_185 : decode cX5_order 185 = .ok (.aload_n 0, 1) := by decide +kernel
theorem dX5_order_186 : decode cX5_order 186 = .ok (.dup, 1) := by decide +kernel
theorem dX5_order_187 : decode cX5_order 187 = .ok (.getfield 183, 3) := by decide +kernel
theorem dX5_order_190 : decode cX5_order 190 = .ok (.iconst 1, 1) := by decide +kernel
theorem dX5_order_191 : decode cX5_order 191 = .ok (.iadd, 1) := by decide +kernel
theorem dX5_order_192 : decode cX5_order 192 = .ok (.putfield 183, 3) := by decide +kernel
theorem dX5_order_195 : decode cX5_order 195 = .ok (.goto 63, 3) := by decide +kernel
theorem dX5_order_198 : decode cX5_order 198 = .ok (.aload_n 0, 1) := by decide +kernel
theorem dX5_order_199 : decode cX5_order 199 = .ok (.getfield 33, 3) := by decide +kernel
theorem dX5_order_202 : decode cX5_order 202 = .ok (.iconst 3, 1) := by decide +kernel
theorem dX5_order_203 : decode cX5_order 203 = .ok (.iload_n 1, 1) := by decide +kernel
theorem dX5_order_204 : decode cX5_order 204 = .ok (.imul, 1) := by decide +kernel
theorem dX5_order_205 : decode cX5_order 205 = .ok (.iconst 1, 1) := by decide +kernel
theorem dX5_order_206 : decode cX5_order 206 = .ok (.iadd, 1) := by decide +kernel
theorem dX5_order_207 : decode cX5_order 207 = .ok (.aload_n 0, 1) := by decide +kernel
theorem dX5_order_208 : decode cX5_order 208 = .ok (.iconst 3, 1) := by decide +kernel
theorem dX5_order_209 : decode cX5_order 209 = .ok (.iconst 0, 1) := by decide +kernel
theorem dX5_order_210 : decode cX5_order 210 = .ok (.sipush 999, 3) := by decide +kernel
theorem dX5_order_213 : decode cX5_order 213 = .ok (.invokevirtual 195, 3) := by decide +kernel
theorem dX5_order_216 : decode cX5_order 216 = .ok (.iastore, 1) := by decide +kernel
theorem dX5_order_217 : decode cX5_order 217 = .ok (.aload_n 0, 1) := by decide +kernel
theorem dX5_order_218 : decode cX5_order 218 = .ok (.bipush 43, 2) := by decide +kernel
theorem dX5_order_220 : decode cX5_order 220 = .ok (.invokevirtual 199, 3) := by decide +kernel
theorem dX5_order_223 : decode cX5_order 223 = .ok (.aload_n 0, 1) := by decide +kernel
theorem dX5_order_224 : decode cX5_order 224 = .ok (.getfield 33, 3) := by decide +kernel
theorem dX5_order_227 : decode cX5_order 227 = .ok (.iconst 3, 1) := by decide +kernel
theorem dX5_order_228 : decode cX5_order 228 = .ok (.iload_n 1, 1) := by decide +kernel
theorem dX5_order_229 : decode cX5_order 229 = .ok (.imul, 1) := by decide +kernel
theorem dX5_order_230 : decode cX5_order 230 = .ok (.iconst 2, 1) := by decide +kernel
theorem dX5_order_231 : decode cX5_order 231 = .ok (.iadd, 1) := by decide +kernel
theorem dX5_order_232 : decode cX5_order 232 = .ok (.aload_n 0, 1) := by decide +kernel
theorem dX5_order_233 : decode cX5_order 233 = .ok (.iconst 3, 1) := by decide +kernel
theorem dX5_order_234 : decode cX5_order 234 = .ok (.iconst 0, 1) := by decide +kernel
theorem dX5_order_235 : decode cX5_order 235 = .ok (.sipush 999, 3) := by decide +kernel
theorem dX5_order_238 : decode cX5_order 238 = .ok (.invokevirtual 195, 3) := by decide +kernel
theorem dX5_order_241 : decode cX5_order 241 = .ok (.iastore, 1) := by decide +kernel
theorem dX5_order_242 : decode cX5_order 242 = .ok (.goto 16, 3) := by decide +kernel
theorem dX5_order_245 : decode cX5_order 245 = .ok (.goto 13, 3) := by decide +kernel
theorem dX5_order_248 : decode cX5_order 248 = .ok (.aload_n 0, 1) := by decide +kernel
theorem dX5_order_249 : decode cX5_order 249 = .ok (.aload_n 0, 1) := by decide +kernel
theorem dX5_order_250 : decode cX5_order 250 = .ok (.getfield 183, 3) := by decide +kernel
theorem dX5_order_253 : decode cX5_order 253 = .ok (.iconst 1, 1) := by decide +kernel
theorem dX5_order_254 : decode cX5_order 254 = .ok (.isub, 1) := by decide +kernel
theorem dX5_order_255 : decode cX5_order 255 = .ok (.invokevirtual 192, 3) := by decide +kernel
theorem dX5_order_258 : decode cX5_order 258 = .ok (.aload_n 0, 1) := by decide +kernel
theorem dX5_order_259 : decode cX5_order 259 = .ok (.bipush 59, 2) := by decide +kernel
theorem dX5_order_261 : decode cX5_order 261 = .ok (.invokevirtual 199, 3) := by decide +kernel
theorem dX5_order_264 : decode cX5_order 264 = .ok (.return_, 1) := by decide +kernel
set_option maxRecDepth 20000 in
theorem ggX5_isDone_X5_loadOne : GoodIn wsX5_isDone wsX5_loadOne := goodIn_r _ [7, 2, 8, 9, 10, 6, 11, 12, 13, 14, 15, 16, 17, 18, 19, 20, 21, 22, 23, 24, 25, 26, 27, 28, 29, 30, 31, 32, 33, 34, 35, 36, 37, 38, 39, 40, 41, 42, 43, 44, 45, 46, 47, 92, 93, 94, 95, 96, 97, 98, 99, 100, 101, 102, 103, 104] (by decide +kernel) (by decide +kernel)
set_option maxRecDepth 20000 in
theorem gX5_isDone_X5_loadOne : GoodIn wsX5_isDone (wsV RX5 91 RX5 yX5_loadOne wsX5_loadOne) := goodIn_app (goodIn_of _ (by decide +kernel)) ggX5_isDone_X5_loadOne
set_option maxRecDepth 20000 in
theorem ggX5_isDone_X5_emptyAll : GoodIn wsX5_isDone wsX5_emptyAll := goodIn_r _ [51, 2, 36, 37, 38, 6, 39, 12, 13, 14, 15, 32, 33, 34, 35, 16, 17, 18, 19, 20, 21, 22, 23, 24, 25, 26, 27, 28, 29, 30, 31, 40, 41, 42, 43, 44, 45, 46, 47, 92, 93, 94, 95, 96, 97, 98, 99, 100, 101, 102, 103, 104] (by decide +kernel) (by decide +kernel)
set_option maxRecDepth 20000 in
theorem gX5_isDone_X5_emptyAll : GoodIn wsX5_isDone (wsV RX5 107 RX5 yX5_emptyAll wsX5_emptyAll) := goodIn_app (goodIn_of _ (by decide +kernel)) ggX5_isDone_X5_emptyAll
set_option maxRecDepth 20000 in
theorem ggX5_isDone_X5_mergeLight : GoodIn wsX5_isDone wsX5_mergeLight := goodIn_r _ [55, 56, 57, 58, 6, 59, 2, 60, 61, 62, 63, 64, 65, 66, 67, 28, 29, 30, 31, 12, 13, 14, 15, 68, 69, 70, 71, 44, 45, 46, 47, 72, 73, 74, 75, 76, 77, 78, 79, 92, 93, 94, 95, 96, 97, 98, 99, 100, 101, 102, 103, 104] (by decide +kernel) (by decide +kernel)
set_option maxRecDepth 20000 in
theorem gX5_isDone_X5_mergeLight : GoodIn wsX5_isDone (wsV RX5 128 RX5 yX5_mergeLight wsX5_mergeLight) := goodIn_app (goodIn_of _ (by decide +kernel)) ggX5_isDone_X5_mergeLight
set_option maxRecDepth 20000 in
theorem ggX5_isDone_X5_stormBy : GoodIn wsX5_isDone wsX5_stormBy := goodIn_r _ [83, 2, 60, 61, 62, 6, 63, 84, 85, 86, 87, 28, 29, 30, 31, 12, 13, 14, 15, 40, 41, 42, 43, 24, 25, 26, 27, 32, 33, 34, 35, 44, 45, 46, 47, 92, 93, 94, 95, 96, 97, 98, 99, 100, 101, 102, 103, 104] (by decide +kernel) (by decide +kernel)
set_option maxRecDepth 20000 in
theorem gX5_isDone_X5_stormBy : GoodIn wsX5_isDone (wsV RX5 134 RX5 yX5_stormBy wsX5_stormBy) := goodIn_app (goodIn_of _ (by decide +kernel)) ggX5_isDone_X5_stormBy
set_option maxRecDepth 20000 in
theorem ggX5_isDone_X5_whyNoMerge : GoodIn wsX5_isDone wsX5_whyNoMerge := goodIn_r _ [91, 72, 73, 74, 6, 75, 2, 60, 61, 62, 63, 92, 93, 94, 95, 96, 97, 98, 99, 100, 101, 102, 103, 104] (by decide +kernel) (by decide +kernel)
set_option maxRecDepth 20000 in
theorem gX5_isDone_X5_whyNoMerge : GoodIn wsX5_isDone (wsV RX5 119 RX5 yX5_whyNoMerge wsX5_whyNoMerge) := goodIn_app (goodIn_of _ (by decide +kernel)) ggX5_isDone_X5_whyNoMerge
set_option maxRecDepth 20000 in
theorem ggX5_isDone_X5_mergeBoth : GoodIn wsX5_isDone wsX5_mergeBoth := goodIn_r _ [71, 2, 28, 29, 30, 6, 31, 12, 13, 14, 15, 44, 45, 46, 47, 72, 73, 74, 75, 60, 61, 62, 63, 76, 77, 78, 79, 64, 65, 66, 67, 92, 93, 94, 95, 96, 97, 98, 99, 100, 101, 102, 103, 104] (by decide +kernel) (by decide +kernel)
set_option maxRecDepth 20000 in
theorem gX5_isDone_X5_mergeBoth : GoodIn wsX5_isDone (wsV RX5 122 RX5 yX5_mergeBoth wsX5_mergeBoth) := goodIn_app (goodIn_of _ (by decide +kernel)) ggX5_isDone_X5_mergeBoth
theorem dX5_isDone_0 : decode cX5_isDone 0 = .ok (.aload_n 0, 1) := by decide +kernel
theorem dX5_isDone_1 : decode cX5_isDone 1 = .ok (.getfield 33, 3) := by decide +kernel
theorem dX5_isDone_4 : decode cX5_isDone 4 = .ok (.iconst 3, 1) := by decide +kernel
theorem dX5_isDone_5 : decode cX5_isDone 5 = .ok (.iload_n 1, 1) := by decide +kernel
theorem dX5_isDone_6 : decode cX5_isDone 6 = .ok (.imul, 1) := by decide +kernel
theorem dX5_isDone_7 : decode cX5_isDone 7 = .ok (.iconst 1, 1) := by decide +kernel
theorem dX5_isDone_8 : decode cX5_isDone 8 = .ok (.iadd, 1) := by decide +kernel
theorem dX5_isDone_9 : decode cX5_isDone 9 = .ok (.iaload, 1) := by decide +kernel
theorem dX5_isDone_10 : decode cX5_isDone 10 = .ok (.istore_n 2, 1) := by decide +kernel
theorem dX5_isDone_11 : decode cX5_isDone 11 = .ok (.aload_n 0, 1) := by decide +kernel
theorem dX5_isDone_12 : decode cX5_isDone 12 = .ok (.getfield 33, 3) := by decide +kernel
theorem dX5_isDone_15 : decode cX5_isDone 15 = .ok (.iconst 3, 1) := by decide +kernel
theorem dX5_isDone_16 : decode cX5_isDone 16 = .ok (.iload_n 1, 1) := by decide +kernel
theorem dX5_isDone_17 : decode cX5_isDone 17 = .ok (.imul, 1) := by decide +kernel
theorem dX5_isDone_18 : decode cX5_isDone 18 = .ok (.iconst 2, 1) := by decide +kernel
theorem dX5_isDone_19 : decode cX5_isDone 19 = .ok (.iadd, 1) := by decide +kernel
theorem dX5_isDone_20 : decode cX5_isDone 20 = .ok (.iaload, 1) := by decide +kernel
theorem dX5_isDone_21 : decode cX5_isDone 21 = .ok (.istore_n 3, 1) := by decide +kernel
theorem dX5_isDone_22 : decode cX5_isDone 22 = .ok (.aload_n 0, 1) := by decide +kernel
theorem dX5_isDone_23 : decode cX5_isDone 23 = .ok (.getfield 33, 3) := by decide +kernel
theorem dX5_isDone_26 : decode cX5_isDone 26 = .ok (.iconst 3, 1) := by decide +kernel
theorem dX5_isDone_27 : decode cX5_isDone 27 = .ok (.iload_n 1, 1) := by decide +kernel
theorem dX5_isDone_28 : decode cX5_isDone 28 = .ok (.imul, 1) := by decide +kernel
theorem dX5_isDone_29 : decode cX5_isDone 29 = .ok (.iaload, 1) := by decide +kernel
theorem dX5_isDone_30 : decode cX5_isDone 30 = .ok (.lookupswitch 108 #[(101, 64), (108, 70), (112, 42), (115, 94)], 42) := by decide +kernel
theorem dX5_isDone_72 : decode cX5_isDone 72 = .ok (.aload_n 0, 1) := by decide +kernel
theorem dX5_isDone_73 : decode cX5_isDone 73 = .ok (.getfield 13, 3) := by decide +kernel
theorem dX5_isDone_76 : decode cX5_isDone 76 = .ok (.iconst 1, 1) := by decide +kernel
theorem dX5_isDone_77 : decode cX5_isDone 77 = .ok (.iaload, 1) := by decide +kernel
theorem dX5_isDone_78 : decode cX5_isDone 78 = .ok (.bipush 120, 2) := by decide +kernel
theorem dX5_isDone_80 : decode cX5_isDone 80 = .ok (.if_icmp .ne 5, 3) := by decide +kernel
theorem dX5_isDone_83 : decode cX5_isDone 83 = .ok (.iconst 0, 1) := by decide +kernel
theorem dX5_isDone_84 : decode cX5_isDone 84 = .ok (.ireturn, 1) := by decide +kernel
theorem dX5_isDone_85 : decode cX5_isDone 85 = .ok (.aload_n 0, 1) := by decide +kernel
theorem dX5_isDone_86 : decode cX5_isDone 86 = .ok (.iload_n 2, 1) := by decide +kernel
theorem dX5_isDone_87 : decode cX5_isDone 87 = .ok (.iload_n 3, 1) := by decide +kernel
theorem dX5_isDone_88 : decode cX5_isDone 88 = .ok (.invokevirtual 91, 3) := by decide +kernel
theorem dX5_isDone_91 : decode cX5_isDone 91 = .ok (.pop, 1) := by decide +kernel
theorem dX5_isDone_92 : decode cX5_isDone 92 = .ok (.iconst 1, 1) := by decide +kernel
theorem dX5_isDone_93 : decode cX5_isDone 93 = .ok (.ireturn, 1) := by decide +kernel
theorem dX5_isDone_94 : decode cX5_isDone 94 = .ok (.aload_n 0, 1) := by decide +kernel
theorem dX5_isDone_95 : decode cX5_isDone 95 = .ok (.invokevirtual 107, 3) := by decide +kernel
theorem dX5_isDone_98 : decode cX5_isDone 98 = .ok (.iconst 1, 1) := by decide +kernel
theorem dX5_isDone_99 : decode cX5_isDone 99 = .ok (.ireturn, 1) := by decide +kernel
theorem dX5_isDone_100 : decode cX5_isDone 100 = .ok (.aload_n 0, 1) := by decide +kernel
theorem dX5_isDone_101 : decode cX5_isDone 101 = .ok (.getfield 13, 3) := by decide +kernel
theorem dX5_isDone_104 : decode cX5_isDone 104 = .ok (.bipush 8, 2) := by decide +kernel
theorem dX5_isDone_106 : decode cX5_isDone 106 = .ok (.iaload, 1) := by decide +kernel
theorem dX5_isDone_107 : decode cX5_isDone 107 = .ok (.iconst 1, 1) := by decide +kernel
theorem dX5_isDone_108 : decode cX5_isDone 108 = .ok (.if_icmp .le 14, 3) := by decide +kernel
theorem dX5_isDone_111 : decode cX5_isDone 111 = .ok (.aload_n 0, 1) := by decide +kernel
theorem dX5_isDone_112 : decode cX5_isDone 112 = .ok (.invokevirtual 128, 3) := by decide +kernel
theorem dX5_isDone_115 : decode cX5_isDone 115 = .ok (.ifCond .lt 7, 3) := by decide +kernel
theorem dX5_isDone_118 : decode cX5_isDone 118 = .ok (.iconst 1, 1) := by decide +kernel
theorem dX5_isDone_119 : decode cX5_isDone 119 = .ok (.goto 4, 3) := by decide +kernel
theorem dX5_isDone_122 : decode cX5_isDone 122 = .ok (.iconst 0, 1) := by decide +kernel
theorem dX5_isDone_123 : decode cX5_isDone 123 = .ok (.ireturn, 1) := by decide +kernel
theorem dX5_isDone_124 : decode cX5_isDone 124 = .ok (.aload_n 0, 1) := by decide +kernel
theorem dX5_isDone_125 : decode cX5_isDone 125 = .ok (.iload_n 2, 1) := by decide +kernel
theorem dX5_isDone_126 : decode cX5_isDone 126 = .ok (.invokevirtual 134, 3) := by decide +kernel
theorem dX5_isDone_129 : decode cX5_isDone 129 = .ok (.ifCond .lt 7, 3) := by decide +kernel
theorem dX5_isDone_132 : decode cX5_isDone 132 = .ok (.iconst 1, 1) := by decide +kernel
theorem dX5_isDone_133 : decode cX5_isDone 133 = .ok (.goto 4, 3) := by decide +kernel
theorem dX5_isDone_136 : decode cX5_isDone 136 = .ok (.iconst 0, 1) := by decide +kernel
theorem dX5_isDone_137 : decode cX5_isDone 137 = .ok (.ireturn, 1) := by decide +kernel
theorem dX5_isDone_138 : decode cX5_isDone 138 = .ok (.aload_n 0, 1) := by decide +kernel
theorem dX5_isDone_139 : decode cX5_isDone 139 = .ok (.iload_n 2, 1) := by decide +kernel
theorem dX5_isDone_140 : decode cX5_isDone 140 = .ok (.iload_n 3, 1) := by decide +kernel
theorem dX5_isDone_141 : decode cX5_isDone 141 = .ok (.invokevirtual 119, 3) := by decide +kernel
theorem dX5_isDone_144 : decode cX5_isDone 144 = .ok (.ifCond .ne 16, 3) := by decide +kernel
theorem dX5_isDone_147 : decode cX5_isDone 147 = .ok (.aload_n 0, 1) := by decide +kernel
theorem dX5_isDone_148 : decode cX5_isDone 148 = .ok (.iload_n 2, 1) := by decide +kernel
theorem dX5_isDone_149 : decode cX5_isDone 149 = .ok (.iload_n 3, 1) := by decide +kernel
theorem dX5_isDone_150 : decode cX5_isDone 150 = .ok (.invokevirtual 122, 3) := by decide +kernel
theorem dX5_isDone_153 : decode cX5_isDone 153 = .ok (.ifCond .lt 7, 3) := by decide +kernel
theorem dX5_isDone_156 : decode cX5_isDone 156 = .ok (.iconst 1, 1) := by decide +kernel
theorem dX5_isDone_157 : decode cX5_isDone 157 = .ok (.goto 4, 3) := by decide +kernel
theorem dX5_isDone_160 : decode cX5_isDone 160 = .ok (.iconst 0, 1) := by decide +kernel
theorem dX5_isDone_161 : decode cX5_isDone 161 = .ok (.ireturn, 1) := by decide +kernel
set_option maxRecDepth 20000 in
theorem ggX5_carryOut_X5_order : GoodIn wsX5_carryOut wsX5_order := goodIn_r _ [9, 10, 2, 11, 12, 13, 8, 14, 4, 15, 16, 17, 18, 19, 3, 20, 21, 22, 23, 24, 25, 26, 27, 28, 29, 30, 130, 131, 132, 133, 134, 135, 136, 137, 138, 139, 140, 141, 142] (by decide +kernel) (by decide +kernel)
set_option maxRecDepth 20000 in
theorem gX5_carryOut_X5_order : GoodIn wsX5_carryOut (wsV RX5 202 RX5 yX5_order wsX5_order) := goodIn_app (goodIn_of _ (by decide +kernel)) ggX5_carryOut_X5_order
set_option maxRecDepth 20000 in
theorem ggX5_carryOut_X5_save : GoodIn wsX5_carryOut wsX5_save := goodIn_r _ [34, 35, 36, 37, 130, 131, 132, 133, 134, 135, 136, 137, 138, 139, 140, 141, 142] (by decide +kernel) (by decide +kernel)
set_option maxRecDepth 20000 in
theorem gX5_carryOut_X5_save : GoodIn wsX5_carryOut (wsV RX5 88 RX5 yX5_save wsX5_save) := goodIn_app (goodIn_of _ (by decide +kernel)) ggX5_carryOut_X5_save
set_option maxRecDepth 20000 in
theorem ggX5_carryOut_X5_isDone : GoodIn wsX5_carryOut wsX5_isDone := goodIn_r _ [41, 10, 37, 42, 43, 44, 8, 45, 46, 47, 48, 49, 50, 51, 52, 53, 54, 55, 56, 57, 58, 59, 60, 61, 62, 63, 64, 65, 66, 67, 68, 69, 70, 71, 72, 73, 74, 75, 76, 77, 78, 79, 80, 81, 82, 83, 84, 85, 86, 87, 88, 89, 90, 91, 92, 93, 94, 95, 96, 97, 98, 99, 100, 101, 102, 103, 104, 105, 106, 107, 108, 109, 110, 111, 112, 113, 114, 115, 116, 117, 118, 119, 120, 121, 122, 123, 124, 125, 126, 127, 128, 129, 130, 131, 132, 133, 134, 135, 136, 137, 138, 139, 140, 141, 142] (by decide +kernel) (by decide +kernel)
set_option maxRecDepth 20000 in
theorem gX5_carryOut_X5_isDone : GoodIn wsX5_carryOut (wsV RX5 205 RX5 yX5_isDone wsX5_isDone) := goodIn_app (goodIn_of _ (by decide +kernel)) ggX5_carryOut_X5_isDone
theorem dX5_carryOut_0 : decode cX5_carryOut 0 = .ok (.aload_n 0, 1) := by decide +kernel
theorem dX5_carryOut_1 : decode cX5_carryOut 1 = .ok (.iconst 0, 1) := by decide +kernel
theorem dX5_carryOut_2 : decode cX5_carryOut 2 = .ok (.putfield 1, 3) := by decide +kernel
theorem dX5_carryOut_5 : decode cX5_carryOut 5 = .ok (.aload_n 0, 1) := by decide +kernel
theorem dX5_carryOut_6 : decode cX5_carryOut 6 = .ok (.iconst 0, 1) := by decide +kernel
theorem dX5_carryOut_7 : decode cX5_carryOut 7 = .ok (.putfield 183, 3) := by decide +kernel
theorem dX5_carryOut_10 : decode cX5_carryOut 10 = .ok (.aload_n 0, 1) := by decide +kernel
theorem dX5_carryOut_11 : decode cX5_carryOut 11 = .ok (.iconst (-1), 1) := by decide +kernel
theorem dX5_carryOut_12 : decode cX5_carryOut 12 = .ok (.putfield 186, 3) := by decide +kernel
theorem dX5_carryOut_15 : decode cX5_carryOut 15 = .ok (.iconst 0, 1) := by decide +kernel
theorem dX5_carryOut_16 : decode cX5_carryOut 16 = .ok (.istore_n 1, 1) := by decide +kernel
theorem dX5_carryOut_17 : decode cX5_carryOut 17 = .ok (.aload_n 0, 1) := by decide +kernel
theorem dX5_carryOut_18 : decode cX5_carryOut 18 = .ok (.getfield 183, 3) := by decide +kernel
theorem dX5_carryOut_21 : decode cX5_carryOut 21 = .ok (.aload_n 0, 1) := by decide +kernel
theorem dX5_carryOut_22 : decode cX5_carryOut 22 = .ok (.getfield 180, 3) := by decide +kernel
theorem dX5_carryOut_25 : decode cX5_carryOut 25 = .ok (.if_icmp .ge 22, 3) := by decide +kernel
theorem dX5_carryOut_28 : decode cX5_carryOut 28 = .ok (.aload_n 0, 1) := by decide +kernel
theorem dX5_carryOut_29 : decode cX5_carryOut 29 = .ok (.getfield 186, 3) := by decide +kernel
theorem dX5_carryOut_32 : decode cX5_carryOut 32 = .ok (.iconst (-1), 1) := by decide +kernel
theorem dX5_carryOut_33 : decode cX5_carryOut 33 = .ok (.if_icmp .ne 14, 3) := by decide +kernel
theorem dX5_carryOut_36 : decode cX5_carryOut 36 = .ok (.aload_n 0, 1) := by decide +kernel
theorem dX5_carryOut_37 : decode cX5_carryOut 37 = .ok (.iload_n 1, 1) := by decide +kernel
theorem dX5_carryOut_38 : decode cX5_carryOut 38 = .ok (.invokevirtual 202, 3) := by decide +kernel
theorem dX5_carryOut_41 : decode cX5_carryOut 41 = .ok (.iinc 1 1, 3) := by decide +kernel
theorem dX5_carryOut_44 : decode cX5_carryOut 44 = .ok (.goto (-27), 3) := by decide +kernel
theorem dX5_carryOut_47 : decode cX5_carryOut 47 = .ok (.aload_n 0, 1) := by decide +kernel
theorem dX5_carryOut_48 : decode cX5_carryOut 48 = .ok (.getfield 186, 3) := by decide +kernel
theorem dX5_carryOut_51 : decode cX5_carryOut 51 = .ok (.iconst (-1), 1) := by decide +kernel
theorem dX5_carryOut_52 : decode cX5_carryOut 52 = .ok (.if_icmp .eq 29, 3) := by decide +kernel
theorem dX5_carryOut_55 : decode cX5_carryOut 55 = .ok (.bipush (-10), 2) := by decide +kernel
theorem dX5_carryOut_57 : decode cX5_carryOut 57 = .ok (.aload_n 0, 1) := by decide +kernel
theorem dX5_carryOut_58 : decode cX5_carryOut 58 = .ok (.getfield 186, 3) := by decide +kernel
theorem dX5_carryOut_61 : decode cX5_carryOut 61 = .ok (.aload_n 0, 1) := by decide +kernel
theorem dX5_carryOut_62 : decode cX5_carryOut 62 = .ok (.getfield 180, 3) := by decide +kernel
theorem dX5_carryOut_65 : decode cX5_carryOut 65 = .ok (.if_icmp .ge 10, 3) := by decide +kernel
theorem dX5_carryOut_68 : decode cX5_carryOut 68 = .ok (.aload_n 0, 1) := by decide +kernel
theorem dX5_carryOut_69 : decode cX5_carryOut 69 = .ok (.getfield 186, 3) := by decide +kernel
theorem dX5_carryOut_72 : decode cX5_carryOut 72 = .ok (.goto 7, 3) := by decide +kernel
theorem dX5_carryOut_75 : decode cX5_carryOut 75 = .ok (.aload_n 0, 1) := by decide +kernel
theorem dX5_carryOut_76 : decode cX5_carryOut 76 = .ok (.getfield 180, 3) := by decide +kernel
theorem dX5_carryOut_79 : decode cX5_carryOut 79 = .ok (.isub, 1) := by decide +kernel
theorem dX5_carryOut_80 : decode cX5_carryOut 80 = .ok (.ireturn, 1) := by decide +kernel
theorem dX5_carryOut_81 : decode cX5_carryOut 81 = .ok (.aload_n 0, 1) := by decide +kernel
theorem dX5_carryOut_82 : decode cX5_carryOut 82 = .ok (.invokevirtual 88, 3) := by decide +kernel
theorem dX5_carryOut_85 : decode cX5_carryOut 85 = .ok (.iconst 0, 1) := by decide +kernel
theorem dX5_carryOut_86 : decode cX5_carryOut 86 = .ok (.istore_n 2, 1) := by decide +kernel
theorem dX5_carryOut_87 : decode cX5_carryOut 87 = .ok (.iload_n 2, 1) := by decide +kernel
theorem dX5_carryOut_88 : decode cX5_carryOut 88 = .ok (.iload_n 1, 1) := by decide +kernel
theorem dX5_carryOut_89 : decode cX5_carryOut 89 = .ok (.if_icmp .ge 17, 3) := by decide +kernel
theorem dX5_carryOut_92 : decode cX5_carryOut 92 = .ok (.aload_n 0, 1) := by decide +kernel
theorem dX5_carryOut_93 : decode cX5_carryOut 93 = .ok (.iload_n 2, 1) := by decide +kernel
theorem dX5_carryOut_94 : decode cX5_carryOut 94 = .ok (.invokevirtual 205, 3) := by decide +kernel
theorem dX5_carryOut_97 : decode cX5_carryOut 97 = .ok (.ifCond .eq 9, 3) := by decide +kernel
theorem dX5_carryOut_100 : decode cX5_carryOut 100 = .ok (.iinc 2 1, 3) := by decide +kernel
theorem dX5_carryOut_103 : decode cX5_carryOut 103 = .ok (.goto (-16), 3) := by decide +kernel
theorem dX5_carryOut_106 : decode cX5_carryOut 106 = .ok (.iload_n 2, 1) := by decide +kernel
theorem dX5_carryOut_107 : decode cX5_carryOut 107 = .ok (.ireturn, 1) := by decide +kernel
theorem dX5_undo_0 : decode cX5_undo 0 = .ok (.aload_n 0, 1) := by decide +kernel
theorem dX5_undo_1 : decode cX5_undo 1 = .ok (.aload_n 0, 1) := by decide +kernel
theorem dX5_undo_2 : decode cX5_undo 2 = .ok (.getfield 58, 3) := by decide +kernel
theorem dX5_undo_5 : decode cX5_undo 5 = .ok (.ifCond .ne 7, 3) := by decide +kernel
theorem dX5_undo_8 : decode cX5_undo 8 = .ok (.iconst 1, 1) := by decide +kernel
theorem dX5_undo_9 : decode cX5_undo 9 = .ok (.goto 4, 3) := by decide +kernel
theorem dX5_undo_12 : decode cX5_undo 12 = .ok (.iconst 0, 1) := by decide +kernel
theorem dX5_undo_13 : decode cX5_undo 13 = .ok (.putfield 1, 3) := by decide +kernel
theorem dX5_undo_16 : decode cX5_undo 16 = .ok (.aload_n 0, 1) := by decide +kernel
theorem dX5_undo_17 : decode cX5_undo 17 = .ok (.getfield 1, 3) := by decide +kernel
theorem dX5_undo_20 : decode cX5_undo 20 = .ok (.ifCond .le 5, 3) := by decide +kernel
theorem dX5_undo_23 : decode cX5_undo 23 = .ok (.iconst 0, 1) := by decide +kernel
theorem dX5_undo_24 : decode cX5_undo 24 = .ok (.ireturn, 1) := by decide +kernel
theorem dX5_undo_25 : decode cX5_undo 25 = .ok (.aload_n 0, 1) := by decide +kernel
theorem dX5_undo_26 : decode cX5_undo 26 = .ok (.dup, 1) := by decide +kernel
theorem dX5_undo_27 : decode cX5_undo 27 = .ok (.getfield 58, 3) := by decide +kernel
theorem dX5_undo_30 : decode cX5_undo 30 = .ok (.iconst 1, 1) := by decide +kernel
theorem dX5_undo_31 : decode cX5_undo 31 = .ok (.isub, 1) := by decide +kernel
theorem dX5_undo_32 : decode cX5_undo 32 = .ok (.putfield 58, 3) := by decide +kernel
theorem dX5_undo_35 : decode cX5_undo 35 = .ok (.iconst 0, 1) := by decide +kernel
theorem dX5_undo_36 : decode cX5_undo 36 = .ok (.istore_n 1, 1) := by decide +kernel
theorem dX5_undo_37 : decode cX5_undo 37 = .ok (.iload_n 1, 1) := by decide +kernel
theorem dX5_undo_38 : decode cX5_undo 38 = .ok (.sipush 730, 3) := by decide +kernel
theorem dX5_undo_41 : decode cX5_undo 41 = .ok (.if_icmp .ge 30, 3) := by decide +kernel
theorem dX5_undo_44 : decode cX5_undo 44 = .ok (.aload_n 0, 1) := by decide +kernel
theorem dX5_undo_45 : decode cX5_undo 45 = .ok (.getfield 13, 3) := by decide +kernel
theorem dX5_undo_48 : decode cX5_undo 48 = .ok (.iload_n 1, 1) := by decide +kernel
theorem dX5_undo_49 : decode cX5_undo 49 = .ok (.aload_n 0, 1) := by decide +kernel
theorem dX5_undo_50 : decode cX5_undo 50 = .ok (.getfield 20, 3) := by decide +kernel
theorem dX5_undo_53 : decode cX5_undo 53 = .ok (.sipush 730, 3) := by decide +kernel
theorem dX5_undo_56 : decode cX5_undo 56 = .ok (.aload_n 0, 1) := by decide +kernel
theorem dX5_undo_57 : decode cX5_undo 57 = .ok (.getfield 58, 3) := by decide +kernel
theorem dX5_undo_60 : decode cX5_undo 60 = .ok (.imul, 1) := by decide +kernel
theorem dX5_undo_61 : decode cX5_undo 61 = .ok (.iload_n 1, 1) := by decide +kernel
theorem dX5_undo_62 : decode cX5_undo 62 = .ok (.iadd, 1) := by decide +kernel
theorem dX5_undo_63 : decode cX5_undo 63 = .ok (.iaload, 1) := by decide +kernel
theorem dX5_undo_64 : decode cX5_undo 64 = .ok (.iastore, 1) := by decide +kernel
theorem dX5_undo_65 : decode cX5_undo 65 = .ok (.iinc 1 1, 3) := by decide +kernel
theorem dX5_undo_68 : decode cX5_undo 68 = .ok (.goto (-31), 3) := by decide +kernel
theorem dX5_undo_71 : decode cX5_undo 71 = .ok (.aload_n 0, 1) := by decide +kernel
theorem dX5_undo_72 : decode cX5_undo 72 = .ok (.getfield 58, 3) := by decide +kernel
theorem dX5_undo_75 : decode cX5_undo 75 = .ok (.ireturn, 1) := by decide +kernel
set_option maxRecDepth 20000 in
theorem ggX5_digest_X5_valueBy : GoodIn wsX5_digest wsX5_valueBy := goodIn_r _ [11, 5, 12, 13, 14, 10, 15, 16, 17, 18, 19, 89, 90, 91, 92, 93, 94, 95, 96, 97, 98, 99, 100, 101] (by decide +kernel) (by decide +kernel)
set_option maxRecDepth 20000 in
theorem gX5_digest_X5_valueBy : GoodIn wsX5_digest (wsV RX5 156 RX5 yX5_valueBy wsX5_valueBy) := goodIn_app (goodIn_of _ (by decide +kernel)) ggX5_digest_X5_valueBy
set_option maxRecDepth 20000 in
theorem ggX5_digest_X5_parcelBy : GoodIn wsX5_digest wsX5_parcelBy := goodIn_r _ [23, 16, 17, 18, 10, 19, 5, 24, 25, 26, 27, 28, 29, 30, 31, 32, 33, 34, 35, 89, 90, 91, 92, 93, 94, 95, 96, 97, 98, 99, 100, 101] (by decide +kernel) (by decide +kernel)
set_option maxRecDepth 20000 in
theorem gX5_digest_X5_parcelBy : GoodIn wsX5_digest (wsV RX5 150 RX5 yX5_parcelBy wsX5_parcelBy) := goodIn_app (goodIn_of _ (by decide +kernel)) ggX5_digest_X5_parcelBy
set_option maxRecDepth 20000 in
theorem ggX5_digest_X5_numberAt : GoodIn wsX5_digest wsX5_numberAt := goodIn_r _ [39, 5, 89, 90, 91, 92, 93, 94, 95, 96, 97, 98, 99, 100, 101] (by decide +kernel) (by decide +kernel)
set_option maxRecDepth 20000 in
theorem gX5_digest_X5_numberAt : GoodIn wsX5_digest (wsV RX5 40 RX5 yX5_numberAt wsX5_numberAt) := goodIn_app (goodIn_of _ (by decide +kernel)) ggX5_digest_X5_numberAt
set_option maxRecDepth 20000 in
theorem ggX5_digest_X5_runBy : GoodIn wsX5_digest wsX5_runBy := goodIn_r _ [43, 5, 44, 45, 46, 10, 47, 48, 49, 50, 51, 16, 17, 18, 19, 52, 53, 54, 55, 56, 57, 58, 59, 36, 37, 38, 39, 60, 61, 62, 63, 32, 33, 34, 35, 64, 65, 66, 67, 89, 90, 91, 92, 93, 94, 95, 96, 97, 98, 99, 100, 101] (by decide +kernel) (by decide +kernel)
set_option maxRecDepth 20000 in
theorem gX5_digest_X5_runBy : GoodIn wsX5_digest (wsV RX5 153 RX5 yX5_runBy wsX5_runBy) := goodIn_app (goodIn_of _ (by decide +kernel)) ggX5_digest_X5_runBy
set_option maxRecDepth 20000 in
theorem ggX5_digest_X5_thrownNext : GoodIn wsX5_digest wsX5_thrownNext := goodIn_r _ [71, 72, 73, 74, 10, 75, 5, 64, 65, 66, 67, 48, 49, 50, 51, 16, 17, 18, 19, 32, 33, 34, 35, 76, 77, 78, 79, 89, 90, 91, 92, 93, 94, 95, 96, 97, 98, 99, 100, 101] (by decide +kernel) (by decide +kernel)
set_option maxRecDepth 20000 in
theorem gX5_digest_X5_thrownNext : GoodIn wsX5_digest (wsV RX5 159 RX5 yX5_thrownNext wsX5_thrownNext) := goodIn_app (goodIn_of _ (by decide +kernel)) ggX5_digest_X5_thrownNext
set_option maxRecDepth 20000 in
theorem ggX5_digest_X5_costOfAll : GoodIn wsX5_digest wsX5_costOfAll := goodIn_r _ [83, 5, 84, 36, 37, 38, 10, 39, 52, 53, 54, 55, 48, 49, 50, 51, 16, 17, 18, 19, 85, 86, 87, 88, 89, 90, 91, 92, 93, 94, 95, 96, 97, 98, 99, 100, 101] (by decide +kernel) (by decide +kernel)
set_option maxRecDepth 20000 in
theorem gX5_digest_X5_costOfAll : GoodIn wsX5_digest (wsV RX5 165 RX5 yX5_costOfAll wsX5_costOfAll) := goodIn_app (goodIn_of _ (by decide +kernel)) ggX5_digest_X5_costOfAll
theorem dX5_digest_0 : decode cX5_digest 0 = .ok (.aload_n 0, 1) := by decide +kernel
theorem dX5_digest_1 : decode cX5_digest 1 = .ok (.iconst 0, 1) := by decide +kernel
theorem dX5_digest_2 : decode cX5_digest 2 = .ok (.putfield 1, 3) := by decide +kernel
theorem dX5_digest_5 : decode cX5_digest 5 = .ok (.ldc2_w 208, 3) := by decide +kernel
theorem dX5_digest_8 : decode cX5_digest 8 = .ok (.aload_n 0, 1) := by decide +kernel
theorem dX5_digest_9 : decode cX5_digest 9 = .ok (.getfield 180, 3) := by decide +kernel
theorem dX5_digest_12 : decode cX5_digest 12 = .ok (.i2l, 1) := by decide +kernel
theorem dX5_digest_13 : decode cX5_digest 13 = .ok (.ladd, 1) := by decide +kernel
theorem dX5_digest_14 : decode cX5_digest 14 = .ok (.lstore_n 1, 1) := by decide +kernel
theorem dX5_digest_15 : decode cX5_digest 15 = .ok (.iconst 0, 1) := by decide +kernel
theorem dX5_digest_16 : decode cX5_digest 16 = .ok (.istore_n 3, 1) := by decide +kernel
theorem dX5_digest_17 : decode cX5_digest 17 = .ok (.iload_n 3, 1) := by decide +kernel
theorem dX5_digest_18 : decode cX5_digest 18 = .ok (.bipush 12, 2) := by decide +kernel
theorem dX5_digest_20 : decode cX5_digest 20 = .ok (.if_icmp .ge 22, 3) := by decide +kernel
theorem dX5_digest_23 : decode cX5_digest 23 = .ok (.ldc2_w 210, 3) := by decide +kernel
theorem dX5_digest_26 : decode cX5_digest 26 = .ok (.lload_n 1, 1) := by decide +kernel
theorem dX5_digest_27 : decode cX5_digest 27 = .ok (.lmul, 1) := by decide +kernel
theorem dX5_digest_28 : decode cX5_digest 28 = .ok (.aload_n 0, 1) := by decide +kernel
theorem dX5_digest_29 : decode cX5_digest 29 = .ok (.iload_n 3, 1) := by decide +kernel
theorem dX5_digest_30 : decode cX5_digest 30 = .ok (.invokevirtual 156, 3) := by decide +kernel
theorem dX5_digest_33 : decode cX5_digest 33 = .ok (.i2l, 1) := by decide +kernel
theorem dX5_digest_34 : decode cX5_digest 34 = .ok (.ladd, 1) := by decide +kernel
theorem dX5_digest_35 : decode cX5_digest 35 = .ok (.lstore_n 1, 1) := by decide +kernel
theorem dX5_digest_36 : decode cX5_digest 36 = .ok (.iinc 3 1, 3) := by decide +kernel
theorem dX5_digest_39 : decode cX5_digest 39 = .ok (.goto (-22), 3) := by decide +kernel
theorem dX5_digest_42 : decode cX5_digest 42 = .ok (.iconst 0, 1) := by decide +kernel
theorem dX5_digest_43 : decode cX5_digest 43 = .ok (.istore_n 3, 1) := by decide +kernel
theorem dX5_digest_44 : decode cX5_digest 44 = .ok (.iload_n 3, 1) := by decide +kernel
theorem dX5_digest_45 : decode cX5_digest 45 = .ok (.aload_n 0, 1) := by decide +kernel
theorem dX5_digest_46 : decode cX5_digest 46 = .ok (.getfield 13, 3) := by decide +kernel
theorem dX5_digest_49 : decode cX5_digest 49 = .ok (.iconst 1, 1) := by decide +kernel
theorem dX5_digest_50 : decode cX5_digest 50 = .ok (.iaload, 1) := by decide +kernel
theorem dX5_digest_51 : decode cX5_digest 51 = .ok (.if_icmp .ge 39, 3) := by decide +kernel
theorem dX5_digest_54 : decode cX5_digest 54 = .ok (.iconst 0, 1) := by decide +kernel
theorem dX5_digest_55 : decode cX5_digest 55 = .ok (.istore 4, 2) := by decide +kernel
theorem dX5_digest_57 : decode cX5_digest 57 = .ok (.iload 4, 2) := by decide +kernel
theorem dX5_digest_59 : decode cX5_digest 59 = .ok (.iconst 5, 1) := by decide +kernel
theorem dX5_digest_60 : decode cX5_digest 60 = .ok (.if_icmp .ge 24, 3) := by decide +kernel
theorem dX5_digest_63 : decode cX5_digest 63 = .ok (.ldc2_w 210, 3) := by decide +kernel
theorem dX5_digest_66 : decode cX5_digest 66 = .ok (.lload_n 1, 1) := by decide +kernel
theorem dX5_digest_67 : decode cX5_digest 67 = .ok (.lmul, 1) := by decide +kernel
theorem dX5_digest_68 : decode cX5_digest 68 = .ok (.aload_n 0, 1) := by decide +kernel
theorem dX5_digest_69 : decode cX5_digest 69 = .ok (.iload_n 3, 1) := by decide +kernel
theorem dX5_digest_70 : decode cX5_digest 70 = .ok (.iload 4, 2) := by decide +kernel
theorem dX5_digest_72 : decode cX5_digest 72 = .ok (.invokevirtual 150, 3) := by decide +kernel
theorem dX5_digest_75 : decode cX5_digest 75 = .ok (.i2l, 1) := by decide +kernel
theorem dX5_digest_76 : decode cX5_digest 76 = .ok (.ladd, 1) := by decide +kernel
theorem dX5_digest_77 : decode cX5_digest 77 = .ok (.lstore_n 1, 1) := by decide +kernel
theorem dX5_digest_78 : decode cX5_digest 78 = .ok (.iinc 4 1, 3) := by decide +kernel
theorem dX5_digest_81 : decode cX5_digest 81 = .ok (.goto (-24), 3) := by decide +kernel
theorem dX5_digest_84 : decode cX5_digest 84 = .ok (.iinc 3 1, 3) := by decide +kernel
theorem dX5_digest_87 : decode cX5_digest 87 = .ok (.goto (-43), 3) := by decide +kernel
theorem dX5_digest_90 : decode cX5_digest 90 = .ok (.iconst 0, 1) := by decide +kernel
theorem dX5_digest_91 : decode cX5_digest 91 = .ok (.istore_n 3, 1) := by decide +kernel
theorem dX5_digest_92 : decode cX5_digest 92 = .ok (.iload_n 3, 1) := by decide +kernel
theorem dX5_digest_93 : decode cX5_digest 93 = .ok (.aload_n 0, 1) := by decide +kernel
theorem dX5_digest_94 : decode cX5_digest 94 = .ok (.getfield 13, 3) := by decide +kernel
theorem dX5_digest_97 : decode cX5_digest 97 = .ok (.bipush 8, 2) := by decide +kernel
theorem dX5_digest_99 : decode cX5_digest 99 = .ok (.iaload, 1) := by decide +kernel
theorem dX5_digest_100 : decode cX5_digest 100 = .ok (.if_icmp .ge 57, 3) := by decide +kernel
theorem dX5_digest_103 : decode cX5_digest 103 = .ok (.ldc2_w 210, 3) := by decide +kernel
theorem dX5_digest_106 : decode cX5_digest 106 = .ok (.lload_n 1, 1) := by decide +kernel
theorem dX5_digest_107 : decode cX5_digest 107 = .ok (.lmul, 1) := by decide +kernel
theorem dX5_digest_108 : decode cX5_digest 108 = .ok (.aload_n 0, 1) := by decide +kernel
theorem dX5_digest_109 : decode cX5_digest 109 = .ok (.iload_n 3, 1) := by decide +kernel
theorem dX5_digest_110 : decode cX5_digest 110 = .ok (.invokevirtual 40, 3) := by decide +kernel
theorem dX5_digest_113 : decode cX5_digest 113 = .ok (.i2l, 1) := by decide +kernel
theorem dX5_digest_114 : decode cX5_digest 114 = .ok (.ladd, 1) := by decide +kernel
theorem dX5_digest_115 : decode cX5_digest 115 = .ok (.lstore_n 1, 1) := by decide +kernel
theorem dX5_digest_116 : decode cX5_digest 116 = .ok (.iconst 0, 1) := by decide +kernel
theorem dX5_digest_117 : decode cX5_digest 117 = .ok (.istore 4, 2) := by decide +kernel
theorem dX5_digest_119 : decode cX5_digest 119 = .ok (.iload 4, 2) := by decide +kernel
theorem dX5_digest_121 : decode cX5_digest 121 = .ok (.bipush 6, 2) := by decide +kernel
theorem dX5_digest_123 : decode cX5_digest 123 = .ok (.if_icmp .ge 28, 3) := by decide +kernel
theorem dX5_digest_126 : decode cX5_digest 126 = .ok (.ldc2_w 210, 3) := by decide +kernel
theorem dX5_digest_129 : decode cX5_digest 129 = .ok (.lload_n 1, 1) := by decide +kernel
theorem dX5_digest_130 : decode cX5_digest 130 = .ok (.lmul, 1) := by decide +kernel
theorem dX5_digest_131 : decode cX5_digest 131 = .ok (.aload_n 0, 1) := by decide +kernel
theorem dX5_digest_132 : decode cX5_digest 132 = .ok (.aload_n 0, 1) := by decide +kernel
theorem dX5_digest_133 : decode cX5_digest 133 = .ok (.iload_n 3, 1) := by decide +kernel
theorem dX5_digest_134 : decode cX5_digest 134 = .ok (.invokevirtual 40, 3) := by decide +kernel
theorem dX5_digest_137 : decode cX5_digest 137 = .ok (.iload 4, 2) := by decide +kernel
theorem dX5_digest_139 : decode cX5_digest 139 = .ok (.invokevirtual 153, 3) := by decide +kernel
theorem dX5_digest_142 : decode cX5_digest 142 = .ok (.i2l, 1) := by decide +kernel
theorem dX5_digest_143 : decode cX5_digest 143 = .ok (.ladd, 1) := by decide +kernel
theorem dX5_digest_144 : decode cX5_digest 144 = .ok (.lstore_n 1, 1) := by decide +kernel
theorem dX5_digest_145 : decode cX5_digest 145 = .ok (.iinc 4 1, 3) := by decide +kernel
theorem dX5_digest_148 : decode cX5_digest 148 = .ok (.goto (-29), 3) := by decide +kernel
theorem dX5_digest_151 : decode cX5_digest 151 = .ok (.iinc 3 1, 3) := by decide +kernel
theorem dX5_digest_154 : decode cX5_digest 154 = .ok (.goto (-62), 3) := by decide +kernel
theorem dX5_digest_157 : decode cX5_digest 157 = .ok (.ldc2_w 210, 3) := by decide +kernel
theorem dX5_digest_160 : decode cX5_digest 160 = .ok (.lload_n 1, 1) := by decide +kernel
theorem dX5_digest_161 : decode cX5_digest 161 = .ok (.lmul, 1) := by decide +kernel
theorem dX5_digest_162 : decode cX5_digest 162 = .ok (.aload_n 0, 1) := by decide +kernel
theorem dX5_digest_163 : decode cX5_digest 163 = .ok (.invokevirtual 159, 3) := by decide +kernel
theorem dX5_digest_166 : decode cX5_digest 166 = .ok (.i2l, 1) := by decide +kernel
theorem dX5_digest_167 : decode cX5_digest 167 = .ok (.ladd, 1) := by decide +kernel
theorem dX5_digest_168 : decode cX5_digest 168 = .ok (.lstore_n 1, 1) := by decide +kernel
theorem dX5_digest_169 : decode cX5_digest 169 = .ok (.ldc2_w 210, 3) := by decide +kernel
theorem dX5_digest_172 : decode cX5_digest 172 = .ok (.lload_n 1, 1) := by decide +kernel
theorem dX5_digest_173 : decode cX5_digest 173 = .ok (.lmul, 1) := by decide +kernel
theorem dX5_digest_174 : decode cX5_digest 174 = .ok (.aload_n 0, 1) := by decide +kernel
theorem dX5_digest_175 : decode cX5_digest 175 = .ok (.invokevirtual 165, 3) := by decide +kernel
theorem dX5_digest_178 : decode cX5_digest 178 = .ok (.i2l, 1) := by decide +kernel
theorem dX5_digest_179 : decode cX5_digest 179 = .ok (.ladd, 1) := by decide +kernel
theorem dX5_digest_180 : decode cX5_digest 180 = .ok (.lstore_n 1, 1) := by decide +kernel
theorem dX5_digest_181 : decode cX5_digest 181 = .ok (.ldc2_w 210, 3) := by decide +kernel
theorem dX5_digest_184 : decode cX5_digest 184 = .ok (.lload_n 1, 1) := by decide +kernel
theorem dX5_digest_185 : decode cX5_digest 185 = .ok (.lmul, 1) := by decide +kernel
theorem dX5_digest_186 : decode cX5_digest 186 = .ok (.aload_n 0, 1) := by decide +kernel
theorem dX5_digest_187 : decode cX5_digest 187 = .ok (.getfield 58, 3) := by decide +kernel
theorem dX5_digest_190 : decode cX5_digest 190 = .ok (.i2l, 1) := by decide +kernel
theorem dX5_digest_191 : decode cX5_digest 191 = .ok (.ladd, 1) := by decide +kernel
theorem dX5_digest_192 : decode cX5_digest 192 = .ok (.lreturn, 1) := by decide +kernel
