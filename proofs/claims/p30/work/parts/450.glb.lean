set_option maxRecDepth 20000 in
theorem ggL_loads_L_pack : GoodIn wsL_loads wsL_pack := goodIn_r _ [37] (by decide +kernel) (by decide +kernel)
set_option maxRecDepth 20000 in
theorem gL_loads_L_pack : GoodIn wsL_loads (va_wsS RL 18 yL_pack wsL_pack) := goodIn_app (goodIn_of _ (by decide +kernel)) ggL_loads_L_pack
set_option maxRecDepth 20000 in
theorem ggL_empties_L_many : GoodIn wsL_empties wsL_many := goodIn_r _ [4, 5, 6, 3, 7, 8, 9, 10] (by decide +kernel) (by decide +kernel)
set_option maxRecDepth 20000 in
theorem gL_empties_L_many : GoodIn wsL_empties (va_wsS RL 32 yL_many wsL_many) := goodIn_app (goodIn_of _ (by decide +kernel)) ggL_empties_L_many
set_option maxRecDepth 20000 in
theorem ggL_empties_L_throwsOne : GoodIn wsL_empties wsL_throwsOne := goodIn_r _ [13, 14, 15, 3, 16, 1, 2, 4, 5, 6, 7, 8, 9, 10, 17, 18, 19, 20, 21, 22, 23, 24, 25, 26, 27, 28, 29, 30, 31, 32, 33, 34, 35, 36, 37] (by decide +kernel) (by decide +kernel)
set_option maxRecDepth 20000 in
theorem gL_empties_L_throwsOne : GoodIn wsL_empties (va_wsS RL 52 yL_throwsOne wsL_throwsOne) := goodIn_app (goodIn_of _ (by decide +kernel)) ggL_empties_L_throwsOne
set_option maxRecDepth 20000 in
theorem ggL_merges_L_weighs : GoodIn wsL_merges wsL_weighs := goodIn_r _ [4, 5, 6, 3, 7, 8, 9, 10, 11, 12, 13] (by decide +kernel) (by decide +kernel)
set_option maxRecDepth 20000 in
theorem gL_merges_L_weighs : GoodIn wsL_merges (va_wsS RL 56 yL_weighs wsL_weighs) := goodIn_app (goodIn_of _ (by decide +kernel)) ggL_merges_L_weighs
set_option maxRecDepth 20000 in
theorem ggL_merges_L_where : GoodIn wsL_merges wsL_where := goodIn_r _ [7] (by decide +kernel) (by decide +kernel)
set_option maxRecDepth 20000 in
theorem gL_merges_L_where : GoodIn wsL_merges (va_wsS RL 22 yL_where wsL_where) := goodIn_app (goodIn_of _ (by decide +kernel)) ggL_merges_L_where
set_option maxRecDepth 20000 in
theorem ggL_merges_L_run : GoodIn wsL_merges wsL_run := goodIn_r _ [10] (by decide +kernel) (by decide +kernel)
set_option maxRecDepth 20000 in
theorem gL_merges_L_run : GoodIn wsL_merges (va_wsS RL 25 yL_run wsL_run) := goodIn_app (goodIn_of _ (by decide +kernel)) ggL_merges_L_run
set_option maxRecDepth 20000 in
theorem ggL_merges_L_goes : GoodIn wsL_merges wsL_goes := goodIn_r _ [16, 17, 18, 3, 19, 11, 12, 13, 20, 21, 22] (by decide +kernel) (by decide +kernel)
set_option maxRecDepth 20000 in
theorem gL_merges_L_goes : GoodIn wsL_merges (va_wsS RL 48 yL_goes wsL_goes) := goodIn_app (goodIn_of _ (by decide +kernel)) ggL_merges_L_goes
set_option maxRecDepth 20000 in
theorem ggL_lightest_L_weighs : GoodIn wsL_lightest wsL_weighs := goodIn_r _ [4, 5, 6, 3, 7, 8, 9, 10, 11, 12, 13] (by decide +kernel) (by decide +kernel)
set_option maxRecDepth 20000 in
theorem gL_lightest_L_weighs : GoodIn wsL_lightest (va_wsS RL 56 yL_weighs wsL_weighs) := goodIn_app (goodIn_of _ (by decide +kernel)) ggL_lightest_L_weighs
set_option maxRecDepth 20000 in
theorem ggL_storms_L_many : GoodIn wsL_storms wsL_many := goodIn_r _ [4, 5, 6, 3, 7, 8, 9, 10] (by decide +kernel) (by decide +kernel)
set_option maxRecDepth 20000 in
theorem gL_storms_L_many : GoodIn wsL_storms (va_wsS RL 32 yL_many wsL_many) := goodIn_app (goodIn_of _ (by decide +kernel)) ggL_storms_L_many
set_option maxRecDepth 20000 in
theorem ggL_storms_L_ranked : GoodIn wsL_storms wsL_ranked := goodIn_r _ [13, 5, 6, 3, 7, 8, 9, 10, 14, 15, 16, 17, 18, 19] (by decide +kernel) (by decide +kernel)
set_option maxRecDepth 20000 in
theorem gL_storms_L_ranked : GoodIn wsL_storms (va_wsS RL 36 yL_ranked wsL_ranked) := goodIn_app (goodIn_of _ (by decide +kernel)) ggL_storms_L_ranked
set_option maxRecDepth 20000 in
theorem ggL_storms_L_goes : GoodIn wsL_storms wsL_goes := goodIn_r _ [22, 17, 18, 3, 19, 23, 24, 25, 26, 27, 28] (by decide +kernel) (by decide +kernel)
set_option maxRecDepth 20000 in
theorem gL_storms_L_goes : GoodIn wsL_storms (va_wsS RL 48 yL_goes wsL_goes) := goodIn_app (goodIn_of _ (by decide +kernel)) ggL_storms_L_goes
set_option maxRecDepth 20000 in
theorem ggL_load_X4_load : GoodIn wsL_load wsX4_load := goodIn_ca (goodIn_ca (goodIn_r _ [7, 8, 9, 10, 11, 12, 13, 14, 15, 16, 17, 18, 19, 20, 21, 22, 23, 24, 25, 26, 27, 28, 29, 30, 31, 32, 33, 34, 35, 36, 37, 38, 39, 40, 41, 42, 43, 44, 45, 46, 47, 48, 49, 50, 51, 52, 53, 54, 55, 56, 57, 58, 59, 60, 61, 62, 63, 64, 65, 66, 67, 68, 69, 70, 71, 72, 73, 74, 75, 76, 77, 78, 79, 80, 81, 82, 83, 84, 85, 86, 87, 88, 89, 90, 91, 92, 93, 94, 95, 96, 97, 98, 99, 100, 101, 102, 103, 104, 105, 106, 107, 108, 109, 110, 111, 112, 113, 114, 115, 116, 117, 118, 119, 120, 121, 122, 123, 124, 125, 126, 127, 128, 129, 130, 131, 132, 133, 134, 135, 136, 137, 138, 139, 140, 141, 142, 143, 144, 145, 146, 147, 148, 149, 150] (by decide +kernel) (by decide +kernel)) (goodIn_sub (fun _ h => List.mem_cons_of_mem _ (List.mem_append_left _ (List.mem_append_right _ h))) (by decide +kernel))) (goodIn_sub (fun _ h => List.mem_cons_of_mem _ (List.mem_append_right _ h)) (by decide +kernel))
set_option maxRecDepth 20000 in
theorem gL_load_X4_load : GoodIn wsL_load (wsV RL 59 RX4 yX4_load wsX4_load) := goodIn_app (goodIn_of _ (by decide +kernel)) ggL_load_X4_load
set_option maxRecDepth 20000 in
theorem ggL_merge_X4_merge : GoodIn wsL_merge wsX4_merge := goodIn_ca (goodIn_ca (goodIn_r _ [7, 8, 9, 10, 11, 12, 13, 14, 15, 16, 17, 18, 19, 20, 21, 22, 23, 24, 25, 26, 27, 28, 29, 30, 31, 32, 33, 34, 35, 36, 37, 38, 39, 40, 41, 42, 43, 44, 45, 46, 47, 48, 49, 50, 51, 52, 53, 54, 55, 56, 57, 58, 59, 60, 61, 62, 63, 64, 65, 66, 67, 68, 69, 70, 71, 72, 73, 74, 75, 76, 77, 78, 79, 80, 81, 82, 83, 84, 85, 86, 87, 88, 89, 90, 91, 92, 93, 94, 95, 96, 97, 98, 99, 100, 101, 102, 103, 104, 105, 106, 107, 108, 109, 110, 111, 112, 113, 114, 115, 116, 117, 118, 119, 120, 121, 122, 123, 124, 125] (by decide +kernel) (by decide +kernel)) (goodIn_sub (fun _ h => List.mem_cons_of_mem _ (List.mem_append_left _ (List.mem_append_right _ h))) (by decide +kernel))) (goodIn_sub (fun _ h => List.mem_cons_of_mem _ (List.mem_append_right _ h)) (by decide +kernel))
set_option maxRecDepth 20000 in
theorem gL_merge_X4_merge : GoodIn wsL_merge (wsV RL 69 RX4 yX4_merge wsX4_merge) := goodIn_app (goodIn_of _ (by decide +kernel)) ggL_merge_X4_merge
set_option maxRecDepth 20000 in
theorem ggL_mergeLightest_X4_mergeLightest : GoodIn wsL_mergeLightest wsX4_mergeLightest := goodIn_ca (goodIn_r _ [6, 7, 8, 9, 10, 11, 12, 13, 14, 15, 16, 17, 18, 19, 20, 21, 22, 23, 24, 25, 26, 27, 28, 29, 30, 31, 32, 33, 34, 35, 36, 37, 38, 39, 40, 41, 42, 43, 44, 45, 46, 47, 48, 49, 50, 51, 52, 53, 54, 55, 56, 57, 58, 59, 60, 61, 62, 63, 64, 65, 66, 67, 68, 69, 70, 71, 72, 73, 74, 75, 76, 77, 78, 79, 80, 81, 82, 83, 84, 85, 86, 87, 88, 89, 90, 91, 92, 93, 94, 95, 96, 97, 98, 99, 100, 101, 102, 103, 104, 105, 106, 107, 108, 109, 110, 111, 112, 113, 114, 115, 116, 117, 118, 119, 120, 121, 122, 123, 124, 125, 126, 127, 128, 129, 130] (by decide +kernel) (by decide +kernel)) (goodIn_sub (fun _ h => List.mem_cons_of_mem _ (List.mem_append_right _ h)) (by decide +kernel))
set_option maxRecDepth 20000 in
theorem gL_mergeLightest_X4_mergeLightest : GoodIn wsL_mergeLightest (wsV RL 74 RX4 yX4_mergeLightest wsX4_mergeLightest) := goodIn_app (goodIn_of _ (by decide +kernel)) ggL_mergeLightest_X4_mergeLightest
set_option maxRecDepth 20000 in
theorem ggL_storm_X4_storm : GoodIn wsL_storm wsX4_storm := goodIn_ca (goodIn_r _ [6, 7, 8, 9, 10, 11, 12, 13, 14, 15, 16, 17, 18, 19, 20, 21, 22, 23, 24, 25, 26, 27, 28, 29, 30, 31, 32, 33, 34, 35, 36, 37, 38, 39, 40, 41, 42, 43, 44, 45, 46, 47, 48, 49, 50, 51, 52, 53, 54, 55, 56, 57, 58, 59, 60, 61, 62, 63, 64, 65, 66, 67, 68, 69, 70, 71, 72, 73, 74, 75, 76, 77, 78, 79, 80, 81, 82, 83, 84, 85, 86, 87, 88, 89, 90, 91, 92, 93, 94, 95, 96, 97, 98, 99, 100, 101, 102, 103, 104, 105, 106, 107, 108, 109, 110, 111, 112, 113, 114, 115, 116, 117, 118, 119, 120, 121, 122, 123, 124, 125] (by decide +kernel) (by decide +kernel)) (goodIn_sub (fun _ h => List.mem_cons_of_mem _ (List.mem_append_right _ h)) (by decide +kernel))
set_option maxRecDepth 20000 in
theorem gL_storm_X4_storm : GoodIn wsL_storm (wsV RL 78 RX4 yX4_storm wsX4_storm) := goodIn_app (goodIn_of _ (by decide +kernel)) ggL_storm_X4_storm
set_option maxRecDepth 20000 in
theorem ggL_tighten_X4_tighten : GoodIn wsL_tighten wsX4_tighten := goodIn_ca (goodIn_r _ [6, 7, 8, 9, 10, 11, 12, 13, 14, 15, 16, 17, 18, 19, 20, 21, 22, 23, 24, 25, 26, 27, 28, 29, 30, 31, 32, 33, 34, 35, 36, 37, 38, 39, 40, 41, 42, 43, 44, 45, 46, 47, 48, 49, 50, 51, 52, 53, 54, 55, 56, 57, 58, 59, 60, 61, 62, 63, 64, 65, 66, 67, 68, 69, 70, 71, 72, 73, 74, 75, 76, 77, 78, 79, 80, 81, 82, 83, 84, 85, 86, 87, 88, 89, 90, 91, 92, 93, 94, 95, 96, 97] (by decide +kernel) (by decide +kernel)) (goodIn_sub (fun _ h => List.mem_cons_of_mem _ (List.mem_append_right _ h)) (by decide +kernel))
set_option maxRecDepth 20000 in
theorem gL_tighten_X4_tighten : GoodIn wsL_tighten (wsV RL 82 RX4 yX4_tighten wsX4_tighten) := goodIn_app (goodIn_of _ (by decide +kernel)) ggL_tighten_X4_tighten
set_option maxRecDepth 20000 in
theorem ggL_land_X4_land : GoodIn wsL_land wsX4_land := goodIn_ca (goodIn_ca (goodIn_r _ [7, 8, 9, 10, 11, 12, 13, 14, 15, 16, 17, 18, 19, 20, 21, 22, 23, 24, 25, 26, 27, 28, 29, 30, 31, 32, 33, 34, 35, 36, 37, 38, 39, 40, 41, 42, 43, 44, 45, 46, 47, 48, 49, 50, 51, 52, 53, 54, 55, 56, 57, 58, 59, 60, 61, 62, 63, 64, 65, 66, 67, 68, 69, 70, 71, 72, 73, 74, 75, 76, 77, 78, 79, 80, 81, 82, 83, 84, 85, 86, 87, 88, 89, 90, 91, 92, 93, 94, 95, 96, 97, 98, 99, 100, 101, 102, 103, 104, 105, 106, 107, 108, 109, 110, 111, 112, 113, 114, 115, 116, 117, 118, 119, 120, 121, 122, 123, 124, 125, 126, 127, 128, 129, 130, 131, 132, 133, 134, 135] (by decide +kernel) (by decide +kernel)) (goodIn_sub (fun _ h => List.mem_cons_of_mem _ (List.mem_append_left _ (List.mem_append_right _ h))) (by decide +kernel))) (goodIn_sub (fun _ h => List.mem_cons_of_mem _ (List.mem_append_right _ h)) (by decide +kernel))
set_option maxRecDepth 20000 in
theorem gL_land_X4_land : GoodIn wsL_land (wsV RL 85 RX4 yX4_land wsX4_land) := goodIn_app (goodIn_of _ (by decide +kernel)) ggL_land_X4_land
set_option maxRecDepth 20000 in
theorem ggL_inRun_X4_inRun : GoodIn wsL_inRun wsX4_inRun := goodIn_ca (goodIn_ca (goodIn_r _ [7, 8, 9, 10, 11, 12, 13, 14, 15, 16, 17, 18, 19, 20, 21, 22, 23, 24, 25, 26, 27, 28, 29, 30, 31, 32, 33, 34, 35, 36, 37, 38, 39, 40, 41, 42, 43, 44, 45, 46, 47, 48, 49, 50, 51, 52, 53, 54, 55, 56, 57, 58, 59, 60, 61, 62, 63] (by decide +kernel) (by decide +kernel)) (goodIn_sub (fun _ h => List.mem_cons_of_mem _ (List.mem_append_left _ (List.mem_append_right _ h))) (by decide +kernel))) (goodIn_sub (fun _ h => List.mem_cons_of_mem _ (List.mem_append_right _ h)) (by decide +kernel))
set_option maxRecDepth 20000 in
theorem gL_inRun_X4_inRun : GoodIn wsL_inRun (wsV RL 88 RX4 yX4_inRun wsX4_inRun) := goodIn_app (goodIn_of _ (by decide +kernel)) ggL_inRun_X4_inRun
set_option maxRecDepth 20000 in
theorem ggL_ashore_X4_ashore : GoodIn wsL_ashore wsX4_ashore := goodIn_ca (goodIn_r _ [6, 7, 8, 9, 10, 11, 12, 13, 14, 15, 16, 17, 18, 19, 20, 21, 22, 23, 24, 25, 26, 27, 28, 29, 30, 31, 32, 33, 34, 35, 36, 37, 38, 39, 40, 41, 42, 43, 44, 45, 46, 47, 48, 49, 50, 51] (by decide +kernel) (by decide +kernel)) (goodIn_sub (fun _ h => List.mem_cons_of_mem _ (List.mem_append_right _ h)) (by decide +kernel))
set_option maxRecDepth 20000 in
theorem gL_ashore_X4_ashore : GoodIn wsL_ashore (wsV RL 93 RX4 yX4_ashore wsX4_ashore) := goodIn_app (goodIn_of _ (by decide +kernel)) ggL_ashore_X4_ashore
set_option maxRecDepth 20000 in
theorem ggL_runAt_X4_runAt : GoodIn wsL_runAt wsX4_runAt := goodIn_ca (goodIn_r _ [6, 7, 8, 9, 10, 11, 12, 13, 14, 15, 16, 17, 18, 19, 20, 21, 22, 23, 24, 25, 26, 27, 28, 29, 30, 31, 32, 33, 34, 35, 36, 37, 38, 39, 40, 41, 42, 43, 44, 45, 46, 47, 48, 49, 50] (by decide +kernel) (by decide +kernel)) (goodIn_sub (fun _ h => List.mem_cons_of_mem _ (List.mem_append_right _ h)) (by decide +kernel))
set_option maxRecDepth 20000 in
theorem gL_runAt_X4_runAt : GoodIn wsL_runAt (wsV RL 96 RX4 yX4_runAt wsX4_runAt) := goodIn_app (goodIn_of _ (by decide +kernel)) ggL_runAt_X4_runAt
set_option maxRecDepth 20000 in
theorem ggL_parcel_X4_parcel : GoodIn wsL_parcel wsX4_parcel := goodIn_ca (goodIn_ca (goodIn_r _ [7, 8, 9, 10, 11, 12, 13, 14, 15, 16, 17, 18, 19, 20, 21, 22, 23, 24, 25, 26, 27, 28, 29, 30, 31, 32, 33, 34, 35, 36, 37, 38, 39, 40, 41, 42, 43, 44, 45, 46, 47, 48, 49, 50, 51, 52, 53, 54, 55, 56, 57, 58, 59, 60] (by decide +kernel) (by decide +kernel)) (goodIn_sub (fun _ h => List.mem_cons_of_mem _ (List.mem_append_left _ (List.mem_append_right _ h))) (by decide +kernel))) (goodIn_sub (fun _ h => List.mem_cons_of_mem _ (List.mem_append_right _ h)) (by decide +kernel))
set_option maxRecDepth 20000 in
theorem gL_parcel_X4_parcel : GoodIn wsL_parcel (wsV RL 99 RX4 yX4_parcel wsX4_parcel) := goodIn_app (goodIn_of _ (by decide +kernel)) ggL_parcel_X4_parcel
set_option maxRecDepth 20000 in
theorem ggL_areParcels_L_parcel : GoodIn wsL_areParcels wsL_parcel := goodIn_ca (goodIn_ca (goodIn_r _ [5, 6, 7, 8, 9, 10, 11, 12, 13, 14, 15, 16, 17, 18, 19, 20, 21, 22, 23, 24, 25, 26, 27, 28, 29, 30, 31, 32, 33, 34, 35, 36, 37, 38, 39, 40, 41, 42, 43, 44, 45, 64, 65, 66, 67, 68, 69, 70, 71, 72, 73, 74, 75, 76, 77, 78, 79, 80, 81, 82, 83] (by decide +kernel) (by decide +kernel)) (goodIn_sub (fun _ h => List.mem_cons_of_mem _ (List.mem_append_left _ (List.mem_append_right _ h))) (by decide +kernel))) (goodIn_sub (fun _ h => List.mem_cons_of_mem _ (List.mem_append_right _ h)) (by decide +kernel))
set_option maxRecDepth 20000 in
theorem gL_areParcels_L_parcel : GoodIn wsL_areParcels (va_wsS RL 102 yL_parcel wsL_parcel) := goodIn_app (goodIn_of _ (by decide +kernel)) ggL_areParcels_L_parcel
set_option maxRecDepth 20000 in
theorem ggL_areParcels_L_key : GoodIn wsL_areParcels wsL_key := goodIn_r _ [48] (by decide +kernel) (by decide +kernel)
set_option maxRecDepth 20000 in
theorem gL_areParcels_L_key : GoodIn wsL_areParcels (va_wsS RL 9 yL_key wsL_key) := goodIn_app (goodIn_of _ (by decide +kernel)) ggL_areParcels_L_key
set_option maxRecDepth 20000 in
theorem ggL_areParcels_L_weight : GoodIn wsL_areParcels wsL_weight := goodIn_r _ [51] (by decide +kernel) (by decide +kernel)
set_option maxRecDepth 20000 in
theorem gL_areParcels_L_weight : GoodIn wsL_areParcels (va_wsS RL 15 yL_weight wsL_weight) := goodIn_app (goodIn_of _ (by decide +kernel)) ggL_areParcels_L_weight
