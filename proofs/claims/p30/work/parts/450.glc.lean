set_option maxRecDepth 20000 in
theorem ggL_areParcels_L_where : GoodIn wsL_areParcels wsL_where := goodIn_r _ [54] (by decide +kernel) (by decide +kernel)
set_option maxRecDepth 20000 in
theorem gL_areParcels_L_where : GoodIn wsL_areParcels (va_wsS RL 22 yL_where wsL_where) := goodIn_app (goodIn_of _ (by decide +kernel)) ggL_areParcels_L_where
set_option maxRecDepth 20000 in
theorem ggL_areParcels_L_run : GoodIn wsL_areParcels wsL_run := goodIn_r _ [57] (by decide +kernel) (by decide +kernel)
set_option maxRecDepth 20000 in
theorem gL_areParcels_L_run : GoodIn wsL_areParcels (va_wsS RL 25 yL_run wsL_run) := goodIn_app (goodIn_of _ (by decide +kernel)) ggL_areParcels_L_run
set_option maxRecDepth 20000 in
theorem ggL_areParcels_L_ranked : GoodIn wsL_areParcels wsL_ranked := goodIn_r _ [60, 52, 53, 4, 54, 55, 56, 57, 61, 62, 63, 46, 47, 48] (by decide +kernel) (by decide +kernel)
set_option maxRecDepth 20000 in
theorem gL_areParcels_L_ranked : GoodIn wsL_areParcels (va_wsS RL 36 yL_ranked wsL_ranked) := goodIn_app (goodIn_of _ (by decide +kernel)) ggL_areParcels_L_ranked
set_option maxRecDepth 20000 in
theorem ggL_areRuns_L_runs : GoodIn wsL_areRuns wsL_runs := goodIn_r _ [5] (by decide +kernel) (by decide +kernel)
set_option maxRecDepth 20000 in
theorem gL_areRuns_L_runs : GoodIn wsL_areRuns (va_wsS RL 105 yL_runs wsL_runs) := goodIn_app (goodIn_of _ (by decide +kernel)) ggL_areRuns_L_runs
set_option maxRecDepth 20000 in
theorem ggL_areRuns_L_runBy : GoodIn wsL_areRuns wsL_runBy := goodIn_r _ [8] (by decide +kernel) (by decide +kernel)
set_option maxRecDepth 20000 in
theorem gL_areRuns_L_runBy : GoodIn wsL_areRuns (va_wsS RL 108 yL_runBy wsL_runBy) := goodIn_app (goodIn_of _ (by decide +kernel)) ggL_areRuns_L_runBy
set_option maxRecDepth 20000 in
theorem ggL_areRuns_L_many : GoodIn wsL_areRuns wsL_many := goodIn_r _ [11, 12, 13, 4, 14, 15, 16, 17] (by decide +kernel) (by decide +kernel)
set_option maxRecDepth 20000 in
theorem gL_areRuns_L_many : GoodIn wsL_areRuns (va_wsS RL 32 yL_many wsL_many) := goodIn_app (goodIn_of _ (by decide +kernel)) ggL_areRuns_L_many
set_option maxRecDepth 20000 in
theorem ggL_areRuns_L_runAt : GoodIn wsL_areRuns wsL_runAt := goodIn_ca (goodIn_r _ [20, 21, 22, 23, 24, 25, 26, 27, 28, 29, 30, 31, 32, 33, 34, 35, 36, 37, 38, 39, 40, 41, 42, 43, 44, 45, 46, 47, 48, 49, 50, 117, 118, 119, 120, 121, 122, 123, 124, 125, 126, 127, 128, 129, 130, 131, 132, 133, 134, 135, 136] (by decide +kernel) (by decide +kernel)) (goodIn_sub (fun _ h => List.mem_cons_of_mem _ (List.mem_append_left _ (List.mem_append_left _ (List.mem_append_right _ h)))) (by decide +kernel))
set_option maxRecDepth 20000 in
theorem gL_areRuns_L_runAt : GoodIn wsL_areRuns (va_wsS RL 111 yL_runAt wsL_runAt) := goodIn_app (goodIn_of _ (by decide +kernel)) ggL_areRuns_L_runAt
set_option maxRecDepth 20000 in
theorem ggL_areRuns_X4_run : GoodIn wsL_areRuns wsX4_run := goodIn_ca (goodIn_ca (goodIn_r _ [54, 55, 56, 57, 58, 29, 59, 60, 61, 33, 62, 35, 63, 64, 65, 39, 66, 41, 50, 67, 68, 69, 70, 71, 72, 73, 74, 75, 76, 77, 78, 79, 36, 37, 38, 40, 46, 47, 48, 49, 80, 81, 82, 83, 84, 85, 86, 87, 88, 117, 118, 119, 120, 121, 122, 123, 124, 125, 126, 127, 128, 129, 130, 131, 132, 133, 134, 135, 136] (by decide +kernel) (by decide +kernel)) (goodIn_sub (fun _ h => List.mem_cons_of_mem _ (List.mem_append_left _ (List.mem_append_right _ h))) (by decide +kernel))) (goodIn_sub (fun _ h => List.mem_cons_of_mem _ (List.mem_append_right _ h)) (by decide +kernel))
set_option maxRecDepth 20000 in
theorem gL_areRuns_X4_run : GoodIn wsL_areRuns (wsV RL 114 RX4 yX4_run wsX4_run) := goodIn_app (goodIn_of _ (by decide +kernel)) ggL_areRuns_X4_run
set_option maxRecDepth 20000 in
theorem ggL_areRuns_L_weighs : GoodIn wsL_areRuns wsL_weighs := goodIn_r _ [91, 12, 13, 4, 14, 15, 16, 17, 92, 93, 94] (by decide +kernel) (by decide +kernel)
set_option maxRecDepth 20000 in
theorem gL_areRuns_L_weighs : GoodIn wsL_areRuns (va_wsS RL 56 yL_weighs wsL_weighs) := goodIn_app (goodIn_of _ (by decide +kernel)) ggL_areRuns_L_weighs
set_option maxRecDepth 20000 in
theorem ggL_areRuns_L_ranked : GoodIn wsL_areRuns wsL_ranked := goodIn_r _ [97, 12, 13, 4, 14, 15, 16, 17, 98, 99, 100, 101, 102, 103] (by decide +kernel) (by decide +kernel)
set_option maxRecDepth 20000 in
theorem gL_areRuns_L_ranked : GoodIn wsL_areRuns (va_wsS RL 36 yL_ranked wsL_ranked) := goodIn_app (goodIn_of _ (by decide +kernel)) ggL_areRuns_L_ranked
set_option maxRecDepth 20000 in
theorem ggL_areRuns_L_key : GoodIn wsL_areRuns wsL_key := goodIn_r _ [103] (by decide +kernel) (by decide +kernel)
set_option maxRecDepth 20000 in
theorem gL_areRuns_L_key : GoodIn wsL_areRuns (va_wsS RL 9 yL_key wsL_key) := goodIn_app (goodIn_of _ (by decide +kernel)) ggL_areRuns_L_key
set_option maxRecDepth 20000 in
theorem ggL_areRuns_L_lastOf : GoodIn wsL_areRuns wsL_lastOf := goodIn_r _ [106, 9, 10, 4, 11, 12, 13, 14, 15, 16, 17, 95, 96, 97, 98, 99, 100, 101, 102, 103] (by decide +kernel) (by decide +kernel)
set_option maxRecDepth 20000 in
theorem gL_areRuns_L_lastOf : GoodIn wsL_areRuns (va_wsS RL 40 yL_lastOf wsL_lastOf) := goodIn_app (goodIn_of _ (by decide +kernel)) ggL_areRuns_L_lastOf
set_option maxRecDepth 20000 in
theorem ggL_areRuns_L_inRun : GoodIn wsL_areRuns wsL_inRun := goodIn_ca (goodIn_ca (goodIn_r _ [109, 110, 21, 111, 112, 113, 25, 114, 55, 56, 27, 28, 29, 59, 60, 61, 33, 62, 35, 63, 64, 65, 39, 66, 41, 50, 115, 76, 77, 78, 79, 36, 37, 38, 40, 46, 47, 48, 49, 116, 81, 82, 83, 84, 117, 118, 119, 120, 121, 122, 123, 124, 125, 126, 127, 128, 129, 130, 131, 132, 133, 134, 135, 136] (by decide +kernel) (by decide +kernel)) (goodIn_sub (fun _ h => List.mem_cons_of_mem _ (List.mem_append_left _ (List.mem_append_right _ h))) (by decide +kernel))) (goodIn_sub (fun _ h => List.mem_cons_of_mem _ (List.mem_append_left _ (List.mem_append_left _ (List.mem_append_right _ h)))) (by decide +kernel))
set_option maxRecDepth 20000 in
theorem gL_areRuns_L_inRun : GoodIn wsL_areRuns (va_wsS RL 116 yL_inRun wsL_inRun) := goodIn_app (goodIn_of _ (by decide +kernel)) ggL_areRuns_L_inRun
set_option maxRecDepth 20000 in
theorem ggL_areValues_L_many : GoodIn wsL_areValues wsL_many := goodIn_r _ [5, 6, 7, 4, 8, 9, 10, 11] (by decide +kernel) (by decide +kernel)
set_option maxRecDepth 20000 in
theorem gL_areValues_L_many : GoodIn wsL_areValues (va_wsS RL 32 yL_many wsL_many) := goodIn_app (goodIn_of _ (by decide +kernel)) ggL_areValues_L_many
set_option maxRecDepth 20000 in
theorem ggL_areValues_L_ashore : GoodIn wsL_areValues wsL_ashore := goodIn_ca (goodIn_r _ [14, 15, 16, 17, 18, 19, 20, 21, 22, 23, 24, 25, 26, 27, 28, 29, 30, 31, 32, 33, 34, 35, 36, 37, 38, 39, 40, 41, 42, 43, 44, 45, 100, 101, 102, 103, 104, 105, 106, 107, 108, 109, 110, 111, 112, 113, 114, 115, 116, 117, 118, 119] (by decide +kernel) (by decide +kernel)) (goodIn_sub (fun _ h => List.mem_cons_of_mem _ (List.mem_append_left _ (List.mem_append_right _ h))) (by decide +kernel))
set_option maxRecDepth 20000 in
theorem gL_areValues_L_ashore : GoodIn wsL_areValues (va_wsS RL 118 yL_ashore wsL_ashore) := goodIn_app (goodIn_of _ (by decide +kernel)) ggL_areValues_L_ashore
set_option maxRecDepth 20000 in
theorem ggL_areValues_L_ranked : GoodIn wsL_areValues wsL_ranked := goodIn_r _ [48, 6, 7, 4, 8, 9, 10, 11, 49, 50, 51, 52, 53, 54] (by decide +kernel) (by decide +kernel)
set_option maxRecDepth 20000 in
theorem gL_areValues_L_ranked : GoodIn wsL_areValues (va_wsS RL 36 yL_ranked wsL_ranked) := goodIn_app (goodIn_of _ (by decide +kernel)) ggL_areValues_L_ranked
set_option maxRecDepth 20000 in
theorem ggL_areValues_X4_value : GoodIn wsL_areValues wsX4_value := goodIn_ca (goodIn_r _ [58, 59, 60, 23, 61, 62, 63, 27, 64, 65, 66, 67, 68, 69, 70, 71, 72, 73, 74, 25, 26, 28, 29, 30, 31, 32, 33, 34, 35, 36, 37, 38, 39, 40, 100, 101, 102, 103, 104, 105, 106, 107, 108, 109, 110, 111, 112, 113, 114, 115, 116, 117, 118, 119] (by decide +kernel) (by decide +kernel)) (goodIn_sub (fun _ h => List.mem_cons_of_mem _ (List.mem_append_right _ h)) (by decide +kernel))
set_option maxRecDepth 20000 in
theorem gL_areValues_X4_value : GoodIn wsL_areValues (wsV RL 120 RX4 yX4_value wsX4_value) := goodIn_app (goodIn_of _ (by decide +kernel)) ggL_areValues_X4_value
set_option maxRecDepth 20000 in
theorem ggL_areValues_L_runs : GoodIn wsL_areValues wsL_runs := goodIn_r _ [77] (by decide +kernel) (by decide +kernel)
set_option maxRecDepth 20000 in
theorem gL_areValues_L_runs : GoodIn wsL_areValues (va_wsS RL 105 yL_runs wsL_runs) := goodIn_app (goodIn_of _ (by decide +kernel)) ggL_areValues_L_runs
set_option maxRecDepth 20000 in
theorem ggL_areValues_X4_nextThrown : GoodIn wsL_areValues wsX4_nextThrown := goodIn_r _ [81, 23, 82, 83, 84, 27, 85, 72, 45, 29, 86, 87, 88, 89, 30, 31, 32, 33, 34, 35, 36, 37, 38, 39, 40, 90, 91, 92, 93, 66, 100, 101, 102, 103, 104, 105, 106, 107, 108, 109, 110, 111, 112, 113, 114, 115, 116, 117, 118, 119] (by decide +kernel) (by decide +kernel)
set_option maxRecDepth 20000 in
theorem gL_areValues_X4_nextThrown : GoodIn wsL_areValues (wsV RL 123 RX4 yX4_nextThrown wsX4_nextThrown) := goodIn_app (goodIn_of _ (by decide +kernel)) ggL_areValues_X4_nextThrown
set_option maxRecDepth 20000 in
theorem ggL_areValues_L_next : GoodIn wsL_areValues wsL_next := goodIn_r _ [96, 2, 3, 4, 5, 6, 7, 8, 9, 10, 11, 97, 98, 99, 46, 47, 48, 49, 50, 51, 52, 53, 54] (by decide +kernel) (by decide +kernel)
set_option maxRecDepth 20000 in
theorem gL_areValues_L_next : GoodIn wsL_areValues (va_wsS RL 44 yL_next wsL_next) := goodIn_app (goodIn_of _ (by decide +kernel)) ggL_areValues_L_next
set_option maxRecDepth 20000 in
theorem ggL_isLoaded_L_low : GoodIn wsL_isLoaded wsL_low := goodIn_r _ [5, 6] (by decide +kernel) (by decide +kernel)
set_option maxRecDepth 20000 in
theorem gL_isLoaded_L_low : GoodIn wsL_isLoaded (va_wsS RL 126 yL_low wsL_low) := goodIn_app (goodIn_of _ (by decide +kernel)) ggL_isLoaded_L_low
set_option maxRecDepth 20000 in
theorem ggL_isLoaded_L_load : GoodIn wsL_isLoaded wsL_load := goodIn_ca (goodIn_ca (goodIn_r _ [9, 10, 11, 12, 13, 14, 15, 16, 17, 18, 19, 20, 21, 22, 23, 24, 25, 26, 27, 28, 29, 30, 31, 32, 33, 34, 35, 36, 37, 38, 39, 40, 41, 42, 43, 44, 45, 46, 47, 48, 49, 50, 51, 52, 53, 54, 55, 56, 57, 58, 59, 60, 61, 62, 63, 64, 65, 66, 67, 68, 69, 70, 71, 72, 73, 74, 75, 76, 77, 78, 79, 80, 81, 82, 83, 84, 85, 86, 87, 88, 89, 90, 91, 92, 93, 94, 95, 96, 97, 98, 99, 100, 101, 102, 103, 104, 105, 106, 107, 108, 109, 110, 111, 112, 113, 114, 115, 116, 117, 118, 119, 120, 121, 122, 123, 124, 125, 126, 127, 128, 129, 130, 131, 132, 133, 134, 135, 136, 176, 177, 178, 179, 180, 181, 182, 183, 184, 185, 186, 187, 188, 189, 190, 191, 192, 193, 194, 195, 196, 197, 198] (by decide +kernel) (by decide +kernel)) (goodIn_sub (fun _ h => List.mem_cons_of_mem _ (List.mem_append_left _ (List.mem_append_right _ h))) (by decide +kernel))) (goodIn_sub (fun _ h => List.mem_cons_of_mem _ (List.mem_append_right _ h)) (by decide +kernel))
set_option maxRecDepth 20000 in
theorem gL_isLoaded_L_load : GoodIn wsL_isLoaded (va_wsS RL 129 yL_load wsL_load) := goodIn_app (goodIn_of _ (by decide +kernel)) ggL_isLoaded_L_load
set_option maxRecDepth 20000 in
theorem ggL_isLoaded_L_loads : GoodIn wsL_isLoaded wsL_loads := goodIn_r _ [139, 140, 141, 4, 142, 143, 144, 145, 146, 147, 148, 149, 150, 151, 152, 153, 154, 155, 156, 157, 158, 159, 160, 161, 162, 163, 164, 165, 166, 167, 168, 169, 170, 171, 172, 173, 174, 175] (by decide +kernel) (by decide +kernel)
set_option maxRecDepth 20000 in
theorem gL_isLoaded_L_loads : GoodIn wsL_isLoaded (va_wsS RL 131 yL_loads wsL_loads) := goodIn_app (goodIn_of _ (by decide +kernel)) ggL_isLoaded_L_loads
set_option maxRecDepth 20000 in
theorem ggL_isStormy_L_runs : GoodIn wsL_isStormy wsL_runs := goodIn_r _ [5] (by decide +kernel) (by decide +kernel)
set_option maxRecDepth 20000 in
theorem gL_isStormy_L_runs : GoodIn wsL_isStormy (va_wsS RL 105 yL_runs wsL_runs) := goodIn_app (goodIn_of _ (by decide +kernel)) ggL_isStormy_L_runs
