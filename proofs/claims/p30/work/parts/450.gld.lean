set_option maxRecDepth 20000 in
theorem ggL_isStormy_L_storm : GoodIn wsL_isStormy wsL_storm := goodIn_ca (goodIn_r _ [8, 9, 10, 11, 12, 13, 14, 15, 16, 17, 18, 19, 20, 21, 22, 23, 24, 25, 26, 27, 28, 29, 30, 31, 32, 33, 34, 35, 36, 37, 38, 39, 40, 41, 42, 43, 44, 45, 46, 47, 48, 49, 50, 51, 52, 53, 54, 55, 56, 57, 58, 59, 60, 61, 62, 63, 64, 65, 66, 67, 68, 69, 70, 71, 72, 73, 74, 75, 76, 77, 78, 79, 80, 81, 82, 83, 84, 85, 86, 87, 88, 89, 90, 91, 92, 93, 94, 95, 96, 97, 98, 99, 100, 101, 102, 103, 104, 105, 106, 107, 108, 109, 110, 141, 142, 143, 144, 145, 146, 147, 148, 149, 150, 151, 152, 153, 154, 155, 156, 157, 158, 159, 160, 161, 162, 163] (by decide +kernel) (by decide +kernel)) (goodIn_sub (fun _ h => List.mem_cons_of_mem _ (List.mem_append_right _ h)) (by decide +kernel))
set_option maxRecDepth 20000 in
theorem gL_isStormy_L_storm : GoodIn wsL_isStormy (va_wsS RL 135 yL_storm wsL_storm) := goodIn_app (goodIn_of _ (by decide +kernel)) ggL_isStormy_L_storm
set_option maxRecDepth 20000 in
theorem ggL_isStormy_L_storms : GoodIn wsL_isStormy wsL_storms := goodIn_r _ [113, 114, 115, 4, 116, 117, 118, 119, 120, 121, 122, 123, 124, 125, 126, 127, 128, 129, 130, 131, 132, 133, 134, 135, 136, 137, 138, 139, 140] (by decide +kernel) (by decide +kernel)
set_option maxRecDepth 20000 in
theorem gL_isStormy_L_storms : GoodIn wsL_isStormy (va_wsS RL 137 yL_storms wsL_storms) := goodIn_app (goodIn_of _ (by decide +kernel)) ggL_isStormy_L_storms
set_option maxRecDepth 20000 in
theorem ggL_isMerged_L_runs : GoodIn wsL_isMerged wsL_runs := goodIn_r _ [5] (by decide +kernel) (by decide +kernel)
set_option maxRecDepth 20000 in
theorem gL_isMerged_L_runs : GoodIn wsL_isMerged (va_wsS RL 105 yL_runs wsL_runs) := goodIn_app (goodIn_of _ (by decide +kernel)) ggL_isMerged_L_runs
set_option maxRecDepth 20000 in
theorem ggL_isMerged_L_mergeLightest : GoodIn wsL_isMerged wsL_mergeLightest := goodIn_ca (goodIn_r _ [8, 9, 10, 11, 12, 13, 14, 15, 16, 17, 18, 19, 20, 21, 22, 23, 24, 25, 26, 27, 28, 29, 30, 31, 32, 33, 34, 35, 36, 37, 38, 39, 40, 41, 42, 43, 44, 45, 46, 47, 48, 49, 50, 51, 52, 53, 54, 55, 56, 57, 58, 59, 60, 61, 62, 63, 64, 65, 66, 67, 68, 69, 70, 71, 72, 73, 74, 75, 76, 77, 78, 79, 80, 81, 82, 83, 84, 85, 86, 87, 88, 89, 90, 91, 92, 93, 94, 95, 96, 97, 98, 99, 100, 101, 102, 103, 104, 105, 106, 107, 108, 109, 110, 111, 112, 113, 114, 115, 168, 169, 170, 171, 172, 173, 174, 175, 176, 177, 178, 179, 180, 181, 182, 183, 184, 185, 186, 187, 188, 189, 190] (by decide +kernel) (by decide +kernel)) (goodIn_sub (fun _ h => List.mem_cons_of_mem _ (List.mem_append_left _ (List.mem_append_left _ (List.mem_append_right _ h)))) (by decide +kernel))
set_option maxRecDepth 20000 in
theorem gL_isMerged_L_mergeLightest : GoodIn wsL_isMerged (va_wsS RL 141 yL_mergeLightest wsL_mergeLightest) := goodIn_app (goodIn_of _ (by decide +kernel)) ggL_isMerged_L_mergeLightest
set_option maxRecDepth 20000 in
theorem ggL_isMerged_L_merge : GoodIn wsL_isMerged wsL_merge := goodIn_ca (goodIn_ca (goodIn_r _ [118, 119, 120, 121, 122, 123, 13, 124, 125, 126, 127, 128, 17, 18, 129, 130, 131, 22, 132, 24, 98, 99, 100, 28, 101, 30, 68, 31, 32, 33, 34, 35, 36, 37, 38, 39, 40, 41, 42, 43, 44, 45, 46, 47, 48, 49, 50, 51, 52, 53, 54, 55, 56, 57, 58, 59, 60, 61, 62, 63, 64, 65, 66, 67, 69, 133, 84, 85, 86, 74, 87, 88, 89, 90, 91, 92, 93, 25, 26, 27, 29, 79, 80, 81, 82, 94, 95, 96, 97, 102, 103, 104, 105, 106, 107, 108, 109, 110, 111, 112, 113, 114, 115, 168, 169, 170, 171, 172, 173, 174, 175, 176, 177, 178, 179, 180, 181, 182, 183, 184, 185, 186, 187, 188, 189, 190] (by decide +kernel) (by decide +kernel)) (goodIn_sub (fun _ h => List.mem_cons_of_mem _ (List.mem_append_left _ (List.mem_append_right _ h))) (by decide +kernel))) (goodIn_sub (fun _ h => List.mem_cons_of_mem _ (List.mem_append_right _ h)) (by decide +kernel))
set_option maxRecDepth 20000 in
theorem gL_isMerged_L_merge : GoodIn wsL_isMerged (va_wsS RL 144 yL_merge wsL_merge) := goodIn_app (goodIn_of _ (by decide +kernel)) ggL_isMerged_L_merge
set_option maxRecDepth 20000 in
theorem ggL_isMerged_L_low : GoodIn wsL_isMerged wsL_low := goodIn_r _ [136, 137] (by decide +kernel) (by decide +kernel)
set_option maxRecDepth 20000 in
theorem gL_isMerged_L_low : GoodIn wsL_isMerged (va_wsS RL 126 yL_low wsL_low) := goodIn_app (goodIn_of _ (by decide +kernel)) ggL_isMerged_L_low
set_option maxRecDepth 20000 in
theorem ggL_isMerged_L_lightest : GoodIn wsL_isMerged wsL_lightest := goodIn_r _ [140, 141, 142, 4, 143, 144, 145, 146, 147, 148, 149, 150, 151, 152] (by decide +kernel) (by decide +kernel)
set_option maxRecDepth 20000 in
theorem gL_isMerged_L_lightest : GoodIn wsL_isMerged (va_wsS RL 146 yL_lightest wsL_lightest) := goodIn_app (goodIn_of _ (by decide +kernel)) ggL_isMerged_L_lightest
set_option maxRecDepth 20000 in
theorem ggL_isMerged_L_merges : GoodIn wsL_isMerged wsL_merges := goodIn_r _ [155, 141, 142, 4, 143, 144, 145, 146, 147, 148, 149, 150, 151, 152, 156, 157, 158, 159, 160, 161, 162, 163, 164] (by decide +kernel) (by decide +kernel)
set_option maxRecDepth 20000 in
theorem gL_isMerged_L_merges : GoodIn wsL_isMerged (va_wsS RL 149 yL_merges wsL_merges) := goodIn_app (goodIn_of _ (by decide +kernel)) ggL_isMerged_L_merges
set_option maxRecDepth 20000 in
theorem ggL_isMerged_L_runBy : GoodIn wsL_isMerged wsL_runBy := goodIn_r _ [167] (by decide +kernel) (by decide +kernel)
set_option maxRecDepth 20000 in
theorem gL_isMerged_L_runBy : GoodIn wsL_isMerged (va_wsS RL 108 yL_runBy wsL_runBy) := goodIn_app (goodIn_of _ (by decide +kernel)) ggL_isMerged_L_runBy
set_option maxRecDepth 20000 in
theorem ggL_isLanded_L_runs : GoodIn wsL_isLanded wsL_runs := goodIn_r _ [5] (by decide +kernel) (by decide +kernel)
set_option maxRecDepth 20000 in
theorem gL_isLanded_L_runs : GoodIn wsL_isLanded (va_wsS RL 105 yL_runs wsL_runs) := goodIn_app (goodIn_of _ (by decide +kernel)) ggL_isLanded_L_runs
set_option maxRecDepth 20000 in
theorem ggL_isLanded_L_land : GoodIn wsL_isLanded wsL_land := goodIn_ca (goodIn_ca (goodIn_r _ [8, 9, 10, 11, 12, 13, 14, 15, 16, 17, 18, 19, 20, 21, 22, 23, 24, 25, 26, 27, 28, 29, 30, 31, 32, 33, 34, 35, 36, 37, 38, 39, 40, 41, 42, 43, 44, 45, 46, 47, 48, 49, 50, 51, 52, 53, 54, 55, 56, 57, 58, 59, 60, 61, 62, 63, 64, 65, 66, 67, 68, 69, 70, 71, 72, 73, 74, 75, 76, 77, 78, 79, 80, 81, 82, 83, 84, 85, 86, 87, 88, 89, 90, 91, 92, 93, 94, 95, 96, 97, 98, 99, 100, 101, 102, 103, 104, 105, 106, 107, 108, 109, 110, 111, 112, 113, 114, 115, 116, 117, 118, 119, 120, 167, 168, 169, 170, 171, 172, 173, 174, 175, 176, 177, 178, 179, 180, 181, 182, 183, 184, 185, 186, 187, 188, 189] (by decide +kernel) (by decide +kernel)) (goodIn_sub (fun _ h => List.mem_cons_of_mem _ (List.mem_append_left _ (List.mem_append_right _ h))) (by decide +kernel))) (goodIn_sub (fun _ h => List.mem_cons_of_mem _ (List.mem_append_right _ h)) (by decide +kernel))
set_option maxRecDepth 20000 in
theorem gL_isLanded_L_land : GoodIn wsL_isLanded (va_wsS RL 152 yL_land wsL_land) := goodIn_app (goodIn_of _ (by decide +kernel)) ggL_isLanded_L_land
set_option maxRecDepth 20000 in
theorem ggL_isLanded_L_tighten : GoodIn wsL_isLanded wsL_tighten := goodIn_ca (goodIn_r _ [123, 9, 124, 125, 126, 14, 127, 16, 17, 20, 21, 22, 23, 24, 25, 26, 27, 28, 29, 30, 31, 32, 33, 34, 62, 63, 64, 65, 66, 67, 68, 69, 70, 71, 72, 73, 74, 75, 76, 77, 78, 79, 80, 81, 82, 61, 83, 44, 43, 84, 85, 86, 87, 88, 89, 90, 91, 92, 93, 94, 95, 96, 128, 129, 130, 131, 132, 49, 50, 51, 52, 105, 106, 107, 108, 167, 168, 169, 170, 171, 172, 173, 174, 175, 176, 177, 178, 179, 180, 181, 182, 183, 184, 185, 186, 187, 188, 189] (by decide +kernel) (by decide +kernel)) (goodIn_sub (fun _ h => List.mem_cons_of_mem _ (List.mem_append_left _ (List.mem_append_right _ h))) (by decide +kernel))
set_option maxRecDepth 20000 in
theorem gL_isLanded_L_tighten : GoodIn wsL_isLanded (va_wsS RL 154 yL_tighten wsL_tighten) := goodIn_app (goodIn_of _ (by decide +kernel)) ggL_isLanded_L_tighten
set_option maxRecDepth 20000 in
theorem ggL_isLanded_L_low : GoodIn wsL_isLanded wsL_low := goodIn_r _ [135, 136] (by decide +kernel) (by decide +kernel)
set_option maxRecDepth 20000 in
theorem gL_isLanded_L_low : GoodIn wsL_isLanded (va_wsS RL 126 yL_low wsL_low) := goodIn_app (goodIn_of _ (by decide +kernel)) ggL_isLanded_L_low
set_option maxRecDepth 20000 in
theorem ggL_isLanded_L_runBy : GoodIn wsL_isLanded wsL_runBy := goodIn_r _ [139] (by decide +kernel) (by decide +kernel)
set_option maxRecDepth 20000 in
theorem gL_isLanded_L_runBy : GoodIn wsL_isLanded (va_wsS RL 108 yL_runBy wsL_runBy) := goodIn_app (goodIn_of _ (by decide +kernel)) ggL_isLanded_L_runBy
set_option maxRecDepth 20000 in
theorem ggL_isLanded_L_many : GoodIn wsL_isLanded wsL_many := goodIn_r _ [142, 143, 144, 4, 145, 146, 147, 148] (by decide +kernel) (by decide +kernel)
set_option maxRecDepth 20000 in
theorem gL_isLanded_L_many : GoodIn wsL_isLanded (va_wsS RL 32 yL_many wsL_many) := goodIn_app (goodIn_of _ (by decide +kernel)) ggL_isLanded_L_many
set_option maxRecDepth 20000 in
theorem ggL_isLanded_L_ranked : GoodIn wsL_isLanded wsL_ranked := goodIn_r _ [151, 143, 144, 4, 145, 146, 147, 148, 152, 153, 154, 155, 156, 157] (by decide +kernel) (by decide +kernel)
set_option maxRecDepth 20000 in
theorem gL_isLanded_L_ranked : GoodIn wsL_isLanded (va_wsS RL 36 yL_ranked wsL_ranked) := goodIn_app (goodIn_of _ (by decide +kernel)) ggL_isLanded_L_ranked
set_option maxRecDepth 20000 in
theorem ggL_isLanded_L_isLess : GoodIn wsL_isLanded wsL_isLess := goodIn_r _ [154, 155, 156, 4, 157] (by decide +kernel) (by decide +kernel)
set_option maxRecDepth 20000 in
theorem gL_isLanded_L_isLess : GoodIn wsL_isLanded (va_wsS RL 28 yL_isLess wsL_isLess) := goodIn_app (goodIn_of _ (by decide +kernel)) ggL_isLanded_L_isLess
set_option maxRecDepth 20000 in
theorem ggL_isLanded_L_where : GoodIn wsL_isLanded wsL_where := goodIn_r _ [145] (by decide +kernel) (by decide +kernel)
set_option maxRecDepth 20000 in
theorem gL_isLanded_L_where : GoodIn wsL_isLanded (va_wsS RL 22 yL_where wsL_where) := goodIn_app (goodIn_of _ (by decide +kernel)) ggL_isLanded_L_where
set_option maxRecDepth 20000 in
theorem ggL_isLanded_L_run : GoodIn wsL_isLanded wsL_run := goodIn_r _ [148] (by decide +kernel) (by decide +kernel)
set_option maxRecDepth 20000 in
theorem gL_isLanded_L_run : GoodIn wsL_isLanded (va_wsS RL 25 yL_run wsL_run) := goodIn_app (goodIn_of _ (by decide +kernel)) ggL_isLanded_L_run
set_option maxRecDepth 20000 in
theorem ggL_isLanded_L_goes : GoodIn wsL_isLanded wsL_goes := goodIn_r _ [160, 155, 156, 4, 157, 161, 162, 163, 164, 165, 166] (by decide +kernel) (by decide +kernel)
set_option maxRecDepth 20000 in
theorem gL_isLanded_L_goes : GoodIn wsL_isLanded (va_wsS RL 48 yL_goes wsL_goes) := goodIn_app (goodIn_of _ (by decide +kernel)) ggL_isLanded_L_goes
set_option maxRecDepth 20000 in
theorem ggL_isEmptied_L_many : GoodIn wsL_isEmptied wsL_many := goodIn_r _ [4, 5, 6, 3, 7, 8, 9, 10] (by decide +kernel) (by decide +kernel)
set_option maxRecDepth 20000 in
theorem gL_isEmptied_L_many : GoodIn wsL_isEmptied (va_wsS RL 32 yL_many wsL_many) := goodIn_app (goodIn_of _ (by decide +kernel)) ggL_isEmptied_L_many
set_option maxRecDepth 20000 in
theorem ggL_isEmptied_L_empties : GoodIn wsL_isEmptied wsL_empties := goodIn_r _ [13, 1, 2, 3, 4, 5, 6, 7, 8, 9, 10, 14, 15, 16, 17, 18, 19, 20, 21, 22, 23, 24, 25, 26, 27, 28, 29, 30, 31, 32, 33, 34, 35, 36, 37, 38, 39, 40] (by decide +kernel) (by decide +kernel)
set_option maxRecDepth 20000 in
theorem gL_isEmptied_L_empties : GoodIn wsL_isEmptied (va_wsS RL 156 yL_empties wsL_empties) := goodIn_app (goodIn_of _ (by decide +kernel)) ggL_isEmptied_L_empties
set_option maxRecDepth 20000 in
theorem ggL_isEmptied_X4_empty : GoodIn wsL_isEmptied wsX4_empty := goodIn_r _ [45, 46, 47, 48, 49, 50, 51, 52, 53, 54, 55, 56, 57, 58, 59, 60, 61, 62, 63, 64, 65, 66, 67, 68, 69, 70, 71, 72, 73, 74, 75, 76, 77, 78, 79, 80, 81, 82, 83, 84, 85, 86, 87, 88, 89, 90, 91, 92, 93, 94, 95, 96, 97, 98, 99, 100, 101, 102, 103, 104, 105, 106, 107, 108, 109, 110, 111, 112, 113, 114, 115, 116, 117, 118, 119, 120, 121, 122, 123, 124, 125, 126, 127, 128, 129, 130, 131, 132, 133, 134, 135, 136, 137, 138, 139, 140, 141, 142, 143, 144, 145, 146, 147, 148, 149, 150, 151, 152, 156, 157, 158, 159, 160, 161, 162, 163, 164, 165, 166, 167, 168, 169, 170, 171, 172, 173, 174, 175, 176, 177, 178] (by decide +kernel) (by decide +kernel)
set_option maxRecDepth 20000 in
theorem gL_isEmptied_X4_empty : GoodIn wsL_isEmptied (wsV RL 160 RX4 yX4_empty wsX4_empty) := goodIn_app (goodIn_of _ (by decide +kernel)) ggL_isEmptied_X4_empty
set_option maxRecDepth 20000 in
theorem ggL_isEmptied_L_runs : GoodIn wsL_isEmptied wsL_runs := goodIn_r _ [155] (by decide +kernel) (by decide +kernel)
set_option maxRecDepth 20000 in
theorem gL_isEmptied_L_runs : GoodIn wsL_isEmptied (va_wsS RL 105 yL_runs wsL_runs) := goodIn_app (goodIn_of _ (by decide +kernel)) ggL_isEmptied_L_runs
