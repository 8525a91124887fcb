set_option maxRecDepth 20000 in
theorem ggL_law_X5_run : GoodIn wsL_law wsX5_run := goodIn_r _ [547, 145, 370, 371, 372, 5, 373, 74, 374, 375, 376, 377, 146, 147, 148, 548, 549, 550, 551, 445, 446, 447, 448, 263, 264, 265, 266, 247, 248, 249, 250, 386, 387, 388, 389, 495, 496, 497, 498, 267, 268, 269, 270, 259, 260, 261, 262, 877, 878, 879, 880, 881, 882, 883, 884, 885, 886, 887, 888, 889] (by decide +kernel) (by decide +kernel)
set_option maxRecDepth 20000 in
theorem gL_law_X5_run : GoodIn wsL_law (wsV RL 118 RX5 yX5_run wsX5_run) := goodIn_app (goodIn_of _ (by decide +kernel)) ggL_law_X5_run
set_option maxRecDepth 20000 in
theorem ggL_law_L_inRun : GoodIn wsL_law wsL_inRun := goodIn_ca (goodIn_ca (goodIn_r _ [554, 333, 502, 555, 556, 557, 2, 558, 338, 339, 507, 508, 16, 340, 341, 342, 15, 343, 39, 212, 213, 214, 34, 215, 123, 51, 559, 177, 178, 179, 37, 129, 130, 131, 132, 180, 181, 182, 183, 560, 476, 477, 478, 38, 873, 874, 875, 876, 890, 891, 892, 893, 894, 895, 896, 897, 898, 899, 900, 901, 902, 903, 913, 914] (by decide +kernel) (by decide +kernel)) (goodIn_sub (fun _ h => List.mem_append_left _ (List.mem_append_right _ h)) (by decide +kernel))) (goodIn_sub (fun _ h => List.mem_append_right _ h) (by decide +kernel))
set_option maxRecDepth 20000 in
theorem gL_law_L_inRun : GoodIn wsL_law (va_wsS RL 119 yL_inRun wsL_inRun) := goodIn_app (goodIn_of _ (by decide +kernel)) ggL_law_L_inRun
set_option maxRecDepth 20000 in
theorem ggL_law_X5_inRun : GoodIn wsL_law wsX5_inRun := goodIn_r _ [564, 145, 74, 370, 371, 372, 5, 373, 374, 375, 376, 377, 445, 446, 447, 448, 263, 264, 265, 266, 247, 248, 249, 250, 146, 147, 148, 525, 526, 527, 528, 529, 530, 531, 532, 267, 268, 269, 270, 877, 878, 879, 880, 881, 882, 883, 884, 885, 886, 887, 888, 889] (by decide +kernel) (by decide +kernel)
set_option maxRecDepth 20000 in
theorem gL_law_X5_inRun : GoodIn wsL_law (wsV RL 121 RX5 yX5_inRun wsX5_inRun) := goodIn_app (goodIn_of _ (by decide +kernel)) ggL_law_X5_inRun
set_option maxRecDepth 20000 in
theorem ggL_law_L_ashore : GoodIn wsL_law wsL_ashore := goodIn_ca (goodIn_r _ [567, 502, 568, 569, 570, 2, 571, 507, 508, 16, 559, 177, 178, 15, 179, 37, 129, 130, 131, 34, 132, 123, 180, 181, 182, 183, 51, 560, 476, 477, 478, 38, 873, 874, 875, 876, 890, 891, 892, 893, 894, 895, 896, 897, 898, 899, 900, 901, 902, 903, 913, 914] (by decide +kernel) (by decide +kernel)) (goodIn_sub (fun _ h => List.mem_append_right _ h) (by decide +kernel))
set_option maxRecDepth 20000 in
theorem gL_law_L_ashore : GoodIn wsL_law (va_wsS RL 122 yL_ashore wsL_ashore) := goodIn_app (goodIn_of _ (by decide +kernel)) ggL_law_L_ashore
set_option maxRecDepth 20000 in
theorem ggL_law_X5_ashore : GoodIn wsL_law wsX5_ashore := goodIn_r _ [575, 145, 74, 243, 244, 245, 5, 246, 247, 248, 249, 250, 146, 147, 148, 525, 526, 527, 528, 529, 530, 531, 532, 267, 268, 269, 270, 877, 878, 879, 880, 881, 882, 883, 884, 885, 886, 887, 888, 889] (by decide +kernel) (by decide +kernel)
set_option maxRecDepth 20000 in
theorem gL_law_X5_ashore : GoodIn wsL_law (wsV RL 124 RX5 yX5_ashore wsX5_ashore) := goodIn_app (goodIn_of _ (by decide +kernel)) ggL_law_X5_ashore
set_option maxRecDepth 20000 in
theorem ggL_law_L_runAt : GoodIn wsL_law wsL_runAt := goodIn_ca (goodIn_r _ [578, 502, 579, 580, 581, 2, 582, 507, 508, 16, 397, 398, 399, 15, 400, 39, 129, 130, 131, 34, 132, 123, 583, 584, 585, 586, 180, 181, 182, 183, 51, 873, 874, 875, 876, 890, 891, 892, 893, 894, 895, 896, 897, 898, 899, 900, 901, 902, 903, 913, 914] (by decide +kernel) (by decide +kernel)) (goodIn_sub (fun _ h => List.mem_append_right _ h) (by decide +kernel))
set_option maxRecDepth 20000 in
theorem gL_law_L_runAt : GoodIn wsL_law (va_wsS RL 125 yL_runAt wsL_runAt) := goodIn_app (goodIn_of _ (by decide +kernel)) ggL_law_L_runAt
set_option maxRecDepth 20000 in
theorem ggL_law_X5_runAt : GoodIn wsL_law wsX5_runAt := goodIn_r _ [590, 74, 145, 146, 147, 5, 148, 374, 375, 376, 377, 877, 878, 879, 880, 881, 882, 883, 884, 885, 886, 887, 888, 889] (by decide +kernel) (by decide +kernel)
set_option maxRecDepth 20000 in
theorem gL_law_X5_runAt : GoodIn wsL_law (wsV RL 127 RX5 yX5_runAt wsX5_runAt) := goodIn_app (goodIn_of _ (by decide +kernel)) ggL_law_X5_runAt
set_option maxRecDepth 20000 in
theorem ggL_law_L_value : GoodIn wsL_law wsL_value := goodIn_ca (goodIn_r _ [593, 90, 594, 595, 596, 2, 597, 95, 96, 16, 598, 599, 600, 15, 601, 30, 35, 39, 115, 116, 117, 118, 31, 114, 176, 177, 178, 179, 37, 129, 130, 131, 34, 132, 123, 180, 181, 182, 183, 51, 873, 874, 875, 876, 890, 891, 892, 893, 894, 895, 896, 897, 898, 899, 900, 901, 902, 903, 913, 914] (by decide +kernel) (by decide +kernel)) (goodIn_sub (fun _ h => List.mem_append_left _ (List.mem_append_left _ (List.mem_append_left _ (List.mem_append_right _ h)))) (by decide +kernel))
set_option maxRecDepth 20000 in
theorem gL_law_L_value : GoodIn wsL_law (va_wsS RL 128 yL_value wsL_value) := goodIn_app (goodIn_of _ (by decide +kernel)) ggL_law_L_value
