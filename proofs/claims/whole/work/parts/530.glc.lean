set_option maxRecDepth 20000 in
theorem ggL_law_X5_storm : GoodIn wsL_law wsX5_storm := goodIn_r _ [440, 145, 146, 147, 5, 148, 149, 150, 151, 152, 153, 76, 74, 441, 442, 443, 444, 374, 375, 376, 377, 445, 446, 447, 448, 263, 264, 265, 266, 247, 248, 249, 250, 275, 276, 277, 278, 259, 260, 261, 262, 267, 268, 269, 270, 279, 280, 281, 282, 877, 878, 879, 880, 881, 882, 883, 884, 885, 886, 887, 888, 889] (by decide +kernel) (by decide +kernel)
set_option maxRecDepth 20000 in
theorem gL_law_X5_storm : GoodIn wsL_law (wsV RL 106 RX5 yX5_storm wsX5_storm) := goodIn_app (goodIn_of _ (by decide +kernel)) ggL_law_X5_storm
set_option maxRecDepth 20000 in
theorem ggL_law_L_tighten : GoodIn wsL_law wsL_tighten := goodIn_ca (goodIn_r _ [451, 333, 452, 453, 454, 2, 455, 338, 339, 16, 21, 340, 341, 342, 15, 343, 39, 212, 213, 214, 34, 215, 123, 51, 97, 98, 99, 20, 100, 101, 102, 103, 104, 48, 105, 106, 107, 108, 109, 57, 110, 111, 112, 113, 30, 35, 36, 37, 38, 40, 41, 31, 114, 115, 116, 117, 118, 119, 120, 121, 122, 124, 456, 457, 458, 459, 348, 180, 181, 182, 183, 220, 221, 222, 223, 873, 874, 875, 876, 890, 891, 892, 893, 894, 895, 896, 897, 898, 899, 900, 901, 902, 903, 913, 914, 904, 905, 906] (by decide +kernel) (by decide +kernel)) (goodIn_sub (fun _ h => List.mem_append_left _ (List.mem_append_right _ h)) (by decide +kernel))
set_option maxRecDepth 20000 in
theorem gL_law_L_tighten : GoodIn wsL_law (va_wsS RL 107 yL_tighten wsL_tighten) := goodIn_app (goodIn_of _ (by decide +kernel)) ggL_law_L_tighten
set_option maxRecDepth 20000 in
theorem ggL_law_X5_tighten : GoodIn wsL_law wsX5_tighten := goodIn_r _ [463, 145, 74, 370, 371, 372, 5, 373, 374, 375, 376, 377, 149, 150, 151, 152, 153, 76, 877, 878, 879, 880, 881, 882, 883, 884, 885, 886, 887, 888, 889] (by decide +kernel) (by decide +kernel)
set_option maxRecDepth 20000 in
theorem gL_law_X5_tighten : GoodIn wsL_law (wsV RL 109 RX5 yX5_tighten wsX5_tighten) := goodIn_app (goodIn_of _ (by decide +kernel)) ggL_law_X5_tighten
set_option maxRecDepth 20000 in
theorem ggL_law_L_land : GoodIn wsL_law wsL_land := goodIn_ca (goodIn_ca (goodIn_r _ [466, 333, 161, 467, 468, 469, 2, 470, 338, 339, 166, 167, 16, 21, 340, 341, 342, 15, 343, 39, 212, 213, 214, 34, 215, 123, 51, 471, 472, 473, 474, 192, 193, 194, 195, 38, 37, 129, 130, 131, 132, 180, 181, 182, 183, 475, 476, 477, 478, 196, 197, 198, 199, 35, 97, 98, 99, 20, 100, 101, 102, 103, 104, 48, 105, 106, 107, 108, 109, 57, 110, 111, 112, 113, 30, 36, 40, 41, 31, 114, 115, 116, 117, 118, 119, 120, 121, 122, 124, 479, 480, 481, 482, 350, 351, 352, 353, 220, 221, 222, 223, 354, 355, 356, 357, 358, 359, 360, 361, 176, 177, 178, 179, 873, 874, 875, 876, 890, 891, 892, 893, 894, 895, 896, 897, 898, 899, 900, 901, 902, 903, 913, 914, 904, 905, 906] (by decide +kernel) (by decide +kernel)) (goodIn_sub (fun _ h => List.mem_append_left _ (List.mem_append_right _ h)) (by decide +kernel))) (goodIn_sub (fun _ h => List.mem_append_left _ (List.mem_append_left _ (List.mem_append_right _ h))) (by decide +kernel))
set_option maxRecDepth 20000 in
theorem gL_law_L_land : GoodIn wsL_law (va_wsS RL 110 yL_land wsL_land) := goodIn_app (goodIn_of _ (by decide +kernel)) ggL_law_L_land
set_option maxRecDepth 20000 in
theorem ggL_law_X5_land : GoodIn wsL_law wsX5_land := goodIn_r _ [486, 145, 74, 370, 371, 372, 5, 373, 374, 375, 376, 377, 487, 488, 489, 490, 491, 492, 493, 494, 247, 248, 249, 250, 267, 268, 269, 270, 495, 496, 497, 498, 263, 264, 265, 266, 149, 150, 151, 152, 153, 76, 279, 280, 281, 282, 382, 383, 384, 385, 243, 244, 245, 246, 877, 878, 879, 880, 881, 882, 883, 884, 885, 886, 887, 888, 889] (by decide +kernel) (by decide +kernel)
set_option maxRecDepth 20000 in
theorem gL_law_X5_land : GoodIn wsL_law (wsV RL 112 RX5 yX5_land wsX5_land) := goodIn_app (goodIn_of _ (by decide +kernel)) ggL_law_X5_land
set_option maxRecDepth 20000 in
theorem ggL_law_L_parcel : GoodIn wsL_law wsL_parcel := goodIn_ca (goodIn_ca (goodIn_r _ [501, 502, 90, 503, 504, 505, 2, 506, 507, 508, 95, 96, 16, 125, 126, 127, 15, 128, 35, 129, 130, 131, 34, 132, 123, 509, 510, 511, 512, 37, 36, 180, 181, 182, 183, 51, 513, 514, 515, 516, 38, 873, 874, 875, 876, 890, 891, 892, 893, 894, 895, 896, 897, 898, 899, 900, 901, 902, 903, 913, 914] (by decide +kernel) (by decide +kernel)) (goodIn_sub (fun _ h => List.mem_append_right _ h) (by decide +kernel))) (goodIn_sub (fun _ h => List.mem_append_left _ (List.mem_append_left _ (List.mem_append_left _ (List.mem_append_right _ h)))) (by decide +kernel))
set_option maxRecDepth 20000 in
theorem gL_law_L_parcel : GoodIn wsL_law (va_wsS RL 113 yL_parcel wsL_parcel) := goodIn_app (goodIn_of _ (by decide +kernel)) ggL_law_L_parcel
set_option maxRecDepth 20000 in
theorem ggL_law_X5_parcel : GoodIn wsL_law wsX5_parcel := goodIn_r _ [520, 74, 145, 146, 147, 5, 148, 521, 522, 523, 524, 247, 248, 249, 250, 525, 526, 527, 528, 529, 530, 531, 532, 267, 268, 269, 270, 877, 878, 879, 880, 881, 882, 883, 884, 885, 886, 887, 888, 889] (by decide +kernel) (by decide +kernel)
set_option maxRecDepth 20000 in
theorem gL_law_X5_parcel : GoodIn wsL_law (wsV RL 115 RX5 yX5_parcel wsX5_parcel) := goodIn_app (goodIn_of _ (by decide +kernel)) ggL_law_X5_parcel
set_option maxRecDepth 20000 in
theorem ggL_law_L_run : GoodIn wsL_law wsL_run := goodIn_ca (goodIn_ca (goodIn_r _ [535, 333, 90, 536, 537, 538, 2, 539, 338, 339, 95, 96, 16, 340, 341, 342, 15, 343, 39, 212, 213, 214, 34, 215, 123, 51, 540, 541, 542, 543, 41, 40, 35, 31, 176, 177, 178, 179, 37, 129, 130, 131, 132, 180, 181, 182, 183, 475, 476, 477, 478, 38, 192, 193, 194, 195, 873, 874, 875, 876, 890, 891, 892, 893, 894, 895, 896, 897, 898, 899, 900, 901, 902, 903, 913, 914] (by decide +kernel) (by decide +kernel)) (goodIn_sub (fun _ h => List.mem_append_left _ (List.mem_append_right _ h)) (by decide +kernel))) (goodIn_sub (fun _ h => List.mem_append_left _ (List.mem_append_left _ (List.mem_append_left _ (List.mem_append_right _ h)))) (by decide +kernel))
set_option maxRecDepth 20000 in
theorem gL_law_L_run : GoodIn wsL_law (va_wsS RL 116 yL_run wsL_run) := goodIn_app (goodIn_of _ (by decide +kernel)) ggL_law_L_run
