set_option maxRecDepth 20000 in
theorem ggL_law_X5_costByNumber : GoodIn wsL_law wsX5_costByNumber := goodIn_r _ [664, 145, 74, 374, 375, 376, 5, 377, 386, 387, 388, 389, 263, 264, 265, 266, 247, 248, 249, 250, 877, 878, 879, 880, 881, 882, 883, 884, 885, 886, 887, 888, 889] (by decide +kernel) (by decide +kernel)
set_option maxRecDepth 20000 in
theorem gL_law_X5_costByNumber : GoodIn wsL_law (wsV RL 146 RX5 yX5_costByNumber wsX5_costByNumber) := goodIn_app (goodIn_of _ (by decide +kernel)) ggL_law_X5_costByNumber
set_option maxRecDepth 20000 in
theorem ggL_law_L_runsWith : GoodIn wsL_law wsL_runsWith := goodIn_ca (goodIn_r _ [667, 90, 668, 669, 670, 2, 671, 95, 96, 17, 16, 133, 134, 135, 15, 136, 30, 35, 36, 37, 38, 39, 40, 41, 31, 114, 115, 116, 117, 118, 137, 138, 139, 34, 140, 123, 125, 126, 127, 128, 129, 130, 131, 132, 672, 673, 674, 675, 180, 181, 182, 183, 51, 676, 677, 678, 679, 172, 173, 174, 175, 176, 177, 178, 179, 184, 185, 186, 187, 188, 189, 190, 191, 192, 193, 194, 195, 196, 197, 198, 199, 200, 201, 202, 203, 204, 205, 206, 207, 208, 209, 210, 211, 212, 213, 214, 215, 216, 217, 218, 219, 220, 221, 222, 223, 224, 225, 226, 227, 228, 229, 230, 231, 232, 233, 234, 318, 319, 320, 321, 873, 874, 875, 876, 890, 891, 892, 893, 894, 895, 896, 897, 898, 899, 900, 901, 902, 903, 913, 914] (by decide +kernel) (by decide +kernel)) (goodIn_sub (fun _ h => List.mem_append_left _ (List.mem_append_left _ (List.mem_append_left _ (List.mem_append_right _ h)))) (by decide +kernel))
set_option maxRecDepth 20000 in
theorem gL_law_L_runsWith : GoodIn wsL_law (va_wsS RL 147 yL_runsWith wsL_runsWith) := goodIn_app (goodIn_of _ (by decide +kernel)) ggL_law_L_runsWith
set_option maxRecDepth 20000 in
theorem ggL_law_X5_runsWith : GoodIn wsL_law wsX5_runsWith := goodIn_r _ [683, 145, 146, 147, 5, 148, 684, 685, 686, 687, 80, 688, 74, 689, 690, 691, 692, 693, 694, 695, 696, 267, 268, 269, 270, 247, 248, 249, 250, 877, 878, 879, 880, 881, 882, 883, 884, 885, 886, 887, 888, 889] (by decide +kernel) (by decide +kernel)
set_option maxRecDepth 20000 in
theorem gL_law_X5_runsWith : GoodIn wsL_law (wsV RL 149 RX5 yX5_runsWith wsX5_runsWith) := goodIn_app (goodIn_of _ (by decide +kernel)) ggL_law_X5_runsWith
set_option maxRecDepth 20000 in
theorem ggL_law_X4_leastRoom : GoodIn wsL_law wsX4_leastRoom := goodIn_r _ [700, 16, 701, 47, 48, 49, 125, 126, 127, 15, 128, 35, 129, 130, 131, 34, 132, 123, 702, 703, 704, 705, 180, 181, 182, 183, 51, 873, 874, 875, 876, 890, 891, 892, 893, 894, 895, 896, 897, 898, 899, 900, 901, 902, 903, 913, 914] (by decide +kernel) (by decide +kernel)
set_option maxRecDepth 20000 in
theorem gL_law_X4_leastRoom : GoodIn wsL_law (wsV RL 150 RX4 yX4_leastRoom wsX4_leastRoom) := goodIn_app (goodIn_of _ (by decide +kernel)) ggL_law_X4_leastRoom
set_option maxRecDepth 20000 in
theorem ggL_law_X5_leastRoom : GoodIn wsL_law wsX5_leastRoom := goodIn_r _ [709, 145, 684, 685, 686, 5, 687, 80, 688, 74, 689, 690, 691, 692, 693, 694, 695, 696, 267, 268, 269, 270, 247, 248, 249, 250, 877, 878, 879, 880, 881, 882, 883, 884, 885, 886, 887, 888, 889] (by decide +kernel) (by decide +kernel)
set_option maxRecDepth 20000 in
theorem gL_law_X5_leastRoom : GoodIn wsL_law (wsV RL 153 RX5 yX5_leastRoom wsX5_leastRoom) := goodIn_app (goodIn_of _ (by decide +kernel)) ggL_law_X5_leastRoom
set_option maxRecDepth 20000 in
theorem ggL_law_X4_inversions : GoodIn wsL_law wsX4_inversions := goodIn_r _ [713, 16, 125, 126, 127, 15, 128, 35, 129, 130, 131, 34, 132, 123, 702, 703, 704, 705, 180, 181, 182, 183, 51, 873, 874, 875, 876, 890, 891, 892, 893, 894, 895, 896, 897, 898, 899, 900, 901, 902, 903, 913, 914] (by decide +kernel) (by decide +kernel)
set_option maxRecDepth 20000 in
theorem gL_law_X4_inversions : GoodIn wsL_law (wsV RL 154 RX4 yX4_inversions wsX4_inversions) := goodIn_app (goodIn_of _ (by decide +kernel)) ggL_law_X4_inversions
set_option maxRecDepth 20000 in
theorem ggL_law_X5_inversions : GoodIn wsL_law wsX5_inversions := goodIn_r _ [717, 145, 74, 247, 248, 249, 5, 250, 877, 878, 879, 880, 881, 882, 883, 884, 885, 886, 887, 888, 889] (by decide +kernel) (by decide +kernel)
set_option maxRecDepth 20000 in
theorem gL_law_X5_inversions : GoodIn wsL_law (wsV RL 157 RX5 yX5_inversions wsX5_inversions) := goodIn_app (goodIn_of _ (by decide +kernel)) ggL_law_X5_inversions
set_option maxRecDepth 20000 in
theorem ggL_law_L_append : GoodIn wsL_law wsL_append := goodIn_ca (goodIn_ca (goodIn_r _ [720, 90, 161, 721, 722, 723, 2, 724, 95, 96, 166, 167, 25, 725, 726, 727, 24, 728, 64, 729, 130, 131, 34, 132, 123, 730, 731, 732, 733, 734, 205, 206, 207, 208, 209, 210, 211, 51, 873, 874, 875, 876, 907, 908, 909, 910, 911, 912, 913, 914] (by decide +kernel) (by decide +kernel)) (goodIn_sub (fun _ h => List.mem_append_left _ (List.mem_append_left _ (List.mem_append_left _ (List.mem_append_right _ h)))) (by decide +kernel))) (goodIn_sub (fun _ h => List.mem_append_left _ (List.mem_append_left _ (List.mem_append_right _ h))) (by decide +kernel))
set_option maxRecDepth 20000 in
theorem gL_law_L_append : GoodIn wsL_law (va_wsS RL 158 yL_append wsL_append) := goodIn_app (goodIn_of _ (by decide +kernel)) ggL_law_L_append
