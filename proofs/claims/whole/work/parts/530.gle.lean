set_option maxRecDepth 20000 in
theorem ggL_law_X5_value : GoodIn wsL_law wsX5_value := goodIn_r _ [605, 145, 146, 147, 5, 148, 606, 607, 608, 609, 74, 243, 244, 245, 246, 247, 248, 249, 250, 877, 878, 879, 880, 881, 882, 883, 884, 885, 886, 887, 888, 889] (by decide +kernel) (by decide +kernel)
set_option maxRecDepth 20000 in
theorem gL_law_X5_value : GoodIn wsL_law (wsV RL 130 RX5 yX5_value wsX5_value) := goodIn_app (goodIn_of _ (by decide +kernel)) ggL_law_X5_value
set_option maxRecDepth 20000 in
theorem ggL_law_X4_nextThrown : GoodIn wsL_law wsX4_nextThrown := goodIn_r _ [613, 16, 614, 189, 190, 15, 191, 31, 38, 37, 192, 193, 194, 195, 129, 130, 131, 34, 132, 123, 180, 181, 182, 183, 51, 196, 197, 198, 199, 35, 873, 874, 875, 876, 890, 891, 892, 893, 894, 895, 896, 897, 898, 899, 900, 901, 902, 903, 913, 914] (by decide +kernel) (by decide +kernel)
set_option maxRecDepth 20000 in
theorem gL_law_X4_nextThrown : GoodIn wsL_law (wsV RL 131 RX4 yX4_nextThrown wsX4_nextThrown) := goodIn_app (goodIn_of _ (by decide +kernel)) ggL_law_X4_nextThrown
set_option maxRecDepth 20000 in
theorem ggL_law_X5_nextThrown : GoodIn wsL_law wsX5_nextThrown := goodIn_r _ [618, 145, 619, 620, 621, 5, 622, 255, 256, 257, 258, 74, 259, 260, 261, 262, 263, 264, 265, 266, 247, 248, 249, 250, 267, 268, 269, 270, 271, 272, 273, 274, 877, 878, 879, 880, 881, 882, 883, 884, 885, 886, 887, 888, 889] (by decide +kernel) (by decide +kernel)
set_option maxRecDepth 20000 in
theorem gL_law_X5_nextThrown : GoodIn wsL_law (wsV RL 134 RX5 yX5_nextThrown wsX5_nextThrown) := goodIn_app (goodIn_of _ (by decide +kernel)) ggL_law_X5_nextThrown
set_option maxRecDepth 20000 in
theorem ggL_law_X4_runsIfEmptied : GoodIn wsL_law wsX4_runsIfEmptied := goodIn_r _ [626, 17, 16, 627, 111, 112, 15, 113, 30, 35, 36, 37, 38, 39, 40, 41, 31, 114, 115, 116, 117, 118, 119, 120, 121, 34, 122, 123, 51, 124, 104, 48, 105, 318, 319, 320, 321, 176, 177, 178, 179, 129, 130, 131, 132, 180, 181, 182, 183, 184, 185, 186, 187, 188, 189, 190, 191, 192, 193, 194, 195, 196, 197, 198, 199, 200, 201, 202, 203, 204, 205, 206, 207, 208, 209, 210, 211, 212, 213, 214, 215, 216, 217, 218, 219, 220, 221, 222, 223, 224, 225, 226, 227, 228, 229, 873, 874, 875, 876, 890, 891, 892, 893, 894, 895, 896, 897, 898, 899, 900, 901, 902, 903, 913, 914] (by decide +kernel) (by decide +kernel)
set_option maxRecDepth 20000 in
theorem gL_law_X4_runsIfEmptied : GoodIn wsL_law (wsV RL 135 RX4 yX4_runsIfEmptied wsX4_runsIfEmptied) := goodIn_app (goodIn_of _ (by decide +kernel)) ggL_law_X4_runsIfEmptied
set_option maxRecDepth 20000 in
theorem ggL_law_X5_runsIfEmptied : GoodIn wsL_law wsX5_runsIfEmptied := goodIn_r _ [631, 145, 75, 74, 326, 327, 328, 5, 329, 271, 272, 273, 274, 247, 248, 249, 250, 267, 268, 269, 270, 251, 252, 253, 254, 255, 256, 257, 258, 259, 260, 261, 262, 263, 264, 265, 266, 275, 276, 277, 278, 279, 280, 281, 282, 877, 878, 879, 880, 881, 882, 883, 884, 885, 886, 887, 888, 889] (by decide +kernel) (by decide +kernel)
set_option maxRecDepth 20000 in
theorem gL_law_X5_runsIfEmptied : GoodIn wsL_law (wsV RL 138 RX5 yX5_runsIfEmptied wsX5_runsIfEmptied) := goodIn_app (goodIn_of _ (by decide +kernel)) ggL_law_X5_runsIfEmptied
set_option maxRecDepth 20000 in
theorem ggL_law_X4_costByWeight : GoodIn wsL_law wsX4_costByWeight := goodIn_r _ [635, 17, 16, 627, 111, 112, 15, 113, 30, 35, 36, 37, 38, 39, 40, 41, 31, 114, 115, 116, 117, 118, 119, 120, 121, 34, 122, 123, 51, 124, 104, 48, 105, 636, 637, 638, 639, 129, 130, 131, 132, 640, 402, 403, 404, 348, 405, 406, 407, 408, 180, 181, 182, 183, 409, 345, 346, 347, 349, 47, 49, 350, 351, 352, 353, 220, 221, 222, 223, 212, 213, 214, 215, 224, 225, 226, 227, 228, 229, 354, 355, 356, 357, 358, 359, 360, 361, 873, 874, 875, 876, 890, 891, 892, 893, 894, 895, 896, 897, 898, 899, 900, 901, 902, 903, 913, 914] (by decide +kernel) (by decide +kernel)
set_option maxRecDepth 20000 in
theorem gL_law_X4_costByWeight : GoodIn wsL_law (wsV RL 139 RX4 yX4_costByWeight wsX4_costByWeight) := goodIn_app (goodIn_of _ (by decide +kernel)) ggL_law_X4_costByWeight
set_option maxRecDepth 20000 in
theorem ggL_law_X5_costByWeight : GoodIn wsL_law wsX5_costByWeight := goodIn_r _ [644, 145, 645, 646, 647, 5, 648, 74, 78, 374, 375, 376, 377, 386, 387, 388, 389, 263, 264, 265, 266, 247, 248, 249, 250, 649, 650, 651, 652, 877, 878, 879, 880, 881, 882, 883, 884, 885, 886, 887, 888, 889] (by decide +kernel) (by decide +kernel)
set_option maxRecDepth 20000 in
theorem gL_law_X5_costByWeight : GoodIn wsL_law (wsV RL 142 RX5 yX5_costByWeight wsX5_costByWeight) := goodIn_app (goodIn_of _ (by decide +kernel)) ggL_law_X5_costByWeight
set_option maxRecDepth 20000 in
theorem ggL_law_X4_costByNumber : GoodIn wsL_law wsX4_costByNumber := goodIn_r _ [656, 17, 16, 627, 111, 112, 15, 113, 30, 35, 36, 37, 38, 39, 40, 41, 31, 114, 115, 116, 117, 118, 119, 120, 121, 34, 122, 123, 51, 124, 104, 48, 105, 657, 658, 659, 660, 129, 130, 131, 132, 180, 181, 182, 183, 409, 345, 346, 347, 348, 349, 47, 49, 350, 351, 352, 353, 220, 221, 222, 223, 212, 213, 214, 215, 224, 225, 226, 227, 228, 229, 354, 355, 356, 357, 358, 359, 360, 361, 873, 874, 875, 876, 890, 891, 892, 893, 894, 895, 896, 897, 898, 899, 900, 901, 902, 903, 913, 914] (by decide +kernel) (by decide +kernel)
set_option maxRecDepth 20000 in
theorem gL_law_X4_costByNumber : GoodIn wsL_law (wsV RL 143 RX4 yX4_costByNumber wsX4_costByNumber) := goodIn_app (goodIn_of _ (by decide +kernel)) ggL_law_X4_costByNumber
