set_option maxRecDepth 20000 in
theorem ggL_goes_L_key : GoodIn wsL_goes wsL_key := goodIn_r _ [4] (by decide +kernel) (by decide +kernel)
set_option maxRecDepth 20000 in
theorem gL_goes_L_key : GoodIn wsL_goes (va_wsS RL 9 yL_key wsL_key) := goodIn_app (goodIn_of _ (by decide +kernel)) ggL_goes_L_key
set_option maxRecDepth 20000 in
theorem ggL_goes_L_weight : GoodIn wsL_goes wsL_weight := goodIn_r _ [7] (by decide +kernel) (by decide +kernel)
set_option maxRecDepth 20000 in
theorem gL_goes_L_weight : GoodIn wsL_goes (va_wsS RL 15 yL_weight wsL_weight) := goodIn_app (goodIn_of _ (by decide +kernel)) ggL_goes_L_weight
set_option maxRecDepth 20000 in
theorem ggL_goes_L_pack : GoodIn wsL_goes wsL_pack := goodIn_r _ [10] (by decide +kernel) (by decide +kernel)
set_option maxRecDepth 20000 in
theorem gL_goes_L_pack : GoodIn wsL_goes (va_wsS RL 18 yL_pack wsL_pack) := goodIn_app (goodIn_of _ (by decide +kernel)) ggL_goes_L_pack
set_option maxRecDepth 20000 in
theorem ggL_isLess_L_key : GoodIn wsL_isLess wsL_key := goodIn_r _ [4] (by decide +kernel) (by decide +kernel)
set_option maxRecDepth 20000 in
theorem gL_isLess_L_key : GoodIn wsL_isLess (va_wsS RL 9 yL_key wsL_key) := goodIn_app (goodIn_of _ (by decide +kernel)) ggL_isLess_L_key
set_option maxRecDepth 20000 in
theorem ggL_many_L_where : GoodIn wsL_many wsL_where := goodIn_r _ [4] (by decide +kernel) (by decide +kernel)
set_option maxRecDepth 20000 in
theorem gL_many_L_where : GoodIn wsL_many (va_wsS RL 22 yL_where wsL_where) := goodIn_app (goodIn_of _ (by decide +kernel)) ggL_many_L_where
set_option maxRecDepth 20000 in
theorem ggL_many_L_run : GoodIn wsL_many wsL_run := goodIn_r _ [7] (by decide +kernel) (by decide +kernel)
set_option maxRecDepth 20000 in
theorem gL_many_L_run : GoodIn wsL_many (va_wsS RL 25 yL_run wsL_run) := goodIn_app (goodIn_of _ (by decide +kernel)) ggL_many_L_run
set_option maxRecDepth 20000 in
theorem ggL_weighs_L_where : GoodIn wsL_weighs wsL_where := goodIn_r _ [4] (by decide +kernel) (by decide +kernel)
set_option maxRecDepth 20000 in
theorem gL_weighs_L_where : GoodIn wsL_weighs (va_wsS RL 22 yL_where wsL_where) := goodIn_app (goodIn_of _ (by decide +kernel)) ggL_weighs_L_where
set_option maxRecDepth 20000 in
theorem ggL_weighs_L_run : GoodIn wsL_weighs wsL_run := goodIn_r _ [7] (by decide +kernel) (by decide +kernel)
set_option maxRecDepth 20000 in
theorem gL_weighs_L_run : GoodIn wsL_weighs (va_wsS RL 25 yL_run wsL_run) := goodIn_app (goodIn_of _ (by decide +kernel)) ggL_weighs_L_run
set_option maxRecDepth 20000 in
theorem ggL_weighs_L_weight : GoodIn wsL_weighs wsL_weight := goodIn_r _ [10] (by decide +kernel) (by decide +kernel)
set_option maxRecDepth 20000 in
theorem gL_weighs_L_weight : GoodIn wsL_weighs (va_wsS RL 15 yL_weight wsL_weight) := goodIn_app (goodIn_of _ (by decide +kernel)) ggL_weighs_L_weight
set_option maxRecDepth 20000 in
theorem ggL_ranked_L_where : GoodIn wsL_ranked wsL_where := goodIn_r _ [4] (by decide +kernel) (by decide +kernel)
set_option maxRecDepth 20000 in
theorem gL_ranked_L_where : GoodIn wsL_ranked (va_wsS RL 22 yL_where wsL_where) := goodIn_app (goodIn_of _ (by decide +kernel)) ggL_ranked_L_where
set_option maxRecDepth 20000 in
theorem ggL_ranked_L_run : GoodIn wsL_ranked wsL_run := goodIn_r _ [7] (by decide +kernel) (by decide +kernel)
set_option maxRecDepth 20000 in
theorem gL_ranked_L_run : GoodIn wsL_ranked (va_wsS RL 25 yL_run wsL_run) := goodIn_app (goodIn_of _ (by decide +kernel)) ggL_ranked_L_run
set_option maxRecDepth 20000 in
theorem ggL_ranked_L_isLess : GoodIn wsL_ranked wsL_isLess := goodIn_r _ [10, 11, 12, 3, 13] (by decide +kernel) (by decide +kernel)
set_option maxRecDepth 20000 in
theorem gL_ranked_L_isLess : GoodIn wsL_ranked (va_wsS RL 28 yL_isLess wsL_isLess) := goodIn_app (goodIn_of _ (by decide +kernel)) ggL_ranked_L_isLess
set_option maxRecDepth 20000 in
theorem ggL_lastOf_L_many : GoodIn wsL_lastOf wsL_many := goodIn_r _ [4, 5, 6, 3, 7, 8, 9, 10] (by decide +kernel) (by decide +kernel)
set_option maxRecDepth 20000 in
theorem gL_lastOf_L_many : GoodIn wsL_lastOf (va_wsS RL 32 yL_many wsL_many) := goodIn_app (goodIn_of _ (by decide +kernel)) ggL_lastOf_L_many
set_option maxRecDepth 20000 in
theorem ggL_lastOf_L_ranked : GoodIn wsL_lastOf wsL_ranked := goodIn_r _ [13, 5, 6, 3, 7, 8, 9, 10, 14, 15, 16, 17, 18, 19] (by decide +kernel) (by decide +kernel)
set_option maxRecDepth 20000 in
theorem gL_lastOf_L_ranked : GoodIn wsL_lastOf (va_wsS RL 36 yL_ranked wsL_ranked) := goodIn_app (goodIn_of _ (by decide +kernel)) ggL_lastOf_L_ranked
set_option maxRecDepth 20000 in
theorem ggL_next_L_many : GoodIn wsL_next wsL_many := goodIn_r _ [4, 5, 6, 3, 7, 8, 9, 10] (by decide +kernel) (by decide +kernel)
set_option maxRecDepth 20000 in
theorem gL_next_L_many : GoodIn wsL_next (va_wsS RL 32 yL_many wsL_many) := goodIn_app (goodIn_of _ (by decide +kernel)) ggL_next_L_many
set_option maxRecDepth 20000 in
theorem ggL_next_L_lastOf : GoodIn wsL_next wsL_lastOf := goodIn_r _ [13, 1, 2, 3, 4, 5, 6, 7, 8, 9, 10, 14, 15, 16, 17, 18, 19, 20, 21, 22] (by decide +kernel) (by decide +kernel)
set_option maxRecDepth 20000 in
theorem gL_next_L_lastOf : GoodIn wsL_next (va_wsS RL 40 yL_lastOf wsL_lastOf) := goodIn_app (goodIn_of _ (by decide +kernel)) ggL_next_L_lastOf
set_option maxRecDepth 20000 in
theorem ggL_next_L_ranked : GoodIn wsL_next wsL_ranked := goodIn_r _ [16, 5, 6, 3, 7, 8, 9, 10, 17, 18, 19, 20, 21, 22] (by decide +kernel) (by decide +kernel)
set_option maxRecDepth 20000 in
theorem gL_next_L_ranked : GoodIn wsL_next (va_wsS RL 36 yL_ranked wsL_ranked) := goodIn_app (goodIn_of _ (by decide +kernel)) ggL_next_L_ranked
set_option maxRecDepth 20000 in
theorem ggL_next_L_isLess : GoodIn wsL_next wsL_isLess := goodIn_r _ [19, 20, 21, 3, 22] (by decide +kernel) (by decide +kernel)
set_option maxRecDepth 20000 in
theorem gL_next_L_isLess : GoodIn wsL_next (va_wsS RL 28 yL_isLess wsL_isLess) := goodIn_app (goodIn_of _ (by decide +kernel)) ggL_next_L_isLess
set_option maxRecDepth 20000 in
theorem ggL_throwsOne_L_next : GoodIn wsL_throwsOne wsL_next := goodIn_r _ [4, 5, 6, 3, 7, 8, 9, 10, 11, 12, 13, 14, 15, 16, 17, 18, 19, 20, 21, 22, 23, 24, 25] (by decide +kernel) (by decide +kernel)
set_option maxRecDepth 20000 in
theorem gL_throwsOne_L_next : GoodIn wsL_throwsOne (va_wsS RL 44 yL_next wsL_next) := goodIn_app (goodIn_of _ (by decide +kernel)) ggL_throwsOne_L_next
set_option maxRecDepth 20000 in
theorem ggL_throwsOne_L_lastOf : GoodIn wsL_throwsOne wsL_lastOf := goodIn_r _ [16, 5, 6, 3, 7, 8, 9, 10, 11, 12, 13, 17, 18, 19, 20, 21, 22, 23, 24, 25] (by decide +kernel) (by decide +kernel)
set_option maxRecDepth 20000 in
theorem gL_throwsOne_L_lastOf : GoodIn wsL_throwsOne (va_wsS RL 40 yL_lastOf wsL_lastOf) := goodIn_app (goodIn_of _ (by decide +kernel)) ggL_throwsOne_L_lastOf
set_option maxRecDepth 20000 in
theorem ggL_throwsOne_L_isLess : GoodIn wsL_throwsOne wsL_isLess := goodIn_r _ [22, 23, 24, 3, 25] (by decide +kernel) (by decide +kernel)
set_option maxRecDepth 20000 in
theorem gL_throwsOne_L_isLess : GoodIn wsL_throwsOne (va_wsS RL 28 yL_isLess wsL_isLess) := goodIn_app (goodIn_of _ (by decide +kernel)) ggL_throwsOne_L_isLess
set_option maxRecDepth 20000 in
theorem ggL_throwsOne_L_goes : GoodIn wsL_throwsOne wsL_goes := goodIn_r _ [28, 23, 24, 3, 25, 29, 30, 31, 32, 33, 34] (by decide +kernel) (by decide +kernel)
set_option maxRecDepth 20000 in
theorem gL_throwsOne_L_goes : GoodIn wsL_throwsOne (va_wsS RL 48 yL_goes wsL_goes) := goodIn_app (goodIn_of _ (by decide +kernel)) ggL_throwsOne_L_goes
set_option maxRecDepth 20000 in
theorem ggL_loads_L_many : GoodIn wsL_loads wsL_many := goodIn_r _ [4, 5, 6, 3, 7, 8, 9, 10] (by decide +kernel) (by decide +kernel)
set_option maxRecDepth 20000 in
theorem gL_loads_L_many : GoodIn wsL_loads (va_wsS RL 32 yL_many wsL_many) := goodIn_app (goodIn_of _ (by decide +kernel)) ggL_loads_L_many
set_option maxRecDepth 20000 in
theorem ggL_loads_L_throwsOne : GoodIn wsL_loads wsL_throwsOne := goodIn_r _ [13, 14, 15, 3, 16, 1, 2, 4, 5, 6, 7, 8, 9, 10, 17, 18, 19, 20, 21, 22, 23, 24, 25, 26, 27, 28, 29, 30, 31, 32, 33, 34, 35, 36, 37] (by decide +kernel) (by decide +kernel)
set_option maxRecDepth 20000 in
theorem gL_loads_L_throwsOne : GoodIn wsL_loads (va_wsS RL 52 yL_throwsOne wsL_throwsOne) := goodIn_app (goodIn_of _ (by decide +kernel)) ggL_loads_L_throwsOne
