set_option maxRecDepth 20000 in
theorem ggX4_join_X4_isLamp : GoodIn wsX4_join wsX4_isLamp := goodIn_r _ [7, 8, 14, 15, 16, 17, 18, 19, 20, 21, 22, 23, 24, 25, 26, 27, 28, 29, 30, 31, 32, 33] (by decide +kernel) (by decide +kernel)
set_option maxRecDepth 20000 in
theorem gX4_join_X4_isLamp : GoodIn wsX4_join (wsV RX4 66 RX4 yX4_isLamp wsX4_isLamp) := goodIn_app (goodIn_of _ (by decide +kernel)) ggX4_join_X4_isLamp
set_option maxRecDepth 20000 in
theorem ggX4_join_X4_fails : GoodIn wsX4_join wsX4_fails := goodIn_r _ [12, 13, 14, 15, 16, 17, 18, 19, 20, 21, 22, 23, 24, 25, 26, 27, 28, 29, 30, 31, 32, 33] (by decide +kernel) (by decide +kernel)
set_option maxRecDepth 20000 in
theorem gX4_join_X4_fails : GoodIn wsX4_join (wsV RX4 70 RX4 yX4_fails wsX4_fails) := goodIn_app (goodIn_of _ (by decide +kernel)) ggX4_join_X4_fails
set_option maxRecDepth 20000 in
theorem ggX4_self_X4_isLamp : GoodIn wsX4_self wsX4_isLamp := goodIn_r _ [7, 8, 14, 15, 16, 17, 18, 19, 20, 21, 22, 23, 24, 25, 26, 27, 28, 29, 30, 31, 32, 33] (by decide +kernel) (by decide +kernel)
set_option maxRecDepth 20000 in
theorem gX4_self_X4_isLamp : GoodIn wsX4_self (wsV RX4 66 RX4 yX4_isLamp wsX4_isLamp) := goodIn_app (goodIn_of _ (by decide +kernel)) ggX4_self_X4_isLamp
set_option maxRecDepth 20000 in
theorem ggX4_self_X4_fails : GoodIn wsX4_self wsX4_fails := goodIn_r _ [12, 13, 14, 15, 16, 17, 18, 19, 20, 21, 22, 23, 24, 25, 26, 27, 28, 29, 30, 31, 32, 33] (by decide +kernel) (by decide +kernel)
set_option maxRecDepth 20000 in
theorem gX4_self_X4_fails : GoodIn wsX4_self (wsV RX4 70 RX4 yX4_fails wsX4_fails) := goodIn_app (goodIn_of _ (by decide +kernel)) ggX4_self_X4_fails
set_option maxRecDepth 20000 in
theorem ggX4_set_X4_isLamp : GoodIn wsX4_set wsX4_isLamp := goodIn_r _ [6, 7, 18, 19, 20, 21, 22, 23, 24, 25, 26, 27, 28, 29, 30, 31, 32, 33, 34, 35, 36, 37] (by decide +kernel) (by decide +kernel)
set_option maxRecDepth 20000 in
theorem gX4_set_X4_isLamp : GoodIn wsX4_set (wsV RX4 66 RX4 yX4_isLamp wsX4_isLamp) := goodIn_app (goodIn_of _ (by decide +kernel)) ggX4_set_X4_isLamp
set_option maxRecDepth 20000 in
theorem ggX4_set_X4_fails : GoodIn wsX4_set wsX4_fails := goodIn_r _ [11, 12, 18, 19, 20, 21, 22, 23, 24, 25, 26, 27, 28, 29, 30, 31, 32, 33, 34, 35, 36, 37] (by decide +kernel) (by decide +kernel)
set_option maxRecDepth 20000 in
theorem gX4_set_X4_fails : GoodIn wsX4_set (wsV RX4 70 RX4 yX4_fails wsX4_fails) := goodIn_app (goodIn_of _ (by decide +kernel)) ggX4_set_X4_fails
set_option maxRecDepth 20000 in
theorem ggX4_set_X4_isState : GoodIn wsX4_set wsX4_isState := goodIn_r _ [16, 17, 18, 19, 20, 21, 22, 23, 24, 25, 26, 27, 28, 29, 30, 31, 32, 33, 34, 35, 36, 37] (by decide +kernel) (by decide +kernel)
set_option maxRecDepth 20000 in
theorem gX4_set_X4_isState : GoodIn wsX4_set (wsV RX4 78 RX4 yX4_isState wsX4_isState) := goodIn_app (goodIn_of _ (by decide +kernel)) ggX4_set_X4_isState
set_option maxRecDepth 20000 in
theorem ggX4_want_X4_isLamp : GoodIn wsX4_want wsX4_isLamp := goodIn_r _ [6, 7, 18, 19, 20, 21, 22, 23, 24, 25, 26, 27, 28, 29, 30, 31, 32, 33, 34, 35, 36, 37] (by decide +kernel) (by decide +kernel)
set_option maxRecDepth 20000 in
theorem gX4_want_X4_isLamp : GoodIn wsX4_want (wsV RX4 66 RX4 yX4_isLamp wsX4_isLamp) := goodIn_app (goodIn_of _ (by decide +kernel)) ggX4_want_X4_isLamp
set_option maxRecDepth 20000 in
theorem ggX4_want_X4_fails : GoodIn wsX4_want wsX4_fails := goodIn_r _ [11, 12, 18, 19, 20, 21, 22, 23, 24, 25, 26, 27, 28, 29, 30, 31, 32, 33, 34, 35, 36, 37] (by decide +kernel) (by decide +kernel)
set_option maxRecDepth 20000 in
theorem gX4_want_X4_fails : GoodIn wsX4_want (wsV RX4 70 RX4 yX4_fails wsX4_fails) := goodIn_app (goodIn_of _ (by decide +kernel)) ggX4_want_X4_fails
set_option maxRecDepth 20000 in
theorem ggX4_want_X4_isState : GoodIn wsX4_want wsX4_isState := goodIn_r _ [16, 17, 18, 19, 20, 21, 22, 23, 24, 25, 26, 27, 28, 29, 30, 31, 32, 33, 34, 35, 36, 37] (by decide +kernel) (by decide +kernel)
set_option maxRecDepth 20000 in
theorem gX4_want_X4_isState : GoodIn wsX4_want (wsV RX4 78 RX4 yX4_isState wsX4_isState) := goodIn_app (goodIn_of _ (by decide +kernel)) ggX4_want_X4_isState
set_option maxRecDepth 20000 in
theorem ggX4_press_X4_isLamp : GoodIn wsX4_press wsX4_isLamp := goodIn_r _ [8, 1, 20, 21, 22, 23, 24, 25, 26, 27, 28, 29, 30, 31, 32, 33, 34, 35, 36, 37, 38, 39] (by decide +kernel) (by decide +kernel)
set_option maxRecDepth 20000 in
theorem gX4_press_X4_isLamp : GoodIn wsX4_press (wsV RX4 66 RX4 yX4_isLamp wsX4_isLamp) := goodIn_app (goodIn_of _ (by decide +kernel)) ggX4_press_X4_isLamp
set_option maxRecDepth 20000 in
theorem ggX4_press_X4_fails : GoodIn wsX4_press wsX4_fails := goodIn_r _ [12, 13, 20, 21, 22, 23, 24, 25, 26, 27, 28, 29, 30, 31, 32, 33, 34, 35, 36, 37, 38, 39] (by decide +kernel) (by decide +kernel)
set_option maxRecDepth 20000 in
theorem gX4_press_X4_fails : GoodIn wsX4_press (wsV RX4 70 RX4 yX4_fails wsX4_fails) := goodIn_app (goodIn_of _ (by decide +kernel)) ggX4_press_X4_fails
set_option maxRecDepth 20000 in
theorem ggX4_press_X4_effect : GoodIn wsX4_press wsX4_effect := goodIn_r _ [17, 18, 19, 20, 21, 22, 23, 24, 25, 26, 27, 28, 29, 30, 31, 32, 33, 34, 35, 36, 37, 38, 39] (by decide +kernel) (by decide +kernel)
set_option maxRecDepth 20000 in
theorem gX4_press_X4_effect : GoodIn wsX4_press (wsV RX4 81 RX4 yX4_effect wsX4_effect) := goodIn_app (goodIn_of _ (by decide +kernel)) ggX4_press_X4_effect
set_option maxRecDepth 20000 in
theorem ggX4_at_X4_isLamp : GoodIn wsX4_at wsX4_isLamp := goodIn_r _ [6, 7, 13, 14, 15, 16, 17, 18, 19, 20, 21, 22, 23, 24, 25, 26, 27, 28, 29, 30, 31, 32] (by decide +kernel) (by decide +kernel)
set_option maxRecDepth 20000 in
theorem gX4_at_X4_isLamp : GoodIn wsX4_at (wsV RX4 66 RX4 yX4_isLamp wsX4_isLamp) := goodIn_app (goodIn_of _ (by decide +kernel)) ggX4_at_X4_isLamp
set_option maxRecDepth 20000 in
theorem ggX4_at_X4_fails : GoodIn wsX4_at wsX4_fails := goodIn_r _ [11, 12, 13, 14, 15, 16, 17, 18, 19, 20, 21, 22, 23, 24, 25, 26, 27, 28, 29, 30, 31, 32] (by decide +kernel) (by decide +kernel)
set_option maxRecDepth 20000 in
theorem gX4_at_X4_fails : GoodIn wsX4_at (wsV RX4 70 RX4 yX4_fails wsX4_fails) := goodIn_app (goodIn_of _ (by decide +kernel)) ggX4_at_X4_fails
set_option maxRecDepth 20000 in
theorem ggX4_takeApart_X4_inverse : GoodIn wsX4_takeApart wsX4_inverse := goodIn_r _ [13, 7, 14, 15, 16, 17, 18, 19, 20, 21, 22, 23, 24, 25, 26, 27, 28, 29, 30, 31, 32, 33] (by decide +kernel) (by decide +kernel)
set_option maxRecDepth 20000 in
theorem gX4_takeApart_X4_inverse : GoodIn wsX4_takeApart (wsV RX4 88 RX4 yX4_inverse wsX4_inverse) := goodIn_app (goodIn_of _ (by decide +kernel)) ggX4_takeApart_X4_inverse
set_option maxRecDepth 20000 in
theorem ggX4_know_X4_effect : GoodIn wsX4_know wsX4_effect := goodIn_r _ [16, 17, 18, 31, 32, 33, 34, 35, 36, 37, 38, 39, 40, 41, 42, 43, 44, 45, 46, 47, 48, 49, 50] (by decide +kernel) (by decide +kernel)
set_option maxRecDepth 20000 in
theorem gX4_know_X4_effect : GoodIn wsX4_know (wsV RX4 81 RX4 yX4_effect wsX4_effect) := goodIn_app (goodIn_of _ (by decide +kernel)) ggX4_know_X4_effect
set_option maxRecDepth 20000 in
theorem ggX4_know_X4_takeApart : GoodIn wsX4_know wsX4_takeApart := goodIn_r _ [22, 3, 9, 2, 4, 10, 6, 8, 7, 23, 24, 25, 15, 26, 31, 32, 33, 34, 35, 36, 37, 38, 39, 40, 41, 42, 43, 44, 45, 46, 47, 48, 49, 50] (by decide +kernel) (by decide +kernel)
set_option maxRecDepth 20000 in
theorem gX4_know_X4_takeApart : GoodIn wsX4_know (wsV RX4 92 RX4 yX4_takeApart wsX4_takeApart) := goodIn_app (goodIn_of _ (by decide +kernel)) ggX4_know_X4_takeApart
set_option maxRecDepth 20000 in
theorem ggX4_know_X4_left : GoodIn wsX4_know wsX4_left := goodIn_r _ [30, 3, 4, 31, 32, 33, 34, 35, 36, 37, 38, 39, 40, 41, 42, 43, 44, 45, 46, 47, 48, 49, 50] (by decide +kernel) (by decide +kernel)
set_option maxRecDepth 20000 in
theorem gX4_know_X4_left : GoodIn wsX4_know (wsV RX4 95 RX4 yX4_left wsX4_left) := goodIn_app (goodIn_of _ (by decide +kernel)) ggX4_know_X4_left
set_option maxRecDepth 20000 in
theorem ggX4_rank_X4_know : GoodIn wsX4_rank wsX4_know := goodIn_r _ [7, 8, 2, 9, 10, 11, 12, 13, 14, 15, 16, 17, 18, 19, 20, 6, 21, 22, 23, 24, 25, 26, 27, 28, 29, 30, 31, 32, 33, 34, 35, 36, 37, 38, 39, 40, 41, 42, 43, 44, 45, 46, 47, 48, 49, 50, 51, 52, 53, 54, 55] (by decide +kernel) (by decide +kernel)
set_option maxRecDepth 20000 in
theorem gX4_rank_X4_know : GoodIn wsX4_rank (wsV RX4 99 RX4 yX4_know wsX4_know) := goodIn_app (goodIn_of _ (by decide +kernel)) ggX4_rank_X4_know
set_option maxRecDepth 20000 in
theorem ggX4_answers_X4_know : GoodIn wsX4_answers wsX4_know := goodIn_r _ [12, 13, 14, 1, 2, 15, 16, 17, 4, 7, 18, 19, 20, 21, 22, 11, 23, 24, 25, 26, 27, 28, 29, 30, 31, 32, 33, 34, 35, 36, 37, 38, 39, 40, 41, 42, 43, 44, 45, 46, 47, 48, 49, 50, 51, 52, 53, 54, 55, 56, 57] (by decide +kernel) (by decide +kernel)
set_option maxRecDepth 20000 in
theorem gX4_answers_X4_know : GoodIn wsX4_answers (wsV RX4 99 RX4 yX4_know wsX4_know) := goodIn_app (goodIn_of _ (by decide +kernel)) ggX4_answers_X4_know
set_option maxRecDepth 20000 in
theorem ggX4_answers_X4_takeApart : GoodIn wsX4_answers wsX4_takeApart := goodIn_r _ [29, 1, 7, 14, 2, 18, 16, 4, 17, 30, 31, 32, 11, 33, 38, 39, 40, 41, 42, 43, 44, 45, 46, 47, 48, 49, 50, 51, 52, 53, 54, 55, 56, 57] (by decide +kernel) (by decide +kernel)
set_option maxRecDepth 20000 in
theorem gX4_answers_X4_takeApart : GoodIn wsX4_answers (wsV RX4 92 RX4 yX4_takeApart wsX4_takeApart) := goodIn_app (goodIn_of _ (by decide +kernel)) ggX4_answers_X4_takeApart
set_option maxRecDepth 20000 in
theorem ggX4_answers_X4_left : GoodIn wsX4_answers wsX4_left := goodIn_r _ [37, 1, 2, 38, 39, 40, 41, 42, 43, 44, 45, 46, 47, 48, 49, 50, 51, 52, 53, 54, 55, 56, 57] (by decide +kernel) (by decide +kernel)
set_option maxRecDepth 20000 in
theorem gX4_answers_X4_left : GoodIn wsX4_answers (wsV RX4 95 RX4 yX4_left wsX4_left) := goodIn_app (goodIn_of _ (by decide +kernel)) ggX4_answers_X4_left
set_option maxRecDepth 20000 in
theorem ggX4_solvable_X4_answers : GoodIn wsX4_solvable wsX4_answers := goodIn_r _ [6, 7, 8, 9, 10, 11, 12, 13, 14, 15, 16, 5, 17, 18, 19, 20, 21, 22, 23, 24, 25, 26, 27, 28, 29, 30, 31, 32, 33, 34, 35, 36, 37, 38, 39, 40, 41, 42, 43, 44, 45, 46, 47, 48, 49, 50, 51, 52, 53, 54, 55, 56, 57, 58, 59, 60, 61, 62] (by decide +kernel) (by decide +kernel)
set_option maxRecDepth 20000 in
theorem gX4_solvable_X4_answers : GoodIn wsX4_solvable (wsV RX4 102 RX4 yX4_answers wsX4_answers) := goodIn_app (goodIn_of _ (by decide +kernel)) ggX4_solvable_X4_answers
set_option maxRecDepth 20000 in
theorem ggX4_answer_X4_isLamp : GoodIn wsX4_answer wsX4_isLamp := goodIn_r _ [6, 7, 51, 52, 53, 54, 55, 56, 57, 58, 59, 60, 61, 62, 63, 64, 65, 66, 67, 68, 69, 70] (by decide +kernel) (by decide +kernel)
set_option maxRecDepth 20000 in
theorem gX4_answer_X4_isLamp : GoodIn wsX4_answer (wsV RX4 66 RX4 yX4_isLamp wsX4_isLamp) := goodIn_app (goodIn_of _ (by decide +kernel)) ggX4_answer_X4_isLamp
set_option maxRecDepth 20000 in
theorem ggX4_answer_X4_fails : GoodIn wsX4_answer wsX4_fails := goodIn_r _ [11, 12, 51, 52, 53, 54, 55, 56, 57, 58, 59, 60, 61, 62, 63, 64, 65, 66, 67, 68, 69, 70] (by decide +kernel) (by decide +kernel)
set_option maxRecDepth 20000 in
theorem gX4_answer_X4_fails : GoodIn wsX4_answer (wsV RX4 70 RX4 yX4_fails wsX4_fails) := goodIn_app (goodIn_of _ (by decide +kernel)) ggX4_answer_X4_fails
set_option maxRecDepth 20000 in
theorem ggX4_answer_X4_answers : GoodIn wsX4_answer wsX4_answers := goodIn_r _ [16, 7, 17, 18, 19, 20, 1, 21, 22, 23, 24, 5, 25, 26, 27, 28, 29, 30, 31, 32, 33, 34, 35, 36, 37, 38, 39, 40, 41, 42, 43, 44, 45, 46, 47, 48, 49, 50, 51, 52, 53, 54, 55, 56, 57, 58, 59, 60, 61, 62, 63, 64, 65, 66, 67, 68, 69, 70] (by decide +kernel) (by decide +kernel)
set_option maxRecDepth 20000 in
theorem gX4_answer_X4_answers : GoodIn wsX4_answer (wsV RX4 102 RX4 yX4_answers wsX4_answers) := goodIn_app (goodIn_of _ (by decide +kernel)) ggX4_answer_X4_answers
set_option maxRecDepth 20000 in
theorem ggX4_quiet_X4_isLamp : GoodIn wsX4_quiet wsX4_isLamp := goodIn_r _ [8, 1, 44, 45, 46, 47, 48, 49, 50, 51, 52, 53, 54, 55, 56, 57, 58, 59, 60, 61, 62, 63] (by decide +kernel) (by decide +kernel)
set_option maxRecDepth 20000 in
theorem gX4_quiet_X4_isLamp : GoodIn wsX4_quiet (wsV RX4 66 RX4 yX4_isLamp wsX4_isLamp) := goodIn_app (goodIn_of _ (by decide +kernel)) ggX4_quiet_X4_isLamp
set_option maxRecDepth 20000 in
theorem ggX4_quiet_X4_fails : GoodIn wsX4_quiet wsX4_fails := goodIn_r _ [12, 13, 44, 45, 46, 47, 48, 49, 50, 51, 52, 53, 54, 55, 56, 57, 58, 59, 60, 61, 62, 63] (by decide +kernel) (by decide +kernel)
set_option maxRecDepth 20000 in
theorem gX4_quiet_X4_fails : GoodIn wsX4_quiet (wsV RX4 70 RX4 yX4_fails wsX4_fails) := goodIn_app (goodIn_of _ (by decide +kernel)) ggX4_quiet_X4_fails
set_option maxRecDepth 20000 in
theorem ggX4_quiet_X4_know : GoodIn wsX4_quiet wsX4_know := goodIn_r _ [17, 18, 2, 1, 19, 20, 21, 22, 23, 24, 25, 3, 26, 27, 28, 7, 29, 30, 31, 32, 33, 34, 35, 36, 37, 38, 39, 40, 41, 42, 43, 44, 45, 46, 47, 48, 49, 50, 51, 52, 53, 54, 55, 56, 57, 58, 59, 60, 61, 62, 63] (by decide +kernel) (by decide +kernel)
set_option maxRecDepth 20000 in
theorem gX4_quiet_X4_know : GoodIn wsX4_quiet (wsV RX4 99 RX4 yX4_know wsX4_know) := goodIn_app (goodIn_of _ (by decide +kernel)) ggX4_quiet_X4_know
set_option maxRecDepth 20000 in
theorem ggX4_count_X4_answers : GoodIn wsX4_count wsX4_answers := goodIn_r _ [10, 3, 11, 12, 5, 13, 14, 15, 16, 17, 18, 9, 19, 20, 4, 21, 22, 23, 24, 25, 26, 27, 28, 29, 30, 31, 32, 33, 34, 35, 36, 37, 38, 39, 40, 41, 42, 43, 44, 45, 46, 47, 48, 49, 50, 51, 52, 53, 54, 55, 56, 57, 58, 59, 60, 61, 62, 63] (by decide +kernel) (by decide +kernel)
set_option maxRecDepth 20000 in
theorem gX4_count_X4_answers : GoodIn wsX4_count (wsV RX4 102 RX4 yX4_answers wsX4_answers) := goodIn_app (goodIn_of _ (by decide +kernel)) ggX4_count_X4_answers
set_option maxRecDepth 20000 in
theorem ggX4_findBest_X4_answers : GoodIn wsX4_findBest wsX4_answers := goodIn_r _ [10, 1, 11, 12, 3, 13, 14, 15, 16, 17, 18, 9, 19, 20, 2, 21, 22, 23, 24, 25, 26, 27, 28, 29, 30, 31, 32, 33, 34, 35, 36, 37, 38, 39, 40, 41, 42, 43, 52, 53, 54, 55, 56, 57, 58, 59, 60, 61, 62, 63, 64, 65, 66, 67, 68, 69, 70, 71] (by decide +kernel) (by decide +kernel)
set_option maxRecDepth 20000 in
theorem gX4_findBest_X4_answers : GoodIn wsX4_findBest (wsV RX4 102 RX4 yX4_answers wsX4_answers) := goodIn_app (goodIn_of _ (by decide +kernel)) ggX4_findBest_X4_answers
set_option maxRecDepth 20000 in
theorem ggX4_findBest_X4_tryWay : GoodIn wsX4_findBest wsX4_tryWay := goodIn_r _ [47, 1, 5, 14, 3, 25, 52, 53, 54, 55, 56, 57, 58, 59, 60, 61, 62, 63, 64, 65, 66, 67, 68, 69, 70, 71] (by decide +kernel) (by decide +kernel)
set_option maxRecDepth 20000 in
theorem gX4_findBest_X4_tryWay : GoodIn wsX4_findBest (wsV RX4 106 RX4 yX4_tryWay wsX4_tryWay) := goodIn_app (goodIn_of _ (by decide +kernel)) ggX4_findBest_X4_tryWay
set_option maxRecDepth 20000 in
theorem ggX4_findBest_X4_isLess : GoodIn wsX4_findBest wsX4_isLess := goodIn_r _ [51, 1, 5, 4, 52, 53, 54, 55, 56, 57, 58, 59, 60, 61, 62, 63, 64, 65, 66, 67, 68, 69, 70, 71] (by decide +kernel) (by decide +kernel)
set_option maxRecDepth 20000 in
theorem gX4_findBest_X4_isLess : GoodIn wsX4_findBest (wsV RX4 109 RX4 yX4_isLess wsX4_isLess) := goodIn_app (goodIn_of _ (by decide +kernel)) ggX4_findBest_X4_isLess
set_option maxRecDepth 20000 in
theorem ggX4_fewest_X4_findBest : GoodIn wsX4_fewest wsX4_findBest := goodIn_r _ [6, 7, 8, 9, 10, 11, 12, 13, 14, 5, 15, 16, 17, 18, 19, 20, 21, 22, 23, 24, 25, 26, 27, 28, 29, 30, 31, 32, 33, 34, 35, 36, 37, 38, 39, 40, 41, 42, 43, 44, 45, 46, 47, 48, 49, 50, 51, 52, 53, 54, 55, 56, 57, 58, 59, 60, 61, 62, 63, 64, 65, 66, 67, 68, 69, 70, 71, 72, 73, 74, 75, 76] (by decide +kernel) (by decide +kernel)
set_option maxRecDepth 20000 in
theorem gX4_fewest_X4_findBest : GoodIn wsX4_fewest (wsV RX4 112 RX4 yX4_findBest wsX4_findBest) := goodIn_app (goodIn_of _ (by decide +kernel)) ggX4_fewest_X4_findBest
set_option maxRecDepth 20000 in
theorem ggX4_best_X4_isLamp : GoodIn wsX4_best wsX4_isLamp := goodIn_r _ [6, 7, 65, 66, 67, 68, 69, 70, 71, 72, 73, 74, 75, 76, 77, 78, 79, 80, 81, 82, 83, 84] (by decide +kernel) (by decide +kernel)
set_option maxRecDepth 20000 in
theorem gX4_best_X4_isLamp : GoodIn wsX4_best (wsV RX4 66 RX4 yX4_isLamp wsX4_isLamp) := goodIn_app (goodIn_of _ (by decide +kernel)) ggX4_best_X4_isLamp
set_option maxRecDepth 20000 in
theorem ggX4_best_X4_fails : GoodIn wsX4_best wsX4_fails := goodIn_r _ [11, 12, 65, 66, 67, 68, 69, 70, 71, 72, 73, 74, 75, 76, 77, 78, 79, 80, 81, 82, 83, 84] (by decide +kernel) (by decide +kernel)
set_option maxRecDepth 20000 in
theorem gX4_best_X4_fails : GoodIn wsX4_best (wsV RX4 70 RX4 yX4_fails wsX4_fails) := goodIn_app (goodIn_of _ (by decide +kernel)) ggX4_best_X4_fails
set_option maxRecDepth 20000 in
theorem ggX4_best_X4_findBest : GoodIn wsX4_best wsX4_findBest := goodIn_r _ [16, 7, 17, 18, 1, 19, 20, 21, 22, 5, 23, 24, 25, 26, 27, 28, 29, 30, 31, 32, 33, 34, 35, 36, 37, 38, 39, 40, 41, 42, 43, 44, 45, 46, 47, 48, 49, 50, 51, 52, 53, 54, 55, 56, 57, 58, 59, 60, 61, 62, 63, 64, 65, 66, 67, 68, 69, 70, 71, 72, 73, 74, 75, 76, 77, 78, 79, 80, 81, 82, 83, 84] (by decide +kernel) (by decide +kernel)
set_option maxRecDepth 20000 in
theorem gX4_best_X4_findBest : GoodIn wsX4_best (wsV RX4 112 RX4 yX4_findBest wsX4_findBest) := goodIn_app (goodIn_of _ (by decide +kernel)) ggX4_best_X4_findBest
set_option maxRecDepth 20000 in
theorem ggX4_alone_X4_isLamp : GoodIn wsX4_alone wsX4_isLamp := goodIn_r _ [7, 1, 44, 45, 46, 47, 48, 49, 50, 51, 52, 53, 54, 55, 56, 57, 58, 59, 60, 61, 62, 63] (by decide +kernel) (by decide +kernel)
set_option maxRecDepth 20000 in
theorem gX4_alone_X4_isLamp : GoodIn wsX4_alone (wsV RX4 66 RX4 yX4_isLamp wsX4_isLamp) := goodIn_app (goodIn_of _ (by decide +kernel)) ggX4_alone_X4_isLamp
set_option maxRecDepth 20000 in
theorem ggX4_alone_X4_fails : GoodIn wsX4_alone wsX4_fails := goodIn_r _ [11, 12, 44, 45, 46, 47, 48, 49, 50, 51, 52, 53, 54, 55, 56, 57, 58, 59, 60, 61, 62, 63] (by decide +kernel) (by decide +kernel)
set_option maxRecDepth 20000 in
theorem gX4_alone_X4_fails : GoodIn wsX4_alone (wsV RX4 70 RX4 yX4_fails wsX4_fails) := goodIn_app (goodIn_of _ (by decide +kernel)) ggX4_alone_X4_fails
set_option maxRecDepth 20000 in
theorem ggX4_alone_X4_know : GoodIn wsX4_alone wsX4_know := goodIn_r _ [16, 17, 18, 1, 2, 19, 20, 21, 22, 23, 24, 25, 26, 27, 28, 6, 29, 30, 31, 32, 33, 34, 35, 36, 37, 38, 39, 40, 41, 42, 43, 44, 45, 46, 47, 48, 49, 50, 51, 52, 53, 54, 55, 56, 57, 58, 59, 60, 61, 62, 63] (by decide +kernel) (by decide +kernel)
set_option maxRecDepth 20000 in
theorem gX4_alone_X4_know : GoodIn wsX4_alone (wsV RX4 99 RX4 yX4_know wsX4_know) := goodIn_app (goodIn_of _ (by decide +kernel)) ggX4_alone_X4_know
set_option maxRecDepth 20000 in
theorem ggX4_alone_X4_takeApart : GoodIn wsX4_alone wsX4_takeApart := goodIn_r _ [35, 1, 23, 18, 2, 24, 20, 22, 21, 36, 37, 38, 6, 39, 44, 45, 46, 47, 48, 49, 50, 51, 52, 53, 54, 55, 56, 57, 58, 59, 60, 61, 62, 63] (by decide +kernel) (by decide +kernel)
set_option maxRecDepth 20000 in
theorem gX4_alone_X4_takeApart : GoodIn wsX4_alone (wsV RX4 92 RX4 yX4_takeApart wsX4_takeApart) := goodIn_app (goodIn_of _ (by decide +kernel)) ggX4_alone_X4_takeApart
set_option maxRecDepth 20000 in
theorem ggX4_alone_X4_left : GoodIn wsX4_alone wsX4_left := goodIn_r _ [43, 1, 2, 44, 45, 46, 47, 48, 49, 50, 51, 52, 53, 54, 55, 56, 57, 58, 59, 60, 61, 62, 63] (by decide +kernel) (by decide +kernel)
set_option maxRecDepth 20000 in
theorem gX4_alone_X4_left : GoodIn wsX4_alone (wsV RX4 95 RX4 yX4_left wsX4_left) := goodIn_app (goodIn_of _ (by decide +kernel)) ggX4_alone_X4_left
