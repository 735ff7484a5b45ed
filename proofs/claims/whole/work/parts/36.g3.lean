set_option maxRecDepth 20000 in
theorem ggX3_init_X3_primeFor : GoodIn wsX3_init wsX3_primeFor := goodIn_r _ [34] (by decide +kernel) (by decide +kernel)
set_option maxRecDepth 20000 in
theorem gX3_init_X3_primeFor : GoodIn wsX3_init (va_wsS RX3 22 yX3_primeFor wsX3_primeFor) := goodIn_app (goodIn_of _ (by decide +kernel)) ggX3_init_X3_primeFor
set_option maxRecDepth 20000 in
theorem ggX3_init_X1_init : GoodIn wsX3_init wsX1_init := goodIn_r _ [37, 38, 2, 3, 39, 40, 41, 13, 42, 43, 44, 45, 46, 73, 74, 75, 76, 77, 78, 79] (by decide +kernel) (by decide +kernel)
set_option maxRecDepth 20000 in
theorem gX3_init_X1_init : GoodIn wsX3_init (wsX1_init) := ggX3_init_X1_init
set_option maxRecDepth 20000 in
theorem ggX3_init_X2_init : GoodIn wsX3_init wsX2_init := goodIn_r _ [49, 50, 2, 3, 51, 52, 13, 53, 54, 55, 56, 80, 81, 82, 83, 84, 85] (by decide +kernel) (by decide +kernel)
set_option maxRecDepth 20000 in
theorem gX3_init_X2_init : GoodIn wsX3_init (wsX2_init) := ggX3_init_X2_init
set_option maxRecDepth 20000 in
theorem ggX3_init_X0_init : GoodIn wsX3_init wsX0_init := goodIn_r _ [59, 60, 2, 3, 13, 61, 62, 86, 87] (by decide +kernel) (by decide +kernel)
set_option maxRecDepth 20000 in
theorem gX3_init_X0_init : GoodIn wsX3_init (wsX0_init) := ggX3_init_X0_init
set_option maxRecDepth 20000 in
theorem ggX3_join_X3_mustExist : GoodIn wsX3_join wsX3_mustExist := goodIn_r _ [6, 7, 8, 9, 10, 21, 22, 23, 24, 25, 26, 27, 28, 29, 30, 31, 32, 33, 34, 35, 36] (by decide +kernel) (by decide +kernel)
set_option maxRecDepth 20000 in
theorem gX3_join_X3_mustExist : GoodIn wsX3_join (wsV RX3 69 RX3 yX3_mustExist wsX3_mustExist) := goodIn_app (goodIn_of _ (by decide +kernel)) ggX3_join_X3_mustExist
set_option maxRecDepth 20000 in
theorem ggX3_join_X3_touches : GoodIn wsX3_join wsX3_touches := goodIn_r _ [14, 1, 21, 22, 23, 24, 25, 26, 27, 28, 29, 30] (by decide +kernel) (by decide +kernel)
set_option maxRecDepth 20000 in
theorem gX3_join_X3_touches : GoodIn wsX3_join (wsV RX3 73 RX3 yX3_touches wsX3_touches) := goodIn_app (goodIn_of _ (by decide +kernel)) ggX3_join_X3_touches
set_option maxRecDepth 20000 in
theorem ggX3_join_X3_forget : GoodIn wsX3_join wsX3_forget := goodIn_r _ [18, 19, 20, 21, 22, 23, 24, 25, 26, 27, 28, 29, 30] (by decide +kernel) (by decide +kernel)
set_option maxRecDepth 20000 in
theorem gX3_join_X3_forget : GoodIn wsX3_join (wsV RX3 77 RX3 yX3_forget wsX3_forget) := goodIn_app (goodIn_of _ (by decide +kernel)) ggX3_join_X3_forget
set_option maxRecDepth 20000 in
theorem ggX3_self_X3_mustExist : GoodIn wsX3_self wsX3_mustExist := goodIn_r _ [6, 7, 8, 9, 10, 21, 22, 23, 24, 25, 26, 27, 28, 29, 30, 31, 32, 33, 34, 35, 36] (by decide +kernel) (by decide +kernel)
set_option maxRecDepth 20000 in
theorem gX3_self_X3_mustExist : GoodIn wsX3_self (wsV RX3 69 RX3 yX3_mustExist wsX3_mustExist) := goodIn_app (goodIn_of _ (by decide +kernel)) ggX3_self_X3_mustExist
set_option maxRecDepth 20000 in
theorem ggX3_self_X3_touches : GoodIn wsX3_self wsX3_touches := goodIn_r _ [14, 1, 21, 22, 23, 24, 25, 26, 27, 28, 29, 30] (by decide +kernel) (by decide +kernel)
set_option maxRecDepth 20000 in
theorem gX3_self_X3_touches : GoodIn wsX3_self (wsV RX3 73 RX3 yX3_touches wsX3_touches) := goodIn_app (goodIn_of _ (by decide +kernel)) ggX3_self_X3_touches
set_option maxRecDepth 20000 in
theorem ggX3_self_X3_forget : GoodIn wsX3_self wsX3_forget := goodIn_r _ [18, 19, 20, 21, 22, 23, 24, 25, 26, 27, 28, 29, 30] (by decide +kernel) (by decide +kernel)
set_option maxRecDepth 20000 in
theorem gX3_self_X3_forget : GoodIn wsX3_self (wsV RX3 77 RX3 yX3_forget wsX3_forget) := goodIn_app (goodIn_of _ (by decide +kernel)) ggX3_self_X3_forget
set_option maxRecDepth 20000 in
theorem ggX3_set_X3_mustExist : GoodIn wsX3_set wsX3_mustExist := goodIn_r _ [6, 7, 8, 9, 10, 22, 23, 24, 25, 26, 27, 28, 29, 30, 31, 32, 33, 34, 35, 36, 37] (by decide +kernel) (by decide +kernel)
set_option maxRecDepth 20000 in
theorem gX3_set_X3_mustExist : GoodIn wsX3_set (wsV RX3 69 RX3 yX3_mustExist wsX3_mustExist) := goodIn_app (goodIn_of _ (by decide +kernel)) ggX3_set_X3_mustExist
set_option maxRecDepth 20000 in
theorem ggX3_set_X3_isState : GoodIn wsX3_set wsX3_isState := goodIn_r _ [14, 15, 22, 23, 24, 25, 26, 27, 28, 29, 30, 31] (by decide +kernel) (by decide +kernel)
set_option maxRecDepth 20000 in
theorem gX3_set_X3_isState : GoodIn wsX3_set (wsV RX3 80 RX3 yX3_isState wsX3_isState) := goodIn_app (goodIn_of _ (by decide +kernel)) ggX3_set_X3_isState
set_option maxRecDepth 20000 in
theorem ggX3_set_X3_forget : GoodIn wsX3_set wsX3_forget := goodIn_r _ [19, 20, 21, 22, 23, 24, 25, 26, 27, 28, 29, 30, 31] (by decide +kernel) (by decide +kernel)
set_option maxRecDepth 20000 in
theorem gX3_set_X3_forget : GoodIn wsX3_set (wsV RX3 77 RX3 yX3_forget wsX3_forget) := goodIn_app (goodIn_of _ (by decide +kernel)) ggX3_set_X3_forget
set_option maxRecDepth 20000 in
theorem ggX3_want_X3_mustExist : GoodIn wsX3_want wsX3_mustExist := goodIn_r _ [6, 7, 8, 9, 10, 22, 23, 24, 25, 26, 27, 28, 29, 30, 31, 32, 33, 34, 35, 36, 37] (by decide +kernel) (by decide +kernel)
set_option maxRecDepth 20000 in
theorem gX3_want_X3_mustExist : GoodIn wsX3_want (wsV RX3 69 RX3 yX3_mustExist wsX3_mustExist) := goodIn_app (goodIn_of _ (by decide +kernel)) ggX3_want_X3_mustExist
set_option maxRecDepth 20000 in
theorem ggX3_want_X3_isState : GoodIn wsX3_want wsX3_isState := goodIn_r _ [14, 15, 22, 23, 24, 25, 26, 27, 28, 29, 30, 31] (by decide +kernel) (by decide +kernel)
set_option maxRecDepth 20000 in
theorem gX3_want_X3_isState : GoodIn wsX3_want (wsV RX3 80 RX3 yX3_isState wsX3_isState) := goodIn_app (goodIn_of _ (by decide +kernel)) ggX3_want_X3_isState
set_option maxRecDepth 20000 in
theorem ggX3_want_X3_forget : GoodIn wsX3_want wsX3_forget := goodIn_r _ [19, 20, 21, 22, 23, 24, 25, 26, 27, 28, 29, 30, 31] (by decide +kernel) (by decide +kernel)
set_option maxRecDepth 20000 in
theorem gX3_want_X3_forget : GoodIn wsX3_want (wsV RX3 77 RX3 yX3_forget wsX3_forget) := goodIn_app (goodIn_of _ (by decide +kernel)) ggX3_want_X3_forget
set_option maxRecDepth 20000 in
theorem ggX3_press_X3_mustExist : GoodIn wsX3_press wsX3_mustExist := goodIn_r _ [8, 1, 9, 10, 11, 23, 24, 25, 26, 27, 28, 29, 30, 31, 32, 33, 34, 35, 36, 37, 38] (by decide +kernel) (by decide +kernel)
set_option maxRecDepth 20000 in
theorem gX3_press_X3_mustExist : GoodIn wsX3_press (wsV RX3 69 RX3 yX3_mustExist wsX3_mustExist) := goodIn_app (goodIn_of _ (by decide +kernel)) ggX3_press_X3_mustExist
set_option maxRecDepth 20000 in
theorem ggX3_press_X3_touches : GoodIn wsX3_press wsX3_touches := goodIn_r _ [15, 16, 23, 24, 25, 26, 27, 28, 29, 30, 31, 32] (by decide +kernel) (by decide +kernel)
set_option maxRecDepth 20000 in
theorem gX3_press_X3_touches : GoodIn wsX3_press (wsV RX3 73 RX3 yX3_touches wsX3_touches) := goodIn_app (goodIn_of _ (by decide +kernel)) ggX3_press_X3_touches
set_option maxRecDepth 20000 in
theorem ggX3_press_X3_forget : GoodIn wsX3_press wsX3_forget := goodIn_r _ [20, 21, 22, 23, 24, 25, 26, 27, 28, 29, 30, 31, 32] (by decide +kernel) (by decide +kernel)
set_option maxRecDepth 20000 in
theorem gX3_press_X3_forget : GoodIn wsX3_press (wsV RX3 77 RX3 yX3_forget wsX3_forget) := goodIn_app (goodIn_of _ (by decide +kernel)) ggX3_press_X3_forget
set_option maxRecDepth 20000 in
theorem ggX3_at_X3_mustExist : GoodIn wsX3_at wsX3_mustExist := goodIn_r _ [6, 7, 8, 9, 10, 11, 12, 13, 14, 15, 16, 17, 18, 19, 20, 21, 22, 23, 24, 25, 26] (by decide +kernel) (by decide +kernel)
set_option maxRecDepth 20000 in
theorem gX3_at_X3_mustExist : GoodIn wsX3_at (wsV RX3 69 RX3 yX3_mustExist wsX3_mustExist) := goodIn_app (goodIn_of _ (by decide +kernel)) ggX3_at_X3_mustExist
set_option maxRecDepth 20000 in
theorem ggX3_rank_X3_work : GoodIn wsX3_rank wsX3_work := goodIn_r _ [6, 7, 1, 8, 9, 10, 11, 12, 13, 14, 15, 16, 17, 18, 19, 20, 21, 22, 23, 24, 25, 26, 27, 28, 29, 30, 31, 32, 33, 34, 35, 36, 37, 38, 39, 40, 41, 42, 43, 44, 45, 46, 47, 48, 49, 50, 51, 52, 53, 54, 55, 56, 57, 58, 63, 64, 65, 66, 67, 68, 69, 70, 71, 72, 73, 74, 75, 76, 77, 78, 79] (by decide +kernel) (by decide +kernel)
set_option maxRecDepth 20000 in
theorem gX3_rank_X3_work : GoodIn wsX3_rank (wsV RX3 84 RX3 yX3_work wsX3_work) := goodIn_app (goodIn_of _ (by decide +kernel)) ggX3_rank_X3_work
set_option maxRecDepth 20000 in
theorem ggX3_rank_X1_boundLamps : GoodIn wsX3_rank wsX1_boundLamps := goodIn_r _ [62, 23, 73, 74, 75, 76, 77, 78, 79] (by decide +kernel) (by decide +kernel)
set_option maxRecDepth 20000 in
theorem gX3_rank_X1_boundLamps : GoodIn wsX3_rank (wsV RX3 87 RX1 yX1_boundLamps wsX1_boundLamps) := goodIn_app (goodIn_of _ (by decide +kernel)) ggX3_rank_X1_boundLamps
set_option maxRecDepth 20000 in
theorem ggX3_solvable_X3_work : GoodIn wsX3_solvable wsX3_work := goodIn_r _ [6, 7, 1, 8, 9, 10, 11, 12, 13, 14, 15, 16, 17, 18, 19, 20, 21, 22, 23, 24, 25, 26, 27, 28, 29, 30, 31, 32, 33, 34, 35, 36, 37, 38, 39, 40, 41, 42, 43, 44, 45, 46, 47, 48, 49, 50, 51, 52, 53, 54, 55, 56, 57, 58, 63, 64, 65, 66, 67, 68, 69, 70, 71, 72, 73, 74, 75, 76, 77, 78, 79] (by decide +kernel) (by decide +kernel)
set_option maxRecDepth 20000 in
theorem gX3_solvable_X3_work : GoodIn wsX3_solvable (wsV RX3 84 RX3 yX3_work wsX3_work) := goodIn_app (goodIn_of _ (by decide +kernel)) ggX3_solvable_X3_work
set_option maxRecDepth 20000 in
theorem ggX3_solvable_X1_agree : GoodIn wsX3_solvable wsX1_agree := goodIn_r _ [62, 23, 16, 17, 73, 74, 75, 76, 77, 78, 79] (by decide +kernel) (by decide +kernel)
set_option maxRecDepth 20000 in
theorem gX3_solvable_X1_agree : GoodIn wsX3_solvable (wsV RX3 91 RX1 yX1_agree wsX1_agree) := goodIn_app (goodIn_of _ (by decide +kernel)) ggX3_solvable_X1_agree
set_option maxRecDepth 20000 in
theorem ggX3_answer_X3_mustExist : GoodIn wsX3_answer wsX3_mustExist := goodIn_r _ [6, 7, 8, 9, 10, 75, 76, 77, 78, 79, 80, 81, 82, 83, 84, 85, 86, 87, 88, 89, 90] (by decide +kernel) (by decide +kernel)
set_option maxRecDepth 20000 in
theorem gX3_answer_X3_mustExist : GoodIn wsX3_answer (wsV RX3 69 RX3 yX3_mustExist wsX3_mustExist) := goodIn_app (goodIn_of _ (by decide +kernel)) ggX3_answer_X3_mustExist
set_option maxRecDepth 20000 in
theorem ggX3_answer_X3_work : GoodIn wsX3_answer wsX3_work := goodIn_r _ [14, 15, 1, 16, 17, 18, 19, 20, 21, 22, 23, 24, 25, 26, 27, 28, 29, 30, 31, 32, 33, 34, 35, 36, 37, 38, 39, 40, 41, 42, 43, 44, 45, 46, 47, 48, 49, 50, 51, 52, 53, 54, 55, 56, 57, 58, 59, 60, 61, 62, 63, 64, 65, 66, 75, 76, 77, 78, 79, 80, 81, 82, 83, 84, 91, 92, 93, 94, 95, 96, 97] (by decide +kernel) (by decide +kernel)
set_option maxRecDepth 20000 in
theorem gX3_answer_X3_work : GoodIn wsX3_answer (wsV RX3 84 RX3 yX3_work wsX3_work) := goodIn_app (goodIn_of _ (by decide +kernel)) ggX3_answer_X3_work
set_option maxRecDepth 20000 in
theorem ggX3_answer_X1_agree : GoodIn wsX3_answer wsX1_agree := goodIn_r _ [70, 31, 24, 25, 91, 92, 93, 94, 95, 96, 97] (by decide +kernel) (by decide +kernel)
set_option maxRecDepth 20000 in
theorem gX3_answer_X1_agree : GoodIn wsX3_answer (wsV RX3 91 RX1 yX1_agree wsX1_agree) := goodIn_app (goodIn_of _ (by decide +kernel)) ggX3_answer_X1_agree
set_option maxRecDepth 20000 in
theorem ggX3_answer_X1_pressesOf : GoodIn wsX3_answer wsX1_pressesOf := goodIn_r _ [74, 32, 25, 24, 91, 92, 93, 94, 95, 96, 97] (by decide +kernel) (by decide +kernel)
set_option maxRecDepth 20000 in
theorem gX3_answer_X1_pressesOf : GoodIn wsX3_answer (wsV RX3 95 RX1 yX1_pressesOf wsX1_pressesOf) := goodIn_app (goodIn_of _ (by decide +kernel)) ggX3_answer_X1_pressesOf
set_option maxRecDepth 20000 in
theorem ggX3_quiet_X3_mustExist : GoodIn wsX3_quiet wsX3_mustExist := goodIn_r _ [6, 7, 8, 9, 10, 75, 76, 77, 78, 79, 80, 81, 82, 83, 84, 85, 86, 87, 88, 89, 90] (by decide +kernel) (by decide +kernel)
set_option maxRecDepth 20000 in
theorem gX3_quiet_X3_mustExist : GoodIn wsX3_quiet (wsV RX3 69 RX3 yX3_mustExist wsX3_mustExist) := goodIn_app (goodIn_of _ (by decide +kernel)) ggX3_quiet_X3_mustExist
set_option maxRecDepth 20000 in
theorem ggX3_quiet_X3_work : GoodIn wsX3_quiet wsX3_work := goodIn_r _ [14, 15, 1, 16, 17, 18, 19, 20, 21, 22, 23, 24, 25, 26, 27, 28, 29, 30, 31, 32, 33, 34, 35, 36, 37, 38, 39, 40, 41, 42, 43, 44, 45, 46, 47, 48, 49, 50, 51, 52, 53, 54, 55, 56, 57, 58, 59, 60, 61, 62, 63, 64, 65, 66, 75, 76, 77, 78, 79, 80, 81, 82, 83, 84, 91, 92, 93, 94, 95, 96, 97] (by decide +kernel) (by decide +kernel)
set_option maxRecDepth 20000 in
theorem gX3_quiet_X3_work : GoodIn wsX3_quiet (wsV RX3 84 RX3 yX3_work wsX3_work) := goodIn_app (goodIn_of _ (by decide +kernel)) ggX3_quiet_X3_work
set_option maxRecDepth 20000 in
theorem ggX3_quiet_X1_freeLamps : GoodIn wsX3_quiet wsX1_freeLamps := goodIn_r _ [70, 61, 91, 92, 93, 94, 95, 96, 97] (by decide +kernel) (by decide +kernel)
set_option maxRecDepth 20000 in
theorem gX3_quiet_X1_freeLamps : GoodIn wsX3_quiet (wsV RX3 98 RX1 yX1_freeLamps wsX1_freeLamps) := goodIn_app (goodIn_of _ (by decide +kernel)) ggX3_quiet_X1_freeLamps
set_option maxRecDepth 20000 in
theorem ggX3_quiet_X1_quietPattern : GoodIn wsX3_quiet wsX1_quietPattern := goodIn_r _ [74, 62, 91, 92, 93, 94, 95, 96, 97] (by decide +kernel) (by decide +kernel)
set_option maxRecDepth 20000 in
theorem gX3_quiet_X1_quietPattern : GoodIn wsX3_quiet (wsV RX3 101 RX1 yX1_quietPattern wsX1_quietPattern) := goodIn_app (goodIn_of _ (by decide +kernel)) ggX3_quiet_X1_quietPattern
set_option maxRecDepth 20000 in
theorem ggX3_count_X3_work : GoodIn wsX3_count wsX3_work := goodIn_r _ [8, 9, 2, 10, 11, 12, 13, 14, 15, 16, 17, 18, 19, 20, 21, 22, 23, 24, 25, 26, 27, 28, 29, 30, 31, 32, 33, 34, 35, 36, 37, 38, 39, 40, 41, 42, 43, 44, 45, 46, 47, 48, 49, 50, 51, 52, 53, 54, 55, 56, 57, 58, 59, 60, 84, 85, 86, 87, 88, 89, 90, 91, 92, 93, 94, 95, 96, 97, 98, 99, 100] (by decide +kernel) (by decide +kernel)
set_option maxRecDepth 20000 in
theorem gX3_count_X3_work : GoodIn wsX3_count (wsV RX3 84 RX3 yX3_work wsX3_work) := goodIn_app (goodIn_of _ (by decide +kernel)) ggX3_count_X3_work
set_option maxRecDepth 20000 in
theorem ggX3_count_X1_agree : GoodIn wsX3_count wsX1_agree := goodIn_r _ [64, 25, 18, 19, 94, 95, 96, 97, 98, 99, 100] (by decide +kernel) (by decide +kernel)
set_option maxRecDepth 20000 in
theorem gX3_count_X1_agree : GoodIn wsX3_count (wsV RX3 91 RX1 yX1_agree wsX1_agree) := goodIn_app (goodIn_of _ (by decide +kernel)) ggX3_count_X1_agree
set_option maxRecDepth 20000 in
theorem ggX3_count_X0_become : GoodIn wsX3_count wsX0_become := goodIn_r _ [69, 70, 71, 101, 102] (by decide +kernel) (by decide +kernel)
set_option maxRecDepth 20000 in
theorem gX3_count_X0_become : GoodIn wsX3_count (wsV RX3 105 RX0 yX0_become wsX0_become) := goodIn_app (goodIn_of _ (by decide +kernel)) ggX3_count_X0_become
set_option maxRecDepth 20000 in
theorem ggX3_count_X1_freeLamps : GoodIn wsX3_count wsX1_freeLamps := goodIn_r _ [75, 55, 94, 95, 96, 97, 98, 99, 100] (by decide +kernel) (by decide +kernel)
set_option maxRecDepth 20000 in
theorem gX3_count_X1_freeLamps : GoodIn wsX3_count (wsV RX3 98 RX1 yX1_freeLamps wsX1_freeLamps) := goodIn_app (goodIn_of _ (by decide +kernel)) ggX3_count_X1_freeLamps
set_option maxRecDepth 20000 in
theorem ggX3_count_X0_multiply : GoodIn wsX3_count wsX0_multiply := goodIn_r _ [79, 71, 70, 101, 102] (by decide +kernel) (by decide +kernel)
set_option maxRecDepth 20000 in
theorem gX3_count_X0_multiply : GoodIn wsX3_count (wsV RX3 108 RX0 yX0_multiply wsX0_multiply) := goodIn_app (goodIn_of _ (by decide +kernel)) ggX3_count_X0_multiply
set_option maxRecDepth 20000 in
theorem ggX3_count_X0_digit : GoodIn wsX3_count wsX0_digit := goodIn_r _ [83, 71, 70, 101, 102] (by decide +kernel) (by decide +kernel)
set_option maxRecDepth 20000 in
theorem gX3_count_X0_digit : GoodIn wsX3_count (wsV RX3 111 RX0 yX0_digit wsX0_digit) := goodIn_app (goodIn_of _ (by decide +kernel)) ggX3_count_X0_digit
set_option maxRecDepth 20000 in
theorem ggX3_fewest_X3_seek : GoodIn wsX3_fewest wsX3_seek := goodIn_r _ [6, 7, 1, 8, 9, 10, 11, 5, 12, 13, 14, 15, 16, 17, 18, 19, 20, 21, 22, 23, 24, 25, 26, 27, 28, 29, 30, 31, 32, 33, 34, 35, 36, 37, 38, 39, 40, 41, 42, 43, 44, 45, 46, 47, 48, 49, 50, 51, 52, 53, 54, 55, 56, 57, 58, 59, 60, 61, 62, 63, 64, 65, 66, 67, 68, 69, 70, 71, 72, 73, 74, 75, 76, 77, 78, 79, 80, 81, 82, 83, 84, 85, 86, 87, 88, 89, 90, 91, 92, 93, 94, 95, 96, 97, 98, 99, 100, 101, 102, 103, 104, 105, 106, 107, 108, 109, 110, 111, 112, 113, 114, 115, 116, 117, 118, 119, 120, 121, 122, 123, 124, 125, 126, 127, 132, 133, 134, 135, 136, 137, 138, 139, 140, 141, 142, 143, 144, 145, 146, 147, 148, 149, 150, 151, 152, 153, 154] (by decide +kernel) (by decide +kernel)
set_option maxRecDepth 20000 in
theorem gX3_fewest_X3_seek : GoodIn wsX3_fewest (wsV RX3 114 RX3 yX3_seek wsX3_seek) := goodIn_app (goodIn_of _ (by decide +kernel)) ggX3_fewest_X3_seek
set_option maxRecDepth 20000 in
theorem ggX3_fewest_X2_leastTotal : GoodIn wsX3_fewest wsX2_leastTotal := goodIn_r _ [131, 70, 149, 150, 151, 152, 153, 154] (by decide +kernel) (by decide +kernel)
set_option maxRecDepth 20000 in
theorem gX3_fewest_X2_leastTotal : GoodIn wsX3_fewest (wsV RX3 117 RX2 yX2_leastTotal wsX2_leastTotal) := goodIn_app (goodIn_of _ (by decide +kernel)) ggX3_fewest_X2_leastTotal
set_option maxRecDepth 20000 in
theorem ggX3_best_X3_mustExist : GoodIn wsX3_best wsX3_mustExist := goodIn_r _ [6, 7, 8, 9, 10, 144, 145, 146, 147, 148, 149, 150, 151, 152, 153, 154, 155, 156, 157, 158, 159] (by decide +kernel) (by decide +kernel)
set_option maxRecDepth 20000 in
theorem gX3_best_X3_mustExist : GoodIn wsX3_best (wsV RX3 69 RX3 yX3_mustExist wsX3_mustExist) := goodIn_app (goodIn_of _ (by decide +kernel)) ggX3_best_X3_mustExist
set_option maxRecDepth 20000 in
theorem ggX3_best_X3_seek : GoodIn wsX3_best wsX3_seek := goodIn_r _ [14, 15, 1, 16, 17, 18, 19, 5, 20, 21, 22, 23, 24, 25, 26, 27, 28, 29, 30, 31, 32, 33, 34, 35, 36, 37, 38, 39, 40, 41, 42, 43, 44, 45, 46, 47, 48, 49, 50, 51, 52, 53, 54, 55, 56, 57, 58, 59, 60, 61, 62, 63, 64, 65, 66, 67, 68, 69, 70, 71, 72, 73, 74, 75, 76, 77, 78, 79, 80, 81, 82, 83, 84, 85, 86, 87, 88, 89, 90, 91, 92, 93, 94, 95, 96, 97, 98, 99, 100, 101, 102, 103, 104, 105, 106, 107, 108, 109, 110, 111, 112, 113, 114, 115, 116, 117, 118, 119, 120, 121, 122, 123, 124, 125, 126, 127, 128, 129, 130, 131, 132, 133, 134, 135, 144, 145, 146, 147, 148, 149, 150, 151, 152, 153, 160, 161, 162, 163, 164, 165, 166, 167, 168, 169, 170, 171, 172] (by decide +kernel) (by decide +kernel)
set_option maxRecDepth 20000 in
theorem gX3_best_X3_seek : GoodIn wsX3_best (wsV RX3 114 RX3 yX3_seek wsX3_seek) := goodIn_app (goodIn_of _ (by decide +kernel)) ggX3_best_X3_seek
set_option maxRecDepth 20000 in
theorem ggX3_best_X2_leastTotal : GoodIn wsX3_best wsX2_leastTotal := goodIn_r _ [139, 78, 167, 168, 169, 170, 171, 172] (by decide +kernel) (by decide +kernel)
set_option maxRecDepth 20000 in
theorem gX3_best_X2_leastTotal : GoodIn wsX3_best (wsV RX3 117 RX2 yX2_leastTotal wsX2_leastTotal) := goodIn_app (goodIn_of _ (by decide +kernel)) ggX3_best_X2_leastTotal
set_option maxRecDepth 20000 in
theorem ggX3_best_X2_leastPresses : GoodIn wsX3_best wsX2_leastPresses := goodIn_r _ [143, 106, 167, 168, 169, 170, 171, 172] (by decide +kernel) (by decide +kernel)
set_option maxRecDepth 20000 in
theorem gX3_best_X2_leastPresses : GoodIn wsX3_best (wsV RX3 120 RX2 yX2_leastPresses wsX2_leastPresses) := goodIn_app (goodIn_of _ (by decide +kernel)) ggX3_best_X2_leastPresses
set_option maxRecDepth 20000 in
theorem ggX3_alone_X3_mustExist : GoodIn wsX3_alone wsX3_mustExist := goodIn_r _ [6, 7, 8, 9, 10, 75, 76, 77, 78, 79, 80, 81, 82, 83, 84, 85, 86, 87, 88, 89, 90] (by decide +kernel) (by decide +kernel)
set_option maxRecDepth 20000 in
theorem gX3_alone_X3_mustExist : GoodIn wsX3_alone (wsV RX3 69 RX3 yX3_mustExist wsX3_mustExist) := goodIn_app (goodIn_of _ (by decide +kernel)) ggX3_alone_X3_mustExist
set_option maxRecDepth 20000 in
theorem ggX3_alone_X3_work : GoodIn wsX3_alone wsX3_work := goodIn_r _ [14, 15, 1, 16, 17, 18, 19, 20, 21, 22, 23, 24, 25, 26, 27, 28, 29, 30, 31, 32, 33, 34, 35, 36, 37, 38, 39, 40, 41, 42, 43, 44, 45, 46, 47, 48, 49, 50, 51, 52, 53, 54, 55, 56, 57, 58, 59, 60, 61, 62, 63, 64, 65, 66, 75, 76, 77, 78, 79, 80, 81, 82, 83, 84, 91, 92, 93, 94, 95, 96, 97] (by decide +kernel) (by decide +kernel)
set_option maxRecDepth 20000 in
theorem gX3_alone_X3_work : GoodIn wsX3_alone (wsV RX3 84 RX3 yX3_work wsX3_work) := goodIn_app (goodIn_of _ (by decide +kernel)) ggX3_alone_X3_work
set_option maxRecDepth 20000 in
theorem ggX3_alone_X1_freeLamps : GoodIn wsX3_alone wsX1_freeLamps := goodIn_r _ [70, 61, 91, 92, 93, 94, 95, 96, 97] (by decide +kernel) (by decide +kernel)
set_option maxRecDepth 20000 in
theorem gX3_alone_X1_freeLamps : GoodIn wsX3_alone (wsV RX3 98 RX1 yX1_freeLamps wsX1_freeLamps) := goodIn_app (goodIn_of _ (by decide +kernel)) ggX3_alone_X1_freeLamps
set_option maxRecDepth 20000 in
theorem ggX3_alone_X1_quietPattern : GoodIn wsX3_alone wsX1_quietPattern := goodIn_r _ [74, 62, 91, 92, 93, 94, 95, 96, 97] (by decide +kernel) (by decide +kernel)
set_option maxRecDepth 20000 in
theorem gX3_alone_X1_quietPattern : GoodIn wsX3_alone (wsV RX3 101 RX1 yX1_quietPattern wsX1_quietPattern) := goodIn_app (goodIn_of _ (by decide +kernel)) ggX3_alone_X1_quietPattern
set_option maxRecDepth 20000 in
theorem ggX3_clear_X3_forget : GoodIn wsX3_clear wsX3_forget := goodIn_r _ [8, 9, 10, 11, 12, 13, 14, 15, 16, 17, 18, 19, 20] (by decide +kernel) (by decide +kernel)
set_option maxRecDepth 20000 in
theorem gX3_clear_X3_forget : GoodIn wsX3_clear (wsV RX3 77 RX3 yX3_forget wsX3_forget) := goodIn_app (goodIn_of _ (by decide +kernel)) ggX3_clear_X3_forget
set_option maxRecDepth 20000 in
theorem ggX3_work_X1_take : GoodIn wsX3_work wsX1_take := goodIn_r _ [10, 11, 12, 13, 64, 65, 66, 67, 68, 69, 70] (by decide +kernel) (by decide +kernel)
set_option maxRecDepth 20000 in
theorem gX3_work_X1_take : GoodIn wsX3_work (wsV RX3 130 RX1 yX1_take wsX1_take) := goodIn_app (goodIn_of _ (by decide +kernel)) ggX3_work_X1_take
set_option maxRecDepth 20000 in
theorem ggX3_work_X1_reduce : GoodIn wsX3_work wsX1_reduce := goodIn_r _ [17, 18, 11, 19, 12, 20, 21, 22, 9, 23, 24, 25, 26, 27, 28, 29, 30, 31, 13, 32, 33, 34, 35, 36, 37, 38, 39, 40, 41, 42, 43, 44, 45, 46, 47, 48, 49, 50, 51, 52, 53, 64, 65, 66, 67, 68, 69, 70] (by decide +kernel) (by decide +kernel)
set_option maxRecDepth 20000 in
theorem gX3_work_X1_reduce : GoodIn wsX3_work (wsV RX3 134 RX1 yX1_reduce wsX1_reduce) := goodIn_app (goodIn_of _ (by decide +kernel)) ggX3_work_X1_reduce
set_option maxRecDepth 20000 in
theorem ggX3_seek_X3_work : GoodIn wsX3_seek wsX3_work := goodIn_r _ [8, 9, 3, 10, 11, 12, 13, 14, 15, 16, 17, 18, 19, 20, 21, 22, 23, 24, 25, 26, 27, 28, 29, 30, 31, 32, 33, 34, 35, 36, 37, 38, 39, 40, 41, 42, 43, 44, 45, 46, 47, 48, 49, 50, 51, 52, 53, 54, 55, 56, 57, 58, 59, 60, 124, 125, 126, 127, 128, 129, 130, 131, 132, 133, 134, 135, 136, 137, 138, 139, 140] (by decide +kernel) (by decide +kernel)
set_option maxRecDepth 20000 in
theorem gX3_seek_X3_work : GoodIn wsX3_seek (wsV RX3 84 RX3 yX3_work wsX3_work) := goodIn_app (goodIn_of _ (by decide +kernel)) ggX3_seek_X3_work
set_option maxRecDepth 20000 in
theorem ggX3_seek_X2_run : GoodIn wsX3_seek wsX2_run := goodIn_r _ [65, 66, 67, 68, 69, 16, 70, 55, 20, 71, 72, 73, 74, 25, 18, 19, 75, 76, 77, 64, 78, 79, 80, 81, 82, 83, 84, 85, 26, 86, 87, 88, 89, 90, 91, 92, 93, 94, 95, 96, 97, 98, 99, 100, 101, 102, 103, 104, 105, 106, 107, 108, 109, 110, 111, 56, 112, 113, 114, 115, 116, 117, 118, 119, 120, 121, 122, 123, 141, 142, 143, 144, 145, 146, 134, 135, 136, 137, 138, 139, 140] (by decide +kernel) (by decide +kernel)
set_option maxRecDepth 20000 in
theorem gX3_seek_X2_run : GoodIn wsX3_seek (wsV RX3 137 RX2 yX2_run wsX2_run) := goodIn_app (goodIn_of _ (by decide +kernel)) ggX3_seek_X2_run
