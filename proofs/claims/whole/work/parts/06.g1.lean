set_option maxRecDepth 20000 in
theorem ggX1_reduce_X1_unusedRowWith : GoodIn wsX1_reduce wsX1_unusedRowWith := goodIn_r _ [9, 1, 2, 4, 41, 42, 43, 44, 45, 46, 47] (by decide +kernel) (by decide +kernel)
set_option maxRecDepth 20000 in
theorem gX1_reduce_X1_unusedRowWith : GoodIn wsX1_reduce (wsV RX1 36 RX1 yX1_unusedRowWith wsX1_unusedRowWith) := goodIn_app (goodIn_of _ (by decide +kernel)) ggX1_reduce_X1_unusedRowWith
set_option maxRecDepth 20000 in
theorem ggX1_reduce_X1_swap : GoodIn wsX1_reduce wsX1_swap := goodIn_r _ [13, 4, 41, 42, 43, 44, 45, 46, 47] (by decide +kernel) (by decide +kernel)
set_option maxRecDepth 20000 in
theorem gX1_reduce_X1_swap : GoodIn wsX1_reduce (wsV RX1 40 RX1 yX1_swap wsX1_swap) := goodIn_app (goodIn_of _ (by decide +kernel)) ggX1_reduce_X1_swap
set_option maxRecDepth 20000 in
theorem ggX1_reduce_X1_makeUnit : GoodIn wsX1_reduce wsX1_makeUnit := goodIn_r _ [17, 2, 18, 19, 20, 21, 8, 22, 41, 42, 43, 44, 45, 46, 47] (by decide +kernel) (by decide +kernel)
set_option maxRecDepth 20000 in
theorem gX1_reduce_X1_makeUnit : GoodIn wsX1_reduce (wsV RX1 44 RX1 yX1_makeUnit wsX1_makeUnit) := goodIn_app (goodIn_of _ (by decide +kernel)) ggX1_reduce_X1_makeUnit
set_option maxRecDepth 20000 in
theorem ggX1_reduce_X1_clearElsewhere : GoodIn wsX1_reduce wsX1_clearElsewhere := goodIn_r _ [26, 2, 4, 18, 27, 28, 29, 8, 30, 41, 42, 43, 44, 45, 46, 47] (by decide +kernel) (by decide +kernel)
set_option maxRecDepth 20000 in
theorem gX1_reduce_X1_clearElsewhere : GoodIn wsX1_reduce (wsV RX1 48 RX1 yX1_clearElsewhere wsX1_clearElsewhere) := goodIn_app (goodIn_of _ (by decide +kernel)) ggX1_reduce_X1_clearElsewhere
set_option maxRecDepth 20000 in
theorem ggX1_reduce_X1_readQuietPatterns : GoodIn wsX1_reduce wsX1_readQuietPatterns := goodIn_r _ [34, 35, 2, 3, 36, 37, 38, 39, 8, 40, 18, 4, 41, 42, 43, 44, 45, 46, 47] (by decide +kernel) (by decide +kernel)
set_option maxRecDepth 20000 in
theorem gX1_reduce_X1_readQuietPatterns : GoodIn wsX1_reduce (wsV RX1 51 RX1 yX1_readQuietPatterns wsX1_readQuietPatterns) := goodIn_app (goodIn_of _ (by decide +kernel)) ggX1_reduce_X1_readQuietPatterns
set_option maxRecDepth 20000 in
theorem ggX1_answersUpTo_X1_agree : GoodIn wsX1_answersUpTo wsX1_agree := goodIn_r _ [7, 8, 9, 10, 11, 12, 13, 14, 15, 16, 17] (by decide +kernel) (by decide +kernel)
set_option maxRecDepth 20000 in
theorem gX1_answersUpTo_X1_agree : GoodIn wsX1_answersUpTo (wsV RX1 54 RX1 yX1_agree wsX1_agree) := goodIn_app (goodIn_of _ (by decide +kernel)) ggX1_answersUpTo_X1_agree
set_option maxRecDepth 20000 in
theorem ggX1_makeUnit_X1_inverse : GoodIn wsX1_makeUnit wsX1_inverse := goodIn_r _ [7, 2, 8, 9, 10, 11, 12, 13, 14] (by decide +kernel) (by decide +kernel)
set_option maxRecDepth 20000 in
theorem gX1_makeUnit_X1_inverse : GoodIn wsX1_makeUnit (wsV RX1 58 RX1 yX1_inverse wsX1_inverse) := goodIn_app (goodIn_of _ (by decide +kernel)) ggX1_makeUnit_X1_inverse
set_option maxRecDepth 20000 in
theorem ggX1_clearElsewhere_X1_addMultiple : GoodIn wsX1_clearElsewhere wsX1_addMultiple := goodIn_r _ [8, 1, 3, 9, 10, 11, 12, 13, 14, 15] (by decide +kernel) (by decide +kernel)
set_option maxRecDepth 20000 in
theorem gX1_clearElsewhere_X1_addMultiple : GoodIn wsX1_clearElsewhere (wsV RX1 61 RX1 yX1_addMultiple wsX1_addMultiple) := goodIn_app (goodIn_of _ (by decide +kernel)) ggX1_clearElsewhere_X1_addMultiple
set_option maxRecDepth 20000 in
theorem ggX1_readQuietPatterns_X1_readQuietPattern : GoodIn wsX1_readQuietPatterns wsX1_readQuietPattern := goodIn_r _ [9, 2, 3, 10, 11, 12, 13, 14, 15, 16, 17, 18] (by decide +kernel) (by decide +kernel)
set_option maxRecDepth 20000 in
theorem gX1_readQuietPatterns_X1_readQuietPattern : GoodIn wsX1_readQuietPatterns (wsV RX1 65 RX1 yX1_readQuietPattern wsX1_readQuietPattern) := goodIn_app (goodIn_of _ (by decide +kernel)) ggX1_readQuietPatterns_X1_readQuietPattern
set_option maxRecDepth 20000 in
theorem ggX2_run_X1_answersUpTo : GoodIn wsX2_run wsX1_answersUpTo := goodIn_r _ [6, 7, 8, 9, 10, 11, 5, 12, 13, 14, 15, 74, 75, 76, 77, 78, 79, 80] (by decide +kernel) (by decide +kernel)
set_option maxRecDepth 20000 in
theorem gX2_run_X1_answersUpTo : GoodIn wsX2_run (wsV RX2 31 RX1 yX1_answersUpTo wsX1_answersUpTo) := goodIn_app (goodIn_of _ (by decide +kernel)) ggX2_run_X1_answersUpTo
set_option maxRecDepth 20000 in
theorem ggX2_run_X2_begin : GoodIn wsX2_run wsX2_begin := goodIn_r _ [20, 21, 22, 23, 24, 25, 26, 5, 27, 28, 15, 14, 29, 30, 31, 19, 32, 33, 34, 35, 36, 1, 37, 38, 39, 40, 41, 68, 69, 70, 71, 72, 73, 74, 75, 76, 77, 78, 79, 80] (by decide +kernel) (by decide +kernel)
set_option maxRecDepth 20000 in
theorem gX2_run_X2_begin : GoodIn wsX2_run (wsV RX2 37 RX2 yX2_begin wsX2_begin) := goodIn_app (goodIn_of _ (by decide +kernel)) ggX2_run_X2_begin
set_option maxRecDepth 20000 in
theorem ggX2_run_X2_advance : GoodIn wsX2_run wsX2_advance := goodIn_r _ [45, 23, 46, 47, 48, 49, 5, 50, 7, 51, 52, 53, 54, 55, 56, 57, 58, 19, 59, 21, 22, 68, 69, 70, 71, 72, 73, 74, 75, 76, 77, 78, 79, 80] (by decide +kernel) (by decide +kernel)
set_option maxRecDepth 20000 in
theorem gX2_run_X2_advance : GoodIn wsX2_run (wsV RX2 41 RX2 yX2_advance wsX2_advance) := goodIn_app (goodIn_of _ (by decide +kernel)) ggX2_run_X2_advance
set_option maxRecDepth 20000 in
theorem ggX2_run_X2_keepIfLess : GoodIn wsX2_run wsX2_keepIfLess := goodIn_r _ [63, 1, 29, 30, 31, 19, 32, 21, 22, 64, 65, 66, 67, 37, 33, 34, 35, 36, 38, 39, 40, 41, 68, 69, 70, 71, 72, 73] (by decide +kernel) (by decide +kernel)
set_option maxRecDepth 20000 in
theorem gX2_run_X2_keepIfLess : GoodIn wsX2_run (wsV RX2 44 RX2 yX2_keepIfLess wsX2_keepIfLess) := goodIn_app (goodIn_of _ (by decide +kernel)) ggX2_run_X2_keepIfLess
set_option maxRecDepth 20000 in
theorem ggX2_begin_X1_pressesOf : GoodIn wsX2_begin wsX1_pressesOf := goodIn_r _ [8, 9, 10, 11, 33, 34, 35, 36, 37, 38, 39] (by decide +kernel) (by decide +kernel)
set_option maxRecDepth 20000 in
theorem gX2_begin_X1_pressesOf : GoodIn wsX2_begin (wsV RX2 47 RX1 yX1_pressesOf wsX1_pressesOf) := goodIn_app (goodIn_of _ (by decide +kernel)) ggX2_begin_X1_pressesOf
set_option maxRecDepth 20000 in
theorem ggX2_begin_X2_totalTried : GoodIn wsX2_begin wsX2_totalTried := goodIn_r _ [16, 1, 2, 27, 28, 29, 30, 31, 32] (by decide +kernel) (by decide +kernel)
set_option maxRecDepth 20000 in
theorem gX2_begin_X2_totalTried : GoodIn wsX2_begin (wsV RX2 50 RX2 yX2_totalTried wsX2_totalTried) := goodIn_app (goodIn_of _ (by decide +kernel)) ggX2_begin_X2_totalTried
set_option maxRecDepth 20000 in
theorem ggX2_begin_X2_keep : GoodIn wsX2_begin wsX2_keep := goodIn_r _ [20, 21, 2, 22, 1, 23, 24, 25, 26, 27, 28, 29, 30, 31, 32] (by decide +kernel) (by decide +kernel)
set_option maxRecDepth 20000 in
theorem gX2_begin_X2_keep : GoodIn wsX2_begin (wsV RX2 54 RX2 yX2_keep wsX2_keep) := goodIn_app (goodIn_of _ (by decide +kernel)) ggX2_begin_X2_keep
set_option maxRecDepth 20000 in
theorem ggX2_advance_X1_freeLamps : GoodIn wsX2_advance wsX1_freeLamps := goodIn_r _ [7, 8, 27, 28, 29, 30, 31, 32, 33] (by decide +kernel) (by decide +kernel)
set_option maxRecDepth 20000 in
theorem gX2_advance_X1_freeLamps : GoodIn wsX2_advance (wsV RX2 58 RX1 yX1_freeLamps wsX1_freeLamps) := goodIn_app (goodIn_of _ (by decide +kernel)) ggX2_advance_X1_freeLamps
set_option maxRecDepth 20000 in
theorem ggX2_advance_X1_quietPattern : GoodIn wsX2_advance wsX1_quietPattern := goodIn_r _ [12, 13, 27, 28, 29, 30, 31, 32, 33] (by decide +kernel) (by decide +kernel)
set_option maxRecDepth 20000 in
theorem gX2_advance_X1_quietPattern : GoodIn wsX2_advance (wsV RX2 61 RX1 yX1_quietPattern wsX1_quietPattern) := goodIn_app (goodIn_of _ (by decide +kernel)) ggX2_advance_X1_quietPattern
set_option maxRecDepth 20000 in
theorem ggX2_advance_X2_addToTried : GoodIn wsX2_advance wsX2_addToTried := goodIn_r _ [18, 19, 20, 2, 21, 22, 23, 24, 25, 26] (by decide +kernel) (by decide +kernel)
set_option maxRecDepth 20000 in
theorem gX2_advance_X2_addToTried : GoodIn wsX2_advance (wsV RX2 65 RX2 yX2_addToTried wsX2_addToTried) := goodIn_app (goodIn_of _ (by decide +kernel)) ggX2_advance_X2_addToTried
set_option maxRecDepth 20000 in
theorem ggX2_keepIfLess_X2_totalTried : GoodIn wsX2_keepIfLess wsX2_totalTried := goodIn_r _ [6, 7, 8, 22, 23, 24, 25, 26, 27] (by decide +kernel) (by decide +kernel)
set_option maxRecDepth 20000 in
theorem gX2_keepIfLess_X2_totalTried : GoodIn wsX2_keepIfLess (wsV RX2 50 RX2 yX2_totalTried wsX2_totalTried) := goodIn_app (goodIn_of _ (by decide +kernel)) ggX2_keepIfLess_X2_totalTried
set_option maxRecDepth 20000 in
theorem ggX2_keepIfLess_X2_triedIsAhead : GoodIn wsX2_keepIfLess wsX2_triedIsAhead := goodIn_r _ [12, 7, 8, 13, 22, 23, 24, 25, 26, 27] (by decide +kernel) (by decide +kernel)
set_option maxRecDepth 20000 in
theorem gX2_keepIfLess_X2_triedIsAhead : GoodIn wsX2_keepIfLess (wsV RX2 69 RX2 yX2_triedIsAhead wsX2_triedIsAhead) := goodIn_app (goodIn_of _ (by decide +kernel)) ggX2_keepIfLess_X2_triedIsAhead
set_option maxRecDepth 20000 in
theorem ggX2_keepIfLess_X2_keep : GoodIn wsX2_keepIfLess wsX2_keep := goodIn_r _ [17, 1, 8, 13, 7, 18, 19, 20, 21, 22, 23, 24, 25, 26, 27] (by decide +kernel) (by decide +kernel)
set_option maxRecDepth 20000 in
theorem gX2_keepIfLess_X2_keep : GoodIn wsX2_keepIfLess (wsV RX2 54 RX2 yX2_keep wsX2_keep) := goodIn_app (goodIn_of _ (by decide +kernel)) ggX2_keepIfLess_X2_keep
