set_option maxRecDepth 20000 in
theorem ggL_law_L_press : GoodIn wsL_law wsL_press := goodIn_r _ [180, 181, 182, 183, 2, 184, 24, 27, 25, 104, 105, 106, 107, 108, 109, 110, 111, 112, 113, 114, 29, 115, 116, 117, 118, 42, 43, 461, 462, 463, 464, 465, 466, 467, 468, 469, 470, 506, 507, 508, 509, 510, 511] (by decide +kernel) (by decide +kernel)
set_option maxRecDepth 20000 in
theorem gL_law_L_press : GoodIn wsL_law (va_wsS RL 76 yL_press wsL_press) := goodIn_app (goodIn_of _ (by decide +kernel)) ggL_law_L_press
set_option maxRecDepth 20000 in
theorem ggL_law_X4_press : GoodIn wsL_law wsX4_press := goodIn_r _ [188, 95, 82, 96, 124, 125, 126, 5, 127, 128, 129, 130, 131, 132, 189, 190, 191, 192, 81, 80, 471, 472, 473, 474, 475, 476, 477, 478, 479, 480, 481, 482, 483, 484, 485, 486, 487, 488, 489, 490] (by decide +kernel) (by decide +kernel)
set_option maxRecDepth 20000 in
theorem gL_law_X4_press : GoodIn wsL_law (wsV RL 78 RX4 yX4_press wsX4_press) := goodIn_app (goodIn_of _ (by decide +kernel)) ggL_law_X4_press
set_option maxRecDepth 20000 in
theorem ggL_law_L_at : GoodIn wsL_law wsL_at := goodIn_r _ [195, 196, 197, 198, 2, 199, 27, 104, 105, 106, 107, 24, 108, 109, 110, 461, 462, 463, 464, 465, 466, 467, 468, 469, 470, 506, 507, 508, 509, 510, 511] (by decide +kernel) (by decide +kernel)
set_option maxRecDepth 20000 in
theorem gL_law_L_at : GoodIn wsL_law (va_wsS RL 79 yL_at wsL_at) := goodIn_app (goodIn_of _ (by decide +kernel)) ggL_law_L_at
set_option maxRecDepth 20000 in
theorem ggL_law_X4_at : GoodIn wsL_law wsX4_at := goodIn_r _ [203, 82, 124, 125, 126, 5, 127, 95, 128, 129, 130, 131, 132, 471, 472, 473, 474, 475, 476, 477, 478, 479, 480, 481, 482, 483, 484, 485, 486, 487, 488, 489, 490] (by decide +kernel) (by decide +kernel)
set_option maxRecDepth 20000 in
theorem gL_law_X4_at : GoodIn wsL_law (wsV RL 82 RX4 yX4_at wsX4_at) := goodIn_app (goodIn_of _ (by decide +kernel)) ggL_law_X4_at
set_option maxRecDepth 20000 in
theorem ggL_law_X3_apart : GoodIn wsL_law wsX3_apart := goodIn_r _ [207, 24, 27, 28, 461, 462, 463, 464, 465, 466, 467, 468, 469, 470] (by decide +kernel) (by decide +kernel)
set_option maxRecDepth 20000 in
theorem gL_law_X3_apart : GoodIn wsL_law (wsV RL 83 RX3 yX3_apart wsX3_apart) := goodIn_app (goodIn_of _ (by decide +kernel)) ggL_law_X3_apart
set_option maxRecDepth 20000 in
theorem ggL_law_X4_apart : GoodIn wsL_law wsX4_apart := goodIn_r _ [211, 132, 95, 82, 83, 471, 472, 473, 474, 475, 476, 477, 478, 479, 480, 481, 482, 483, 484, 485, 486, 487, 488, 489, 490] (by decide +kernel) (by decide +kernel)
set_option maxRecDepth 20000 in
theorem gL_law_X4_apart : GoodIn wsL_law (wsV RL 86 RX4 yX4_apart wsX4_apart) := goodIn_app (goodIn_of _ (by decide +kernel)) ggL_law_X4_apart
