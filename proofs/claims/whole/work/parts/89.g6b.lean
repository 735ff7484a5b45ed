set_option maxRecDepth 20000 in
theorem ggL_law_L_self : GoodIn wsL_law wsL_self := goodIn_r _ [139, 140, 141, 142, 2, 143, 29, 104, 105, 106, 107, 24, 108, 109, 110, 111, 112, 113, 114, 115, 116, 117, 118, 42, 43, 461, 462, 463, 464, 465, 466, 467, 468, 469, 470, 506, 507, 508, 509, 510, 511] (by decide +kernel) (by decide +kernel)
set_option maxRecDepth 20000 in
theorem gL_law_L_self : GoodIn wsL_law (va_wsS RL 66 yL_self wsL_self) := goodIn_app (goodIn_of _ (by decide +kernel)) ggL_law_L_self
set_option maxRecDepth 20000 in
theorem ggL_law_X4_self : GoodIn wsL_law wsX4_self := goodIn_r _ [147, 81, 123, 124, 125, 126, 5, 127, 95, 128, 129, 130, 131, 132, 471, 472, 473, 474, 475, 476, 477, 478, 479, 480, 481, 482, 483, 484, 485, 486, 487, 488, 489, 490] (by decide +kernel) (by decide +kernel)
set_option maxRecDepth 20000 in
theorem gL_law_X4_self : GoodIn wsL_law (wsV RL 69 RX4 yX4_self wsX4_self) := goodIn_app (goodIn_of _ (by decide +kernel)) ggL_law_X4_self
set_option maxRecDepth 20000 in
theorem ggL_law_L_set : GoodIn wsL_law wsL_set := goodIn_r _ [150, 151, 152, 153, 2, 154, 27, 104, 105, 106, 107, 24, 108, 109, 110, 155, 156, 157, 158, 25, 115, 116, 117, 118, 42, 43, 461, 462, 463, 464, 465, 466, 467, 468, 469, 470, 506, 507, 508, 509, 510, 511] (by decide +kernel) (by decide +kernel)
set_option maxRecDepth 20000 in
theorem gL_law_L_set : GoodIn wsL_law (va_wsS RL 70 yL_set wsL_set) := goodIn_app (goodIn_of _ (by decide +kernel)) ggL_law_L_set
set_option maxRecDepth 20000 in
theorem ggL_law_X4_set : GoodIn wsL_law wsX4_set := goodIn_r _ [162, 82, 124, 125, 126, 5, 127, 95, 128, 129, 130, 131, 132, 163, 164, 165, 166, 96, 471, 472, 473, 474, 475, 476, 477, 478, 479, 480, 481, 482, 483, 484, 485, 486, 487, 488, 489, 490] (by decide +kernel) (by decide +kernel)
set_option maxRecDepth 20000 in
theorem gL_law_X4_set : GoodIn wsL_law (wsV RL 72 RX4 yX4_set wsX4_set) := goodIn_app (goodIn_of _ (by decide +kernel)) ggL_law_X4_set
set_option maxRecDepth 20000 in
theorem ggL_law_L_want : GoodIn wsL_law wsL_want := goodIn_r _ [169, 170, 171, 172, 2, 173, 28, 104, 105, 106, 107, 24, 108, 109, 110, 155, 156, 157, 158, 25, 115, 116, 117, 118, 42, 43, 461, 462, 463, 464, 465, 466, 467, 468, 469, 470, 506, 507, 508, 509, 510, 511] (by decide +kernel) (by decide +kernel)
set_option maxRecDepth 20000 in
theorem gL_law_L_want : GoodIn wsL_law (va_wsS RL 73 yL_want wsL_want) := goodIn_app (goodIn_of _ (by decide +kernel)) ggL_law_L_want
set_option maxRecDepth 20000 in
theorem ggL_law_X4_want : GoodIn wsL_law wsX4_want := goodIn_r _ [177, 83, 124, 125, 126, 5, 127, 95, 128, 129, 130, 131, 132, 163, 164, 165, 166, 96, 471, 472, 473, 474, 475, 476, 477, 478, 479, 480, 481, 482, 483, 484, 485, 486, 487, 488, 489, 490] (by decide +kernel) (by decide +kernel)
set_option maxRecDepth 20000 in
theorem gL_law_X4_want : GoodIn wsL_law (wsV RL 75 RX4 yX4_want wsX4_want) := goodIn_app (goodIn_of _ (by decide +kernel)) ggL_law_X4_want
