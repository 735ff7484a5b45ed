set_option maxRecDepth 20000 in
theorem ggL_law_X3_rank : GoodIn wsL_law wsX3_rank := goodIn_r _ [215, 33, 216, 217, 218, 2, 219, 42, 29, 27, 28, 220, 221, 222, 32, 223, 51, 54, 52, 224, 225, 226, 227, 57, 55, 228, 229, 230, 231, 232, 233, 234, 235, 236, 237, 238, 239, 240, 241, 242, 243, 244, 245, 246, 247, 248, 249, 250, 251, 252, 253, 254, 255, 58, 56, 256, 257, 258, 259, 260, 261, 262, 263, 461, 462, 463, 464, 465, 466, 467, 468, 469, 470, 491, 492, 493, 494, 495, 496, 497] (by decide +kernel) (by decide +kernel)
set_option maxRecDepth 20000 in
theorem gL_law_X3_rank : GoodIn wsL_law (wsV RL 87 RX3 yX3_rank wsX3_rank) := goodIn_app (goodIn_of _ (by decide +kernel)) ggL_law_X3_rank
set_option maxRecDepth 20000 in
theorem ggL_law_X4_rank : GoodIn wsL_law wsX4_rank := goodIn_r _ [267, 132, 268, 269, 270, 271, 5, 272, 123, 95, 88, 87, 84, 85, 96, 89, 86, 91, 189, 190, 191, 192, 81, 80, 273, 274, 275, 276, 277, 278, 279, 280, 281, 282, 283, 284, 471, 472, 473, 474, 475, 476, 477, 478, 479, 480, 481, 482, 483, 484, 485, 486, 487, 488, 489, 490] (by decide +kernel) (by decide +kernel)
set_option maxRecDepth 20000 in
theorem gL_law_X4_rank : GoodIn wsL_law (wsV RL 90 RX4 yX4_rank wsX4_rank) := goodIn_app (goodIn_of _ (by decide +kernel)) ggL_law_X4_rank
set_option maxRecDepth 20000 in
theorem ggL_law_X3_solvable : GoodIn wsL_law wsX3_solvable := goodIn_r _ [288, 33, 216, 217, 218, 2, 219, 42, 29, 27, 28, 220, 221, 222, 32, 223, 51, 54, 52, 224, 225, 226, 227, 57, 55, 228, 229, 230, 231, 232, 233, 234, 235, 236, 237, 238, 239, 240, 241, 242, 243, 244, 245, 246, 247, 248, 249, 250, 251, 252, 253, 254, 255, 58, 56, 256, 257, 258, 259, 289, 290, 291, 292, 461, 462, 463, 464, 465, 466, 467, 468, 469, 470, 491, 492, 493, 494, 495, 496, 497] (by decide +kernel) (by decide +kernel)
set_option maxRecDepth 20000 in
theorem gL_law_X3_solvable : GoodIn wsL_law (wsV RL 91 RX3 yX3_solvable wsX3_solvable) := goodIn_app (goodIn_of _ (by decide +kernel)) ggL_law_X3_solvable
set_option maxRecDepth 20000 in
theorem ggL_law_X4_solvable : GoodIn wsL_law wsX4_solvable := goodIn_r _ [296, 132, 297, 298, 299, 5, 300, 95, 88, 83, 96, 82, 90, 89, 269, 270, 271, 272, 123, 268, 87, 84, 85, 86, 91, 189, 190, 191, 192, 81, 80, 273, 274, 275, 276, 277, 278, 279, 280, 281, 282, 283, 284, 471, 472, 473, 474, 475, 476, 477, 478, 479, 480, 481, 482, 483, 484, 485, 486, 487, 488, 489, 490] (by decide +kernel) (by decide +kernel)
set_option maxRecDepth 20000 in
theorem gL_law_X4_solvable : GoodIn wsL_law (wsV RL 95 RX4 yX4_solvable wsX4_solvable) := goodIn_app (goodIn_of _ (by decide +kernel)) ggL_law_X4_solvable
set_option maxRecDepth 20000 in
theorem ggL_law_L_answer : GoodIn wsL_law wsL_answer := goodIn_r _ [303, 304, 305, 306, 2, 307, 33, 104, 105, 106, 107, 24, 108, 109, 110, 216, 217, 218, 219, 42, 29, 27, 28, 220, 221, 222, 32, 223, 51, 54, 52, 224, 225, 226, 227, 57, 55, 228, 229, 230, 231, 232, 233, 234, 235, 236, 237, 238, 239, 240, 241, 242, 243, 244, 245, 246, 247, 248, 249, 250, 251, 252, 253, 254, 255, 58, 56, 256, 257, 258, 259, 289, 290, 291, 292, 308, 309, 310, 311, 461, 462, 463, 464, 465, 466, 467, 468, 469, 470, 506, 507, 508, 509, 510, 511, 491, 492, 493, 494, 495, 496, 497] (by decide +kernel) (by decide +kernel)
set_option maxRecDepth 20000 in
theorem gL_law_L_answer : GoodIn wsL_law (va_wsS RL 96 yL_answer wsL_answer) := goodIn_app (goodIn_of _ (by decide +kernel)) ggL_law_L_answer
set_option maxRecDepth 20000 in
theorem ggL_law_X4_answer : GoodIn wsL_law wsX4_answer := goodIn_r _ [315, 90, 124, 125, 126, 5, 127, 95, 128, 129, 130, 131, 132, 297, 298, 299, 300, 88, 83, 96, 82, 89, 269, 270, 271, 272, 123, 268, 87, 84, 85, 86, 91, 189, 190, 191, 192, 81, 80, 273, 274, 275, 276, 277, 278, 279, 280, 281, 282, 283, 284, 471, 472, 473, 474, 475, 476, 477, 478, 479, 480, 481, 482, 483, 484, 485, 486, 487, 488, 489, 490] (by decide +kernel) (by decide +kernel)
set_option maxRecDepth 20000 in
theorem gL_law_X4_answer : GoodIn wsL_law (wsV RL 98 RX4 yX4_answer wsX4_answer) := goodIn_app (goodIn_of _ (by decide +kernel)) ggL_law_X4_answer
