set_option maxRecDepth 20000 in
theorem ggL_law_L_quiet : GoodIn wsL_law wsL_quiet := goodIn_r _ [318, 319, 320, 321, 2, 322, 33, 104, 105, 106, 107, 24, 108, 109, 110, 216, 217, 218, 219, 42, 29, 27, 28, 220, 221, 222, 32, 223, 51, 54, 52, 224, 225, 226, 227, 57, 55, 228, 229, 230, 231, 232, 233, 234, 235, 236, 237, 238, 239, 240, 241, 242, 243, 244, 245, 246, 247, 248, 249, 250, 251, 252, 253, 254, 255, 58, 56, 256, 257, 258, 259, 323, 324, 325, 326, 327, 328, 329, 330, 461, 462, 463, 464, 465, 466, 467, 468, 469, 470, 506, 507, 508, 509, 510, 511, 491, 492, 493, 494, 495, 496, 497] (by decide +kernel) (by decide +kernel)
set_option maxRecDepth 20000 in
theorem gL_law_L_quiet : GoodIn wsL_law (va_wsS RL 99 yL_quiet wsL_quiet) := goodIn_app (goodIn_of _ (by decide +kernel)) ggL_law_L_quiet
set_option maxRecDepth 20000 in
theorem ggL_law_X4_quiet : GoodIn wsL_law wsX4_quiet := goodIn_r _ [334, 95, 268, 91, 124, 125, 126, 5, 127, 128, 129, 130, 131, 132, 269, 270, 271, 272, 123, 88, 87, 84, 85, 96, 89, 86, 189, 190, 191, 192, 81, 80, 273, 274, 275, 276, 277, 278, 279, 280, 281, 282, 283, 284, 471, 472, 473, 474, 475, 476, 477, 478, 479, 480, 481, 482, 483, 484, 485, 486, 487, 488, 489, 490] (by decide +kernel) (by decide +kernel)
set_option maxRecDepth 20000 in
theorem gL_law_X4_quiet : GoodIn wsL_law (wsV RL 101 RX4 yX4_quiet wsX4_quiet) := goodIn_app (goodIn_of _ (by decide +kernel)) ggL_law_X4_quiet
set_option maxRecDepth 20000 in
theorem ggL_law_X3_count : GoodIn wsL_law wsX3_count := goodIn_r _ [338, 41, 33, 25, 216, 217, 218, 2, 219, 42, 29, 27, 28, 220, 221, 222, 32, 223, 51, 54, 52, 224, 225, 226, 227, 57, 55, 228, 229, 230, 231, 232, 233, 234, 235, 236, 237, 238, 239, 240, 241, 242, 243, 244, 245, 246, 247, 248, 249, 250, 251, 252, 253, 254, 255, 58, 56, 256, 257, 258, 259, 289, 290, 291, 292, 339, 340, 341, 40, 342, 73, 74, 323, 324, 325, 326, 343, 344, 345, 346, 347, 348, 349, 350, 461, 462, 463, 464, 465, 466, 467, 468, 469, 470, 491, 492, 493, 494, 495, 496, 497, 504, 505] (by decide +kernel) (by decide +kernel)
set_option maxRecDepth 20000 in
theorem gL_law_X3_count : GoodIn wsL_law (wsV RL 102 RX3 yX3_count wsX3_count) := goodIn_app (goodIn_of _ (by decide +kernel)) ggL_law_X3_count
set_option maxRecDepth 20000 in
theorem ggL_law_X4_count : GoodIn wsL_law wsX4_count := goodIn_r _ [354, 132, 94, 95, 268, 96, 297, 298, 299, 5, 300, 88, 83, 82, 90, 89, 269, 270, 271, 272, 123, 87, 84, 85, 86, 91, 189, 190, 191, 192, 81, 80, 273, 274, 275, 276, 277, 278, 279, 280, 281, 282, 283, 284, 471, 472, 473, 474, 475, 476, 477, 478, 479, 480, 481, 482, 483, 484, 485, 486, 487, 488, 489, 490] (by decide +kernel) (by decide +kernel)
set_option maxRecDepth 20000 in
theorem gL_law_X4_count : GoodIn wsL_law (wsV RL 105 RX4 yX4_count wsX4_count) := goodIn_app (goodIn_of _ (by decide +kernel)) ggL_law_X4_count
set_option maxRecDepth 20000 in
theorem ggL_law_X3_fewest : GoodIn wsL_law wsX3_fewest := goodIn_r _ [358, 37, 359, 360, 361, 2, 362, 43, 33, 216, 217, 218, 219, 42, 29, 27, 28, 220, 221, 222, 32, 223, 51, 54, 52, 224, 225, 226, 227, 57, 55, 228, 229, 230, 231, 232, 233, 234, 235, 236, 237, 238, 239, 240, 241, 242, 243, 244, 245, 246, 247, 248, 249, 250, 251, 252, 253, 254, 255, 58, 56, 256, 257, 258, 259, 363, 364, 365, 36, 366, 68, 367, 368, 369, 370, 371, 290, 291, 292, 372, 373, 374, 375, 63, 65, 67, 376, 309, 310, 311, 377, 378, 379, 380, 381, 382, 383, 384, 66, 385, 386, 387, 388, 389, 390, 391, 392, 64, 393, 324, 325, 326, 394, 328, 329, 330, 395, 396, 397, 398, 399, 400, 401, 402, 403, 404, 405, 406, 407, 408, 409, 410, 461, 462, 463, 464, 465, 466, 467, 468, 469, 470, 491, 492, 493, 494, 495, 496, 497, 498, 499, 500, 501, 502, 503] (by decide +kernel) (by decide +kernel)
set_option maxRecDepth 20000 in
theorem gL_law_X3_fewest : GoodIn wsL_law (wsV RL 106 RX3 yX3_fewest wsX3_fewest) := goodIn_app (goodIn_of _ (by decide +kernel)) ggL_law_X3_fewest
set_option maxRecDepth 20000 in
theorem ggL_law_X4_fewest : GoodIn wsL_law wsX4_fewest := goodIn_r _ [414, 132, 415, 416, 417, 5, 418, 95, 268, 96, 92, 93, 297, 298, 299, 300, 88, 83, 82, 90, 89, 269, 270, 271, 272, 123, 87, 84, 85, 86, 91, 189, 190, 191, 192, 81, 80, 273, 274, 275, 276, 277, 278, 279, 280, 281, 282, 283, 284, 419, 420, 421, 422, 423, 424, 425, 426, 471, 472, 473, 474, 475, 476, 477, 478, 479, 480, 481, 482, 483, 484, 485, 486, 487, 488, 489, 490] (by decide +kernel) (by decide +kernel)
set_option maxRecDepth 20000 in
theorem gL_law_X4_fewest : GoodIn wsL_law (wsV RL 109 RX4 yX4_fewest wsX4_fewest) := goodIn_app (goodIn_of _ (by decide +kernel)) ggL_law_X4_fewest
