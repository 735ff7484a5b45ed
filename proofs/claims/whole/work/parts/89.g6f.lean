set_option maxRecDepth 20000 in
theorem ggL_law_L_best : GoodIn wsL_law wsL_best := goodIn_r _ [429, 430, 431, 432, 2, 433, 37, 104, 105, 106, 107, 24, 108, 109, 110, 359, 360, 361, 362, 43, 33, 216, 217, 218, 219, 42, 29, 27, 28, 220, 221, 222, 32, 223, 51, 54, 52, 224, 225, 226, 227, 57, 55, 228, 229, 230, 231, 232, 233, 234, 235, 236, 237, 238, 239, 240, 241, 242, 243, 244, 245, 246, 247, 248, 249, 250, 251, 252, 253, 254, 255, 58, 56, 256, 257, 258, 259, 363, 364, 365, 36, 366, 68, 367, 368, 369, 370, 371, 290, 291, 292, 372, 373, 374, 375, 63, 65, 67, 376, 309, 310, 311, 377, 378, 379, 380, 381, 382, 383, 384, 66, 385, 386, 387, 388, 389, 390, 391, 392, 64, 393, 324, 325, 326, 394, 328, 329, 330, 395, 396, 397, 398, 399, 400, 401, 402, 403, 404, 405, 406, 407, 408, 409, 410, 434, 435, 436, 437, 461, 462, 463, 464, 465, 466, 467, 468, 469, 470, 506, 507, 508, 509, 510, 511, 491, 492, 493, 494, 495, 496, 497, 498, 499, 500, 501, 502, 503] (by decide +kernel) (by decide +kernel)
set_option maxRecDepth 20000 in
theorem gL_law_L_best : GoodIn wsL_law (va_wsS RL 110 yL_best wsL_best) := goodIn_app (goodIn_of _ (by decide +kernel)) ggL_law_L_best
set_option maxRecDepth 20000 in
theorem ggL_law_X4_best : GoodIn wsL_law wsX4_best := goodIn_r _ [441, 92, 124, 125, 126, 5, 127, 95, 128, 129, 130, 131, 132, 415, 416, 417, 418, 268, 96, 93, 297, 298, 299, 300, 88, 83, 82, 90, 89, 269, 270, 271, 272, 123, 87, 84, 85, 86, 91, 189, 190, 191, 192, 81, 80, 273, 274, 275, 276, 277, 278, 279, 280, 281, 282, 283, 284, 419, 420, 421, 422, 423, 424, 425, 426, 471, 472, 473, 474, 475, 476, 477, 478, 479, 480, 481, 482, 483, 484, 485, 486, 487, 488, 489, 490] (by decide +kernel) (by decide +kernel)
set_option maxRecDepth 20000 in
theorem gL_law_X4_best : GoodIn wsL_law (wsV RL 112 RX4 yX4_best wsX4_best) := goodIn_app (goodIn_of _ (by decide +kernel)) ggL_law_X4_best
set_option maxRecDepth 20000 in
theorem ggL_law_L_alone : GoodIn wsL_law wsL_alone := goodIn_r _ [444, 445, 446, 447, 2, 448, 33, 104, 105, 106, 107, 24, 108, 109, 110, 216, 217, 218, 219, 42, 29, 27, 28, 220, 221, 222, 32, 223, 51, 54, 52, 224, 225, 226, 227, 57, 55, 228, 229, 230, 231, 232, 233, 234, 235, 236, 237, 238, 239, 240, 241, 242, 243, 244, 245, 246, 247, 248, 249, 250, 251, 252, 253, 254, 255, 58, 56, 256, 257, 258, 259, 323, 324, 325, 326, 327, 328, 329, 330, 461, 462, 463, 464, 465, 466, 467, 468, 469, 470, 506, 507, 508, 509, 510, 511, 491, 492, 493, 494, 495, 496, 497] (by decide +kernel) (by decide +kernel)
set_option maxRecDepth 20000 in
theorem gL_law_L_alone : GoodIn wsL_law (va_wsS RL 113 yL_alone wsL_alone) := goodIn_app (goodIn_of _ (by decide +kernel)) ggL_law_L_alone
set_option maxRecDepth 20000 in
theorem ggL_law_X4_alone : GoodIn wsL_law wsX4_alone := goodIn_r _ [452, 95, 88, 124, 125, 126, 5, 127, 128, 129, 130, 131, 132, 269, 270, 271, 272, 123, 268, 87, 84, 85, 96, 89, 86, 91, 189, 190, 191, 192, 81, 80, 273, 274, 275, 276, 277, 278, 279, 280, 281, 282, 283, 284, 471, 472, 473, 474, 475, 476, 477, 478, 479, 480, 481, 482, 483, 484, 485, 486, 487, 488, 489, 490] (by decide +kernel) (by decide +kernel)
set_option maxRecDepth 20000 in
theorem gL_law_X4_alone : GoodIn wsL_law (wsV RL 115 RX4 yX4_alone wsX4_alone) := goodIn_app (goodIn_of _ (by decide +kernel)) ggL_law_X4_alone
set_option maxRecDepth 20000 in
theorem ggL_law_X3_clear : GoodIn wsL_law wsX3_clear := goodIn_r _ [456, 24, 27, 28, 115, 116, 117, 2, 118, 42, 43, 461, 462, 463, 464, 465, 466, 467, 468, 469, 470] (by decide +kernel) (by decide +kernel)
set_option maxRecDepth 20000 in
theorem gL_law_X3_clear : GoodIn wsL_law (wsV RL 116 RX3 yX3_clear wsX3_clear) := goodIn_app (goodIn_of _ (by decide +kernel)) ggL_law_X3_clear
set_option maxRecDepth 20000 in
theorem ggL_law_X4_clear : GoodIn wsL_law wsX4_clear := goodIn_r _ [460, 132, 95, 82, 83, 471, 472, 473, 474, 475, 476, 477, 478, 479, 480, 481, 482, 483, 484, 485, 486, 487, 488, 489, 490] (by decide +kernel) (by decide +kernel)
set_option maxRecDepth 20000 in
theorem gL_law_X4_clear : GoodIn wsL_law (wsV RL 119 RX4 yX4_clear wsX4_clear) := goodIn_app (goodIn_of _ (by decide +kernel)) ggL_law_X4_clear
