set_option maxRecDepth 20000 in
theorem ggL_law_X7_setEyes : GoodIn wsL_law wsX7_setEyes := goodIn_r _ [184, 90, 91, 92, 122, 123, 5, 124, 169, 170, 171, 172, 173, 129, 648, 649, 650, 651, 652, 653, 654, 655, 656, 657, 658, 659, 660, 661, 662, 663, 664, 665, 666, 667, 668, 669, 670, 671, 672, 673, 674, 675, 676, 677, 678, 679, 680, 681, 682] (by decide +kernel) (by decide +kernel)
set_option maxRecDepth 20000 in
theorem gL_law_X7_setEyes : GoodIn wsL_law (wsV RL 81 RX7 yX7_setEyes wsX7_setEyes) := goodIn_app (goodIn_of _ (by decide +kernel)) ggL_law_X7_setEyes
set_option maxRecDepth 20000 in
theorem ggL_law_L_setFurnace : GoodIn wsL_law wsL_setFurnace := goodIn_ca (goodIn_ca (goodIn_r _ [187, 137, 154, 188, 189, 190, 2, 191, 142, 143, 16, 144, 145, 146, 159, 160, 161, 162, 163, 164, 20, 641, 642, 643, 644, 645, 646, 647, 683, 684, 685, 686, 687, 688, 689, 690, 691, 692, 693, 694, 695, 696, 697, 698, 699, 700, 701, 702, 703, 704] (by decide +kernel) (by decide +kernel)) (goodIn_sub (fun _ h => List.mem_append_left _ (List.mem_append_right _ h)) (by decide +kernel))) (goodIn_sub (fun _ h => List.mem_append_right _ h) (by decide +kernel))
set_option maxRecDepth 20000 in
theorem gL_law_L_setFurnace : GoodIn wsL_law (va_wsS RL 82 yL_setFurnace wsL_setFurnace) := goodIn_app (goodIn_of _ (by decide +kernel)) ggL_law_L_setFurnace
set_option maxRecDepth 20000 in
theorem ggL_law_X7_setFurnace : GoodIn wsL_law wsX7_setFurnace := goodIn_r _ [195, 93, 94, 95, 122, 123, 5, 124, 169, 170, 171, 172, 173, 129, 648, 649, 650, 651, 652, 653, 654, 655, 656, 657, 658, 659, 660, 661, 662, 663, 664, 665, 666, 667, 668, 669, 670, 671, 672, 673, 674, 675, 676, 677, 678, 679, 680, 681, 682] (by decide +kernel) (by decide +kernel)
set_option maxRecDepth 20000 in
theorem gL_law_X7_setFurnace : GoodIn wsL_law (wsV RL 84 RX7 yX7_setFurnace wsX7_setFurnace) := goodIn_app (goodIn_of _ (by decide +kernel)) ggL_law_X7_setFurnace
set_option maxRecDepth 20000 in
theorem ggL_law_L_poll : GoodIn wsL_law wsL_poll := goodIn_ca (goodIn_r _ [198, 137, 199, 200, 201, 2, 202, 142, 143, 203, 20, 113, 144, 145, 146, 204, 205, 206, 19, 207, 54, 55, 208, 209, 210, 211, 212, 213, 214, 215, 216, 217, 115, 116, 218, 219, 220, 221, 56, 222, 223, 224, 53, 225, 226, 227, 228, 229, 230, 231, 232, 233, 234, 235, 236, 237, 238, 239, 240, 241, 242, 243, 244, 245, 246, 247, 248, 249, 250, 251, 252, 253, 254, 255, 256, 257, 258, 259, 260, 261, 262, 263, 264, 265, 266, 267, 268, 269, 270, 271, 272, 273, 274, 275, 276, 277, 278, 279, 280, 281, 282, 283, 284, 285, 286, 287, 288, 289, 290, 291, 292, 293, 294, 295, 296, 297, 298, 299, 300, 301, 302, 303, 304, 305, 306, 307, 308, 309, 310, 311, 24, 312, 313, 314, 23, 315, 316, 64, 65, 66, 317, 318, 319, 641, 642, 643, 644, 645, 646, 647, 694, 695, 696, 697, 698, 699, 700, 701, 702, 703, 704, 683, 684, 685, 686, 687, 688, 689, 690, 691, 692, 693, 716, 717, 705, 706, 707, 708, 709, 710] (by decide +kernel) (by decide +kernel)) (goodIn_sub (fun _ h => List.mem_append_left _ (List.mem_append_right _ h)) (by decide +kernel))
set_option maxRecDepth 20000 in
theorem gL_law_L_poll : GoodIn wsL_law (va_wsS RL 85 yL_poll wsL_poll) := goodIn_app (goodIn_of _ (by decide +kernel)) ggL_law_L_poll
set_option maxRecDepth 20000 in
theorem ggL_law_X7_poll : GoodIn wsL_law wsX7_poll := goodIn_r _ [323, 324, 173, 121, 325, 326, 327, 328, 122, 123, 5, 124, 125, 126, 127, 128, 129, 329, 330, 331, 332, 333, 334, 335, 336, 337, 338, 339, 90, 91, 340, 341, 342, 343, 344, 345, 346, 85, 347, 348, 94, 95, 349, 350, 351, 352, 353, 354, 355, 89, 356, 357, 358, 359, 360, 361, 362, 363, 364, 365, 93, 86, 366, 367, 368, 369, 87, 88, 370, 371, 372, 373, 374, 375, 376, 377, 92, 378, 379, 380, 381, 96, 97, 98, 648, 649, 650, 651, 652, 653, 654, 655, 656, 657, 658, 659, 660, 661, 662, 663, 664, 665, 666, 667, 668, 669, 670, 671, 672, 673, 674, 675, 676, 677, 678, 679, 680, 681, 682] (by decide +kernel) (by decide +kernel)
set_option maxRecDepth 20000 in
theorem gL_law_X7_poll : GoodIn wsL_law (wsV RL 87 RX7 yX7_poll wsX7_poll) := goodIn_app (goodIn_of _ (by decide +kernel)) ggL_law_X7_poll
set_option maxRecDepth 20000 in
theorem ggL_law_L_reset : GoodIn wsL_law wsL_reset := goodIn_ca (goodIn_r _ [384, 154, 385, 386, 387, 2, 388, 163, 164, 20, 28, 203, 389, 390, 391, 19, 392, 213, 393, 261, 262, 263, 54, 55, 394, 395, 396, 27, 397, 70, 71, 72, 398, 399, 400, 401, 269, 270, 271, 272, 208, 273, 233, 308, 309, 310, 311, 24, 312, 313, 314, 23, 315, 316, 64, 65, 66, 317, 318, 247, 240, 248, 319, 402, 403, 404, 405, 641, 642, 643, 644, 645, 646, 647, 694, 695, 696, 697, 698, 699, 700, 701, 702, 703, 704, 716, 717, 711, 712, 713, 705, 706, 707, 708, 709, 710] (by decide +kernel) (by decide +kernel)) (goodIn_sub (fun _ h => List.mem_append_right _ h) (by decide +kernel))
set_option maxRecDepth 20000 in
theorem gL_law_L_reset : GoodIn wsL_law (va_wsS RL 88 yL_reset wsL_reset) := goodIn_app (goodIn_of _ (by decide +kernel)) ggL_law_L_reset
set_option maxRecDepth 20000 in
theorem ggL_law_X7_reset : GoodIn wsL_law wsX7_reset := goodIn_r _ [409, 173, 326, 335, 99, 410, 325, 411, 412, 413, 5, 414, 125, 126, 127, 128, 129, 356, 357, 358, 359, 360, 361, 347, 378, 379, 380, 381, 96, 324, 97, 98, 648, 649, 650, 651, 652, 653, 654, 655, 656, 657, 658, 659, 660, 661, 662, 663, 664, 665, 666, 667, 668, 669, 670, 671, 672, 673, 674, 675, 676, 677, 678, 679, 680, 681, 682] (by decide +kernel) (by decide +kernel)
set_option maxRecDepth 20000 in
theorem gL_law_X7_reset : GoodIn wsL_law (wsV RL 91 RX7 yX7_reset wsX7_reset) := goodIn_app (goodIn_of _ (by decide +kernel)) ggL_law_X7_reset
set_option maxRecDepth 20000 in
theorem ggL_law_X6_ticks : GoodIn wsL_law wsX6_ticks := goodIn_r _ [418, 203, 641, 642, 643, 644, 645, 646, 647] (by decide +kernel) (by decide +kernel)
set_option maxRecDepth 20000 in
theorem gL_law_X6_ticks : GoodIn wsL_law (wsV RL 92 RX6 yX6_ticks wsX6_ticks) := goodIn_app (goodIn_of _ (by decide +kernel)) ggL_law_X6_ticks
set_option maxRecDepth 20000 in
theorem ggL_law_X7_ticks : GoodIn wsL_law wsX7_ticks := goodIn_r _ [422, 129, 325, 648, 649, 650, 651, 652, 653, 654, 655, 656, 657, 658, 659, 660, 661, 662, 663, 664, 665, 666, 667, 668, 669, 670, 671, 672, 673, 674, 675, 676, 677, 678, 679, 680, 681, 682] (by decide +kernel) (by decide +kernel)
set_option maxRecDepth 20000 in
theorem gL_law_X7_ticks : GoodIn wsL_law (wsV RL 95 RX7 yX7_ticks wsX7_ticks) := goodIn_app (goodIn_of _ (by decide +kernel)) ggL_law_X7_ticks
set_option maxRecDepth 20000 in
theorem ggL_law_X6_state : GoodIn wsL_law wsX6_state := goodIn_r _ [426, 20, 641, 642, 643, 644, 645, 646, 647, 694, 695, 696, 697, 698, 699, 700, 701, 702, 703, 704] (by decide +kernel) (by decide +kernel)
set_option maxRecDepth 20000 in
theorem gL_law_X6_state : GoodIn wsL_law (wsV RL 96 RX6 yX6_state wsX6_state) := goodIn_app (goodIn_of _ (by decide +kernel)) ggL_law_X6_state
