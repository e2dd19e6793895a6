set_option maxRecDepth 20000 in
theorem ggL_law_X7_changes : GoodIn wsL_law wsX7_changes := goodIn_r _ [512, 129, 324, 648, 649, 650, 651, 652, 653, 654, 655, 656, 657, 658, 659, 660, 661, 662, 663, 664, 665, 666, 667, 668, 669, 670, 671, 672, 673, 674, 675, 676, 677, 678, 679, 680, 681, 682] (by decide +kernel) (by decide +kernel)
set_option maxRecDepth 20000 in
theorem gL_law_X7_changes : GoodIn wsL_law (wsV RL 140 RX7 yX7_changes wsX7_changes) := goodIn_app (goodIn_of _ (by decide +kernel)) ggL_law_X7_changes
set_option maxRecDepth 20000 in
theorem ggL_law_X6_records : GoodIn wsL_law wsX6_records := goodIn_r _ [516, 24, 641, 642, 643, 644, 645, 646, 647, 705, 706, 707, 708, 709, 710] (by decide +kernel) (by decide +kernel)
set_option maxRecDepth 20000 in
theorem gL_law_X6_records : GoodIn wsL_law (wsV RL 141 RX6 yX6_records wsX6_records) := goodIn_app (goodIn_of _ (by decide +kernel)) ggL_law_X6_records
set_option maxRecDepth 20000 in
theorem ggL_law_X7_records : GoodIn wsL_law wsX7_records := goodIn_r _ [520, 129, 521, 522, 523, 5, 524, 324, 648, 649, 650, 651, 652, 653, 654, 655, 656, 657, 658, 659, 660, 661, 662, 663, 664, 665, 666, 667, 668, 669, 670, 671, 672, 673, 674, 675, 676, 677, 678, 679, 680, 681, 682] (by decide +kernel) (by decide +kernel)
set_option maxRecDepth 20000 in
theorem gL_law_X7_records : GoodIn wsL_law (wsV RL 144 RX7 yX7_records wsX7_records) := goodIn_app (goodIn_of _ (by decide +kernel)) ggL_law_X7_records
set_option maxRecDepth 20000 in
theorem ggL_law_L_tickOf : GoodIn wsL_law wsL_tickOf := goodIn_ca (goodIn_r _ [527, 106, 528, 529, 530, 2, 531, 111, 112, 24, 532, 533, 534, 23, 535, 317, 536, 537, 538, 539, 316, 641, 642, 643, 644, 645, 646, 647, 705, 706, 707, 708, 709, 710] (by decide +kernel) (by decide +kernel)) (goodIn_sub (fun _ h => List.mem_append_left _ (List.mem_append_left _ (List.mem_append_right _ h))) (by decide +kernel))
set_option maxRecDepth 20000 in
theorem gL_law_L_tickOf : GoodIn wsL_law (va_wsS RL 145 yL_tickOf wsL_tickOf) := goodIn_app (goodIn_of _ (by decide +kernel)) ggL_law_L_tickOf
set_option maxRecDepth 20000 in
theorem ggL_law_X7_tickOf : GoodIn wsL_law wsX7_tickOf := goodIn_r _ [543, 96, 521, 522, 523, 5, 524, 324, 125, 126, 127, 128, 129, 544, 545, 546, 547, 648, 649, 650, 651, 652, 653, 654, 655, 656, 657, 658, 659, 660, 661, 662, 663, 664, 665, 666, 667, 668, 669, 670, 671, 672, 673, 674, 675, 676, 677, 678, 679, 680, 681, 682] (by decide +kernel) (by decide +kernel)
set_option maxRecDepth 20000 in
theorem gL_law_X7_tickOf : GoodIn wsL_law (wsV RL 147 RX7 yX7_tickOf wsX7_tickOf) := goodIn_app (goodIn_of _ (by decide +kernel)) ggL_law_X7_tickOf
set_option maxRecDepth 20000 in
theorem ggL_law_L_stateOf : GoodIn wsL_law wsL_stateOf := goodIn_ca (goodIn_r _ [550, 106, 551, 552, 553, 2, 554, 111, 112, 24, 532, 533, 534, 23, 535, 317, 536, 537, 538, 539, 316, 641, 642, 643, 644, 645, 646, 647, 705, 706, 707, 708, 709, 710] (by decide +kernel) (by decide +kernel)) (goodIn_sub (fun _ h => List.mem_append_left _ (List.mem_append_left _ (List.mem_append_right _ h))) (by decide +kernel))
set_option maxRecDepth 20000 in
theorem gL_law_L_stateOf : GoodIn wsL_law (va_wsS RL 148 yL_stateOf wsL_stateOf) := goodIn_app (goodIn_of _ (by decide +kernel)) ggL_law_L_stateOf
set_option maxRecDepth 20000 in
theorem ggL_law_X7_stateOf : GoodIn wsL_law wsX7_stateOf := goodIn_r _ [558, 97, 521, 522, 523, 5, 524, 324, 125, 126, 127, 128, 129, 544, 545, 546, 547, 648, 649, 650, 651, 652, 653, 654, 655, 656, 657, 658, 659, 660, 661, 662, 663, 664, 665, 666, 667, 668, 669, 670, 671, 672, 673, 674, 675, 676, 677, 678, 679, 680, 681, 682] (by decide +kernel) (by decide +kernel)
set_option maxRecDepth 20000 in
theorem gL_law_X7_stateOf : GoodIn wsL_law (wsV RL 150 RX7 yX7_stateOf wsX7_stateOf) := goodIn_app (goodIn_of _ (by decide +kernel)) ggL_law_X7_stateOf
set_option maxRecDepth 20000 in
theorem ggL_law_L_reasonOf : GoodIn wsL_law wsL_reasonOf := goodIn_ca (goodIn_r _ [561, 106, 562, 563, 564, 2, 565, 111, 112, 24, 532, 533, 534, 23, 535, 317, 536, 537, 538, 539, 316, 641, 642, 643, 644, 645, 646, 647, 705, 706, 707, 708, 709, 710] (by decide +kernel) (by decide +kernel)) (goodIn_sub (fun _ h => List.mem_append_left _ (List.mem_append_left _ (List.mem_append_right _ h))) (by decide +kernel))
set_option maxRecDepth 20000 in
theorem gL_law_L_reasonOf : GoodIn wsL_law (va_wsS RL 151 yL_reasonOf wsL_reasonOf) := goodIn_app (goodIn_of _ (by decide +kernel)) ggL_law_L_reasonOf
set_option maxRecDepth 20000 in
theorem ggL_law_X7_reasonOf : GoodIn wsL_law wsX7_reasonOf := goodIn_r _ [569, 98, 521, 522, 523, 5, 524, 324, 125, 126, 127, 128, 129, 544, 545, 546, 547, 648, 649, 650, 651, 652, 653, 654, 655, 656, 657, 658, 659, 660, 661, 662, 663, 664, 665, 666, 667, 668, 669, 670, 671, 672, 673, 674, 675, 676, 677, 678, 679, 680, 681, 682] (by decide +kernel) (by decide +kernel)
set_option maxRecDepth 20000 in
theorem gL_law_X7_reasonOf : GoodIn wsL_law (wsV RL 153 RX7 yX7_reasonOf wsX7_reasonOf) := goodIn_app (goodIn_of _ (by decide +kernel)) ggL_law_X7_reasonOf
set_option maxRecDepth 20000 in
theorem ggL_law_L_couldBe : GoodIn wsL_law wsL_couldBe := goodIn_ca (goodIn_r _ [572, 137, 573, 574, 575, 2, 576, 142, 143, 32, 20, 144, 145, 146, 577, 578, 579, 580, 581, 582, 583, 584, 585, 19, 586, 54, 55, 213, 272, 208, 232, 233, 273, 306, 307, 587, 588, 589, 53, 590, 226, 227, 204, 205, 206, 207, 209, 210, 211, 212, 214, 215, 216, 217, 115, 116, 218, 219, 220, 221, 56, 222, 223, 224, 225, 228, 229, 230, 231, 234, 235, 236, 237, 238, 239, 240, 241, 242, 243, 244, 245, 246, 247, 248, 249, 250, 251, 252, 253, 254, 255, 256, 257, 258, 259, 260, 261, 262, 263, 264, 265, 266, 267, 268, 269, 270, 271, 274, 275, 276, 277, 278, 279, 280, 281, 282, 283, 284, 285, 286, 287, 288, 289, 290, 291, 292, 293, 294, 295, 296, 297, 298, 299, 300, 301, 302, 303, 304, 305, 591, 592, 593, 389, 390, 391, 392, 114, 641, 642, 643, 644, 645, 646, 647, 694, 695, 696, 697, 698, 699, 700, 701, 702, 703, 704, 714, 715, 716, 717, 683, 684, 685, 686, 687, 688, 689, 690, 691, 692, 693] (by decide +kernel) (by decide +kernel)) (goodIn_sub (fun _ h => List.mem_append_left _ (List.mem_append_right _ h)) (by decide +kernel))
set_option maxRecDepth 20000 in
theorem gL_law_L_couldBe : GoodIn wsL_law (va_wsS RL 154 yL_couldBe wsL_couldBe) := goodIn_app (goodIn_of _ (by decide +kernel)) ggL_law_L_couldBe
