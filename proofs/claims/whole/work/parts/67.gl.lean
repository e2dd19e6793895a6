set_option maxRecDepth 20000 in
theorem ggL_law_X6_init : GoodIn wsL_law wsX6_init := goodIn_r _ [9, 10, 11, 12, 13, 14, 15, 16, 17, 18, 19, 20, 21, 22, 23, 24, 25, 26, 27, 28, 29, 30, 31, 32, 33, 34, 35, 36, 37, 38, 39, 40, 41, 42, 43, 44, 45, 46, 47, 48, 49, 50, 51, 52, 53, 54, 55, 56, 57, 58, 59, 60, 61, 62, 63, 64, 65, 66, 67, 68, 69, 70, 71, 72, 73, 74, 75, 76, 77, 78, 79, 80, 683, 684, 685, 686, 687, 688, 689, 690, 691, 692, 693, 641, 642, 643, 644, 645, 646, 647, 694, 695, 696, 697, 698, 699, 700, 701, 702, 703, 704, 705, 706, 707, 708, 709, 710, 711, 712, 713, 714, 715, 716, 717] (by decide +kernel) (by decide +kernel)
set_option maxRecDepth 20000 in
theorem gL_law_X6_init : GoodIn wsL_law (wsX6_init) := ggL_law_X6_init
set_option maxRecDepth 20000 in
theorem ggL_law_X7_init : GoodIn wsL_law wsX7_init := goodIn_r _ [83, 84, 11, 12, 85, 86, 87, 88, 89, 90, 91, 92, 93, 94, 95, 63, 96, 97, 98, 99, 6, 100, 101, 648, 649, 650, 651, 652, 653, 654, 655, 656, 657, 658, 659, 660, 661, 662, 663, 664, 665, 666, 667, 668, 669, 670, 671, 672, 673, 674, 675, 676, 677, 678, 679, 680, 681, 682] (by decide +kernel) (by decide +kernel)
set_option maxRecDepth 20000 in
theorem gL_law_X7_init : GoodIn wsL_law (wsX7_init) := ggL_law_X7_init
set_option maxRecDepth 20000 in
theorem ggL_law_L_signal : GoodIn wsL_law wsL_signal := goodIn_ca (goodIn_r _ [105, 106, 107, 108, 109, 2, 110, 111, 112, 113, 114, 115, 116, 641, 642, 643, 644, 645, 646, 647] (by decide +kernel) (by decide +kernel)) (goodIn_sub (fun _ h => List.mem_append_left _ (List.mem_append_left _ (List.mem_append_right _ h))) (by decide +kernel))
set_option maxRecDepth 20000 in
theorem gL_law_L_signal : GoodIn wsL_law (va_wsS RL 61 yL_signal wsL_signal) := goodIn_app (goodIn_of _ (by decide +kernel)) ggL_law_L_signal
set_option maxRecDepth 20000 in
theorem ggL_law_X7_signal : GoodIn wsL_law wsX7_signal := goodIn_r _ [120, 121, 122, 123, 5, 124, 125, 126, 127, 128, 129, 648, 649, 650, 651, 652, 653, 654, 655, 656, 657, 658, 659, 660, 661, 662, 663, 664, 665, 666, 667, 668, 669, 670, 671, 672, 673, 674, 675, 676, 677, 678, 679, 680, 681, 682] (by decide +kernel) (by decide +kernel)
set_option maxRecDepth 20000 in
theorem gL_law_X7_signal : GoodIn wsL_law (wsV RL 66 RX7 yX7_signal wsX7_signal) := goodIn_app (goodIn_of _ (by decide +kernel)) ggL_law_X7_signal
set_option maxRecDepth 20000 in
theorem ggL_law_X7_thrown : GoodIn wsL_law wsX7_thrown := goodIn_r _ [133, 129, 648, 649, 650, 651, 652, 653, 654, 655, 656, 657, 658, 659, 660, 661, 662, 663, 664, 665, 666, 667, 668, 669, 670, 671, 672, 673, 674, 675, 676, 677, 678, 679, 680, 681, 682] (by decide +kernel) (by decide +kernel)
set_option maxRecDepth 20000 in
theorem gL_law_X7_thrown : GoodIn wsL_law (wsV RL 67 RX7 yX7_thrown wsX7_thrown) := goodIn_app (goodIn_of _ (by decide +kernel)) ggL_law_X7_thrown
set_option maxRecDepth 20000 in
theorem ggL_law_L_setRate : GoodIn wsL_law wsL_setRate := goodIn_ca (goodIn_r _ [136, 137, 138, 139, 140, 2, 141, 142, 143, 16, 144, 145, 146, 641, 642, 643, 644, 645, 646, 647, 683, 684, 685, 686, 687, 688, 689, 690, 691, 692, 693] (by decide +kernel) (by decide +kernel)) (goodIn_sub (fun _ h => List.mem_append_left _ (List.mem_append_right _ h)) (by decide +kernel))
set_option maxRecDepth 20000 in
theorem gL_law_L_setRate : GoodIn wsL_law (va_wsS RL 70 yL_setRate wsL_setRate) := goodIn_app (goodIn_of _ (by decide +kernel)) ggL_law_L_setRate
set_option maxRecDepth 20000 in
theorem ggL_law_X7_setRate : GoodIn wsL_law wsX7_setRate := goodIn_r _ [150, 85, 122, 123, 5, 124, 125, 126, 127, 128, 129, 648, 649, 650, 651, 652, 653, 654, 655, 656, 657, 658, 659, 660, 661, 662, 663, 664, 665, 666, 667, 668, 669, 670, 671, 672, 673, 674, 675, 676, 677, 678, 679, 680, 681, 682] (by decide +kernel) (by decide +kernel)
set_option maxRecDepth 20000 in
theorem gL_law_X7_setRate : GoodIn wsL_law (wsV RL 73 RX7 yX7_setRate wsX7_setRate) := goodIn_app (goodIn_of _ (by decide +kernel)) ggL_law_X7_setRate
set_option maxRecDepth 20000 in
theorem ggL_law_L_setTimes : GoodIn wsL_law wsL_setTimes := goodIn_ca (goodIn_ca (goodIn_r _ [153, 137, 154, 155, 156, 157, 2, 158, 142, 143, 16, 144, 145, 146, 159, 160, 161, 162, 163, 164, 20, 641, 642, 643, 644, 645, 646, 647, 683, 684, 685, 686, 687, 688, 689, 690, 691, 692, 693, 694, 695, 696, 697, 698, 699, 700, 701, 702, 703, 704] (by decide +kernel) (by decide +kernel)) (goodIn_sub (fun _ h => List.mem_append_left _ (List.mem_append_right _ h)) (by decide +kernel))) (goodIn_sub (fun _ h => List.mem_append_right _ h) (by decide +kernel))
set_option maxRecDepth 20000 in
theorem gL_law_L_setTimes : GoodIn wsL_law (va_wsS RL 74 yL_setTimes wsL_setTimes) := goodIn_app (goodIn_of _ (by decide +kernel)) ggL_law_L_setTimes
set_option maxRecDepth 20000 in
theorem ggL_law_X7_setTimes : GoodIn wsL_law wsX7_setTimes := goodIn_r _ [168, 86, 87, 88, 89, 122, 123, 5, 124, 169, 170, 171, 172, 173, 129, 648, 649, 650, 651, 652, 653, 654, 655, 656, 657, 658, 659, 660, 661, 662, 663, 664, 665, 666, 667, 668, 669, 670, 671, 672, 673, 674, 675, 676, 677, 678, 679, 680, 681, 682] (by decide +kernel) (by decide +kernel)
set_option maxRecDepth 20000 in
theorem gL_law_X7_setTimes : GoodIn wsL_law (wsV RL 77 RX7 yX7_setTimes wsX7_setTimes) := goodIn_app (goodIn_of _ (by decide +kernel)) ggL_law_X7_setTimes
set_option maxRecDepth 20000 in
theorem ggL_law_L_setEyes : GoodIn wsL_law wsL_setEyes := goodIn_ca (goodIn_ca (goodIn_r _ [176, 137, 154, 177, 178, 179, 2, 180, 142, 143, 16, 144, 145, 146, 159, 160, 161, 162, 163, 164, 20, 641, 642, 643, 644, 645, 646, 647, 683, 684, 685, 686, 687, 688, 689, 690, 691, 692, 693, 694, 695, 696, 697, 698, 699, 700, 701, 702, 703, 704] (by decide +kernel) (by decide +kernel)) (goodIn_sub (fun _ h => List.mem_append_left _ (List.mem_append_right _ h)) (by decide +kernel))) (goodIn_sub (fun _ h => List.mem_append_right _ h) (by decide +kernel))
set_option maxRecDepth 20000 in
theorem gL_law_L_setEyes : GoodIn wsL_law (va_wsS RL 78 yL_setEyes wsL_setEyes) := goodIn_app (goodIn_of _ (by decide +kernel)) ggL_law_L_setEyes
