set_option maxRecDepth 20000 in
theorem ggL_law_X7_air : GoodIn wsL_law wsX7_air := goodIn_r _ [472, 129, 348, 648, 649, 650, 651, 652, 653, 654, 655, 656, 657, 658, 659, 660, 661, 662, 663, 664, 665, 666, 667, 668, 669, 670, 671, 672, 673, 674, 675, 676, 677, 678, 679, 680, 681, 682] (by decide +kernel) (by decide +kernel)
set_option maxRecDepth 20000 in
theorem gL_law_X7_air : GoodIn wsL_law (wsV RL 120 RX7 yX7_air wsX7_air) := goodIn_app (goodIn_of _ (by decide +kernel)) ggL_law_X7_air
set_option maxRecDepth 20000 in
theorem ggL_law_X6_fuel : GoodIn wsL_law wsX6_fuel := goodIn_r _ [476, 20, 641, 642, 643, 644, 645, 646, 647, 694, 695, 696, 697, 698, 699, 700, 701, 702, 703, 704] (by decide +kernel) (by decide +kernel)
set_option maxRecDepth 20000 in
theorem gL_law_X6_fuel : GoodIn wsL_law (wsV RL 121 RX6 yX6_fuel wsX6_fuel) := goodIn_app (goodIn_of _ (by decide +kernel)) ggL_law_X6_fuel
set_option maxRecDepth 20000 in
theorem ggL_law_X7_fuel : GoodIn wsL_law wsX7_fuel := goodIn_r _ [480, 129, 347, 648, 649, 650, 651, 652, 653, 654, 655, 656, 657, 658, 659, 660, 661, 662, 663, 664, 665, 666, 667, 668, 669, 670, 671, 672, 673, 674, 675, 676, 677, 678, 679, 680, 681, 682] (by decide +kernel) (by decide +kernel)
set_option maxRecDepth 20000 in
theorem gL_law_X7_fuel : GoodIn wsL_law (wsV RL 124 RX7 yX7_fuel wsX7_fuel) := goodIn_app (goodIn_of _ (by decide +kernel)) ggL_law_X7_fuel
set_option maxRecDepth 20000 in
theorem ggL_law_X6_purged : GoodIn wsL_law wsX6_purged := goodIn_r _ [484, 20, 641, 642, 643, 644, 645, 646, 647, 694, 695, 696, 697, 698, 699, 700, 701, 702, 703, 704] (by decide +kernel) (by decide +kernel)
set_option maxRecDepth 20000 in
theorem gL_law_X6_purged : GoodIn wsL_law (wsV RL 125 RX6 yX6_purged wsX6_purged) := goodIn_app (goodIn_of _ (by decide +kernel)) ggL_law_X6_purged
set_option maxRecDepth 20000 in
theorem ggL_law_X7_purged : GoodIn wsL_law wsX7_purged := goodIn_r _ [488, 129, 361, 648, 649, 650, 651, 652, 653, 654, 655, 656, 657, 658, 659, 660, 661, 662, 663, 664, 665, 666, 667, 668, 669, 670, 671, 672, 673, 674, 675, 676, 677, 678, 679, 680, 681, 682] (by decide +kernel) (by decide +kernel)
set_option maxRecDepth 20000 in
theorem gL_law_X7_purged : GoodIn wsL_law (wsV RL 128 RX7 yX7_purged wsX7_purged) := goodIn_app (goodIn_of _ (by decide +kernel)) ggL_law_X7_purged
set_option maxRecDepth 20000 in
theorem ggL_law_X6_unlit : GoodIn wsL_law wsX6_unlit := goodIn_r _ [492, 20, 641, 642, 643, 644, 645, 646, 647, 694, 695, 696, 697, 698, 699, 700, 701, 702, 703, 704] (by decide +kernel) (by decide +kernel)
set_option maxRecDepth 20000 in
theorem gL_law_X6_unlit : GoodIn wsL_law (wsV RL 129 RX6 yX6_unlit wsX6_unlit) := goodIn_app (goodIn_of _ (by decide +kernel)) ggL_law_X6_unlit
set_option maxRecDepth 20000 in
theorem ggL_law_X7_unlit : GoodIn wsL_law wsX7_unlit := goodIn_r _ [496, 129, 327, 648, 649, 650, 651, 652, 653, 654, 655, 656, 657, 658, 659, 660, 661, 662, 663, 664, 665, 666, 667, 668, 669, 670, 671, 672, 673, 674, 675, 676, 677, 678, 679, 680, 681, 682] (by decide +kernel) (by decide +kernel)
set_option maxRecDepth 20000 in
theorem gL_law_X7_unlit : GoodIn wsL_law (wsV RL 132 RX7 yX7_unlit wsX7_unlit) := goodIn_app (goodIn_of _ (by decide +kernel)) ggL_law_X7_unlit
set_option maxRecDepth 20000 in
theorem ggL_law_X6_longestUnlit : GoodIn wsL_law wsX6_longestUnlit := goodIn_r _ [500, 20, 641, 642, 643, 644, 645, 646, 647, 694, 695, 696, 697, 698, 699, 700, 701, 702, 703, 704] (by decide +kernel) (by decide +kernel)
set_option maxRecDepth 20000 in
theorem gL_law_X6_longestUnlit : GoodIn wsL_law (wsV RL 133 RX6 yX6_longestUnlit wsX6_longestUnlit) := goodIn_app (goodIn_of _ (by decide +kernel)) ggL_law_X6_longestUnlit
set_option maxRecDepth 20000 in
theorem ggL_law_X7_longestUnlit : GoodIn wsL_law wsX7_longestUnlit := goodIn_r _ [504, 129, 328, 648, 649, 650, 651, 652, 653, 654, 655, 656, 657, 658, 659, 660, 661, 662, 663, 664, 665, 666, 667, 668, 669, 670, 671, 672, 673, 674, 675, 676, 677, 678, 679, 680, 681, 682] (by decide +kernel) (by decide +kernel)
set_option maxRecDepth 20000 in
theorem gL_law_X7_longestUnlit : GoodIn wsL_law (wsV RL 136 RX7 yX7_longestUnlit wsX7_longestUnlit) := goodIn_app (goodIn_of _ (by decide +kernel)) ggL_law_X7_longestUnlit
set_option maxRecDepth 20000 in
theorem ggL_law_X6_changes : GoodIn wsL_law wsX6_changes := goodIn_r _ [508, 24, 641, 642, 643, 644, 645, 646, 647, 705, 706, 707, 708, 709, 710] (by decide +kernel) (by decide +kernel)
set_option maxRecDepth 20000 in
theorem gL_law_X6_changes : GoodIn wsL_law (wsV RL 137 RX6 yX6_changes wsX6_changes) := goodIn_app (goodIn_of _ (by decide +kernel)) ggL_law_X6_changes
