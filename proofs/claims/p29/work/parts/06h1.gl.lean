set_option maxRecDepth 20000 in
theorem ggL_back_X6_fuel : GoodIn wsL_back wsX6_fuel := goodIn_r _ [41, 25, 301, 302, 303, 304, 305, 306, 307, 308, 309, 310, 311, 312, 313, 314, 315, 316, 317, 318] (by decide +kernel) (by decide +kernel)
set_option maxRecDepth 20000 in
theorem gL_back_X6_fuel : GoodIn wsL_back (wsV RL 87 RX6 yX6_fuel wsX6_fuel) := goodIn_app (goodIn_of _ (by decide +kernel)) ggL_back_X6_fuel
set_option maxRecDepth 20000 in
theorem ggL_back_X6_tickOf : GoodIn wsL_back wsX6_tickOf := goodIn_ca (goodIn_r _ [70, 71, 72, 62, 73, 74, 75, 76, 77, 78, 79, 80, 81, 82, 83, 301, 302, 303, 304, 305, 306, 307, 321, 322, 323, 324, 325, 326] (by decide +kernel) (by decide +kernel)) (goodIn_sub (fun _ h => List.mem_cons_of_mem _ (List.mem_append_left _ (List.mem_append_left _ (List.mem_append_right _ h)))) (by decide +kernel))
set_option maxRecDepth 20000 in
theorem gL_back_X6_tickOf : GoodIn wsL_back (wsV RL 21 RX6 yX6_tickOf wsX6_tickOf) := goodIn_app (goodIn_of _ (by decide +kernel)) ggL_back_X6_tickOf
set_option maxRecDepth 20000 in
theorem ggL_back_X6_ticks : GoodIn wsL_back wsX6_ticks := goodIn_r _ [19, 20, 301, 302, 303, 304, 305, 306, 307] (by decide +kernel) (by decide +kernel)
set_option maxRecDepth 20000 in
theorem gL_back_X6_ticks : GoodIn wsL_back (wsV RL 64 RX6 yX6_ticks wsX6_ticks) := goodIn_app (goodIn_of _ (by decide +kernel)) ggL_back_X6_ticks
