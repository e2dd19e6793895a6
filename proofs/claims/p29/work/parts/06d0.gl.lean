set_option maxRecDepth 20000 in
theorem ggL_all_X6_ticks : GoodIn wsL_all wsX6_ticks := goodIn_r _ [15, 16, 213, 214, 215, 216, 217, 218, 219] (by decide +kernel) (by decide +kernel)
set_option maxRecDepth 20000 in
theorem gL_all_X6_ticks : GoodIn wsL_all (wsV RL 64 RX6 yX6_ticks wsX6_ticks) := goodIn_app (goodIn_of _ (by decide +kernel)) ggL_all_X6_ticks
set_option maxRecDepth 20000 in
theorem ggL_all_X6_state : GoodIn wsL_all wsX6_state := goodIn_r _ [20, 21, 213, 214, 215, 216, 217, 218, 219, 220, 221, 222, 223, 224, 225, 226, 227, 228, 229, 230] (by decide +kernel) (by decide +kernel)
set_option maxRecDepth 20000 in
theorem gL_all_X6_state : GoodIn wsL_all (wsV RL 69 RX6 yX6_state wsX6_state) := goodIn_app (goodIn_of _ (by decide +kernel)) ggL_all_X6_state
set_option maxRecDepth 20000 in
theorem ggL_all_X6_reason : GoodIn wsL_all wsX6_reason := goodIn_r _ [25, 21, 213, 214, 215, 216, 217, 218, 219, 220, 221, 222, 223, 224, 225, 226, 227, 228, 229, 230] (by decide +kernel) (by decide +kernel)
set_option maxRecDepth 20000 in
theorem gL_all_X6_reason : GoodIn wsL_all (wsV RL 74 RX6 yX6_reason wsX6_reason) := goodIn_app (goodIn_of _ (by decide +kernel)) ggL_all_X6_reason
set_option maxRecDepth 20000 in
theorem ggL_all_X6_time : GoodIn wsL_all wsX6_time := goodIn_r _ [29, 21, 213, 214, 215, 216, 217, 218, 219, 220, 221, 222, 223, 224, 225, 226, 227, 228, 229, 230] (by decide +kernel) (by decide +kernel)
set_option maxRecDepth 20000 in
theorem gL_all_X6_time : GoodIn wsL_all (wsV RL 79 RX6 yX6_time wsX6_time) := goodIn_app (goodIn_of _ (by decide +kernel)) ggL_all_X6_time
set_option maxRecDepth 20000 in
theorem ggL_all_X6_air : GoodIn wsL_all wsX6_air := goodIn_r _ [33, 21, 213, 214, 215, 216, 217, 218, 219, 220, 221, 222, 223, 224, 225, 226, 227, 228, 229, 230] (by decide +kernel) (by decide +kernel)
set_option maxRecDepth 20000 in
theorem gL_all_X6_air : GoodIn wsL_all (wsV RL 84 RX6 yX6_air wsX6_air) := goodIn_app (goodIn_of _ (by decide +kernel)) ggL_all_X6_air
set_option maxRecDepth 20000 in
theorem ggL_all_X6_fuel : GoodIn wsL_all wsX6_fuel := goodIn_r _ [37, 21, 213, 214, 215, 216, 217, 218, 219, 220, 221, 222, 223, 224, 225, 226, 227, 228, 229, 230] (by decide +kernel) (by decide +kernel)
set_option maxRecDepth 20000 in
theorem gL_all_X6_fuel : GoodIn wsL_all (wsV RL 87 RX6 yX6_fuel wsX6_fuel) := goodIn_app (goodIn_of _ (by decide +kernel)) ggL_all_X6_fuel
set_option maxRecDepth 20000 in
theorem ggL_all_X6_purged : GoodIn wsL_all wsX6_purged := goodIn_r _ [41, 21, 213, 214, 215, 216, 217, 218, 219, 220, 221, 222, 223, 224, 225, 226, 227, 228, 229, 230] (by decide +kernel) (by decide +kernel)
set_option maxRecDepth 20000 in
theorem gL_all_X6_purged : GoodIn wsL_all (wsV RL 92 RX6 yX6_purged wsX6_purged) := goodIn_app (goodIn_of _ (by decide +kernel)) ggL_all_X6_purged
