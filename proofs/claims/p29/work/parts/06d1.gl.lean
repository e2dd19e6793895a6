set_option maxRecDepth 20000 in
theorem ggL_all_X6_unlit : GoodIn wsL_all wsX6_unlit := goodIn_r _ [45, 21, 213, 214, 215, 216, 217, 218, 219, 220, 221, 222, 223, 224, 225, 226, 227, 228, 229, 230] (by decide +kernel) (by decide +kernel)
set_option maxRecDepth 20000 in
theorem gL_all_X6_unlit : GoodIn wsL_all (wsV RL 95 RX6 yX6_unlit wsX6_unlit) := goodIn_app (goodIn_of _ (by decide +kernel)) ggL_all_X6_unlit
set_option maxRecDepth 20000 in
theorem ggL_all_X6_longestUnlit : GoodIn wsL_all wsX6_longestUnlit := goodIn_r _ [49, 21, 213, 214, 215, 216, 217, 218, 219, 220, 221, 222, 223, 224, 225, 226, 227, 228, 229, 230] (by decide +kernel) (by decide +kernel)
set_option maxRecDepth 20000 in
theorem gL_all_X6_longestUnlit : GoodIn wsL_all (wsV RL 98 RX6 yX6_longestUnlit wsX6_longestUnlit) := goodIn_app (goodIn_of _ (by decide +kernel)) ggL_all_X6_longestUnlit
set_option maxRecDepth 20000 in
theorem ggL_all_X6_sees : GoodIn wsL_all wsX6_sees := goodIn_r _ [53, 21, 213, 214, 215, 216, 217, 218, 219, 220, 221, 222, 223, 224, 225, 226, 227, 228, 229, 230, 231, 232] (by decide +kernel) (by decide +kernel)
set_option maxRecDepth 20000 in
theorem gL_all_X6_sees : GoodIn wsL_all (wsV RL 103 RX6 yX6_sees wsX6_sees) := goodIn_app (goodIn_of _ (by decide +kernel)) ggL_all_X6_sees
set_option maxRecDepth 20000 in
theorem ggL_all_X6_changes : GoodIn wsL_all wsX6_changes := goodIn_r _ [57, 58, 213, 214, 215, 216, 217, 218, 219, 233, 234, 235, 236, 237, 238] (by decide +kernel) (by decide +kernel)
set_option maxRecDepth 20000 in
theorem gL_all_X6_changes : GoodIn wsL_all (wsV RL 109 RX6 yX6_changes wsX6_changes) := goodIn_app (goodIn_of _ (by decide +kernel)) ggL_all_X6_changes
set_option maxRecDepth 20000 in
theorem ggL_all_X6_records : GoodIn wsL_all wsX6_records := goodIn_r _ [62, 58, 213, 214, 215, 216, 217, 218, 219, 233, 234, 235, 236, 237, 238] (by decide +kernel) (by decide +kernel)
set_option maxRecDepth 20000 in
theorem gL_all_X6_records : GoodIn wsL_all (wsV RL 112 RX6 yX6_records wsX6_records) := goodIn_app (goodIn_of _ (by decide +kernel)) ggL_all_X6_records
set_option maxRecDepth 20000 in
theorem ggL_all_X6_tickOf : GoodIn wsL_all wsX6_tickOf := goodIn_ca (goodIn_r _ [66, 67, 68, 58, 69, 70, 71, 72, 73, 74, 75, 76, 77, 78, 79, 213, 214, 215, 216, 217, 218, 219, 233, 234, 235, 236, 237, 238] (by decide +kernel) (by decide +kernel)) (goodIn_sub (fun _ h => List.mem_cons_of_mem _ (List.mem_append_right _ h)) (by decide +kernel))
set_option maxRecDepth 20000 in
theorem gL_all_X6_tickOf : GoodIn wsL_all (wsV RL 21 RX6 yX6_tickOf wsX6_tickOf) := goodIn_app (goodIn_of _ (by decide +kernel)) ggL_all_X6_tickOf
set_option maxRecDepth 20000 in
theorem ggL_all_X6_stateOf : GoodIn wsL_all wsX6_stateOf := goodIn_ca (goodIn_r _ [83, 67, 68, 58, 69, 70, 71, 72, 73, 74, 75, 76, 77, 78, 79, 213, 214, 215, 216, 217, 218, 219, 233, 234, 235, 236, 237, 238] (by decide +kernel) (by decide +kernel)) (goodIn_sub (fun _ h => List.mem_cons_of_mem _ (List.mem_append_right _ h)) (by decide +kernel))
set_option maxRecDepth 20000 in
theorem gL_all_X6_stateOf : GoodIn wsL_all (wsV RL 24 RX6 yX6_stateOf wsX6_stateOf) := goodIn_app (goodIn_of _ (by decide +kernel)) ggL_all_X6_stateOf
