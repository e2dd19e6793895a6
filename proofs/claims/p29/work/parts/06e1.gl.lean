set_option maxRecDepth 20000 in
theorem ggL_keeps_X6_unlit : GoodIn wsL_keeps wsX6_unlit := goodIn_r _ [45, 6, 289, 290, 291, 292, 293, 294, 295, 296, 297, 298, 299, 300, 301, 302, 303, 304, 305, 306] (by decide +kernel) (by decide +kernel)
set_option maxRecDepth 20000 in
theorem gL_keeps_X6_unlit : GoodIn wsL_keeps (wsV RL 95 RX6 yX6_unlit wsX6_unlit) := goodIn_app (goodIn_of _ (by decide +kernel)) ggL_keeps_X6_unlit
set_option maxRecDepth 20000 in
theorem ggL_keeps_X6_changes : GoodIn wsL_keeps wsX6_changes := goodIn_r _ [49, 11, 289, 290, 291, 292, 293, 294, 295, 307, 308, 309, 310, 311, 312] (by decide +kernel) (by decide +kernel)
set_option maxRecDepth 20000 in
theorem gL_keeps_X6_changes : GoodIn wsL_keeps (wsV RL 109 RX6 yX6_changes wsX6_changes) := goodIn_app (goodIn_of _ (by decide +kernel)) ggL_keeps_X6_changes
set_option maxRecDepth 20000 in
theorem ggL_keeps_X6_stateOf : GoodIn wsL_keeps wsX6_stateOf := goodIn_ca (goodIn_r _ [53, 54, 55, 11, 56, 57, 58, 59, 60, 61, 62, 63, 64, 65, 66, 289, 290, 291, 292, 293, 294, 295, 307, 308, 309, 310, 311, 312] (by decide +kernel) (by decide +kernel)) (goodIn_sub (fun _ h => List.mem_cons_of_mem _ (List.mem_append_left _ (List.mem_append_left _ (List.mem_append_right _ h)))) (by decide +kernel))
set_option maxRecDepth 20000 in
theorem gL_keeps_X6_stateOf : GoodIn wsL_keeps (wsV RL 24 RX6 yX6_stateOf wsX6_stateOf) := goodIn_app (goodIn_of _ (by decide +kernel)) ggL_keeps_X6_stateOf
set_option maxRecDepth 20000 in
theorem ggL_keeps_X6_reasonOf : GoodIn wsL_keeps wsX6_reasonOf := goodIn_ca (goodIn_r _ [70, 54, 55, 11, 56, 57, 58, 59, 60, 61, 62, 63, 64, 65, 66, 289, 290, 291, 292, 293, 294, 295, 307, 308, 309, 310, 311, 312] (by decide +kernel) (by decide +kernel)) (goodIn_sub (fun _ h => List.mem_cons_of_mem _ (List.mem_append_left _ (List.mem_append_left _ (List.mem_append_right _ h)))) (by decide +kernel))
set_option maxRecDepth 20000 in
theorem gL_keeps_X6_reasonOf : GoodIn wsL_keeps (wsV RL 27 RX6 yX6_reasonOf wsX6_reasonOf) := goodIn_app (goodIn_of _ (by decide +kernel)) ggL_keeps_X6_reasonOf
set_option maxRecDepth 20000 in
theorem ggL_keeps_X6_ticks : GoodIn wsL_keeps wsX6_ticks := goodIn_r _ [74, 75, 289, 290, 291, 292, 293, 294, 295] (by decide +kernel) (by decide +kernel)
set_option maxRecDepth 20000 in
theorem gL_keeps_X6_ticks : GoodIn wsL_keeps (wsV RL 64 RX6 yX6_ticks wsX6_ticks) := goodIn_app (goodIn_of _ (by decide +kernel)) ggL_keeps_X6_ticks
set_option maxRecDepth 20000 in
theorem ggL_keeps_X6_tickOf : GoodIn wsL_keeps wsX6_tickOf := goodIn_ca (goodIn_r _ [79, 54, 55, 11, 56, 57, 58, 59, 60, 61, 62, 63, 64, 65, 66, 289, 290, 291, 292, 293, 294, 295, 307, 308, 309, 310, 311, 312] (by decide +kernel) (by decide +kernel)) (goodIn_sub (fun _ h => List.mem_cons_of_mem _ (List.mem_append_left _ (List.mem_append_left _ (List.mem_append_right _ h)))) (by decide +kernel))
set_option maxRecDepth 20000 in
theorem gL_keeps_X6_tickOf : GoodIn wsL_keeps (wsV RL 21 RX6 yX6_tickOf wsX6_tickOf) := goodIn_app (goodIn_of _ (by decide +kernel)) ggL_keeps_X6_tickOf
set_option maxRecDepth 20000 in
theorem ggL_keeps_X6_time : GoodIn wsL_keeps wsX6_time := goodIn_r _ [83, 6, 289, 290, 291, 292, 293, 294, 295, 296, 297, 298, 299, 300, 301, 302, 303, 304, 305, 306] (by decide +kernel) (by decide +kernel)
set_option maxRecDepth 20000 in
theorem gL_keeps_X6_time : GoodIn wsL_keeps (wsV RL 79 RX6 yX6_time wsX6_time) := goodIn_app (goodIn_of _ (by decide +kernel)) ggL_keeps_X6_time
