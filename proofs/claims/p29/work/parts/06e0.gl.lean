set_option maxRecDepth 20000 in
theorem ggL_keeps_X6_state : GoodIn wsL_keeps wsX6_state := goodIn_r _ [5, 6, 289, 290, 291, 292, 293, 294, 295, 296, 297, 298, 299, 300, 301, 302, 303, 304, 305, 306] (by decide +kernel) (by decide +kernel)
set_option maxRecDepth 20000 in
theorem gL_keeps_X6_state : GoodIn wsL_keeps (wsV RL 69 RX6 yX6_state wsX6_state) := goodIn_app (goodIn_of _ (by decide +kernel)) ggL_keeps_X6_state
set_option maxRecDepth 20000 in
theorem ggL_keeps_X6_records : GoodIn wsL_keeps wsX6_records := goodIn_r _ [10, 11, 289, 290, 291, 292, 293, 294, 295, 307, 308, 309, 310, 311, 312] (by decide +kernel) (by decide +kernel)
set_option maxRecDepth 20000 in
theorem gL_keeps_X6_records : GoodIn wsL_keeps (wsV RL 112 RX6 yX6_records wsX6_records) := goodIn_app (goodIn_of _ (by decide +kernel)) ggL_keeps_X6_records
set_option maxRecDepth 20000 in
theorem ggL_keeps_X6_isOpen : GoodIn wsL_keeps wsX6_isOpen := goodIn_r _ [15, 6, 16, 17, 18, 19, 20, 21, 22, 23, 24, 25, 289, 290, 291, 292, 293, 294, 295, 296, 297, 298, 299, 300, 301, 302, 303, 304, 305, 306] (by decide +kernel) (by decide +kernel)
set_option maxRecDepth 20000 in
theorem gL_keeps_X6_isOpen : GoodIn wsL_keeps (wsV RL 124 RX6 yX6_isOpen wsX6_isOpen) := goodIn_app (goodIn_of _ (by decide +kernel)) ggL_keeps_X6_isOpen
set_option maxRecDepth 20000 in
theorem ggL_keeps_X6_fuel : GoodIn wsL_keeps wsX6_fuel := goodIn_r _ [29, 6, 289, 290, 291, 292, 293, 294, 295, 296, 297, 298, 299, 300, 301, 302, 303, 304, 305, 306] (by decide +kernel) (by decide +kernel)
set_option maxRecDepth 20000 in
theorem gL_keeps_X6_fuel : GoodIn wsL_keeps (wsV RL 87 RX6 yX6_fuel wsX6_fuel) := goodIn_app (goodIn_of _ (by decide +kernel)) ggL_keeps_X6_fuel
set_option maxRecDepth 20000 in
theorem ggL_keeps_X6_purged : GoodIn wsL_keeps wsX6_purged := goodIn_r _ [33, 6, 289, 290, 291, 292, 293, 294, 295, 296, 297, 298, 299, 300, 301, 302, 303, 304, 305, 306] (by decide +kernel) (by decide +kernel)
set_option maxRecDepth 20000 in
theorem gL_keeps_X6_purged : GoodIn wsL_keeps (wsV RL 92 RX6 yX6_purged wsX6_purged) := goodIn_app (goodIn_of _ (by decide +kernel)) ggL_keeps_X6_purged
set_option maxRecDepth 20000 in
theorem ggL_keeps_X6_reason : GoodIn wsL_keeps wsX6_reason := goodIn_r _ [37, 6, 289, 290, 291, 292, 293, 294, 295, 296, 297, 298, 299, 300, 301, 302, 303, 304, 305, 306] (by decide +kernel) (by decide +kernel)
set_option maxRecDepth 20000 in
theorem gL_keeps_X6_reason : GoodIn wsL_keeps (wsV RL 74 RX6 yX6_reason wsX6_reason) := goodIn_app (goodIn_of _ (by decide +kernel)) ggL_keeps_X6_reason
set_option maxRecDepth 20000 in
theorem ggL_keeps_X6_longestUnlit : GoodIn wsL_keeps wsX6_longestUnlit := goodIn_r _ [41, 6, 289, 290, 291, 292, 293, 294, 295, 296, 297, 298, 299, 300, 301, 302, 303, 304, 305, 306] (by decide +kernel) (by decide +kernel)
set_option maxRecDepth 20000 in
theorem gL_keeps_X6_longestUnlit : GoodIn wsL_keeps (wsV RL 98 RX6 yX6_longestUnlit wsX6_longestUnlit) := goodIn_app (goodIn_of _ (by decide +kernel)) ggL_keeps_X6_longestUnlit
