set_option maxRecDepth 20000 in
theorem ggL_tries_X6_setTimes : GoodIn wsL_tries wsX6_setTimes := goodIn_ca (goodIn_ca (goodIn_r _ [5, 6, 7, 8, 9, 10, 4, 11, 12, 13, 14, 15, 16, 17, 18, 27, 28, 29, 30, 31, 32, 33, 34, 35, 36, 37, 38, 39, 40, 41, 42, 43, 44, 45, 46, 47, 48, 49, 50, 51, 52, 53, 54, 55] (by decide +kernel) (by decide +kernel)) (goodIn_sub (fun _ h => List.mem_cons_of_mem _ (List.mem_append_left _ (List.mem_append_right _ h))) (by decide +kernel))) (goodIn_sub (fun _ h => List.mem_cons_of_mem _ (List.mem_append_right _ h)) (by decide +kernel))
set_option maxRecDepth 20000 in
theorem gL_tries_X6_setTimes : GoodIn wsL_tries (wsV RL 47 RX6 yX6_setTimes wsX6_setTimes) := goodIn_app (goodIn_of _ (by decide +kernel)) ggL_tries_X6_setTimes
set_option maxRecDepth 20000 in
theorem ggL_tries_X6_setEyes : GoodIn wsL_tries wsX6_setEyes := goodIn_ca (goodIn_ca (goodIn_r _ [22, 6, 7, 8, 9, 10, 4, 11, 12, 13, 14, 15, 16, 17, 18, 27, 28, 29, 30, 31, 32, 33, 34, 35, 36, 37, 38, 39, 40, 41, 42, 43, 44, 45, 46, 47, 48, 49, 50, 51, 52, 53, 54, 55] (by decide +kernel) (by decide +kernel)) (goodIn_sub (fun _ h => List.mem_cons_of_mem _ (List.mem_append_left _ (List.mem_append_right _ h))) (by decide +kernel))) (goodIn_sub (fun _ h => List.mem_cons_of_mem _ (List.mem_append_right _ h)) (by decide +kernel))
set_option maxRecDepth 20000 in
theorem gL_tries_X6_setEyes : GoodIn wsL_tries (wsV RL 51 RX6 yX6_setEyes wsX6_setEyes) := goodIn_app (goodIn_of _ (by decide +kernel)) ggL_tries_X6_setEyes
set_option maxRecDepth 20000 in
theorem ggL_tries_X6_setFurnace : GoodIn wsL_tries wsX6_setFurnace := goodIn_ca (goodIn_ca (goodIn_r _ [26, 6, 7, 8, 9, 10, 4, 11, 12, 13, 14, 15, 16, 17, 18, 27, 28, 29, 30, 31, 32, 33, 34, 35, 36, 37, 38, 39, 40, 41, 42, 43, 44, 45, 46, 47, 48, 49, 50, 51, 52, 53, 54, 55] (by decide +kernel) (by decide +kernel)) (goodIn_sub (fun _ h => List.mem_cons_of_mem _ (List.mem_append_left _ (List.mem_append_right _ h))) (by decide +kernel))) (goodIn_sub (fun _ h => List.mem_cons_of_mem _ (List.mem_append_right _ h)) (by decide +kernel))
set_option maxRecDepth 20000 in
theorem gL_tries_X6_setFurnace : GoodIn wsL_tries (wsV RL 55 RX6 yX6_setFurnace wsX6_setFurnace) := goodIn_app (goodIn_of _ (by decide +kernel)) ggL_tries_X6_setFurnace
