set_option maxRecDepth 20000 in
theorem ggL_law_L_some : GoodIn wsL_law wsL_some := goodIn_r _ [394] (by decide +kernel) (by decide +kernel)
set_option maxRecDepth 20000 in
theorem gL_law_L_some : GoodIn wsL_law (va_wsS RL 135 yL_some wsL_some) := goodIn_app (goodIn_of _ (by decide +kernel)) ggL_law_L_some
