set_option maxRecDepth 20000 in
theorem ggL_law_X3_used : GoodIn wsL_law wsX3_used := goodIn_r _ [452, 102, 118, 119, 120, 5, 121, 110, 57, 51, 52, 55, 103, 104, 105, 491, 492, 493, 494, 495, 496, 497, 498] (by decide +kernel) (by decide +kernel)
set_option maxRecDepth 20000 in
theorem gL_law_X3_used : GoodIn wsL_law (wsV RL 134 RX3 yX3_used wsX3_used) := goodIn_app (goodIn_of _ (by decide +kernel)) ggL_law_X3_used
set_option maxRecDepth 20000 in
theorem ggL_law_X2_made : GoodIn wsL_law wsX2_made := goodIn_r _ [456, 18, 457, 486, 487, 488, 489, 490, 499, 500, 501, 502, 503] (by decide +kernel) (by decide +kernel)
set_option maxRecDepth 20000 in
theorem gL_law_X2_made : GoodIn wsL_law (wsV RL 135 RX2 yX2_made wsX2_made) := goodIn_app (goodIn_of _ (by decide +kernel)) ggL_law_X2_made
set_option maxRecDepth 20000 in
theorem ggL_law_X3_made : GoodIn wsL_law wsX3_made := goodIn_r _ [461, 102, 110, 491, 492, 493, 494, 495, 496, 497, 498] (by decide +kernel) (by decide +kernel)
set_option maxRecDepth 20000 in
theorem gL_law_X3_made : GoodIn wsL_law (wsV RL 138 RX3 yX3_made wsX3_made) := goodIn_app (goodIn_of _ (by decide +kernel)) ggL_law_X3_made
set_option maxRecDepth 20000 in
theorem ggL_law_X2_leaf : GoodIn wsL_law wsX2_leaf := goodIn_r _ [465, 14, 146, 18, 466, 467, 468, 2, 469, 138, 139, 140, 141, 78, 83, 84, 85, 24, 86, 41, 87, 88, 316, 317, 318, 17, 319, 30, 486, 487, 488, 489, 490, 504, 505, 506, 507, 499, 500, 501, 502, 503] (by decide +kernel) (by decide +kernel)
set_option maxRecDepth 20000 in
theorem gL_law_X2_leaf : GoodIn wsL_law (wsV RL 139 RX2 yX2_leaf wsX2_leaf) := goodIn_app (goodIn_of _ (by decide +kernel)) ggL_law_X2_leaf
set_option maxRecDepth 20000 in
theorem ggL_law_X3_leaf : GoodIn wsL_law wsX3_leaf := goodIn_r _ [473, 102, 55, 57, 474, 475, 476, 5, 477, 52, 155, 156, 157, 158, 51, 103, 104, 105, 118, 119, 120, 121, 110, 491, 492, 493, 494, 495, 496, 497, 498] (by decide +kernel) (by decide +kernel)
set_option maxRecDepth 20000 in
theorem gL_law_X3_leaf : GoodIn wsL_law (wsV RL 142 RX3 yX3_leaf wsX3_leaf) := goodIn_app (goodIn_of _ (by decide +kernel)) ggL_law_X3_leaf
set_option maxRecDepth 20000 in
theorem ggL_law_X2_alike : GoodIn wsL_law wsX2_alike := goodIn_r _ [481, 14, 146, 466, 467, 468, 2, 469, 138, 139, 140, 141, 78, 83, 84, 85, 24, 86, 41, 87, 88, 486, 487, 488, 489, 490, 504, 505, 506, 507] (by decide +kernel) (by decide +kernel)
set_option maxRecDepth 20000 in
theorem gL_law_X2_alike : GoodIn wsL_law (wsV RL 143 RX2 yX2_alike wsX2_alike) := goodIn_app (goodIn_of _ (by decide +kernel)) ggL_law_X2_alike
set_option maxRecDepth 20000 in
theorem ggL_law_X3_alike : GoodIn wsL_law wsX3_alike := goodIn_r _ [485, 102, 55, 474, 475, 476, 5, 477, 52, 155, 156, 157, 158, 51, 103, 104, 105, 491, 492, 493, 494, 495, 496, 497, 498] (by decide +kernel) (by decide +kernel)
set_option maxRecDepth 20000 in
theorem gL_law_X3_alike : GoodIn wsL_law (wsV RL 147 RX3 yX3_alike wsX3_alike) := goodIn_app (goodIn_of _ (by decide +kernel)) ggL_law_X3_alike
