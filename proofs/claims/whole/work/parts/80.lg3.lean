set_option maxRecDepth 20000 in
theorem ggL_law_X3_reverse : GoodIn wsL_law wsX3_reverse := goodIn_r _ [388, 52, 58, 54, 155, 156, 157, 5, 158, 51, 98, 99, 100, 101, 102, 332, 333, 334, 335, 55, 57, 110, 118, 119, 120, 121, 103, 104, 105, 111, 112, 113, 491, 492, 493, 494, 495, 496, 497, 498] (by decide +kernel) (by decide +kernel)
set_option maxRecDepth 20000 in
theorem gL_law_X3_reverse : GoodIn wsL_law (wsV RL 113 RX3 yX3_reverse wsX3_reverse) := goodIn_app (goodIn_of _ (by decide +kernel)) ggL_law_X3_reverse
set_option maxRecDepth 20000 in
theorem ggL_law_X2_length : GoodIn wsL_law wsX2_length := goodIn_r _ [392, 14, 133, 138, 139, 140, 2, 141, 78, 486, 487, 488, 489, 490, 504, 505, 506, 507] (by decide +kernel) (by decide +kernel)
set_option maxRecDepth 20000 in
theorem gL_law_X2_length : GoodIn wsL_law (wsV RL 114 RX2 yX2_length wsX2_length) := goodIn_app (goodIn_of _ (by decide +kernel)) ggL_law_X2_length
set_option maxRecDepth 20000 in
theorem ggL_law_X3_length : GoodIn wsL_law wsX3_length := goodIn_r _ [396, 102, 52, 155, 156, 157, 5, 158, 51, 491, 492, 493, 494, 495, 496, 497, 498] (by decide +kernel) (by decide +kernel)
set_option maxRecDepth 20000 in
theorem gL_law_X3_length : GoodIn wsL_law (wsV RL 117 RX3 yX3_length wsX3_length) := goodIn_app (goodIn_of _ (by decide +kernel)) ggL_law_X3_length
set_option maxRecDepth 20000 in
theorem ggL_law_L_sum : GoodIn wsL_law wsL_sum := goodIn_ca (goodIn_r _ [399, 63, 400, 401, 402, 2, 403, 20, 134, 135, 136, 137, 69, 70, 14, 138, 139, 140, 141, 78, 166, 167, 168, 133, 169, 170, 171, 172, 173, 174, 175, 176, 177, 178, 179, 146, 71, 18, 180, 87, 88, 181, 182, 44, 183, 184, 185, 186, 187, 188, 189, 190, 191, 192, 17, 193, 29, 194, 195, 196, 197, 486, 487, 488, 489, 490, 504, 505, 506, 507, 508, 509, 510, 511, 499, 500, 501, 502, 503] (by decide +kernel) (by decide +kernel)) (goodIn_sub (fun _ h => List.mem_append_left _ (List.mem_append_right _ h)) (by decide +kernel))
set_option maxRecDepth 20000 in
theorem gL_law_L_sum : GoodIn wsL_law (va_wsS RL 118 yL_sum wsL_sum) := goodIn_app (goodIn_of _ (by decide +kernel)) ggL_law_L_sum
set_option maxRecDepth 20000 in
theorem ggL_law_X3_sum : GoodIn wsL_law wsX3_sum := goodIn_r _ [407, 54, 248, 249, 250, 5, 251, 52, 155, 156, 157, 158, 51, 98, 99, 100, 101, 102, 491, 492, 493, 494, 495, 496, 497, 498] (by decide +kernel) (by decide +kernel)
set_option maxRecDepth 20000 in
theorem gL_law_X3_sum : GoodIn wsL_law (wsV RL 120 RX3 yX3_sum wsX3_sum) := goodIn_app (goodIn_of _ (by decide +kernel)) ggL_law_X3_sum
set_option maxRecDepth 20000 in
theorem ggL_law_L_bound : GoodIn wsL_law wsL_bound := goodIn_ca (goodIn_r _ [410, 63, 411, 412, 413, 2, 414, 69, 70, 20, 415, 416, 177, 178, 175, 179, 173, 174, 176, 134, 135, 136, 137, 14, 138, 139, 140, 141, 78, 166, 167, 168, 133, 169, 170, 171, 172, 146, 71, 18, 180, 87, 88, 181, 182, 44, 183, 184, 185, 186, 187, 188, 189, 190, 191, 192, 17, 193, 29, 194, 195, 196, 197, 486, 487, 488, 489, 490, 504, 505, 506, 507, 508, 509, 510, 511, 499, 500, 501, 502, 503] (by decide +kernel) (by decide +kernel)) (goodIn_sub (fun _ h => List.mem_append_left _ (List.mem_append_right _ h)) (by decide +kernel))
set_option maxRecDepth 20000 in
theorem gL_law_L_bound : GoodIn wsL_law (va_wsS RL 121 yL_bound wsL_bound) := goodIn_app (goodIn_of _ (by decide +kernel)) ggL_law_L_bound
set_option maxRecDepth 20000 in
theorem ggL_law_X3_bound : GoodIn wsL_law wsX3_bound := goodIn_r _ [420, 421, 422, 54, 248, 249, 250, 5, 251, 52, 155, 156, 157, 158, 51, 98, 99, 100, 101, 102, 491, 492, 493, 494, 495, 496, 497, 498] (by decide +kernel) (by decide +kernel)
set_option maxRecDepth 20000 in
theorem gL_law_X3_bound : GoodIn wsL_law (wsV RL 124 RX3 yX3_bound wsX3_bound) := goodIn_app (goodIn_of _ (by decide +kernel)) ggL_law_X3_bound
set_option maxRecDepth 20000 in
theorem ggL_law_L_find : GoodIn wsL_law wsL_find := goodIn_ca (goodIn_r _ [425, 63, 426, 427, 428, 2, 429, 133, 20, 134, 135, 136, 137, 69, 70, 14, 138, 139, 140, 141, 78, 166, 167, 168, 169, 170, 171, 172, 173, 174, 175, 176, 177, 178, 179, 146, 71, 18, 180, 87, 88, 181, 182, 44, 183, 184, 185, 186, 187, 188, 189, 190, 191, 192, 17, 193, 29, 194, 195, 196, 197, 504, 505, 506, 507, 486, 487, 488, 489, 490, 508, 509, 510, 511, 499, 500, 501, 502, 503] (by decide +kernel) (by decide +kernel)) (goodIn_sub (fun _ h => List.mem_append_left _ (List.mem_append_right _ h)) (by decide +kernel))
set_option maxRecDepth 20000 in
theorem gL_law_L_find : GoodIn wsL_law (va_wsS RL 125 yL_find wsL_find) := goodIn_app (goodIn_of _ (by decide +kernel)) ggL_law_L_find
set_option maxRecDepth 20000 in
theorem ggL_law_X3_find : GoodIn wsL_law wsX3_find := goodIn_r _ [433, 52, 54, 155, 156, 157, 5, 158, 51, 98, 99, 100, 101, 102, 491, 492, 493, 494, 495, 496, 497, 498] (by decide +kernel) (by decide +kernel)
set_option maxRecDepth 20000 in
theorem gL_law_X3_find : GoodIn wsL_law (wsV RL 127 RX3 yX3_find wsX3_find) := goodIn_app (goodIn_of _ (by decide +kernel)) ggL_law_X3_find
set_option maxRecDepth 20000 in
theorem ggL_law_L_difference : GoodIn wsL_law wsL_difference := goodIn_ca (goodIn_r _ [436, 63, 437, 438, 439, 2, 440, 133, 20, 21, 177, 178, 175, 179, 134, 135, 136, 137, 69, 70, 14, 138, 139, 140, 141, 78, 169, 170, 171, 172, 173, 174, 176, 146, 71, 18, 180, 87, 88, 181, 182, 44, 183, 184, 185, 186, 187, 188, 189, 190, 191, 192, 17, 193, 29, 194, 195, 196, 197, 504, 505, 506, 507, 486, 487, 488, 489, 490, 508, 509, 510, 511, 499, 500, 501, 502, 503] (by decide +kernel) (by decide +kernel)) (goodIn_sub (fun _ h => List.mem_append_left _ (List.mem_append_right _ h)) (by decide +kernel))
set_option maxRecDepth 20000 in
theorem gL_law_L_difference : GoodIn wsL_law (va_wsS RL 128 yL_difference wsL_difference) := goodIn_app (goodIn_of _ (by decide +kernel)) ggL_law_L_difference
set_option maxRecDepth 20000 in
theorem ggL_law_X3_difference : GoodIn wsL_law wsX3_difference := goodIn_r _ [444, 52, 54, 155, 156, 157, 5, 158, 51, 98, 99, 100, 101, 102, 491, 492, 493, 494, 495, 496, 497, 498] (by decide +kernel) (by decide +kernel)
set_option maxRecDepth 20000 in
theorem gL_law_X3_difference : GoodIn wsL_law (wsV RL 130 RX3 yX3_difference wsX3_difference) := goodIn_app (goodIn_of _ (by decide +kernel)) ggL_law_X3_difference
set_option maxRecDepth 20000 in
theorem ggL_law_X2_used : GoodIn wsL_law wsX2_used := goodIn_r _ [448, 18, 210, 486, 487, 488, 489, 490, 499, 500, 501, 502, 503] (by decide +kernel) (by decide +kernel)
set_option maxRecDepth 20000 in
theorem gL_law_X2_used : GoodIn wsL_law (wsV RL 131 RX2 yX2_used wsX2_used) := goodIn_app (goodIn_of _ (by decide +kernel)) ggL_law_X2_used
