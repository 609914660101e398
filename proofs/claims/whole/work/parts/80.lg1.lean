set_option maxRecDepth 20000 in
theorem ggL_law_X2_init : GoodIn wsL_law wsX2_init := goodIn_r _ [9, 10, 11, 12, 13, 14, 15, 16, 17, 18, 19, 20, 21, 22, 23, 24, 25, 26, 27, 28, 29, 30, 31, 32, 33, 34, 35, 36, 37, 38, 39, 40, 41, 42, 43, 44, 45, 486, 487, 488, 489, 490, 499, 500, 501, 502, 503, 504, 505, 506, 507] (by decide +kernel) (by decide +kernel)
set_option maxRecDepth 20000 in
theorem gL_law_X2_init : GoodIn wsL_law (wsX2_init) := ggL_law_X2_init
set_option maxRecDepth 20000 in
theorem ggL_law_X3_init : GoodIn wsL_law wsX3_init := goodIn_r _ [48, 49, 11, 12, 50, 51, 19, 52, 53, 54, 55, 56, 57, 58, 491, 492, 493, 494, 495, 496, 497, 498] (by decide +kernel) (by decide +kernel)
set_option maxRecDepth 20000 in
theorem gL_law_X3_init : GoodIn wsL_law (wsX3_init) := ggL_law_X3_init
set_option maxRecDepth 20000 in
theorem ggL_law_L_make : GoodIn wsL_law wsL_make := goodIn_ca (goodIn_ca (goodIn_r _ [62, 63, 64, 65, 66, 67, 2, 68, 69, 70, 14, 71, 72, 73, 74, 75, 76, 77, 78, 79, 80, 81, 24, 82, 40, 41, 83, 84, 85, 86, 87, 88, 486, 487, 488, 489, 490, 504, 505, 506, 507] (by decide +kernel) (by decide +kernel)) (goodIn_sub (fun _ h => List.mem_append_left _ (List.mem_append_right _ h)) (by decide +kernel))) (goodIn_sub (fun _ h => List.mem_append_right _ h) (by decide +kernel))
set_option maxRecDepth 20000 in
theorem gL_law_L_make : GoodIn wsL_law (va_wsS RL 67 yL_make wsL_make) := goodIn_app (goodIn_of _ (by decide +kernel)) ggL_law_L_make
set_option maxRecDepth 20000 in
theorem ggL_law_X3_make : GoodIn wsL_law wsX3_make := goodIn_r _ [92, 54, 93, 55, 94, 95, 96, 5, 97, 51, 98, 99, 100, 101, 102, 103, 104, 105, 106, 107, 108, 109, 52, 110, 111, 112, 113, 114, 115, 116, 117, 118, 119, 120, 121, 57, 491, 492, 493, 494, 495, 496, 497, 498] (by decide +kernel) (by decide +kernel)
set_option maxRecDepth 20000 in
theorem gL_law_X3_make : GoodIn wsL_law (wsV RL 72 RX3 yX3_make wsX3_make) := goodIn_app (goodIn_of _ (by decide +kernel)) ggL_law_X3_make
set_option maxRecDepth 20000 in
theorem ggL_law_X3_thrown : GoodIn wsL_law wsX3_thrown := goodIn_r _ [125, 102, 491, 492, 493, 494, 495, 496, 497, 498] (by decide +kernel) (by decide +kernel)
set_option maxRecDepth 20000 in
theorem gL_law_X3_thrown : GoodIn wsL_law (wsV RL 73 RX3 yX3_thrown wsX3_thrown) := goodIn_app (goodIn_of _ (by decide +kernel)) ggL_law_X3_thrown
set_option maxRecDepth 20000 in
theorem ggL_law_L_copy : GoodIn wsL_law wsL_copy := goodIn_ca (goodIn_ca (goodIn_r _ [128, 63, 64, 129, 130, 131, 2, 132, 14, 133, 134, 135, 136, 137, 69, 70, 138, 139, 140, 141, 78, 72, 73, 74, 75, 76, 77, 79, 80, 81, 24, 82, 40, 41, 83, 84, 85, 86, 87, 88, 142, 143, 144, 145, 146, 71, 18, 147, 148, 149, 17, 150, 30, 486, 487, 488, 489, 490, 504, 505, 506, 507, 499, 500, 501, 502, 503] (by decide +kernel) (by decide +kernel)) (goodIn_sub (fun _ h => List.mem_append_left _ (List.mem_append_right _ h)) (by decide +kernel))) (goodIn_sub (fun _ h => List.mem_append_right _ h) (by decide +kernel))
set_option maxRecDepth 20000 in
theorem gL_law_L_copy : GoodIn wsL_law (va_wsS RL 77 yL_copy wsL_copy) := goodIn_app (goodIn_of _ (by decide +kernel)) ggL_law_L_copy
set_option maxRecDepth 20000 in
theorem ggL_law_X3_copy : GoodIn wsL_law wsX3_copy := goodIn_r _ [154, 52, 54, 93, 55, 155, 156, 157, 5, 158, 51, 94, 95, 96, 97, 98, 99, 100, 101, 102, 103, 104, 105, 106, 107, 108, 109, 110, 111, 112, 113, 114, 115, 116, 117, 118, 119, 120, 121, 57, 491, 492, 493, 494, 495, 496, 497, 498] (by decide +kernel) (by decide +kernel)
set_option maxRecDepth 20000 in
theorem gL_law_X3_copy : GoodIn wsL_law (wsV RL 80 RX3 yX3_copy wsX3_copy) := goodIn_app (goodIn_of _ (by decide +kernel)) ggL_law_X3_copy
set_option maxRecDepth 20000 in
theorem ggL_law_L_slice : GoodIn wsL_law wsL_slice := goodIn_ca (goodIn_ca (goodIn_r _ [161, 63, 64, 162, 163, 164, 2, 165, 20, 14, 134, 135, 136, 137, 69, 70, 138, 139, 140, 141, 78, 166, 167, 168, 133, 72, 73, 74, 75, 76, 77, 169, 170, 171, 172, 173, 174, 175, 176, 177, 178, 179, 146, 71, 18, 180, 87, 88, 181, 182, 44, 183, 184, 185, 186, 187, 188, 189, 190, 191, 192, 17, 193, 29, 194, 195, 196, 197, 198, 199, 200, 201, 202, 203, 204, 205, 206, 207, 208, 209, 210, 79, 80, 81, 24, 82, 40, 41, 142, 143, 144, 145, 147, 148, 149, 150, 30, 211, 212, 213, 214, 83, 84, 85, 86, 215, 216, 217, 218, 219, 220, 221, 222, 223, 224, 225, 226, 31, 32, 227, 228, 229, 230, 231, 232, 233, 234, 33, 235, 236, 237, 238, 239, 240, 241, 242, 243, 486, 487, 488, 489, 490, 504, 505, 506, 507, 508, 509, 510, 511, 499, 500, 501, 502, 503] (by decide +kernel) (by decide +kernel)) (goodIn_sub (fun _ h => List.mem_append_left _ (List.mem_append_right _ h)) (by decide +kernel))) (goodIn_sub (fun _ h => List.mem_append_right _ h) (by decide +kernel))
set_option maxRecDepth 20000 in
theorem gL_law_L_slice : GoodIn wsL_law (va_wsS RL 81 yL_slice wsL_slice) := goodIn_app (goodIn_of _ (by decide +kernel)) ggL_law_L_slice
set_option maxRecDepth 20000 in
theorem ggL_law_X3_slice : GoodIn wsL_law wsX3_slice := goodIn_r _ [247, 54, 93, 55, 248, 249, 250, 5, 251, 52, 155, 156, 157, 158, 51, 94, 95, 96, 97, 98, 99, 100, 101, 102, 103, 104, 105, 111, 112, 113, 106, 107, 108, 109, 110, 114, 115, 116, 117, 118, 119, 120, 121, 57, 491, 492, 493, 494, 495, 496, 497, 498] (by decide +kernel) (by decide +kernel)
set_option maxRecDepth 20000 in
theorem gL_law_X3_slice : GoodIn wsL_law (wsV RL 84 RX3 yX3_slice wsX3_slice) := goodIn_app (goodIn_of _ (by decide +kernel)) ggL_law_X3_slice
set_option maxRecDepth 20000 in
theorem ggL_law_L_join : GoodIn wsL_law wsL_join := goodIn_ca (goodIn_ca (goodIn_r _ [254, 63, 64, 255, 256, 257, 2, 258, 69, 70, 133, 20, 14, 134, 135, 136, 137, 138, 139, 140, 141, 78, 72, 73, 74, 75, 76, 77, 83, 84, 85, 24, 86, 41, 87, 88, 169, 170, 171, 172, 173, 174, 175, 176, 177, 178, 179, 146, 71, 18, 180, 181, 182, 44, 183, 184, 185, 186, 187, 188, 189, 190, 191, 192, 17, 193, 29, 194, 195, 196, 197, 198, 199, 200, 201, 202, 203, 204, 205, 206, 207, 208, 209, 210, 79, 80, 81, 82, 40, 142, 143, 144, 145, 147, 148, 149, 150, 30, 211, 212, 213, 214, 215, 216, 217, 218, 219, 220, 221, 222, 223, 224, 225, 226, 31, 32, 227, 228, 229, 230, 231, 232, 233, 234, 33, 235, 236, 237, 238, 239, 240, 241, 242, 243, 504, 505, 506, 507, 486, 487, 488, 489, 490, 508, 509, 510, 511, 499, 500, 501, 502, 503] (by decide +kernel) (by decide +kernel)) (goodIn_sub (fun _ h => List.mem_append_left _ (List.mem_append_right _ h)) (by decide +kernel))) (goodIn_sub (fun _ h => List.mem_append_right _ h) (by decide +kernel))
set_option maxRecDepth 20000 in
theorem gL_law_L_join : GoodIn wsL_law (va_wsS RL 85 yL_join wsL_join) := goodIn_app (goodIn_of _ (by decide +kernel)) ggL_law_L_join
set_option maxRecDepth 20000 in
theorem ggL_law_X3_join : GoodIn wsL_law wsX3_join := goodIn_r _ [262, 52, 54, 93, 55, 155, 156, 157, 5, 158, 51, 94, 95, 96, 97, 98, 99, 100, 101, 102, 103, 104, 105, 106, 107, 108, 109, 110, 111, 112, 113, 114, 115, 116, 117, 118, 119, 120, 121, 57, 491, 492, 493, 494, 495, 496, 497, 498] (by decide +kernel) (by decide +kernel)
set_option maxRecDepth 20000 in
theorem gL_law_X3_join : GoodIn wsL_law (wsV RL 87 RX3 yX3_join wsX3_join) := goodIn_app (goodIn_of _ (by decide +kernel)) ggL_law_X3_join
set_option maxRecDepth 20000 in
theorem ggL_law_X2_release : GoodIn wsL_law wsX2_release := goodIn_r _ [266, 14, 78, 138, 139, 140, 2, 141, 83, 84, 85, 24, 86, 41, 87, 88, 215, 216, 217, 218, 146, 71, 219, 220, 221, 222, 18, 223, 224, 225, 17, 226, 30, 31, 32, 486, 487, 488, 489, 490, 504, 505, 506, 507, 499, 500, 501, 502, 503] (by decide +kernel) (by decide +kernel)
set_option maxRecDepth 20000 in
theorem gL_law_X2_release : GoodIn wsL_law (wsV RL 88 RX2 yX2_release wsX2_release) := goodIn_app (goodIn_of _ (by decide +kernel)) ggL_law_X2_release
