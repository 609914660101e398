set_option maxRecDepth 20000 in
theorem ggL_make_X2_make : GoodIn wsL_make wsX2_make := goodIn_ca (goodIn_ca (goodIn_r _ [7, 8, 9, 10, 11, 12, 13, 14, 6, 15, 16, 17, 18, 19, 20, 21, 22, 23, 24, 25, 26, 27, 28, 29, 30, 31, 32, 33, 34, 35, 36, 37, 38, 39, 40] (by decide +kernel) (by decide +kernel)) (goodIn_sub (fun _ h => List.mem_cons_of_mem _ (List.mem_append_left _ (List.mem_append_right _ h))) (by decide +kernel))) (goodIn_sub (fun _ h => List.mem_cons_of_mem _ (List.mem_append_right _ h)) (by decide +kernel))
set_option maxRecDepth 20000 in
theorem gL_make_X2_make : GoodIn wsL_make (wsV RL 7 RX2 yX2_make wsX2_make) := goodIn_app (goodIn_of _ (by decide +kernel)) ggL_make_X2_make
theorem dL_make_0 : decode cL_make 0 = .ok (.aload_n 3, 1) := by decide +kernel
theorem dL_make_1 : decode cL_make 1 = .ok (.iconst 0, 1) := by decide +kernel
theorem dL_make_2 : decode cL_make 2 = .ok (.aload_n 0, 1) := by decide +kernel
theorem dL_make_3 : decode cL_make 3 = .ok (.iload_n 1, 1) := by decide +kernel
theorem dL_make_4 : decode cL_make 4 = .ok (.iload_n 2, 1) := by decide +kernel
theorem dL_make_5 : decode cL_make 5 = .ok (.invokevirtual 7, 3) := by decide +kernel
theorem dL_make_8 : decode cL_make 8 = .ok (.i2l, 1) := by decide +kernel
theorem dL_make_9 : decode cL_make 9 = .ok (.lastore, 1) := by decide +kernel
theorem dL_make_10 : decode cL_make 10 = .ok (.goto 11, 3) := by decide +kernel
theorem dL_make_13 : decode cL_make 13 = .ok (.astore 4, 2) := by decide +kernel
theorem dL_make_15 : decode cL_make 15 = .ok (.iconst 1, 1) := by decide +kernel
theorem dL_make_16 : decode cL_make 16 = .ok (.ireturn, 1) := by decide +kernel
theorem dL_make_17 : decode cL_make 17 = .ok (.astore 4, 2) := by decide +kernel
theorem dL_make_19 : decode cL_make 19 = .ok (.iconst 2, 1) := by decide +kernel
theorem dL_make_20 : decode cL_make 20 = .ok (.ireturn, 1) := by decide +kernel
theorem dL_make_21 : decode cL_make 21 = .ok (.iconst 0, 1) := by decide +kernel
theorem dL_make_22 : decode cL_make 22 = .ok (.ireturn, 1) := by decide +kernel
set_option maxRecDepth 20000 in
theorem ggL_copy_X2_copy : GoodIn wsL_copy wsX2_copy := goodIn_ca (goodIn_ca (goodIn_r _ [7, 8, 9, 10, 11, 12, 6, 13, 14, 15, 16, 17, 18, 19, 20, 21, 22, 23, 24, 25, 26, 27, 28, 29, 30, 31, 32, 33, 34, 35, 36, 37, 38, 39, 40, 41, 42, 43, 44, 45, 46, 47, 48, 49, 50, 51, 52, 53, 54, 55, 56, 57, 58, 59, 60, 61, 62, 63, 64, 65, 66] (by decide +kernel) (by decide +kernel)) (goodIn_sub (fun _ h => List.mem_cons_of_mem _ (List.mem_append_left _ (List.mem_append_right _ h))) (by decide +kernel))) (goodIn_sub (fun _ h => List.mem_cons_of_mem _ (List.mem_append_right _ h)) (by decide +kernel))
set_option maxRecDepth 20000 in
theorem gL_copy_X2_copy : GoodIn wsL_copy (wsV RL 17 RX2 yX2_copy wsX2_copy) := goodIn_app (goodIn_of _ (by decide +kernel)) ggL_copy_X2_copy
theorem dL_copy_0 : decode cL_copy 0 = .ok (.aload_n 2, 1) := by decide +kernel
theorem dL_copy_1 : decode cL_copy 1 = .ok (.iconst 0, 1) := by decide +kernel
theorem dL_copy_2 : decode cL_copy 2 = .ok (.aload_n 0, 1) := by decide +kernel
theorem dL_copy_3 : decode cL_copy 3 = .ok (.iload_n 1, 1) := by decide +kernel
theorem dL_copy_4 : decode cL_copy 4 = .ok (.invokevirtual 17, 3) := by decide +kernel
theorem dL_copy_7 : decode cL_copy 7 = .ok (.i2l, 1) := by decide +kernel
theorem dL_copy_8 : decode cL_copy 8 = .ok (.lastore, 1) := by decide +kernel
theorem dL_copy_9 : decode cL_copy 9 = .ok (.goto 9, 3) := by decide +kernel
theorem dL_copy_12 : decode cL_copy 12 = .ok (.astore_n 3, 1) := by decide +kernel
theorem dL_copy_13 : decode cL_copy 13 = .ok (.iconst 1, 1) := by decide +kernel
theorem dL_copy_14 : decode cL_copy 14 = .ok (.ireturn, 1) := by decide +kernel
theorem dL_copy_15 : decode cL_copy 15 = .ok (.astore_n 3, 1) := by decide +kernel
theorem dL_copy_16 : decode cL_copy 16 = .ok (.iconst 2, 1) := by decide +kernel
theorem dL_copy_17 : decode cL_copy 17 = .ok (.ireturn, 1) := by decide +kernel
theorem dL_copy_18 : decode cL_copy 18 = .ok (.iconst 0, 1) := by decide +kernel
theorem dL_copy_19 : decode cL_copy 19 = .ok (.ireturn, 1) := by decide +kernel
set_option maxRecDepth 20000 in
theorem ggL_slice_X2_slice : GoodIn wsL_slice wsX2_slice := goodIn_ca (goodIn_ca (goodIn_r _ [7, 8, 9, 10, 11, 12, 6, 13, 14, 15, 16, 17, 18, 19, 20, 21, 22, 23, 24, 25, 26, 27, 28, 29, 30, 31, 32, 33, 34, 35, 36, 37, 38, 39, 40, 41, 42, 43, 44, 45, 46, 47, 48, 49, 50, 51, 52, 53, 54, 55, 56, 57, 58, 59, 60, 61, 62, 63, 64, 65, 66, 67, 68, 69, 70, 71, 72, 73, 74, 75, 76, 77, 78, 79, 80, 81, 82, 83, 84, 85, 86, 87, 88, 89, 90, 91, 92, 93, 94, 95, 96, 97, 98, 99, 100, 101, 102, 103, 104, 105, 106, 107, 108, 109, 110, 111, 112, 113, 114, 115, 116, 117, 118, 119, 120, 121, 122, 123, 124, 125, 126, 127, 128, 129, 130, 131, 132, 133, 134, 135, 136, 137, 138, 139, 140, 141, 142, 143, 144, 145, 146, 147, 148, 149, 150, 151, 152, 153, 154] (by decide +kernel) (by decide +kernel)) (goodIn_sub (fun _ h => List.mem_cons_of_mem _ (List.mem_append_left _ (List.mem_append_right _ h))) (by decide +kernel))) (goodIn_sub (fun _ h => List.mem_cons_of_mem _ (List.mem_append_right _ h)) (by decide +kernel))
set_option maxRecDepth 20000 in
theorem gL_slice_X2_slice : GoodIn wsL_slice (wsV RL 21 RX2 yX2_slice wsX2_slice) := goodIn_app (goodIn_of _ (by decide +kernel)) ggL_slice_X2_slice
theorem dL_slice_0 : decode cL_slice 0 = .ok (.aload 4, 2) := by decide +kernel
theorem dL_slice_2 : decode cL_slice 2 = .ok (.iconst 0, 1) := by decide +kernel
theorem dL_slice_3 : decode cL_slice 3 = .ok (.aload_n 0, 1) := by decide +kernel
theorem dL_slice_4 : decode cL_slice 4 = .ok (.iload_n 1, 1) := by decide +kernel
theorem dL_slice_5 : decode cL_slice 5 = .ok (.iload_n 2, 1) := by decide +kernel
theorem dL_slice_6 : decode cL_slice 6 = .ok (.iload_n 3, 1) := by decide +kernel
theorem dL_slice_7 : decode cL_slice 7 = .ok (.invokevirtual 21, 3) := by decide +kernel
theorem dL_slice_10 : decode cL_slice 10 = .ok (.i2l, 1) := by decide +kernel
theorem dL_slice_11 : decode cL_slice 11 = .ok (.lastore, 1) := by decide +kernel
theorem dL_slice_12 : decode cL_slice 12 = .ok (.goto 11, 3) := by decide +kernel
theorem dL_slice_15 : decode cL_slice 15 = .ok (.astore 5, 2) := by decide +kernel
theorem dL_slice_17 : decode cL_slice 17 = .ok (.iconst 1, 1) := by decide +kernel
theorem dL_slice_18 : decode cL_slice 18 = .ok (.ireturn, 1) := by decide +kernel
theorem dL_slice_19 : decode cL_slice 19 = .ok (.astore 5, 2) := by decide +kernel
theorem dL_slice_21 : decode cL_slice 21 = .ok (.iconst 2, 1) := by decide +kernel
theorem dL_slice_22 : decode cL_slice 22 = .ok (.ireturn, 1) := by decide +kernel
theorem dL_slice_23 : decode cL_slice 23 = .ok (.iconst 0, 1) := by decide +kernel
theorem dL_slice_24 : decode cL_slice 24 = .ok (.ireturn, 1) := by decide +kernel
set_option maxRecDepth 20000 in
theorem ggL_join_X2_join : GoodIn wsL_join wsX2_join := goodIn_ca (goodIn_ca (goodIn_r _ [7, 8, 9, 10, 11, 12, 13, 14, 15, 6, 16, 17, 18, 19, 20, 21, 22, 23, 24, 25, 26, 27, 28, 29, 30, 31, 32, 33, 34, 35, 36, 37, 38, 39, 40, 41, 42, 43, 44, 45, 46, 47, 48, 49, 50, 51, 52, 53, 54, 55, 56, 57, 58, 59, 60, 61, 62, 63, 64, 65, 66, 67, 68, 69, 70, 71, 72, 73, 74, 75, 76, 77, 78, 79, 80, 81, 82, 83, 84, 85, 86, 87, 88, 89, 90, 91, 92, 93, 94, 95, 96, 97, 98, 99, 100, 101, 102, 103, 104, 105, 106, 107, 108, 109, 110, 111, 112, 113, 114, 115, 116, 117, 118, 119, 120, 121, 122, 123, 124, 125, 126, 127, 128, 129, 130, 131, 132, 133, 134, 135, 136, 137, 138, 139, 140, 141, 142, 143, 144, 145, 146, 147, 148, 149, 150, 151] (by decide +kernel) (by decide +kernel)) (goodIn_sub (fun _ h => List.mem_cons_of_mem _ (List.mem_append_left _ (List.mem_append_right _ h))) (by decide +kernel))) (goodIn_sub (fun _ h => List.mem_cons_of_mem _ (List.mem_append_right _ h)) (by decide +kernel))
set_option maxRecDepth 20000 in
theorem gL_join_X2_join : GoodIn wsL_join (wsV RL 25 RX2 yX2_join wsX2_join) := goodIn_app (goodIn_of _ (by decide +kernel)) ggL_join_X2_join
theorem dL_join_0 : decode cL_join 0 = .ok (.aload_n 3, 1) := by decide +kernel
theorem dL_join_1 : decode cL_join 1 = .ok (.iconst 0, 1) := by decide +kernel
theorem dL_join_2 : decode cL_join 2 = .ok (.aload_n 0, 1) := by decide +kernel
theorem dL_join_3 : decode cL_join 3 = .ok (.iload_n 1, 1) := by decide +kernel
theorem dL_join_4 : decode cL_join 4 = .ok (.iload_n 2, 1) := by decide +kernel
theorem dL_join_5 : decode cL_join 5 = .ok (.invokevirtual 25, 3) := by decide +kernel
theorem dL_join_8 : decode cL_join 8 = .ok (.i2l, 1) := by decide +kernel
theorem dL_join_9 : decode cL_join 9 = .ok (.lastore, 1) := by decide +kernel
theorem dL_join_10 : decode cL_join 10 = .ok (.goto 11, 3) := by decide +kernel
theorem dL_join_13 : decode cL_join 13 = .ok (.astore 4, 2) := by decide +kernel
theorem dL_join_15 : decode cL_join 15 = .ok (.iconst 1, 1) := by decide +kernel
theorem dL_join_16 : decode cL_join 16 = .ok (.ireturn, 1) := by decide +kernel
theorem dL_join_17 : decode cL_join 17 = .ok (.astore 4, 2) := by decide +kernel
theorem dL_join_19 : decode cL_join 19 = .ok (.iconst 2, 1) := by decide +kernel
theorem dL_join_20 : decode cL_join 20 = .ok (.ireturn, 1) := by decide +kernel
theorem dL_join_21 : decode cL_join 21 = .ok (.iconst 0, 1) := by decide +kernel
theorem dL_join_22 : decode cL_join 22 = .ok (.ireturn, 1) := by decide +kernel
set_option maxRecDepth 20000 in
theorem ggL_get_X2_get : GoodIn wsL_get wsX2_get := goodIn_ca (goodIn_r _ [6, 7, 8, 9, 10, 11, 12, 5, 13, 14, 15, 16, 17, 18, 19, 20, 21, 22, 23, 24, 25, 26, 27, 28, 29, 30, 31, 32, 33, 34, 35, 36, 37, 38, 39, 40, 41, 42, 43, 44, 45] (by decide +kernel) (by decide +kernel)) (goodIn_sub (fun _ h => List.mem_cons_of_mem _ (List.mem_append_right _ h)) (by decide +kernel))
set_option maxRecDepth 20000 in
theorem gL_get_X2_get : GoodIn wsL_get (wsV RL 28 RX2 yX2_get wsX2_get) := goodIn_app (goodIn_of _ (by decide +kernel)) ggL_get_X2_get
theorem dL_get_0 : decode cL_get 0 = .ok (.aload_n 3, 1) := by decide +kernel
theorem dL_get_1 : decode cL_get 1 = .ok (.iconst 0, 1) := by decide +kernel
theorem dL_get_2 : decode cL_get 2 = .ok (.aload_n 0, 1) := by decide +kernel
theorem dL_get_3 : decode cL_get 3 = .ok (.iload_n 1, 1) := by decide +kernel
theorem dL_get_4 : decode cL_get 4 = .ok (.iload_n 2, 1) := by decide +kernel
theorem dL_get_5 : decode cL_get 5 = .ok (.invokevirtual 28, 3) := by decide +kernel
theorem dL_get_8 : decode cL_get 8 = .ok (.i2l, 1) := by decide +kernel
theorem dL_get_9 : decode cL_get 9 = .ok (.lastore, 1) := by decide +kernel
theorem dL_get_10 : decode cL_get 10 = .ok (.goto 7, 3) := by decide +kernel
theorem dL_get_13 : decode cL_get 13 = .ok (.astore 4, 2) := by decide +kernel
theorem dL_get_15 : decode cL_get 15 = .ok (.iconst 1, 1) := by decide +kernel
theorem dL_get_16 : decode cL_get 16 = .ok (.ireturn, 1) := by decide +kernel
theorem dL_get_17 : decode cL_get 17 = .ok (.iconst 0, 1) := by decide +kernel
theorem dL_get_18 : decode cL_get 18 = .ok (.ireturn, 1) := by decide +kernel
set_option maxRecDepth 20000 in
theorem ggL_set_X2_set : GoodIn wsL_set wsX2_set := goodIn_ca (goodIn_ca (goodIn_r _ [7, 8, 9, 10, 6, 11, 12, 13, 14, 15, 16, 17, 18, 19, 20, 21, 22, 23, 24, 25, 26, 27, 28, 29, 30, 31, 32, 33, 34, 35, 36, 37, 38, 39, 40, 41, 42, 43, 44, 45, 46, 47, 48, 49, 50, 51, 52, 53, 54, 55, 56, 57, 58, 59, 60, 61, 62, 63, 64, 65, 66, 67, 68, 69, 70, 71, 72, 73, 74, 75, 76, 77, 78, 79, 80, 81, 82, 83, 84, 85, 86, 87, 88, 89, 90, 91, 92, 93, 94, 95, 96, 97, 98, 99, 100, 101, 102, 103, 104, 105, 106, 107, 108, 109, 110, 111, 112, 113, 114, 115, 116, 117, 118, 119, 120, 121, 122, 123, 124, 125, 126, 127, 128, 129, 130, 131, 132, 133, 134, 135, 136, 137, 138, 139, 140, 141, 142, 143, 144, 145, 146, 147, 148, 149, 150, 151, 152, 153, 154, 155, 156, 157, 158] (by decide +kernel) (by decide +kernel)) (goodIn_sub (fun _ h => List.mem_cons_of_mem _ (List.mem_append_left _ (List.mem_append_right _ h))) (by decide +kernel))) (goodIn_sub (fun _ h => List.mem_cons_of_mem _ (List.mem_append_right _ h)) (by decide +kernel))
set_option maxRecDepth 20000 in
theorem gL_set_X2_set : GoodIn wsL_set (wsV RL 31 RX2 yX2_set wsX2_set) := goodIn_app (goodIn_of _ (by decide +kernel)) ggL_set_X2_set
theorem dL_set_0 : decode cL_set 0 = .ok (.aload_n 0, 1) := by decide +kernel
theorem dL_set_1 : decode cL_set 1 = .ok (.iload_n 1, 1) := by decide +kernel
theorem dL_set_2 : decode cL_set 2 = .ok (.iload_n 2, 1) := by decide +kernel
theorem dL_set_3 : decode cL_set 3 = .ok (.iload_n 3, 1) := by decide +kernel
theorem dL_set_4 : decode cL_set 4 = .ok (.invokevirtual 31, 3) := by decide +kernel
theorem dL_set_7 : decode cL_set 7 = .ok (.goto 11, 3) := by decide +kernel
theorem dL_set_10 : decode cL_set 10 = .ok (.astore 4, 2) := by decide +kernel
theorem dL_set_12 : decode cL_set 12 = .ok (.iconst 1, 1) := by decide +kernel
theorem dL_set_13 : decode cL_set 13 = .ok (.ireturn, 1) := by decide +kernel
theorem dL_set_14 : decode cL_set 14 = .ok (.astore 4, 2) := by decide +kernel
theorem dL_set_16 : decode cL_set 16 = .ok (.iconst 2, 1) := by decide +kernel
theorem dL_set_17 : decode cL_set 17 = .ok (.ireturn, 1) := by decide +kernel
theorem dL_set_18 : decode cL_set 18 = .ok (.iconst 0, 1) := by decide +kernel
theorem dL_set_19 : decode cL_set 19 = .ok (.ireturn, 1) := by decide +kernel
set_option maxRecDepth 20000 in
theorem ggL_fill_X2_fill : GoodIn wsL_fill wsX2_fill := goodIn_ca (goodIn_ca (goodIn_r _ [7, 8, 9, 10, 6, 11, 12, 13, 14, 15, 16, 17, 18, 19, 20, 21, 22, 23, 24, 25, 26, 27, 28, 29, 30, 31, 32, 33, 34, 35, 36, 37, 38, 39, 40, 41, 42, 43, 44, 45, 46, 47, 48, 49, 50, 51, 52, 53, 54, 55, 56, 57, 58, 59, 60, 61, 62, 63, 64, 65, 66, 67, 68, 69, 70, 71, 72, 73, 74, 75, 76, 77, 78, 79, 80, 81, 82, 83, 84, 85, 86, 87, 88, 89, 90, 91, 92, 93, 94, 95, 96, 97, 98, 99, 100, 101, 102, 103, 104, 105, 106, 107, 108, 109, 110, 111, 112, 113, 114, 115, 116, 117, 118, 119, 120, 121, 122, 123, 124, 125, 126, 127, 128, 129, 130, 131, 132, 133, 134, 135, 136, 137, 138, 139, 140, 141, 142, 143, 144, 145, 146, 147, 148, 149, 150, 151, 152, 153, 154, 155, 156, 157, 158] (by decide +kernel) (by decide +kernel)) (goodIn_sub (fun _ h => List.mem_cons_of_mem _ (List.mem_append_left _ (List.mem_append_right _ h))) (by decide +kernel))) (goodIn_sub (fun _ h => List.mem_cons_of_mem _ (List.mem_append_right _ h)) (by decide +kernel))
set_option maxRecDepth 20000 in
theorem gL_fill_X2_fill : GoodIn wsL_fill (wsV RL 35 RX2 yX2_fill wsX2_fill) := goodIn_app (goodIn_of _ (by decide +kernel)) ggL_fill_X2_fill
theorem dL_fill_0 : decode cL_fill 0 = .ok (.aload_n 0, 1) := by decide +kernel
theorem dL_fill_1 : decode cL_fill 1 = .ok (.iload_n 1, 1) := by decide +kernel
theorem dL_fill_2 : decode cL_fill 2 = .ok (.iload_n 2, 1) := by decide +kernel
theorem dL_fill_3 : decode cL_fill 3 = .ok (.iload_n 3, 1) := by decide +kernel
theorem dL_fill_4 : decode cL_fill 4 = .ok (.iload 4, 2) := by decide +kernel
theorem dL_fill_6 : decode cL_fill 6 = .ok (.invokevirtual 35, 3) := by decide +kernel
theorem dL_fill_9 : decode cL_fill 9 = .ok (.goto 11, 3) := by decide +kernel
theorem dL_fill_12 : decode cL_fill 12 = .ok (.astore 5, 2) := by decide +kernel
theorem dL_fill_14 : decode cL_fill 14 = .ok (.iconst 1, 1) := by decide +kernel
theorem dL_fill_15 : decode cL_fill 15 = .ok (.ireturn, 1) := by decide +kernel
theorem dL_fill_16 : decode cL_fill 16 = .ok (.astore 5, 2) := by decide +kernel
theorem dL_fill_18 : decode cL_fill 18 = .ok (.iconst 2, 1) := by decide +kernel
theorem dL_fill_19 : decode cL_fill 19 = .ok (.ireturn, 1) := by decide +kernel
theorem dL_fill_20 : decode cL_fill 20 = .ok (.iconst 0, 1) := by decide +kernel
theorem dL_fill_21 : decode cL_fill 21 = .ok (.ireturn, 1) := by decide +kernel
set_option maxRecDepth 20000 in
theorem ggL_move_X2_move : GoodIn wsL_move wsX2_move := goodIn_ca (goodIn_ca (goodIn_r _ [7, 8, 9, 10, 11, 12, 13, 14, 6, 15, 16, 17, 18, 19, 20, 21, 22, 23, 24, 25, 26, 27, 28, 29, 30, 31, 32, 33, 34, 35, 36, 37, 38, 39, 40, 41, 42, 43, 44, 45, 46, 47, 48, 49, 50, 51, 52, 53, 54, 55, 56, 57, 58, 59, 60, 61, 62, 63, 64, 65, 66, 67, 68, 69, 70, 71, 72, 73, 74, 75, 76, 77, 78, 79, 80, 81, 82, 83, 84, 85, 86, 87, 88, 89, 90, 91, 92, 93, 94, 95, 96, 97, 98, 99, 100, 101, 102, 103, 104, 105, 106, 107, 108, 109, 110, 111, 112, 113, 114, 115, 116, 117, 118, 119, 120, 121, 122, 123, 124, 125, 126, 127, 128, 129, 130, 131, 132, 133, 134, 135, 136, 137, 138, 139, 140, 141, 142, 143, 144, 145, 146, 147, 148, 149, 150, 151, 152, 153, 154] (by decide +kernel) (by decide +kernel)) (goodIn_sub (fun _ h => List.mem_cons_of_mem _ (List.mem_append_left _ (List.mem_append_right _ h))) (by decide +kernel))) (goodIn_sub (fun _ h => List.mem_cons_of_mem _ (List.mem_append_right _ h)) (by decide +kernel))
set_option maxRecDepth 20000 in
theorem gL_move_X2_move : GoodIn wsL_move (wsV RL 39 RX2 yX2_move wsX2_move) := goodIn_app (goodIn_of _ (by decide +kernel)) ggL_move_X2_move
theorem dL_move_0 : decode cL_move 0 = .ok (.aload_n 0, 1) := by decide +kernel
theorem dL_move_1 : decode cL_move 1 = .ok (.iload_n 1, 1) := by decide +kernel
theorem dL_move_2 : decode cL_move 2 = .ok (.iload_n 2, 1) := by decide +kernel
theorem dL_move_3 : decode cL_move 3 = .ok (.iload_n 3, 1) := by decide +kernel
theorem dL_move_4 : decode cL_move 4 = .ok (.iload 4, 2) := by decide +kernel
theorem dL_move_6 : decode cL_move 6 = .ok (.invokevirtual 39, 3) := by decide +kernel
theorem dL_move_9 : decode cL_move 9 = .ok (.goto 11, 3) := by decide +kernel
theorem dL_move_12 : decode cL_move 12 = .ok (.astore 5, 2) := by decide +kernel
theorem dL_move_14 : decode cL_move 14 = .ok (.iconst 1, 1) := by decide +kernel
theorem dL_move_15 : decode cL_move 15 = .ok (.ireturn, 1) := by decide +kernel
theorem dL_move_16 : decode cL_move 16 = .ok (.astore 5, 2) := by decide +kernel
theorem dL_move_18 : decode cL_move 18 = .ok (.iconst 2, 1) := by decide +kernel
theorem dL_move_19 : decode cL_move 19 = .ok (.ireturn, 1) := by decide +kernel
theorem dL_move_20 : decode cL_move 20 = .ok (.iconst 0, 1) := by decide +kernel
theorem dL_move_21 : decode cL_move 21 = .ok (.ireturn, 1) := by decide +kernel
set_option maxRecDepth 20000 in
theorem ggL_sort_X2_sort : GoodIn wsL_sort wsX2_sort := goodIn_ca (goodIn_ca (goodIn_r _ [7, 8, 9, 10, 11, 12, 6, 13, 14, 15, 16, 17, 18, 19, 20, 21, 22, 23, 24, 25, 26, 27, 28, 29, 30, 31, 32, 33, 34, 35, 36, 37, 38, 39, 40, 41, 42, 43, 44, 45, 46, 47, 48, 49, 50, 51, 52, 53, 54, 55, 56, 57, 58, 59, 60, 61, 62, 63, 64, 65, 66, 67, 68, 69, 70, 71, 72, 73, 74, 75, 76, 77, 78, 79, 80, 81, 82, 83, 84, 85, 86, 87, 88, 89, 90, 91, 92, 93, 94, 95, 96, 97, 98, 99, 100, 101, 102, 103, 104, 105, 106, 107, 108, 109, 110, 111, 112, 113, 114, 115, 116, 117, 118, 119, 120, 121, 122, 123, 124, 125, 126, 127, 128, 129, 130, 131, 132, 133, 134, 135, 136, 137, 138, 139, 140, 141, 142, 143, 144, 145, 146, 147, 148, 149, 150, 151, 152, 153, 154, 155, 156, 157, 158, 159, 160, 161] (by decide +kernel) (by decide +kernel)) (goodIn_sub (fun _ h => List.mem_cons_of_mem _ (List.mem_append_left _ (List.mem_append_right _ h))) (by decide +kernel))) (goodIn_sub (fun _ h => List.mem_cons_of_mem _ (List.mem_append_right _ h)) (by decide +kernel))
set_option maxRecDepth 20000 in
theorem gL_sort_X2_sort : GoodIn wsL_sort (wsV RL 42 RX2 yX2_sort wsX2_sort) := goodIn_app (goodIn_of _ (by decide +kernel)) ggL_sort_X2_sort
theorem dL_sort_0 : decode cL_sort 0 = .ok (.aload_n 0, 1) := by decide +kernel
theorem dL_sort_1 : decode cL_sort 1 = .ok (.iload_n 1, 1) := by decide +kernel
theorem dL_sort_2 : decode cL_sort 2 = .ok (.invokevirtual 42, 3) := by decide +kernel
theorem dL_sort_5 : decode cL_sort 5 = .ok (.goto 9, 3) := by decide +kernel
theorem dL_sort_8 : decode cL_sort 8 = .ok (.astore_n 2, 1) := by decide +kernel
theorem dL_sort_9 : decode cL_sort 9 = .ok (.iconst 1, 1) := by decide +kernel
theorem dL_sort_10 : decode cL_sort 10 = .ok (.ireturn, 1) := by decide +kernel
theorem dL_sort_11 : decode cL_sort 11 = .ok (.astore_n 2, 1) := by decide +kernel
theorem dL_sort_12 : decode cL_sort 12 = .ok (.iconst 2, 1) := by decide +kernel
theorem dL_sort_13 : decode cL_sort 13 = .ok (.ireturn, 1) := by decide +kernel
theorem dL_sort_14 : decode cL_sort 14 = .ok (.iconst 0, 1) := by decide +kernel
theorem dL_sort_15 : decode cL_sort 15 = .ok (.ireturn, 1) := by decide +kernel
set_option maxRecDepth 20000 in
theorem ggL_reverse_X2_reverse : GoodIn wsL_reverse wsX2_reverse := goodIn_ca (goodIn_ca (goodIn_r _ [7, 8, 9, 10, 11, 12, 13, 6, 14, 15, 16, 17, 18, 19, 20, 21, 22, 23, 24, 25, 26, 27, 28, 29, 30, 31, 32, 33, 34, 35, 36, 37, 38, 39, 40, 41, 42, 43, 44, 45, 46, 47, 48, 49, 50, 51, 52, 53, 54, 55, 56, 57, 58, 59, 60, 61, 62, 63, 64, 65, 66, 67, 68, 69, 70, 71, 72, 73, 74, 75, 76, 77, 78, 79, 80, 81, 82, 83, 84, 85, 86, 87, 88, 89, 90, 91, 92, 93, 94, 95, 96, 97, 98, 99, 100, 101, 102, 103, 104, 105, 106, 107, 108, 109, 110, 111, 112, 113, 114, 115, 116, 117, 118, 119, 120, 121, 122, 123, 124, 125, 126, 127, 128, 129, 130, 131, 132, 133, 134, 135, 136, 137, 138, 139, 140, 141, 142, 143, 144, 145, 146, 147, 148, 149, 150, 151, 152] (by decide +kernel) (by decide +kernel)) (goodIn_sub (fun _ h => List.mem_cons_of_mem _ (List.mem_append_left _ (List.mem_append_right _ h))) (by decide +kernel))) (goodIn_sub (fun _ h => List.mem_cons_of_mem _ (List.mem_append_right _ h)) (by decide +kernel))
set_option maxRecDepth 20000 in
theorem gL_reverse_X2_reverse : GoodIn wsL_reverse (wsV RL 46 RX2 yX2_reverse wsX2_reverse) := goodIn_app (goodIn_of _ (by decide +kernel)) ggL_reverse_X2_reverse
theorem dL_reverse_0 : decode cL_reverse 0 = .ok (.aload_n 0, 1) := by decide +kernel
theorem dL_reverse_1 : decode cL_reverse 1 = .ok (.iload_n 1, 1) := by decide +kernel
theorem dL_reverse_2 : decode cL_reverse 2 = .ok (.invokevirtual 46, 3) := by decide +kernel
theorem dL_reverse_5 : decode cL_reverse 5 = .ok (.goto 9, 3) := by decide +kernel
theorem dL_reverse_8 : decode cL_reverse 8 = .ok (.astore_n 2, 1) := by decide +kernel
theorem dL_reverse_9 : decode cL_reverse 9 = .ok (.iconst 1, 1) := by decide +kernel
theorem dL_reverse_10 : decode cL_reverse 10 = .ok (.ireturn, 1) := by decide +kernel
theorem dL_reverse_11 : decode cL_reverse 11 = .ok (.astore_n 2, 1) := by decide +kernel
theorem dL_reverse_12 : decode cL_reverse 12 = .ok (.iconst 2, 1) := by decide +kernel
theorem dL_reverse_13 : decode cL_reverse 13 = .ok (.ireturn, 1) := by decide +kernel
theorem dL_reverse_14 : decode cL_reverse 14 = .ok (.iconst 0, 1) := by decide +kernel
theorem dL_reverse_15 : decode cL_reverse 15 = .ok (.ireturn, 1) := by decide +kernel
set_option maxRecDepth 20000 in
theorem ggL_sum_X2_sum : GoodIn wsL_sum wsX2_sum := goodIn_ca (goodIn_r _ [6, 7, 8, 9, 10, 5, 11, 12, 13, 14, 15, 16, 17, 18, 19, 20, 21, 22, 23, 24, 25, 26, 27, 28, 29, 30, 31, 32, 33, 34, 35, 36, 37, 38, 39, 40, 41, 42, 43, 44, 45, 46, 47, 48, 49, 50, 51, 52, 53, 54, 55, 56, 57, 58, 59, 60, 61, 62, 63, 64, 65, 66, 67, 68, 69, 70, 71, 72, 73, 74, 75, 76, 77, 78] (by decide +kernel) (by decide +kernel)) (goodIn_sub (fun _ h => List.mem_cons_of_mem _ (List.mem_append_right _ h)) (by decide +kernel))
set_option maxRecDepth 20000 in
theorem gL_sum_X2_sum : GoodIn wsL_sum (wsV RL 49 RX2 yX2_sum wsX2_sum) := goodIn_app (goodIn_of _ (by decide +kernel)) ggL_sum_X2_sum
theorem dL_sum_0 : decode cL_sum 0 = .ok (.aload 4, 2) := by decide +kernel
theorem dL_sum_2 : decode cL_sum 2 = .ok (.iconst 0, 1) := by decide +kernel
theorem dL_sum_3 : decode cL_sum 3 = .ok (.aload_n 0, 1) := by decide +kernel
theorem dL_sum_4 : decode cL_sum 4 = .ok (.iload_n 1, 1) := by decide +kernel
theorem dL_sum_5 : decode cL_sum 5 = .ok (.iload_n 2, 1) := by decide +kernel
theorem dL_sum_6 : decode cL_sum 6 = .ok (.iload_n 3, 1) := by decide +kernel
theorem dL_sum_7 : decode cL_sum 7 = .ok (.invokevirtual 49, 3) := by decide +kernel
theorem dL_sum_10 : decode cL_sum 10 = .ok (.lastore, 1) := by decide +kernel
theorem dL_sum_11 : decode cL_sum 11 = .ok (.goto 7, 3) := by decide +kernel
theorem dL_sum_14 : decode cL_sum 14 = .ok (.astore 5, 2) := by decide +kernel
theorem dL_sum_16 : decode cL_sum 16 = .ok (.iconst 1, 1) := by decide +kernel
theorem dL_sum_17 : decode cL_sum 17 = .ok (.ireturn, 1) := by decide +kernel
theorem dL_sum_18 : decode cL_sum 18 = .ok (.iconst 0, 1) := by decide +kernel
theorem dL_sum_19 : decode cL_sum 19 = .ok (.ireturn, 1) := by decide +kernel
set_option maxRecDepth 20000 in
theorem ggL_bound_X2_bound : GoodIn wsL_bound wsX2_bound := goodIn_ca (goodIn_r _ [6, 7, 8, 9, 10, 11, 12, 13, 14, 15, 16, 17, 18, 19, 20, 21, 5, 22, 23, 24, 25, 26, 27, 28, 29, 30, 31, 32, 33, 34, 35, 36, 37, 38, 39, 40, 41, 42, 43, 44, 45, 46, 47, 48, 49, 50, 51, 52, 53, 54, 55, 56, 57, 58, 59, 60, 61, 62, 63, 64, 65, 66, 67, 68, 69, 70, 71, 72, 73, 74, 75, 76, 77, 78, 79, 80] (by decide +kernel) (by decide +kernel)) (goodIn_sub (fun _ h => List.mem_cons_of_mem _ (List.mem_append_right _ h)) (by decide +kernel))
set_option maxRecDepth 20000 in
theorem gL_bound_X2_bound : GoodIn wsL_bound (wsV RL 53 RX2 yX2_bound wsX2_bound) := goodIn_app (goodIn_of _ (by decide +kernel)) ggL_bound_X2_bound
theorem dL_bound_0 : decode cL_bound 0 = .ok (.aload 5, 2) := by decide +kernel
theorem dL_bound_2 : decode cL_bound 2 = .ok (.iconst 0, 1) := by decide +kernel
theorem dL_bound_3 : decode cL_bound 3 = .ok (.aload_n 0, 1) := by decide +kernel
theorem dL_bound_4 : decode cL_bound 4 = .ok (.iload_n 1, 1) := by decide +kernel
theorem dL_bound_5 : decode cL_bound 5 = .ok (.iload_n 2, 1) := by decide +kernel
theorem dL_bound_6 : decode cL_bound 6 = .ok (.iload_n 3, 1) := by decide +kernel
theorem dL_bound_7 : decode cL_bound 7 = .ok (.iload 4, 2) := by decide +kernel
theorem dL_bound_9 : decode cL_bound 9 = .ok (.invokevirtual 53, 3) := by decide +kernel
theorem dL_bound_12 : decode cL_bound 12 = .ok (.i2l, 1) := by decide +kernel
theorem dL_bound_13 : decode cL_bound 13 = .ok (.lastore, 1) := by decide +kernel
theorem dL_bound_14 : decode cL_bound 14 = .ok (.goto 7, 3) := by decide +kernel
theorem dL_bound_17 : decode cL_bound 17 = .ok (.astore 6, 2) := by decide +kernel
theorem dL_bound_19 : decode cL_bound 19 = .ok (.iconst 1, 1) := by decide +kernel
theorem dL_bound_20 : decode cL_bound 20 = .ok (.ireturn, 1) := by decide +kernel
theorem dL_bound_21 : decode cL_bound 21 = .ok (.iconst 0, 1) := by decide +kernel
theorem dL_bound_22 : decode cL_bound 22 = .ok (.ireturn, 1) := by decide +kernel
set_option maxRecDepth 20000 in
theorem ggL_find_X2_find : GoodIn wsL_find wsX2_find := goodIn_ca (goodIn_r _ [6, 7, 8, 9, 10, 11, 5, 12, 13, 14, 15, 16, 17, 18, 19, 20, 21, 22, 23, 24, 25, 26, 27, 28, 29, 30, 31, 32, 33, 34, 35, 36, 37, 38, 39, 40, 41, 42, 43, 44, 45, 46, 47, 48, 49, 50, 51, 52, 53, 54, 55, 56, 57, 58, 59, 60, 61, 62, 63, 64, 65, 66, 67, 68, 69, 70, 71, 72, 73, 74, 75, 76, 77, 78] (by decide +kernel) (by decide +kernel)) (goodIn_sub (fun _ h => List.mem_cons_of_mem _ (List.mem_append_right _ h)) (by decide +kernel))
set_option maxRecDepth 20000 in
theorem gL_find_X2_find : GoodIn wsL_find (wsV RL 57 RX2 yX2_find wsX2_find) := goodIn_app (goodIn_of _ (by decide +kernel)) ggL_find_X2_find
theorem dL_find_0 : decode cL_find 0 = .ok (.aload 4, 2) := by decide +kernel
theorem dL_find_2 : decode cL_find 2 = .ok (.iconst 0, 1) := by decide +kernel
theorem dL_find_3 : decode cL_find 3 = .ok (.aload_n 0, 1) := by decide +kernel
theorem dL_find_4 : decode cL_find 4 = .ok (.iload_n 1, 1) := by decide +kernel
theorem dL_find_5 : decode cL_find 5 = .ok (.iload_n 2, 1) := by decide +kernel
theorem dL_find_6 : decode cL_find 6 = .ok (.iload_n 3, 1) := by decide +kernel
theorem dL_find_7 : decode cL_find 7 = .ok (.invokevirtual 57, 3) := by decide +kernel
theorem dL_find_10 : decode cL_find 10 = .ok (.i2l, 1) := by decide +kernel
theorem dL_find_11 : decode cL_find 11 = .ok (.lastore, 1) := by decide +kernel
theorem dL_find_12 : decode cL_find 12 = .ok (.goto 7, 3) := by decide +kernel
theorem dL_find_15 : decode cL_find 15 = .ok (.astore 5, 2) := by decide +kernel
theorem dL_find_17 : decode cL_find 17 = .ok (.iconst 1, 1) := by decide +kernel
theorem dL_find_18 : decode cL_find 18 = .ok (.ireturn, 1) := by decide +kernel
theorem dL_find_19 : decode cL_find 19 = .ok (.iconst 0, 1) := by decide +kernel
theorem dL_find_20 : decode cL_find 20 = .ok (.ireturn, 1) := by decide +kernel
set_option maxRecDepth 20000 in
theorem ggL_difference_X2_difference : GoodIn wsL_difference wsX2_difference := goodIn_ca (goodIn_r _ [6, 7, 8, 9, 10, 11, 12, 13, 14, 15, 16, 5, 17, 18, 19, 20, 21, 22, 23, 24, 25, 26, 27, 28, 29, 30, 31, 32, 33, 34, 35, 36, 37, 38, 39, 40, 41, 42, 43, 44, 45, 46, 47, 48, 49, 50, 51, 52, 53, 54, 55, 56, 57, 58, 59, 60, 61, 62, 63, 64, 65, 66, 67, 68, 69, 70, 71, 72, 73, 74, 75, 76] (by decide +kernel) (by decide +kernel)) (goodIn_sub (fun _ h => List.mem_cons_of_mem _ (List.mem_append_right _ h)) (by decide +kernel))
set_option maxRecDepth 20000 in
theorem gL_difference_X2_difference : GoodIn wsL_difference (wsV RL 60 RX2 yX2_difference wsX2_difference) := goodIn_app (goodIn_of _ (by decide +kernel)) ggL_difference_X2_difference
theorem dL_difference_0 : decode cL_difference 0 = .ok (.aload_n 3, 1) := by decide +kernel
theorem dL_difference_1 : decode cL_difference 1 = .ok (.iconst 0, 1) := by decide +kernel
theorem dL_difference_2 : decode cL_difference 2 = .ok (.aload_n 0, 1) := by decide +kernel
theorem dL_difference_3 : decode cL_difference 3 = .ok (.iload_n 1, 1) := by decide +kernel
theorem dL_difference_4 : decode cL_difference 4 = .ok (.iload_n 2, 1) := by decide +kernel
theorem dL_difference_5 : decode cL_difference 5 = .ok (.invokevirtual 60, 3) := by decide +kernel
theorem dL_difference_8 : decode cL_difference 8 = .ok (.i2l, 1) := by decide +kernel
theorem dL_difference_9 : decode cL_difference 9 = .ok (.lastore, 1) := by decide +kernel
theorem dL_difference_10 : decode cL_difference 10 = .ok (.goto 7, 3) := by decide +kernel
theorem dL_difference_13 : decode cL_difference 13 = .ok (.astore 4, 2) := by decide +kernel
theorem dL_difference_15 : decode cL_difference 15 = .ok (.iconst 1, 1) := by decide +kernel
theorem dL_difference_16 : decode cL_difference 16 = .ok (.ireturn, 1) := by decide +kernel
theorem dL_difference_17 : decode cL_difference 17 = .ok (.iconst 0, 1) := by decide +kernel
theorem dL_difference_18 : decode cL_difference 18 = .ok (.ireturn, 1) := by decide +kernel
