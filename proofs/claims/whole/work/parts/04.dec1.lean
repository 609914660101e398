theorem dX0_init_0 : decode cX0_init 0 = .ok (.aload_n 0, 1) := by decide +kernel
theorem dX0_init_1 : decode cX0_init 1 = .ok (.invokespecial 3, 3) := by decide +kernel
theorem dX0_init_4 : decode cX0_init 4 = .ok (.aload_n 0, 1) := by decide +kernel
theorem dX0_init_5 : decode cX0_init 5 = .ok (.sipush 8192, 3) := by decide +kernel
theorem dX0_init_8 : decode cX0_init 8 = .ok (.newarray .int, 2) := by decide +kernel
theorem dX0_init_10 : decode cX0_init 10 = .ok (.putfield 9, 3) := by decide +kernel
theorem dX0_init_13 : decode cX0_init 13 = .ok (.aload_n 0, 1) := by decide +kernel
theorem dX0_init_14 : decode cX0_init 14 = .ok (.sipush 512, 3) := by decide +kernel
theorem dX0_init_17 : decode cX0_init 17 = .ok (.newarray .int, 2) := by decide +kernel
theorem dX0_init_19 : decode cX0_init 19 = .ok (.putfield 15, 3) := by decide +kernel
theorem dX0_init_22 : decode cX0_init 22 = .ok (.aload_n 0, 1) := by decide +kernel
theorem dX0_init_23 : decode cX0_init 23 = .ok (.sipush 512, 3) := by decide +kernel
theorem dX0_init_26 : decode cX0_init 26 = .ok (.newarray .int, 2) := by decide +kernel
theorem dX0_init_28 : decode cX0_init 28 = .ok (.putfield 18, 3) := by decide +kernel
theorem dX0_init_31 : decode cX0_init 31 = .ok (.aload_n 0, 1) := by decide +kernel
theorem dX0_init_32 : decode cX0_init 32 = .ok (.sipush 512, 3) := by decide +kernel
theorem dX0_init_35 : decode cX0_init 35 = .ok (.putfield 21, 3) := by decide +kernel
theorem dX0_init_38 : decode cX0_init 38 = .ok (.aload_n 0, 1) := by decide +kernel
theorem dX0_init_39 : decode cX0_init 39 = .ok (.iconst 0, 1) := by decide +kernel
theorem dX0_init_40 : decode cX0_init 40 = .ok (.putfield 25, 3) := by decide +kernel
theorem dX0_init_43 : decode cX0_init 43 = .ok (.iconst 0, 1) := by decide +kernel
theorem dX0_init_44 : decode cX0_init 44 = .ok (.istore_n 1, 1) := by decide +kernel
theorem dX0_init_45 : decode cX0_init 45 = .ok (.iload_n 1, 1) := by decide +kernel
theorem dX0_init_46 : decode cX0_init 46 = .ok (.sipush 512, 3) := by decide +kernel
theorem dX0_init_49 : decode cX0_init 49 = .ok (.if_icmp .ge 16, 3) := by decide +kernel
theorem dX0_init_52 : decode cX0_init 52 = .ok (.aload_n 0, 1) := by decide +kernel
theorem dX0_init_53 : decode cX0_init 53 = .ok (.getfield 18, 3) := by decide +kernel
theorem dX0_init_56 : decode cX0_init 56 = .ok (.iload_n 1, 1) := by decide +kernel
theorem dX0_init_57 : decode cX0_init 57 = .ok (.iload_n 1, 1) := by decide +kernel
theorem dX0_init_58 : decode cX0_init 58 = .ok (.iastore, 1) := by decide +kernel
theorem dX0_init_59 : decode cX0_init 59 = .ok (.iinc 1 1, 3) := by decide +kernel
theorem dX0_init_62 : decode cX0_init 62 = .ok (.goto (-17), 3) := by decide +kernel
theorem dX0_init_65 : decode cX0_init 65 = .ok (.return_, 1) := by decide +kernel
theorem dX0_take_0 : decode cX0_take 0 = .ok (.aload_n 0, 1) := by decide +kernel
theorem dX0_take_1 : decode cX0_take 1 = .ok (.dup, 1) := by decide +kernel
theorem dX0_take_2 : decode cX0_take 2 = .ok (.getfield 21, 3) := by decide +kernel
theorem dX0_take_5 : decode cX0_take 5 = .ok (.iconst 1, 1) := by decide +kernel
theorem dX0_take_6 : decode cX0_take 6 = .ok (.isub, 1) := by decide +kernel
theorem dX0_take_7 : decode cX0_take 7 = .ok (.putfield 21, 3) := by decide +kernel
theorem dX0_take_10 : decode cX0_take 10 = .ok (.aload_n 0, 1) := by decide +kernel
theorem dX0_take_11 : decode cX0_take 11 = .ok (.dup, 1) := by decide +kernel
theorem dX0_take_12 : decode cX0_take 12 = .ok (.getfield 25, 3) := by decide +kernel
theorem dX0_take_15 : decode cX0_take 15 = .ok (.iconst 1, 1) := by decide +kernel
theorem dX0_take_16 : decode cX0_take 16 = .ok (.iadd, 1) := by decide +kernel
theorem dX0_take_17 : decode cX0_take 17 = .ok (.putfield 25, 3) := by decide +kernel
theorem dX0_take_20 : decode cX0_take 20 = .ok (.aload_n 0, 1) := by decide +kernel
theorem dX0_take_21 : decode cX0_take 21 = .ok (.getfield 18, 3) := by decide +kernel
theorem dX0_take_24 : decode cX0_take 24 = .ok (.aload_n 0, 1) := by decide +kernel
theorem dX0_take_25 : decode cX0_take 25 = .ok (.getfield 21, 3) := by decide +kernel
theorem dX0_take_28 : decode cX0_take 28 = .ok (.iaload, 1) := by decide +kernel
theorem dX0_take_29 : decode cX0_take 29 = .ok (.istore_n 1, 1) := by decide +kernel
theorem dX0_take_30 : decode cX0_take 30 = .ok (.aload_n 0, 1) := by decide +kernel
theorem dX0_take_31 : decode cX0_take 31 = .ok (.getfield 15, 3) := by decide +kernel
theorem dX0_take_34 : decode cX0_take 34 = .ok (.iload_n 1, 1) := by decide +kernel
theorem dX0_take_35 : decode cX0_take 35 = .ok (.iconst 1, 1) := by decide +kernel
theorem dX0_take_36 : decode cX0_take 36 = .ok (.iastore, 1) := by decide +kernel
theorem dX0_take_37 : decode cX0_take 37 = .ok (.iload_n 1, 1) := by decide +kernel
theorem dX0_take_38 : decode cX0_take 38 = .ok (.ireturn, 1) := by decide +kernel
theorem dX0_addHolder_0 : decode cX0_addHolder 0 = .ok (.aload_n 0, 1) := by decide +kernel
theorem dX0_addHolder_1 : decode cX0_addHolder 1 = .ok (.getfield 15, 3) := by decide +kernel
theorem dX0_addHolder_4 : decode cX0_addHolder 4 = .ok (.iload_n 1, 1) := by decide +kernel
theorem dX0_addHolder_5 : decode cX0_addHolder 5 = .ok (.dup2, 1) := by decide +kernel
theorem dX0_addHolder_6 : decode cX0_addHolder 6 = .ok (.iaload, 1) := by decide +kernel
theorem dX0_addHolder_7 : decode cX0_addHolder 7 = .ok (.iconst 1, 1) := by decide +kernel
theorem dX0_addHolder_8 : decode cX0_addHolder 8 = .ok (.iadd, 1) := by decide +kernel
theorem dX0_addHolder_9 : decode cX0_addHolder 9 = .ok (.iastore, 1) := by decide +kernel
theorem dX0_addHolder_10 : decode cX0_addHolder 10 = .ok (.return_, 1) := by decide +kernel
theorem dX0_dropHolder_0 : decode cX0_dropHolder 0 = .ok (.aload_n 0, 1) := by decide +kernel
theorem dX0_dropHolder_1 : decode cX0_dropHolder 1 = .ok (.getfield 15, 3) := by decide +kernel
theorem dX0_dropHolder_4 : decode cX0_dropHolder 4 = .ok (.iload_n 1, 1) := by decide +kernel
theorem dX0_dropHolder_5 : decode cX0_dropHolder 5 = .ok (.dup2, 1) := by decide +kernel
theorem dX0_dropHolder_6 : decode cX0_dropHolder 6 = .ok (.iaload, 1) := by decide +kernel
theorem dX0_dropHolder_7 : decode cX0_dropHolder 7 = .ok (.iconst 1, 1) := by decide +kernel
theorem dX0_dropHolder_8 : decode cX0_dropHolder 8 = .ok (.isub, 1) := by decide +kernel
theorem dX0_dropHolder_9 : decode cX0_dropHolder 9 = .ok (.iastore, 1) := by decide +kernel
theorem dX0_dropHolder_10 : decode cX0_dropHolder 10 = .ok (.aload_n 0, 1) := by decide +kernel
theorem dX0_dropHolder_11 : decode cX0_dropHolder 11 = .ok (.getfield 15, 3) := by decide +kernel
theorem dX0_dropHolder_14 : decode cX0_dropHolder 14 = .ok (.iload_n 1, 1) := by decide +kernel
theorem dX0_dropHolder_15 : decode cX0_dropHolder 15 = .ok (.iaload, 1) := by decide +kernel
theorem dX0_dropHolder_16 : decode cX0_dropHolder 16 = .ok (.ifCond .ne 23, 3) := by decide +kernel
theorem dX0_dropHolder_19 : decode cX0_dropHolder 19 = .ok (.aload_n 0, 1) := by decide +kernel
theorem dX0_dropHolder_20 : decode cX0_dropHolder 20 = .ok (.getfield 18, 3) := by decide +kernel
theorem dX0_dropHolder_23 : decode cX0_dropHolder 23 = .ok (.aload_n 0, 1) := by decide +kernel
theorem dX0_dropHolder_24 : decode cX0_dropHolder 24 = .ok (.getfield 21, 3) := by decide +kernel
theorem dX0_dropHolder_27 : decode cX0_dropHolder 27 = .ok (.iload_n 1, 1) := by decide +kernel
theorem dX0_dropHolder_28 : decode cX0_dropHolder 28 = .ok (.iastore, 1) := by decide +kernel
theorem dX0_dropHolder_29 : decode cX0_dropHolder 29 = .ok (.aload_n 0, 1) := by decide +kernel
theorem dX0_dropHolder_30 : decode cX0_dropHolder 30 = .ok (.dup, 1) := by decide +kernel
theorem dX0_dropHolder_31 : decode cX0_dropHolder 31 = .ok (.getfield 21, 3) := by decide +kernel
theorem dX0_dropHolder_34 : decode cX0_dropHolder 34 = .ok (.iconst 1, 1) := by decide +kernel
theorem dX0_dropHolder_35 : decode cX0_dropHolder 35 = .ok (.iadd, 1) := by decide +kernel
theorem dX0_dropHolder_36 : decode cX0_dropHolder 36 = .ok (.putfield 21, 3) := by decide +kernel
theorem dX0_dropHolder_39 : decode cX0_dropHolder 39 = .ok (.return_, 1) := by decide +kernel
theorem dX0_isShared_0 : decode cX0_isShared 0 = .ok (.aload_n 0, 1) := by decide +kernel
theorem dX0_isShared_1 : decode cX0_isShared 1 = .ok (.getfield 15, 3) := by decide +kernel
theorem dX0_isShared_4 : decode cX0_isShared 4 = .ok (.iload_n 1, 1) := by decide +kernel
theorem dX0_isShared_5 : decode cX0_isShared 5 = .ok (.iaload, 1) := by decide +kernel
theorem dX0_isShared_6 : decode cX0_isShared 6 = .ok (.iconst 1, 1) := by decide +kernel
theorem dX0_isShared_7 : decode cX0_isShared 7 = .ok (.if_icmp .le 7, 3) := by decide +kernel
theorem dX0_isShared_10 : decode cX0_isShared 10 = .ok (.iconst 1, 1) := by decide +kernel
theorem dX0_isShared_11 : decode cX0_isShared 11 = .ok (.goto 4, 3) := by decide +kernel
theorem dX0_isShared_14 : decode cX0_isShared 14 = .ok (.iconst 0, 1) := by decide +kernel
theorem dX0_isShared_15 : decode cX0_isShared 15 = .ok (.ireturn, 1) := by decide +kernel
theorem dX0_valueAt_0 : decode cX0_valueAt 0 = .ok (.aload_n 0, 1) := by decide +kernel
theorem dX0_valueAt_1 : decode cX0_valueAt 1 = .ok (.getfield 9, 3) := by decide +kernel
theorem dX0_valueAt_4 : decode cX0_valueAt 4 = .ok (.iload_n 1, 1) := by decide +kernel
theorem dX0_valueAt_5 : decode cX0_valueAt 5 = .ok (.bipush 16, 2) := by decide +kernel
theorem dX0_valueAt_7 : decode cX0_valueAt 7 = .ok (.imul, 1) := by decide +kernel
theorem dX0_valueAt_8 : decode cX0_valueAt 8 = .ok (.iload_n 2, 1) := by decide +kernel
theorem dX0_valueAt_9 : decode cX0_valueAt 9 = .ok (.iadd, 1) := by decide +kernel
theorem dX0_valueAt_10 : decode cX0_valueAt 10 = .ok (.iaload, 1) := by decide +kernel
theorem dX0_valueAt_11 : decode cX0_valueAt 11 = .ok (.ireturn, 1) := by decide +kernel
theorem dX0_read_0 : decode cX0_read 0 = .ok (.aload_n 0, 1) := by decide +kernel
theorem dX0_read_1 : decode cX0_read 1 = .ok (.getfield 9, 3) := by decide +kernel
theorem dX0_read_4 : decode cX0_read 4 = .ok (.iload_n 1, 1) := by decide +kernel
theorem dX0_read_5 : decode cX0_read 5 = .ok (.bipush 16, 2) := by decide +kernel
theorem dX0_read_7 : decode cX0_read 7 = .ok (.imul, 1) := by decide +kernel
theorem dX0_read_8 : decode cX0_read 8 = .ok (.iload_n 2, 1) := by decide +kernel
theorem dX0_read_9 : decode cX0_read 9 = .ok (.iadd, 1) := by decide +kernel
theorem dX0_read_10 : decode cX0_read 10 = .ok (.aload_n 3, 1) := by decide +kernel
theorem dX0_read_11 : decode cX0_read 11 = .ok (.iload 4, 2) := by decide +kernel
theorem dX0_read_13 : decode cX0_read 13 = .ok (.iload 5, 2) := by decide +kernel
theorem dX0_read_15 : decode cX0_read 15 = .ok (.invokestatic 28, 3) := by decide +kernel
theorem dX0_read_18 : decode cX0_read 18 = .ok (.return_, 1) := by decide +kernel
theorem dX0_write_0 : decode cX0_write 0 = .ok (.aload_n 2, 1) := by decide +kernel
theorem dX0_write_1 : decode cX0_write 1 = .ok (.iload_n 3, 1) := by decide +kernel
theorem dX0_write_2 : decode cX0_write 2 = .ok (.aload_n 0, 1) := by decide +kernel
theorem dX0_write_3 : decode cX0_write 3 = .ok (.getfield 9, 3) := by decide +kernel
theorem dX0_write_6 : decode cX0_write 6 = .ok (.iload_n 1, 1) := by decide +kernel
theorem dX0_write_7 : decode cX0_write 7 = .ok (.bipush 16, 2) := by decide +kernel
theorem dX0_write_9 : decode cX0_write 9 = .ok (.imul, 1) := by decide +kernel
theorem dX0_write_10 : decode cX0_write 10 = .ok (.iload 4, 2) := by decide +kernel
theorem dX0_write_12 : decode cX0_write 12 = .ok (.invokestatic 28, 3) := by decide +kernel
theorem dX0_write_15 : decode cX0_write 15 = .ok (.return_, 1) := by decide +kernel
set_option maxRecDepth 20000 in
theorem ggX1_init_J7_fill_53178 : GoodIn wsX1_init wsJ7_fill_53178 := goodIn_r _ [12] (by decide +kernel) (by decide +kernel)
set_option maxRecDepth 20000 in
theorem gX1_init_J7_fill_53178 : GoodIn wsX1_init (va_wsS RX1 26 yJ7_fill_53178 wsJ7_fill_53178) := goodIn_app (goodIn_of _ (by decide +kernel)) ggX1_init_J7_fill_53178
theorem dX1_init_0 : decode cX1_init 0 = .ok (.aload_n 0, 1) := by decide +kernel
theorem dX1_init_1 : decode cX1_init 1 = .ok (.invokespecial 3, 3) := by decide +kernel
theorem dX1_init_4 : decode cX1_init 4 = .ok (.aload_n 0, 1) := by decide +kernel
theorem dX1_init_5 : decode cX1_init 5 = .ok (.sipush 256, 3) := by decide +kernel
theorem dX1_init_8 : decode cX1_init 8 = .ok (.newarray .int, 2) := by decide +kernel
theorem dX1_init_10 : decode cX1_init 10 = .ok (.putfield 9, 3) := by decide +kernel
theorem dX1_init_13 : decode cX1_init 13 = .ok (.aload_n 0, 1) := by decide +kernel
theorem dX1_init_14 : decode cX1_init 14 = .ok (.sipush 256, 3) := by decide +kernel
theorem dX1_init_17 : decode cX1_init 17 = .ok (.newarray .int, 2) := by decide +kernel
theorem dX1_init_19 : decode cX1_init 19 = .ok (.putfield 15, 3) := by decide +kernel
theorem dX1_init_22 : decode cX1_init 22 = .ok (.aload_n 0, 1) := by decide +kernel
theorem dX1_init_23 : decode cX1_init 23 = .ok (.iconst 0, 1) := by decide +kernel
theorem dX1_init_24 : decode cX1_init 24 = .ok (.putfield 18, 3) := by decide +kernel
theorem dX1_init_27 : decode cX1_init 27 = .ok (.aload_n 0, 1) := by decide +kernel
theorem dX1_init_28 : decode cX1_init 28 = .ok (.iconst 0, 1) := by decide +kernel
theorem dX1_init_29 : decode cX1_init 29 = .ok (.putfield 22, 3) := by decide +kernel
theorem dX1_init_32 : decode cX1_init 32 = .ok (.aload_n 0, 1) := by decide +kernel
theorem dX1_init_33 : decode cX1_init 33 = .ok (.getfield 9, 3) := by decide +kernel
theorem dX1_init_36 : decode cX1_init 36 = .ok (.iconst (-1), 1) := by decide +kernel
theorem dX1_init_37 : decode cX1_init 37 = .ok (.invokestatic 26, 3) := by decide +kernel
theorem dX1_init_40 : decode cX1_init 40 = .ok (.return_, 1) := by decide +kernel
theorem dX1_begin_0 : decode cX1_begin 0 = .ok (.aload_n 0, 1) := by decide +kernel
theorem dX1_begin_1 : decode cX1_begin 1 = .ok (.iconst 1, 1) := by decide +kernel
theorem dX1_begin_2 : decode cX1_begin 2 = .ok (.putfield 18, 3) := by decide +kernel
theorem dX1_begin_5 : decode cX1_begin 5 = .ok (.aload_n 0, 1) := by decide +kernel
theorem dX1_begin_6 : decode cX1_begin 6 = .ok (.iload_n 1, 1) := by decide +kernel
theorem dX1_begin_7 : decode cX1_begin 7 = .ok (.putfield 22, 3) := by decide +kernel
theorem dX1_begin_10 : decode cX1_begin 10 = .ok (.return_, 1) := by decide +kernel
set_option maxRecDepth 20000 in
theorem ggX1_leafCount_X2_leavesFor : GoodIn wsX1_leafCount wsX2_leavesFor := goodIn_r _ [4] (by decide +kernel) (by decide +kernel)
set_option maxRecDepth 20000 in
theorem gX1_leafCount_X2_leavesFor_n32 : GoodIn wsX1_leafCount (wsX2_leavesFor) := ggX1_leafCount_X2_leavesFor
theorem dX1_leafCount_0 : decode cX1_leafCount 0 = .ok (.aload_n 0, 1) := by decide +kernel
theorem dX1_leafCount_1 : decode cX1_leafCount 1 = .ok (.getfield 22, 3) := by decide +kernel
theorem dX1_leafCount_4 : decode cX1_leafCount 4 = .ok (.invokestatic 32, 3) := by decide +kernel
theorem dX1_leafCount_7 : decode cX1_leafCount 7 = .ok (.ireturn, 1) := by decide +kernel
theorem dX1_valuesIn_0 : decode cX1_valuesIn 0 = .ok (.bipush 16, 2) := by decide +kernel
theorem dX1_valuesIn_2 : decode cX1_valuesIn 2 = .ok (.aload_n 0, 1) := by decide +kernel
theorem dX1_valuesIn_3 : decode cX1_valuesIn 3 = .ok (.getfield 22, 3) := by decide +kernel
theorem dX1_valuesIn_6 : decode cX1_valuesIn 6 = .ok (.iload_n 1, 1) := by decide +kernel
theorem dX1_valuesIn_7 : decode cX1_valuesIn 7 = .ok (.bipush 16, 2) := by decide +kernel
theorem dX1_valuesIn_9 : decode cX1_valuesIn 9 = .ok (.imul, 1) := by decide +kernel
theorem dX1_valuesIn_10 : decode cX1_valuesIn 10 = .ok (.isub, 1) := by decide +kernel
theorem dX1_valuesIn_11 : decode cX1_valuesIn 11 = .ok (.invokestatic 36, 3) := by decide +kernel
theorem dX1_valuesIn_14 : decode cX1_valuesIn 14 = .ok (.ireturn, 1) := by decide +kernel
set_option maxRecDepth 20000 in
theorem ggX2_init_X0_init : GoodIn wsX2_init wsX0_init := goodIn_r _ [18, 19, 2, 3, 10, 20, 21, 22, 23, 24, 42, 43, 44, 45, 46] (by decide +kernel) (by decide +kernel)
set_option maxRecDepth 20000 in
theorem gX2_init_X0_init : GoodIn wsX2_init (wsX0_init) := ggX2_init_X0_init
set_option maxRecDepth 20000 in
theorem ggX2_init_X1_init : GoodIn wsX2_init wsX1_init := goodIn_r _ [27, 28, 2, 3, 10, 29, 30, 31, 32, 33, 34, 35, 36, 47, 48, 49, 50] (by decide +kernel) (by decide +kernel)
set_option maxRecDepth 20000 in
theorem gX2_init_X1_init : GoodIn wsX2_init (wsX1_init) := ggX2_init_X1_init
theorem dX2_init_0 : decode cX2_init 0 = .ok (.aload_n 0, 1) := by decide +kernel
theorem dX2_init_1 : decode cX2_init 1 = .ok (.invokespecial 1, 3) := by decide +kernel
theorem dX2_init_4 : decode cX2_init 4 = .ok (.aload_n 0, 1) := by decide +kernel
theorem dX2_init_5 : decode cX2_init 5 = .ok (.bipush 16, 2) := by decide +kernel
theorem dX2_init_7 : decode cX2_init 7 = .ok (.anewarray 9, 3) := by decide +kernel
theorem dX2_init_10 : decode cX2_init 10 = .ok (.putfield 11, 3) := by decide +kernel
theorem dX2_init_13 : decode cX2_init 13 = .ok (.aload_n 0, 1) := by decide +kernel
theorem dX2_init_14 : decode cX2_init 14 = .ok (.new 15, 3) := by decide +kernel
theorem dX2_init_17 : decode cX2_init 17 = .ok (.dup, 1) := by decide +kernel
theorem dX2_init_18 : decode cX2_init 18 = .ok (.invokespecial 17, 3) := by decide +kernel
theorem dX2_init_21 : decode cX2_init 21 = .ok (.putfield 18, 3) := by decide +kernel
theorem dX2_init_24 : decode cX2_init 24 = .ok (.aload_n 0, 1) := by decide +kernel
theorem dX2_init_25 : decode cX2_init 25 = .ok (.sipush 4096, 3) := by decide +kernel
theorem dX2_init_28 : decode cX2_init 28 = .ok (.newarray .int, 2) := by decide +kernel
theorem dX2_init_30 : decode cX2_init 30 = .ok (.putfield 22, 3) := by decide +kernel
theorem dX2_init_33 : decode cX2_init 33 = .ok (.aload_n 0, 1) := by decide +kernel
theorem dX2_init_34 : decode cX2_init 34 = .ok (.sipush 4096, 3) := by decide +kernel
theorem dX2_init_37 : decode cX2_init 37 = .ok (.newarray .int, 2) := by decide +kernel
theorem dX2_init_39 : decode cX2_init 39 = .ok (.putfield 26, 3) := by decide +kernel
theorem dX2_init_42 : decode cX2_init 42 = .ok (.aload_n 0, 1) := by decide +kernel
theorem dX2_init_43 : decode cX2_init 43 = .ok (.sipush 256, 3) := by decide +kernel
theorem dX2_init_46 : decode cX2_init 46 = .ok (.newarray .int, 2) := by decide +kernel
theorem dX2_init_48 : decode cX2_init 48 = .ok (.putfield 29, 3) := by decide +kernel
theorem dX2_init_51 : decode cX2_init 51 = .ok (.iconst 0, 1) := by decide +kernel
theorem dX2_init_52 : decode cX2_init 52 = .ok (.istore_n 1, 1) := by decide +kernel
theorem dX2_init_53 : decode cX2_init 53 = .ok (.iload_n 1, 1) := by decide +kernel
theorem dX2_init_54 : decode cX2_init 54 = .ok (.bipush 16, 2) := by decide +kernel
theorem dX2_init_56 : decode cX2_init 56 = .ok (.if_icmp .ge 22, 3) := by decide +kernel
theorem dX2_init_59 : decode cX2_init 59 = .ok (.aload_n 0, 1) := by decide +kernel
theorem dX2_init_60 : decode cX2_init 60 = .ok (.getfield 11, 3) := by decide +kernel
theorem dX2_init_63 : decode cX2_init 63 = .ok (.iload_n 1, 1) := by decide +kernel
theorem dX2_init_64 : decode cX2_init 64 = .ok (.new 9, 3) := by decide +kernel
theorem dX2_init_67 : decode cX2_init 67 = .ok (.dup, 1) := by decide +kernel
theorem dX2_init_68 : decode cX2_init 68 = .ok (.invokespecial 32, 3) := by decide +kernel
theorem dX2_init_71 : decode cX2_init 71 = .ok (.aastore, 1) := by decide +kernel
theorem dX2_init_72 : decode cX2_init 72 = .ok (.iinc 1 1, 3) := by decide +kernel
theorem dX2_init_75 : decode cX2_init 75 = .ok (.goto (-22), 3) := by decide +kernel
theorem dX2_init_78 : decode cX2_init 78 = .ok (.return_, 1) := by decide +kernel
set_option maxRecDepth 20000 in
theorem ggX2_make_X2_numberForNewArray : GoodIn wsX2_make wsX2_numberForNewArray := goodIn_ca (goodIn_r _ [9, 10, 11, 3, 12, 26, 27, 28, 29, 30, 31, 32, 33, 34] (by decide +kernel) (by decide +kernel)) (goodIn_sub (fun _ h => List.mem_cons_of_mem _ (List.mem_append_right _ h)) (by decide +kernel))
set_option maxRecDepth 20000 in
theorem gX2_make_X2_numberForNewArray : GoodIn wsX2_make (wsV RX2 40 RX2 yX2_numberForNewArray wsX2_numberForNewArray) := goodIn_app (goodIn_of _ (by decide +kernel)) ggX2_make_X2_numberForNewArray
set_option maxRecDepth 20000 in
theorem ggX2_make_X1_begin : GoodIn wsX2_make wsX1_begin := goodIn_r _ [17, 18, 19, 31, 32, 33, 34] (by decide +kernel) (by decide +kernel)
set_option maxRecDepth 20000 in
theorem gX2_make_X1_begin : GoodIn wsX2_make (wsV RX2 44 RX1 yX1_begin wsX1_begin) := goodIn_app (goodIn_of _ (by decide +kernel)) ggX2_make_X1_begin
set_option maxRecDepth 20000 in
theorem ggX2_make_X1_leafCount : GoodIn wsX2_make wsX1_leafCount := goodIn_r _ [23, 19, 24, 8, 25, 31, 32, 33, 34] (by decide +kernel) (by decide +kernel)
set_option maxRecDepth 20000 in
theorem gX2_make_X1_leafCount : GoodIn wsX2_make (wsV RX2 48 RX1 yX1_leafCount wsX1_leafCount) := goodIn_app (goodIn_of _ (by decide +kernel)) ggX2_make_X1_leafCount
theorem dX2_make_0 : decode cX2_make 0 = .ok (.iload_n 1, 1) := by decide +kernel
theorem dX2_make_1 : decode cX2_make 1 = .ok (.ifCond .lt 10, 3) := by decide +kernel
theorem dX2_make_4 : decode cX2_make 4 = .ok (.iload_n 1, 1) := by decide +kernel
theorem dX2_make_5 : decode cX2_make 5 = .ok (.sipush 4096, 3) := by decide +kernel
theorem dX2_make_8 : decode cX2_make 8 = .ok (.if_icmp .le 13, 3) := by decide +kernel
theorem dX2_make_11 : decode cX2_make 11 = .ok (.new 33, 3) := by decide +kernel
theorem dX2_make_14 : decode cX2_make 14 = .ok (.dup, 1) := by decide +kernel
theorem dX2_make_15 : decode cX2_make 15 = .ok (.ldc 35, 2) := by decide +kernel
theorem dX2_make_17 : decode cX2_make 17 = .ok (.invokespecial 37, 3) := by decide +kernel
theorem dX2_make_20 : decode cX2_make 20 = .ok (.athrow, 1) := by decide +kernel
theorem dX2_make_21 : decode cX2_make 21 = .ok (.aload_n 0, 1) := by decide +kernel
theorem dX2_make_22 : decode cX2_make 22 = .ok (.invokevirtual 40, 3) := by decide +kernel
theorem dX2_make_25 : decode cX2_make 25 = .ok (.istore_n 3, 1) := by decide +kernel
theorem dX2_make_26 : decode cX2_make 26 = .ok (.aload_n 0, 1) := by decide +kernel
theorem dX2_make_27 : decode cX2_make 27 = .ok (.getfield 11, 3) := by decide +kernel
theorem dX2_make_30 : decode cX2_make 30 = .ok (.iload_n 3, 1) := by decide +kernel
theorem dX2_make_31 : decode cX2_make 31 = .ok (.aaload, 1) := by decide +kernel
theorem dX2_make_32 : decode cX2_make 32 = .ok (.astore 4, 2) := by decide +kernel
theorem dX2_make_34 : decode cX2_make 34 = .ok (.aload 4, 2) := by decide +kernel
theorem dX2_make_36 : decode cX2_make 36 = .ok (.iload_n 1, 1) := by decide +kernel
theorem dX2_make_37 : decode cX2_make 37 = .ok (.invokevirtual 44, 3) := by decide +kernel
theorem dX2_make_40 : decode cX2_make 40 = .ok (.iconst 0, 1) := by decide +kernel
theorem dX2_make_41 : decode cX2_make 41 = .ok (.istore 5, 2) := by decide +kernel
theorem dX2_make_43 : decode cX2_make 43 = .ok (.iload 5, 2) := by decide +kernel
theorem dX2_make_45 : decode cX2_make 45 = .ok (.aload 4, 2) := by decide +kernel
theorem dX2_make_47 : decode cX2_make 47 = .ok (.invokevirtual 48, 3) := by decide +kernel
theorem dX2_make_50 : decode cX2_make 50 = .ok (.if_icmp .ge 18, 3) := by decide +kernel
theorem dX2_make_53 : decode cX2_make 53 = .ok (.aload 4, 2) := by decide +kernel
theorem dX2_make_55 : decode cX2_make 55 = .ok (.getfield 51, 3) := by decide +kernel
theorem dX2_make_58 : decode cX2_make 58 = .ok (.iload 5, 2) := by decide +kernel
theorem dX2_make_60 : decode cX2_make 60 = .ok (.iload_n 2, 1) := by decide +kernel
theorem dX2_make_61 : decode cX2_make 61 = .ok (.iastore, 1) := by decide +kernel
theorem dX2_make_62 : decode cX2_make 62 = .ok (.iinc 5 1, 3) := by decide +kernel
theorem dX2_make_65 : decode cX2_make 65 = .ok (.goto (-22), 3) := by decide +kernel
theorem dX2_make_68 : decode cX2_make 68 = .ok (.iload_n 3, 1) := by decide +kernel
theorem dX2_make_69 : decode cX2_make 69 = .ok (.ireturn, 1) := by decide +kernel
set_option maxRecDepth 20000 in
theorem ggX2_copy_X2_arrayThere : GoodIn wsX2_copy wsX2_arrayThere := goodIn_ca (goodIn_r _ [7, 8, 9, 1, 10, 11, 12, 6, 13, 14, 47, 48, 49, 50, 51, 52, 53, 54, 55] (by decide +kernel) (by decide +kernel)) (goodIn_sub (fun _ h => List.mem_cons_of_mem _ (List.mem_append_left _ (List.mem_append_right _ h))) (by decide +kernel))
set_option maxRecDepth 20000 in
theorem gX2_copy_X2_arrayThere : GoodIn wsX2_copy (wsV RX2 54 RX2 yX2_arrayThere wsX2_arrayThere) := goodIn_app (goodIn_of _ (by decide +kernel)) ggX2_copy_X2_arrayThere
set_option maxRecDepth 20000 in
theorem ggX2_copy_X2_numberForNewArray : GoodIn wsX2_copy wsX2_numberForNewArray := goodIn_ca (goodIn_r _ [18, 19, 20, 1, 14, 47, 48, 49, 50, 51, 52, 53, 54, 55] (by decide +kernel) (by decide +kernel)) (goodIn_sub (fun _ h => List.mem_cons_of_mem _ (List.mem_append_right _ h)) (by decide +kernel))
set_option maxRecDepth 20000 in
theorem gX2_copy_X2_numberForNewArray : GoodIn wsX2_copy (wsV RX2 40 RX2 yX2_numberForNewArray wsX2_numberForNewArray) := goodIn_app (goodIn_of _ (by decide +kernel)) ggX2_copy_X2_numberForNewArray
set_option maxRecDepth 20000 in
theorem ggX2_copy_X1_begin : GoodIn wsX2_copy wsX1_begin := goodIn_r _ [25, 26, 27, 52, 53, 54, 55] (by decide +kernel) (by decide +kernel)
set_option maxRecDepth 20000 in
theorem gX2_copy_X1_begin : GoodIn wsX2_copy (wsV RX2 44 RX1 yX1_begin wsX1_begin) := goodIn_app (goodIn_of _ (by decide +kernel)) ggX2_copy_X1_begin
set_option maxRecDepth 20000 in
theorem ggX2_copy_X1_leafCount : GoodIn wsX2_copy wsX1_leafCount := goodIn_r _ [31, 27, 32, 6, 33, 52, 53, 54, 55] (by decide +kernel) (by decide +kernel)
set_option maxRecDepth 20000 in
theorem gX2_copy_X1_leafCount : GoodIn wsX2_copy (wsV RX2 48 RX1 yX1_leafCount wsX1_leafCount) := goodIn_app (goodIn_of _ (by decide +kernel)) ggX2_copy_X1_leafCount
set_option maxRecDepth 20000 in
theorem ggX2_copy_X2_shareLeaves : GoodIn wsX2_copy wsX2_shareLeaves := goodIn_r _ [37, 38, 39, 40, 41, 42, 43, 44, 45, 46, 52, 53, 54, 55, 47, 48, 49, 50, 51, 56, 57, 58, 59, 60] (by decide +kernel) (by decide +kernel)
set_option maxRecDepth 20000 in
theorem gX2_copy_X2_shareLeaves : GoodIn wsX2_copy (wsV RX2 62 RX2 yX2_shareLeaves wsX2_shareLeaves) := goodIn_app (goodIn_of _ (by decide +kernel)) ggX2_copy_X2_shareLeaves
theorem dX2_copy_0 : decode cX2_copy 0 = .ok (.aload_n 0, 1) := by decide +kernel
theorem dX2_copy_1 : decode cX2_copy 1 = .ok (.iload_n 1, 1) := by decide +kernel
theorem dX2_copy_2 : decode cX2_copy 2 = .ok (.invokevirtual 54, 3) := by decide +kernel
theorem dX2_copy_5 : decode cX2_copy 5 = .ok (.astore_n 2, 1) := by decide +kernel
theorem dX2_copy_6 : decode cX2_copy 6 = .ok (.aload_n 0, 1) := by decide +kernel
theorem dX2_copy_7 : decode cX2_copy 7 = .ok (.invokevirtual 40, 3) := by decide +kernel
theorem dX2_copy_10 : decode cX2_copy 10 = .ok (.istore_n 3, 1) := by decide +kernel
theorem dX2_copy_11 : decode cX2_copy 11 = .ok (.aload_n 0, 1) := by decide +kernel
theorem dX2_copy_12 : decode cX2_copy 12 = .ok (.getfield 11, 3) := by decide +kernel
theorem dX2_copy_15 : decode cX2_copy 15 = .ok (.iload_n 3, 1) := by decide +kernel
theorem dX2_copy_16 : decode cX2_copy 16 = .ok (.aaload, 1) := by decide +kernel
theorem dX2_copy_17 : decode cX2_copy 17 = .ok (.astore 4, 2) := by decide +kernel
theorem dX2_copy_19 : decode cX2_copy 19 = .ok (.aload 4, 2) := by decide +kernel
theorem dX2_copy_21 : decode cX2_copy 21 = .ok (.aload_n 2, 1) := by decide +kernel
theorem dX2_copy_22 : decode cX2_copy 22 = .ok (.getfield 58, 3) := by decide +kernel
theorem dX2_copy_25 : decode cX2_copy 25 = .ok (.invokevirtual 44, 3) := by decide +kernel
theorem dX2_copy_28 : decode cX2_copy 28 = .ok (.aload_n 0, 1) := by decide +kernel
theorem dX2_copy_29 : decode cX2_copy 29 = .ok (.aload_n 2, 1) := by decide +kernel
theorem dX2_copy_30 : decode cX2_copy 30 = .ok (.iconst 0, 1) := by decide +kernel
theorem dX2_copy_31 : decode cX2_copy 31 = .ok (.aload 4, 2) := by decide +kernel
theorem dX2_copy_33 : decode cX2_copy 33 = .ok (.iconst 0, 1) := by decide +kernel
theorem dX2_copy_34 : decode cX2_copy 34 = .ok (.aload_n 2, 1) := by decide +kernel
theorem dX2_copy_35 : decode cX2_copy 35 = .ok (.invokevirtual 48, 3) := by decide +kernel
theorem dX2_copy_38 : decode cX2_copy 38 = .ok (.invokevirtual 62, 3) := by decide +kernel
theorem dX2_copy_41 : decode cX2_copy 41 = .ok (.iload_n 3, 1) := by decide +kernel
theorem dX2_copy_42 : decode cX2_copy 42 = .ok (.ireturn, 1) := by decide +kernel
set_option maxRecDepth 20000 in
theorem ggX2_slice_X2_arrayThere : GoodIn wsX2_slice wsX2_arrayThere := goodIn_ca (goodIn_r _ [7, 8, 9, 2, 10, 11, 12, 6, 13, 14, 131, 132, 133, 134, 135, 136, 137, 138, 139] (by decide +kernel) (by decide +kernel)) (goodIn_sub (fun _ h => List.mem_cons_of_mem _ (List.mem_append_left _ (List.mem_append_right _ h))) (by decide +kernel))
set_option maxRecDepth 20000 in
theorem gX2_slice_X2_arrayThere : GoodIn wsX2_slice (wsV RX2 54 RX2 yX2_arrayThere wsX2_arrayThere) := goodIn_app (goodIn_of _ (by decide +kernel)) ggX2_slice_X2_arrayThere
set_option maxRecDepth 20000 in
theorem ggX2_slice_X2_checkRange : GoodIn wsX2_slice wsX2_checkRange := goodIn_ca (goodIn_r _ [17, 8, 9, 18, 136, 137, 138, 139] (by decide +kernel) (by decide +kernel)) (goodIn_sub (fun _ h => List.mem_cons_of_mem _ (List.mem_append_left _ (List.mem_append_right _ h))) (by decide +kernel))
set_option maxRecDepth 20000 in
theorem gX2_slice_X2_checkRange : GoodIn wsX2_slice (va_wsS RX2 66 yX2_checkRange wsX2_checkRange) := goodIn_app (goodIn_of _ (by decide +kernel)) ggX2_slice_X2_checkRange
set_option maxRecDepth 20000 in
theorem ggX2_slice_X2_numberForNewArray : GoodIn wsX2_slice wsX2_numberForNewArray := goodIn_ca (goodIn_r _ [22, 23, 24, 2, 14, 131, 132, 133, 134, 135, 136, 137, 138, 139] (by decide +kernel) (by decide +kernel)) (goodIn_sub (fun _ h => List.mem_cons_of_mem _ (List.mem_append_right _ h)) (by decide +kernel))
set_option maxRecDepth 20000 in
theorem gX2_slice_X2_numberForNewArray : GoodIn wsX2_slice (wsV RX2 40 RX2 yX2_numberForNewArray wsX2_numberForNewArray) := goodIn_app (goodIn_of _ (by decide +kernel)) ggX2_slice_X2_numberForNewArray
set_option maxRecDepth 20000 in
theorem ggX2_slice_X2_readValues : GoodIn wsX2_slice wsX2_readValues := goodIn_r _ [28, 29, 30, 31, 32, 33, 34, 35, 36, 37, 38, 39, 40, 6, 41, 42, 43, 44, 45, 46, 47, 48, 49, 50, 51, 52, 53, 54, 55, 56, 57, 58, 59, 60, 61, 136, 137, 138, 139, 131, 132, 133, 134, 135, 140, 141, 142, 143, 144, 145, 146, 147, 148] (by decide +kernel) (by decide +kernel)
set_option maxRecDepth 20000 in
theorem gX2_slice_X2_readValues : GoodIn wsX2_slice (wsV RX2 70 RX2 yX2_readValues wsX2_readValues) := goodIn_app (goodIn_of _ (by decide +kernel)) ggX2_slice_X2_readValues
set_option maxRecDepth 20000 in
theorem ggX2_slice_X2_countOwnInNext : GoodIn wsX2_slice wsX2_countOwnInNext := goodIn_r _ [65, 39, 40, 6, 41, 66, 67, 68, 69, 33, 34, 31, 35, 1, 131, 132, 133, 134, 135] (by decide +kernel) (by decide +kernel)
set_option maxRecDepth 20000 in
theorem gX2_slice_X2_countOwnInNext : GoodIn wsX2_slice (wsV RX2 74 RX2 yX2_countOwnInNext wsX2_countOwnInNext) := goodIn_app (goodIn_of _ (by decide +kernel)) ggX2_slice_X2_countOwnInNext
set_option maxRecDepth 20000 in
theorem ggX2_slice_X2_checkRoom : GoodIn wsX2_slice wsX2_checkRoom := goodIn_ca (goodIn_r _ [73, 23, 24, 38, 74, 131, 132, 133, 134, 135, 144, 145, 146, 147, 148] (by decide +kernel) (by decide +kernel)) (goodIn_sub (fun _ h => List.mem_cons_of_mem _ (List.mem_append_right _ h)) (by decide +kernel))
set_option maxRecDepth 20000 in
theorem gX2_slice_X2_checkRoom : GoodIn wsX2_slice (wsV RX2 78 RX2 yX2_checkRoom wsX2_checkRoom) := goodIn_app (goodIn_of _ (by decide +kernel)) ggX2_slice_X2_checkRoom
set_option maxRecDepth 20000 in
theorem ggX2_slice_X1_begin : GoodIn wsX2_slice wsX1_begin := goodIn_r _ [79, 80, 81, 136, 137, 138, 139] (by decide +kernel) (by decide +kernel)
set_option maxRecDepth 20000 in
theorem gX2_slice_X1_begin : GoodIn wsX2_slice (wsV RX2 44 RX1 yX1_begin wsX1_begin) := goodIn_app (goodIn_of _ (by decide +kernel)) ggX2_slice_X1_begin
set_option maxRecDepth 20000 in
theorem ggX2_slice_X2_shareLeaves : GoodIn wsX2_slice wsX2_shareLeaves := goodIn_r _ [85, 36, 37, 38, 86, 87, 88, 55, 89, 90, 136, 137, 138, 139, 131, 132, 133, 134, 135, 144, 145, 146, 147, 148] (by decide +kernel) (by decide +kernel)
set_option maxRecDepth 20000 in
theorem gX2_slice_X2_shareLeaves : GoodIn wsX2_slice (wsV RX2 62 RX2 yX2_shareLeaves wsX2_shareLeaves) := goodIn_app (goodIn_of _ (by decide +kernel)) ggX2_slice_X2_shareLeaves
set_option maxRecDepth 20000 in
theorem ggX2_slice_X2_newLeaves : GoodIn wsX2_slice wsX2_newLeaves := goodIn_r _ [94, 18, 1, 95, 96, 97, 78, 98, 81, 40, 6, 41, 66, 67, 68, 69, 33, 34, 31, 35, 99, 100, 101, 102, 36, 37, 103, 104, 105, 106, 38, 107, 108, 109, 55, 110, 90, 111, 112, 113, 114, 115, 116, 117, 118, 119, 120, 121, 122, 123, 124, 125, 126, 127, 128, 129, 130, 57, 58, 59, 60, 61, 136, 137, 138, 139, 131, 132, 133, 134, 135, 144, 145, 146, 147, 148] (by decide +kernel) (by decide +kernel)
set_option maxRecDepth 20000 in
theorem gX2_slice_X2_newLeaves : GoodIn wsX2_slice (wsV RX2 81 RX2 yX2_newLeaves wsX2_newLeaves) := goodIn_app (goodIn_of _ (by decide +kernel)) ggX2_slice_X2_newLeaves
theorem dX2_slice_0 : decode cX2_slice 0 = .ok (.aload_n 0, 1) := by decide +kernel
theorem dX2_slice_1 : decode cX2_slice 1 = .ok (.iload_n 1, 1) := by decide +kernel
theorem dX2_slice_2 : decode cX2_slice 2 = .ok (.invokevirtual 54, 3) := by decide +kernel
theorem dX2_slice_5 : decode cX2_slice 5 = .ok (.astore 4, 2) := by decide +kernel
theorem dX2_slice_7 : decode cX2_slice 7 = .ok (.aload 4, 2) := by decide +kernel
theorem dX2_slice_9 : decode cX2_slice 9 = .ok (.iload_n 2, 1) := by decide +kernel
theorem dX2_slice_10 : decode cX2_slice 10 = .ok (.iload_n 3, 1) := by decide +kernel
theorem dX2_slice_11 : decode cX2_slice 11 = .ok (.invokestatic 66, 3) := by decide +kernel
theorem dX2_slice_14 : decode cX2_slice 14 = .ok (.aload_n 0, 1) := by decide +kernel
theorem dX2_slice_15 : decode cX2_slice 15 = .ok (.invokevirtual 40, 3) := by decide +kernel
theorem dX2_slice_18 : decode cX2_slice 18 = .ok (.istore 5, 2) := by decide +kernel
theorem dX2_slice_20 : decode cX2_slice 20 = .ok (.iload_n 3, 1) := by decide +kernel
theorem dX2_slice_21 : decode cX2_slice 21 = .ok (.iload_n 2, 1) := by decide +kernel
theorem dX2_slice_22 : decode cX2_slice 22 = .ok (.isub, 1) := by decide +kernel
theorem dX2_slice_23 : decode cX2_slice 23 = .ok (.istore 6, 2) := by decide +kernel
theorem dX2_slice_25 : decode cX2_slice 25 = .ok (.iload_n 2, 1) := by decide +kernel
theorem dX2_slice_26 : decode cX2_slice 26 = .ok (.bipush 16, 2) := by decide +kernel
theorem dX2_slice_28 : decode cX2_slice 28 = .ok (.irem, 1) := by decide +kernel
theorem dX2_slice_29 : decode cX2_slice 29 = .ok (.ifCond .ne 11, 3) := by decide +kernel
theorem dX2_slice_32 : decode cX2_slice 32 = .ok (.iload 6, 2) := by decide +kernel
theorem dX2_slice_34 : decode cX2_slice 34 = .ok (.bipush 16, 2) := by decide +kernel
theorem dX2_slice_36 : decode cX2_slice 36 = .ok (.idiv, 1) := by decide +kernel
theorem dX2_slice_37 : decode cX2_slice 37 = .ok (.goto 4, 3) := by decide +kernel
theorem dX2_slice_40 : decode cX2_slice 40 = .ok (.iconst 0, 1) := by decide +kernel
theorem dX2_slice_41 : decode cX2_slice 41 = .ok (.istore 7, 2) := by decide +kernel
theorem dX2_slice_43 : decode cX2_slice 43 = .ok (.iload 7, 2) := by decide +kernel
theorem dX2_slice_45 : decode cX2_slice 45 = .ok (.bipush 16, 2) := by decide +kernel
theorem dX2_slice_47 : decode cX2_slice 47 = .ok (.imul, 1) := by decide +kernel
theorem dX2_slice_48 : decode cX2_slice 48 = .ok (.istore 8, 2) := by decide +kernel
theorem dX2_slice_50 : decode cX2_slice 50 = .ok (.aload_n 0, 1) := by decide +kernel
theorem dX2_slice_51 : decode cX2_slice 51 = .ok (.aload 4, 2) := by decide +kernel
theorem dX2_slice_53 : decode cX2_slice 53 = .ok (.iload_n 2, 1) := by decide +kernel
theorem dX2_slice_54 : decode cX2_slice 54 = .ok (.iload 8, 2) := by decide +kernel
theorem dX2_slice_56 : decode cX2_slice 56 = .ok (.iadd, 1) := by decide +kernel
theorem dX2_slice_57 : decode cX2_slice 57 = .ok (.iload_n 3, 1) := by decide +kernel
theorem dX2_slice_58 : decode cX2_slice 58 = .ok (.aload_n 0, 1) := by decide +kernel
theorem dX2_slice_59 : decode cX2_slice 59 = .ok (.getfield 22, 3) := by decide +kernel
theorem dX2_slice_62 : decode cX2_slice 62 = .ok (.iload 8, 2) := by decide +kernel
theorem dX2_slice_64 : decode cX2_slice 64 = .ok (.invokevirtual 70, 3) := by decide +kernel
theorem dX2_slice_67 : decode cX2_slice 67 = .ok (.aload_n 0, 1) := by decide +kernel
theorem dX2_slice_68 : decode cX2_slice 68 = .ok (.aload_n 0, 1) := by decide +kernel
theorem dX2_slice_69 : decode cX2_slice 69 = .ok (.iload 7, 2) := by decide +kernel
theorem dX2_slice_71 : decode cX2_slice 71 = .ok (.iload 6, 2) := by decide +kernel
theorem dX2_slice_73 : decode cX2_slice 73 = .ok (.invokevirtual 74, 3) := by decide +kernel
theorem dX2_slice_76 : decode cX2_slice 76 = .ok (.invokevirtual 78, 3) := by decide +kernel
theorem dX2_slice_79 : decode cX2_slice 79 = .ok (.aload_n 0, 1) := by decide +kernel
theorem dX2_slice_80 : decode cX2_slice 80 = .ok (.getfield 11, 3) := by decide +kernel
theorem dX2_slice_83 : decode cX2_slice 83 = .ok (.iload 5, 2) := by decide +kernel
theorem dX2_slice_85 : decode cX2_slice 85 = .ok (.aaload, 1) := by decide +kernel
theorem dX2_slice_86 : decode cX2_slice 86 = .ok (.astore 9, 2) := by decide +kernel
theorem dX2_slice_88 : decode cX2_slice 88 = .ok (.aload 9, 2) := by decide +kernel
theorem dX2_slice_90 : decode cX2_slice 90 = .ok (.iload 6, 2) := by decide +kernel
theorem dX2_slice_92 : decode cX2_slice 92 = .ok (.invokevirtual 44, 3) := by decide +kernel
theorem dX2_slice_95 : decode cX2_slice 95 = .ok (.aload_n 0, 1) := by decide +kernel
theorem dX2_slice_96 : decode cX2_slice 96 = .ok (.aload 4, 2) := by decide +kernel
theorem dX2_slice_98 : decode cX2_slice 98 = .ok (.iload_n 2, 1) := by decide +kernel
theorem dX2_slice_99 : decode cX2_slice 99 = .ok (.bipush 16, 2) := by decide +kernel
theorem dX2_slice_101 : decode cX2_slice 101 = .ok (.idiv, 1) := by decide +kernel
theorem dX2_slice_102 : decode cX2_slice 102 = .ok (.aload 9, 2) := by decide +kernel
theorem dX2_slice_104 : decode cX2_slice 104 = .ok (.iconst 0, 1) := by decide +kernel
theorem dX2_slice_105 : decode cX2_slice 105 = .ok (.iload 7, 2) := by decide +kernel
theorem dX2_slice_107 : decode cX2_slice 107 = .ok (.invokevirtual 62, 3) := by decide +kernel
theorem dX2_slice_110 : decode cX2_slice 110 = .ok (.aload_n 0, 1) := by decide +kernel
theorem dX2_slice_111 : decode cX2_slice 111 = .ok (.aload 9, 2) := by decide +kernel
theorem dX2_slice_113 : decode cX2_slice 113 = .ok (.iload 7, 2) := by decide +kernel
theorem dX2_slice_115 : decode cX2_slice 115 = .ok (.invokevirtual 81, 3) := by decide +kernel
theorem dX2_slice_118 : decode cX2_slice 118 = .ok (.iload 5, 2) := by decide +kernel
theorem dX2_slice_120 : decode cX2_slice 120 = .ok (.ireturn, 1) := by decide +kernel
set_option maxRecDepth 20000 in
theorem ggX2_join_X2_arrayThere : GoodIn wsX2_join wsX2_arrayThere := goodIn_ca (goodIn_r _ [10, 1, 2, 5, 11, 12, 13, 9, 14, 15, 132, 133, 134, 135, 136, 128, 129, 130, 131] (by decide +kernel) (by decide +kernel)) (goodIn_sub (fun _ h => List.mem_cons_of_mem _ (List.mem_append_left _ (List.mem_append_right _ h))) (by decide +kernel))
set_option maxRecDepth 20000 in
theorem gX2_join_X2_arrayThere : GoodIn wsX2_join (wsV RX2 54 RX2 yX2_arrayThere wsX2_arrayThere) := goodIn_app (goodIn_of _ (by decide +kernel)) ggX2_join_X2_arrayThere
set_option maxRecDepth 20000 in
theorem ggX2_join_X2_numberForNewArray : GoodIn wsX2_join wsX2_numberForNewArray := goodIn_ca (goodIn_r _ [19, 20, 21, 5, 15, 132, 133, 134, 135, 136, 128, 129, 130, 131] (by decide +kernel) (by decide +kernel)) (goodIn_sub (fun _ h => List.mem_cons_of_mem _ (List.mem_append_right _ h)) (by decide +kernel))
set_option maxRecDepth 20000 in
theorem gX2_join_X2_numberForNewArray : GoodIn wsX2_join (wsV RX2 40 RX2 yX2_numberForNewArray wsX2_numberForNewArray) := goodIn_app (goodIn_of _ (by decide +kernel)) ggX2_join_X2_numberForNewArray
set_option maxRecDepth 20000 in
theorem ggX2_join_X1_leafCount : GoodIn wsX2_join wsX1_leafCount := goodIn_r _ [26, 27, 28, 9, 29, 128, 129, 130, 131] (by decide +kernel) (by decide +kernel)
set_option maxRecDepth 20000 in
theorem gX2_join_X1_leafCount : GoodIn wsX2_join (wsV RX2 48 RX1 yX1_leafCount wsX1_leafCount) := goodIn_app (goodIn_of _ (by decide +kernel)) ggX2_join_X1_leafCount
set_option maxRecDepth 20000 in
theorem ggX2_join_X2_readValues : GoodIn wsX2_join wsX2_readValues := goodIn_r _ [33, 34, 35, 36, 37, 38, 39, 40, 41, 42, 43, 44, 28, 9, 29, 45, 46, 47, 48, 49, 50, 51, 52, 53, 54, 55, 56, 57, 58, 59, 60, 61, 62, 63, 64, 128, 129, 130, 131, 132, 133, 134, 135, 136, 137, 138, 139, 140, 141, 142, 143, 144, 145] (by decide +kernel) (by decide +kernel)
set_option maxRecDepth 20000 in
theorem gX2_join_X2_readValues : GoodIn wsX2_join (wsV RX2 70 RX2 yX2_readValues wsX2_readValues) := goodIn_app (goodIn_of _ (by decide +kernel)) ggX2_join_X2_readValues
set_option maxRecDepth 20000 in
theorem ggX2_join_X2_countOwnInNext : GoodIn wsX2_join wsX2_countOwnInNext := goodIn_r _ [68, 44, 28, 9, 29, 69, 70, 71, 72, 38, 39, 36, 40, 4, 132, 133, 134, 135, 136] (by decide +kernel) (by decide +kernel)
set_option maxRecDepth 20000 in
theorem gX2_join_X2_countOwnInNext : GoodIn wsX2_join (wsV RX2 74 RX2 yX2_countOwnInNext wsX2_countOwnInNext) := goodIn_app (goodIn_of _ (by decide +kernel)) ggX2_join_X2_countOwnInNext
set_option maxRecDepth 20000 in
theorem ggX2_join_X2_checkRoom : GoodIn wsX2_join wsX2_checkRoom := goodIn_ca (goodIn_r _ [76, 20, 21, 43, 77, 132, 133, 134, 135, 136, 141, 142, 143, 144, 145] (by decide +kernel) (by decide +kernel)) (goodIn_sub (fun _ h => List.mem_cons_of_mem _ (List.mem_append_right _ h)) (by decide +kernel))
set_option maxRecDepth 20000 in
theorem gX2_join_X2_checkRoom : GoodIn wsX2_join (wsV RX2 78 RX2 yX2_checkRoom wsX2_checkRoom) := goodIn_app (goodIn_of _ (by decide +kernel)) ggX2_join_X2_checkRoom
set_option maxRecDepth 20000 in
theorem ggX2_join_X1_begin : GoodIn wsX2_join wsX1_begin := goodIn_r _ [81, 82, 27, 128, 129, 130, 131] (by decide +kernel) (by decide +kernel)
set_option maxRecDepth 20000 in
theorem gX2_join_X1_begin : GoodIn wsX2_join (wsV RX2 44 RX1 yX1_begin wsX1_begin) := goodIn_app (goodIn_of _ (by decide +kernel)) ggX2_join_X1_begin
set_option maxRecDepth 20000 in
theorem ggX2_join_X2_shareLeaves : GoodIn wsX2_join wsX2_shareLeaves := goodIn_r _ [86, 41, 42, 43, 87, 88, 89, 58, 90, 91, 128, 129, 130, 131, 132, 133, 134, 135, 136, 141, 142, 143, 144, 145] (by decide +kernel) (by decide +kernel)
set_option maxRecDepth 20000 in
theorem gX2_join_X2_shareLeaves : GoodIn wsX2_join (wsV RX2 62 RX2 yX2_shareLeaves wsX2_shareLeaves) := goodIn_app (goodIn_of _ (by decide +kernel)) ggX2_join_X2_shareLeaves
set_option maxRecDepth 20000 in
theorem ggX2_join_X2_newLeaves : GoodIn wsX2_join wsX2_newLeaves := goodIn_r _ [95, 3, 4, 22, 23, 24, 25, 26, 27, 28, 9, 29, 69, 70, 71, 72, 38, 39, 36, 40, 96, 97, 98, 99, 41, 42, 100, 101, 102, 103, 43, 104, 105, 106, 58, 107, 91, 108, 109, 110, 111, 112, 113, 114, 115, 116, 117, 118, 119, 120, 121, 122, 123, 124, 125, 126, 127, 60, 61, 62, 63, 64, 128, 129, 130, 131, 132, 133, 134, 135, 136, 141, 142, 143, 144, 145] (by decide +kernel) (by decide +kernel)
set_option maxRecDepth 20000 in
theorem gX2_join_X2_newLeaves : GoodIn wsX2_join (wsV RX2 81 RX2 yX2_newLeaves wsX2_newLeaves) := goodIn_app (goodIn_of _ (by decide +kernel)) ggX2_join_X2_newLeaves
theorem dX2_join_0 : decode cX2_join 0 = .ok (.aload_n 0, 1) := by decide +kernel
theorem dX2_join_1 : decode cX2_join 1 = .ok (.iload_n 1, 1) := by decide +kernel
theorem dX2_join_2 : decode cX2_join 2 = .ok (.invokevirtual 54, 3) := by decide +kernel
theorem dX2_join_5 : decode cX2_join 5 = .ok (.astore_n 3, 1) := by decide +kernel
theorem dX2_join_6 : decode cX2_join 6 = .ok (.aload_n 0, 1) := by decide +kernel
theorem dX2_join_7 : decode cX2_join 7 = .ok (.iload_n 2, 1) := by decide +kernel
theorem dX2_join_8 : decode cX2_join 8 = .ok (.invokevirtual 54, 3) := by decide +kernel
theorem dX2_join_11 : decode cX2_join 11 = .ok (.astore 4, 2) := by decide +kernel
theorem dX2_join_13 : decode cX2_join 13 = .ok (.aload_n 3, 1) := by decide +kernel
theorem dX2_join_14 : decode cX2_join 14 = .ok (.getfield 58, 3) := by decide +kernel
theorem dX2_join_17 : decode cX2_join 17 = .ok (.aload 4, 2) := by decide +kernel
theorem dX2_join_19 : decode cX2_join 19 = .ok (.getfield 58, 3) := by decide +kernel
theorem dX2_join_22 : decode cX2_join 22 = .ok (.iadd, 1) := by decide +kernel
theorem dX2_join_23 : decode cX2_join 23 = .ok (.istore 5, 2) := by decide +kernel
theorem dX2_join_25 : decode cX2_join 25 = .ok (.iload 5, 2) := by decide +kernel
theorem dX2_join_27 : decode cX2_join 27 = .ok (.sipush 4096, 3) := by decide +kernel
theorem dX2_join_30 : decode cX2_join 30 = .ok (.if_icmp .le 13, 3) := by decide +kernel
theorem dX2_join_33 : decode cX2_join 33 = .ok (.new 33, 3) := by decide +kernel
theorem dX2_join_36 : decode cX2_join 36 = .ok (.dup, 1) := by decide +kernel
theorem dX2_join_37 : decode cX2_join 37 = .ok (.ldc 85, 2) := by decide +kernel
theorem dX2_join_39 : decode cX2_join 39 = .ok (.invokespecial 37, 3) := by decide +kernel
theorem dX2_join_42 : decode cX2_join 42 = .ok (.athrow, 1) := by decide +kernel
theorem dX2_join_43 : decode cX2_join 43 = .ok (.aload_n 0, 1) := by decide +kernel
theorem dX2_join_44 : decode cX2_join 44 = .ok (.invokevirtual 40, 3) := by decide +kernel
theorem dX2_join_47 : decode cX2_join 47 = .ok (.istore 6, 2) := by decide +kernel
theorem dX2_join_49 : decode cX2_join 49 = .ok (.aload_n 3, 1) := by decide +kernel
theorem dX2_join_50 : decode cX2_join 50 = .ok (.getfield 58, 3) := by decide +kernel
theorem dX2_join_53 : decode cX2_join 53 = .ok (.bipush 16, 2) := by decide +kernel
theorem dX2_join_55 : decode cX2_join 55 = .ok (.idiv, 1) := by decide +kernel
theorem dX2_join_56 : decode cX2_join 56 = .ok (.istore 7, 2) := by decide +kernel
theorem dX2_join_58 : decode cX2_join 58 = .ok (.aload_n 3, 1) := by decide +kernel
theorem dX2_join_59 : decode cX2_join 59 = .ok (.getfield 58, 3) := by decide +kernel
theorem dX2_join_62 : decode cX2_join 62 = .ok (.bipush 16, 2) := by decide +kernel
theorem dX2_join_64 : decode cX2_join 64 = .ok (.irem, 1) := by decide +kernel
theorem dX2_join_65 : decode cX2_join 65 = .ok (.ifCond .ne 11, 3) := by decide +kernel
theorem dX2_join_68 : decode cX2_join 68 = .ok (.aload 4, 2) := by decide +kernel
theorem dX2_join_70 : decode cX2_join 70 = .ok (.invokevirtual 48, 3) := by decide +kernel
theorem dX2_join_73 : decode cX2_join 73 = .ok (.goto 4, 3) := by decide +kernel
theorem dX2_join_76 : decode cX2_join 76 = .ok (.iconst 0, 1) := by decide +kernel
theorem dX2_join_77 : decode cX2_join 77 = .ok (.istore 8, 2) := by decide +kernel
theorem dX2_join_79 : decode cX2_join 79 = .ok (.iload 7, 2) := by decide +kernel
theorem dX2_join_81 : decode cX2_join 81 = .ok (.iload 8, 2) := by decide +kernel
theorem dX2_join_83 : decode cX2_join 83 = .ok (.iadd, 1) := by decide +kernel
theorem dX2_join_84 : decode cX2_join 84 = .ok (.istore 9, 2) := by decide +kernel
theorem dX2_join_86 : decode cX2_join 86 = .ok (.aload_n 0, 1) := by decide +kernel
theorem dX2_join_87 : decode cX2_join 87 = .ok (.aload_n 3, 1) := by decide +kernel
theorem dX2_join_88 : decode cX2_join 88 = .ok (.iload 7, 2) := by decide +kernel
theorem dX2_join_90 : decode cX2_join 90 = .ok (.bipush 16, 2) := by decide +kernel
theorem dX2_join_92 : decode cX2_join 92 = .ok (.imul, 1) := by decide +kernel
theorem dX2_join_93 : decode cX2_join 93 = .ok (.aload_n 3, 1) := by decide +kernel
theorem dX2_join_94 : decode cX2_join 94 = .ok (.getfield 58, 3) := by decide +kernel
theorem dX2_join_97 : decode cX2_join 97 = .ok (.aload_n 0, 1) := by decide +kernel
theorem dX2_join_98 : decode cX2_join 98 = .ok (.getfield 22, 3) := by decide +kernel
theorem dX2_join_101 : decode cX2_join 101 = .ok (.iload 7, 2) := by decide +kernel
theorem dX2_join_103 : decode cX2_join 103 = .ok (.bipush 16, 2) := by decide +kernel
theorem dX2_join_105 : decode cX2_join 105 = .ok (.imul, 1) := by decide +kernel
theorem dX2_join_106 : decode cX2_join 106 = .ok (.invokevirtual 70, 3) := by decide +kernel
theorem dX2_join_109 : decode cX2_join 109 = .ok (.aload_n 0, 1) := by decide +kernel
theorem dX2_join_110 : decode cX2_join 110 = .ok (.aload 4, 2) := by decide +kernel
theorem dX2_join_112 : decode cX2_join 112 = .ok (.iconst 0, 1) := by decide +kernel
theorem dX2_join_113 : decode cX2_join 113 = .ok (.aload 4, 2) := by decide +kernel
theorem dX2_join_115 : decode cX2_join 115 = .ok (.getfield 58, 3) := by decide +kernel
theorem dX2_join_118 : decode cX2_join 118 = .ok (.aload_n 0, 1) := by decide +kernel
theorem dX2_join_119 : decode cX2_join 119 = .ok (.getfield 22, 3) := by decide +kernel
theorem dX2_join_122 : decode cX2_join 122 = .ok (.aload_n 3, 1) := by decide +kernel
theorem dX2_join_123 : decode cX2_join 123 = .ok (.getfield 58, 3) := by decide +kernel
theorem dX2_join_126 : decode cX2_join 126 = .ok (.invokevirtual 70, 3) := by decide +kernel
theorem dX2_join_129 : decode cX2_join 129 = .ok (.aload_n 0, 1) := by decide +kernel
theorem dX2_join_130 : decode cX2_join 130 = .ok (.aload_n 0, 1) := by decide +kernel
theorem dX2_join_131 : decode cX2_join 131 = .ok (.iload 9, 2) := by decide +kernel
theorem dX2_join_133 : decode cX2_join 133 = .ok (.iload 5, 2) := by decide +kernel
theorem dX2_join_135 : decode cX2_join 135 = .ok (.invokevirtual 74, 3) := by decide +kernel
theorem dX2_join_138 : decode cX2_join 138 = .ok (.invokevirtual 78, 3) := by decide +kernel
theorem dX2_join_141 : decode cX2_join 141 = .ok (.aload_n 0, 1) := by decide +kernel
theorem dX2_join_142 : decode cX2_join 142 = .ok (.getfield 11, 3) := by decide +kernel
theorem dX2_join_145 : decode cX2_join 145 = .ok (.iload 6, 2) := by decide +kernel
theorem dX2_join_147 : decode cX2_join 147 = .ok (.aaload, 1) := by decide +kernel
theorem dX2_join_148 : decode cX2_join 148 = .ok (.astore 10, 2) := by decide +kernel
theorem dX2_join_150 : decode cX2_join 150 = .ok (.aload 10, 2) := by decide +kernel
theorem dX2_join_152 : decode cX2_join 152 = .ok (.iload 5, 2) := by decide +kernel
theorem dX2_join_154 : decode cX2_join 154 = .ok (.invokevirtual 44, 3) := by decide +kernel
theorem dX2_join_157 : decode cX2_join 157 = .ok (.aload_n 0, 1) := by decide +kernel
theorem dX2_join_158 : decode cX2_join 158 = .ok (.aload_n 3, 1) := by decide +kernel
theorem dX2_join_159 : decode cX2_join 159 = .ok (.iconst 0, 1) := by decide +kernel
theorem dX2_join_160 : decode cX2_join 160 = .ok (.aload 10, 2) := by decide +kernel
theorem dX2_join_162 : decode cX2_join 162 = .ok (.iconst 0, 1) := by decide +kernel
theorem dX2_join_163 : decode cX2_join 163 = .ok (.iload 7, 2) := by decide +kernel
theorem dX2_join_165 : decode cX2_join 165 = .ok (.invokevirtual 62, 3) := by decide +kernel
theorem dX2_join_168 : decode cX2_join 168 = .ok (.aload_n 0, 1) := by decide +kernel
theorem dX2_join_169 : decode cX2_join 169 = .ok (.aload 4, 2) := by decide +kernel
theorem dX2_join_171 : decode cX2_join 171 = .ok (.iconst 0, 1) := by decide +kernel
theorem dX2_join_172 : decode cX2_join 172 = .ok (.aload 10, 2) := by decide +kernel
theorem dX2_join_174 : decode cX2_join 174 = .ok (.iload 7, 2) := by decide +kernel
theorem dX2_join_176 : decode cX2_join 176 = .ok (.iload 8, 2) := by decide +kernel
theorem dX2_join_178 : decode cX2_join 178 = .ok (.invokevirtual 62, 3) := by decide +kernel
theorem dX2_join_181 : decode cX2_join 181 = .ok (.aload_n 0, 1) := by decide +kernel
theorem dX2_join_182 : decode cX2_join 182 = .ok (.aload 10, 2) := by decide +kernel
theorem dX2_join_184 : decode cX2_join 184 = .ok (.iload 9, 2) := by decide +kernel
theorem dX2_join_186 : decode cX2_join 186 = .ok (.invokevirtual 81, 3) := by decide +kernel
theorem dX2_join_189 : decode cX2_join 189 = .ok (.iload 6, 2) := by decide +kernel
theorem dX2_join_191 : decode cX2_join 191 = .ok (.ireturn, 1) := by decide +kernel
set_option maxRecDepth 20000 in
theorem ggX2_release_X2_isThere : GoodIn wsX2_release wsX2_isThere := goodIn_r _ [7, 1, 2, 35, 36, 37, 38, 39, 40, 41, 42, 43] (by decide +kernel) (by decide +kernel)
set_option maxRecDepth 20000 in
theorem gX2_release_X2_isThere : GoodIn wsX2_release (wsV RX2 87 RX2 yX2_isThere wsX2_isThere) := goodIn_app (goodIn_of _ (by decide +kernel)) ggX2_release_X2_isThere
set_option maxRecDepth 20000 in
theorem ggX2_release_X1_leafCount : GoodIn wsX2_release wsX1_leafCount := goodIn_r _ [12, 13, 14, 6, 15, 40, 41, 42, 43] (by decide +kernel) (by decide +kernel)
set_option maxRecDepth 20000 in
theorem gX2_release_X1_leafCount : GoodIn wsX2_release (wsV RX2 48 RX1 yX1_leafCount wsX1_leafCount) := goodIn_app (goodIn_of _ (by decide +kernel)) ggX2_release_X1_leafCount
set_option maxRecDepth 20000 in
theorem ggX2_release_X2_setConstant : GoodIn wsX2_release wsX2_setConstant := goodIn_r _ [19, 20, 21, 22, 23, 24, 6, 25, 26, 27, 28, 29, 30, 31, 32, 33, 34, 40, 41, 42, 43, 35, 36, 37, 38, 39, 44, 45, 46, 47, 48] (by decide +kernel) (by decide +kernel)
set_option maxRecDepth 20000 in
theorem gX2_release_X2_setConstant : GoodIn wsX2_release (wsV RX2 91 RX2 yX2_setConstant wsX2_setConstant) := goodIn_app (goodIn_of _ (by decide +kernel)) ggX2_release_X2_setConstant
theorem dX2_release_0 : decode cX2_release 0 = .ok (.aload_n 0, 1) := by decide +kernel
theorem dX2_release_1 : decode cX2_release 1 = .ok (.iload_n 1, 1) := by decide +kernel
theorem dX2_release_2 : decode cX2_release 2 = .ok (.invokevirtual 87, 3) := by decide +kernel
theorem dX2_release_5 : decode cX2_release 5 = .ok (.ifCond .ne 5, 3) := by decide +kernel
theorem dX2_release_8 : decode cX2_release 8 = .ok (.iconst 0, 1) := by decide +kernel
theorem dX2_release_9 : decode cX2_release 9 = .ok (.ireturn, 1) := by decide +kernel
theorem dX2_release_10 : decode cX2_release 10 = .ok (.aload_n 0, 1) := by decide +kernel
theorem dX2_release_11 : decode cX2_release 11 = .ok (.getfield 11, 3) := by decide +kernel
theorem dX2_release_14 : decode cX2_release 14 = .ok (.iload_n 1, 1) := by decide +kernel
theorem dX2_release_15 : decode cX2_release 15 = .ok (.aaload, 1) := by decide +kernel
theorem dX2_release_16 : decode cX2_release 16 = .ok (.astore_n 2, 1) := by decide +kernel
theorem dX2_release_17 : decode cX2_release 17 = .ok (.iconst 0, 1) := by decide +kernel
theorem dX2_release_18 : decode cX2_release 18 = .ok (.istore_n 3, 1) := by decide +kernel
theorem dX2_release_19 : decode cX2_release 19 = .ok (.iload_n 3, 1) := by decide +kernel
theorem dX2_release_20 : decode cX2_release 20 = .ok (.aload_n 2, 1) := by decide +kernel
theorem dX2_release_21 : decode cX2_release 21 = .ok (.invokevirtual 48, 3) := by decide +kernel
theorem dX2_release_24 : decode cX2_release 24 = .ok (.if_icmp .ge 16, 3) := by decide +kernel
theorem dX2_release_27 : decode cX2_release 27 = .ok (.aload_n 0, 1) := by decide +kernel
theorem dX2_release_28 : decode cX2_release 28 = .ok (.aload_n 2, 1) := by decide +kernel
theorem dX2_release_29 : decode cX2_release 29 = .ok (.iload_n 3, 1) := by decide +kernel
theorem dX2_release_30 : decode cX2_release 30 = .ok (.iconst 0, 1) := by decide +kernel
theorem dX2_release_31 : decode cX2_release 31 = .ok (.invokevirtual 91, 3) := by decide +kernel
theorem dX2_release_34 : decode cX2_release 34 = .ok (.iinc 3 1, 3) := by decide +kernel
theorem dX2_release_37 : decode cX2_release 37 = .ok (.goto (-18), 3) := by decide +kernel
theorem dX2_release_40 : decode cX2_release 40 = .ok (.aload_n 2, 1) := by decide +kernel
theorem dX2_release_41 : decode cX2_release 41 = .ok (.iconst 0, 1) := by decide +kernel
theorem dX2_release_42 : decode cX2_release 42 = .ok (.putfield 94, 3) := by decide +kernel
theorem dX2_release_45 : decode cX2_release 45 = .ok (.iconst 1, 1) := by decide +kernel
theorem dX2_release_46 : decode cX2_release 46 = .ok (.ireturn, 1) := by decide +kernel
set_option maxRecDepth 20000 in
theorem ggX2_get_X2_arrayThere : GoodIn wsX2_get wsX2_arrayThere := goodIn_ca (goodIn_r _ [8, 9, 10, 11, 12, 13, 14, 7, 15, 16, 31, 32, 33, 34, 35, 27, 28, 29, 30] (by decide +kernel) (by decide +kernel)) (goodIn_sub (fun _ h => List.mem_cons_of_mem _ (List.mem_append_right _ h)) (by decide +kernel))
set_option maxRecDepth 20000 in
theorem gX2_get_X2_arrayThere : GoodIn wsX2_get (wsV RX2 54 RX2 yX2_arrayThere wsX2_arrayThere) := goodIn_app (goodIn_of _ (by decide +kernel)) ggX2_get_X2_arrayThere
set_option maxRecDepth 20000 in
theorem ggX2_get_X2_checkIndex : GoodIn wsX2_get wsX2_checkIndex := goodIn_ca (goodIn_r _ [19, 9, 10, 20, 27, 28, 29, 30] (by decide +kernel) (by decide +kernel)) (goodIn_sub (fun _ h => List.mem_cons_of_mem _ (List.mem_append_right _ h)) (by decide +kernel))
set_option maxRecDepth 20000 in
theorem gX2_get_X2_checkIndex : GoodIn wsX2_get (va_wsS RX2 98 yX2_checkIndex wsX2_checkIndex) := goodIn_app (goodIn_of _ (by decide +kernel)) ggX2_get_X2_checkIndex
set_option maxRecDepth 20000 in
theorem ggX2_get_X0_valueAt : GoodIn wsX2_get wsX0_valueAt := goodIn_r _ [25, 26, 36, 37, 38, 39, 40] (by decide +kernel) (by decide +kernel)
set_option maxRecDepth 20000 in
theorem gX2_get_X0_valueAt : GoodIn wsX2_get (wsV RX2 104 RX0 yX0_valueAt wsX0_valueAt) := goodIn_app (goodIn_of _ (by decide +kernel)) ggX2_get_X0_valueAt
theorem dX2_get_0 : decode cX2_get 0 = .ok (.aload_n 0, 1) := by decide +kernel
theorem dX2_get_1 : decode cX2_get 1 = .ok (.iload_n 1, 1) := by decide +kernel
theorem dX2_get_2 : decode cX2_get 2 = .ok (.invokevirtual 54, 3) := by decide +kernel
theorem dX2_get_5 : decode cX2_get 5 = .ok (.astore_n 3, 1) := by decide +kernel
theorem dX2_get_6 : decode cX2_get 6 = .ok (.aload_n 3, 1) := by decide +kernel
theorem dX2_get_7 : decode cX2_get 7 = .ok (.iload_n 2, 1) := by decide +kernel
theorem dX2_get_8 : decode cX2_get 8 = .ok (.invokestatic 98, 3) := by decide +kernel
theorem dX2_get_11 : decode cX2_get 11 = .ok (.iload_n 2, 1) := by decide +kernel
theorem dX2_get_12 : decode cX2_get 12 = .ok (.bipush 16, 2) := by decide +kernel
theorem dX2_get_14 : decode cX2_get 14 = .ok (.idiv, 1) := by decide +kernel
theorem dX2_get_15 : decode cX2_get 15 = .ok (.istore 4, 2) := by decide +kernel
theorem dX2_get_17 : decode cX2_get 17 = .ok (.aload_n 3, 1) := by decide +kernel
theorem dX2_get_18 : decode cX2_get 18 = .ok (.getfield 101, 3) := by decide +kernel
theorem dX2_get_21 : decode cX2_get 21 = .ok (.iload 4, 2) := by decide +kernel
theorem dX2_get_23 : decode cX2_get 23 = .ok (.iaload, 1) := by decide +kernel
theorem dX2_get_24 : decode cX2_get 24 = .ok (.istore 5, 2) := by decide +kernel
theorem dX2_get_26 : decode cX2_get 26 = .ok (.iload 5, 2) := by decide +kernel
theorem dX2_get_28 : decode cX2_get 28 = .ok (.iconst (-1), 1) := by decide +kernel
theorem dX2_get_29 : decode cX2_get 29 = .ok (.if_icmp .ne 13, 3) := by decide +kernel
theorem dX2_get_32 : decode cX2_get 32 = .ok (.aload_n 3, 1) := by decide +kernel
theorem dX2_get_33 : decode cX2_get 33 = .ok (.getfield 51, 3) := by decide +kernel
theorem dX2_get_36 : decode cX2_get 36 = .ok (.iload 4, 2) := by decide +kernel
theorem dX2_get_38 : decode cX2_get 38 = .ok (.iaload, 1) := by decide +kernel
theorem dX2_get_39 : decode cX2_get 39 = .ok (.goto 16, 3) := by decide +kernel
theorem dX2_get_42 : decode cX2_get 42 = .ok (.aload_n 0, 1) := by decide +kernel
theorem dX2_get_43 : decode cX2_get 43 = .ok (.getfield 18, 3) := by decide +kernel
theorem dX2_get_46 : decode cX2_get 46 = .ok (.iload 5, 2) := by decide +kernel
theorem dX2_get_48 : decode cX2_get 48 = .ok (.iload_n 2, 1) := by decide +kernel
theorem dX2_get_49 : decode cX2_get 49 = .ok (.bipush 16, 2) := by decide +kernel
theorem dX2_get_51 : decode cX2_get 51 = .ok (.irem, 1) := by decide +kernel
theorem dX2_get_52 : decode cX2_get 52 = .ok (.invokevirtual 104, 3) := by decide +kernel
theorem dX2_get_55 : decode cX2_get 55 = .ok (.ireturn, 1) := by decide +kernel
set_option maxRecDepth 20000 in
theorem ggX2_set_X2_arrayThere : GoodIn wsX2_set wsX2_arrayThere := goodIn_ca (goodIn_r _ [5, 6, 7, 8, 9, 10, 11, 4, 12, 13, 135, 136, 137, 138, 139, 140, 141, 142, 143] (by decide +kernel) (by decide +kernel)) (goodIn_sub (fun _ h => List.mem_cons_of_mem _ (List.mem_append_left _ (List.mem_append_right _ h))) (by decide +kernel))
set_option maxRecDepth 20000 in
theorem gX2_set_X2_arrayThere : GoodIn wsX2_set (wsV RX2 54 RX2 yX2_arrayThere wsX2_arrayThere) := goodIn_app (goodIn_of _ (by decide +kernel)) ggX2_set_X2_arrayThere
set_option maxRecDepth 20000 in
theorem ggX2_set_X2_checkIndex : GoodIn wsX2_set wsX2_checkIndex := goodIn_ca (goodIn_r _ [16, 6, 7, 17, 140, 141, 142, 143] (by decide +kernel) (by decide +kernel)) (goodIn_sub (fun _ h => List.mem_cons_of_mem _ (List.mem_append_left _ (List.mem_append_right _ h))) (by decide +kernel))
set_option maxRecDepth 20000 in
theorem gX2_set_X2_checkIndex : GoodIn wsX2_set (va_wsS RX2 98 yX2_checkIndex wsX2_checkIndex) := goodIn_app (goodIn_of _ (by decide +kernel)) ggX2_set_X2_checkIndex
set_option maxRecDepth 20000 in
theorem ggX2_set_X2_fillValues : GoodIn wsX2_set wsX2_fillValues := goodIn_ca (goodIn_r _ [21, 22, 23, 24, 4, 25, 26, 27, 28, 29, 17, 30, 31, 32, 33, 34, 35, 36, 37, 38, 39, 40, 41, 42, 43, 44, 45, 46, 47, 48, 49, 50, 51, 52, 53, 54, 55, 56, 57, 58, 59, 60, 61, 62, 63, 64, 65, 66, 67, 68, 69, 70, 71, 72, 73, 74, 75, 76, 77, 78, 79, 80, 81, 82, 83, 84, 85, 86, 87, 88, 89, 90, 91, 92, 93, 94, 95, 96, 97, 98, 99, 100, 101, 102, 103, 104, 105, 106, 107, 108, 109, 110, 111, 112, 113, 114, 115, 116, 117, 118, 119, 120, 121, 122, 123, 124, 125, 126, 127, 128, 129, 130, 131, 132, 133, 134, 135, 136, 137, 138, 139, 140, 141, 142, 143, 144, 145, 146, 147, 148, 149, 150, 151, 152] (by decide +kernel) (by decide +kernel)) (goodIn_sub (fun _ h => List.mem_cons_of_mem _ (List.mem_append_right _ h)) (by decide +kernel))
set_option maxRecDepth 20000 in
theorem gX2_set_X2_fillValues : GoodIn wsX2_set (wsV RX2 107 RX2 yX2_fillValues wsX2_fillValues) := goodIn_app (goodIn_of _ (by decide +kernel)) ggX2_set_X2_fillValues
theorem dX2_set_0 : decode cX2_set 0 = .ok (.aload_n 0, 1) := by decide +kernel
theorem dX2_set_1 : decode cX2_set 1 = .ok (.iload_n 1, 1) := by decide +kernel
theorem dX2_set_2 : decode cX2_set 2 = .ok (.invokevirtual 54, 3) := by decide +kernel
theorem dX2_set_5 : decode cX2_set 5 = .ok (.astore 4, 2) := by decide +kernel
theorem dX2_set_7 : decode cX2_set 7 = .ok (.aload 4, 2) := by decide +kernel
theorem dX2_set_9 : decode cX2_set 9 = .ok (.iload_n 2, 1) := by decide +kernel
theorem dX2_set_10 : decode cX2_set 10 = .ok (.invokestatic 98, 3) := by decide +kernel
theorem dX2_set_13 : decode cX2_set 13 = .ok (.aload_n 0, 1) := by decide +kernel
theorem dX2_set_14 : decode cX2_set 14 = .ok (.aload 4, 2) := by decide +kernel
theorem dX2_set_16 : decode cX2_set 16 = .ok (.iload_n 2, 1) := by decide +kernel
theorem dX2_set_17 : decode cX2_set 17 = .ok (.iload_n 2, 1) := by decide +kernel
theorem dX2_set_18 : decode cX2_set 18 = .ok (.iconst 1, 1) := by decide +kernel
theorem dX2_set_19 : decode cX2_set 19 = .ok (.iadd, 1) := by decide +kernel
theorem dX2_set_20 : decode cX2_set 20 = .ok (.iload_n 3, 1) := by decide +kernel
theorem dX2_set_21 : decode cX2_set 21 = .ok (.invokevirtual 107, 3) := by decide +kernel
theorem dX2_set_24 : decode cX2_set 24 = .ok (.return_, 1) := by decide +kernel
set_option maxRecDepth 20000 in
theorem ggX2_fill_X2_arrayThere : GoodIn wsX2_fill wsX2_arrayThere := goodIn_ca (goodIn_r _ [5, 6, 7, 8, 9, 10, 11, 4, 12, 13, 135, 136, 137, 138, 139, 140, 141, 142, 143] (by decide +kernel) (by decide +kernel)) (goodIn_sub (fun _ h => List.mem_cons_of_mem _ (List.mem_append_left _ (List.mem_append_right _ h))) (by decide +kernel))
set_option maxRecDepth 20000 in
theorem gX2_fill_X2_arrayThere : GoodIn wsX2_fill (wsV RX2 54 RX2 yX2_arrayThere wsX2_arrayThere) := goodIn_app (goodIn_of _ (by decide +kernel)) ggX2_fill_X2_arrayThere
set_option maxRecDepth 20000 in
theorem ggX2_fill_X2_checkRange : GoodIn wsX2_fill wsX2_checkRange := goodIn_ca (goodIn_r _ [16, 6, 7, 17, 140, 141, 142, 143] (by decide +kernel) (by decide +kernel)) (goodIn_sub (fun _ h => List.mem_cons_of_mem _ (List.mem_append_left _ (List.mem_append_right _ h))) (by decide +kernel))
set_option maxRecDepth 20000 in
theorem gX2_fill_X2_checkRange : GoodIn wsX2_fill (va_wsS RX2 66 yX2_checkRange wsX2_checkRange) := goodIn_app (goodIn_of _ (by decide +kernel)) ggX2_fill_X2_checkRange
set_option maxRecDepth 20000 in
theorem ggX2_fill_X2_fillValues : GoodIn wsX2_fill wsX2_fillValues := goodIn_ca (goodIn_r _ [21, 22, 23, 24, 4, 25, 26, 27, 28, 29, 17, 30, 31, 32, 33, 34, 35, 36, 37, 38, 39, 40, 41, 42, 43, 44, 45, 46, 47, 48, 49, 50, 51, 52, 53, 54, 55, 56, 57, 58, 59, 60, 61, 62, 63, 64, 65, 66, 67, 68, 69, 70, 71, 72, 73, 74, 75, 76, 77, 78, 79, 80, 81, 82, 83, 84, 85, 86, 87, 88, 89, 90, 91, 92, 93, 94, 95, 96, 97, 98, 99, 100, 101, 102, 103, 104, 105, 106, 107, 108, 109, 110, 111, 112, 113, 114, 115, 116, 117, 118, 119, 120, 121, 122, 123, 124, 125, 126, 127, 128, 129, 130, 131, 132, 133, 134, 135, 136, 137, 138, 139, 140, 141, 142, 143, 144, 145, 146, 147, 148, 149, 150, 151, 152] (by decide +kernel) (by decide +kernel)) (goodIn_sub (fun _ h => List.mem_cons_of_mem _ (List.mem_append_right _ h)) (by decide +kernel))
set_option maxRecDepth 20000 in
theorem gX2_fill_X2_fillValues : GoodIn wsX2_fill (wsV RX2 107 RX2 yX2_fillValues wsX2_fillValues) := goodIn_app (goodIn_of _ (by decide +kernel)) ggX2_fill_X2_fillValues
theorem dX2_fill_0 : decode cX2_fill 0 = .ok (.aload_n 0, 1) := by decide +kernel
theorem dX2_fill_1 : decode cX2_fill 1 = .ok (.iload_n 1, 1) := by decide +kernel
theorem dX2_fill_2 : decode cX2_fill 2 = .ok (.invokevirtual 54, 3) := by decide +kernel
theorem dX2_fill_5 : decode cX2_fill 5 = .ok (.astore 5, 2) := by decide +kernel
theorem dX2_fill_7 : decode cX2_fill 7 = .ok (.aload 5, 2) := by decide +kernel
theorem dX2_fill_9 : decode cX2_fill 9 = .ok (.iload_n 2, 1) := by decide +kernel
theorem dX2_fill_10 : decode cX2_fill 10 = .ok (.iload_n 3, 1) := by decide +kernel
theorem dX2_fill_11 : decode cX2_fill 11 = .ok (.invokestatic 66, 3) := by decide +kernel
theorem dX2_fill_14 : decode cX2_fill 14 = .ok (.aload_n 0, 1) := by decide +kernel
theorem dX2_fill_15 : decode cX2_fill 15 = .ok (.aload 5, 2) := by decide +kernel
theorem dX2_fill_17 : decode cX2_fill 17 = .ok (.iload_n 2, 1) := by decide +kernel
theorem dX2_fill_18 : decode cX2_fill 18 = .ok (.iload_n 3, 1) := by decide +kernel
theorem dX2_fill_19 : decode cX2_fill 19 = .ok (.iload 4, 2) := by decide +kernel
theorem dX2_fill_21 : decode cX2_fill 21 = .ok (.invokevirtual 107, 3) := by decide +kernel
theorem dX2_fill_24 : decode cX2_fill 24 = .ok (.return_, 1) := by decide +kernel
set_option maxRecDepth 20000 in
theorem ggX2_move_X2_arrayThere : GoodIn wsX2_move wsX2_arrayThere := goodIn_ca (goodIn_r _ [9, 1, 2, 10, 11, 12, 13, 8, 14, 15, 135, 136, 137, 138, 139, 131, 132, 133, 134] (by decide +kernel) (by decide +kernel)) (goodIn_sub (fun _ h => List.mem_cons_of_mem _ (List.mem_append_left _ (List.mem_append_right _ h))) (by decide +kernel))
set_option maxRecDepth 20000 in
theorem gX2_move_X2_arrayThere : GoodIn wsX2_move (wsV RX2 54 RX2 yX2_arrayThere wsX2_arrayThere) := goodIn_app (goodIn_of _ (by decide +kernel)) ggX2_move_X2_arrayThere
set_option maxRecDepth 20000 in
theorem ggX2_move_X2_checkRange : GoodIn wsX2_move wsX2_checkRange := goodIn_ca (goodIn_r _ [18, 1, 2, 3, 131, 132, 133, 134] (by decide +kernel) (by decide +kernel)) (goodIn_sub (fun _ h => List.mem_cons_of_mem _ (List.mem_append_left _ (List.mem_append_right _ h))) (by decide +kernel))
set_option maxRecDepth 20000 in
theorem gX2_move_X2_checkRange : GoodIn wsX2_move (va_wsS RX2 66 yX2_checkRange wsX2_checkRange) := goodIn_app (goodIn_of _ (by decide +kernel)) ggX2_move_X2_checkRange
set_option maxRecDepth 20000 in
theorem ggX2_move_X2_leavesFor : GoodIn wsX2_move wsX2_leavesFor := goodIn_r _ [21] (by decide +kernel) (by decide +kernel)
set_option maxRecDepth 20000 in
theorem gX2_move_X2_leavesFor : GoodIn wsX2_move (va_wsS RX2 113 yX2_leavesFor wsX2_leavesFor) := goodIn_app (goodIn_of _ (by decide +kernel)) ggX2_move_X2_leavesFor
set_option maxRecDepth 20000 in
theorem ggX2_move_X2_readLeaves : GoodIn wsX2_move wsX2_readLeaves := goodIn_r _ [25, 3, 26, 27, 28, 29, 4, 30, 31, 32, 8, 33, 34, 35, 36, 37, 38, 39, 19, 20, 21, 40, 41, 42, 43, 44, 45, 46, 47, 48, 49, 50, 51, 52, 53, 54, 55, 56, 57, 58, 59, 131, 132, 133, 134, 135, 136, 137, 138, 139, 140, 141, 142, 143, 144, 145, 146, 147, 148] (by decide +kernel) (by decide +kernel)
set_option maxRecDepth 20000 in
theorem gX2_move_X2_readLeaves : GoodIn wsX2_move (wsV RX2 117 RX2 yX2_readLeaves wsX2_readLeaves) := goodIn_app (goodIn_of _ (by decide +kernel)) ggX2_move_X2_readLeaves
set_option maxRecDepth 20000 in
theorem ggX2_move_X2_readValues : GoodIn wsX2_move wsX2_readValues := goodIn_r _ [33, 34, 35, 28, 36, 26, 27, 29, 37, 38, 39, 19, 20, 8, 21, 40, 41, 42, 43, 44, 45, 46, 47, 48, 49, 50, 51, 52, 53, 54, 55, 56, 57, 58, 59, 131, 132, 133, 134, 135, 136, 137, 138, 139, 140, 141, 142, 143, 144, 145, 146, 147, 148] (by decide +kernel) (by decide +kernel)
set_option maxRecDepth 20000 in
theorem gX2_move_X2_readValues : GoodIn wsX2_move (wsV RX2 70 RX2 yX2_readValues wsX2_readValues) := goodIn_app (goodIn_of _ (by decide +kernel)) ggX2_move_X2_readValues
set_option maxRecDepth 20000 in
theorem ggX2_move_X2_changeLeaves : GoodIn wsX2_move wsX2_changeLeaves := goodIn_ca (goodIn_r _ [63, 64, 65, 66, 67, 8, 68, 3, 37, 39, 69, 70, 71, 72, 38, 4, 73, 74, 75, 76, 77, 78, 79, 27, 28, 29, 80, 81, 82, 53, 83, 55, 84, 85, 86, 87, 26, 88, 89, 90, 91, 92, 93, 94, 95, 96, 97, 98, 99, 100, 101, 102, 103, 104, 105, 106, 107, 108, 109, 110, 111, 112, 113, 114, 115, 116, 117, 118, 119, 120, 121, 56, 57, 58, 59, 122, 123, 124, 125, 126, 127, 128, 129, 130, 135, 136, 137, 138, 139, 131, 132, 133, 134, 144, 145, 146, 147, 148] (by decide +kernel) (by decide +kernel)) (goodIn_sub (fun _ h => List.mem_cons_of_mem _ (List.mem_append_right _ h)) (by decide +kernel))
set_option maxRecDepth 20000 in
theorem gX2_move_X2_changeLeaves : GoodIn wsX2_move (wsV RX2 120 RX2 yX2_changeLeaves wsX2_changeLeaves) := goodIn_app (goodIn_of _ (by decide +kernel)) ggX2_move_X2_changeLeaves
theorem dX2_move_0 : decode cX2_move 0 = .ok (.aload_n 0, 1) := by decide +kernel
theorem dX2_move_1 : decode cX2_move 1 = .ok (.iload_n 1, 1) := by decide +kernel
theorem dX2_move_2 : decode cX2_move 2 = .ok (.invokevirtual 54, 3) := by decide +kernel
theorem dX2_move_5 : decode cX2_move 5 = .ok (.astore 5, 2) := by decide +kernel
theorem dX2_move_7 : decode cX2_move 7 = .ok (.aload 5, 2) := by decide +kernel
theorem dX2_move_9 : decode cX2_move 9 = .ok (.iload_n 2, 1) := by decide +kernel
theorem dX2_move_10 : decode cX2_move 10 = .ok (.iload_n 3, 1) := by decide +kernel
theorem dX2_move_11 : decode cX2_move 11 = .ok (.invokestatic 66, 3) := by decide +kernel
theorem dX2_move_14 : decode cX2_move 14 = .ok (.iload_n 3, 1) := by decide +kernel
theorem dX2_move_15 : decode cX2_move 15 = .ok (.iload_n 2, 1) := by decide +kernel
theorem dX2_move_16 : decode cX2_move 16 = .ok (.isub, 1) := by decide +kernel
theorem dX2_move_17 : decode cX2_move 17 = .ok (.istore 6, 2) := by decide +kernel
theorem dX2_move_19 : decode cX2_move 19 = .ok (.iload 4, 2) := by decide +kernel
theorem dX2_move_21 : decode cX2_move 21 = .ok (.ifCond .lt 16, 3) := by decide +kernel
theorem dX2_move_24 : decode cX2_move 24 = .ok (.iload 4, 2) := by decide +kernel
theorem dX2_move_26 : decode cX2_move 26 = .ok (.aload 5, 2) := by decide +kernel
theorem dX2_move_28 : decode cX2_move 28 = .ok (.getfield 58, 3) := by decide +kernel
theorem dX2_move_31 : decode cX2_move 31 = .ok (.iload 6, 2) := by decide +kernel
theorem dX2_move_33 : decode cX2_move 33 = .ok (.isub, 1) := by decide +kernel
theorem dX2_move_34 : decode cX2_move 34 = .ok (.if_icmp .le 13, 3) := by decide +kernel
theorem dX2_move_37 : decode cX2_move 37 = .ok (.new 33, 3) := by decide +kernel
theorem dX2_move_40 : decode cX2_move 40 = .ok (.dup, 1) := by decide +kernel
theorem dX2_move_41 : decode cX2_move 41 = .ok (.ldc 111, 2) := by decide +kernel
theorem dX2_move_43 : decode cX2_move 43 = .ok (.invokespecial 37, 3) := by decide +kernel
theorem dX2_move_46 : decode cX2_move 46 = .ok (.athrow, 1) := by decide +kernel
theorem dX2_move_47 : decode cX2_move 47 = .ok (.iload 4, 2) := by decide +kernel
theorem dX2_move_49 : decode cX2_move 49 = .ok (.bipush 16, 2) := by decide +kernel
theorem dX2_move_51 : decode cX2_move 51 = .ok (.idiv, 1) := by decide +kernel
theorem dX2_move_52 : decode cX2_move 52 = .ok (.istore 7, 2) := by decide +kernel
theorem dX2_move_54 : decode cX2_move 54 = .ok (.iload 4, 2) := by decide +kernel
theorem dX2_move_56 : decode cX2_move 56 = .ok (.iload 6, 2) := by decide +kernel
theorem dX2_move_58 : decode cX2_move 58 = .ok (.iadd, 1) := by decide +kernel
theorem dX2_move_59 : decode cX2_move 59 = .ok (.invokestatic 113, 3) := by decide +kernel
theorem dX2_move_62 : decode cX2_move 62 = .ok (.istore 8, 2) := by decide +kernel
theorem dX2_move_64 : decode cX2_move 64 = .ok (.aload_n 0, 1) := by decide +kernel
theorem dX2_move_65 : decode cX2_move 65 = .ok (.aload 5, 2) := by decide +kernel
theorem dX2_move_67 : decode cX2_move 67 = .ok (.iload 7, 2) := by decide +kernel
theorem dX2_move_69 : decode cX2_move 69 = .ok (.iload 8, 2) := by decide +kernel
theorem dX2_move_71 : decode cX2_move 71 = .ok (.invokevirtual 117, 3) := by decide +kernel
theorem dX2_move_74 : decode cX2_move 74 = .ok (.aload_n 0, 1) := by decide +kernel
theorem dX2_move_75 : decode cX2_move 75 = .ok (.aload 5, 2) := by decide +kernel
theorem dX2_move_77 : decode cX2_move 77 = .ok (.iload_n 2, 1) := by decide +kernel
theorem dX2_move_78 : decode cX2_move 78 = .ok (.iload_n 3, 1) := by decide +kernel
theorem dX2_move_79 : decode cX2_move 79 = .ok (.aload_n 0, 1) := by decide +kernel
theorem dX2_move_80 : decode cX2_move 80 = .ok (.getfield 22, 3) := by decide +kernel
theorem dX2_move_83 : decode cX2_move 83 = .ok (.iload 4, 2) := by decide +kernel
theorem dX2_move_85 : decode cX2_move 85 = .ok (.invokevirtual 70, 3) := by decide +kernel
theorem dX2_move_88 : decode cX2_move 88 = .ok (.aload_n 0, 1) := by decide +kernel
theorem dX2_move_89 : decode cX2_move 89 = .ok (.aload 5, 2) := by decide +kernel
theorem dX2_move_91 : decode cX2_move 91 = .ok (.iload 7, 2) := by decide +kernel
theorem dX2_move_93 : decode cX2_move 93 = .ok (.iload 8, 2) := by decide +kernel
theorem dX2_move_95 : decode cX2_move 95 = .ok (.invokevirtual 120, 3) := by decide +kernel
theorem dX2_move_98 : decode cX2_move 98 = .ok (.return_, 1) := by decide +kernel
set_option maxRecDepth 20000 in
theorem ggX2_sort_X2_arrayThere : GoodIn wsX2_sort wsX2_arrayThere := goodIn_ca (goodIn_r _ [7, 8, 9, 10, 11, 12, 13, 6, 14, 15, 142, 143, 144, 145, 146, 138, 139, 140, 141] (by decide +kernel) (by decide +kernel)) (goodIn_sub (fun _ h => List.mem_cons_of_mem _ (List.mem_append_left _ (List.mem_append_right _ h))) (by decide +kernel))
set_option maxRecDepth 20000 in
theorem gX2_sort_X2_arrayThere : GoodIn wsX2_sort (wsV RX2 54 RX2 yX2_arrayThere wsX2_arrayThere) := goodIn_app (goodIn_of _ (by decide +kernel)) ggX2_sort_X2_arrayThere
set_option maxRecDepth 20000 in
theorem ggX2_sort_X2_readValues : GoodIn wsX2_sort wsX2_readValues := goodIn_r _ [19, 20, 21, 22, 23, 24, 25, 26, 27, 28, 29, 30, 31, 6, 32, 33, 34, 35, 36, 37, 38, 39, 40, 41, 42, 43, 44, 45, 46, 47, 48, 49, 50, 51, 52, 138, 139, 140, 141, 142, 143, 144, 145, 146, 147, 148, 149, 150, 151, 152, 153, 154, 155] (by decide +kernel) (by decide +kernel)
set_option maxRecDepth 20000 in
theorem gX2_sort_X2_readValues : GoodIn wsX2_sort (wsV RX2 70 RX2 yX2_readValues wsX2_readValues) := goodIn_app (goodIn_of _ (by decide +kernel)) ggX2_sort_X2_readValues
set_option maxRecDepth 20000 in
theorem ggX2_sort_X2_sortNext : GoodIn wsX2_sort wsX2_sortNext := goodIn_r _ [56, 24, 25, 22, 26, 57, 58, 59, 6, 60, 2, 61, 62, 50, 51, 52, 142, 143, 144, 145, 146] (by decide +kernel) (by decide +kernel)
set_option maxRecDepth 20000 in
theorem gX2_sort_X2_sortNext : GoodIn wsX2_sort (wsV RX2 123 RX2 yX2_sortNext wsX2_sortNext) := goodIn_app (goodIn_of _ (by decide +kernel)) ggX2_sort_X2_sortNext
set_option maxRecDepth 20000 in
theorem ggX2_sort_X1_leafCount : GoodIn wsX2_sort wsX1_leafCount := goodIn_r _ [67, 68, 31, 6, 32, 138, 139, 140, 141] (by decide +kernel) (by decide +kernel)
set_option maxRecDepth 20000 in
theorem gX2_sort_X1_leafCount : GoodIn wsX2_sort (wsV RX2 48 RX1 yX1_leafCount wsX1_leafCount) := goodIn_app (goodIn_of _ (by decide +kernel)) ggX2_sort_X1_leafCount
set_option maxRecDepth 20000 in
theorem ggX2_sort_X2_changeLeaves : GoodIn wsX2_sort wsX2_changeLeaves := goodIn_ca (goodIn_r _ [72, 73, 74, 75, 76, 6, 77, 1, 27, 29, 78, 79, 80, 81, 28, 2, 82, 83, 84, 66, 85, 68, 86, 25, 22, 26, 87, 88, 89, 46, 90, 48, 91, 92, 93, 94, 24, 95, 96, 97, 98, 99, 100, 101, 102, 103, 104, 105, 106, 107, 108, 109, 110, 111, 112, 113, 114, 115, 116, 117, 118, 119, 120, 121, 122, 123, 124, 125, 126, 127, 128, 49, 50, 51, 52, 129, 130, 131, 132, 133, 134, 135, 136, 137, 142, 143, 144, 145, 146, 138, 139, 140, 141, 151, 152, 153, 154, 155] (by decide +kernel) (by decide +kernel)) (goodIn_sub (fun _ h => List.mem_cons_of_mem _ (List.mem_append_right _ h)) (by decide +kernel))
set_option maxRecDepth 20000 in
theorem gX2_sort_X2_changeLeaves : GoodIn wsX2_sort (wsV RX2 120 RX2 yX2_changeLeaves wsX2_changeLeaves) := goodIn_app (goodIn_of _ (by decide +kernel)) ggX2_sort_X2_changeLeaves
theorem dX2_sort_0 : decode cX2_sort 0 = .ok (.aload_n 0, 1) := by decide +kernel
theorem dX2_sort_1 : decode cX2_sort 1 = .ok (.iload_n 1, 1) := by decide +kernel
theorem dX2_sort_2 : decode cX2_sort 2 = .ok (.invokevirtual 54, 3) := by decide +kernel
theorem dX2_sort_5 : decode cX2_sort 5 = .ok (.astore_n 2, 1) := by decide +kernel
theorem dX2_sort_6 : decode cX2_sort 6 = .ok (.aload_n 0, 1) := by decide +kernel
theorem dX2_sort_7 : decode cX2_sort 7 = .ok (.aload_n 2, 1) := by decide +kernel
theorem dX2_sort_8 : decode cX2_sort 8 = .ok (.iconst 0, 1) := by decide +kernel
theorem dX2_sort_9 : decode cX2_sort 9 = .ok (.aload_n 2, 1) := by decide +kernel
theorem dX2_sort_10 : decode cX2_sort 10 = .ok (.getfield 58, 3) := by decide +kernel
theorem dX2_sort_13 : decode cX2_sort 13 = .ok (.aload_n 0, 1) := by decide +kernel
theorem dX2_sort_14 : decode cX2_sort 14 = .ok (.getfield 22, 3) := by decide +kernel
theorem dX2_sort_17 : decode cX2_sort 17 = .ok (.iconst 0, 1) := by decide +kernel
theorem dX2_sort_18 : decode cX2_sort 18 = .ok (.invokevirtual 70, 3) := by decide +kernel
theorem dX2_sort_21 : decode cX2_sort 21 = .ok (.aload_n 0, 1) := by decide +kernel
theorem dX2_sort_22 : decode cX2_sort 22 = .ok (.aload_n 2, 1) := by decide +kernel
theorem dX2_sort_23 : decode cX2_sort 23 = .ok (.getfield 58, 3) := by decide +kernel
theorem dX2_sort_26 : decode cX2_sort 26 = .ok (.invokevirtual 123, 3) := by decide +kernel
theorem dX2_sort_29 : decode cX2_sort 29 = .ok (.aload_n 0, 1) := by decide +kernel
theorem dX2_sort_30 : decode cX2_sort 30 = .ok (.aload_n 2, 1) := by decide +kernel
theorem dX2_sort_31 : decode cX2_sort 31 = .ok (.iconst 0, 1) := by decide +kernel
theorem dX2_sort_32 : decode cX2_sort 32 = .ok (.aload_n 2, 1) := by decide +kernel
theorem dX2_sort_33 : decode cX2_sort 33 = .ok (.invokevirtual 48, 3) := by decide +kernel
theorem dX2_sort_36 : decode cX2_sort 36 = .ok (.invokevirtual 120, 3) := by decide +kernel
theorem dX2_sort_39 : decode cX2_sort 39 = .ok (.return_, 1) := by decide +kernel
set_option maxRecDepth 20000 in
theorem ggX2_reverse_X2_arrayThere : GoodIn wsX2_reverse wsX2_arrayThere := goodIn_ca (goodIn_r _ [8, 9, 10, 11, 12, 13, 14, 7, 15, 16, 133, 134, 135, 136, 137, 129, 130, 131, 132] (by decide +kernel) (by decide +kernel)) (goodIn_sub (fun _ h => List.mem_cons_of_mem _ (List.mem_append_left _ (List.mem_append_right _ h))) (by decide +kernel))
set_option maxRecDepth 20000 in
theorem gX2_reverse_X2_arrayThere : GoodIn wsX2_reverse (wsV RX2 54 RX2 yX2_arrayThere wsX2_arrayThere) := goodIn_app (goodIn_of _ (by decide +kernel)) ggX2_reverse_X2_arrayThere
set_option maxRecDepth 20000 in
theorem ggX2_reverse_X2_readValues : GoodIn wsX2_reverse wsX2_readValues := goodIn_r _ [20, 21, 22, 23, 24, 25, 26, 27, 28, 29, 30, 31, 32, 7, 33, 34, 35, 36, 37, 38, 39, 40, 41, 42, 43, 44, 45, 46, 47, 48, 49, 50, 51, 52, 53, 129, 130, 131, 132, 133, 134, 135, 136, 137, 138, 139, 140, 141, 142, 143, 144, 145, 146] (by decide +kernel) (by decide +kernel)
set_option maxRecDepth 20000 in
theorem gX2_reverse_X2_readValues : GoodIn wsX2_reverse (wsV RX2 70 RX2 yX2_readValues wsX2_readValues) := goodIn_app (goodIn_of _ (by decide +kernel)) ggX2_reverse_X2_readValues
set_option maxRecDepth 20000 in
theorem ggX2_reverse_X1_leafCount : GoodIn wsX2_reverse wsX1_leafCount := goodIn_r _ [58, 59, 32, 7, 33, 129, 130, 131, 132] (by decide +kernel) (by decide +kernel)
set_option maxRecDepth 20000 in
theorem gX2_reverse_X1_leafCount : GoodIn wsX2_reverse (wsV RX2 48 RX1 yX1_leafCount wsX1_leafCount) := goodIn_app (goodIn_of _ (by decide +kernel)) ggX2_reverse_X1_leafCount
set_option maxRecDepth 20000 in
theorem ggX2_reverse_X2_changeLeaves : GoodIn wsX2_reverse wsX2_changeLeaves := goodIn_ca (goodIn_r _ [63, 64, 65, 66, 67, 7, 68, 1, 28, 30, 69, 70, 71, 72, 29, 3, 73, 74, 75, 57, 76, 59, 77, 26, 23, 27, 78, 79, 80, 47, 81, 49, 82, 83, 84, 85, 25, 86, 87, 88, 89, 90, 91, 92, 93, 94, 95, 96, 97, 98, 99, 100, 101, 102, 103, 104, 105, 106, 107, 108, 109, 110, 111, 112, 113, 114, 115, 116, 117, 118, 119, 50, 51, 52, 53, 120, 121, 122, 123, 124, 125, 126, 127, 128, 133, 134, 135, 136, 137, 129, 130, 131, 132, 142, 143, 144, 145, 146] (by decide +kernel) (by decide +kernel)) (goodIn_sub (fun _ h => List.mem_cons_of_mem _ (List.mem_append_right _ h)) (by decide +kernel))
set_option maxRecDepth 20000 in
theorem gX2_reverse_X2_changeLeaves : GoodIn wsX2_reverse (wsV RX2 120 RX2 yX2_changeLeaves wsX2_changeLeaves) := goodIn_app (goodIn_of _ (by decide +kernel)) ggX2_reverse_X2_changeLeaves
theorem dX2_reverse_0 : decode cX2_reverse 0 = .ok (.aload_n 0, 1) := by decide +kernel
theorem dX2_reverse_1 : decode cX2_reverse 1 = .ok (.iload_n 1, 1) := by decide +kernel
theorem dX2_reverse_2 : decode cX2_reverse 2 = .ok (.invokevirtual 54, 3) := by decide +kernel
theorem dX2_reverse_5 : decode cX2_reverse 5 = .ok (.astore_n 2, 1) := by decide +kernel
theorem dX2_reverse_6 : decode cX2_reverse 6 = .ok (.aload_n 0, 1) := by decide +kernel
theorem dX2_reverse_7 : decode cX2_reverse 7 = .ok (.aload_n 2, 1) := by decide +kernel
theorem dX2_reverse_8 : decode cX2_reverse 8 = .ok (.iconst 0, 1) := by decide +kernel
theorem dX2_reverse_9 : decode cX2_reverse 9 = .ok (.aload_n 2, 1) := by decide +kernel
theorem dX2_reverse_10 : decode cX2_reverse 10 = .ok (.getfield 58, 3) := by decide +kernel
theorem dX2_reverse_13 : decode cX2_reverse 13 = .ok (.aload_n 0, 1) := by decide +kernel
theorem dX2_reverse_14 : decode cX2_reverse 14 = .ok (.getfield 26, 3) := by decide +kernel
theorem dX2_reverse_17 : decode cX2_reverse 17 = .ok (.iconst 0, 1) := by decide +kernel
theorem dX2_reverse_18 : decode cX2_reverse 18 = .ok (.invokevirtual 70, 3) := by decide +kernel
theorem dX2_reverse_21 : decode cX2_reverse 21 = .ok (.iconst 0, 1) := by decide +kernel
theorem dX2_reverse_22 : decode cX2_reverse 22 = .ok (.istore_n 3, 1) := by decide +kernel
theorem dX2_reverse_23 : decode cX2_reverse 23 = .ok (.iload_n 3, 1) := by decide +kernel
theorem dX2_reverse_24 : decode cX2_reverse 24 = .ok (.aload_n 2, 1) := by decide +kernel
theorem dX2_reverse_25 : decode cX2_reverse 25 = .ok (.getfield 58, 3) := by decide +kernel
theorem dX2_reverse_28 : decode cX2_reverse 28 = .ok (.if_icmp .ge 28, 3) := by decide +kernel
theorem dX2_reverse_31 : decode cX2_reverse 31 = .ok (.aload_n 0, 1) := by decide +kernel
theorem dX2_reverse_32 : decode cX2_reverse 32 = .ok (.getfield 22, 3) := by decide +kernel
theorem dX2_reverse_35 : decode cX2_reverse 35 = .ok (.iload_n 3, 1) := by decide +kernel
theorem dX2_reverse_36 : decode cX2_reverse 36 = .ok (.aload_n 0, 1) := by decide +kernel
theorem dX2_reverse_37 : decode cX2_reverse 37 = .ok (.getfield 26, 3) := by decide +kernel
theorem dX2_reverse_40 : decode cX2_reverse 40 = .ok (.aload_n 2, 1) := by decide +kernel
theorem dX2_reverse_41 : decode cX2_reverse 41 = .ok (.getfield 58, 3) := by decide +kernel
theorem dX2_reverse_44 : decode cX2_reverse 44 = .ok (.iconst 1, 1) := by decide +kernel
theorem dX2_reverse_45 : decode cX2_reverse 45 = .ok (.isub, 1) := by decide +kernel
theorem dX2_reverse_46 : decode cX2_reverse 46 = .ok (.iload_n 3, 1) := by decide +kernel
theorem dX2_reverse_47 : decode cX2_reverse 47 = .ok (.isub, 1) := by decide +kernel
theorem dX2_reverse_48 : decode cX2_reverse 48 = .ok (.iaload, 1) := by decide +kernel
theorem dX2_reverse_49 : decode cX2_reverse 49 = .ok (.iastore, 1) := by decide +kernel
theorem dX2_reverse_50 : decode cX2_reverse 50 = .ok (.iinc 3 1, 3) := by decide +kernel
theorem dX2_reverse_53 : decode cX2_reverse 53 = .ok (.goto (-30), 3) := by decide +kernel
theorem dX2_reverse_56 : decode cX2_reverse 56 = .ok (.aload_n 0, 1) := by decide +kernel
theorem dX2_reverse_57 : decode cX2_reverse 57 = .ok (.aload_n 2, 1) := by decide +kernel
theorem dX2_reverse_58 : decode cX2_reverse 58 = .ok (.iconst 0, 1) := by decide +kernel
theorem dX2_reverse_59 : decode cX2_reverse 59 = .ok (.aload_n 2, 1) := by decide +kernel
theorem dX2_reverse_60 : decode cX2_reverse 60 = .ok (.invokevirtual 48, 3) := by decide +kernel
theorem dX2_reverse_63 : decode cX2_reverse 63 = .ok (.invokevirtual 120, 3) := by decide +kernel
theorem dX2_reverse_66 : decode cX2_reverse 66 = .ok (.return_, 1) := by decide +kernel
set_option maxRecDepth 20000 in
theorem ggX2_length_X2_isThere : GoodIn wsX2_length wsX2_isThere := goodIn_r _ [7, 1, 8, 9, 10, 11, 12, 13, 14, 15, 16, 17] (by decide +kernel) (by decide +kernel)
set_option maxRecDepth 20000 in
theorem gX2_length_X2_isThere : GoodIn wsX2_length (wsV RX2 87 RX2 yX2_isThere wsX2_isThere) := goodIn_app (goodIn_of _ (by decide +kernel)) ggX2_length_X2_isThere
theorem dX2_length_0 : decode cX2_length 0 = .ok (.aload_n 0, 1) := by decide +kernel
theorem dX2_length_1 : decode cX2_length 1 = .ok (.iload_n 1, 1) := by decide +kernel
theorem dX2_length_2 : decode cX2_length 2 = .ok (.invokevirtual 87, 3) := by decide +kernel
theorem dX2_length_5 : decode cX2_length 5 = .ok (.ifCond .eq 15, 3) := by decide +kernel
theorem dX2_length_8 : decode cX2_length 8 = .ok (.aload_n 0, 1) := by decide +kernel
theorem dX2_length_9 : decode cX2_length 9 = .ok (.getfield 11, 3) := by decide +kernel
theorem dX2_length_12 : decode cX2_length 12 = .ok (.iload_n 1, 1) := by decide +kernel
theorem dX2_length_13 : decode cX2_length 13 = .ok (.aaload, 1) := by decide +kernel
theorem dX2_length_14 : decode cX2_length 14 = .ok (.getfield 58, 3) := by decide +kernel
theorem dX2_length_17 : decode cX2_length 17 = .ok (.goto 4, 3) := by decide +kernel
theorem dX2_length_20 : decode cX2_length 20 = .ok (.iconst (-1), 1) := by decide +kernel
theorem dX2_length_21 : decode cX2_length 21 = .ok (.ireturn, 1) := by decide +kernel
set_option maxRecDepth 20000 in
theorem ggX2_sum_X2_arrayThere : GoodIn wsX2_sum wsX2_arrayThere := goodIn_ca (goodIn_r _ [6, 7, 8, 9, 10, 11, 12, 5, 13, 14, 56, 57, 58, 59, 60, 61, 62, 63, 64] (by decide +kernel) (by decide +kernel)) (goodIn_sub (fun _ h => List.mem_cons_of_mem _ (List.mem_append_right _ h)) (by decide +kernel))
set_option maxRecDepth 20000 in
theorem gX2_sum_X2_arrayThere : GoodIn wsX2_sum (wsV RX2 54 RX2 yX2_arrayThere wsX2_arrayThere) := goodIn_app (goodIn_of _ (by decide +kernel)) ggX2_sum_X2_arrayThere
set_option maxRecDepth 20000 in
theorem ggX2_sum_X2_checkRange : GoodIn wsX2_sum wsX2_checkRange := goodIn_ca (goodIn_r _ [17, 7, 8, 18, 61, 62, 63, 64] (by decide +kernel) (by decide +kernel)) (goodIn_sub (fun _ h => List.mem_cons_of_mem _ (List.mem_append_right _ h)) (by decide +kernel))
set_option maxRecDepth 20000 in
theorem gX2_sum_X2_checkRange : GoodIn wsX2_sum (va_wsS RX2 66 yX2_checkRange wsX2_checkRange) := goodIn_app (goodIn_of _ (by decide +kernel)) ggX2_sum_X2_checkRange
set_option maxRecDepth 20000 in
theorem ggX2_sum_X2_readValues : GoodIn wsX2_sum wsX2_readValues := goodIn_r _ [22, 23, 24, 25, 26, 27, 28, 29, 30, 31, 32, 33, 34, 5, 35, 36, 37, 38, 39, 40, 41, 42, 43, 44, 45, 46, 47, 48, 49, 50, 51, 52, 53, 54, 55, 61, 62, 63, 64, 56, 57, 58, 59, 60, 65, 66, 67, 68, 69, 70, 71, 72, 73] (by decide +kernel) (by decide +kernel)
set_option maxRecDepth 20000 in
theorem gX2_sum_X2_readValues : GoodIn wsX2_sum (wsV RX2 70 RX2 yX2_readValues wsX2_readValues) := goodIn_app (goodIn_of _ (by decide +kernel)) ggX2_sum_X2_readValues
theorem dX2_sum_0 : decode cX2_sum 0 = .ok (.aload_n 0, 1) := by decide +kernel
theorem dX2_sum_1 : decode cX2_sum 1 = .ok (.iload_n 1, 1) := by decide +kernel
theorem dX2_sum_2 : decode cX2_sum 2 = .ok (.invokevirtual 54, 3) := by decide +kernel
theorem dX2_sum_5 : decode cX2_sum 5 = .ok (.astore 4, 2) := by decide +kernel
theorem dX2_sum_7 : decode cX2_sum 7 = .ok (.aload 4, 2) := by decide +kernel
theorem dX2_sum_9 : decode cX2_sum 9 = .ok (.iload_n 2, 1) := by decide +kernel
theorem dX2_sum_10 : decode cX2_sum 10 = .ok (.iload_n 3, 1) := by decide +kernel
theorem dX2_sum_11 : decode cX2_sum 11 = .ok (.invokestatic 66, 3) := by decide +kernel
theorem dX2_sum_14 : decode cX2_sum 14 = .ok (.aload_n 0, 1) := by decide +kernel
theorem dX2_sum_15 : decode cX2_sum 15 = .ok (.aload 4, 2) := by decide +kernel
theorem dX2_sum_17 : decode cX2_sum 17 = .ok (.iload_n 2, 1) := by decide +kernel
theorem dX2_sum_18 : decode cX2_sum 18 = .ok (.iload_n 3, 1) := by decide +kernel
theorem dX2_sum_19 : decode cX2_sum 19 = .ok (.aload_n 0, 1) := by decide +kernel
theorem dX2_sum_20 : decode cX2_sum 20 = .ok (.getfield 22, 3) := by decide +kernel
theorem dX2_sum_23 : decode cX2_sum 23 = .ok (.iload_n 2, 1) := by decide +kernel
theorem dX2_sum_24 : decode cX2_sum 24 = .ok (.invokevirtual 70, 3) := by decide +kernel
theorem dX2_sum_27 : decode cX2_sum 27 = .ok (.lconst 0, 1) := by decide +kernel
theorem dX2_sum_28 : decode cX2_sum 28 = .ok (.lstore 5, 2) := by decide +kernel
theorem dX2_sum_30 : decode cX2_sum 30 = .ok (.iload_n 2, 1) := by decide +kernel
theorem dX2_sum_31 : decode cX2_sum 31 = .ok (.istore 7, 2) := by decide +kernel
theorem dX2_sum_33 : decode cX2_sum 33 = .ok (.iload 7, 2) := by decide +kernel
theorem dX2_sum_35 : decode cX2_sum 35 = .ok (.iload_n 3, 1) := by decide +kernel
theorem dX2_sum_36 : decode cX2_sum 36 = .ok (.if_icmp .ge 22, 3) := by decide +kernel
theorem dX2_sum_39 : decode cX2_sum 39 = .ok (.lload 5, 2) := by decide +kernel
theorem dX2_sum_41 : decode cX2_sum 41 = .ok (.aload_n 0, 1) := by decide +kernel
theorem dX2_sum_42 : decode cX2_sum 42 = .ok (.getfield 22, 3) := by decide +kernel
theorem dX2_sum_45 : decode cX2_sum 45 = .ok (.iload 7, 2) := by decide +kernel
theorem dX2_sum_47 : decode cX2_sum 47 = .ok (.iaload, 1) := by decide +kernel
theorem dX2_sum_48 : decode cX2_sum 48 = .ok (.i2l, 1) := by decide +kernel
theorem dX2_sum_49 : decode cX2_sum 49 = .ok (.ladd, 1) := by decide +kernel
theorem dX2_sum_50 : decode cX2_sum 50 = .ok (.lstore 5, 2) := by decide +kernel
theorem dX2_sum_52 : decode cX2_sum 52 = .ok (.iinc 7 1, 3) := by decide +kernel
theorem dX2_sum_55 : decode cX2_sum 55 = .ok (.goto (-22), 3) := by decide +kernel
theorem dX2_sum_58 : decode cX2_sum 58 = .ok (.lload 5, 2) := by decide +kernel
theorem dX2_sum_60 : decode cX2_sum 60 = .ok (.lreturn, 1) := by decide +kernel
set_option maxRecDepth 20000 in
theorem ggX2_bound_X2_arrayThere : GoodIn wsX2_bound wsX2_arrayThere := goodIn_ca (goodIn_r _ [17, 1, 2, 18, 19, 20, 21, 16, 22, 23, 58, 59, 60, 61, 62, 63, 64, 65, 66] (by decide +kernel) (by decide +kernel)) (goodIn_sub (fun _ h => List.mem_cons_of_mem _ (List.mem_append_right _ h)) (by decide +kernel))
set_option maxRecDepth 20000 in
theorem gX2_bound_X2_arrayThere : GoodIn wsX2_bound (wsV RX2 54 RX2 yX2_arrayThere wsX2_arrayThere) := goodIn_app (goodIn_of _ (by decide +kernel)) ggX2_bound_X2_arrayThere
set_option maxRecDepth 20000 in
theorem ggX2_bound_X2_checkRange : GoodIn wsX2_bound wsX2_checkRange := goodIn_ca (goodIn_r _ [26, 1, 2, 27, 63, 64, 65, 66] (by decide +kernel) (by decide +kernel)) (goodIn_sub (fun _ h => List.mem_cons_of_mem _ (List.mem_append_right _ h)) (by decide +kernel))
set_option maxRecDepth 20000 in
theorem gX2_bound_X2_checkRange : GoodIn wsX2_bound (va_wsS RX2 66 yX2_checkRange wsX2_checkRange) := goodIn_app (goodIn_of _ (by decide +kernel)) ggX2_bound_X2_checkRange
set_option maxRecDepth 20000 in
theorem ggX2_bound_X2_readValues : GoodIn wsX2_bound wsX2_readValues := goodIn_r _ [31, 10, 11, 8, 12, 6, 7, 9, 32, 33, 34, 35, 36, 16, 37, 38, 39, 40, 41, 42, 43, 44, 45, 46, 47, 48, 49, 50, 51, 52, 53, 54, 55, 56, 57, 63, 64, 65, 66, 58, 59, 60, 61, 62, 67, 68, 69, 70, 71, 72, 73, 74, 75] (by decide +kernel) (by decide +kernel)
set_option maxRecDepth 20000 in
theorem gX2_bound_X2_readValues : GoodIn wsX2_bound (wsV RX2 70 RX2 yX2_readValues wsX2_readValues) := goodIn_app (goodIn_of _ (by decide +kernel)) ggX2_bound_X2_readValues
theorem dX2_bound_0 : decode cX2_bound 0 = .ok (.aload_n 0, 1) := by decide +kernel
theorem dX2_bound_1 : decode cX2_bound 1 = .ok (.iload_n 1, 1) := by decide +kernel
theorem dX2_bound_2 : decode cX2_bound 2 = .ok (.invokevirtual 54, 3) := by decide +kernel
theorem dX2_bound_5 : decode cX2_bound 5 = .ok (.astore 5, 2) := by decide +kernel
theorem dX2_bound_7 : decode cX2_bound 7 = .ok (.aload 5, 2) := by decide +kernel
theorem dX2_bound_9 : decode cX2_bound 9 = .ok (.iload_n 2, 1) := by decide +kernel
theorem dX2_bound_10 : decode cX2_bound 10 = .ok (.iload_n 3, 1) := by decide +kernel
theorem dX2_bound_11 : decode cX2_bound 11 = .ok (.invokestatic 66, 3) := by decide +kernel
theorem dX2_bound_14 : decode cX2_bound 14 = .ok (.iload 4, 2) := by decide +kernel
theorem dX2_bound_16 : decode cX2_bound 16 = .ok (.ifCond .eq 19, 3) := by decide +kernel
theorem dX2_bound_19 : decode cX2_bound 19 = .ok (.iload 4, 2) := by decide +kernel
theorem dX2_bound_21 : decode cX2_bound 21 = .ok (.iconst 1, 1) := by decide +kernel
theorem dX2_bound_22 : decode cX2_bound 22 = .ok (.if_icmp .eq 13, 3) := by decide +kernel
theorem dX2_bound_25 : decode cX2_bound 25 = .ok (.new 33, 3) := by decide +kernel
theorem dX2_bound_28 : decode cX2_bound 28 = .ok (.dup, 1) := by decide +kernel
theorem dX2_bound_29 : decode cX2_bound 29 = .ok (.ldc 126, 2) := by decide +kernel
theorem dX2_bound_31 : decode cX2_bound 31 = .ok (.invokespecial 37, 3) := by decide +kernel
theorem dX2_bound_34 : decode cX2_bound 34 = .ok (.athrow, 1) := by decide +kernel
theorem dX2_bound_35 : decode cX2_bound 35 = .ok (.aload_n 0, 1) := by decide +kernel
theorem dX2_bound_36 : decode cX2_bound 36 = .ok (.aload 5, 2) := by decide +kernel
theorem dX2_bound_38 : decode cX2_bound 38 = .ok (.iload_n 2, 1) := by decide +kernel
theorem dX2_bound_39 : decode cX2_bound 39 = .ok (.iload_n 3, 1) := by decide +kernel
theorem dX2_bound_40 : decode cX2_bound 40 = .ok (.aload_n 0, 1) := by decide +kernel
theorem dX2_bound_41 : decode cX2_bound 41 = .ok (.getfield 22, 3) := by decide +kernel
theorem dX2_bound_44 : decode cX2_bound 44 = .ok (.iload_n 2, 1) := by decide +kernel
theorem dX2_bound_45 : decode cX2_bound 45 = .ok (.invokevirtual 70, 3) := by decide +kernel
theorem dX2_bound_48 : decode cX2_bound 48 = .ok (.iload 4, 2) := by decide +kernel
theorem dX2_bound_50 : decode cX2_bound 50 = .ok (.ifCond .ne 8, 3) := by decide +kernel
theorem dX2_bound_53 : decode cX2_bound 53 = .ok (.ldc 128, 2) := by decide +kernel
theorem dX2_bound_55 : decode cX2_bound 55 = .ok (.goto 5, 3) := by decide +kernel
theorem dX2_bound_58 : decode cX2_bound 58 = .ok (.ldc 129, 2) := by decide +kernel
theorem dX2_bound_60 : decode cX2_bound 60 = .ok (.istore 6, 2) := by decide +kernel
theorem dX2_bound_62 : decode cX2_bound 62 = .ok (.iload_n 2, 1) := by decide +kernel
theorem dX2_bound_63 : decode cX2_bound 63 = .ok (.istore 7, 2) := by decide +kernel
theorem dX2_bound_65 : decode cX2_bound 65 = .ok (.iload 7, 2) := by decide +kernel
theorem dX2_bound_67 : decode cX2_bound 67 = .ok (.iload_n 3, 1) := by decide +kernel
theorem dX2_bound_68 : decode cX2_bound 68 = .ok (.if_icmp .ge 43, 3) := by decide +kernel
theorem dX2_bound_71 : decode cX2_bound 71 = .ok (.iload 4, 2) := by decide +kernel
theorem dX2_bound_73 : decode cX2_bound 73 = .ok (.ifCond .ne 18, 3) := by decide +kernel
theorem dX2_bound_76 : decode cX2_bound 76 = .ok (.iload 6, 2) := by decide +kernel
theorem dX2_bound_78 : decode cX2_bound 78 = .ok (.aload_n 0, 1) := by decide +kernel
theorem dX2_bound_79 : decode cX2_bound 79 = .ok (.getfield 22, 3) := by decide +kernel
theorem dX2_bound_82 : decode cX2_bound 82 = .ok (.iload 7, 2) := by decide +kernel
theorem dX2_bound_84 : decode cX2_bound 84 = .ok (.iaload, 1) := by decide +kernel
theorem dX2_bound_85 : decode cX2_bound 85 = .ok (.invokestatic 130, 3) := by decide +kernel
theorem dX2_bound_88 : decode cX2_bound 88 = .ok (.goto 15, 3) := by decide +kernel
theorem dX2_bound_91 : decode cX2_bound 91 = .ok (.iload 6, 2) := by decide +kernel
theorem dX2_bound_93 : decode cX2_bound 93 = .ok (.aload_n 0, 1) := by decide +kernel
theorem dX2_bound_94 : decode cX2_bound 94 = .ok (.getfield 22, 3) := by decide +kernel
theorem dX2_bound_97 : decode cX2_bound 97 = .ok (.iload 7, 2) := by decide +kernel
theorem dX2_bound_99 : decode cX2_bound 99 = .ok (.iaload, 1) := by decide +kernel
theorem dX2_bound_100 : decode cX2_bound 100 = .ok (.invokestatic 135, 3) := by decide +kernel
theorem dX2_bound_103 : decode cX2_bound 103 = .ok (.istore 6, 2) := by decide +kernel
theorem dX2_bound_105 : decode cX2_bound 105 = .ok (.iinc 7 1, 3) := by decide +kernel
theorem dX2_bound_108 : decode cX2_bound 108 = .ok (.goto (-43), 3) := by decide +kernel
theorem dX2_bound_111 : decode cX2_bound 111 = .ok (.iload 6, 2) := by decide +kernel
theorem dX2_bound_113 : decode cX2_bound 113 = .ok (.ireturn, 1) := by decide +kernel
set_option maxRecDepth 20000 in
theorem ggX2_find_X2_arrayThere : GoodIn wsX2_find wsX2_arrayThere := goodIn_ca (goodIn_r _ [7, 8, 9, 10, 11, 12, 13, 6, 14, 15, 60, 61, 62, 63, 64, 56, 57, 58, 59] (by decide +kernel) (by decide +kernel)) (goodIn_sub (fun _ h => List.mem_cons_of_mem _ (List.mem_append_right _ h)) (by decide +kernel))
set_option maxRecDepth 20000 in
theorem gX2_find_X2_arrayThere : GoodIn wsX2_find (wsV RX2 54 RX2 yX2_arrayThere wsX2_arrayThere) := goodIn_app (goodIn_of _ (by decide +kernel)) ggX2_find_X2_arrayThere
set_option maxRecDepth 20000 in
theorem ggX2_find_X2_checkRange : GoodIn wsX2_find wsX2_checkRange := goodIn_ca (goodIn_r _ [18, 8, 9, 1, 56, 57, 58, 59] (by decide +kernel) (by decide +kernel)) (goodIn_sub (fun _ h => List.mem_cons_of_mem _ (List.mem_append_right _ h)) (by decide +kernel))
set_option maxRecDepth 20000 in
theorem gX2_find_X2_checkRange : GoodIn wsX2_find (va_wsS RX2 66 yX2_checkRange wsX2_checkRange) := goodIn_app (goodIn_of _ (by decide +kernel)) ggX2_find_X2_checkRange
set_option maxRecDepth 20000 in
theorem ggX2_find_X2_readValues : GoodIn wsX2_find wsX2_readValues := goodIn_r _ [22, 23, 24, 25, 26, 27, 28, 29, 30, 31, 32, 33, 34, 6, 35, 36, 37, 38, 39, 40, 41, 42, 43, 44, 45, 46, 47, 48, 49, 50, 51, 52, 53, 54, 55, 56, 57, 58, 59, 60, 61, 62, 63, 64, 65, 66, 67, 68, 69, 70, 71, 72, 73] (by decide +kernel) (by decide +kernel)
set_option maxRecDepth 20000 in
theorem gX2_find_X2_readValues : GoodIn wsX2_find (wsV RX2 70 RX2 yX2_readValues wsX2_readValues) := goodIn_app (goodIn_of _ (by decide +kernel)) ggX2_find_X2_readValues
theorem dX2_find_0 : decode cX2_find 0 = .ok (.aload_n 0, 1) := by decide +kernel
theorem dX2_find_1 : decode cX2_find 1 = .ok (.iload_n 1, 1) := by decide +kernel
theorem dX2_find_2 : decode cX2_find 2 = .ok (.invokevirtual 54, 3) := by decide +kernel
theorem dX2_find_5 : decode cX2_find 5 = .ok (.astore 4, 2) := by decide +kernel
theorem dX2_find_7 : decode cX2_find 7 = .ok (.aload 4, 2) := by decide +kernel
theorem dX2_find_9 : decode cX2_find 9 = .ok (.iload_n 2, 1) := by decide +kernel
theorem dX2_find_10 : decode cX2_find 10 = .ok (.aload 4, 2) := by decide +kernel
theorem dX2_find_12 : decode cX2_find 12 = .ok (.getfield 58, 3) := by decide +kernel
theorem dX2_find_15 : decode cX2_find 15 = .ok (.invokestatic 66, 3) := by decide +kernel
theorem dX2_find_18 : decode cX2_find 18 = .ok (.aload_n 0, 1) := by decide +kernel
theorem dX2_find_19 : decode cX2_find 19 = .ok (.aload 4, 2) := by decide +kernel
theorem dX2_find_21 : decode cX2_find 21 = .ok (.iload_n 2, 1) := by decide +kernel
theorem dX2_find_22 : decode cX2_find 22 = .ok (.aload 4, 2) := by decide +kernel
theorem dX2_find_24 : decode cX2_find 24 = .ok (.getfield 58, 3) := by decide +kernel
theorem dX2_find_27 : decode cX2_find 27 = .ok (.aload_n 0, 1) := by decide +kernel
theorem dX2_find_28 : decode cX2_find 28 = .ok (.getfield 22, 3) := by decide +kernel
theorem dX2_find_31 : decode cX2_find 31 = .ok (.iload_n 2, 1) := by decide +kernel
theorem dX2_find_32 : decode cX2_find 32 = .ok (.invokevirtual 70, 3) := by decide +kernel
theorem dX2_find_35 : decode cX2_find 35 = .ok (.iload_n 2, 1) := by decide +kernel
theorem dX2_find_36 : decode cX2_find 36 = .ok (.istore 5, 2) := by decide +kernel
theorem dX2_find_38 : decode cX2_find 38 = .ok (.iload 5, 2) := by decide +kernel
theorem dX2_find_40 : decode cX2_find 40 = .ok (.aload 4, 2) := by decide +kernel
theorem dX2_find_42 : decode cX2_find 42 = .ok (.getfield 58, 3) := by decide +kernel
theorem dX2_find_45 : decode cX2_find 45 = .ok (.if_icmp .ge 23, 3) := by decide +kernel
theorem dX2_find_48 : decode cX2_find 48 = .ok (.aload_n 0, 1) := by decide +kernel
theorem dX2_find_49 : decode cX2_find 49 = .ok (.getfield 22, 3) := by decide +kernel
theorem dX2_find_52 : decode cX2_find 52 = .ok (.iload 5, 2) := by decide +kernel
theorem dX2_find_54 : decode cX2_find 54 = .ok (.iaload, 1) := by decide +kernel
theorem dX2_find_55 : decode cX2_find 55 = .ok (.iload_n 3, 1) := by decide +kernel
theorem dX2_find_56 : decode cX2_find 56 = .ok (.if_icmp .ne 6, 3) := by decide +kernel
theorem dX2_find_59 : decode cX2_find 59 = .ok (.iload 5, 2) := by decide +kernel
theorem dX2_find_61 : decode cX2_find 61 = .ok (.ireturn, 1) := by decide +kernel
theorem dX2_find_62 : decode cX2_find 62 = .ok (.iinc 5 1, 3) := by decide +kernel
theorem dX2_find_65 : decode cX2_find 65 = .ok (.goto (-27), 3) := by decide +kernel
theorem dX2_find_68 : decode cX2_find 68 = .ok (.iconst (-1), 1) := by decide +kernel
theorem dX2_find_69 : decode cX2_find 69 = .ok (.ireturn, 1) := by decide +kernel
set_option maxRecDepth 20000 in
theorem ggX2_difference_X2_arrayThere : GoodIn wsX2_difference wsX2_arrayThere := goodIn_ca (goodIn_r _ [12, 13, 14, 15, 16, 17, 18, 11, 19, 20, 58, 59, 60, 61, 62, 54, 55, 56, 57] (by decide +kernel) (by decide +kernel)) (goodIn_sub (fun _ h => List.mem_cons_of_mem _ (List.mem_append_right _ h)) (by decide +kernel))
set_option maxRecDepth 20000 in
theorem gX2_difference_X2_arrayThere : GoodIn wsX2_difference (wsV RX2 54 RX2 yX2_arrayThere wsX2_arrayThere) := goodIn_app (goodIn_of _ (by decide +kernel)) ggX2_difference_X2_arrayThere
set_option maxRecDepth 20000 in
theorem ggX2_difference_X2_readValues : GoodIn wsX2_difference wsX2_readValues := goodIn_r _ [24, 25, 26, 6, 27, 4, 5, 7, 28, 29, 30, 31, 32, 11, 33, 34, 35, 36, 37, 38, 39, 40, 41, 42, 43, 44, 45, 46, 47, 48, 49, 50, 51, 52, 53, 54, 55, 56, 57, 58, 59, 60, 61, 62, 63, 64, 65, 66, 67, 68, 69, 70, 71] (by decide +kernel) (by decide +kernel)
set_option maxRecDepth 20000 in
theorem gX2_difference_X2_readValues : GoodIn wsX2_difference (wsV RX2 70 RX2 yX2_readValues wsX2_readValues) := goodIn_app (goodIn_of _ (by decide +kernel)) ggX2_difference_X2_readValues
theorem dX2_difference_0 : decode cX2_difference 0 = .ok (.aload_n 0, 1) := by decide +kernel
theorem dX2_difference_1 : decode cX2_difference 1 = .ok (.iload_n 1, 1) := by decide +kernel
theorem dX2_difference_2 : decode cX2_difference 2 = .ok (.invokevirtual 54, 3) := by decide +kernel
theorem dX2_difference_5 : decode cX2_difference 5 = .ok (.astore_n 3, 1) := by decide +kernel
theorem dX2_difference_6 : decode cX2_difference 6 = .ok (.aload_n 0, 1) := by decide +kernel
theorem dX2_difference_7 : decode cX2_difference 7 = .ok (.iload_n 2, 1) := by decide +kernel
theorem dX2_difference_8 : decode cX2_difference 8 = .ok (.invokevirtual 54, 3) := by decide +kernel
theorem dX2_difference_11 : decode cX2_difference 11 = .ok (.astore 4, 2) := by decide +kernel
theorem dX2_difference_13 : decode cX2_difference 13 = .ok (.aload_n 0, 1) := by decide +kernel
theorem dX2_difference_14 : decode cX2_difference 14 = .ok (.aload_n 3, 1) := by decide +kernel
theorem dX2_difference_15 : decode cX2_difference 15 = .ok (.iconst 0, 1) := by decide +kernel
theorem dX2_difference_16 : decode cX2_difference 16 = .ok (.aload_n 3, 1) := by decide +kernel
theorem dX2_difference_17 : decode cX2_difference 17 = .ok (.getfield 58, 3) := by decide +kernel
theorem dX2_difference_20 : decode cX2_difference 20 = .ok (.aload_n 0, 1) := by decide +kernel
theorem dX2_difference_21 : decode cX2_difference 21 = .ok (.getfield 22, 3) := by decide +kernel
theorem dX2_difference_24 : decode cX2_difference 24 = .ok (.iconst 0, 1) := by decide +kernel
theorem dX2_difference_25 : decode cX2_difference 25 = .ok (.invokevirtual 70, 3) := by decide +kernel
theorem dX2_difference_28 : decode cX2_difference 28 = .ok (.aload_n 0, 1) := by decide +kernel
theorem dX2_difference_29 : decode cX2_difference 29 = .ok (.aload 4, 2) := by decide +kernel
theorem dX2_difference_31 : decode cX2_difference 31 = .ok (.iconst 0, 1) := by decide +kernel
theorem dX2_difference_32 : decode cX2_difference 32 = .ok (.aload 4, 2) := by decide +kernel
theorem dX2_difference_34 : decode cX2_difference 34 = .ok (.getfield 58, 3) := by decide +kernel
theorem dX2_difference_37 : decode cX2_difference 37 = .ok (.aload_n 0, 1) := by decide +kernel
theorem dX2_difference_38 : decode cX2_difference 38 = .ok (.getfield 26, 3) := by decide +kernel
theorem dX2_difference_41 : decode cX2_difference 41 = .ok (.iconst 0, 1) := by decide +kernel
theorem dX2_difference_42 : decode cX2_difference 42 = .ok (.invokevirtual 70, 3) := by decide +kernel
theorem dX2_difference_45 : decode cX2_difference 45 = .ok (.aload_n 3, 1) := by decide +kernel
theorem dX2_difference_46 : decode cX2_difference 46 = .ok (.getfield 58, 3) := by decide +kernel
theorem dX2_difference_49 : decode cX2_difference 49 = .ok (.aload 4, 2) := by decide +kernel
theorem dX2_difference_51 : decode cX2_difference 51 = .ok (.getfield 58, 3) := by decide +kernel
theorem dX2_difference_54 : decode cX2_difference 54 = .ok (.invokestatic 130, 3) := by decide +kernel
theorem dX2_difference_57 : decode cX2_difference 57 = .ok (.istore 5, 2) := by decide +kernel
theorem dX2_difference_59 : decode cX2_difference 59 = .ok (.iconst 0, 1) := by decide +kernel
theorem dX2_difference_60 : decode cX2_difference 60 = .ok (.istore 6, 2) := by decide +kernel
theorem dX2_difference_62 : decode cX2_difference 62 = .ok (.iload 6, 2) := by decide +kernel
theorem dX2_difference_64 : decode cX2_difference 64 = .ok (.iload 5, 2) := by decide +kernel
theorem dX2_difference_66 : decode cX2_difference 66 = .ok (.if_icmp .ge 29, 3) := by decide +kernel
theorem dX2_difference_69 : decode cX2_difference 69 = .ok (.aload_n 0, 1) := by decide +kernel
theorem dX2_difference_70 : decode cX2_difference 70 = .ok (.getfield 22, 3) := by decide +kernel
theorem dX2_difference_73 : decode cX2_difference 73 = .ok (.iload 6, 2) := by decide +kernel
theorem dX2_difference_75 : decode cX2_difference 75 = .ok (.iaload, 1) := by decide +kernel
theorem dX2_difference_76 : decode cX2_difference 76 = .ok (.aload_n 0, 1) := by decide +kernel
theorem dX2_difference_77 : decode cX2_difference 77 = .ok (.getfield 26, 3) := by decide +kernel
theorem dX2_difference_80 : decode cX2_difference 80 = .ok (.iload 6, 2) := by decide +kernel
theorem dX2_difference_82 : decode cX2_difference 82 = .ok (.iaload, 1) := by decide +kernel
theorem dX2_difference_83 : decode cX2_difference 83 = .ok (.if_icmp .eq 6, 3) := by decide +kernel
theorem dX2_difference_86 : decode cX2_difference 86 = .ok (.iload 6, 2) := by decide +kernel
theorem dX2_difference_88 : decode cX2_difference 88 = .ok (.ireturn, 1) := by decide +kernel
theorem dX2_difference_89 : decode cX2_difference 89 = .ok (.iinc 6 1, 3) := by decide +kernel
theorem dX2_difference_92 : decode cX2_difference 92 = .ok (.goto (-30), 3) := by decide +kernel
theorem dX2_difference_95 : decode cX2_difference 95 = .ok (.aload_n 3, 1) := by decide +kernel
theorem dX2_difference_96 : decode cX2_difference 96 = .ok (.getfield 58, 3) := by decide +kernel
theorem dX2_difference_99 : decode cX2_difference 99 = .ok (.aload 4, 2) := by decide +kernel
theorem dX2_difference_101 : decode cX2_difference 101 = .ok (.getfield 58, 3) := by decide +kernel
theorem dX2_difference_104 : decode cX2_difference 104 = .ok (.if_icmp .ne 7, 3) := by decide +kernel
theorem dX2_difference_107 : decode cX2_difference 107 = .ok (.iconst (-1), 1) := by decide +kernel
theorem dX2_difference_108 : decode cX2_difference 108 = .ok (.goto 5, 3) := by decide +kernel
theorem dX2_difference_111 : decode cX2_difference 111 = .ok (.iload 5, 2) := by decide +kernel
theorem dX2_difference_113 : decode cX2_difference 113 = .ok (.ireturn, 1) := by decide +kernel
theorem dX2_used_0 : decode cX2_used 0 = .ok (.sipush 512, 3) := by decide +kernel
theorem dX2_used_3 : decode cX2_used 3 = .ok (.aload_n 0, 1) := by decide +kernel
theorem dX2_used_4 : decode cX2_used 4 = .ok (.getfield 18, 3) := by decide +kernel
theorem dX2_used_7 : decode cX2_used 7 = .ok (.getfield 138, 3) := by decide +kernel
theorem dX2_used_10 : decode cX2_used 10 = .ok (.isub, 1) := by decide +kernel
theorem dX2_used_11 : decode cX2_used 11 = .ok (.ireturn, 1) := by decide +kernel
theorem dX2_made_0 : decode cX2_made 0 = .ok (.aload_n 0, 1) := by decide +kernel
theorem dX2_made_1 : decode cX2_made 1 = .ok (.getfield 18, 3) := by decide +kernel
theorem dX2_made_4 : decode cX2_made 4 = .ok (.getfield 141, 3) := by decide +kernel
theorem dX2_made_7 : decode cX2_made 7 = .ok (.ireturn, 1) := by decide +kernel
set_option maxRecDepth 20000 in
theorem ggX2_leaf_X2_isLeafThere : GoodIn wsX2_leaf wsX2_isLeafThere := goodIn_r _ [8, 1, 9, 10, 11, 7, 12, 13, 14, 15, 16, 17, 18, 19, 20, 21, 28, 29, 30, 31, 32, 33, 34, 35, 36] (by decide +kernel) (by decide +kernel)
set_option maxRecDepth 20000 in
theorem gX2_leaf_X2_isLeafThere : GoodIn wsX2_leaf (wsV RX2 144 RX2 yX2_isLeafThere wsX2_isLeafThere) := goodIn_app (goodIn_of _ (by decide +kernel)) ggX2_leaf_X2_isLeafThere
set_option maxRecDepth 20000 in
theorem ggX2_leaf_X0_isShared : GoodIn wsX2_leaf wsX0_isShared := goodIn_r _ [26, 27, 37, 38, 39, 40, 41] (by decide +kernel) (by decide +kernel)
set_option maxRecDepth 20000 in
theorem gX2_leaf_X0_isShared : GoodIn wsX2_leaf (wsV RX2 148 RX0 yX0_isShared wsX0_isShared) := goodIn_app (goodIn_of _ (by decide +kernel)) ggX2_leaf_X0_isShared
theorem dX2_leaf_0 : decode cX2_leaf 0 = .ok (.aload_n 0, 1) := by decide +kernel
theorem dX2_leaf_1 : decode cX2_leaf 1 = .ok (.iload_n 1, 1) := by decide +kernel
theorem dX2_leaf_2 : decode cX2_leaf 2 = .ok (.iload_n 2, 1) := by decide +kernel
theorem dX2_leaf_3 : decode cX2_leaf 3 = .ok (.invokevirtual 144, 3) := by decide +kernel
theorem dX2_leaf_6 : decode cX2_leaf 6 = .ok (.ifCond .ne 5, 3) := by decide +kernel
theorem dX2_leaf_9 : decode cX2_leaf 9 = .ok (.iconst (-1), 1) := by decide +kernel
theorem dX2_leaf_10 : decode cX2_leaf 10 = .ok (.ireturn, 1) := by decide +kernel
theorem dX2_leaf_11 : decode cX2_leaf 11 = .ok (.aload_n 0, 1) := by decide +kernel
theorem dX2_leaf_12 : decode cX2_leaf 12 = .ok (.getfield 11, 3) := by decide +kernel
theorem dX2_leaf_15 : decode cX2_leaf 15 = .ok (.iload_n 1, 1) := by decide +kernel
theorem dX2_leaf_16 : decode cX2_leaf 16 = .ok (.aaload, 1) := by decide +kernel
theorem dX2_leaf_17 : decode cX2_leaf 17 = .ok (.getfield 101, 3) := by decide +kernel
theorem dX2_leaf_20 : decode cX2_leaf 20 = .ok (.iload_n 2, 1) := by decide +kernel
theorem dX2_leaf_21 : decode cX2_leaf 21 = .ok (.iaload, 1) := by decide +kernel
theorem dX2_leaf_22 : decode cX2_leaf 22 = .ok (.istore_n 3, 1) := by decide +kernel
theorem dX2_leaf_23 : decode cX2_leaf 23 = .ok (.iload_n 3, 1) := by decide +kernel
theorem dX2_leaf_24 : decode cX2_leaf 24 = .ok (.iconst (-1), 1) := by decide +kernel
theorem dX2_leaf_25 : decode cX2_leaf 25 = .ok (.if_icmp .ne 5, 3) := by decide +kernel
theorem dX2_leaf_28 : decode cX2_leaf 28 = .ok (.iconst 0, 1) := by decide +kernel
theorem dX2_leaf_29 : decode cX2_leaf 29 = .ok (.ireturn, 1) := by decide +kernel
theorem dX2_leaf_30 : decode cX2_leaf 30 = .ok (.aload_n 0, 1) := by decide +kernel
theorem dX2_leaf_31 : decode cX2_leaf 31 = .ok (.getfield 18, 3) := by decide +kernel
theorem dX2_leaf_34 : decode cX2_leaf 34 = .ok (.iload_n 3, 1) := by decide +kernel
theorem dX2_leaf_35 : decode cX2_leaf 35 = .ok (.invokevirtual 148, 3) := by decide +kernel
theorem dX2_leaf_38 : decode cX2_leaf 38 = .ok (.ifCond .eq 7, 3) := by decide +kernel
theorem dX2_leaf_41 : decode cX2_leaf 41 = .ok (.iconst 2, 1) := by decide +kernel
theorem dX2_leaf_42 : decode cX2_leaf 42 = .ok (.goto 4, 3) := by decide +kernel
theorem dX2_leaf_45 : decode cX2_leaf 45 = .ok (.iconst 1, 1) := by decide +kernel
theorem dX2_leaf_46 : decode cX2_leaf 46 = .ok (.ireturn, 1) := by decide +kernel
set_option maxRecDepth 20000 in
theorem ggX2_alike_X2_isLeafThere : GoodIn wsX2_alike wsX2_isLeafThere := goodIn_r _ [7, 1, 8, 9, 10, 6, 11, 12, 13, 14, 15, 16, 17, 18, 19, 20, 21, 22, 23, 24, 25, 26, 27, 28, 29] (by decide +kernel) (by decide +kernel)
set_option maxRecDepth 20000 in
theorem gX2_alike_X2_isLeafThere : GoodIn wsX2_alike (wsV RX2 144 RX2 yX2_isLeafThere wsX2_isLeafThere) := goodIn_app (goodIn_of _ (by decide +kernel)) ggX2_alike_X2_isLeafThere
theorem dX2_alike_0 : decode cX2_alike 0 = .ok (.aload_n 0, 1) := by decide +kernel
theorem dX2_alike_1 : decode cX2_alike 1 = .ok (.iload_n 1, 1) := by decide +kernel
theorem dX2_alike_2 : decode cX2_alike 2 = .ok (.iload_n 2, 1) := by decide +kernel
theorem dX2_alike_3 : decode cX2_alike 3 = .ok (.invokevirtual 144, 3) := by decide +kernel
theorem dX2_alike_6 : decode cX2_alike 6 = .ok (.ifCond .eq 13, 3) := by decide +kernel
theorem dX2_alike_9 : decode cX2_alike 9 = .ok (.aload_n 0, 1) := by decide +kernel
theorem dX2_alike_10 : decode cX2_alike 10 = .ok (.iload_n 3, 1) := by decide +kernel
theorem dX2_alike_11 : decode cX2_alike 11 = .ok (.iload 4, 2) := by decide +kernel
theorem dX2_alike_13 : decode cX2_alike 13 = .ok (.invokevirtual 144, 3) := by decide +kernel
theorem dX2_alike_16 : decode cX2_alike 16 = .ok (.ifCond .ne 5, 3) := by decide +kernel
theorem dX2_alike_19 : decode cX2_alike 19 = .ok (.iconst 0, 1) := by decide +kernel
theorem dX2_alike_20 : decode cX2_alike 20 = .ok (.ireturn, 1) := by decide +kernel
theorem dX2_alike_21 : decode cX2_alike 21 = .ok (.aload_n 0, 1) := by decide +kernel
theorem dX2_alike_22 : decode cX2_alike 22 = .ok (.getfield 11, 3) := by decide +kernel
theorem dX2_alike_25 : decode cX2_alike 25 = .ok (.iload_n 1, 1) := by decide +kernel
theorem dX2_alike_26 : decode cX2_alike 26 = .ok (.aaload, 1) := by decide +kernel
theorem dX2_alike_27 : decode cX2_alike 27 = .ok (.getfield 101, 3) := by decide +kernel
theorem dX2_alike_30 : decode cX2_alike 30 = .ok (.iload_n 2, 1) := by decide +kernel
theorem dX2_alike_31 : decode cX2_alike 31 = .ok (.iaload, 1) := by decide +kernel
theorem dX2_alike_32 : decode cX2_alike 32 = .ok (.istore 5, 2) := by decide +kernel
theorem dX2_alike_34 : decode cX2_alike 34 = .ok (.iload 5, 2) := by decide +kernel
theorem dX2_alike_36 : decode cX2_alike 36 = .ok (.iconst (-1), 1) := by decide +kernel
theorem dX2_alike_37 : decode cX2_alike 37 = .ok (.if_icmp .eq 24, 3) := by decide +kernel
theorem dX2_alike_40 : decode cX2_alike 40 = .ok (.iload 5, 2) := by decide +kernel
theorem dX2_alike_42 : decode cX2_alike 42 = .ok (.aload_n 0, 1) := by decide +kernel
theorem dX2_alike_43 : decode cX2_alike 43 = .ok (.getfield 11, 3) := by decide +kernel
theorem dX2_alike_46 : decode cX2_alike 46 = .ok (.iload_n 3, 1) := by decide +kernel
theorem dX2_alike_47 : decode cX2_alike 47 = .ok (.aaload, 1) := by decide +kernel
theorem dX2_alike_48 : decode cX2_alike 48 = .ok (.getfield 101, 3) := by decide +kernel
theorem dX2_alike_51 : decode cX2_alike 51 = .ok (.iload 4, 2) := by decide +kernel
theorem dX2_alike_53 : decode cX2_alike 53 = .ok (.iaload, 1) := by decide +kernel
theorem dX2_alike_54 : decode cX2_alike 54 = .ok (.if_icmp .ne 7, 3) := by decide +kernel
theorem dX2_alike_57 : decode cX2_alike 57 = .ok (.iconst 1, 1) := by decide +kernel
theorem dX2_alike_58 : decode cX2_alike 58 = .ok (.goto 4, 3) := by decide +kernel
theorem dX2_alike_61 : decode cX2_alike 61 = .ok (.iconst 0, 1) := by decide +kernel
theorem dX2_alike_62 : decode cX2_alike 62 = .ok (.ireturn, 1) := by decide +kernel
theorem dX2_isThere_0 : decode cX2_isThere 0 = .ok (.iload_n 1, 1) := by decide +kernel
theorem dX2_isThere_1 : decode cX2_isThere 1 = .ok (.ifCond .lt 25, 3) := by decide +kernel
theorem dX2_isThere_4 : decode cX2_isThere 4 = .ok (.iload_n 1, 1) := by decide +kernel
theorem dX2_isThere_5 : decode cX2_isThere 5 = .ok (.bipush 16, 2) := by decide +kernel
theorem dX2_isThere_7 : decode cX2_isThere 7 = .ok (.if_icmp .ge 19, 3) := by decide +kernel
theorem dX2_isThere_10 : decode cX2_isThere 10 = .ok (.aload_n 0, 1) := by decide +kernel
theorem dX2_isThere_11 : decode cX2_isThere 11 = .ok (.getfield 11, 3) := by decide +kernel
theorem dX2_isThere_14 : decode cX2_isThere 14 = .ok (.iload_n 1, 1) := by decide +kernel
theorem dX2_isThere_15 : decode cX2_isThere 15 = .ok (.aaload, 1) := by decide +kernel
theorem dX2_isThere_16 : decode cX2_isThere 16 = .ok (.getfield 94, 3) := by decide +kernel
theorem dX2_isThere_19 : decode cX2_isThere 19 = .ok (.ifCond .eq 7, 3) := by decide +kernel
theorem dX2_isThere_22 : decode cX2_isThere 22 = .ok (.iconst 1, 1) := by decide +kernel
theorem dX2_isThere_23 : decode cX2_isThere 23 = .ok (.goto 4, 3) := by decide +kernel
theorem dX2_isThere_26 : decode cX2_isThere 26 = .ok (.iconst 0, 1) := by decide +kernel
theorem dX2_isThere_27 : decode cX2_isThere 27 = .ok (.ireturn, 1) := by decide +kernel
set_option maxRecDepth 20000 in
theorem ggX2_isLeafThere_X2_isThere : GoodIn wsX2_isLeafThere wsX2_isThere := goodIn_r _ [6, 1, 7, 16, 17, 18, 19, 20, 21, 22, 23, 24] (by decide +kernel) (by decide +kernel)
set_option maxRecDepth 20000 in
theorem gX2_isLeafThere_X2_isThere : GoodIn wsX2_isLeafThere (wsV RX2 87 RX2 yX2_isThere wsX2_isThere) := goodIn_app (goodIn_of _ (by decide +kernel)) ggX2_isLeafThere_X2_isThere
set_option maxRecDepth 20000 in
theorem ggX2_isLeafThere_X1_leafCount : GoodIn wsX2_isLeafThere wsX1_leafCount := goodIn_r _ [12, 13, 14, 5, 15, 21, 22, 23, 24] (by decide +kernel) (by decide +kernel)
set_option maxRecDepth 20000 in
theorem gX2_isLeafThere_X1_leafCount : GoodIn wsX2_isLeafThere (wsV RX2 48 RX1 yX1_leafCount wsX1_leafCount) := goodIn_app (goodIn_of _ (by decide +kernel)) ggX2_isLeafThere_X1_leafCount
theorem dX2_isLeafThere_0 : decode cX2_isLeafThere 0 = .ok (.aload_n 0, 1) := by decide +kernel
theorem dX2_isLeafThere_1 : decode cX2_isLeafThere 1 = .ok (.iload_n 1, 1) := by decide +kernel
theorem dX2_isLeafThere_2 : decode cX2_isLeafThere 2 = .ok (.invokevirtual 87, 3) := by decide +kernel
theorem dX2_isLeafThere_5 : decode cX2_isLeafThere 5 = .ok (.ifCond .eq 24, 3) := by decide +kernel
theorem dX2_isLeafThere_8 : decode cX2_isLeafThere 8 = .ok (.iload_n 2, 1) := by decide +kernel
theorem dX2_isLeafThere_9 : decode cX2_isLeafThere 9 = .ok (.ifCond .lt 20, 3) := by decide +kernel
theorem dX2_isLeafThere_12 : decode cX2_isLeafThere 12 = .ok (.iload_n 2, 1) := by decide +kernel
theorem dX2_isLeafThere_13 : decode cX2_isLeafThere 13 = .ok (.aload_n 0, 1) := by decide +kernel
theorem dX2_isLeafThere_14 : decode cX2_isLeafThere 14 = .ok (.getfield 11, 3) := by decide +kernel
theorem dX2_isLeafThere_17 : decode cX2_isLeafThere 17 = .ok (.iload_n 1, 1) := by decide +kernel
theorem dX2_isLeafThere_18 : decode cX2_isLeafThere 18 = .ok (.aaload, 1) := by decide +kernel
theorem dX2_isLeafThere_19 : decode cX2_isLeafThere 19 = .ok (.invokevirtual 48, 3) := by decide +kernel
theorem dX2_isLeafThere_22 : decode cX2_isLeafThere 22 = .ok (.if_icmp .ge 7, 3) := by decide +kernel
theorem dX2_isLeafThere_25 : decode cX2_isLeafThere 25 = .ok (.iconst 1, 1) := by decide +kernel
theorem dX2_isLeafThere_26 : decode cX2_isLeafThere 26 = .ok (.goto 4, 3) := by decide +kernel
theorem dX2_isLeafThere_29 : decode cX2_isLeafThere 29 = .ok (.iconst 0, 1) := by decide +kernel
theorem dX2_isLeafThere_30 : decode cX2_isLeafThere 30 = .ok (.ireturn, 1) := by decide +kernel
set_option maxRecDepth 20000 in
theorem ggX2_arrayThere_X2_isThere : GoodIn wsX2_arrayThere wsX2_isThere := goodIn_r _ [8, 3, 9, 10, 11, 12, 13, 14, 15, 16, 17, 18] (by decide +kernel) (by decide +kernel)
set_option maxRecDepth 20000 in
theorem gX2_arrayThere_X2_isThere : GoodIn wsX2_arrayThere (wsV RX2 87 RX2 yX2_isThere wsX2_isThere) := goodIn_app (goodIn_of _ (by decide +kernel)) ggX2_arrayThere_X2_isThere
theorem dX2_arrayThere_0 : decode cX2_arrayThere 0 = .ok (.aload_n 0, 1) := by decide +kernel
theorem dX2_arrayThere_1 : decode cX2_arrayThere 1 = .ok (.iload_n 1, 1) := by decide +kernel
theorem dX2_arrayThere_2 : decode cX2_arrayThere 2 = .ok (.invokevirtual 87, 3) := by decide +kernel
theorem dX2_arrayThere_5 : decode cX2_arrayThere 5 = .ok (.ifCond .ne 13, 3) := by decide +kernel
theorem dX2_arrayThere_8 : decode cX2_arrayThere 8 = .ok (.new 33, 3) := by decide +kernel
theorem dX2_arrayThere_11 : decode cX2_arrayThere 11 = .ok (.dup, 1) := by decide +kernel
theorem dX2_arrayThere_12 : decode cX2_arrayThere 12 = .ok (.ldc 151, 2) := by decide +kernel
theorem dX2_arrayThere_14 : decode cX2_arrayThere 14 = .ok (.invokespecial 37, 3) := by decide +kernel
theorem dX2_arrayThere_17 : decode cX2_arrayThere 17 = .ok (.athrow, 1) := by decide +kernel
theorem dX2_arrayThere_18 : decode cX2_arrayThere 18 = .ok (.aload_n 0, 1) := by decide +kernel
theorem dX2_arrayThere_19 : decode cX2_arrayThere 19 = .ok (.getfield 11, 3) := by decide +kernel
theorem dX2_arrayThere_22 : decode cX2_arrayThere 22 = .ok (.iload_n 1, 1) := by decide +kernel
theorem dX2_arrayThere_23 : decode cX2_arrayThere 23 = .ok (.aaload, 1) := by decide +kernel
theorem dX2_arrayThere_24 : decode cX2_arrayThere 24 = .ok (.areturn, 1) := by decide +kernel
theorem dX2_numberForNewArray_0 : decode cX2_numberForNewArray 0 = .ok (.iconst 0, 1) := by decide +kernel
theorem dX2_numberForNewArray_1 : decode cX2_numberForNewArray 1 = .ok (.istore_n 1, 1) := by decide +kernel
theorem dX2_numberForNewArray_2 : decode cX2_numberForNewArray 2 = .ok (.iload_n 1, 1) := by decide +kernel
theorem dX2_numberForNewArray_3 : decode cX2_numberForNewArray 3 = .ok (.bipush 16, 2) := by decide +kernel
theorem dX2_numberForNewArray_5 : decode cX2_numberForNewArray 5 = .ok (.if_icmp .ge 23, 3) := by decide +kernel
theorem dX2_numberForNewArray_8 : decode cX2_numberForNewArray 8 = .ok (.aload_n 0, 1) := by decide +kernel
theorem dX2_numberForNewArray_9 : decode cX2_numberForNewArray 9 = .ok (.getfield 11, 3) := by decide +kernel
theorem dX2_numberForNewArray_12 : decode cX2_numberForNewArray 12 = .ok (.iload_n 1, 1) := by decide +kernel
theorem dX2_numberForNewArray_13 : decode cX2_numberForNewArray 13 = .ok (.aaload, 1) := by decide +kernel
theorem dX2_numberForNewArray_14 : decode cX2_numberForNewArray 14 = .ok (.getfield 94, 3) := by decide +kernel
theorem dX2_numberForNewArray_17 : decode cX2_numberForNewArray 17 = .ok (.ifCond .ne 5, 3) := by decide +kernel
theorem dX2_numberForNewArray_20 : decode cX2_numberForNewArray 20 = .ok (.iload_n 1, 1) := by decide +kernel
theorem dX2_numberForNewArray_21 : decode cX2_numberForNewArray 21 = .ok (.ireturn, 1) := by decide +kernel
theorem dX2_numberForNewArray_22 : decode cX2_numberForNewArray 22 = .ok (.iinc 1 1, 3) := by decide +kernel
theorem dX2_numberForNewArray_25 : decode cX2_numberForNewArray 25 = .ok (.goto (-23), 3) := by decide +kernel
theorem dX2_numberForNewArray_28 : decode cX2_numberForNewArray 28 = .ok (.new 153, 3) := by decide +kernel
theorem dX2_numberForNewArray_31 : decode cX2_numberForNewArray 31 = .ok (.dup, 1) := by decide +kernel
theorem dX2_numberForNewArray_32 : decode cX2_numberForNewArray 32 = .ok (.ldc 155, 2) := by decide +kernel
theorem dX2_numberForNewArray_34 : decode cX2_numberForNewArray 34 = .ok (.invokespecial 157, 3) := by decide +kernel
theorem dX2_numberForNewArray_37 : decode cX2_numberForNewArray 37 = .ok (.athrow, 1) := by decide +kernel
theorem dX2_checkIndex_0 : decode cX2_checkIndex 0 = .ok (.iload_n 1, 1) := by decide +kernel
theorem dX2_checkIndex_1 : decode cX2_checkIndex 1 = .ok (.ifCond .lt 11, 3) := by decide +kernel
theorem dX2_checkIndex_4 : decode cX2_checkIndex 4 = .ok (.iload_n 1, 1) := by decide +kernel
theorem dX2_checkIndex_5 : decode cX2_checkIndex 5 = .ok (.aload_n 0, 1) := by decide +kernel
theorem dX2_checkIndex_6 : decode cX2_checkIndex 6 = .ok (.getfield 58, 3) := by decide +kernel
theorem dX2_checkIndex_9 : decode cX2_checkIndex 9 = .ok (.if_icmp .lt 13, 3) := by decide +kernel
theorem dX2_checkIndex_12 : decode cX2_checkIndex 12 = .ok (.new 33, 3) := by decide +kernel
theorem dX2_checkIndex_15 : decode cX2_checkIndex 15 = .ok (.dup, 1) := by decide +kernel
theorem dX2_checkIndex_16 : decode cX2_checkIndex 16 = .ok (.ldc 158, 2) := by decide +kernel
theorem dX2_checkIndex_18 : decode cX2_checkIndex 18 = .ok (.invokespecial 37, 3) := by decide +kernel
theorem dX2_checkIndex_21 : decode cX2_checkIndex 21 = .ok (.athrow, 1) := by decide +kernel
theorem dX2_checkIndex_22 : decode cX2_checkIndex 22 = .ok (.return_, 1) := by decide +kernel
theorem dX2_checkRange_0 : decode cX2_checkRange 0 = .ok (.iload_n 1, 1) := by decide +kernel
theorem dX2_checkRange_1 : decode cX2_checkRange 1 = .ok (.ifCond .lt 16, 3) := by decide +kernel
theorem dX2_checkRange_4 : decode cX2_checkRange 4 = .ok (.iload_n 1, 1) := by decide +kernel
theorem dX2_checkRange_5 : decode cX2_checkRange 5 = .ok (.iload_n 2, 1) := by decide +kernel
theorem dX2_checkRange_6 : decode cX2_checkRange 6 = .ok (.if_icmp .gt 11, 3) := by decide +kernel
theorem dX2_checkRange_9 : decode cX2_checkRange 9 = .ok (.iload_n 2, 1) := by decide +kernel
theorem dX2_checkRange_10 : decode cX2_checkRange 10 = .ok (.aload_n 0, 1) := by decide +kernel
theorem dX2_checkRange_11 : decode cX2_checkRange 11 = .ok (.getfield 58, 3) := by decide +kernel
theorem dX2_checkRange_14 : decode cX2_checkRange 14 = .ok (.if_icmp .le 13, 3) := by decide +kernel
theorem dX2_checkRange_17 : decode cX2_checkRange 17 = .ok (.new 33, 3) := by decide +kernel
theorem dX2_checkRange_20 : decode cX2_checkRange 20 = .ok (.dup, 1) := by decide +kernel
theorem dX2_checkRange_21 : decode cX2_checkRange 21 = .ok (.ldc 160, 2) := by decide +kernel
theorem dX2_checkRange_23 : decode cX2_checkRange 23 = .ok (.invokespecial 37, 3) := by decide +kernel
theorem dX2_checkRange_26 : decode cX2_checkRange 26 = .ok (.athrow, 1) := by decide +kernel
theorem dX2_checkRange_27 : decode cX2_checkRange 27 = .ok (.return_, 1) := by decide +kernel
theorem dX2_checkRoom_0 : decode cX2_checkRoom 0 = .ok (.iload_n 1, 1) := by decide +kernel
theorem dX2_checkRoom_1 : decode cX2_checkRoom 1 = .ok (.aload_n 0, 1) := by decide +kernel
theorem dX2_checkRoom_2 : decode cX2_checkRoom 2 = .ok (.getfield 18, 3) := by decide +kernel
theorem dX2_checkRoom_5 : decode cX2_checkRoom 5 = .ok (.getfield 138, 3) := by decide +kernel
theorem dX2_checkRoom_8 : decode cX2_checkRoom 8 = .ok (.if_icmp .le 13, 3) := by decide +kernel
theorem dX2_checkRoom_11 : decode cX2_checkRoom 11 = .ok (.new 153, 3) := by decide +kernel
theorem dX2_checkRoom_14 : decode cX2_checkRoom 14 = .ok (.dup, 1) := by decide +kernel
theorem dX2_checkRoom_15 : decode cX2_checkRoom 15 = .ok (.ldc 162, 2) := by decide +kernel
theorem dX2_checkRoom_17 : decode cX2_checkRoom 17 = .ok (.invokespecial 157, 3) := by decide +kernel
theorem dX2_checkRoom_20 : decode cX2_checkRoom 20 = .ok (.athrow, 1) := by decide +kernel
theorem dX2_checkRoom_21 : decode cX2_checkRoom 21 = .ok (.return_, 1) := by decide +kernel
theorem dX2_leavesFor_0 : decode cX2_leavesFor 0 = .ok (.iload_n 0, 1) := by decide +kernel
theorem dX2_leavesFor_1 : decode cX2_leavesFor 1 = .ok (.bipush 16, 2) := by decide +kernel
theorem dX2_leavesFor_3 : decode cX2_leavesFor 3 = .ok (.iadd, 1) := by decide +kernel
theorem dX2_leavesFor_4 : decode cX2_leavesFor 4 = .ok (.iconst 1, 1) := by decide +kernel
theorem dX2_leavesFor_5 : decode cX2_leavesFor 5 = .ok (.isub, 1) := by decide +kernel
theorem dX2_leavesFor_6 : decode cX2_leavesFor 6 = .ok (.bipush 16, 2) := by decide +kernel
theorem dX2_leavesFor_8 : decode cX2_leavesFor 8 = .ok (.idiv, 1) := by decide +kernel
theorem dX2_leavesFor_9 : decode cX2_leavesFor 9 = .ok (.ireturn, 1) := by decide +kernel
set_option maxRecDepth 20000 in
theorem ggX2_readValues_X2_leavesFor : GoodIn wsX2_readValues wsX2_leavesFor := goodIn_r _ [14] (by decide +kernel) (by decide +kernel)
set_option maxRecDepth 20000 in
theorem gX2_readValues_X2_leavesFor : GoodIn wsX2_readValues (va_wsS RX2 113 yX2_leavesFor wsX2_leavesFor) := goodIn_app (goodIn_of _ (by decide +kernel)) ggX2_readValues_X2_leavesFor
set_option maxRecDepth 20000 in
theorem ggX2_readValues_J7_fill_fda19 : GoodIn wsX2_readValues wsJ7_fill_fda19 := goodIn_r _ [18, 19, 20, 17, 21, 22, 23, 24, 44, 45, 46, 47] (by decide +kernel) (by decide +kernel)
set_option maxRecDepth 20000 in
theorem gX2_readValues_J7_fill_fda19 : GoodIn wsX2_readValues (va_wsS RX2 164 yJ7_fill_fda19 wsJ7_fill_fda19) := goodIn_app (goodIn_of _ (by decide +kernel)) ggX2_readValues_J7_fill_fda19
set_option maxRecDepth 20000 in
theorem ggX2_readValues_X0_read : GoodIn wsX2_readValues wsX0_read := goodIn_r _ [29, 30, 31, 32, 33, 34, 48, 49, 50, 51, 52] (by decide +kernel) (by decide +kernel)
set_option maxRecDepth 20000 in
theorem gX2_readValues_X0_read : GoodIn wsX2_readValues (wsV RX2 170 RX0 yX0_read wsX0_read) := goodIn_app (goodIn_of _ (by decide +kernel)) ggX2_readValues_X0_read
theorem dX2_readValues_0 : decode cX2_readValues 0 = .ok (.iload_n 2, 1) := by decide +kernel
theorem dX2_readValues_1 : decode cX2_readValues 1 = .ok (.bipush 16, 2) := by decide +kernel
theorem dX2_readValues_3 : decode cX2_readValues 3 = .ok (.idiv, 1) := by decide +kernel
theorem dX2_readValues_4 : decode cX2_readValues 4 = .ok (.istore 6, 2) := by decide +kernel
theorem dX2_readValues_6 : decode cX2_readValues 6 = .ok (.iload 6, 2) := by decide +kernel
theorem dX2_readValues_8 : decode cX2_readValues 8 = .ok (.iload_n 3, 1) := by decide +kernel
theorem dX2_readValues_9 : decode cX2_readValues 9 = .ok (.invokestatic 113, 3) := by decide +kernel
theorem dX2_readValues_12 : decode cX2_readValues 12 = .ok (.if_icmp .ge 105, 3) := by decide +kernel
theorem dX2_readValues_15 : decode cX2_readValues 15 = .ok (.iload_n 2, 1) := by decide +kernel
theorem dX2_readValues_16 : decode cX2_readValues 16 = .ok (.iload 6, 2) := by decide +kernel
theorem dX2_readValues_18 : decode cX2_readValues 18 = .ok (.bipush 16, 2) := by decide +kernel
theorem dX2_readValues_20 : decode cX2_readValues 20 = .ok (.imul, 1) := by decide +kernel
theorem dX2_readValues_21 : decode cX2_readValues 21 = .ok (.invokestatic 135, 3) := by decide +kernel
theorem dX2_readValues_24 : decode cX2_readValues 24 = .ok (.istore 7, 2) := by decide +kernel
theorem dX2_readValues_26 : decode cX2_readValues 26 = .ok (.iload_n 3, 1) := by decide +kernel
theorem dX2_readValues_27 : decode cX2_readValues 27 = .ok (.iload 6, 2) := by decide +kernel
theorem dX2_readValues_29 : decode cX2_readValues 29 = .ok (.iconst 1, 1) := by decide +kernel
theorem dX2_readValues_30 : decode cX2_readValues 30 = .ok (.iadd, 1) := by decide +kernel
theorem dX2_readValues_31 : decode cX2_readValues 31 = .ok (.bipush 16, 2) := by decide +kernel
theorem dX2_readValues_33 : decode cX2_readValues 33 = .ok (.imul, 1) := by decide +kernel
theorem dX2_readValues_34 : decode cX2_readValues 34 = .ok (.invokestatic 130, 3) := by decide +kernel
theorem dX2_readValues_37 : decode cX2_readValues 37 = .ok (.istore 8, 2) := by decide +kernel
theorem dX2_readValues_39 : decode cX2_readValues 39 = .ok (.iload 5, 2) := by decide +kernel
theorem dX2_readValues_41 : decode cX2_readValues 41 = .ok (.iload 7, 2) := by decide +kernel
theorem dX2_readValues_43 : decode cX2_readValues 43 = .ok (.iadd, 1) := by decide +kernel
theorem dX2_readValues_44 : decode cX2_readValues 44 = .ok (.iload_n 2, 1) := by decide +kernel
theorem dX2_readValues_45 : decode cX2_readValues 45 = .ok (.isub, 1) := by decide +kernel
theorem dX2_readValues_46 : decode cX2_readValues 46 = .ok (.istore 9, 2) := by decide +kernel
theorem dX2_readValues_48 : decode cX2_readValues 48 = .ok (.aload_n 1, 1) := by decide +kernel
theorem dX2_readValues_49 : decode cX2_readValues 49 = .ok (.getfield 101, 3) := by decide +kernel
theorem dX2_readValues_52 : decode cX2_readValues 52 = .ok (.iload 6, 2) := by decide +kernel
theorem dX2_readValues_54 : decode cX2_readValues 54 = .ok (.iaload, 1) := by decide +kernel
theorem dX2_readValues_55 : decode cX2_readValues 55 = .ok (.istore 10, 2) := by decide +kernel
theorem dX2_readValues_57 : decode cX2_readValues 57 = .ok (.iload 10, 2) := by decide +kernel
theorem dX2_readValues_59 : decode cX2_readValues 59 = .ok (.iconst (-1), 1) := by decide +kernel
theorem dX2_readValues_60 : decode cX2_readValues 60 = .ok (.if_icmp .ne 28, 3) := by decide +kernel
theorem dX2_readValues_63 : decode cX2_readValues 63 = .ok (.aload 4, 2) := by decide +kernel
theorem dX2_readValues_65 : decode cX2_readValues 65 = .ok (.iload 9, 2) := by decide +kernel
theorem dX2_readValues_67 : decode cX2_readValues 67 = .ok (.iload 9, 2) := by decide +kernel
theorem dX2_readValues_69 : decode cX2_readValues 69 = .ok (.iload 8, 2) := by decide +kernel
theorem dX2_readValues_71 : decode cX2_readValues 71 = .ok (.iadd, 1) := by decide +kernel
theorem dX2_readValues_72 : decode cX2_readValues 72 = .ok (.iload 7, 2) := by decide +kernel
theorem dX2_readValues_74 : decode cX2_readValues 74 = .ok (.isub, 1) := by decide +kernel
theorem dX2_readValues_75 : decode cX2_readValues 75 = .ok (.aload_n 1, 1) := by decide +kernel
theorem dX2_readValues_76 : decode cX2_readValues 76 = .ok (.getfield 51, 3) := by decide +kernel
theorem dX2_readValues_79 : decode cX2_readValues 79 = .ok (.iload 6, 2) := by decide +kernel
theorem dX2_readValues_81 : decode cX2_readValues 81 = .ok (.iaload, 1) := by decide +kernel
theorem dX2_readValues_82 : decode cX2_readValues 82 = .ok (.invokestatic 164, 3) := by decide +kernel
theorem dX2_readValues_85 : decode cX2_readValues 85 = .ok (.goto 26, 3) := by decide +kernel
theorem dX2_readValues_88 : decode cX2_readValues 88 = .ok (.aload_n 0, 1) := by decide +kernel
theorem dX2_readValues_89 : decode cX2_readValues 89 = .ok (.getfield 18, 3) := by decide +kernel
theorem dX2_readValues_92 : decode cX2_readValues 92 = .ok (.iload 10, 2) := by decide +kernel
theorem dX2_readValues_94 : decode cX2_readValues 94 = .ok (.iload 7, 2) := by decide +kernel
theorem dX2_readValues_96 : decode cX2_readValues 96 = .ok (.bipush 16, 2) := by decide +kernel
theorem dX2_readValues_98 : decode cX2_readValues 98 = .ok (.irem, 1) := by decide +kernel
theorem dX2_readValues_99 : decode cX2_readValues 99 = .ok (.aload 4, 2) := by decide +kernel
theorem dX2_readValues_101 : decode cX2_readValues 101 = .ok (.iload 9, 2) := by decide +kernel
theorem dX2_readValues_103 : decode cX2_readValues 103 = .ok (.iload 8, 2) := by decide +kernel
theorem dX2_readValues_105 : decode cX2_readValues 105 = .ok (.iload 7, 2) := by decide +kernel
theorem dX2_readValues_107 : decode cX2_readValues 107 = .ok (.isub, 1) := by decide +kernel
theorem dX2_readValues_108 : decode cX2_readValues 108 = .ok (.invokevirtual 170, 3) := by decide +kernel
theorem dX2_readValues_111 : decode cX2_readValues 111 = .ok (.iinc 6 1, 3) := by decide +kernel
theorem dX2_readValues_114 : decode cX2_readValues 114 = .ok (.goto (-108), 3) := by decide +kernel
theorem dX2_readValues_117 : decode cX2_readValues 117 = .ok (.return_, 1) := by decide +kernel
set_option maxRecDepth 20000 in
theorem ggX2_readLeaves_X2_readValues : GoodIn wsX2_readLeaves wsX2_readValues := goodIn_r _ [11, 12, 13, 4, 14, 2, 3, 5, 15, 16, 17, 18, 19, 10, 20, 21, 22, 23, 24, 25, 26, 27, 28, 29, 30, 31, 32, 33, 34, 35, 36, 37, 38, 39, 40, 41, 42, 43, 44, 45, 46, 47, 48, 49, 50, 51, 52, 53, 54, 55, 56, 57, 58] (by decide +kernel) (by decide +kernel)
set_option maxRecDepth 20000 in
theorem gX2_readLeaves_X2_readValues : GoodIn wsX2_readLeaves (wsV RX2 70 RX2 yX2_readValues wsX2_readValues) := goodIn_app (goodIn_of _ (by decide +kernel)) ggX2_readLeaves_X2_readValues
theorem dX2_readLeaves_0 : decode cX2_readLeaves 0 = .ok (.iload_n 2, 1) := by decide +kernel
theorem dX2_readLeaves_1 : decode cX2_readLeaves 1 = .ok (.bipush 16, 2) := by decide +kernel
theorem dX2_readLeaves_3 : decode cX2_readLeaves 3 = .ok (.imul, 1) := by decide +kernel
theorem dX2_readLeaves_4 : decode cX2_readLeaves 4 = .ok (.istore 4, 2) := by decide +kernel
theorem dX2_readLeaves_6 : decode cX2_readLeaves 6 = .ok (.aload_n 1, 1) := by decide +kernel
theorem dX2_readLeaves_7 : decode cX2_readLeaves 7 = .ok (.getfield 58, 3) := by decide +kernel
theorem dX2_readLeaves_10 : decode cX2_readLeaves 10 = .ok (.iload_n 3, 1) := by decide +kernel
theorem dX2_readLeaves_11 : decode cX2_readLeaves 11 = .ok (.bipush 16, 2) := by decide +kernel
theorem dX2_readLeaves_13 : decode cX2_readLeaves 13 = .ok (.imul, 1) := by decide +kernel
theorem dX2_readLeaves_14 : decode cX2_readLeaves 14 = .ok (.invokestatic 130, 3) := by decide +kernel
theorem dX2_readLeaves_17 : decode cX2_readLeaves 17 = .ok (.istore 5, 2) := by decide +kernel
theorem dX2_readLeaves_19 : decode cX2_readLeaves 19 = .ok (.aload_n 0, 1) := by decide +kernel
theorem dX2_readLeaves_20 : decode cX2_readLeaves 20 = .ok (.aload_n 1, 1) := by decide +kernel
theorem dX2_readLeaves_21 : decode cX2_readLeaves 21 = .ok (.iload 4, 2) := by decide +kernel
theorem dX2_readLeaves_23 : decode cX2_readLeaves 23 = .ok (.iload 5, 2) := by decide +kernel
theorem dX2_readLeaves_25 : decode cX2_readLeaves 25 = .ok (.aload_n 0, 1) := by decide +kernel
theorem dX2_readLeaves_26 : decode cX2_readLeaves 26 = .ok (.getfield 22, 3) := by decide +kernel
theorem dX2_readLeaves_29 : decode cX2_readLeaves 29 = .ok (.iload 4, 2) := by decide +kernel
theorem dX2_readLeaves_31 : decode cX2_readLeaves 31 = .ok (.invokevirtual 70, 3) := by decide +kernel
theorem dX2_readLeaves_34 : decode cX2_readLeaves 34 = .ok (.return_, 1) := by decide +kernel
set_option maxRecDepth 20000 in
theorem ggX2_fillValues_X2_leavesFor : GoodIn wsX2_fillValues wsX2_leavesFor := goodIn_r _ [5] (by decide +kernel) (by decide +kernel)
set_option maxRecDepth 20000 in
theorem gX2_fillValues_X2_leavesFor : GoodIn wsX2_fillValues (va_wsS RX2 113 yX2_leavesFor wsX2_leavesFor) := goodIn_app (goodIn_of _ (by decide +kernel)) ggX2_fillValues_X2_leavesFor
set_option maxRecDepth 20000 in
theorem ggX2_fillValues_X2_readLeaves : GoodIn wsX2_fillValues wsX2_readLeaves := goodIn_r _ [9, 10, 11, 12, 13, 14, 1, 15, 16, 17, 4, 18, 19, 20, 21, 22, 23, 24, 2, 3, 5, 25, 26, 27, 28, 29, 30, 31, 32, 33, 34, 35, 36, 37, 38, 39, 40, 41, 42, 43, 44, 121, 122, 123, 124, 116, 117, 118, 119, 120, 125, 126, 127, 128, 129, 130, 131, 132, 133] (by decide +kernel) (by decide +kernel)
set_option maxRecDepth 20000 in
theorem gX2_fillValues_X2_readLeaves : GoodIn wsX2_fillValues (wsV RX2 117 RX2 yX2_readLeaves wsX2_readLeaves) := goodIn_app (goodIn_of _ (by decide +kernel)) ggX2_fillValues_X2_readLeaves
set_option maxRecDepth 20000 in
theorem ggX2_fillValues_J7_fill_fda19 : GoodIn wsX2_fillValues wsJ7_fill_fda19 := goodIn_r _ [28, 29, 30, 27, 31, 32, 33, 34, 125, 126, 127, 128] (by decide +kernel) (by decide +kernel)
set_option maxRecDepth 20000 in
theorem gX2_fillValues_J7_fill_fda19 : GoodIn wsX2_fillValues (va_wsS RX2 164 yJ7_fill_fda19 wsJ7_fill_fda19) := goodIn_app (goodIn_of _ (by decide +kernel)) ggX2_fillValues_J7_fill_fda19
set_option maxRecDepth 20000 in
theorem ggX2_fillValues_X2_changeLeaves : GoodIn wsX2_fillValues wsX2_changeLeaves := goodIn_ca (goodIn_r _ [48, 49, 50, 51, 52, 4, 53, 10, 22, 24, 54, 55, 56, 57, 23, 1, 58, 59, 60, 61, 62, 63, 64, 12, 13, 14, 65, 66, 67, 38, 68, 40, 69, 70, 71, 72, 11, 73, 74, 75, 76, 77, 78, 79, 80, 81, 82, 83, 84, 85, 86, 87, 88, 89, 90, 91, 92, 93, 94, 95, 96, 97, 98, 99, 100, 101, 102, 103, 104, 105, 106, 41, 42, 43, 44, 107, 108, 109, 110, 111, 112, 113, 114, 115, 116, 117, 118, 119, 120, 121, 122, 123, 124, 129, 130, 131, 132, 133] (by decide +kernel) (by decide +kernel)) (goodIn_sub (fun _ h => List.mem_cons_of_mem _ (List.mem_append_right _ h)) (by decide +kernel))
set_option maxRecDepth 20000 in
theorem gX2_fillValues_X2_changeLeaves : GoodIn wsX2_fillValues (wsV RX2 120 RX2 yX2_changeLeaves wsX2_changeLeaves) := goodIn_app (goodIn_of _ (by decide +kernel)) ggX2_fillValues_X2_changeLeaves
theorem dX2_fillValues_0 : decode cX2_fillValues 0 = .ok (.iload_n 2, 1) := by decide +kernel
theorem dX2_fillValues_1 : decode cX2_fillValues 1 = .ok (.bipush 16, 2) := by decide +kernel
theorem dX2_fillValues_3 : decode cX2_fillValues 3 = .ok (.idiv, 1) := by decide +kernel
theorem dX2_fillValues_4 : decode cX2_fillValues 4 = .ok (.istore 5, 2) := by decide +kernel
theorem dX2_fillValues_6 : decode cX2_fillValues 6 = .ok (.iload_n 3, 1) := by decide +kernel
theorem dX2_fillValues_7 : decode cX2_fillValues 7 = .ok (.invokestatic 113, 3) := by decide +kernel
theorem dX2_fillValues_10 : decode cX2_fillValues 10 = .ok (.istore 6, 2) := by decide +kernel
theorem dX2_fillValues_12 : decode cX2_fillValues 12 = .ok (.aload_n 0, 1) := by decide +kernel
theorem dX2_fillValues_13 : decode cX2_fillValues 13 = .ok (.aload_n 1, 1) := by decide +kernel
theorem dX2_fillValues_14 : decode cX2_fillValues 14 = .ok (.iload 5, 2) := by decide +kernel
theorem dX2_fillValues_16 : decode cX2_fillValues 16 = .ok (.iload 6, 2) := by decide +kernel
theorem dX2_fillValues_18 : decode cX2_fillValues 18 = .ok (.invokevirtual 117, 3) := by decide +kernel
theorem dX2_fillValues_21 : decode cX2_fillValues 21 = .ok (.aload_n 0, 1) := by decide +kernel
theorem dX2_fillValues_22 : decode cX2_fillValues 22 = .ok (.getfield 22, 3) := by decide +kernel
theorem dX2_fillValues_25 : decode cX2_fillValues 25 = .ok (.iload_n 2, 1) := by decide +kernel
theorem dX2_fillValues_26 : decode cX2_fillValues 26 = .ok (.iload_n 3, 1) := by decide +kernel
theorem dX2_fillValues_27 : decode cX2_fillValues 27 = .ok (.iload 4, 2) := by decide +kernel
theorem dX2_fillValues_29 : decode cX2_fillValues 29 = .ok (.invokestatic 164, 3) := by decide +kernel
theorem dX2_fillValues_32 : decode cX2_fillValues 32 = .ok (.aload_n 0, 1) := by decide +kernel
theorem dX2_fillValues_33 : decode cX2_fillValues 33 = .ok (.aload_n 1, 1) := by decide +kernel
theorem dX2_fillValues_34 : decode cX2_fillValues 34 = .ok (.iload 5, 2) := by decide +kernel
theorem dX2_fillValues_36 : decode cX2_fillValues 36 = .ok (.iload 6, 2) := by decide +kernel
theorem dX2_fillValues_38 : decode cX2_fillValues 38 = .ok (.invokevirtual 120, 3) := by decide +kernel
theorem dX2_fillValues_41 : decode cX2_fillValues 41 = .ok (.return_, 1) := by decide +kernel
set_option maxRecDepth 20000 in
theorem ggX2_changeLeaves_X2_planFor : GoodIn wsX2_changeLeaves wsX2_planFor := goodIn_r _ [6, 7, 8, 9, 10, 11, 12, 5, 13, 14, 15, 16, 17, 18, 19, 20, 21, 22, 23, 24, 25, 26, 27, 28, 29, 30, 31, 32, 33, 34, 35, 36, 37, 38, 39, 40, 41, 89, 90, 91, 92, 84, 85, 86, 87, 88, 93, 94, 95, 96, 97] (by decide +kernel) (by decide +kernel)
set_option maxRecDepth 20000 in
theorem gX2_changeLeaves_X2_planFor : GoodIn wsX2_changeLeaves (wsV RX2 174 RX2 yX2_planFor wsX2_planFor) := goodIn_app (goodIn_of _ (by decide +kernel)) ggX2_changeLeaves_X2_planFor
set_option maxRecDepth 20000 in
theorem ggX2_changeLeaves_X2_checkRoom : GoodIn wsX2_changeLeaves wsX2_checkRoom := goodIn_ca (goodIn_r _ [45, 46, 47, 9, 48, 84, 85, 86, 87, 88, 93, 94, 95, 96, 97] (by decide +kernel) (by decide +kernel)) (goodIn_sub (fun _ h => List.mem_cons_of_mem _ (List.mem_append_right _ h)) (by decide +kernel))
set_option maxRecDepth 20000 in
theorem gX2_changeLeaves_X2_checkRoom : GoodIn wsX2_changeLeaves (wsV RX2 78 RX2 yX2_checkRoom wsX2_checkRoom) := goodIn_app (goodIn_of _ (by decide +kernel)) ggX2_changeLeaves_X2_checkRoom
set_option maxRecDepth 20000 in
theorem ggX2_changeLeaves_X2_carryOut : GoodIn wsX2_changeLeaves wsX2_carryOut := goodIn_r _ [52, 15, 9, 8, 53, 54, 55, 5, 56, 14, 57, 58, 59, 60, 61, 62, 63, 29, 64, 41, 65, 66, 16, 17, 18, 19, 20, 21, 22, 23, 24, 25, 67, 68, 69, 70, 31, 71, 72, 73, 74, 75, 76, 77, 78, 79, 80, 81, 82, 83, 84, 85, 86, 87, 88, 89, 90, 91, 92, 93, 94, 95, 96, 97] (by decide +kernel) (by decide +kernel)
set_option maxRecDepth 20000 in
theorem gX2_changeLeaves_X2_carryOut : GoodIn wsX2_changeLeaves (wsV RX2 178 RX2 yX2_carryOut wsX2_carryOut) := goodIn_app (goodIn_of _ (by decide +kernel)) ggX2_changeLeaves_X2_carryOut
theorem dX2_changeLeaves_0 : decode cX2_changeLeaves 0 = .ok (.iconst 0, 1) := by decide +kernel
theorem dX2_changeLeaves_1 : decode cX2_changeLeaves 1 = .ok (.istore 4, 2) := by decide +kernel
theorem dX2_changeLeaves_3 : decode cX2_changeLeaves 3 = .ok (.iload_n 2, 1) := by decide +kernel
theorem dX2_changeLeaves_4 : decode cX2_changeLeaves 4 = .ok (.istore 5, 2) := by decide +kernel
theorem dX2_changeLeaves_6 : decode cX2_changeLeaves 6 = .ok (.iload 5, 2) := by decide +kernel
theorem dX2_changeLeaves_8 : decode cX2_changeLeaves 8 = .ok (.iload_n 3, 1) := by decide +kernel
theorem dX2_changeLeaves_9 : decode cX2_changeLeaves 9 = .ok (.if_icmp .ge 37, 3) := by decide +kernel
theorem dX2_changeLeaves_12 : decode cX2_changeLeaves 12 = .ok (.aload_n 0, 1) := by decide +kernel
theorem dX2_changeLeaves_13 : decode cX2_changeLeaves 13 = .ok (.getfield 29, 3) := by decide +kernel
theorem dX2_changeLeaves_16 : decode cX2_changeLeaves 16 = .ok (.iload 5, 2) := by decide +kernel
theorem dX2_changeLeaves_18 : decode cX2_changeLeaves 18 = .ok (.aload_n 0, 1) := by decide +kernel
theorem dX2_changeLeaves_19 : decode cX2_changeLeaves 19 = .ok (.aload_n 1, 1) := by decide +kernel
theorem dX2_changeLeaves_20 : decode cX2_changeLeaves 20 = .ok (.iload 5, 2) := by decide +kernel
theorem dX2_changeLeaves_22 : decode cX2_changeLeaves 22 = .ok (.invokevirtual 174, 3) := by decide +kernel
theorem dX2_changeLeaves_25 : decode cX2_changeLeaves 25 = .ok (.iastore, 1) := by decide +kernel
theorem dX2_changeLeaves_26 : decode cX2_changeLeaves 26 = .ok (.aload_n 0, 1) := by decide +kernel
theorem dX2_changeLeaves_27 : decode cX2_changeLeaves 27 = .ok (.getfield 29, 3) := by decide +kernel
theorem dX2_changeLeaves_30 : decode cX2_changeLeaves 30 = .ok (.iload 5, 2) := by decide +kernel
theorem dX2_changeLeaves_32 : decode cX2_changeLeaves 32 = .ok (.iaload, 1) := by decide +kernel
theorem dX2_changeLeaves_33 : decode cX2_changeLeaves 33 = .ok (.iconst 3, 1) := by decide +kernel
theorem dX2_changeLeaves_34 : decode cX2_changeLeaves 34 = .ok (.if_icmp .ne 6, 3) := by decide +kernel
theorem dX2_changeLeaves_37 : decode cX2_changeLeaves 37 = .ok (.iinc 4 1, 3) := by decide +kernel
theorem dX2_changeLeaves_40 : decode cX2_changeLeaves 40 = .ok (.iinc 5 1, 3) := by decide +kernel
theorem dX2_changeLeaves_43 : decode cX2_changeLeaves 43 = .ok (.goto (-37), 3) := by decide +kernel
theorem dX2_changeLeaves_46 : decode cX2_changeLeaves 46 = .ok (.aload_n 0, 1) := by decide +kernel
theorem dX2_changeLeaves_47 : decode cX2_changeLeaves 47 = .ok (.iload 4, 2) := by decide +kernel
theorem dX2_changeLeaves_49 : decode cX2_changeLeaves 49 = .ok (.invokevirtual 78, 3) := by decide +kernel
theorem dX2_changeLeaves_52 : decode cX2_changeLeaves 52 = .ok (.iload_n 2, 1) := by decide +kernel
theorem dX2_changeLeaves_53 : decode cX2_changeLeaves 53 = .ok (.istore 5, 2) := by decide +kernel
theorem dX2_changeLeaves_55 : decode cX2_changeLeaves 55 = .ok (.iload 5, 2) := by decide +kernel
theorem dX2_changeLeaves_57 : decode cX2_changeLeaves 57 = .ok (.iload_n 3, 1) := by decide +kernel
theorem dX2_changeLeaves_58 : decode cX2_changeLeaves 58 = .ok (.if_icmp .ge 23, 3) := by decide +kernel
theorem dX2_changeLeaves_61 : decode cX2_changeLeaves 61 = .ok (.aload_n 0, 1) := by decide +kernel
theorem dX2_changeLeaves_62 : decode cX2_changeLeaves 62 = .ok (.aload_n 0, 1) := by decide +kernel
theorem dX2_changeLeaves_63 : decode cX2_changeLeaves 63 = .ok (.getfield 29, 3) := by decide +kernel
theorem dX2_changeLeaves_66 : decode cX2_changeLeaves 66 = .ok (.iload 5, 2) := by decide +kernel
theorem dX2_changeLeaves_68 : decode cX2_changeLeaves 68 = .ok (.iaload, 1) := by decide +kernel
theorem dX2_changeLeaves_69 : decode cX2_changeLeaves 69 = .ok (.aload_n 1, 1) := by decide +kernel
theorem dX2_changeLeaves_70 : decode cX2_changeLeaves 70 = .ok (.iload 5, 2) := by decide +kernel
theorem dX2_changeLeaves_72 : decode cX2_changeLeaves 72 = .ok (.invokevirtual 178, 3) := by decide +kernel
theorem dX2_changeLeaves_75 : decode cX2_changeLeaves 75 = .ok (.iinc 5 1, 3) := by decide +kernel
theorem dX2_changeLeaves_78 : decode cX2_changeLeaves 78 = .ok (.goto (-23), 3) := by decide +kernel
theorem dX2_changeLeaves_81 : decode cX2_changeLeaves 81 = .ok (.return_, 1) := by decide +kernel
set_option maxRecDepth 20000 in
theorem ggX2_planFor_X2_isLeafAsInNext : GoodIn wsX2_planFor wsX2_isLeafAsInNext := goodIn_r _ [8, 2, 9, 3, 10, 11, 12, 13, 14, 15, 16, 17, 18, 19, 20, 21, 22, 23, 24, 25, 26, 37, 38, 39, 40, 41, 42, 43, 44, 45, 46, 47, 48, 49, 50] (by decide +kernel) (by decide +kernel)
set_option maxRecDepth 20000 in
theorem gX2_planFor_X2_isLeafAsInNext : GoodIn wsX2_planFor (wsV RX2 182 RX2 yX2_isLeafAsInNext wsX2_isLeafAsInNext) := goodIn_app (goodIn_of _ (by decide +kernel)) ggX2_planFor_X2_isLeafAsInNext
set_option maxRecDepth 20000 in
theorem ggX2_planFor_X2_isOneNumberInNext : GoodIn wsX2_planFor wsX2_isOneNumberInNext := goodIn_r _ [30, 31, 18, 19, 20, 10, 41, 42, 43, 44, 45] (by decide +kernel) (by decide +kernel)
set_option maxRecDepth 20000 in
theorem gX2_planFor_X2_isOneNumberInNext : GoodIn wsX2_planFor (wsV RX2 186 RX2 yX2_isOneNumberInNext wsX2_isOneNumberInNext) := goodIn_app (goodIn_of _ (by decide +kernel)) ggX2_planFor_X2_isOneNumberInNext
set_option maxRecDepth 20000 in
theorem ggX2_planFor_X0_isShared : GoodIn wsX2_planFor wsX0_isShared := goodIn_r _ [35, 36, 46, 47, 48, 49, 50] (by decide +kernel) (by decide +kernel)
set_option maxRecDepth 20000 in
theorem gX2_planFor_X0_isShared : GoodIn wsX2_planFor (wsV RX2 148 RX0 yX0_isShared wsX0_isShared) := goodIn_app (goodIn_of _ (by decide +kernel)) ggX2_planFor_X0_isShared
