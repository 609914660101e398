theorem dX2_planFor_0 : decode cX2_planFor 0 = .ok (.aload_n 0, 1) := by decide +kernel
theorem dX2_planFor_1 : decode cX2_planFor 1 = .ok (.aload_n 1, 1) := by decide +kernel
theorem dX2_planFor_2 : decode cX2_planFor 2 = .ok (.iload_n 2, 1) := by decide +kernel
theorem dX2_planFor_3 : decode cX2_planFor 3 = .ok (.invokevirtual 182, 3) := by decide +kernel
theorem dX2_planFor_6 : decode cX2_planFor 6 = .ok (.ifCond .eq 5, 3) := by decide +kernel
theorem dX2_planFor_9 : decode cX2_planFor 9 = .ok (.iconst 0, 1) := by decide +kernel
theorem dX2_planFor_10 : decode cX2_planFor 10 = .ok (.ireturn, 1) := by decide +kernel
theorem dX2_planFor_11 : decode cX2_planFor 11 = .ok (.aload_n 0, 1) := by decide +kernel
theorem dX2_planFor_12 : decode cX2_planFor 12 = .ok (.iload_n 2, 1) := by decide +kernel
theorem dX2_planFor_13 : decode cX2_planFor 13 = .ok (.aload_n 1, 1) := by decide +kernel
theorem dX2_planFor_14 : decode cX2_planFor 14 = .ok (.getfield 58, 3) := by decide +kernel
theorem dX2_planFor_17 : decode cX2_planFor 17 = .ok (.invokevirtual 186, 3) := by decide +kernel
theorem dX2_planFor_20 : decode cX2_planFor 20 = .ok (.ifCond .eq 5, 3) := by decide +kernel
theorem dX2_planFor_23 : decode cX2_planFor 23 = .ok (.iconst 1, 1) := by decide +kernel
theorem dX2_planFor_24 : decode cX2_planFor 24 = .ok (.ireturn, 1) := by decide +kernel
theorem dX2_planFor_25 : decode cX2_planFor 25 = .ok (.aload_n 1, 1) := by decide +kernel
theorem dX2_planFor_26 : decode cX2_planFor 26 = .ok (.getfield 101, 3) := by decide +kernel
theorem dX2_planFor_29 : decode cX2_planFor 29 = .ok (.iload_n 2, 1) := by decide +kernel
theorem dX2_planFor_30 : decode cX2_planFor 30 = .ok (.iaload, 1) := by decide +kernel
theorem dX2_planFor_31 : decode cX2_planFor 31 = .ok (.istore_n 3, 1) := by decide +kernel
theorem dX2_planFor_32 : decode cX2_planFor 32 = .ok (.iload_n 3, 1) := by decide +kernel
theorem dX2_planFor_33 : decode cX2_planFor 33 = .ok (.iconst (-1), 1) := by decide +kernel
theorem dX2_planFor_34 : decode cX2_planFor 34 = .ok (.if_icmp .eq 18, 3) := by decide +kernel
theorem dX2_planFor_37 : decode cX2_planFor 37 = .ok (.aload_n 0, 1) := by decide +kernel
theorem dX2_planFor_38 : decode cX2_planFor 38 = .ok (.getfield 18, 3) := by decide +kernel
theorem dX2_planFor_41 : decode cX2_planFor 41 = .ok (.iload_n 3, 1) := by decide +kernel
theorem dX2_planFor_42 : decode cX2_planFor 42 = .ok (.invokevirtual 148, 3) := by decide +kernel
theorem dX2_planFor_45 : decode cX2_planFor 45 = .ok (.ifCond .ne 7, 3) := by decide +kernel
theorem dX2_planFor_48 : decode cX2_planFor 48 = .ok (.iconst 1, 1) := by decide +kernel
theorem dX2_planFor_49 : decode cX2_planFor 49 = .ok (.goto 4, 3) := by decide +kernel
theorem dX2_planFor_52 : decode cX2_planFor 52 = .ok (.iconst 0, 1) := by decide +kernel
theorem dX2_planFor_53 : decode cX2_planFor 53 = .ok (.istore 4, 2) := by decide +kernel
theorem dX2_planFor_55 : decode cX2_planFor 55 = .ok (.iload 4, 2) := by decide +kernel
theorem dX2_planFor_57 : decode cX2_planFor 57 = .ok (.ifCond .eq 7, 3) := by decide +kernel
theorem dX2_planFor_60 : decode cX2_planFor 60 = .ok (.iconst 2, 1) := by decide +kernel
theorem dX2_planFor_61 : decode cX2_planFor 61 = .ok (.goto 4, 3) := by decide +kernel
theorem dX2_planFor_64 : decode cX2_planFor 64 = .ok (.iconst 3, 1) := by decide +kernel
theorem dX2_planFor_65 : decode cX2_planFor 65 = .ok (.ireturn, 1) := by decide +kernel
set_option maxRecDepth 20000 in
theorem ggX2_carryOut_X2_setConstant : GoodIn wsX2_carryOut wsX2_setConstant := goodIn_r _ [8, 3, 9, 10, 11, 12, 7, 13, 2, 14, 15, 16, 17, 18, 19, 20, 21, 55, 56, 57, 58, 50, 51, 52, 53, 54, 59, 60, 61, 62, 63] (by decide +kernel) (by decide +kernel)
set_option maxRecDepth 20000 in
theorem gX2_carryOut_X2_setConstant : GoodIn wsX2_carryOut (wsV RX2 91 RX2 yX2_setConstant wsX2_setConstant) := goodIn_app (goodIn_of _ (by decide +kernel)) ggX2_carryOut_X2_setConstant
set_option maxRecDepth 20000 in
theorem ggX2_carryOut_X1_valuesIn : GoodIn wsX2_carryOut wsX1_valuesIn := goodIn_r _ [26, 27, 28, 29, 30, 31, 55, 56, 57, 58] (by decide +kernel) (by decide +kernel)
set_option maxRecDepth 20000 in
theorem gX2_carryOut_X1_valuesIn : GoodIn wsX2_carryOut (wsV RX2 189 RX1 yX1_valuesIn wsX1_valuesIn) := goodIn_app (goodIn_of _ (by decide +kernel)) ggX2_carryOut_X1_valuesIn
set_option maxRecDepth 20000 in
theorem ggX2_carryOut_X0_write : GoodIn wsX2_carryOut wsX0_write := goodIn_r _ [35, 36, 37, 38, 39, 40, 59, 60, 61, 62, 63] (by decide +kernel) (by decide +kernel)
set_option maxRecDepth 20000 in
theorem gX2_carryOut_X0_write : GoodIn wsX2_carryOut (wsV RX2 192 RX0 yX0_write wsX0_write) := goodIn_app (goodIn_of _ (by decide +kernel)) ggX2_carryOut_X0_write
set_option maxRecDepth 20000 in
theorem ggX2_carryOut_X2_setOwn : GoodIn wsX2_carryOut wsX2_setOwn := goodIn_r _ [44, 2, 1, 3, 45, 46, 47, 17, 48, 21, 49, 20, 19, 22, 23, 24, 25, 26, 27, 28, 29, 30, 31, 32, 33, 34, 35, 36, 37, 38, 39, 40, 10, 11, 12, 7, 13, 14, 15, 16, 18, 50, 51, 52, 53, 54, 55, 56, 57, 58, 59, 60, 61, 62, 63] (by decide +kernel) (by decide +kernel)
set_option maxRecDepth 20000 in
theorem gX2_carryOut_X2_setOwn : GoodIn wsX2_carryOut (wsV RX2 196 RX2 yX2_setOwn wsX2_setOwn) := goodIn_app (goodIn_of _ (by decide +kernel)) ggX2_carryOut_X2_setOwn
theorem dX2_carryOut_0 : decode cX2_carryOut 0 = .ok (.iload_n 1, 1) := by decide +kernel
theorem dX2_carryOut_1 : decode cX2_carryOut 1 = .ok (.iconst 1, 1) := by decide +kernel
theorem dX2_carryOut_2 : decode cX2_carryOut 2 = .ok (.if_icmp .ne 21, 3) := by decide +kernel
theorem dX2_carryOut_5 : decode cX2_carryOut 5 = .ok (.aload_n 0, 1) := by decide +kernel
theorem dX2_carryOut_6 : decode cX2_carryOut 6 = .ok (.aload_n 2, 1) := by decide +kernel
theorem dX2_carryOut_7 : decode cX2_carryOut 7 = .ok (.iload_n 3, 1) := by decide +kernel
theorem dX2_carryOut_8 : decode cX2_carryOut 8 = .ok (.aload_n 0, 1) := by decide +kernel
theorem dX2_carryOut_9 : decode cX2_carryOut 9 = .ok (.getfield 22, 3) := by decide +kernel
theorem dX2_carryOut_12 : decode cX2_carryOut 12 = .ok (.iload_n 3, 1) := by decide +kernel
theorem dX2_carryOut_13 : decode cX2_carryOut 13 = .ok (.bipush 16, 2) := by decide +kernel
theorem dX2_carryOut_15 : decode cX2_carryOut 15 = .ok (.imul, 1) := by decide +kernel
theorem dX2_carryOut_16 : decode cX2_carryOut 16 = .ok (.iaload, 1) := by decide +kernel
theorem dX2_carryOut_17 : decode cX2_carryOut 17 = .ok (.invokevirtual 91, 3) := by decide +kernel
theorem dX2_carryOut_20 : decode cX2_carryOut 20 = .ok (.goto 48, 3) := by decide +kernel
theorem dX2_carryOut_23 : decode cX2_carryOut 23 = .ok (.iload_n 1, 1) := by decide +kernel
theorem dX2_carryOut_24 : decode cX2_carryOut 24 = .ok (.iconst 2, 1) := by decide +kernel
theorem dX2_carryOut_25 : decode cX2_carryOut 25 = .ok (.if_icmp .ne 32, 3) := by decide +kernel
theorem dX2_carryOut_28 : decode cX2_carryOut 28 = .ok (.aload_n 0, 1) := by decide +kernel
theorem dX2_carryOut_29 : decode cX2_carryOut 29 = .ok (.getfield 18, 3) := by decide +kernel
theorem dX2_carryOut_32 : decode cX2_carryOut 32 = .ok (.aload_n 2, 1) := by decide +kernel
theorem dX2_carryOut_33 : decode cX2_carryOut 33 = .ok (.getfield 101, 3) := by decide +kernel
theorem dX2_carryOut_36 : decode cX2_carryOut 36 = .ok (.iload_n 3, 1) := by decide +kernel
theorem dX2_carryOut_37 : decode cX2_carryOut 37 = .ok (.iaload, 1) := by decide +kernel
theorem dX2_carryOut_38 : decode cX2_carryOut 38 = .ok (.aload_n 0, 1) := by decide +kernel
theorem dX2_carryOut_39 : decode cX2_carryOut 39 = .ok (.getfield 22, 3) := by decide +kernel
theorem dX2_carryOut_42 : decode cX2_carryOut 42 = .ok (.iload_n 3, 1) := by decide +kernel
theorem dX2_carryOut_43 : decode cX2_carryOut 43 = .ok (.bipush 16, 2) := by decide +kernel
theorem dX2_carryOut_45 : decode cX2_carryOut 45 = .ok (.imul, 1) := by decide +kernel
theorem dX2_carryOut_46 : decode cX2_carryOut 46 = .ok (.aload_n 2, 1) := by decide +kernel
theorem dX2_carryOut_47 : decode cX2_carryOut 47 = .ok (.iload_n 3, 1) := by decide +kernel
theorem dX2_carryOut_48 : decode cX2_carryOut 48 = .ok (.invokevirtual 189, 3) := by decide +kernel
theorem dX2_carryOut_51 : decode cX2_carryOut 51 = .ok (.invokevirtual 192, 3) := by decide +kernel
theorem dX2_carryOut_54 : decode cX2_carryOut 54 = .ok (.goto 14, 3) := by decide +kernel
theorem dX2_carryOut_57 : decode cX2_carryOut 57 = .ok (.iload_n 1, 1) := by decide +kernel
theorem dX2_carryOut_58 : decode cX2_carryOut 58 = .ok (.iconst 3, 1) := by decide +kernel
theorem dX2_carryOut_59 : decode cX2_carryOut 59 = .ok (.if_icmp .ne 9, 3) := by decide +kernel
theorem dX2_carryOut_62 : decode cX2_carryOut 62 = .ok (.aload_n 0, 1) := by decide +kernel
theorem dX2_carryOut_63 : decode cX2_carryOut 63 = .ok (.aload_n 2, 1) := by decide +kernel
theorem dX2_carryOut_64 : decode cX2_carryOut 64 = .ok (.iload_n 3, 1) := by decide +kernel
theorem dX2_carryOut_65 : decode cX2_carryOut 65 = .ok (.invokevirtual 196, 3) := by decide +kernel
theorem dX2_carryOut_68 : decode cX2_carryOut 68 = .ok (.return_, 1) := by decide +kernel
set_option maxRecDepth 20000 in
theorem ggX2_isLeafAsInNext_X1_valuesIn : GoodIn wsX2_isLeafAsInNext wsX1_valuesIn := goodIn_r _ [9, 10, 11, 12, 13, 14, 21, 22, 23, 24] (by decide +kernel) (by decide +kernel)
set_option maxRecDepth 20000 in
theorem gX2_isLeafAsInNext_X1_valuesIn : GoodIn wsX2_isLeafAsInNext (wsV RX2 189 RX1 yX1_valuesIn wsX1_valuesIn) := goodIn_app (goodIn_of _ (by decide +kernel)) ggX2_isLeafAsInNext_X1_valuesIn
set_option maxRecDepth 20000 in
theorem ggX2_isLeafAsInNext_X0_valueAt : GoodIn wsX2_isLeafAsInNext wsX0_valueAt := goodIn_r _ [19, 20, 30, 31, 32, 33, 34] (by decide +kernel) (by decide +kernel)
set_option maxRecDepth 20000 in
theorem gX2_isLeafAsInNext_X0_valueAt : GoodIn wsX2_isLeafAsInNext (wsV RX2 104 RX0 yX0_valueAt wsX0_valueAt) := goodIn_app (goodIn_of _ (by decide +kernel)) ggX2_isLeafAsInNext_X0_valueAt
theorem dX2_isLeafAsInNext_0 : decode cX2_isLeafAsInNext 0 = .ok (.iload_n 2, 1) := by decide +kernel
theorem dX2_isLeafAsInNext_1 : decode cX2_isLeafAsInNext 1 = .ok (.bipush 16, 2) := by decide +kernel
theorem dX2_isLeafAsInNext_3 : decode cX2_isLeafAsInNext 3 = .ok (.imul, 1) := by decide +kernel
theorem dX2_isLeafAsInNext_4 : decode cX2_isLeafAsInNext 4 = .ok (.istore_n 3, 1) := by decide +kernel
theorem dX2_isLeafAsInNext_5 : decode cX2_isLeafAsInNext 5 = .ok (.aload_n 1, 1) := by decide +kernel
theorem dX2_isLeafAsInNext_6 : decode cX2_isLeafAsInNext 6 = .ok (.getfield 101, 3) := by decide +kernel
theorem dX2_isLeafAsInNext_9 : decode cX2_isLeafAsInNext 9 = .ok (.iload_n 2, 1) := by decide +kernel
theorem dX2_isLeafAsInNext_10 : decode cX2_isLeafAsInNext 10 = .ok (.iaload, 1) := by decide +kernel
theorem dX2_isLeafAsInNext_11 : decode cX2_isLeafAsInNext 11 = .ok (.istore 4, 2) := by decide +kernel
theorem dX2_isLeafAsInNext_13 : decode cX2_isLeafAsInNext 13 = .ok (.iconst 0, 1) := by decide +kernel
theorem dX2_isLeafAsInNext_14 : decode cX2_isLeafAsInNext 14 = .ok (.istore 5, 2) := by decide +kernel
theorem dX2_isLeafAsInNext_16 : decode cX2_isLeafAsInNext 16 = .ok (.iload 5, 2) := by decide +kernel
theorem dX2_isLeafAsInNext_18 : decode cX2_isLeafAsInNext 18 = .ok (.aload_n 1, 1) := by decide +kernel
theorem dX2_isLeafAsInNext_19 : decode cX2_isLeafAsInNext 19 = .ok (.iload_n 2, 1) := by decide +kernel
theorem dX2_isLeafAsInNext_20 : decode cX2_isLeafAsInNext 20 = .ok (.invokevirtual 189, 3) := by decide +kernel
theorem dX2_isLeafAsInNext_23 : decode cX2_isLeafAsInNext 23 = .ok (.if_icmp .ge 53, 3) := by decide +kernel
theorem dX2_isLeafAsInNext_26 : decode cX2_isLeafAsInNext 26 = .ok (.iload 4, 2) := by decide +kernel
theorem dX2_isLeafAsInNext_28 : decode cX2_isLeafAsInNext 28 = .ok (.iconst (-1), 1) := by decide +kernel
theorem dX2_isLeafAsInNext_29 : decode cX2_isLeafAsInNext 29 = .ok (.if_icmp .ne 12, 3) := by decide +kernel
theorem dX2_isLeafAsInNext_32 : decode cX2_isLeafAsInNext 32 = .ok (.aload_n 1, 1) := by decide +kernel
theorem dX2_isLeafAsInNext_33 : decode cX2_isLeafAsInNext 33 = .ok (.getfield 51, 3) := by decide +kernel
theorem dX2_isLeafAsInNext_36 : decode cX2_isLeafAsInNext 36 = .ok (.iload_n 2, 1) := by decide +kernel
theorem dX2_isLeafAsInNext_37 : decode cX2_isLeafAsInNext 37 = .ok (.iaload, 1) := by decide +kernel
theorem dX2_isLeafAsInNext_38 : decode cX2_isLeafAsInNext 38 = .ok (.goto 14, 3) := by decide +kernel
theorem dX2_isLeafAsInNext_41 : decode cX2_isLeafAsInNext 41 = .ok (.aload_n 0, 1) := by decide +kernel
theorem dX2_isLeafAsInNext_42 : decode cX2_isLeafAsInNext 42 = .ok (.getfield 18, 3) := by decide +kernel
theorem dX2_isLeafAsInNext_45 : decode cX2_isLeafAsInNext 45 = .ok (.iload 4, 2) := by decide +kernel
theorem dX2_isLeafAsInNext_47 : decode cX2_isLeafAsInNext 47 = .ok (.iload 5, 2) := by decide +kernel
theorem dX2_isLeafAsInNext_49 : decode cX2_isLeafAsInNext 49 = .ok (.invokevirtual 104, 3) := by decide +kernel
theorem dX2_isLeafAsInNext_52 : decode cX2_isLeafAsInNext 52 = .ok (.istore 6, 2) := by decide +kernel
theorem dX2_isLeafAsInNext_54 : decode cX2_isLeafAsInNext 54 = .ok (.iload 6, 2) := by decide +kernel
theorem dX2_isLeafAsInNext_56 : decode cX2_isLeafAsInNext 56 = .ok (.aload_n 0, 1) := by decide +kernel
theorem dX2_isLeafAsInNext_57 : decode cX2_isLeafAsInNext 57 = .ok (.getfield 22, 3) := by decide +kernel
theorem dX2_isLeafAsInNext_60 : decode cX2_isLeafAsInNext 60 = .ok (.iload_n 3, 1) := by decide +kernel
theorem dX2_isLeafAsInNext_61 : decode cX2_isLeafAsInNext 61 = .ok (.iload 5, 2) := by decide +kernel
theorem dX2_isLeafAsInNext_63 : decode cX2_isLeafAsInNext 63 = .ok (.iadd, 1) := by decide +kernel
theorem dX2_isLeafAsInNext_64 : decode cX2_isLeafAsInNext 64 = .ok (.iaload, 1) := by decide +kernel
theorem dX2_isLeafAsInNext_65 : decode cX2_isLeafAsInNext 65 = .ok (.if_icmp .eq 5, 3) := by decide +kernel
theorem dX2_isLeafAsInNext_68 : decode cX2_isLeafAsInNext 68 = .ok (.iconst 0, 1) := by decide +kernel
theorem dX2_isLeafAsInNext_69 : decode cX2_isLeafAsInNext 69 = .ok (.ireturn, 1) := by decide +kernel
theorem dX2_isLeafAsInNext_70 : decode cX2_isLeafAsInNext 70 = .ok (.iinc 5 1, 3) := by decide +kernel
theorem dX2_isLeafAsInNext_73 : decode cX2_isLeafAsInNext 73 = .ok (.goto (-57), 3) := by decide +kernel
theorem dX2_isLeafAsInNext_76 : decode cX2_isLeafAsInNext 76 = .ok (.iconst 1, 1) := by decide +kernel
theorem dX2_isLeafAsInNext_77 : decode cX2_isLeafAsInNext 77 = .ok (.ireturn, 1) := by decide +kernel
theorem dX2_isOneNumberInNext_0 : decode cX2_isOneNumberInNext 0 = .ok (.iload_n 1, 1) := by decide +kernel
theorem dX2_isOneNumberInNext_1 : decode cX2_isOneNumberInNext 1 = .ok (.bipush 16, 2) := by decide +kernel
theorem dX2_isOneNumberInNext_3 : decode cX2_isOneNumberInNext 3 = .ok (.imul, 1) := by decide +kernel
theorem dX2_isOneNumberInNext_4 : decode cX2_isOneNumberInNext 4 = .ok (.istore_n 3, 1) := by decide +kernel
theorem dX2_isOneNumberInNext_5 : decode cX2_isOneNumberInNext 5 = .ok (.iload_n 2, 1) := by decide +kernel
theorem dX2_isOneNumberInNext_6 : decode cX2_isOneNumberInNext 6 = .ok (.iload_n 3, 1) := by decide +kernel
theorem dX2_isOneNumberInNext_7 : decode cX2_isOneNumberInNext 7 = .ok (.bipush 16, 2) := by decide +kernel
theorem dX2_isOneNumberInNext_9 : decode cX2_isOneNumberInNext 9 = .ok (.iadd, 1) := by decide +kernel
theorem dX2_isOneNumberInNext_10 : decode cX2_isOneNumberInNext 10 = .ok (.invokestatic 130, 3) := by decide +kernel
theorem dX2_isOneNumberInNext_13 : decode cX2_isOneNumberInNext 13 = .ok (.istore 4, 2) := by decide +kernel
theorem dX2_isOneNumberInNext_15 : decode cX2_isOneNumberInNext 15 = .ok (.iload_n 3, 1) := by decide +kernel
theorem dX2_isOneNumberInNext_16 : decode cX2_isOneNumberInNext 16 = .ok (.iconst 1, 1) := by decide +kernel
theorem dX2_isOneNumberInNext_17 : decode cX2_isOneNumberInNext 17 = .ok (.iadd, 1) := by decide +kernel
theorem dX2_isOneNumberInNext_18 : decode cX2_isOneNumberInNext 18 = .ok (.istore 5, 2) := by decide +kernel
theorem dX2_isOneNumberInNext_20 : decode cX2_isOneNumberInNext 20 = .ok (.iload 5, 2) := by decide +kernel
theorem dX2_isOneNumberInNext_22 : decode cX2_isOneNumberInNext 22 = .ok (.iload 4, 2) := by decide +kernel
theorem dX2_isOneNumberInNext_24 : decode cX2_isOneNumberInNext 24 = .ok (.if_icmp .ge 27, 3) := by decide +kernel
theorem dX2_isOneNumberInNext_27 : decode cX2_isOneNumberInNext 27 = .ok (.aload_n 0, 1) := by decide +kernel
theorem dX2_isOneNumberInNext_28 : decode cX2_isOneNumberInNext 28 = .ok (.getfield 22, 3) := by decide +kernel
theorem dX2_isOneNumberInNext_31 : decode cX2_isOneNumberInNext 31 = .ok (.iload 5, 2) := by decide +kernel
theorem dX2_isOneNumberInNext_33 : decode cX2_isOneNumberInNext 33 = .ok (.iaload, 1) := by decide +kernel
theorem dX2_isOneNumberInNext_34 : decode cX2_isOneNumberInNext 34 = .ok (.aload_n 0, 1) := by decide +kernel
theorem dX2_isOneNumberInNext_35 : decode cX2_isOneNumberInNext 35 = .ok (.getfield 22, 3) := by decide +kernel
theorem dX2_isOneNumberInNext_38 : decode cX2_isOneNumberInNext 38 = .ok (.iload_n 3, 1) := by decide +kernel
theorem dX2_isOneNumberInNext_39 : decode cX2_isOneNumberInNext 39 = .ok (.iaload, 1) := by decide +kernel
theorem dX2_isOneNumberInNext_40 : decode cX2_isOneNumberInNext 40 = .ok (.if_icmp .eq 5, 3) := by decide +kernel
theorem dX2_isOneNumberInNext_43 : decode cX2_isOneNumberInNext 43 = .ok (.iconst 0, 1) := by decide +kernel
theorem dX2_isOneNumberInNext_44 : decode cX2_isOneNumberInNext 44 = .ok (.ireturn, 1) := by decide +kernel
theorem dX2_isOneNumberInNext_45 : decode cX2_isOneNumberInNext 45 = .ok (.iinc 5 1, 3) := by decide +kernel
theorem dX2_isOneNumberInNext_48 : decode cX2_isOneNumberInNext 48 = .ok (.goto (-28), 3) := by decide +kernel
theorem dX2_isOneNumberInNext_51 : decode cX2_isOneNumberInNext 51 = .ok (.iconst 1, 1) := by decide +kernel
theorem dX2_isOneNumberInNext_52 : decode cX2_isOneNumberInNext 52 = .ok (.ireturn, 1) := by decide +kernel
set_option maxRecDepth 20000 in
theorem ggX2_countOwnInNext_X2_leavesFor : GoodIn wsX2_countOwnInNext wsX2_leavesFor := goodIn_r _ [4] (by decide +kernel) (by decide +kernel)
set_option maxRecDepth 20000 in
theorem gX2_countOwnInNext_X2_leavesFor : GoodIn wsX2_countOwnInNext (va_wsS RX2 113 yX2_leavesFor wsX2_leavesFor) := goodIn_app (goodIn_of _ (by decide +kernel)) ggX2_countOwnInNext_X2_leavesFor
set_option maxRecDepth 20000 in
theorem ggX2_countOwnInNext_X2_isOneNumberInNext : GoodIn wsX2_countOwnInNext wsX2_isOneNumberInNext := goodIn_r _ [8, 9, 10, 11, 12, 13, 14, 15, 16, 17, 18] (by decide +kernel) (by decide +kernel)
set_option maxRecDepth 20000 in
theorem gX2_countOwnInNext_X2_isOneNumberInNext : GoodIn wsX2_countOwnInNext (wsV RX2 186 RX2 yX2_isOneNumberInNext wsX2_isOneNumberInNext) := goodIn_app (goodIn_of _ (by decide +kernel)) ggX2_countOwnInNext_X2_isOneNumberInNext
theorem dX2_countOwnInNext_0 : decode cX2_countOwnInNext 0 = .ok (.iconst 0, 1) := by decide +kernel
theorem dX2_countOwnInNext_1 : decode cX2_countOwnInNext 1 = .ok (.istore_n 3, 1) := by decide +kernel
theorem dX2_countOwnInNext_2 : decode cX2_countOwnInNext 2 = .ok (.iload_n 1, 1) := by decide +kernel
theorem dX2_countOwnInNext_3 : decode cX2_countOwnInNext 3 = .ok (.istore 4, 2) := by decide +kernel
theorem dX2_countOwnInNext_5 : decode cX2_countOwnInNext 5 = .ok (.iload 4, 2) := by decide +kernel
theorem dX2_countOwnInNext_7 : decode cX2_countOwnInNext 7 = .ok (.iload_n 2, 1) := by decide +kernel
theorem dX2_countOwnInNext_8 : decode cX2_countOwnInNext 8 = .ok (.invokestatic 113, 3) := by decide +kernel
theorem dX2_countOwnInNext_11 : decode cX2_countOwnInNext 11 = .ok (.if_icmp .ge 22, 3) := by decide +kernel
theorem dX2_countOwnInNext_14 : decode cX2_countOwnInNext 14 = .ok (.aload_n 0, 1) := by decide +kernel
theorem dX2_countOwnInNext_15 : decode cX2_countOwnInNext 15 = .ok (.iload 4, 2) := by decide +kernel
theorem dX2_countOwnInNext_17 : decode cX2_countOwnInNext 17 = .ok (.iload_n 2, 1) := by decide +kernel
theorem dX2_countOwnInNext_18 : decode cX2_countOwnInNext 18 = .ok (.invokevirtual 186, 3) := by decide +kernel
theorem dX2_countOwnInNext_21 : decode cX2_countOwnInNext 21 = .ok (.ifCond .ne 6, 3) := by decide +kernel
theorem dX2_countOwnInNext_24 : decode cX2_countOwnInNext 24 = .ok (.iinc 3 1, 3) := by decide +kernel
theorem dX2_countOwnInNext_27 : decode cX2_countOwnInNext 27 = .ok (.iinc 4 1, 3) := by decide +kernel
theorem dX2_countOwnInNext_30 : decode cX2_countOwnInNext 30 = .ok (.goto (-25), 3) := by decide +kernel
theorem dX2_countOwnInNext_33 : decode cX2_countOwnInNext 33 = .ok (.iload_n 3, 1) := by decide +kernel
theorem dX2_countOwnInNext_34 : decode cX2_countOwnInNext 34 = .ok (.ireturn, 1) := by decide +kernel
set_option maxRecDepth 20000 in
theorem ggX2_newLeaves_X1_leafCount : GoodIn wsX2_newLeaves wsX1_leafCount := goodIn_r _ [7, 8, 9, 10, 11, 62, 63, 64, 65] (by decide +kernel) (by decide +kernel)
set_option maxRecDepth 20000 in
theorem gX2_newLeaves_X1_leafCount : GoodIn wsX2_newLeaves (wsV RX2 48 RX1 yX1_leafCount wsX1_leafCount) := goodIn_app (goodIn_of _ (by decide +kernel)) ggX2_newLeaves_X1_leafCount
set_option maxRecDepth 20000 in
theorem ggX2_newLeaves_X2_isOneNumberInNext : GoodIn wsX2_newLeaves wsX2_isOneNumberInNext := goodIn_r _ [15, 16, 17, 18, 19, 2, 66, 67, 68, 69, 70] (by decide +kernel) (by decide +kernel)
set_option maxRecDepth 20000 in
theorem gX2_newLeaves_X2_isOneNumberInNext : GoodIn wsX2_newLeaves (wsV RX2 186 RX2 yX2_isOneNumberInNext wsX2_isOneNumberInNext) := goodIn_app (goodIn_of _ (by decide +kernel)) ggX2_newLeaves_X2_isOneNumberInNext
set_option maxRecDepth 20000 in
theorem ggX2_newLeaves_X2_setConstant : GoodIn wsX2_newLeaves wsX2_setConstant := goodIn_r _ [23, 24, 25, 26, 27, 28, 10, 29, 30, 31, 32, 33, 34, 35, 36, 37, 38, 62, 63, 64, 65, 66, 67, 68, 69, 70, 71, 72, 73, 74, 75] (by decide +kernel) (by decide +kernel)
set_option maxRecDepth 20000 in
theorem gX2_newLeaves_X2_setConstant : GoodIn wsX2_newLeaves (wsV RX2 91 RX2 yX2_setConstant wsX2_setConstant) := goodIn_app (goodIn_of _ (by decide +kernel)) ggX2_newLeaves_X2_setConstant
set_option maxRecDepth 20000 in
theorem ggX2_newLeaves_X2_setOwn : GoodIn wsX2_newLeaves wsX2_setOwn := goodIn_r _ [42, 30, 2, 24, 43, 44, 45, 34, 46, 38, 47, 37, 36, 48, 49, 50, 6, 51, 8, 52, 17, 18, 19, 53, 54, 55, 56, 57, 58, 59, 60, 61, 26, 27, 28, 10, 29, 31, 32, 33, 35, 66, 67, 68, 69, 70, 62, 63, 64, 65, 71, 72, 73, 74, 75] (by decide +kernel) (by decide +kernel)
set_option maxRecDepth 20000 in
theorem gX2_newLeaves_X2_setOwn : GoodIn wsX2_newLeaves (wsV RX2 196 RX2 yX2_setOwn wsX2_setOwn) := goodIn_app (goodIn_of _ (by decide +kernel)) ggX2_newLeaves_X2_setOwn
theorem dX2_newLeaves_0 : decode cX2_newLeaves 0 = .ok (.iload_n 2, 1) := by decide +kernel
theorem dX2_newLeaves_1 : decode cX2_newLeaves 1 = .ok (.istore_n 3, 1) := by decide +kernel
theorem dX2_newLeaves_2 : decode cX2_newLeaves 2 = .ok (.iload_n 3, 1) := by decide +kernel
theorem dX2_newLeaves_3 : decode cX2_newLeaves 3 = .ok (.aload_n 1, 1) := by decide +kernel
theorem dX2_newLeaves_4 : decode cX2_newLeaves 4 = .ok (.invokevirtual 48, 3) := by decide +kernel
theorem dX2_newLeaves_7 : decode cX2_newLeaves 7 = .ok (.if_icmp .ge 45, 3) := by decide +kernel
theorem dX2_newLeaves_10 : decode cX2_newLeaves 10 = .ok (.aload_n 0, 1) := by decide +kernel
theorem dX2_newLeaves_11 : decode cX2_newLeaves 11 = .ok (.iload_n 3, 1) := by decide +kernel
theorem dX2_newLeaves_12 : decode cX2_newLeaves 12 = .ok (.aload_n 1, 1) := by decide +kernel
theorem dX2_newLeaves_13 : decode cX2_newLeaves 13 = .ok (.getfield 58, 3) := by decide +kernel
theorem dX2_newLeaves_16 : decode cX2_newLeaves 16 = .ok (.invokevirtual 186, 3) := by decide +kernel
theorem dX2_newLeaves_19 : decode cX2_newLeaves 19 = .ok (.ifCond .eq 21, 3) := by decide +kernel
theorem dX2_newLeaves_22 : decode cX2_newLeaves 22 = .ok (.aload_n 0, 1) := by decide +kernel
theorem dX2_newLeaves_23 : decode cX2_newLeaves 23 = .ok (.aload_n 1, 1) := by decide +kernel
theorem dX2_newLeaves_24 : decode cX2_newLeaves 24 = .ok (.iload_n 3, 1) := by decide +kernel
theorem dX2_newLeaves_25 : decode cX2_newLeaves 25 = .ok (.aload_n 0, 1) := by decide +kernel
theorem dX2_newLeaves_26 : decode cX2_newLeaves 26 = .ok (.getfield 22, 3) := by decide +kernel
theorem dX2_newLeaves_29 : decode cX2_newLeaves 29 = .ok (.iload_n 3, 1) := by decide +kernel
theorem dX2_newLeaves_30 : decode cX2_newLeaves 30 = .ok (.bipush 16, 2) := by decide +kernel
theorem dX2_newLeaves_32 : decode cX2_newLeaves 32 = .ok (.imul, 1) := by decide +kernel
theorem dX2_newLeaves_33 : decode cX2_newLeaves 33 = .ok (.iaload, 1) := by decide +kernel
theorem dX2_newLeaves_34 : decode cX2_newLeaves 34 = .ok (.invokevirtual 91, 3) := by decide +kernel
theorem dX2_newLeaves_37 : decode cX2_newLeaves 37 = .ok (.goto 9, 3) := by decide +kernel
theorem dX2_newLeaves_40 : decode cX2_newLeaves 40 = .ok (.aload_n 0, 1) := by decide +kernel
theorem dX2_newLeaves_41 : decode cX2_newLeaves 41 = .ok (.aload_n 1, 1) := by decide +kernel
theorem dX2_newLeaves_42 : decode cX2_newLeaves 42 = .ok (.iload_n 3, 1) := by decide +kernel
theorem dX2_newLeaves_43 : decode cX2_newLeaves 43 = .ok (.invokevirtual 196, 3) := by decide +kernel
theorem dX2_newLeaves_46 : decode cX2_newLeaves 46 = .ok (.iinc 3 1, 3) := by decide +kernel
theorem dX2_newLeaves_49 : decode cX2_newLeaves 49 = .ok (.goto (-47), 3) := by decide +kernel
theorem dX2_newLeaves_52 : decode cX2_newLeaves 52 = .ok (.return_, 1) := by decide +kernel
set_option maxRecDepth 20000 in
theorem ggX2_shareLeaves_X0_addHolder : GoodIn wsX2_shareLeaves wsX0_addHolder := goodIn_r _ [8, 9, 19, 20, 21, 22, 23] (by decide +kernel) (by decide +kernel)
set_option maxRecDepth 20000 in
theorem gX2_shareLeaves_X0_addHolder : GoodIn wsX2_shareLeaves (wsV RX2 199 RX0 yX0_addHolder wsX0_addHolder) := goodIn_app (goodIn_of _ (by decide +kernel)) ggX2_shareLeaves_X0_addHolder
theorem dX2_shareLeaves_0 : decode cX2_shareLeaves 0 = .ok (.iconst 0, 1) := by decide +kernel
theorem dX2_shareLeaves_1 : decode cX2_shareLeaves 1 = .ok (.istore 6, 2) := by decide +kernel
theorem dX2_shareLeaves_3 : decode cX2_shareLeaves 3 = .ok (.iload 6, 2) := by decide +kernel
theorem dX2_shareLeaves_5 : decode cX2_shareLeaves 5 = .ok (.iload 5, 2) := by decide +kernel
theorem dX2_shareLeaves_7 : decode cX2_shareLeaves 7 = .ok (.if_icmp .ge 66, 3) := by decide +kernel
theorem dX2_shareLeaves_10 : decode cX2_shareLeaves 10 = .ok (.aload_n 1, 1) := by decide +kernel
theorem dX2_shareLeaves_11 : decode cX2_shareLeaves 11 = .ok (.getfield 101, 3) := by decide +kernel
theorem dX2_shareLeaves_14 : decode cX2_shareLeaves 14 = .ok (.iload_n 2, 1) := by decide +kernel
theorem dX2_shareLeaves_15 : decode cX2_shareLeaves 15 = .ok (.iload 6, 2) := by decide +kernel
theorem dX2_shareLeaves_17 : decode cX2_shareLeaves 17 = .ok (.iadd, 1) := by decide +kernel
theorem dX2_shareLeaves_18 : decode cX2_shareLeaves 18 = .ok (.iaload, 1) := by decide +kernel
theorem dX2_shareLeaves_19 : decode cX2_shareLeaves 19 = .ok (.istore 7, 2) := by decide +kernel
theorem dX2_shareLeaves_21 : decode cX2_shareLeaves 21 = .ok (.aload_n 3, 1) := by decide +kernel
theorem dX2_shareLeaves_22 : decode cX2_shareLeaves 22 = .ok (.getfield 101, 3) := by decide +kernel
theorem dX2_shareLeaves_25 : decode cX2_shareLeaves 25 = .ok (.iload 4, 2) := by decide +kernel
theorem dX2_shareLeaves_27 : decode cX2_shareLeaves 27 = .ok (.iload 6, 2) := by decide +kernel
theorem dX2_shareLeaves_29 : decode cX2_shareLeaves 29 = .ok (.iadd, 1) := by decide +kernel
theorem dX2_shareLeaves_30 : decode cX2_shareLeaves 30 = .ok (.iload 7, 2) := by decide +kernel
theorem dX2_shareLeaves_32 : decode cX2_shareLeaves 32 = .ok (.iastore, 1) := by decide +kernel
theorem dX2_shareLeaves_33 : decode cX2_shareLeaves 33 = .ok (.aload_n 3, 1) := by decide +kernel
theorem dX2_shareLeaves_34 : decode cX2_shareLeaves 34 = .ok (.getfield 51, 3) := by decide +kernel
theorem dX2_shareLeaves_37 : decode cX2_shareLeaves 37 = .ok (.iload 4, 2) := by decide +kernel
theorem dX2_shareLeaves_39 : decode cX2_shareLeaves 39 = .ok (.iload 6, 2) := by decide +kernel
theorem dX2_shareLeaves_41 : decode cX2_shareLeaves 41 = .ok (.iadd, 1) := by decide +kernel
theorem dX2_shareLeaves_42 : decode cX2_shareLeaves 42 = .ok (.aload_n 1, 1) := by decide +kernel
theorem dX2_shareLeaves_43 : decode cX2_shareLeaves 43 = .ok (.getfield 51, 3) := by decide +kernel
theorem dX2_shareLeaves_46 : decode cX2_shareLeaves 46 = .ok (.iload_n 2, 1) := by decide +kernel
theorem dX2_shareLeaves_47 : decode cX2_shareLeaves 47 = .ok (.iload 6, 2) := by decide +kernel
theorem dX2_shareLeaves_49 : decode cX2_shareLeaves 49 = .ok (.iadd, 1) := by decide +kernel
theorem dX2_shareLeaves_50 : decode cX2_shareLeaves 50 = .ok (.iaload, 1) := by decide +kernel
theorem dX2_shareLeaves_51 : decode cX2_shareLeaves 51 = .ok (.iastore, 1) := by decide +kernel
theorem dX2_shareLeaves_52 : decode cX2_shareLeaves 52 = .ok (.iload 7, 2) := by decide +kernel
theorem dX2_shareLeaves_54 : decode cX2_shareLeaves 54 = .ok (.iconst (-1), 1) := by decide +kernel
theorem dX2_shareLeaves_55 : decode cX2_shareLeaves 55 = .ok (.if_icmp .eq 12, 3) := by decide +kernel
theorem dX2_shareLeaves_58 : decode cX2_shareLeaves 58 = .ok (.aload_n 0, 1) := by decide +kernel
theorem dX2_shareLeaves_59 : decode cX2_shareLeaves 59 = .ok (.getfield 18, 3) := by decide +kernel
theorem dX2_shareLeaves_62 : decode cX2_shareLeaves 62 = .ok (.iload 7, 2) := by decide +kernel
theorem dX2_shareLeaves_64 : decode cX2_shareLeaves 64 = .ok (.invokevirtual 199, 3) := by decide +kernel
theorem dX2_shareLeaves_67 : decode cX2_shareLeaves 67 = .ok (.iinc 6 1, 3) := by decide +kernel
theorem dX2_shareLeaves_70 : decode cX2_shareLeaves 70 = .ok (.goto (-67), 3) := by decide +kernel
theorem dX2_shareLeaves_73 : decode cX2_shareLeaves 73 = .ok (.return_, 1) := by decide +kernel
set_option maxRecDepth 20000 in
theorem ggX2_setConstant_X2_letGo : GoodIn wsX2_setConstant wsX2_letGo := goodIn_r _ [7, 8, 9, 10, 11, 12, 13, 14, 15, 16, 21, 22, 23, 24, 25, 26, 27, 28, 29, 30] (by decide +kernel) (by decide +kernel)
set_option maxRecDepth 20000 in
theorem gX2_setConstant_X2_letGo : GoodIn wsX2_setConstant (wsV RX2 202 RX2 yX2_letGo wsX2_letGo) := goodIn_app (goodIn_of _ (by decide +kernel)) ggX2_setConstant_X2_letGo
theorem dX2_setConstant_0 : decode cX2_setConstant 0 = .ok (.aload_n 0, 1) := by decide +kernel
theorem dX2_setConstant_1 : decode cX2_setConstant 1 = .ok (.aload_n 1, 1) := by decide +kernel
theorem dX2_setConstant_2 : decode cX2_setConstant 2 = .ok (.getfield 101, 3) := by decide +kernel
theorem dX2_setConstant_5 : decode cX2_setConstant 5 = .ok (.iload_n 2, 1) := by decide +kernel
theorem dX2_setConstant_6 : decode cX2_setConstant 6 = .ok (.iaload, 1) := by decide +kernel
theorem dX2_setConstant_7 : decode cX2_setConstant 7 = .ok (.invokevirtual 202, 3) := by decide +kernel
theorem dX2_setConstant_10 : decode cX2_setConstant 10 = .ok (.aload_n 1, 1) := by decide +kernel
theorem dX2_setConstant_11 : decode cX2_setConstant 11 = .ok (.getfield 101, 3) := by decide +kernel
theorem dX2_setConstant_14 : decode cX2_setConstant 14 = .ok (.iload_n 2, 1) := by decide +kernel
theorem dX2_setConstant_15 : decode cX2_setConstant 15 = .ok (.iconst (-1), 1) := by decide +kernel
theorem dX2_setConstant_16 : decode cX2_setConstant 16 = .ok (.iastore, 1) := by decide +kernel
theorem dX2_setConstant_17 : decode cX2_setConstant 17 = .ok (.aload_n 1, 1) := by decide +kernel
theorem dX2_setConstant_18 : decode cX2_setConstant 18 = .ok (.getfield 51, 3) := by decide +kernel
theorem dX2_setConstant_21 : decode cX2_setConstant 21 = .ok (.iload_n 2, 1) := by decide +kernel
theorem dX2_setConstant_22 : decode cX2_setConstant 22 = .ok (.iload_n 3, 1) := by decide +kernel
theorem dX2_setConstant_23 : decode cX2_setConstant 23 = .ok (.iastore, 1) := by decide +kernel
theorem dX2_setConstant_24 : decode cX2_setConstant 24 = .ok (.return_, 1) := by decide +kernel
set_option maxRecDepth 20000 in
theorem ggX2_setOwn_X0_take : GoodIn wsX2_setOwn wsX0_take := goodIn_r _ [8, 9, 10, 11, 12, 50, 51, 52, 53, 54] (by decide +kernel) (by decide +kernel)
set_option maxRecDepth 20000 in
theorem gX2_setOwn_X0_take : GoodIn wsX2_setOwn (wsV RX2 205 RX0 yX0_take wsX0_take) := goodIn_app (goodIn_of _ (by decide +kernel)) ggX2_setOwn_X0_take
set_option maxRecDepth 20000 in
theorem ggX2_setOwn_X1_valuesIn : GoodIn wsX2_setOwn wsX1_valuesIn := goodIn_r _ [17, 18, 19, 20, 21, 22, 46, 47, 48, 49] (by decide +kernel) (by decide +kernel)
set_option maxRecDepth 20000 in
theorem gX2_setOwn_X1_valuesIn : GoodIn wsX2_setOwn (wsV RX2 189 RX1 yX1_valuesIn wsX1_valuesIn) := goodIn_app (goodIn_of _ (by decide +kernel)) ggX2_setOwn_X1_valuesIn
set_option maxRecDepth 20000 in
theorem ggX2_setOwn_X0_write : GoodIn wsX2_setOwn wsX0_write := goodIn_r _ [26, 27, 28, 29, 30, 31, 50, 51, 52, 53, 54] (by decide +kernel) (by decide +kernel)
set_option maxRecDepth 20000 in
theorem gX2_setOwn_X0_write : GoodIn wsX2_setOwn (wsV RX2 192 RX0 yX0_write wsX0_write) := goodIn_app (goodIn_of _ (by decide +kernel)) ggX2_setOwn_X0_write
set_option maxRecDepth 20000 in
theorem ggX2_setOwn_X2_letGo : GoodIn wsX2_setOwn wsX2_letGo := goodIn_r _ [36, 1, 37, 38, 39, 7, 40, 12, 11, 9, 41, 42, 43, 44, 45, 50, 51, 52, 53, 54] (by decide +kernel) (by decide +kernel)
set_option maxRecDepth 20000 in
theorem gX2_setOwn_X2_letGo : GoodIn wsX2_setOwn (wsV RX2 202 RX2 yX2_letGo wsX2_letGo) := goodIn_app (goodIn_of _ (by decide +kernel)) ggX2_setOwn_X2_letGo
theorem dX2_setOwn_0 : decode cX2_setOwn 0 = .ok (.aload_n 0, 1) := by decide +kernel
theorem dX2_setOwn_1 : decode cX2_setOwn 1 = .ok (.getfield 18, 3) := by decide +kernel
theorem dX2_setOwn_4 : decode cX2_setOwn 4 = .ok (.invokevirtual 205, 3) := by decide +kernel
theorem dX2_setOwn_7 : decode cX2_setOwn 7 = .ok (.istore_n 3, 1) := by decide +kernel
theorem dX2_setOwn_8 : decode cX2_setOwn 8 = .ok (.aload_n 0, 1) := by decide +kernel
theorem dX2_setOwn_9 : decode cX2_setOwn 9 = .ok (.getfield 18, 3) := by decide +kernel
theorem dX2_setOwn_12 : decode cX2_setOwn 12 = .ok (.iload_n 3, 1) := by decide +kernel
theorem dX2_setOwn_13 : decode cX2_setOwn 13 = .ok (.aload_n 0, 1) := by decide +kernel
theorem dX2_setOwn_14 : decode cX2_setOwn 14 = .ok (.getfield 22, 3) := by decide +kernel
theorem dX2_setOwn_17 : decode cX2_setOwn 17 = .ok (.iload_n 2, 1) := by decide +kernel
theorem dX2_setOwn_18 : decode cX2_setOwn 18 = .ok (.bipush 16, 2) := by decide +kernel
theorem dX2_setOwn_20 : decode cX2_setOwn 20 = .ok (.imul, 1) := by decide +kernel
theorem dX2_setOwn_21 : decode cX2_setOwn 21 = .ok (.aload_n 1, 1) := by decide +kernel
theorem dX2_setOwn_22 : decode cX2_setOwn 22 = .ok (.iload_n 2, 1) := by decide +kernel
theorem dX2_setOwn_23 : decode cX2_setOwn 23 = .ok (.invokevirtual 189, 3) := by decide +kernel
theorem dX2_setOwn_26 : decode cX2_setOwn 26 = .ok (.invokevirtual 192, 3) := by decide +kernel
theorem dX2_setOwn_29 : decode cX2_setOwn 29 = .ok (.aload_n 0, 1) := by decide +kernel
theorem dX2_setOwn_30 : decode cX2_setOwn 30 = .ok (.aload_n 1, 1) := by decide +kernel
theorem dX2_setOwn_31 : decode cX2_setOwn 31 = .ok (.getfield 101, 3) := by decide +kernel
theorem dX2_setOwn_34 : decode cX2_setOwn 34 = .ok (.iload_n 2, 1) := by decide +kernel
theorem dX2_setOwn_35 : decode cX2_setOwn 35 = .ok (.iaload, 1) := by decide +kernel
theorem dX2_setOwn_36 : decode cX2_setOwn 36 = .ok (.invokevirtual 202, 3) := by decide +kernel
theorem dX2_setOwn_39 : decode cX2_setOwn 39 = .ok (.aload_n 1, 1) := by decide +kernel
theorem dX2_setOwn_40 : decode cX2_setOwn 40 = .ok (.getfield 101, 3) := by decide +kernel
theorem dX2_setOwn_43 : decode cX2_setOwn 43 = .ok (.iload_n 2, 1) := by decide +kernel
theorem dX2_setOwn_44 : decode cX2_setOwn 44 = .ok (.iload_n 3, 1) := by decide +kernel
theorem dX2_setOwn_45 : decode cX2_setOwn 45 = .ok (.iastore, 1) := by decide +kernel
theorem dX2_setOwn_46 : decode cX2_setOwn 46 = .ok (.return_, 1) := by decide +kernel
set_option maxRecDepth 20000 in
theorem ggX2_letGo_X0_dropHolder : GoodIn wsX2_letGo wsX0_dropHolder := goodIn_r _ [6, 7, 8, 9, 15, 16, 17, 18, 19] (by decide +kernel) (by decide +kernel)
set_option maxRecDepth 20000 in
theorem gX2_letGo_X0_dropHolder : GoodIn wsX2_letGo (wsV RX2 208 RX0 yX0_dropHolder wsX0_dropHolder) := goodIn_app (goodIn_of _ (by decide +kernel)) ggX2_letGo_X0_dropHolder
theorem dX2_letGo_0 : decode cX2_letGo 0 = .ok (.iload_n 1, 1) := by decide +kernel
theorem dX2_letGo_1 : decode cX2_letGo 1 = .ok (.iconst (-1), 1) := by decide +kernel
theorem dX2_letGo_2 : decode cX2_letGo 2 = .ok (.if_icmp .eq 11, 3) := by decide +kernel
theorem dX2_letGo_5 : decode cX2_letGo 5 = .ok (.aload_n 0, 1) := by decide +kernel
theorem dX2_letGo_6 : decode cX2_letGo 6 = .ok (.getfield 18, 3) := by decide +kernel
theorem dX2_letGo_9 : decode cX2_letGo 9 = .ok (.iload_n 1, 1) := by decide +kernel
theorem dX2_letGo_10 : decode cX2_letGo 10 = .ok (.invokevirtual 208, 3) := by decide +kernel
theorem dX2_letGo_13 : decode cX2_letGo 13 = .ok (.return_, 1) := by decide +kernel
set_option maxRecDepth 20000 in
theorem ggX2_sortNext_X2_mergeInNext : GoodIn wsX2_sortNext wsX2_mergeInNext := goodIn_r _ [9, 10, 11, 12, 13, 14, 15, 16, 17, 18, 19, 20] (by decide +kernel) (by decide +kernel)
set_option maxRecDepth 20000 in
theorem gX2_sortNext_X2_mergeInNext : GoodIn wsX2_sortNext (wsV RX2 211 RX2 yX2_mergeInNext wsX2_mergeInNext) := goodIn_app (goodIn_of _ (by decide +kernel)) ggX2_sortNext_X2_mergeInNext
theorem dX2_sortNext_0 : decode cX2_sortNext 0 = .ok (.iconst 1, 1) := by decide +kernel
theorem dX2_sortNext_1 : decode cX2_sortNext 1 = .ok (.istore_n 2, 1) := by decide +kernel
theorem dX2_sortNext_2 : decode cX2_sortNext 2 = .ok (.iload_n 2, 1) := by decide +kernel
theorem dX2_sortNext_3 : decode cX2_sortNext 3 = .ok (.iload_n 1, 1) := by decide +kernel
theorem dX2_sortNext_4 : decode cX2_sortNext 4 = .ok (.if_icmp .ge 45, 3) := by decide +kernel
theorem dX2_sortNext_7 : decode cX2_sortNext 7 = .ok (.iconst 0, 1) := by decide +kernel
theorem dX2_sortNext_8 : decode cX2_sortNext 8 = .ok (.istore_n 3, 1) := by decide +kernel
theorem dX2_sortNext_9 : decode cX2_sortNext 9 = .ok (.iload_n 3, 1) := by decide +kernel
theorem dX2_sortNext_10 : decode cX2_sortNext 10 = .ok (.iload_n 2, 1) := by decide +kernel
theorem dX2_sortNext_11 : decode cX2_sortNext 11 = .ok (.iadd, 1) := by decide +kernel
theorem dX2_sortNext_12 : decode cX2_sortNext 12 = .ok (.iload_n 1, 1) := by decide +kernel
theorem dX2_sortNext_13 : decode cX2_sortNext 13 = .ok (.if_icmp .ge 29, 3) := by decide +kernel
theorem dX2_sortNext_16 : decode cX2_sortNext 16 = .ok (.aload_n 0, 1) := by decide +kernel
theorem dX2_sortNext_17 : decode cX2_sortNext 17 = .ok (.iload_n 3, 1) := by decide +kernel
theorem dX2_sortNext_18 : decode cX2_sortNext 18 = .ok (.iload_n 3, 1) := by decide +kernel
theorem dX2_sortNext_19 : decode cX2_sortNext 19 = .ok (.iload_n 2, 1) := by decide +kernel
theorem dX2_sortNext_20 : decode cX2_sortNext 20 = .ok (.iadd, 1) := by decide +kernel
theorem dX2_sortNext_21 : decode cX2_sortNext 21 = .ok (.iload_n 3, 1) := by decide +kernel
theorem dX2_sortNext_22 : decode cX2_sortNext 22 = .ok (.iconst 2, 1) := by decide +kernel
theorem dX2_sortNext_23 : decode cX2_sortNext 23 = .ok (.iload_n 2, 1) := by decide +kernel
theorem dX2_sortNext_24 : decode cX2_sortNext 24 = .ok (.imul, 1) := by decide +kernel
theorem dX2_sortNext_25 : decode cX2_sortNext 25 = .ok (.iadd, 1) := by decide +kernel
theorem dX2_sortNext_26 : decode cX2_sortNext 26 = .ok (.iload_n 1, 1) := by decide +kernel
theorem dX2_sortNext_27 : decode cX2_sortNext 27 = .ok (.invokestatic 130, 3) := by decide +kernel
theorem dX2_sortNext_30 : decode cX2_sortNext 30 = .ok (.invokevirtual 211, 3) := by decide +kernel
theorem dX2_sortNext_33 : decode cX2_sortNext 33 = .ok (.iload_n 3, 1) := by decide +kernel
theorem dX2_sortNext_34 : decode cX2_sortNext 34 = .ok (.iconst 2, 1) := by decide +kernel
theorem dX2_sortNext_35 : decode cX2_sortNext 35 = .ok (.iload_n 2, 1) := by decide +kernel
theorem dX2_sortNext_36 : decode cX2_sortNext 36 = .ok (.imul, 1) := by decide +kernel
theorem dX2_sortNext_37 : decode cX2_sortNext 37 = .ok (.iadd, 1) := by decide +kernel
theorem dX2_sortNext_38 : decode cX2_sortNext 38 = .ok (.istore_n 3, 1) := by decide +kernel
theorem dX2_sortNext_39 : decode cX2_sortNext 39 = .ok (.goto (-30), 3) := by decide +kernel
theorem dX2_sortNext_42 : decode cX2_sortNext 42 = .ok (.iconst 2, 1) := by decide +kernel
theorem dX2_sortNext_43 : decode cX2_sortNext 43 = .ok (.iload_n 2, 1) := by decide +kernel
theorem dX2_sortNext_44 : decode cX2_sortNext 44 = .ok (.imul, 1) := by decide +kernel
theorem dX2_sortNext_45 : decode cX2_sortNext 45 = .ok (.istore_n 2, 1) := by decide +kernel
theorem dX2_sortNext_46 : decode cX2_sortNext 46 = .ok (.goto (-44), 3) := by decide +kernel
theorem dX2_sortNext_49 : decode cX2_sortNext 49 = .ok (.return_, 1) := by decide +kernel
theorem dX2_mergeInNext_0 : decode cX2_mergeInNext 0 = .ok (.aload_n 0, 1) := by decide +kernel
theorem dX2_mergeInNext_1 : decode cX2_mergeInNext 1 = .ok (.getfield 22, 3) := by decide +kernel
theorem dX2_mergeInNext_4 : decode cX2_mergeInNext 4 = .ok (.iload_n 2, 1) := by decide +kernel
theorem dX2_mergeInNext_5 : decode cX2_mergeInNext 5 = .ok (.iconst 1, 1) := by decide +kernel
theorem dX2_mergeInNext_6 : decode cX2_mergeInNext 6 = .ok (.isub, 1) := by decide +kernel
theorem dX2_mergeInNext_7 : decode cX2_mergeInNext 7 = .ok (.iaload, 1) := by decide +kernel
theorem dX2_mergeInNext_8 : decode cX2_mergeInNext 8 = .ok (.aload_n 0, 1) := by decide +kernel
theorem dX2_mergeInNext_9 : decode cX2_mergeInNext 9 = .ok (.getfield 22, 3) := by decide +kernel
theorem dX2_mergeInNext_12 : decode cX2_mergeInNext 12 = .ok (.iload_n 2, 1) := by decide +kernel
theorem dX2_mergeInNext_13 : decode cX2_mergeInNext 13 = .ok (.iaload, 1) := by decide +kernel
theorem dX2_mergeInNext_14 : decode cX2_mergeInNext 14 = .ok (.if_icmp .gt 4, 3) := by decide +kernel
theorem dX2_mergeInNext_17 : decode cX2_mergeInNext 17 = .ok (.return_, 1) := by decide +kernel
theorem dX2_mergeInNext_18 : decode cX2_mergeInNext 18 = .ok (.aload_n 0, 1) := by decide +kernel
theorem dX2_mergeInNext_19 : decode cX2_mergeInNext 19 = .ok (.getfield 22, 3) := by decide +kernel
theorem dX2_mergeInNext_22 : decode cX2_mergeInNext 22 = .ok (.iload_n 1, 1) := by decide +kernel
theorem dX2_mergeInNext_23 : decode cX2_mergeInNext 23 = .ok (.aload_n 0, 1) := by decide +kernel
theorem dX2_mergeInNext_24 : decode cX2_mergeInNext 24 = .ok (.getfield 26, 3) := by decide +kernel
theorem dX2_mergeInNext_27 : decode cX2_mergeInNext 27 = .ok (.iload_n 1, 1) := by decide +kernel
theorem dX2_mergeInNext_28 : decode cX2_mergeInNext 28 = .ok (.iload_n 2, 1) := by decide +kernel
theorem dX2_mergeInNext_29 : decode cX2_mergeInNext 29 = .ok (.iload_n 1, 1) := by decide +kernel
theorem dX2_mergeInNext_30 : decode cX2_mergeInNext 30 = .ok (.isub, 1) := by decide +kernel
theorem dX2_mergeInNext_31 : decode cX2_mergeInNext 31 = .ok (.invokestatic 215, 3) := by decide +kernel
theorem dX2_mergeInNext_34 : decode cX2_mergeInNext 34 = .ok (.iload_n 1, 1) := by decide +kernel
theorem dX2_mergeInNext_35 : decode cX2_mergeInNext 35 = .ok (.istore 4, 2) := by decide +kernel
theorem dX2_mergeInNext_37 : decode cX2_mergeInNext 37 = .ok (.iload_n 2, 1) := by decide +kernel
theorem dX2_mergeInNext_38 : decode cX2_mergeInNext 38 = .ok (.istore 5, 2) := by decide +kernel
theorem dX2_mergeInNext_40 : decode cX2_mergeInNext 40 = .ok (.iload_n 1, 1) := by decide +kernel
theorem dX2_mergeInNext_41 : decode cX2_mergeInNext 41 = .ok (.istore 6, 2) := by decide +kernel
theorem dX2_mergeInNext_43 : decode cX2_mergeInNext 43 = .ok (.iload 6, 2) := by decide +kernel
theorem dX2_mergeInNext_45 : decode cX2_mergeInNext 45 = .ok (.iload_n 3, 1) := by decide +kernel
theorem dX2_mergeInNext_46 : decode cX2_mergeInNext 46 = .ok (.if_icmp .ge 75, 3) := by decide +kernel
theorem dX2_mergeInNext_49 : decode cX2_mergeInNext 49 = .ok (.iload 4, 2) := by decide +kernel
theorem dX2_mergeInNext_51 : decode cX2_mergeInNext 51 = .ok (.iload_n 2, 1) := by decide +kernel
theorem dX2_mergeInNext_52 : decode cX2_mergeInNext 52 = .ok (.if_icmp .ge 69, 3) := by decide +kernel
theorem dX2_mergeInNext_55 : decode cX2_mergeInNext 55 = .ok (.iload 5, 2) := by decide +kernel
theorem dX2_mergeInNext_57 : decode cX2_mergeInNext 57 = .ok (.iload_n 3, 1) := by decide +kernel
theorem dX2_mergeInNext_58 : decode cX2_mergeInNext 58 = .ok (.if_icmp .ge 40, 3) := by decide +kernel
theorem dX2_mergeInNext_61 : decode cX2_mergeInNext 61 = .ok (.aload_n 0, 1) := by decide +kernel
theorem dX2_mergeInNext_62 : decode cX2_mergeInNext 62 = .ok (.getfield 22, 3) := by decide +kernel
theorem dX2_mergeInNext_65 : decode cX2_mergeInNext 65 = .ok (.iload 5, 2) := by decide +kernel
theorem dX2_mergeInNext_67 : decode cX2_mergeInNext 67 = .ok (.iaload, 1) := by decide +kernel
theorem dX2_mergeInNext_68 : decode cX2_mergeInNext 68 = .ok (.aload_n 0, 1) := by decide +kernel
theorem dX2_mergeInNext_69 : decode cX2_mergeInNext 69 = .ok (.getfield 26, 3) := by decide +kernel
theorem dX2_mergeInNext_72 : decode cX2_mergeInNext 72 = .ok (.iload 4, 2) := by decide +kernel
theorem dX2_mergeInNext_74 : decode cX2_mergeInNext 74 = .ok (.iaload, 1) := by decide +kernel
theorem dX2_mergeInNext_75 : decode cX2_mergeInNext 75 = .ok (.if_icmp .ge 23, 3) := by decide +kernel
theorem dX2_mergeInNext_78 : decode cX2_mergeInNext 78 = .ok (.aload_n 0, 1) := by decide +kernel
theorem dX2_mergeInNext_79 : decode cX2_mergeInNext 79 = .ok (.getfield 22, 3) := by decide +kernel
theorem dX2_mergeInNext_82 : decode cX2_mergeInNext 82 = .ok (.iload 6, 2) := by decide +kernel
theorem dX2_mergeInNext_84 : decode cX2_mergeInNext 84 = .ok (.aload_n 0, 1) := by decide +kernel
theorem dX2_mergeInNext_85 : decode cX2_mergeInNext 85 = .ok (.getfield 22, 3) := by decide +kernel
theorem dX2_mergeInNext_88 : decode cX2_mergeInNext 88 = .ok (.iload 5, 2) := by decide +kernel
theorem dX2_mergeInNext_90 : decode cX2_mergeInNext 90 = .ok (.iaload, 1) := by decide +kernel
theorem dX2_mergeInNext_91 : decode cX2_mergeInNext 91 = .ok (.iastore, 1) := by decide +kernel
theorem dX2_mergeInNext_92 : decode cX2_mergeInNext 92 = .ok (.iinc 5 1, 3) := by decide +kernel
theorem dX2_mergeInNext_95 : decode cX2_mergeInNext 95 = .ok (.goto 20, 3) := by decide +kernel
theorem dX2_mergeInNext_98 : decode cX2_mergeInNext 98 = .ok (.aload_n 0, 1) := by decide +kernel
theorem dX2_mergeInNext_99 : decode cX2_mergeInNext 99 = .ok (.getfield 22, 3) := by decide +kernel
theorem dX2_mergeInNext_102 : decode cX2_mergeInNext 102 = .ok (.iload 6, 2) := by decide +kernel
theorem dX2_mergeInNext_104 : decode cX2_mergeInNext 104 = .ok (.aload_n 0, 1) := by decide +kernel
theorem dX2_mergeInNext_105 : decode cX2_mergeInNext 105 = .ok (.getfield 26, 3) := by decide +kernel
theorem dX2_mergeInNext_108 : decode cX2_mergeInNext 108 = .ok (.iload 4, 2) := by decide +kernel
theorem dX2_mergeInNext_110 : decode cX2_mergeInNext 110 = .ok (.iaload, 1) := by decide +kernel
theorem dX2_mergeInNext_111 : decode cX2_mergeInNext 111 = .ok (.iastore, 1) := by decide +kernel
theorem dX2_mergeInNext_112 : decode cX2_mergeInNext 112 = .ok (.iinc 4 1, 3) := by decide +kernel
theorem dX2_mergeInNext_115 : decode cX2_mergeInNext 115 = .ok (.iinc 6 1, 3) := by decide +kernel
theorem dX2_mergeInNext_118 : decode cX2_mergeInNext 118 = .ok (.goto (-75), 3) := by decide +kernel
theorem dX2_mergeInNext_121 : decode cX2_mergeInNext 121 = .ok (.return_, 1) := by decide +kernel
theorem dX3_init_0 : decode cX3_init 0 = .ok (.aload_n 0, 1) := by decide +kernel
theorem dX3_init_1 : decode cX3_init 1 = .ok (.invokespecial 1, 3) := by decide +kernel
theorem dX3_init_4 : decode cX3_init 4 = .ok (.aload_n 0, 1) := by decide +kernel
theorem dX3_init_5 : decode cX3_init 5 = .ok (.bipush 16, 2) := by decide +kernel
theorem dX3_init_7 : decode cX3_init 7 = .ok (.newarray .boolean, 2) := by decide +kernel
theorem dX3_init_9 : decode cX3_init 9 = .ok (.putfield 7, 3) := by decide +kernel
theorem dX3_init_12 : decode cX3_init 12 = .ok (.aload_n 0, 1) := by decide +kernel
theorem dX3_init_13 : decode cX3_init 13 = .ok (.bipush 16, 2) := by decide +kernel
theorem dX3_init_15 : decode cX3_init 15 = .ok (.newarray .int, 2) := by decide +kernel
theorem dX3_init_17 : decode cX3_init 17 = .ok (.putfield 13, 3) := by decide +kernel
theorem dX3_init_20 : decode cX3_init 20 = .ok (.aload_n 0, 1) := by decide +kernel
theorem dX3_init_21 : decode cX3_init 21 = .ok (.ldc 17, 2) := by decide +kernel
theorem dX3_init_23 : decode cX3_init 23 = .ok (.newarray .int, 2) := by decide +kernel
theorem dX3_init_25 : decode cX3_init 25 = .ok (.putfield 18, 3) := by decide +kernel
theorem dX3_init_28 : decode cX3_init 28 = .ok (.aload_n 0, 1) := by decide +kernel
theorem dX3_init_29 : decode cX3_init 29 = .ok (.sipush 4352, 3) := by decide +kernel
theorem dX3_init_32 : decode cX3_init 32 = .ok (.newarray .int, 2) := by decide +kernel
theorem dX3_init_34 : decode cX3_init 34 = .ok (.putfield 21, 3) := by decide +kernel
theorem dX3_init_37 : decode cX3_init 37 = .ok (.aload_n 0, 1) := by decide +kernel
theorem dX3_init_38 : decode cX3_init 38 = .ok (.ldc 24, 2) := by decide +kernel
theorem dX3_init_40 : decode cX3_init 40 = .ok (.newarray .int, 2) := by decide +kernel
theorem dX3_init_42 : decode cX3_init 42 = .ok (.putfield 25, 3) := by decide +kernel
theorem dX3_init_45 : decode cX3_init 45 = .ok (.aload_n 0, 1) := by decide +kernel
theorem dX3_init_46 : decode cX3_init 46 = .ok (.sipush 4096, 3) := by decide +kernel
theorem dX3_init_49 : decode cX3_init 49 = .ok (.newarray .int, 2) := by decide +kernel
theorem dX3_init_51 : decode cX3_init 51 = .ok (.putfield 28, 3) := by decide +kernel
theorem dX3_init_54 : decode cX3_init 54 = .ok (.return_, 1) := by decide +kernel
theorem dX3_thrown_0 : decode cX3_thrown 0 = .ok (.aload_n 0, 1) := by decide +kernel
theorem dX3_thrown_1 : decode cX3_thrown 1 = .ok (.getfield 31, 3) := by decide +kernel
theorem dX3_thrown_4 : decode cX3_thrown 4 = .ok (.ireturn, 1) := by decide +kernel
theorem dX3_isArray_0 : decode cX3_isArray 0 = .ok (.iload_n 1, 1) := by decide +kernel
theorem dX3_isArray_1 : decode cX3_isArray 1 = .ok (.ifCond .lt 22, 3) := by decide +kernel
theorem dX3_isArray_4 : decode cX3_isArray 4 = .ok (.iload_n 1, 1) := by decide +kernel
theorem dX3_isArray_5 : decode cX3_isArray 5 = .ok (.bipush 16, 2) := by decide +kernel
theorem dX3_isArray_7 : decode cX3_isArray 7 = .ok (.if_icmp .ge 16, 3) := by decide +kernel
theorem dX3_isArray_10 : decode cX3_isArray 10 = .ok (.aload_n 0, 1) := by decide +kernel
theorem dX3_isArray_11 : decode cX3_isArray 11 = .ok (.getfield 7, 3) := by decide +kernel
theorem dX3_isArray_14 : decode cX3_isArray 14 = .ok (.iload_n 1, 1) := by decide +kernel
theorem dX3_isArray_15 : decode cX3_isArray 15 = .ok (.baload, 1) := by decide +kernel
theorem dX3_isArray_16 : decode cX3_isArray 16 = .ok (.ifCond .eq 7, 3) := by decide +kernel
theorem dX3_isArray_19 : decode cX3_isArray 19 = .ok (.iconst 1, 1) := by decide +kernel
theorem dX3_isArray_20 : decode cX3_isArray 20 = .ok (.goto 4, 3) := by decide +kernel
theorem dX3_isArray_23 : decode cX3_isArray 23 = .ok (.iconst 0, 1) := by decide +kernel
theorem dX3_isArray_24 : decode cX3_isArray 24 = .ok (.ireturn, 1) := by decide +kernel
theorem dX3_free_0 : decode cX3_free 0 = .ok (.iconst 0, 1) := by decide +kernel
theorem dX3_free_1 : decode cX3_free 1 = .ok (.istore_n 1, 1) := by decide +kernel
theorem dX3_free_2 : decode cX3_free 2 = .ok (.iload_n 1, 1) := by decide +kernel
theorem dX3_free_3 : decode cX3_free 3 = .ok (.bipush 16, 2) := by decide +kernel
theorem dX3_free_5 : decode cX3_free 5 = .ok (.if_icmp .ge 18, 3) := by decide +kernel
theorem dX3_free_8 : decode cX3_free 8 = .ok (.aload_n 0, 1) := by decide +kernel
theorem dX3_free_9 : decode cX3_free 9 = .ok (.getfield 7, 3) := by decide +kernel
theorem dX3_free_12 : decode cX3_free 12 = .ok (.iload_n 1, 1) := by decide +kernel
theorem dX3_free_13 : decode cX3_free 13 = .ok (.baload, 1) := by decide +kernel
theorem dX3_free_14 : decode cX3_free 14 = .ok (.ifCond .eq 9, 3) := by decide +kernel
theorem dX3_free_17 : decode cX3_free 17 = .ok (.iinc 1 1, 3) := by decide +kernel
theorem dX3_free_20 : decode cX3_free 20 = .ok (.goto (-18), 3) := by decide +kernel
theorem dX3_free_23 : decode cX3_free 23 = .ok (.iload_n 1, 1) := by decide +kernel
theorem dX3_free_24 : decode cX3_free 24 = .ok (.ireturn, 1) := by decide +kernel
theorem dX3_leaves_0 : decode cX3_leaves 0 = .ok (.iload_n 0, 1) := by decide +kernel
theorem dX3_leaves_1 : decode cX3_leaves 1 = .ok (.bipush 15, 2) := by decide +kernel
theorem dX3_leaves_3 : decode cX3_leaves 3 = .ok (.iadd, 1) := by decide +kernel
theorem dX3_leaves_4 : decode cX3_leaves 4 = .ok (.bipush 16, 2) := by decide +kernel
theorem dX3_leaves_6 : decode cX3_leaves 6 = .ok (.idiv, 1) := by decide +kernel
theorem dX3_leaves_7 : decode cX3_leaves 7 = .ok (.ireturn, 1) := by decide +kernel
set_option maxRecDepth 20000 in
theorem ggX3_countAll_X3_leaves : GoodIn wsX3_countAll wsX3_leaves := goodIn_r _ [9] (by decide +kernel) (by decide +kernel)
set_option maxRecDepth 20000 in
theorem gX3_countAll_X3_leaves : GoodIn wsX3_countAll (va_wsS RX3 38 yX3_leaves wsX3_leaves) := goodIn_app (goodIn_of _ (by decide +kernel)) ggX3_countAll_X3_leaves
theorem dX3_countAll_0 : decode cX3_countAll 0 = .ok (.iconst 0, 1) := by decide +kernel
theorem dX3_countAll_1 : decode cX3_countAll 1 = .ok (.istore_n 1, 1) := by decide +kernel
theorem dX3_countAll_2 : decode cX3_countAll 2 = .ok (.iload_n 1, 1) := by decide +kernel
theorem dX3_countAll_3 : decode cX3_countAll 3 = .ok (.aload_n 0, 1) := by decide +kernel
theorem dX3_countAll_4 : decode cX3_countAll 4 = .ok (.getfield 35, 3) := by decide +kernel
theorem dX3_countAll_7 : decode cX3_countAll 7 = .ok (.if_icmp .gt 16, 3) := by decide +kernel
theorem dX3_countAll_10 : decode cX3_countAll 10 = .ok (.aload_n 0, 1) := by decide +kernel
theorem dX3_countAll_11 : decode cX3_countAll 11 = .ok (.getfield 25, 3) := by decide +kernel
theorem dX3_countAll_14 : decode cX3_countAll 14 = .ok (.iload_n 1, 1) := by decide +kernel
theorem dX3_countAll_15 : decode cX3_countAll 15 = .ok (.iconst 0, 1) := by decide +kernel
theorem dX3_countAll_16 : decode cX3_countAll 16 = .ok (.iastore, 1) := by decide +kernel
theorem dX3_countAll_17 : decode cX3_countAll 17 = .ok (.iinc 1 1, 3) := by decide +kernel
theorem dX3_countAll_20 : decode cX3_countAll 20 = .ok (.goto (-18), 3) := by decide +kernel
theorem dX3_countAll_23 : decode cX3_countAll 23 = .ok (.iconst 0, 1) := by decide +kernel
theorem dX3_countAll_24 : decode cX3_countAll 24 = .ok (.istore_n 1, 1) := by decide +kernel
theorem dX3_countAll_25 : decode cX3_countAll 25 = .ok (.iconst 0, 1) := by decide +kernel
theorem dX3_countAll_26 : decode cX3_countAll 26 = .ok (.istore_n 2, 1) := by decide +kernel
theorem dX3_countAll_27 : decode cX3_countAll 27 = .ok (.iload_n 2, 1) := by decide +kernel
theorem dX3_countAll_28 : decode cX3_countAll 28 = .ok (.bipush 16, 2) := by decide +kernel
theorem dX3_countAll_30 : decode cX3_countAll 30 = .ok (.if_icmp .ge 91, 3) := by decide +kernel
theorem dX3_countAll_33 : decode cX3_countAll 33 = .ok (.iconst 0, 1) := by decide +kernel
theorem dX3_countAll_34 : decode cX3_countAll 34 = .ok (.istore_n 3, 1) := by decide +kernel
theorem dX3_countAll_35 : decode cX3_countAll 35 = .ok (.aload_n 0, 1) := by decide +kernel
theorem dX3_countAll_36 : decode cX3_countAll 36 = .ok (.getfield 7, 3) := by decide +kernel
theorem dX3_countAll_39 : decode cX3_countAll 39 = .ok (.iload_n 2, 1) := by decide +kernel
theorem dX3_countAll_40 : decode cX3_countAll 40 = .ok (.baload, 1) := by decide +kernel
theorem dX3_countAll_41 : decode cX3_countAll 41 = .ok (.ifCond .eq 74, 3) := by decide +kernel
theorem dX3_countAll_44 : decode cX3_countAll 44 = .ok (.iload_n 3, 1) := by decide +kernel
theorem dX3_countAll_45 : decode cX3_countAll 45 = .ok (.aload_n 0, 1) := by decide +kernel
theorem dX3_countAll_46 : decode cX3_countAll 46 = .ok (.getfield 13, 3) := by decide +kernel
theorem dX3_countAll_49 : decode cX3_countAll 49 = .ok (.iload_n 2, 1) := by decide +kernel
theorem dX3_countAll_50 : decode cX3_countAll 50 = .ok (.iaload, 1) := by decide +kernel
theorem dX3_countAll_51 : decode cX3_countAll 51 = .ok (.invokestatic 38, 3) := by decide +kernel
theorem dX3_countAll_54 : decode cX3_countAll 54 = .ok (.if_icmp .ge 61, 3) := by decide +kernel
theorem dX3_countAll_57 : decode cX3_countAll 57 = .ok (.aload_n 0, 1) := by decide +kernel
theorem dX3_countAll_58 : decode cX3_countAll 58 = .ok (.getfield 21, 3) := by decide +kernel
theorem dX3_countAll_61 : decode cX3_countAll 61 = .ok (.sipush 256, 3) := by decide +kernel
theorem dX3_countAll_64 : decode cX3_countAll 64 = .ok (.iload_n 2, 1) := by decide +kernel
theorem dX3_countAll_65 : decode cX3_countAll 65 = .ok (.imul, 1) := by decide +kernel
theorem dX3_countAll_66 : decode cX3_countAll 66 = .ok (.iload_n 3, 1) := by decide +kernel
theorem dX3_countAll_67 : decode cX3_countAll 67 = .ok (.iadd, 1) := by decide +kernel
theorem dX3_countAll_68 : decode cX3_countAll 68 = .ok (.iaload, 1) := by decide +kernel
theorem dX3_countAll_69 : decode cX3_countAll 69 = .ok (.istore 4, 2) := by decide +kernel
theorem dX3_countAll_71 : decode cX3_countAll 71 = .ok (.iload 4, 2) := by decide +kernel
theorem dX3_countAll_73 : decode cX3_countAll 73 = .ok (.iconst (-1), 1) := by decide +kernel
theorem dX3_countAll_74 : decode cX3_countAll 74 = .ok (.if_icmp .ne 6, 3) := by decide +kernel
theorem dX3_countAll_77 : decode cX3_countAll 77 = .ok (.goto 32, 3) := by decide +kernel
theorem dX3_countAll_80 : decode cX3_countAll 80 = .ok (.iload_n 1, 1) := by decide +kernel
theorem dX3_countAll_81 : decode cX3_countAll 81 = .ok (.aload_n 0, 1) := by decide +kernel
theorem dX3_countAll_82 : decode cX3_countAll 82 = .ok (.getfield 25, 3) := by decide +kernel
theorem dX3_countAll_85 : decode cX3_countAll 85 = .ok (.iload 4, 2) := by decide +kernel
theorem dX3_countAll_87 : decode cX3_countAll 87 = .ok (.iaload, 1) := by decide +kernel
theorem dX3_countAll_88 : decode cX3_countAll 88 = .ok (.ifCond .ne 7, 3) := by decide +kernel
theorem dX3_countAll_91 : decode cX3_countAll 91 = .ok (.iconst 1, 1) := by decide +kernel
theorem dX3_countAll_92 : decode cX3_countAll 92 = .ok (.goto 4, 3) := by decide +kernel
theorem dX3_countAll_95 : decode cX3_countAll 95 = .ok (.iconst 0, 1) := by decide +kernel
theorem dX3_countAll_96 : decode cX3_countAll 96 = .ok (.iadd, 1) := by decide +kernel
theorem dX3_countAll_97 : decode cX3_countAll 97 = .ok (.istore_n 1, 1) := by decide +kernel
theorem dX3_countAll_98 : decode cX3_countAll 98 = .ok (.aload_n 0, 1) := by decide +kernel
theorem dX3_countAll_99 : decode cX3_countAll 99 = .ok (.getfield 25, 3) := by decide +kernel
theorem dX3_countAll_102 : decode cX3_countAll 102 = .ok (.iload 4, 2) := by decide +kernel
theorem dX3_countAll_104 : decode cX3_countAll 104 = .ok (.dup2, 1) := by decide +kernel
theorem dX3_countAll_105 : decode cX3_countAll 105 = .ok (.iaload, 1) := by decide +kernel
theorem dX3_countAll_106 : decode cX3_countAll 106 = .ok (.iconst 1, 1) := by decide +kernel
theorem dX3_countAll_107 : decode cX3_countAll 107 = .ok (.iadd, 1) := by decide +kernel
theorem dX3_countAll_108 : decode cX3_countAll 108 = .ok (.iastore, 1) := by decide +kernel
theorem dX3_countAll_109 : decode cX3_countAll 109 = .ok (.iinc 3 1, 3) := by decide +kernel
theorem dX3_countAll_112 : decode cX3_countAll 112 = .ok (.goto (-77), 3) := by decide +kernel
theorem dX3_countAll_115 : decode cX3_countAll 115 = .ok (.iinc 2 1, 3) := by decide +kernel
theorem dX3_countAll_118 : decode cX3_countAll 118 = .ok (.goto (-91), 3) := by decide +kernel
theorem dX3_countAll_121 : decode cX3_countAll 121 = .ok (.iload_n 1, 1) := by decide +kernel
theorem dX3_countAll_122 : decode cX3_countAll 122 = .ok (.ireturn, 1) := by decide +kernel
theorem dX3_isPlain_0 : decode cX3_isPlain 0 = .ok (.iconst 1, 1) := by decide +kernel
theorem dX3_isPlain_1 : decode cX3_isPlain 1 = .ok (.istore_n 3, 1) := by decide +kernel
theorem dX3_isPlain_2 : decode cX3_isPlain 2 = .ok (.iconst 1, 1) := by decide +kernel
theorem dX3_isPlain_3 : decode cX3_isPlain 3 = .ok (.istore 4, 2) := by decide +kernel
theorem dX3_isPlain_5 : decode cX3_isPlain 5 = .ok (.iload 4, 2) := by decide +kernel
theorem dX3_isPlain_7 : decode cX3_isPlain 7 = .ok (.iload_n 2, 1) := by decide +kernel
theorem dX3_isPlain_8 : decode cX3_isPlain 8 = .ok (.if_icmp .ge 37, 3) := by decide +kernel
theorem dX3_isPlain_11 : decode cX3_isPlain 11 = .ok (.iload_n 3, 1) := by decide +kernel
theorem dX3_isPlain_12 : decode cX3_isPlain 12 = .ok (.ifCond .eq 25, 3) := by decide +kernel
theorem dX3_isPlain_15 : decode cX3_isPlain 15 = .ok (.aload_n 0, 1) := by decide +kernel
theorem dX3_isPlain_16 : decode cX3_isPlain 16 = .ok (.getfield 18, 3) := by decide +kernel
theorem dX3_isPlain_19 : decode cX3_isPlain 19 = .ok (.iload_n 1, 1) := by decide +kernel
theorem dX3_isPlain_20 : decode cX3_isPlain 20 = .ok (.iload 4, 2) := by decide +kernel
theorem dX3_isPlain_22 : decode cX3_isPlain 22 = .ok (.iadd, 1) := by decide +kernel
theorem dX3_isPlain_23 : decode cX3_isPlain 23 = .ok (.iaload, 1) := by decide +kernel
theorem dX3_isPlain_24 : decode cX3_isPlain 24 = .ok (.aload_n 0, 1) := by decide +kernel
theorem dX3_isPlain_25 : decode cX3_isPlain 25 = .ok (.getfield 18, 3) := by decide +kernel
theorem dX3_isPlain_28 : decode cX3_isPlain 28 = .ok (.iload_n 1, 1) := by decide +kernel
theorem dX3_isPlain_29 : decode cX3_isPlain 29 = .ok (.iaload, 1) := by decide +kernel
theorem dX3_isPlain_30 : decode cX3_isPlain 30 = .ok (.if_icmp .ne 7, 3) := by decide +kernel
theorem dX3_isPlain_33 : decode cX3_isPlain 33 = .ok (.iconst 1, 1) := by decide +kernel
theorem dX3_isPlain_34 : decode cX3_isPlain 34 = .ok (.goto 4, 3) := by decide +kernel
theorem dX3_isPlain_37 : decode cX3_isPlain 37 = .ok (.iconst 0, 1) := by decide +kernel
theorem dX3_isPlain_38 : decode cX3_isPlain 38 = .ok (.istore_n 3, 1) := by decide +kernel
theorem dX3_isPlain_39 : decode cX3_isPlain 39 = .ok (.iinc 4 1, 3) := by decide +kernel
theorem dX3_isPlain_42 : decode cX3_isPlain 42 = .ok (.goto (-37), 3) := by decide +kernel
theorem dX3_isPlain_45 : decode cX3_isPlain 45 = .ok (.iload_n 3, 1) := by decide +kernel
theorem dX3_isPlain_46 : decode cX3_isPlain 46 = .ok (.ireturn, 1) := by decide +kernel
theorem dX3_inLeaf_0 : decode cX3_inLeaf 0 = .ok (.iload_n 0, 1) := by decide +kernel
theorem dX3_inLeaf_1 : decode cX3_inLeaf 1 = .ok (.bipush 16, 2) := by decide +kernel
theorem dX3_inLeaf_3 : decode cX3_inLeaf 3 = .ok (.iload_n 1, 1) := by decide +kernel
theorem dX3_inLeaf_4 : decode cX3_inLeaf 4 = .ok (.imul, 1) := by decide +kernel
theorem dX3_inLeaf_5 : decode cX3_inLeaf 5 = .ok (.isub, 1) := by decide +kernel
theorem dX3_inLeaf_6 : decode cX3_inLeaf 6 = .ok (.bipush 16, 2) := by decide +kernel
theorem dX3_inLeaf_8 : decode cX3_inLeaf 8 = .ok (.if_icmp .ge 12, 3) := by decide +kernel
theorem dX3_inLeaf_11 : decode cX3_inLeaf 11 = .ok (.iload_n 0, 1) := by decide +kernel
theorem dX3_inLeaf_12 : decode cX3_inLeaf 12 = .ok (.bipush 16, 2) := by decide +kernel
theorem dX3_inLeaf_14 : decode cX3_inLeaf 14 = .ok (.iload_n 1, 1) := by decide +kernel
theorem dX3_inLeaf_15 : decode cX3_inLeaf 15 = .ok (.imul, 1) := by decide +kernel
theorem dX3_inLeaf_16 : decode cX3_inLeaf 16 = .ok (.isub, 1) := by decide +kernel
theorem dX3_inLeaf_17 : decode cX3_inLeaf 17 = .ok (.goto 5, 3) := by decide +kernel
theorem dX3_inLeaf_20 : decode cX3_inLeaf 20 = .ok (.bipush 16, 2) := by decide +kernel
theorem dX3_inLeaf_22 : decode cX3_inLeaf 22 = .ok (.ireturn, 1) := by decide +kernel
theorem dX3_refuses_0 : decode cX3_refuses 0 = .ok (.aload_n 0, 1) := by decide +kernel
theorem dX3_refuses_1 : decode cX3_refuses 1 = .ok (.iload_n 1, 1) := by decide +kernel
theorem dX3_refuses_2 : decode cX3_refuses 2 = .ok (.ifCond .eq 7, 3) := by decide +kernel
theorem dX3_refuses_5 : decode cX3_refuses 5 = .ok (.iconst 1, 1) := by decide +kernel
theorem dX3_refuses_6 : decode cX3_refuses 6 = .ok (.goto 12, 3) := by decide +kernel
theorem dX3_refuses_9 : decode cX3_refuses 9 = .ok (.iload_n 2, 1) := by decide +kernel
theorem dX3_refuses_10 : decode cX3_refuses 10 = .ok (.ifCond .eq 7, 3) := by decide +kernel
theorem dX3_refuses_13 : decode cX3_refuses 13 = .ok (.iconst 2, 1) := by decide +kernel
theorem dX3_refuses_14 : decode cX3_refuses 14 = .ok (.goto 4, 3) := by decide +kernel
theorem dX3_refuses_17 : decode cX3_refuses 17 = .ok (.iconst 0, 1) := by decide +kernel
theorem dX3_refuses_18 : decode cX3_refuses 18 = .ok (.putfield 31, 3) := by decide +kernel
theorem dX3_refuses_21 : decode cX3_refuses 21 = .ok (.aload_n 0, 1) := by decide +kernel
theorem dX3_refuses_22 : decode cX3_refuses 22 = .ok (.getfield 31, 3) := by decide +kernel
theorem dX3_refuses_25 : decode cX3_refuses 25 = .ok (.ifCond .le 7, 3) := by decide +kernel
theorem dX3_refuses_28 : decode cX3_refuses 28 = .ok (.iconst 1, 1) := by decide +kernel
theorem dX3_refuses_29 : decode cX3_refuses 29 = .ok (.goto 4, 3) := by decide +kernel
theorem dX3_refuses_32 : decode cX3_refuses 32 = .ok (.iconst 0, 1) := by decide +kernel
theorem dX3_refuses_33 : decode cX3_refuses 33 = .ok (.ireturn, 1) := by decide +kernel
set_option maxRecDepth 20000 in
theorem ggX3_keep_X3_leaves : GoodIn wsX3_keep wsX3_leaves := goodIn_r _ [10] (by decide +kernel) (by decide +kernel)
set_option maxRecDepth 20000 in
theorem gX3_keep_X3_leaves : GoodIn wsX3_keep (va_wsS RX3 38 yX3_leaves wsX3_leaves) := goodIn_app (goodIn_of _ (by decide +kernel)) ggX3_keep_X3_leaves
set_option maxRecDepth 20000 in
theorem ggX3_keep_X3_inLeaf : GoodIn wsX3_keep wsX3_inLeaf := goodIn_r _ [13] (by decide +kernel) (by decide +kernel)
set_option maxRecDepth 20000 in
theorem gX3_keep_X3_inLeaf : GoodIn wsX3_keep (va_wsS RX3 43 yX3_inLeaf wsX3_inLeaf) := goodIn_app (goodIn_of _ (by decide +kernel)) ggX3_keep_X3_inLeaf
set_option maxRecDepth 20000 in
theorem ggX3_keep_X3_isPlain : GoodIn wsX3_keep wsX3_isPlain := goodIn_r _ [17, 5, 32, 33, 34, 35, 36, 37, 38, 39] (by decide +kernel) (by decide +kernel)
set_option maxRecDepth 20000 in
theorem gX3_keep_X3_isPlain : GoodIn wsX3_keep (wsV RX3 47 RX3 yX3_isPlain wsX3_isPlain) := goodIn_app (goodIn_of _ (by decide +kernel)) ggX3_keep_X3_isPlain
set_option maxRecDepth 20000 in
theorem ggX3_keep_X3_countAll : GoodIn wsX3_keep wsX3_countAll := goodIn_r _ [21, 6, 22, 3, 4, 1, 7, 8, 9, 10, 32, 33, 34, 35, 36, 37, 38, 39] (by decide +kernel) (by decide +kernel)
set_option maxRecDepth 20000 in
theorem gX3_keep_X3_countAll : GoodIn wsX3_keep (wsV RX3 51 RX3 yX3_countAll wsX3_countAll) := goodIn_app (goodIn_of _ (by decide +kernel)) ggX3_keep_X3_countAll
set_option maxRecDepth 20000 in
theorem ggX3_keep_X3_refuses : GoodIn wsX3_keep wsX3_refuses := goodIn_r _ [26, 27, 32, 33, 34, 35, 36, 37, 38, 39] (by decide +kernel) (by decide +kernel)
set_option maxRecDepth 20000 in
theorem gX3_keep_X3_refuses : GoodIn wsX3_keep (wsV RX3 55 RX3 yX3_refuses wsX3_refuses) := goodIn_app (goodIn_of _ (by decide +kernel)) ggX3_keep_X3_refuses
set_option maxRecDepth 20000 in
theorem ggX3_keep_X3_free : GoodIn wsX3_keep wsX3_free := goodIn_r _ [31, 3, 32, 33, 34, 35, 36, 37, 38, 39] (by decide +kernel) (by decide +kernel)
set_option maxRecDepth 20000 in
theorem gX3_keep_X3_free : GoodIn wsX3_keep (wsV RX3 59 RX3 yX3_free wsX3_free) := goodIn_app (goodIn_of _ (by decide +kernel)) ggX3_keep_X3_free
theorem dX3_keep_0 : decode cX3_keep 0 = .ok (.iconst 0, 1) := by decide +kernel
theorem dX3_keep_1 : decode cX3_keep 1 = .ok (.istore_n 2, 1) := by decide +kernel
theorem dX3_keep_2 : decode cX3_keep 2 = .ok (.iconst 0, 1) := by decide +kernel
theorem dX3_keep_3 : decode cX3_keep 3 = .ok (.istore_n 3, 1) := by decide +kernel
theorem dX3_keep_4 : decode cX3_keep 4 = .ok (.iload_n 3, 1) := by decide +kernel
theorem dX3_keep_5 : decode cX3_keep 5 = .ok (.iload_n 1, 1) := by decide +kernel
theorem dX3_keep_6 : decode cX3_keep 6 = .ok (.invokestatic 38, 3) := by decide +kernel
theorem dX3_keep_9 : decode cX3_keep 9 = .ok (.if_icmp .ge 74, 3) := by decide +kernel
theorem dX3_keep_12 : decode cX3_keep 12 = .ok (.aload_n 0, 1) := by decide +kernel
theorem dX3_keep_13 : decode cX3_keep 13 = .ok (.getfield 21, 3) := by decide +kernel
theorem dX3_keep_16 : decode cX3_keep 16 = .ok (.sipush 4096, 3) := by decide +kernel
theorem dX3_keep_19 : decode cX3_keep 19 = .ok (.iload_n 3, 1) := by decide +kernel
theorem dX3_keep_20 : decode cX3_keep 20 = .ok (.iadd, 1) := by decide +kernel
theorem dX3_keep_21 : decode cX3_keep 21 = .ok (.iaload, 1) := by decide +kernel
theorem dX3_keep_22 : decode cX3_keep 22 = .ok (.bipush (-2), 2) := by decide +kernel
theorem dX3_keep_24 : decode cX3_keep 24 = .ok (.if_icmp .eq 6, 3) := by decide +kernel
theorem dX3_keep_27 : decode cX3_keep 27 = .ok (.goto 50, 3) := by decide +kernel
theorem dX3_keep_30 : decode cX3_keep 30 = .ok (.aload_n 0, 1) := by decide +kernel
theorem dX3_keep_31 : decode cX3_keep 31 = .ok (.ldc 42, 2) := by decide +kernel
theorem dX3_keep_33 : decode cX3_keep 33 = .ok (.bipush 16, 2) := by decide +kernel
theorem dX3_keep_35 : decode cX3_keep 35 = .ok (.iload_n 3, 1) := by decide +kernel
theorem dX3_keep_36 : decode cX3_keep 36 = .ok (.imul, 1) := by decide +kernel
theorem dX3_keep_37 : decode cX3_keep 37 = .ok (.iadd, 1) := by decide +kernel
theorem dX3_keep_38 : decode cX3_keep 38 = .ok (.iload_n 1, 1) := by decide +kernel
theorem dX3_keep_39 : decode cX3_keep 39 = .ok (.iload_n 3, 1) := by decide +kernel
theorem dX3_keep_40 : decode cX3_keep 40 = .ok (.invokestatic 43, 3) := by decide +kernel
theorem dX3_keep_43 : decode cX3_keep 43 = .ok (.invokevirtual 47, 3) := by decide +kernel
theorem dX3_keep_46 : decode cX3_keep 46 = .ok (.istore 4, 2) := by decide +kernel
theorem dX3_keep_48 : decode cX3_keep 48 = .ok (.iload 4, 2) := by decide +kernel
theorem dX3_keep_50 : decode cX3_keep 50 = .ok (.ifCond .eq 14, 3) := by decide +kernel
theorem dX3_keep_53 : decode cX3_keep 53 = .ok (.aload_n 0, 1) := by decide +kernel
theorem dX3_keep_54 : decode cX3_keep 54 = .ok (.getfield 21, 3) := by decide +kernel
theorem dX3_keep_57 : decode cX3_keep 57 = .ok (.sipush 4096, 3) := by decide +kernel
theorem dX3_keep_60 : decode cX3_keep 60 = .ok (.iload_n 3, 1) := by decide +kernel
theorem dX3_keep_61 : decode cX3_keep 61 = .ok (.iadd, 1) := by decide +kernel
theorem dX3_keep_62 : decode cX3_keep 62 = .ok (.iconst (-1), 1) := by decide +kernel
theorem dX3_keep_63 : decode cX3_keep 63 = .ok (.iastore, 1) := by decide +kernel
theorem dX3_keep_64 : decode cX3_keep 64 = .ok (.iload_n 2, 1) := by decide +kernel
theorem dX3_keep_65 : decode cX3_keep 65 = .ok (.iload 4, 2) := by decide +kernel
theorem dX3_keep_67 : decode cX3_keep 67 = .ok (.ifCond .eq 7, 3) := by decide +kernel
theorem dX3_keep_70 : decode cX3_keep 70 = .ok (.iconst 0, 1) := by decide +kernel
theorem dX3_keep_71 : decode cX3_keep 71 = .ok (.goto 4, 3) := by decide +kernel
theorem dX3_keep_74 : decode cX3_keep 74 = .ok (.iconst 1, 1) := by decide +kernel
theorem dX3_keep_75 : decode cX3_keep 75 = .ok (.iadd, 1) := by decide +kernel
theorem dX3_keep_76 : decode cX3_keep 76 = .ok (.istore_n 2, 1) := by decide +kernel
theorem dX3_keep_77 : decode cX3_keep 77 = .ok (.iinc 3 1, 3) := by decide +kernel
theorem dX3_keep_80 : decode cX3_keep 80 = .ok (.goto (-76), 3) := by decide +kernel
theorem dX3_keep_83 : decode cX3_keep 83 = .ok (.aload_n 0, 1) := by decide +kernel
theorem dX3_keep_84 : decode cX3_keep 84 = .ok (.iconst 0, 1) := by decide +kernel
theorem dX3_keep_85 : decode cX3_keep 85 = .ok (.iload_n 2, 1) := by decide +kernel
theorem dX3_keep_86 : decode cX3_keep 86 = .ok (.sipush 512, 3) := by decide +kernel
theorem dX3_keep_89 : decode cX3_keep 89 = .ok (.aload_n 0, 1) := by decide +kernel
theorem dX3_keep_90 : decode cX3_keep 90 = .ok (.invokevirtual 51, 3) := by decide +kernel
theorem dX3_keep_93 : decode cX3_keep 93 = .ok (.isub, 1) := by decide +kernel
theorem dX3_keep_94 : decode cX3_keep 94 = .ok (.if_icmp .le 7, 3) := by decide +kernel
theorem dX3_keep_97 : decode cX3_keep 97 = .ok (.iconst 1, 1) := by decide +kernel
theorem dX3_keep_98 : decode cX3_keep 98 = .ok (.goto 4, 3) := by decide +kernel
theorem dX3_keep_101 : decode cX3_keep 101 = .ok (.iconst 0, 1) := by decide +kernel
theorem dX3_keep_102 : decode cX3_keep 102 = .ok (.invokevirtual 55, 3) := by decide +kernel
theorem dX3_keep_105 : decode cX3_keep 105 = .ok (.ifCond .eq 5, 3) := by decide +kernel
theorem dX3_keep_108 : decode cX3_keep 108 = .ok (.iconst 0, 1) := by decide +kernel
theorem dX3_keep_109 : decode cX3_keep 109 = .ok (.ireturn, 1) := by decide +kernel
theorem dX3_keep_110 : decode cX3_keep 110 = .ok (.aload_n 0, 1) := by decide +kernel
theorem dX3_keep_111 : decode cX3_keep 111 = .ok (.invokevirtual 59, 3) := by decide +kernel
theorem dX3_keep_114 : decode cX3_keep 114 = .ok (.istore_n 3, 1) := by decide +kernel
theorem dX3_keep_115 : decode cX3_keep 115 = .ok (.aload_n 0, 1) := by decide +kernel
theorem dX3_keep_116 : decode cX3_keep 116 = .ok (.getfield 7, 3) := by decide +kernel
theorem dX3_keep_119 : decode cX3_keep 119 = .ok (.iload_n 3, 1) := by decide +kernel
theorem dX3_keep_120 : decode cX3_keep 120 = .ok (.iconst 1, 1) := by decide +kernel
theorem dX3_keep_121 : decode cX3_keep 121 = .ok (.bastore, 1) := by decide +kernel
theorem dX3_keep_122 : decode cX3_keep 122 = .ok (.aload_n 0, 1) := by decide +kernel
theorem dX3_keep_123 : decode cX3_keep 123 = .ok (.getfield 13, 3) := by decide +kernel
theorem dX3_keep_126 : decode cX3_keep 126 = .ok (.iload_n 3, 1) := by decide +kernel
theorem dX3_keep_127 : decode cX3_keep 127 = .ok (.iload_n 1, 1) := by decide +kernel
theorem dX3_keep_128 : decode cX3_keep 128 = .ok (.iastore, 1) := by decide +kernel
theorem dX3_keep_129 : decode cX3_keep 129 = .ok (.iconst 0, 1) := by decide +kernel
theorem dX3_keep_130 : decode cX3_keep 130 = .ok (.istore 4, 2) := by decide +kernel
theorem dX3_keep_132 : decode cX3_keep 132 = .ok (.iload 4, 2) := by decide +kernel
theorem dX3_keep_134 : decode cX3_keep 134 = .ok (.iload_n 1, 1) := by decide +kernel
theorem dX3_keep_135 : decode cX3_keep 135 = .ok (.if_icmp .ge 32, 3) := by decide +kernel
theorem dX3_keep_138 : decode cX3_keep 138 = .ok (.aload_n 0, 1) := by decide +kernel
theorem dX3_keep_139 : decode cX3_keep 139 = .ok (.getfield 18, 3) := by decide +kernel
theorem dX3_keep_142 : decode cX3_keep 142 = .ok (.sipush 4096, 3) := by decide +kernel
theorem dX3_keep_145 : decode cX3_keep 145 = .ok (.iload_n 3, 1) := by decide +kernel
theorem dX3_keep_146 : decode cX3_keep 146 = .ok (.imul, 1) := by decide +kernel
theorem dX3_keep_147 : decode cX3_keep 147 = .ok (.iload 4, 2) := by decide +kernel
theorem dX3_keep_149 : decode cX3_keep 149 = .ok (.iadd, 1) := by decide +kernel
theorem dX3_keep_150 : decode cX3_keep 150 = .ok (.aload_n 0, 1) := by decide +kernel
theorem dX3_keep_151 : decode cX3_keep 151 = .ok (.getfield 18, 3) := by decide +kernel
theorem dX3_keep_154 : decode cX3_keep 154 = .ok (.ldc 42, 2) := by decide +kernel
theorem dX3_keep_156 : decode cX3_keep 156 = .ok (.iload 4, 2) := by decide +kernel
theorem dX3_keep_158 : decode cX3_keep 158 = .ok (.iadd, 1) := by decide +kernel
theorem dX3_keep_159 : decode cX3_keep 159 = .ok (.iaload, 1) := by decide +kernel
theorem dX3_keep_160 : decode cX3_keep 160 = .ok (.iastore, 1) := by decide +kernel
theorem dX3_keep_161 : decode cX3_keep 161 = .ok (.iinc 4 1, 3) := by decide +kernel
theorem dX3_keep_164 : decode cX3_keep 164 = .ok (.goto (-32), 3) := by decide +kernel
theorem dX3_keep_167 : decode cX3_keep 167 = .ok (.iconst 0, 1) := by decide +kernel
theorem dX3_keep_168 : decode cX3_keep 168 = .ok (.istore 4, 2) := by decide +kernel
theorem dX3_keep_170 : decode cX3_keep 170 = .ok (.iload 4, 2) := by decide +kernel
theorem dX3_keep_172 : decode cX3_keep 172 = .ok (.iload_n 1, 1) := by decide +kernel
theorem dX3_keep_173 : decode cX3_keep 173 = .ok (.invokestatic 38, 3) := by decide +kernel
theorem dX3_keep_176 : decode cX3_keep 176 = .ok (.if_icmp .ge 72, 3) := by decide +kernel
theorem dX3_keep_179 : decode cX3_keep 179 = .ok (.aload_n 0, 1) := by decide +kernel
theorem dX3_keep_180 : decode cX3_keep 180 = .ok (.getfield 21, 3) := by decide +kernel
theorem dX3_keep_183 : decode cX3_keep 183 = .ok (.sipush 4096, 3) := by decide +kernel
theorem dX3_keep_186 : decode cX3_keep 186 = .ok (.iload 4, 2) := by decide +kernel
theorem dX3_keep_188 : decode cX3_keep 188 = .ok (.iadd, 1) := by decide +kernel
theorem dX3_keep_189 : decode cX3_keep 189 = .ok (.iaload, 1) := by decide +kernel
theorem dX3_keep_190 : decode cX3_keep 190 = .ok (.istore 5, 2) := by decide +kernel
theorem dX3_keep_192 : decode cX3_keep 192 = .ok (.aload_n 0, 1) := by decide +kernel
theorem dX3_keep_193 : decode cX3_keep 193 = .ok (.getfield 21, 3) := by decide +kernel
theorem dX3_keep_196 : decode cX3_keep 196 = .ok (.sipush 256, 3) := by decide +kernel
theorem dX3_keep_199 : decode cX3_keep 199 = .ok (.iload_n 3, 1) := by decide +kernel
theorem dX3_keep_200 : decode cX3_keep 200 = .ok (.imul, 1) := by decide +kernel
theorem dX3_keep_201 : decode cX3_keep 201 = .ok (.iload 4, 2) := by decide +kernel
theorem dX3_keep_203 : decode cX3_keep 203 = .ok (.iadd, 1) := by decide +kernel
theorem dX3_keep_204 : decode cX3_keep 204 = .ok (.iload 5, 2) := by decide +kernel
theorem dX3_keep_206 : decode cX3_keep 206 = .ok (.bipush (-2), 2) := by decide +kernel
theorem dX3_keep_208 : decode cX3_keep 208 = .ok (.if_icmp .ne 10, 3) := by decide +kernel
theorem dX3_keep_211 : decode cX3_keep 211 = .ok (.aload_n 0, 1) := by decide +kernel
theorem dX3_keep_212 : decode cX3_keep 212 = .ok (.getfield 35, 3) := by decide +kernel
theorem dX3_keep_215 : decode cX3_keep 215 = .ok (.goto 5, 3) := by decide +kernel
theorem dX3_keep_218 : decode cX3_keep 218 = .ok (.iload 5, 2) := by decide +kernel
theorem dX3_keep_220 : decode cX3_keep 220 = .ok (.iastore, 1) := by decide +kernel
theorem dX3_keep_221 : decode cX3_keep 221 = .ok (.aload_n 0, 1) := by decide +kernel
theorem dX3_keep_222 : decode cX3_keep 222 = .ok (.dup, 1) := by decide +kernel
theorem dX3_keep_223 : decode cX3_keep 223 = .ok (.getfield 35, 3) := by decide +kernel
theorem dX3_keep_226 : decode cX3_keep 226 = .ok (.iload 5, 2) := by decide +kernel
theorem dX3_keep_228 : decode cX3_keep 228 = .ok (.bipush (-2), 2) := by decide +kernel
theorem dX3_keep_230 : decode cX3_keep 230 = .ok (.if_icmp .ne 7, 3) := by decide +kernel
theorem dX3_keep_233 : decode cX3_keep 233 = .ok (.iconst 1, 1) := by decide +kernel
theorem dX3_keep_234 : decode cX3_keep 234 = .ok (.goto 4, 3) := by decide +kernel
theorem dX3_keep_237 : decode cX3_keep 237 = .ok (.iconst 0, 1) := by decide +kernel
theorem dX3_keep_238 : decode cX3_keep 238 = .ok (.iadd, 1) := by decide +kernel
theorem dX3_keep_239 : decode cX3_keep 239 = .ok (.putfield 35, 3) := by decide +kernel
theorem dX3_keep_242 : decode cX3_keep 242 = .ok (.iinc 4 1, 3) := by decide +kernel
theorem dX3_keep_245 : decode cX3_keep 245 = .ok (.goto (-75), 3) := by decide +kernel
theorem dX3_keep_248 : decode cX3_keep 248 = .ok (.iload_n 3, 1) := by decide +kernel
theorem dX3_keep_249 : decode cX3_keep 249 = .ok (.ireturn, 1) := by decide +kernel
set_option maxRecDepth 20000 in
theorem ggX3_make_X3_free : GoodIn wsX3_make wsX3_free := goodIn_r _ [8, 9, 36, 37, 38, 39, 40, 41, 42, 43] (by decide +kernel) (by decide +kernel)
set_option maxRecDepth 20000 in
theorem gX3_make_X3_free : GoodIn wsX3_make (wsV RX3 59 RX3 yX3_free wsX3_free) := goodIn_app (goodIn_of _ (by decide +kernel)) ggX3_make_X3_free
set_option maxRecDepth 20000 in
theorem ggX3_make_X3_refuses : GoodIn wsX3_make wsX3_refuses := goodIn_r _ [13, 14, 36, 37, 38, 39, 40, 41, 42, 43] (by decide +kernel) (by decide +kernel)
set_option maxRecDepth 20000 in
theorem gX3_make_X3_refuses : GoodIn wsX3_make (wsV RX3 55 RX3 yX3_refuses wsX3_refuses) := goodIn_app (goodIn_of _ (by decide +kernel)) ggX3_make_X3_refuses
set_option maxRecDepth 20000 in
theorem ggX3_make_X3_leaves : GoodIn wsX3_make wsX3_leaves := goodIn_r _ [17] (by decide +kernel) (by decide +kernel)
set_option maxRecDepth 20000 in
theorem gX3_make_X3_leaves : GoodIn wsX3_make (va_wsS RX3 38 yX3_leaves wsX3_leaves) := goodIn_app (goodIn_of _ (by decide +kernel)) ggX3_make_X3_leaves
set_option maxRecDepth 20000 in
theorem ggX3_make_X3_keep : GoodIn wsX3_make wsX3_keep := goodIn_r _ [21, 3, 2, 9, 22, 1, 23, 15, 16, 7, 17, 24, 25, 26, 27, 28, 29, 30, 31, 32, 33, 34, 35, 10, 11, 12, 13, 14, 4, 5, 6, 8, 36, 37, 38, 39, 40, 41, 42, 43] (by decide +kernel) (by decide +kernel)
set_option maxRecDepth 20000 in
theorem gX3_make_X3_keep : GoodIn wsX3_make (wsV RX3 62 RX3 yX3_keep wsX3_keep) := goodIn_app (goodIn_of _ (by decide +kernel)) ggX3_make_X3_keep
theorem dX3_make_0 : decode cX3_make 0 = .ok (.aload_n 0, 1) := by decide +kernel
theorem dX3_make_1 : decode cX3_make 1 = .ok (.iload_n 1, 1) := by decide +kernel
theorem dX3_make_2 : decode cX3_make 2 = .ok (.ifCond .lt 10, 3) := by decide +kernel
theorem dX3_make_5 : decode cX3_make 5 = .ok (.iload_n 1, 1) := by decide +kernel
theorem dX3_make_6 : decode cX3_make 6 = .ok (.sipush 4096, 3) := by decide +kernel
theorem dX3_make_9 : decode cX3_make 9 = .ok (.if_icmp .le 7, 3) := by decide +kernel
theorem dX3_make_12 : decode cX3_make 12 = .ok (.iconst 1, 1) := by decide +kernel
theorem dX3_make_13 : decode cX3_make 13 = .ok (.goto 4, 3) := by decide +kernel
theorem dX3_make_16 : decode cX3_make 16 = .ok (.iconst 0, 1) := by decide +kernel
theorem dX3_make_17 : decode cX3_make 17 = .ok (.aload_n 0, 1) := by decide +kernel
theorem dX3_make_18 : decode cX3_make 18 = .ok (.invokevirtual 59, 3) := by decide +kernel
theorem dX3_make_21 : decode cX3_make 21 = .ok (.bipush 16, 2) := by decide +kernel
theorem dX3_make_23 : decode cX3_make 23 = .ok (.if_icmp .ne 7, 3) := by decide +kernel
theorem dX3_make_26 : decode cX3_make 26 = .ok (.iconst 1, 1) := by decide +kernel
theorem dX3_make_27 : decode cX3_make 27 = .ok (.goto 4, 3) := by decide +kernel
theorem dX3_make_30 : decode cX3_make 30 = .ok (.iconst 0, 1) := by decide +kernel
theorem dX3_make_31 : decode cX3_make 31 = .ok (.invokevirtual 55, 3) := by decide +kernel
theorem dX3_make_34 : decode cX3_make 34 = .ok (.ifCond .eq 5, 3) := by decide +kernel
theorem dX3_make_37 : decode cX3_make 37 = .ok (.iconst 0, 1) := by decide +kernel
theorem dX3_make_38 : decode cX3_make 38 = .ok (.ireturn, 1) := by decide +kernel
theorem dX3_make_39 : decode cX3_make 39 = .ok (.iconst 0, 1) := by decide +kernel
theorem dX3_make_40 : decode cX3_make 40 = .ok (.istore_n 3, 1) := by decide +kernel
theorem dX3_make_41 : decode cX3_make 41 = .ok (.iload_n 3, 1) := by decide +kernel
theorem dX3_make_42 : decode cX3_make 42 = .ok (.iload_n 1, 1) := by decide +kernel
theorem dX3_make_43 : decode cX3_make 43 = .ok (.if_icmp .ge 19, 3) := by decide +kernel
theorem dX3_make_46 : decode cX3_make 46 = .ok (.aload_n 0, 1) := by decide +kernel
theorem dX3_make_47 : decode cX3_make 47 = .ok (.getfield 18, 3) := by decide +kernel
theorem dX3_make_50 : decode cX3_make 50 = .ok (.ldc 42, 2) := by decide +kernel
theorem dX3_make_52 : decode cX3_make 52 = .ok (.iload_n 3, 1) := by decide +kernel
theorem dX3_make_53 : decode cX3_make 53 = .ok (.iadd, 1) := by decide +kernel
theorem dX3_make_54 : decode cX3_make 54 = .ok (.iload_n 2, 1) := by decide +kernel
theorem dX3_make_55 : decode cX3_make 55 = .ok (.iastore, 1) := by decide +kernel
theorem dX3_make_56 : decode cX3_make 56 = .ok (.iinc 3 1, 3) := by decide +kernel
theorem dX3_make_59 : decode cX3_make 59 = .ok (.goto (-18), 3) := by decide +kernel
theorem dX3_make_62 : decode cX3_make 62 = .ok (.iconst 0, 1) := by decide +kernel
theorem dX3_make_63 : decode cX3_make 63 = .ok (.istore_n 3, 1) := by decide +kernel
theorem dX3_make_64 : decode cX3_make 64 = .ok (.iload_n 3, 1) := by decide +kernel
theorem dX3_make_65 : decode cX3_make 65 = .ok (.iload_n 1, 1) := by decide +kernel
theorem dX3_make_66 : decode cX3_make 66 = .ok (.invokestatic 38, 3) := by decide +kernel
theorem dX3_make_69 : decode cX3_make 69 = .ok (.if_icmp .ge 20, 3) := by decide +kernel
theorem dX3_make_72 : decode cX3_make 72 = .ok (.aload_n 0, 1) := by decide +kernel
theorem dX3_make_73 : decode cX3_make 73 = .ok (.getfield 21, 3) := by decide +kernel
theorem dX3_make_76 : decode cX3_make 76 = .ok (.sipush 4096, 3) := by decide +kernel
theorem dX3_make_79 : decode cX3_make 79 = .ok (.iload_n 3, 1) := by decide +kernel
theorem dX3_make_80 : decode cX3_make 80 = .ok (.iadd, 1) := by decide +kernel
theorem dX3_make_81 : decode cX3_make 81 = .ok (.iconst (-1), 1) := by decide +kernel
theorem dX3_make_82 : decode cX3_make 82 = .ok (.iastore, 1) := by decide +kernel
theorem dX3_make_83 : decode cX3_make 83 = .ok (.iinc 3 1, 3) := by decide +kernel
theorem dX3_make_86 : decode cX3_make 86 = .ok (.goto (-22), 3) := by decide +kernel
theorem dX3_make_89 : decode cX3_make 89 = .ok (.aload_n 0, 1) := by decide +kernel
theorem dX3_make_90 : decode cX3_make 90 = .ok (.iload_n 1, 1) := by decide +kernel
theorem dX3_make_91 : decode cX3_make 91 = .ok (.invokevirtual 62, 3) := by decide +kernel
theorem dX3_make_94 : decode cX3_make 94 = .ok (.ireturn, 1) := by decide +kernel
set_option maxRecDepth 20000 in
theorem ggX3_copy_X3_isArray : GoodIn wsX3_copy wsX3_isArray := goodIn_r _ [9, 10, 40, 41, 42, 43, 44, 45, 46, 47] (by decide +kernel) (by decide +kernel)
set_option maxRecDepth 20000 in
theorem gX3_copy_X3_isArray : GoodIn wsX3_copy (wsV RX3 65 RX3 yX3_isArray wsX3_isArray) := goodIn_app (goodIn_of _ (by decide +kernel)) ggX3_copy_X3_isArray
set_option maxRecDepth 20000 in
theorem ggX3_copy_X3_free : GoodIn wsX3_copy wsX3_free := goodIn_r _ [14, 10, 40, 41, 42, 43, 44, 45, 46, 47] (by decide +kernel) (by decide +kernel)
set_option maxRecDepth 20000 in
theorem gX3_copy_X3_free : GoodIn wsX3_copy (wsV RX3 59 RX3 yX3_free wsX3_free) := goodIn_app (goodIn_of _ (by decide +kernel)) ggX3_copy_X3_free
set_option maxRecDepth 20000 in
theorem ggX3_copy_X3_refuses : GoodIn wsX3_copy wsX3_refuses := goodIn_r _ [18, 19, 40, 41, 42, 43, 44, 45, 46, 47] (by decide +kernel) (by decide +kernel)
set_option maxRecDepth 20000 in
theorem gX3_copy_X3_refuses : GoodIn wsX3_copy (wsV RX3 55 RX3 yX3_refuses wsX3_refuses) := goodIn_app (goodIn_of _ (by decide +kernel)) ggX3_copy_X3_refuses
set_option maxRecDepth 20000 in
theorem ggX3_copy_X3_leaves : GoodIn wsX3_copy wsX3_leaves := goodIn_r _ [22] (by decide +kernel) (by decide +kernel)
set_option maxRecDepth 20000 in
theorem gX3_copy_X3_leaves : GoodIn wsX3_copy (va_wsS RX3 38 yX3_leaves wsX3_leaves) := goodIn_app (goodIn_of _ (by decide +kernel)) ggX3_copy_X3_leaves
set_option maxRecDepth 20000 in
theorem ggX3_copy_X3_keep : GoodIn wsX3_copy wsX3_keep := goodIn_r _ [26, 4, 3, 10, 1, 2, 27, 20, 21, 8, 22, 28, 29, 30, 31, 32, 33, 34, 35, 36, 37, 38, 39, 15, 16, 17, 18, 19, 11, 12, 13, 14, 40, 41, 42, 43, 44, 45, 46, 47] (by decide +kernel) (by decide +kernel)
set_option maxRecDepth 20000 in
theorem gX3_copy_X3_keep : GoodIn wsX3_copy (wsV RX3 62 RX3 yX3_keep wsX3_keep) := goodIn_app (goodIn_of _ (by decide +kernel)) ggX3_copy_X3_keep
theorem dX3_copy_0 : decode cX3_copy 0 = .ok (.aload_n 0, 1) := by decide +kernel
theorem dX3_copy_1 : decode cX3_copy 1 = .ok (.aload_n 0, 1) := by decide +kernel
theorem dX3_copy_2 : decode cX3_copy 2 = .ok (.iload_n 1, 1) := by decide +kernel
theorem dX3_copy_3 : decode cX3_copy 3 = .ok (.invokevirtual 65, 3) := by decide +kernel
theorem dX3_copy_6 : decode cX3_copy 6 = .ok (.ifCond .ne 7, 3) := by decide +kernel
theorem dX3_copy_9 : decode cX3_copy 9 = .ok (.iconst 1, 1) := by decide +kernel
theorem dX3_copy_10 : decode cX3_copy 10 = .ok (.goto 4, 3) := by decide +kernel
theorem dX3_copy_13 : decode cX3_copy 13 = .ok (.iconst 0, 1) := by decide +kernel
theorem dX3_copy_14 : decode cX3_copy 14 = .ok (.aload_n 0, 1) := by decide +kernel
theorem dX3_copy_15 : decode cX3_copy 15 = .ok (.invokevirtual 59, 3) := by decide +kernel
theorem dX3_copy_18 : decode cX3_copy 18 = .ok (.bipush 16, 2) := by decide +kernel
theorem dX3_copy_20 : decode cX3_copy 20 = .ok (.if_icmp .ne 7, 3) := by decide +kernel
theorem dX3_copy_23 : decode cX3_copy 23 = .ok (.iconst 1, 1) := by decide +kernel
theorem dX3_copy_24 : decode cX3_copy 24 = .ok (.goto 4, 3) := by decide +kernel
theorem dX3_copy_27 : decode cX3_copy 27 = .ok (.iconst 0, 1) := by decide +kernel
theorem dX3_copy_28 : decode cX3_copy 28 = .ok (.invokevirtual 55, 3) := by decide +kernel
theorem dX3_copy_31 : decode cX3_copy 31 = .ok (.ifCond .eq 5, 3) := by decide +kernel
theorem dX3_copy_34 : decode cX3_copy 34 = .ok (.iconst 0, 1) := by decide +kernel
theorem dX3_copy_35 : decode cX3_copy 35 = .ok (.ireturn, 1) := by decide +kernel
theorem dX3_copy_36 : decode cX3_copy 36 = .ok (.iconst 0, 1) := by decide +kernel
theorem dX3_copy_37 : decode cX3_copy 37 = .ok (.istore_n 2, 1) := by decide +kernel
theorem dX3_copy_38 : decode cX3_copy 38 = .ok (.iload_n 2, 1) := by decide +kernel
theorem dX3_copy_39 : decode cX3_copy 39 = .ok (.aload_n 0, 1) := by decide +kernel
theorem dX3_copy_40 : decode cX3_copy 40 = .ok (.getfield 13, 3) := by decide +kernel
theorem dX3_copy_43 : decode cX3_copy 43 = .ok (.iload_n 1, 1) := by decide +kernel
theorem dX3_copy_44 : decode cX3_copy 44 = .ok (.iaload, 1) := by decide +kernel
theorem dX3_copy_45 : decode cX3_copy 45 = .ok (.if_icmp .ge 30, 3) := by decide +kernel
theorem dX3_copy_48 : decode cX3_copy 48 = .ok (.aload_n 0, 1) := by decide +kernel
theorem dX3_copy_49 : decode cX3_copy 49 = .ok (.getfield 18, 3) := by decide +kernel
theorem dX3_copy_52 : decode cX3_copy 52 = .ok (.ldc 42, 2) := by decide +kernel
theorem dX3_copy_54 : decode cX3_copy 54 = .ok (.iload_n 2, 1) := by decide +kernel
theorem dX3_copy_55 : decode cX3_copy 55 = .ok (.iadd, 1) := by decide +kernel
theorem dX3_copy_56 : decode cX3_copy 56 = .ok (.aload_n 0, 1) := by decide +kernel
theorem dX3_copy_57 : decode cX3_copy 57 = .ok (.getfield 18, 3) := by decide +kernel
theorem dX3_copy_60 : decode cX3_copy 60 = .ok (.sipush 4096, 3) := by decide +kernel
theorem dX3_copy_63 : decode cX3_copy 63 = .ok (.iload_n 1, 1) := by decide +kernel
theorem dX3_copy_64 : decode cX3_copy 64 = .ok (.imul, 1) := by decide +kernel
theorem dX3_copy_65 : decode cX3_copy 65 = .ok (.iload_n 2, 1) := by decide +kernel
theorem dX3_copy_66 : decode cX3_copy 66 = .ok (.iadd, 1) := by decide +kernel
theorem dX3_copy_67 : decode cX3_copy 67 = .ok (.iaload, 1) := by decide +kernel
theorem dX3_copy_68 : decode cX3_copy 68 = .ok (.iastore, 1) := by decide +kernel
theorem dX3_copy_69 : decode cX3_copy 69 = .ok (.iinc 2 1, 3) := by decide +kernel
theorem dX3_copy_72 : decode cX3_copy 72 = .ok (.goto (-34), 3) := by decide +kernel
theorem dX3_copy_75 : decode cX3_copy 75 = .ok (.iconst 0, 1) := by decide +kernel
theorem dX3_copy_76 : decode cX3_copy 76 = .ok (.istore_n 2, 1) := by decide +kernel
theorem dX3_copy_77 : decode cX3_copy 77 = .ok (.iload_n 2, 1) := by decide +kernel
theorem dX3_copy_78 : decode cX3_copy 78 = .ok (.aload_n 0, 1) := by decide +kernel
theorem dX3_copy_79 : decode cX3_copy 79 = .ok (.getfield 13, 3) := by decide +kernel
theorem dX3_copy_82 : decode cX3_copy 82 = .ok (.iload_n 1, 1) := by decide +kernel
theorem dX3_copy_83 : decode cX3_copy 83 = .ok (.iaload, 1) := by decide +kernel
theorem dX3_copy_84 : decode cX3_copy 84 = .ok (.invokestatic 38, 3) := by decide +kernel
theorem dX3_copy_87 : decode cX3_copy 87 = .ok (.if_icmp .ge 31, 3) := by decide +kernel
theorem dX3_copy_90 : decode cX3_copy 90 = .ok (.aload_n 0, 1) := by decide +kernel
theorem dX3_copy_91 : decode cX3_copy 91 = .ok (.getfield 21, 3) := by decide +kernel
theorem dX3_copy_94 : decode cX3_copy 94 = .ok (.sipush 4096, 3) := by decide +kernel
theorem dX3_copy_97 : decode cX3_copy 97 = .ok (.iload_n 2, 1) := by decide +kernel
theorem dX3_copy_98 : decode cX3_copy 98 = .ok (.iadd, 1) := by decide +kernel
theorem dX3_copy_99 : decode cX3_copy 99 = .ok (.aload_n 0, 1) := by decide +kernel
theorem dX3_copy_100 : decode cX3_copy 100 = .ok (.getfield 21, 3) := by decide +kernel
theorem dX3_copy_103 : decode cX3_copy 103 = .ok (.sipush 256, 3) := by decide +kernel
theorem dX3_copy_106 : decode cX3_copy 106 = .ok (.iload_n 1, 1) := by decide +kernel
theorem dX3_copy_107 : decode cX3_copy 107 = .ok (.imul, 1) := by decide +kernel
theorem dX3_copy_108 : decode cX3_copy 108 = .ok (.iload_n 2, 1) := by decide +kernel
theorem dX3_copy_109 : decode cX3_copy 109 = .ok (.iadd, 1) := by decide +kernel
theorem dX3_copy_110 : decode cX3_copy 110 = .ok (.iaload, 1) := by decide +kernel
theorem dX3_copy_111 : decode cX3_copy 111 = .ok (.iastore, 1) := by decide +kernel
theorem dX3_copy_112 : decode cX3_copy 112 = .ok (.iinc 2 1, 3) := by decide +kernel
theorem dX3_copy_115 : decode cX3_copy 115 = .ok (.goto (-38), 3) := by decide +kernel
theorem dX3_copy_118 : decode cX3_copy 118 = .ok (.aload_n 0, 1) := by decide +kernel
theorem dX3_copy_119 : decode cX3_copy 119 = .ok (.aload_n 0, 1) := by decide +kernel
theorem dX3_copy_120 : decode cX3_copy 120 = .ok (.getfield 13, 3) := by decide +kernel
theorem dX3_copy_123 : decode cX3_copy 123 = .ok (.iload_n 1, 1) := by decide +kernel
theorem dX3_copy_124 : decode cX3_copy 124 = .ok (.iaload, 1) := by decide +kernel
theorem dX3_copy_125 : decode cX3_copy 125 = .ok (.invokevirtual 62, 3) := by decide +kernel
theorem dX3_copy_128 : decode cX3_copy 128 = .ok (.ireturn, 1) := by decide +kernel
set_option maxRecDepth 20000 in
theorem ggX3_isPart_X3_isArray : GoodIn wsX3_isPart wsX3_isArray := goodIn_r _ [6, 7, 8, 9, 10, 11, 12, 13, 14, 15] (by decide +kernel) (by decide +kernel)
set_option maxRecDepth 20000 in
theorem gX3_isPart_X3_isArray : GoodIn wsX3_isPart (wsV RX3 65 RX3 yX3_isArray wsX3_isArray) := goodIn_app (goodIn_of _ (by decide +kernel)) ggX3_isPart_X3_isArray
theorem dX3_isPart_0 : decode cX3_isPart 0 = .ok (.aload_n 0, 1) := by decide +kernel
theorem dX3_isPart_1 : decode cX3_isPart 1 = .ok (.iload_n 1, 1) := by decide +kernel
theorem dX3_isPart_2 : decode cX3_isPart 2 = .ok (.invokevirtual 65, 3) := by decide +kernel
theorem dX3_isPart_5 : decode cX3_isPart 5 = .ok (.ifCond .eq 26, 3) := by decide +kernel
theorem dX3_isPart_8 : decode cX3_isPart 8 = .ok (.iload_n 2, 1) := by decide +kernel
theorem dX3_isPart_9 : decode cX3_isPart 9 = .ok (.ifCond .lt 22, 3) := by decide +kernel
theorem dX3_isPart_12 : decode cX3_isPart 12 = .ok (.iload_n 2, 1) := by decide +kernel
theorem dX3_isPart_13 : decode cX3_isPart 13 = .ok (.iload_n 3, 1) := by decide +kernel
theorem dX3_isPart_14 : decode cX3_isPart 14 = .ok (.if_icmp .gt 17, 3) := by decide +kernel
theorem dX3_isPart_17 : decode cX3_isPart 17 = .ok (.iload_n 3, 1) := by decide +kernel
theorem dX3_isPart_18 : decode cX3_isPart 18 = .ok (.aload_n 0, 1) := by decide +kernel
theorem dX3_isPart_19 : decode cX3_isPart 19 = .ok (.getfield 13, 3) := by decide +kernel
theorem dX3_isPart_22 : decode cX3_isPart 22 = .ok (.iload_n 1, 1) := by decide +kernel
theorem dX3_isPart_23 : decode cX3_isPart 23 = .ok (.iaload, 1) := by decide +kernel
theorem dX3_isPart_24 : decode cX3_isPart 24 = .ok (.if_icmp .gt 7, 3) := by decide +kernel
theorem dX3_isPart_27 : decode cX3_isPart 27 = .ok (.iconst 1, 1) := by decide +kernel
theorem dX3_isPart_28 : decode cX3_isPart 28 = .ok (.goto 4, 3) := by decide +kernel
theorem dX3_isPart_31 : decode cX3_isPart 31 = .ok (.iconst 0, 1) := by decide +kernel
theorem dX3_isPart_32 : decode cX3_isPart 32 = .ok (.ireturn, 1) := by decide +kernel
set_option maxRecDepth 20000 in
theorem ggX3_slice_X3_isPart : GoodIn wsX3_slice wsX3_isPart := goodIn_r _ [8, 9, 10, 11, 12, 7, 13, 14, 44, 45, 46, 47, 48, 49, 50, 51] (by decide +kernel) (by decide +kernel)
set_option maxRecDepth 20000 in
theorem gX3_slice_X3_isPart : GoodIn wsX3_slice (wsV RX3 69 RX3 yX3_isPart wsX3_isPart) := goodIn_app (goodIn_of _ (by decide +kernel)) ggX3_slice_X3_isPart
set_option maxRecDepth 20000 in
theorem ggX3_slice_X3_free : GoodIn wsX3_slice wsX3_free := goodIn_r _ [18, 14, 44, 45, 46, 47, 48, 49, 50, 51] (by decide +kernel) (by decide +kernel)
set_option maxRecDepth 20000 in
theorem gX3_slice_X3_free : GoodIn wsX3_slice (wsV RX3 59 RX3 yX3_free wsX3_free) := goodIn_app (goodIn_of _ (by decide +kernel)) ggX3_slice_X3_free
set_option maxRecDepth 20000 in
theorem ggX3_slice_X3_refuses : GoodIn wsX3_slice wsX3_refuses := goodIn_r _ [22, 23, 44, 45, 46, 47, 48, 49, 50, 51] (by decide +kernel) (by decide +kernel)
set_option maxRecDepth 20000 in
theorem gX3_slice_X3_refuses : GoodIn wsX3_slice (wsV RX3 55 RX3 yX3_refuses wsX3_refuses) := goodIn_app (goodIn_of _ (by decide +kernel)) ggX3_slice_X3_refuses
set_option maxRecDepth 20000 in
theorem ggX3_slice_X3_leaves : GoodIn wsX3_slice wsX3_leaves := goodIn_r _ [26] (by decide +kernel) (by decide +kernel)
set_option maxRecDepth 20000 in
theorem gX3_slice_X3_leaves : GoodIn wsX3_slice (va_wsS RX3 38 yX3_leaves wsX3_leaves) := goodIn_app (goodIn_of _ (by decide +kernel)) ggX3_slice_X3_leaves
set_option maxRecDepth 20000 in
theorem ggX3_slice_X3_inLeaf : GoodIn wsX3_slice wsX3_inLeaf := goodIn_r _ [29] (by decide +kernel) (by decide +kernel)
set_option maxRecDepth 20000 in
theorem gX3_slice_X3_inLeaf : GoodIn wsX3_slice (va_wsS RX3 43 yX3_inLeaf wsX3_inLeaf) := goodIn_app (goodIn_of _ (by decide +kernel)) ggX3_slice_X3_inLeaf
set_option maxRecDepth 20000 in
theorem ggX3_slice_X3_keep : GoodIn wsX3_slice wsX3_keep := goodIn_r _ [33, 3, 2, 14, 9, 1, 34, 24, 25, 7, 26, 27, 28, 29, 35, 36, 37, 38, 39, 40, 41, 42, 43, 19, 20, 21, 22, 23, 15, 16, 17, 18, 44, 45, 46, 47, 48, 49, 50, 51] (by decide +kernel) (by decide +kernel)
set_option maxRecDepth 20000 in
theorem gX3_slice_X3_keep : GoodIn wsX3_slice (wsV RX3 62 RX3 yX3_keep wsX3_keep) := goodIn_app (goodIn_of _ (by decide +kernel)) ggX3_slice_X3_keep
theorem dX3_slice_0 : decode cX3_slice 0 = .ok (.aload_n 0, 1) := by decide +kernel
theorem dX3_slice_1 : decode cX3_slice 1 = .ok (.aload_n 0, 1) := by decide +kernel
theorem dX3_slice_2 : decode cX3_slice 2 = .ok (.iload_n 1, 1) := by decide +kernel
theorem dX3_slice_3 : decode cX3_slice 3 = .ok (.iload_n 2, 1) := by decide +kernel
theorem dX3_slice_4 : decode cX3_slice 4 = .ok (.iload_n 3, 1) := by decide +kernel
theorem dX3_slice_5 : decode cX3_slice 5 = .ok (.invokevirtual 69, 3) := by decide +kernel
theorem dX3_slice_8 : decode cX3_slice 8 = .ok (.ifCond .ne 7, 3) := by decide +kernel
theorem dX3_slice_11 : decode cX3_slice 11 = .ok (.iconst 1, 1) := by decide +kernel
theorem dX3_slice_12 : decode cX3_slice 12 = .ok (.goto 4, 3) := by decide +kernel
theorem dX3_slice_15 : decode cX3_slice 15 = .ok (.iconst 0, 1) := by decide +kernel
theorem dX3_slice_16 : decode cX3_slice 16 = .ok (.aload_n 0, 1) := by decide +kernel
theorem dX3_slice_17 : decode cX3_slice 17 = .ok (.invokevirtual 59, 3) := by decide +kernel
theorem dX3_slice_20 : decode cX3_slice 20 = .ok (.bipush 16, 2) := by decide +kernel
theorem dX3_slice_22 : decode cX3_slice 22 = .ok (.if_icmp .ne 7, 3) := by decide +kernel
theorem dX3_slice_25 : decode cX3_slice 25 = .ok (.iconst 1, 1) := by decide +kernel
theorem dX3_slice_26 : decode cX3_slice 26 = .ok (.goto 4, 3) := by decide +kernel
theorem dX3_slice_29 : decode cX3_slice 29 = .ok (.iconst 0, 1) := by decide +kernel
theorem dX3_slice_30 : decode cX3_slice 30 = .ok (.invokevirtual 55, 3) := by decide +kernel
theorem dX3_slice_33 : decode cX3_slice 33 = .ok (.ifCond .eq 5, 3) := by decide +kernel
theorem dX3_slice_36 : decode cX3_slice 36 = .ok (.iconst 0, 1) := by decide +kernel
theorem dX3_slice_37 : decode cX3_slice 37 = .ok (.ireturn, 1) := by decide +kernel
theorem dX3_slice_38 : decode cX3_slice 38 = .ok (.iload_n 3, 1) := by decide +kernel
theorem dX3_slice_39 : decode cX3_slice 39 = .ok (.iload_n 2, 1) := by decide +kernel
theorem dX3_slice_40 : decode cX3_slice 40 = .ok (.isub, 1) := by decide +kernel
theorem dX3_slice_41 : decode cX3_slice 41 = .ok (.istore 4, 2) := by decide +kernel
theorem dX3_slice_43 : decode cX3_slice 43 = .ok (.iconst 0, 1) := by decide +kernel
theorem dX3_slice_44 : decode cX3_slice 44 = .ok (.istore 5, 2) := by decide +kernel
theorem dX3_slice_46 : decode cX3_slice 46 = .ok (.iload 5, 2) := by decide +kernel
theorem dX3_slice_48 : decode cX3_slice 48 = .ok (.iload 4, 2) := by decide +kernel
theorem dX3_slice_50 : decode cX3_slice 50 = .ok (.if_icmp .ge 34, 3) := by decide +kernel
theorem dX3_slice_53 : decode cX3_slice 53 = .ok (.aload_n 0, 1) := by decide +kernel
theorem dX3_slice_54 : decode cX3_slice 54 = .ok (.getfield 18, 3) := by decide +kernel
theorem dX3_slice_57 : decode cX3_slice 57 = .ok (.ldc 42, 2) := by decide +kernel
theorem dX3_slice_59 : decode cX3_slice 59 = .ok (.iload 5, 2) := by decide +kernel
theorem dX3_slice_61 : decode cX3_slice 61 = .ok (.iadd, 1) := by decide +kernel
theorem dX3_slice_62 : decode cX3_slice 62 = .ok (.aload_n 0, 1) := by decide +kernel
theorem dX3_slice_63 : decode cX3_slice 63 = .ok (.getfield 18, 3) := by decide +kernel
theorem dX3_slice_66 : decode cX3_slice 66 = .ok (.sipush 4096, 3) := by decide +kernel
theorem dX3_slice_69 : decode cX3_slice 69 = .ok (.iload_n 1, 1) := by decide +kernel
theorem dX3_slice_70 : decode cX3_slice 70 = .ok (.imul, 1) := by decide +kernel
theorem dX3_slice_71 : decode cX3_slice 71 = .ok (.iload_n 2, 1) := by decide +kernel
theorem dX3_slice_72 : decode cX3_slice 72 = .ok (.iadd, 1) := by decide +kernel
theorem dX3_slice_73 : decode cX3_slice 73 = .ok (.iload 5, 2) := by decide +kernel
theorem dX3_slice_75 : decode cX3_slice 75 = .ok (.iadd, 1) := by decide +kernel
theorem dX3_slice_76 : decode cX3_slice 76 = .ok (.iaload, 1) := by decide +kernel
theorem dX3_slice_77 : decode cX3_slice 77 = .ok (.iastore, 1) := by decide +kernel
theorem dX3_slice_78 : decode cX3_slice 78 = .ok (.iinc 5 1, 3) := by decide +kernel
theorem dX3_slice_81 : decode cX3_slice 81 = .ok (.goto (-35), 3) := by decide +kernel
theorem dX3_slice_84 : decode cX3_slice 84 = .ok (.iconst 0, 1) := by decide +kernel
theorem dX3_slice_85 : decode cX3_slice 85 = .ok (.istore 5, 2) := by decide +kernel
theorem dX3_slice_87 : decode cX3_slice 87 = .ok (.iload 5, 2) := by decide +kernel
theorem dX3_slice_89 : decode cX3_slice 89 = .ok (.iload 4, 2) := by decide +kernel
theorem dX3_slice_91 : decode cX3_slice 91 = .ok (.invokestatic 38, 3) := by decide +kernel
theorem dX3_slice_94 : decode cX3_slice 94 = .ok (.if_icmp .ge 62, 3) := by decide +kernel
theorem dX3_slice_97 : decode cX3_slice 97 = .ok (.aload_n 0, 1) := by decide +kernel
theorem dX3_slice_98 : decode cX3_slice 98 = .ok (.getfield 21, 3) := by decide +kernel
theorem dX3_slice_101 : decode cX3_slice 101 = .ok (.sipush 4096, 3) := by decide +kernel
theorem dX3_slice_104 : decode cX3_slice 104 = .ok (.iload 5, 2) := by decide +kernel
theorem dX3_slice_106 : decode cX3_slice 106 = .ok (.iadd, 1) := by decide +kernel
theorem dX3_slice_107 : decode cX3_slice 107 = .ok (.iload_n 2, 1) := by decide +kernel
theorem dX3_slice_108 : decode cX3_slice 108 = .ok (.bipush 16, 2) := by decide +kernel
theorem dX3_slice_110 : decode cX3_slice 110 = .ok (.irem, 1) := by decide +kernel
theorem dX3_slice_111 : decode cX3_slice 111 = .ok (.ifCond .ne 36, 3) := by decide +kernel
theorem dX3_slice_114 : decode cX3_slice 114 = .ok (.iload 4, 2) := by decide +kernel
theorem dX3_slice_116 : decode cX3_slice 116 = .ok (.iload 5, 2) := by decide +kernel
theorem dX3_slice_118 : decode cX3_slice 118 = .ok (.invokestatic 43, 3) := by decide +kernel
theorem dX3_slice_121 : decode cX3_slice 121 = .ok (.bipush 16, 2) := by decide +kernel
theorem dX3_slice_123 : decode cX3_slice 123 = .ok (.if_icmp .ne 24, 3) := by decide +kernel
theorem dX3_slice_126 : decode cX3_slice 126 = .ok (.aload_n 0, 1) := by decide +kernel
theorem dX3_slice_127 : decode cX3_slice 127 = .ok (.getfield 21, 3) := by decide +kernel
theorem dX3_slice_130 : decode cX3_slice 130 = .ok (.sipush 256, 3) := by decide +kernel
theorem dX3_slice_133 : decode cX3_slice 133 = .ok (.iload_n 1, 1) := by decide +kernel
theorem dX3_slice_134 : decode cX3_slice 134 = .ok (.imul, 1) := by decide +kernel
theorem dX3_slice_135 : decode cX3_slice 135 = .ok (.iload_n 2, 1) := by decide +kernel
theorem dX3_slice_136 : decode cX3_slice 136 = .ok (.bipush 16, 2) := by decide +kernel
theorem dX3_slice_138 : decode cX3_slice 138 = .ok (.idiv, 1) := by decide +kernel
theorem dX3_slice_139 : decode cX3_slice 139 = .ok (.iadd, 1) := by decide +kernel
theorem dX3_slice_140 : decode cX3_slice 140 = .ok (.iload 5, 2) := by decide +kernel
theorem dX3_slice_142 : decode cX3_slice 142 = .ok (.iadd, 1) := by decide +kernel
theorem dX3_slice_143 : decode cX3_slice 143 = .ok (.iaload, 1) := by decide +kernel
theorem dX3_slice_144 : decode cX3_slice 144 = .ok (.goto 5, 3) := by decide +kernel
theorem dX3_slice_147 : decode cX3_slice 147 = .ok (.bipush (-2), 2) := by decide +kernel
theorem dX3_slice_149 : decode cX3_slice 149 = .ok (.iastore, 1) := by decide +kernel
theorem dX3_slice_150 : decode cX3_slice 150 = .ok (.iinc 5 1, 3) := by decide +kernel
theorem dX3_slice_153 : decode cX3_slice 153 = .ok (.goto (-66), 3) := by decide +kernel
theorem dX3_slice_156 : decode cX3_slice 156 = .ok (.aload_n 0, 1) := by decide +kernel
theorem dX3_slice_157 : decode cX3_slice 157 = .ok (.iload 4, 2) := by decide +kernel
theorem dX3_slice_159 : decode cX3_slice 159 = .ok (.invokevirtual 62, 3) := by decide +kernel
theorem dX3_slice_162 : decode cX3_slice 162 = .ok (.ireturn, 1) := by decide +kernel
set_option maxRecDepth 20000 in
theorem ggX3_join_X3_isArray : GoodIn wsX3_join wsX3_isArray := goodIn_r _ [9, 10, 40, 41, 42, 43, 44, 45, 46, 47] (by decide +kernel) (by decide +kernel)
set_option maxRecDepth 20000 in
theorem gX3_join_X3_isArray : GoodIn wsX3_join (wsV RX3 65 RX3 yX3_isArray wsX3_isArray) := goodIn_app (goodIn_of _ (by decide +kernel)) ggX3_join_X3_isArray
set_option maxRecDepth 20000 in
theorem ggX3_join_X3_free : GoodIn wsX3_join wsX3_free := goodIn_r _ [14, 10, 40, 41, 42, 43, 44, 45, 46, 47] (by decide +kernel) (by decide +kernel)
set_option maxRecDepth 20000 in
theorem gX3_join_X3_free : GoodIn wsX3_join (wsV RX3 59 RX3 yX3_free wsX3_free) := goodIn_app (goodIn_of _ (by decide +kernel)) ggX3_join_X3_free
set_option maxRecDepth 20000 in
theorem ggX3_join_X3_refuses : GoodIn wsX3_join wsX3_refuses := goodIn_r _ [18, 19, 40, 41, 42, 43, 44, 45, 46, 47] (by decide +kernel) (by decide +kernel)
set_option maxRecDepth 20000 in
theorem gX3_join_X3_refuses : GoodIn wsX3_join (wsV RX3 55 RX3 yX3_refuses wsX3_refuses) := goodIn_app (goodIn_of _ (by decide +kernel)) ggX3_join_X3_refuses
set_option maxRecDepth 20000 in
theorem ggX3_join_X3_leaves : GoodIn wsX3_join wsX3_leaves := goodIn_r _ [22] (by decide +kernel) (by decide +kernel)
set_option maxRecDepth 20000 in
theorem gX3_join_X3_leaves : GoodIn wsX3_join (va_wsS RX3 38 yX3_leaves wsX3_leaves) := goodIn_app (goodIn_of _ (by decide +kernel)) ggX3_join_X3_leaves
set_option maxRecDepth 20000 in
theorem ggX3_join_X3_keep : GoodIn wsX3_join wsX3_keep := goodIn_r _ [26, 4, 3, 10, 1, 2, 27, 20, 21, 8, 22, 28, 29, 30, 31, 32, 33, 34, 35, 36, 37, 38, 39, 15, 16, 17, 18, 19, 11, 12, 13, 14, 40, 41, 42, 43, 44, 45, 46, 47] (by decide +kernel) (by decide +kernel)
set_option maxRecDepth 20000 in
theorem gX3_join_X3_keep : GoodIn wsX3_join (wsV RX3 62 RX3 yX3_keep wsX3_keep) := goodIn_app (goodIn_of _ (by decide +kernel)) ggX3_join_X3_keep
theorem dX3_join_0 : decode cX3_join 0 = .ok (.aload_n 0, 1) := by decide +kernel
theorem dX3_join_1 : decode cX3_join 1 = .ok (.aload_n 0, 1) := by decide +kernel
theorem dX3_join_2 : decode cX3_join 2 = .ok (.iload_n 1, 1) := by decide +kernel
theorem dX3_join_3 : decode cX3_join 3 = .ok (.invokevirtual 65, 3) := by decide +kernel
theorem dX3_join_6 : decode cX3_join 6 = .ok (.ifCond .eq 30, 3) := by decide +kernel
theorem dX3_join_9 : decode cX3_join 9 = .ok (.aload_n 0, 1) := by decide +kernel
theorem dX3_join_10 : decode cX3_join 10 = .ok (.iload_n 2, 1) := by decide +kernel
theorem dX3_join_11 : decode cX3_join 11 = .ok (.invokevirtual 65, 3) := by decide +kernel
theorem dX3_join_14 : decode cX3_join 14 = .ok (.ifCond .eq 22, 3) := by decide +kernel
theorem dX3_join_17 : decode cX3_join 17 = .ok (.aload_n 0, 1) := by decide +kernel
theorem dX3_join_18 : decode cX3_join 18 = .ok (.getfield 13, 3) := by decide +kernel
theorem dX3_join_21 : decode cX3_join 21 = .ok (.iload_n 1, 1) := by decide +kernel
theorem dX3_join_22 : decode cX3_join 22 = .ok (.iaload, 1) := by decide +kernel
theorem dX3_join_23 : decode cX3_join 23 = .ok (.aload_n 0, 1) := by decide +kernel
theorem dX3_join_24 : decode cX3_join 24 = .ok (.getfield 13, 3) := by decide +kernel
theorem dX3_join_27 : decode cX3_join 27 = .ok (.iload_n 2, 1) := by decide +kernel
theorem dX3_join_28 : decode cX3_join 28 = .ok (.iaload, 1) := by decide +kernel
theorem dX3_join_29 : decode cX3_join 29 = .ok (.iadd, 1) := by decide +kernel
theorem dX3_join_30 : decode cX3_join 30 = .ok (.sipush 4096, 3) := by decide +kernel
theorem dX3_join_33 : decode cX3_join 33 = .ok (.if_icmp .le 7, 3) := by decide +kernel
theorem dX3_join_36 : decode cX3_join 36 = .ok (.iconst 1, 1) := by decide +kernel
theorem dX3_join_37 : decode cX3_join 37 = .ok (.goto 4, 3) := by decide +kernel
theorem dX3_join_40 : decode cX3_join 40 = .ok (.iconst 0, 1) := by decide +kernel
theorem dX3_join_41 : decode cX3_join 41 = .ok (.aload_n 0, 1) := by decide +kernel
theorem dX3_join_42 : decode cX3_join 42 = .ok (.invokevirtual 59, 3) := by decide +kernel
theorem dX3_join_45 : decode cX3_join 45 = .ok (.bipush 16, 2) := by decide +kernel
theorem dX3_join_47 : decode cX3_join 47 = .ok (.if_icmp .ne 7, 3) := by decide +kernel
theorem dX3_join_50 : decode cX3_join 50 = .ok (.iconst 1, 1) := by decide +kernel
theorem dX3_join_51 : decode cX3_join 51 = .ok (.goto 4, 3) := by decide +kernel
theorem dX3_join_54 : decode cX3_join 54 = .ok (.iconst 0, 1) := by decide +kernel
theorem dX3_join_55 : decode cX3_join 55 = .ok (.invokevirtual 55, 3) := by decide +kernel
theorem dX3_join_58 : decode cX3_join 58 = .ok (.ifCond .eq 5, 3) := by decide +kernel
theorem dX3_join_61 : decode cX3_join 61 = .ok (.iconst 0, 1) := by decide +kernel
theorem dX3_join_62 : decode cX3_join 62 = .ok (.ireturn, 1) := by decide +kernel
theorem dX3_join_63 : decode cX3_join 63 = .ok (.aload_n 0, 1) := by decide +kernel
theorem dX3_join_64 : decode cX3_join 64 = .ok (.getfield 13, 3) := by decide +kernel
theorem dX3_join_67 : decode cX3_join 67 = .ok (.iload_n 1, 1) := by decide +kernel
theorem dX3_join_68 : decode cX3_join 68 = .ok (.iaload, 1) := by decide +kernel
theorem dX3_join_69 : decode cX3_join 69 = .ok (.istore_n 3, 1) := by decide +kernel
theorem dX3_join_70 : decode cX3_join 70 = .ok (.iconst 0, 1) := by decide +kernel
theorem dX3_join_71 : decode cX3_join 71 = .ok (.istore 4, 2) := by decide +kernel
theorem dX3_join_73 : decode cX3_join 73 = .ok (.iload 4, 2) := by decide +kernel
theorem dX3_join_75 : decode cX3_join 75 = .ok (.iload_n 3, 1) := by decide +kernel
theorem dX3_join_76 : decode cX3_join 76 = .ok (.if_icmp .ge 32, 3) := by decide +kernel
theorem dX3_join_79 : decode cX3_join 79 = .ok (.aload_n 0, 1) := by decide +kernel
theorem dX3_join_80 : decode cX3_join 80 = .ok (.getfield 18, 3) := by decide +kernel
theorem dX3_join_83 : decode cX3_join 83 = .ok (.ldc 42, 2) := by decide +kernel
theorem dX3_join_85 : decode cX3_join 85 = .ok (.iload 4, 2) := by decide +kernel
theorem dX3_join_87 : decode cX3_join 87 = .ok (.iadd, 1) := by decide +kernel
theorem dX3_join_88 : decode cX3_join 88 = .ok (.aload_n 0, 1) := by decide +kernel
theorem dX3_join_89 : decode cX3_join 89 = .ok (.getfield 18, 3) := by decide +kernel
theorem dX3_join_92 : decode cX3_join 92 = .ok (.sipush 4096, 3) := by decide +kernel
theorem dX3_join_95 : decode cX3_join 95 = .ok (.iload_n 1, 1) := by decide +kernel
theorem dX3_join_96 : decode cX3_join 96 = .ok (.imul, 1) := by decide +kernel
theorem dX3_join_97 : decode cX3_join 97 = .ok (.iload 4, 2) := by decide +kernel
theorem dX3_join_99 : decode cX3_join 99 = .ok (.iadd, 1) := by decide +kernel
theorem dX3_join_100 : decode cX3_join 100 = .ok (.iaload, 1) := by decide +kernel
theorem dX3_join_101 : decode cX3_join 101 = .ok (.iastore, 1) := by decide +kernel
theorem dX3_join_102 : decode cX3_join 102 = .ok (.iinc 4 1, 3) := by decide +kernel
theorem dX3_join_105 : decode cX3_join 105 = .ok (.goto (-32), 3) := by decide +kernel
theorem dX3_join_108 : decode cX3_join 108 = .ok (.iconst 0, 1) := by decide +kernel
theorem dX3_join_109 : decode cX3_join 109 = .ok (.istore 4, 2) := by decide +kernel
theorem dX3_join_111 : decode cX3_join 111 = .ok (.iload 4, 2) := by decide +kernel
theorem dX3_join_113 : decode cX3_join 113 = .ok (.aload_n 0, 1) := by decide +kernel
theorem dX3_join_114 : decode cX3_join 114 = .ok (.getfield 13, 3) := by decide +kernel
theorem dX3_join_117 : decode cX3_join 117 = .ok (.iload_n 2, 1) := by decide +kernel
theorem dX3_join_118 : decode cX3_join 118 = .ok (.iaload, 1) := by decide +kernel
theorem dX3_join_119 : decode cX3_join 119 = .ok (.if_icmp .ge 34, 3) := by decide +kernel
theorem dX3_join_122 : decode cX3_join 122 = .ok (.aload_n 0, 1) := by decide +kernel
theorem dX3_join_123 : decode cX3_join 123 = .ok (.getfield 18, 3) := by decide +kernel
theorem dX3_join_126 : decode cX3_join 126 = .ok (.ldc 42, 2) := by decide +kernel
theorem dX3_join_128 : decode cX3_join 128 = .ok (.iload_n 3, 1) := by decide +kernel
theorem dX3_join_129 : decode cX3_join 129 = .ok (.iadd, 1) := by decide +kernel
theorem dX3_join_130 : decode cX3_join 130 = .ok (.iload 4, 2) := by decide +kernel
theorem dX3_join_132 : decode cX3_join 132 = .ok (.iadd, 1) := by decide +kernel
theorem dX3_join_133 : decode cX3_join 133 = .ok (.aload_n 0, 1) := by decide +kernel
theorem dX3_join_134 : decode cX3_join 134 = .ok (.getfield 18, 3) := by decide +kernel
theorem dX3_join_137 : decode cX3_join 137 = .ok (.sipush 4096, 3) := by decide +kernel
theorem dX3_join_140 : decode cX3_join 140 = .ok (.iload_n 2, 1) := by decide +kernel
theorem dX3_join_141 : decode cX3_join 141 = .ok (.imul, 1) := by decide +kernel
theorem dX3_join_142 : decode cX3_join 142 = .ok (.iload 4, 2) := by decide +kernel
theorem dX3_join_144 : decode cX3_join 144 = .ok (.iadd, 1) := by decide +kernel
theorem dX3_join_145 : decode cX3_join 145 = .ok (.iaload, 1) := by decide +kernel
theorem dX3_join_146 : decode cX3_join 146 = .ok (.iastore, 1) := by decide +kernel
theorem dX3_join_147 : decode cX3_join 147 = .ok (.iinc 4 1, 3) := by decide +kernel
theorem dX3_join_150 : decode cX3_join 150 = .ok (.goto (-39), 3) := by decide +kernel
theorem dX3_join_153 : decode cX3_join 153 = .ok (.iload_n 3, 1) := by decide +kernel
theorem dX3_join_154 : decode cX3_join 154 = .ok (.bipush 16, 2) := by decide +kernel
theorem dX3_join_156 : decode cX3_join 156 = .ok (.idiv, 1) := by decide +kernel
theorem dX3_join_157 : decode cX3_join 157 = .ok (.istore 4, 2) := by decide +kernel
theorem dX3_join_159 : decode cX3_join 159 = .ok (.iconst 0, 1) := by decide +kernel
theorem dX3_join_160 : decode cX3_join 160 = .ok (.istore 5, 2) := by decide +kernel
theorem dX3_join_162 : decode cX3_join 162 = .ok (.iload 5, 2) := by decide +kernel
theorem dX3_join_164 : decode cX3_join 164 = .ok (.iload_n 3, 1) := by decide +kernel
theorem dX3_join_165 : decode cX3_join 165 = .ok (.aload_n 0, 1) := by decide +kernel
theorem dX3_join_166 : decode cX3_join 166 = .ok (.getfield 13, 3) := by decide +kernel
theorem dX3_join_169 : decode cX3_join 169 = .ok (.iload_n 2, 1) := by decide +kernel
theorem dX3_join_170 : decode cX3_join 170 = .ok (.iaload, 1) := by decide +kernel
theorem dX3_join_171 : decode cX3_join 171 = .ok (.iadd, 1) := by decide +kernel
theorem dX3_join_172 : decode cX3_join 172 = .ok (.invokestatic 38, 3) := by decide +kernel
theorem dX3_join_175 : decode cX3_join 175 = .ok (.if_icmp .ge 71, 3) := by decide +kernel
theorem dX3_join_178 : decode cX3_join 178 = .ok (.aload_n 0, 1) := by decide +kernel
theorem dX3_join_179 : decode cX3_join 179 = .ok (.getfield 21, 3) := by decide +kernel
theorem dX3_join_182 : decode cX3_join 182 = .ok (.sipush 4096, 3) := by decide +kernel
theorem dX3_join_185 : decode cX3_join 185 = .ok (.iload 5, 2) := by decide +kernel
theorem dX3_join_187 : decode cX3_join 187 = .ok (.iadd, 1) := by decide +kernel
theorem dX3_join_188 : decode cX3_join 188 = .ok (.iload 5, 2) := by decide +kernel
theorem dX3_join_190 : decode cX3_join 190 = .ok (.iload 4, 2) := by decide +kernel
theorem dX3_join_192 : decode cX3_join 192 = .ok (.if_icmp .ge 19, 3) := by decide +kernel
theorem dX3_join_195 : decode cX3_join 195 = .ok (.aload_n 0, 1) := by decide +kernel
theorem dX3_join_196 : decode cX3_join 196 = .ok (.getfield 21, 3) := by decide +kernel
theorem dX3_join_199 : decode cX3_join 199 = .ok (.sipush 256, 3) := by decide +kernel
theorem dX3_join_202 : decode cX3_join 202 = .ok (.iload_n 1, 1) := by decide +kernel
theorem dX3_join_203 : decode cX3_join 203 = .ok (.imul, 1) := by decide +kernel
theorem dX3_join_204 : decode cX3_join 204 = .ok (.iload 5, 2) := by decide +kernel
theorem dX3_join_206 : decode cX3_join 206 = .ok (.iadd, 1) := by decide +kernel
theorem dX3_join_207 : decode cX3_join 207 = .ok (.iaload, 1) := by decide +kernel
theorem dX3_join_208 : decode cX3_join 208 = .ok (.goto 31, 3) := by decide +kernel
theorem dX3_join_211 : decode cX3_join 211 = .ok (.iload_n 3, 1) := by decide +kernel
theorem dX3_join_212 : decode cX3_join 212 = .ok (.bipush 16, 2) := by decide +kernel
theorem dX3_join_214 : decode cX3_join 214 = .ok (.irem, 1) := by decide +kernel
theorem dX3_join_215 : decode cX3_join 215 = .ok (.ifCond .ne 22, 3) := by decide +kernel
theorem dX3_join_218 : decode cX3_join 218 = .ok (.aload_n 0, 1) := by decide +kernel
theorem dX3_join_219 : decode cX3_join 219 = .ok (.getfield 21, 3) := by decide +kernel
theorem dX3_join_222 : decode cX3_join 222 = .ok (.sipush 256, 3) := by decide +kernel
theorem dX3_join_225 : decode cX3_join 225 = .ok (.iload_n 2, 1) := by decide +kernel
theorem dX3_join_226 : decode cX3_join 226 = .ok (.imul, 1) := by decide +kernel
theorem dX3_join_227 : decode cX3_join 227 = .ok (.iload 5, 2) := by decide +kernel
theorem dX3_join_229 : decode cX3_join 229 = .ok (.iadd, 1) := by decide +kernel
theorem dX3_join_230 : decode cX3_join 230 = .ok (.iload 4, 2) := by decide +kernel
theorem dX3_join_232 : decode cX3_join 232 = .ok (.isub, 1) := by decide +kernel
theorem dX3_join_233 : decode cX3_join 233 = .ok (.iaload, 1) := by decide +kernel
theorem dX3_join_234 : decode cX3_join 234 = .ok (.goto 5, 3) := by decide +kernel
theorem dX3_join_237 : decode cX3_join 237 = .ok (.bipush (-2), 2) := by decide +kernel
theorem dX3_join_239 : decode cX3_join 239 = .ok (.iastore, 1) := by decide +kernel
theorem dX3_join_240 : decode cX3_join 240 = .ok (.iinc 5 1, 3) := by decide +kernel
theorem dX3_join_243 : decode cX3_join 243 = .ok (.goto (-81), 3) := by decide +kernel
theorem dX3_join_246 : decode cX3_join 246 = .ok (.aload_n 0, 1) := by decide +kernel
theorem dX3_join_247 : decode cX3_join 247 = .ok (.iload_n 3, 1) := by decide +kernel
theorem dX3_join_248 : decode cX3_join 248 = .ok (.aload_n 0, 1) := by decide +kernel
theorem dX3_join_249 : decode cX3_join 249 = .ok (.getfield 13, 3) := by decide +kernel
theorem dX3_join_252 : decode cX3_join 252 = .ok (.iload_n 2, 1) := by decide +kernel
theorem dX3_join_253 : decode cX3_join 253 = .ok (.iaload, 1) := by decide +kernel
theorem dX3_join_254 : decode cX3_join 254 = .ok (.iadd, 1) := by decide +kernel
theorem dX3_join_255 : decode cX3_join 255 = .ok (.invokevirtual 62, 3) := by decide +kernel
theorem dX3_join_258 : decode cX3_join 258 = .ok (.ireturn, 1) := by decide +kernel
set_option maxRecDepth 20000 in
theorem ggX3_release_X3_isArray : GoodIn wsX3_release wsX3_isArray := goodIn_r _ [7, 2, 8, 9, 10, 11, 12, 13, 14, 15] (by decide +kernel) (by decide +kernel)
set_option maxRecDepth 20000 in
theorem gX3_release_X3_isArray : GoodIn wsX3_release (wsV RX3 65 RX3 yX3_isArray wsX3_isArray) := goodIn_app (goodIn_of _ (by decide +kernel)) ggX3_release_X3_isArray
theorem dX3_release_0 : decode cX3_release 0 = .ok (.aload_n 0, 1) := by decide +kernel
theorem dX3_release_1 : decode cX3_release 1 = .ok (.iconst 0, 1) := by decide +kernel
theorem dX3_release_2 : decode cX3_release 2 = .ok (.putfield 31, 3) := by decide +kernel
theorem dX3_release_5 : decode cX3_release 5 = .ok (.aload_n 0, 1) := by decide +kernel
theorem dX3_release_6 : decode cX3_release 6 = .ok (.iload_n 1, 1) := by decide +kernel
theorem dX3_release_7 : decode cX3_release 7 = .ok (.invokevirtual 65, 3) := by decide +kernel
theorem dX3_release_10 : decode cX3_release 10 = .ok (.istore_n 2, 1) := by decide +kernel
theorem dX3_release_11 : decode cX3_release 11 = .ok (.iload_n 2, 1) := by decide +kernel
theorem dX3_release_12 : decode cX3_release 12 = .ok (.ifCond .eq 10, 3) := by decide +kernel
theorem dX3_release_15 : decode cX3_release 15 = .ok (.aload_n 0, 1) := by decide +kernel
theorem dX3_release_16 : decode cX3_release 16 = .ok (.getfield 7, 3) := by decide +kernel
theorem dX3_release_19 : decode cX3_release 19 = .ok (.iload_n 1, 1) := by decide +kernel
theorem dX3_release_20 : decode cX3_release 20 = .ok (.iconst 0, 1) := by decide +kernel
theorem dX3_release_21 : decode cX3_release 21 = .ok (.bastore, 1) := by decide +kernel
theorem dX3_release_22 : decode cX3_release 22 = .ok (.iload_n 2, 1) := by decide +kernel
theorem dX3_release_23 : decode cX3_release 23 = .ok (.ireturn, 1) := by decide +kernel
set_option maxRecDepth 20000 in
theorem ggX3_get_X3_isArray : GoodIn wsX3_get wsX3_isArray := goodIn_r _ [7, 8, 14, 15, 16, 17, 18, 19, 20, 21] (by decide +kernel) (by decide +kernel)
set_option maxRecDepth 20000 in
theorem gX3_get_X3_isArray : GoodIn wsX3_get (wsV RX3 65 RX3 yX3_isArray wsX3_isArray) := goodIn_app (goodIn_of _ (by decide +kernel)) ggX3_get_X3_isArray
set_option maxRecDepth 20000 in
theorem ggX3_get_X3_refuses : GoodIn wsX3_get wsX3_refuses := goodIn_r _ [12, 13, 14, 15, 16, 17, 18, 19, 20, 21] (by decide +kernel) (by decide +kernel)
set_option maxRecDepth 20000 in
theorem gX3_get_X3_refuses : GoodIn wsX3_get (wsV RX3 55 RX3 yX3_refuses wsX3_refuses) := goodIn_app (goodIn_of _ (by decide +kernel)) ggX3_get_X3_refuses
theorem dX3_get_0 : decode cX3_get 0 = .ok (.aload_n 0, 1) := by decide +kernel
theorem dX3_get_1 : decode cX3_get 1 = .ok (.aload_n 0, 1) := by decide +kernel
theorem dX3_get_2 : decode cX3_get 2 = .ok (.iload_n 1, 1) := by decide +kernel
theorem dX3_get_3 : decode cX3_get 3 = .ok (.invokevirtual 65, 3) := by decide +kernel
theorem dX3_get_6 : decode cX3_get 6 = .ok (.ifCond .eq 17, 3) := by decide +kernel
theorem dX3_get_9 : decode cX3_get 9 = .ok (.iload_n 2, 1) := by decide +kernel
theorem dX3_get_10 : decode cX3_get 10 = .ok (.ifCond .lt 13, 3) := by decide +kernel
theorem dX3_get_13 : decode cX3_get 13 = .ok (.iload_n 2, 1) := by decide +kernel
theorem dX3_get_14 : decode cX3_get 14 = .ok (.aload_n 0, 1) := by decide +kernel
theorem dX3_get_15 : decode cX3_get 15 = .ok (.getfield 13, 3) := by decide +kernel
theorem dX3_get_18 : decode cX3_get 18 = .ok (.iload_n 1, 1) := by decide +kernel
theorem dX3_get_19 : decode cX3_get 19 = .ok (.iaload, 1) := by decide +kernel
theorem dX3_get_20 : decode cX3_get 20 = .ok (.if_icmp .lt 7, 3) := by decide +kernel
theorem dX3_get_23 : decode cX3_get 23 = .ok (.iconst 1, 1) := by decide +kernel
theorem dX3_get_24 : decode cX3_get 24 = .ok (.goto 4, 3) := by decide +kernel
theorem dX3_get_27 : decode cX3_get 27 = .ok (.iconst 0, 1) := by decide +kernel
theorem dX3_get_28 : decode cX3_get 28 = .ok (.iconst 0, 1) := by decide +kernel
theorem dX3_get_29 : decode cX3_get 29 = .ok (.invokevirtual 55, 3) := by decide +kernel
theorem dX3_get_32 : decode cX3_get 32 = .ok (.ifCond .eq 7, 3) := by decide +kernel
theorem dX3_get_35 : decode cX3_get 35 = .ok (.iconst 0, 1) := by decide +kernel
theorem dX3_get_36 : decode cX3_get 36 = .ok (.goto 15, 3) := by decide +kernel
theorem dX3_get_39 : decode cX3_get 39 = .ok (.aload_n 0, 1) := by decide +kernel
theorem dX3_get_40 : decode cX3_get 40 = .ok (.getfield 18, 3) := by decide +kernel
theorem dX3_get_43 : decode cX3_get 43 = .ok (.sipush 4096, 3) := by decide +kernel
theorem dX3_get_46 : decode cX3_get 46 = .ok (.iload_n 1, 1) := by decide +kernel
theorem dX3_get_47 : decode cX3_get 47 = .ok (.imul, 1) := by decide +kernel
theorem dX3_get_48 : decode cX3_get 48 = .ok (.iload_n 2, 1) := by decide +kernel
theorem dX3_get_49 : decode cX3_get 49 = .ok (.iadd, 1) := by decide +kernel
theorem dX3_get_50 : decode cX3_get 50 = .ok (.iaload, 1) := by decide +kernel
theorem dX3_get_51 : decode cX3_get 51 = .ok (.ireturn, 1) := by decide +kernel
set_option maxRecDepth 20000 in
theorem ggX3_change_X3_countAll : GoodIn wsX3_change wsX3_countAll := goodIn_r _ [11, 6, 5, 12, 1, 4, 13, 14, 10, 15, 24, 25, 26, 27, 28, 29, 30, 31] (by decide +kernel) (by decide +kernel)
set_option maxRecDepth 20000 in
theorem gX3_change_X3_countAll : GoodIn wsX3_change (wsV RX3 51 RX3 yX3_countAll wsX3_countAll) := goodIn_app (goodIn_of _ (by decide +kernel)) ggX3_change_X3_countAll
set_option maxRecDepth 20000 in
theorem ggX3_change_X3_leaves : GoodIn wsX3_change wsX3_leaves := goodIn_r _ [15] (by decide +kernel) (by decide +kernel)
set_option maxRecDepth 20000 in
theorem gX3_change_X3_leaves : GoodIn wsX3_change (va_wsS RX3 38 yX3_leaves wsX3_leaves) := goodIn_app (goodIn_of _ (by decide +kernel)) ggX3_change_X3_leaves
set_option maxRecDepth 20000 in
theorem ggX3_change_X3_inLeaf : GoodIn wsX3_change wsX3_inLeaf := goodIn_r _ [18] (by decide +kernel) (by decide +kernel)
set_option maxRecDepth 20000 in
theorem gX3_change_X3_inLeaf : GoodIn wsX3_change (va_wsS RX3 43 yX3_inLeaf wsX3_inLeaf) := goodIn_app (goodIn_of _ (by decide +kernel)) ggX3_change_X3_inLeaf
set_option maxRecDepth 20000 in
theorem ggX3_change_X3_refuses : GoodIn wsX3_change wsX3_refuses := goodIn_r _ [22, 23, 24, 25, 26, 27, 28, 29, 30, 31] (by decide +kernel) (by decide +kernel)
set_option maxRecDepth 20000 in
theorem gX3_change_X3_refuses : GoodIn wsX3_change (wsV RX3 55 RX3 yX3_refuses wsX3_refuses) := goodIn_app (goodIn_of _ (by decide +kernel)) ggX3_change_X3_refuses
theorem dX3_change_0 : decode cX3_change 0 = .ok (.aload_n 0, 1) := by decide +kernel
theorem dX3_change_1 : decode cX3_change 1 = .ok (.invokevirtual 51, 3) := by decide +kernel
theorem dX3_change_4 : decode cX3_change 4 = .ok (.istore_n 2, 1) := by decide +kernel
theorem dX3_change_5 : decode cX3_change 5 = .ok (.iconst 0, 1) := by decide +kernel
theorem dX3_change_6 : decode cX3_change 6 = .ok (.istore_n 3, 1) := by decide +kernel
theorem dX3_change_7 : decode cX3_change 7 = .ok (.iconst 0, 1) := by decide +kernel
theorem dX3_change_8 : decode cX3_change 8 = .ok (.istore 4, 2) := by decide +kernel
theorem dX3_change_10 : decode cX3_change 10 = .ok (.iload 4, 2) := by decide +kernel
theorem dX3_change_12 : decode cX3_change 12 = .ok (.iconst 2, 1) := by decide +kernel
theorem dX3_change_13 : decode cX3_change 13 = .ok (.if_icmp .ge 302, 3) := by decide +kernel
theorem dX3_change_16 : decode cX3_change 16 = .ok (.iconst 0, 1) := by decide +kernel
theorem dX3_change_17 : decode cX3_change 17 = .ok (.istore 5, 2) := by decide +kernel
theorem dX3_change_19 : decode cX3_change 19 = .ok (.iload 5, 2) := by decide +kernel
theorem dX3_change_21 : decode cX3_change 21 = .ok (.aload_n 0, 1) := by decide +kernel
theorem dX3_change_22 : decode cX3_change 22 = .ok (.getfield 13, 3) := by decide +kernel
theorem dX3_change_25 : decode cX3_change 25 = .ok (.iload_n 1, 1) := by decide +kernel
theorem dX3_change_26 : decode cX3_change 26 = .ok (.iaload, 1) := by decide +kernel
theorem dX3_change_27 : decode cX3_change 27 = .ok (.invokestatic 38, 3) := by decide +kernel
theorem dX3_change_30 : decode cX3_change 30 = .ok (.if_icmp .ge 251, 3) := by decide +kernel
theorem dX3_change_33 : decode cX3_change 33 = .ok (.aload_n 0, 1) := by decide +kernel
theorem dX3_change_34 : decode cX3_change 34 = .ok (.getfield 13, 3) := by decide +kernel
theorem dX3_change_37 : decode cX3_change 37 = .ok (.iload_n 1, 1) := by decide +kernel
theorem dX3_change_38 : decode cX3_change 38 = .ok (.iaload, 1) := by decide +kernel
theorem dX3_change_39 : decode cX3_change 39 = .ok (.iload 5, 2) := by decide +kernel
theorem dX3_change_41 : decode cX3_change 41 = .ok (.invokestatic 43, 3) := by decide +kernel
theorem dX3_change_44 : decode cX3_change 44 = .ok (.istore 6, 2) := by decide +kernel
theorem dX3_change_46 : decode cX3_change 46 = .ok (.iconst 1, 1) := by decide +kernel
theorem dX3_change_47 : decode cX3_change 47 = .ok (.istore 7, 2) := by decide +kernel
theorem dX3_change_49 : decode cX3_change 49 = .ok (.iconst 1, 1) := by decide +kernel
theorem dX3_change_50 : decode cX3_change 50 = .ok (.istore 8, 2) := by decide +kernel
theorem dX3_change_52 : decode cX3_change 52 = .ok (.bipush 16, 2) := by decide +kernel
theorem dX3_change_54 : decode cX3_change 54 = .ok (.iload 5, 2) := by decide +kernel
theorem dX3_change_56 : decode cX3_change 56 = .ok (.imul, 1) := by decide +kernel
theorem dX3_change_57 : decode cX3_change 57 = .ok (.istore 9, 2) := by decide +kernel
theorem dX3_change_59 : decode cX3_change 59 = .ok (.iload 9, 2) := by decide +kernel
theorem dX3_change_61 : decode cX3_change 61 = .ok (.bipush 16, 2) := by decide +kernel
theorem dX3_change_63 : decode cX3_change 63 = .ok (.iload 5, 2) := by decide +kernel
theorem dX3_change_65 : decode cX3_change 65 = .ok (.imul, 1) := by decide +kernel
theorem dX3_change_66 : decode cX3_change 66 = .ok (.iload 6, 2) := by decide +kernel
theorem dX3_change_68 : decode cX3_change 68 = .ok (.iadd, 1) := by decide +kernel
theorem dX3_change_69 : decode cX3_change 69 = .ok (.if_icmp .ge 76, 3) := by decide +kernel
theorem dX3_change_72 : decode cX3_change 72 = .ok (.iload 7, 2) := by decide +kernel
theorem dX3_change_74 : decode cX3_change 74 = .ok (.ifCond .eq 30, 3) := by decide +kernel
theorem dX3_change_77 : decode cX3_change 77 = .ok (.aload_n 0, 1) := by decide +kernel
theorem dX3_change_78 : decode cX3_change 78 = .ok (.getfield 28, 3) := by decide +kernel
theorem dX3_change_81 : decode cX3_change 81 = .ok (.iload 9, 2) := by decide +kernel
theorem dX3_change_83 : decode cX3_change 83 = .ok (.iaload, 1) := by decide +kernel
theorem dX3_change_84 : decode cX3_change 84 = .ok (.aload_n 0, 1) := by decide +kernel
theorem dX3_change_85 : decode cX3_change 85 = .ok (.getfield 18, 3) := by decide +kernel
theorem dX3_change_88 : decode cX3_change 88 = .ok (.sipush 4096, 3) := by decide +kernel
theorem dX3_change_91 : decode cX3_change 91 = .ok (.iload_n 1, 1) := by decide +kernel
theorem dX3_change_92 : decode cX3_change 92 = .ok (.imul, 1) := by decide +kernel
theorem dX3_change_93 : decode cX3_change 93 = .ok (.iload 9, 2) := by decide +kernel
theorem dX3_change_95 : decode cX3_change 95 = .ok (.iadd, 1) := by decide +kernel
theorem dX3_change_96 : decode cX3_change 96 = .ok (.iaload, 1) := by decide +kernel
theorem dX3_change_97 : decode cX3_change 97 = .ok (.if_icmp .ne 7, 3) := by decide +kernel
theorem dX3_change_100 : decode cX3_change 100 = .ok (.iconst 1, 1) := by decide +kernel
theorem dX3_change_101 : decode cX3_change 101 = .ok (.goto 4, 3) := by decide +kernel
theorem dX3_change_104 : decode cX3_change 104 = .ok (.iconst 0, 1) := by decide +kernel
theorem dX3_change_105 : decode cX3_change 105 = .ok (.istore 7, 2) := by decide +kernel
theorem dX3_change_107 : decode cX3_change 107 = .ok (.iload 8, 2) := by decide +kernel
theorem dX3_change_109 : decode cX3_change 109 = .ok (.ifCond .eq 27, 3) := by decide +kernel
theorem dX3_change_112 : decode cX3_change 112 = .ok (.aload_n 0, 1) := by decide +kernel
theorem dX3_change_113 : decode cX3_change 113 = .ok (.getfield 28, 3) := by decide +kernel
theorem dX3_change_116 : decode cX3_change 116 = .ok (.iload 9, 2) := by decide +kernel
theorem dX3_change_118 : decode cX3_change 118 = .ok (.iaload, 1) := by decide +kernel
theorem dX3_change_119 : decode cX3_change 119 = .ok (.aload_n 0, 1) := by decide +kernel
theorem dX3_change_120 : decode cX3_change 120 = .ok (.getfield 28, 3) := by decide +kernel
theorem dX3_change_123 : decode cX3_change 123 = .ok (.bipush 16, 2) := by decide +kernel
theorem dX3_change_125 : decode cX3_change 125 = .ok (.iload 5, 2) := by decide +kernel
theorem dX3_change_127 : decode cX3_change 127 = .ok (.imul, 1) := by decide +kernel
theorem dX3_change_128 : decode cX3_change 128 = .ok (.iaload, 1) := by decide +kernel
theorem dX3_change_129 : decode cX3_change 129 = .ok (.if_icmp .ne 7, 3) := by decide +kernel
theorem dX3_change_132 : decode cX3_change 132 = .ok (.iconst 1, 1) := by decide +kernel
theorem dX3_change_133 : decode cX3_change 133 = .ok (.goto 4, 3) := by decide +kernel
theorem dX3_change_136 : decode cX3_change 136 = .ok (.iconst 0, 1) := by decide +kernel
theorem dX3_change_137 : decode cX3_change 137 = .ok (.istore 8, 2) := by decide +kernel
theorem dX3_change_139 : decode cX3_change 139 = .ok (.iinc 9 1, 3) := by decide +kernel
theorem dX3_change_142 : decode cX3_change 142 = .ok (.goto (-83), 3) := by decide +kernel
theorem dX3_change_145 : decode cX3_change 145 = .ok (.aload_n 0, 1) := by decide +kernel
theorem dX3_change_146 : decode cX3_change 146 = .ok (.getfield 21, 3) := by decide +kernel
theorem dX3_change_149 : decode cX3_change 149 = .ok (.sipush 256, 3) := by decide +kernel
theorem dX3_change_152 : decode cX3_change 152 = .ok (.iload_n 1, 1) := by decide +kernel
theorem dX3_change_153 : decode cX3_change 153 = .ok (.imul, 1) := by decide +kernel
theorem dX3_change_154 : decode cX3_change 154 = .ok (.iload 5, 2) := by decide +kernel
theorem dX3_change_156 : decode cX3_change 156 = .ok (.iadd, 1) := by decide +kernel
theorem dX3_change_157 : decode cX3_change 157 = .ok (.iaload, 1) := by decide +kernel
theorem dX3_change_158 : decode cX3_change 158 = .ok (.istore 9, 2) := by decide +kernel
theorem dX3_change_160 : decode cX3_change 160 = .ok (.iload 7, 2) := by decide +kernel
theorem dX3_change_162 : decode cX3_change 162 = .ok (.ifCond .ne 29, 3) := by decide +kernel
theorem dX3_change_165 : decode cX3_change 165 = .ok (.iload 8, 2) := by decide +kernel
theorem dX3_change_167 : decode cX3_change 167 = .ok (.ifCond .ne 24, 3) := by decide +kernel
theorem dX3_change_170 : decode cX3_change 170 = .ok (.iload 9, 2) := by decide +kernel
theorem dX3_change_172 : decode cX3_change 172 = .ok (.iconst (-1), 1) := by decide +kernel
theorem dX3_change_173 : decode cX3_change 173 = .ok (.if_icmp .eq 14, 3) := by decide +kernel
theorem dX3_change_176 : decode cX3_change 176 = .ok (.aload_n 0, 1) := by decide +kernel
theorem dX3_change_177 : decode cX3_change 177 = .ok (.getfield 25, 3) := by decide +kernel
theorem dX3_change_180 : decode cX3_change 180 = .ok (.iload 9, 2) := by decide +kernel
theorem dX3_change_182 : decode cX3_change 182 = .ok (.iaload, 1) := by decide +kernel
theorem dX3_change_183 : decode cX3_change 183 = .ok (.iconst 1, 1) := by decide +kernel
theorem dX3_change_184 : decode cX3_change 184 = .ok (.if_icmp .le 7, 3) := by decide +kernel
theorem dX3_change_187 : decode cX3_change 187 = .ok (.iconst 1, 1) := by decide +kernel
theorem dX3_change_188 : decode cX3_change 188 = .ok (.goto 4, 3) := by decide +kernel
theorem dX3_change_191 : decode cX3_change 191 = .ok (.iconst 0, 1) := by decide +kernel
theorem dX3_change_192 : decode cX3_change 192 = .ok (.istore 10, 2) := by decide +kernel
theorem dX3_change_194 : decode cX3_change 194 = .ok (.iload 4, 2) := by decide +kernel
theorem dX3_change_196 : decode cX3_change 196 = .ok (.ifCond .ne 19, 3) := by decide +kernel
theorem dX3_change_199 : decode cX3_change 199 = .ok (.iload_n 3, 1) := by decide +kernel
theorem dX3_change_200 : decode cX3_change 200 = .ok (.iload 10, 2) := by decide +kernel
theorem dX3_change_202 : decode cX3_change 202 = .ok (.ifCond .eq 7, 3) := by decide +kernel
theorem dX3_change_205 : decode cX3_change 205 = .ok (.iconst 1, 1) := by decide +kernel
theorem dX3_change_206 : decode cX3_change 206 = .ok (.goto 4, 3) := by decide +kernel
theorem dX3_change_209 : decode cX3_change 209 = .ok (.iconst 0, 1) := by decide +kernel
theorem dX3_change_210 : decode cX3_change 210 = .ok (.iadd, 1) := by decide +kernel
theorem dX3_change_211 : decode cX3_change 211 = .ok (.istore_n 3, 1) := by decide +kernel
theorem dX3_change_212 : decode cX3_change 212 = .ok (.goto 63, 3) := by decide +kernel
theorem dX3_change_215 : decode cX3_change 215 = .ok (.iload 7, 2) := by decide +kernel
theorem dX3_change_217 : decode cX3_change 217 = .ok (.ifCond .ne 39, 3) := by decide +kernel
theorem dX3_change_220 : decode cX3_change 220 = .ok (.aload_n 0, 1) := by decide +kernel
theorem dX3_change_221 : decode cX3_change 221 = .ok (.getfield 21, 3) := by decide +kernel
theorem dX3_change_224 : decode cX3_change 224 = .ok (.sipush 256, 3) := by decide +kernel
theorem dX3_change_227 : decode cX3_change 227 = .ok (.iload_n 1, 1) := by decide +kernel
theorem dX3_change_228 : decode cX3_change 228 = .ok (.imul, 1) := by decide +kernel
theorem dX3_change_229 : decode cX3_change 229 = .ok (.iload 5, 2) := by decide +kernel
theorem dX3_change_231 : decode cX3_change 231 = .ok (.iadd, 1) := by decide +kernel
theorem dX3_change_232 : decode cX3_change 232 = .ok (.iload 8, 2) := by decide +kernel
theorem dX3_change_234 : decode cX3_change 234 = .ok (.ifCond .eq 7, 3) := by decide +kernel
theorem dX3_change_237 : decode cX3_change 237 = .ok (.iconst (-1), 1) := by decide +kernel
theorem dX3_change_238 : decode cX3_change 238 = .ok (.goto 17, 3) := by decide +kernel
theorem dX3_change_241 : decode cX3_change 241 = .ok (.iload 10, 2) := by decide +kernel
theorem dX3_change_243 : decode cX3_change 243 = .ok (.ifCond .eq 10, 3) := by decide +kernel
theorem dX3_change_246 : decode cX3_change 246 = .ok (.aload_n 0, 1) := by decide +kernel
theorem dX3_change_247 : decode cX3_change 247 = .ok (.getfield 35, 3) := by decide +kernel
theorem dX3_change_250 : decode cX3_change 250 = .ok (.goto 5, 3) := by decide +kernel
theorem dX3_change_253 : decode cX3_change 253 = .ok (.iload 9, 2) := by decide +kernel
theorem dX3_change_255 : decode cX3_change 255 = .ok (.iastore, 1) := by decide +kernel
theorem dX3_change_256 : decode cX3_change 256 = .ok (.aload_n 0, 1) := by decide +kernel
theorem dX3_change_257 : decode cX3_change 257 = .ok (.dup, 1) := by decide +kernel
theorem dX3_change_258 : decode cX3_change 258 = .ok (.getfield 35, 3) := by decide +kernel
theorem dX3_change_261 : decode cX3_change 261 = .ok (.iload 10, 2) := by decide +kernel
theorem dX3_change_263 : decode cX3_change 263 = .ok (.ifCond .eq 7, 3) := by decide +kernel
theorem dX3_change_266 : decode cX3_change 266 = .ok (.iconst 1, 1) := by decide +kernel
theorem dX3_change_267 : decode cX3_change 267 = .ok (.goto 4, 3) := by decide +kernel
theorem dX3_change_270 : decode cX3_change 270 = .ok (.iconst 0, 1) := by decide +kernel
theorem dX3_change_271 : decode cX3_change 271 = .ok (.iadd, 1) := by decide +kernel
theorem dX3_change_272 : decode cX3_change 272 = .ok (.putfield 35, 3) := by decide +kernel
theorem dX3_change_275 : decode cX3_change 275 = .ok (.iinc 5 1, 3) := by decide +kernel
theorem dX3_change_278 : decode cX3_change 278 = .ok (.goto (-259), 3) := by decide +kernel
theorem dX3_change_281 : decode cX3_change 281 = .ok (.iload 4, 2) := by decide +kernel
theorem dX3_change_283 : decode cX3_change 283 = .ok (.ifCond .ne 26, 3) := by decide +kernel
theorem dX3_change_286 : decode cX3_change 286 = .ok (.aload_n 0, 1) := by decide +kernel
theorem dX3_change_287 : decode cX3_change 287 = .ok (.iconst 0, 1) := by decide +kernel
theorem dX3_change_288 : decode cX3_change 288 = .ok (.iload_n 3, 1) := by decide +kernel
theorem dX3_change_289 : decode cX3_change 289 = .ok (.sipush 512, 3) := by decide +kernel
theorem dX3_change_292 : decode cX3_change 292 = .ok (.iload_n 2, 1) := by decide +kernel
theorem dX3_change_293 : decode cX3_change 293 = .ok (.isub, 1) := by decide +kernel
theorem dX3_change_294 : decode cX3_change 294 = .ok (.if_icmp .le 7, 3) := by decide +kernel
theorem dX3_change_297 : decode cX3_change 297 = .ok (.iconst 1, 1) := by decide +kernel
theorem dX3_change_298 : decode cX3_change 298 = .ok (.goto 4, 3) := by decide +kernel
theorem dX3_change_301 : decode cX3_change 301 = .ok (.iconst 0, 1) := by decide +kernel
theorem dX3_change_302 : decode cX3_change 302 = .ok (.invokevirtual 55, 3) := by decide +kernel
theorem dX3_change_305 : decode cX3_change 305 = .ok (.ifCond .eq 4, 3) := by decide +kernel
theorem dX3_change_308 : decode cX3_change 308 = .ok (.return_, 1) := by decide +kernel
theorem dX3_change_309 : decode cX3_change 309 = .ok (.iinc 4 1, 3) := by decide +kernel
theorem dX3_change_312 : decode cX3_change 312 = .ok (.goto (-302), 3) := by decide +kernel
theorem dX3_change_315 : decode cX3_change 315 = .ok (.iconst 0, 1) := by decide +kernel
theorem dX3_change_316 : decode cX3_change 316 = .ok (.istore 4, 2) := by decide +kernel
theorem dX3_change_318 : decode cX3_change 318 = .ok (.iload 4, 2) := by decide +kernel
theorem dX3_change_320 : decode cX3_change 320 = .ok (.aload_n 0, 1) := by decide +kernel
theorem dX3_change_321 : decode cX3_change 321 = .ok (.getfield 13, 3) := by decide +kernel
theorem dX3_change_324 : decode cX3_change 324 = .ok (.iload_n 1, 1) := by decide +kernel
theorem dX3_change_325 : decode cX3_change 325 = .ok (.iaload, 1) := by decide +kernel
theorem dX3_change_326 : decode cX3_change 326 = .ok (.if_icmp .ge 29, 3) := by decide +kernel
theorem dX3_change_329 : decode cX3_change 329 = .ok (.aload_n 0, 1) := by decide +kernel
theorem dX3_change_330 : decode cX3_change 330 = .ok (.getfield 18, 3) := by decide +kernel
theorem dX3_change_333 : decode cX3_change 333 = .ok (.sipush 4096, 3) := by decide +kernel
theorem dX3_change_336 : decode cX3_change 336 = .ok (.iload_n 1, 1) := by decide +kernel
theorem dX3_change_337 : decode cX3_change 337 = .ok (.imul, 1) := by decide +kernel
theorem dX3_change_338 : decode cX3_change 338 = .ok (.iload 4, 2) := by decide +kernel
theorem dX3_change_340 : decode cX3_change 340 = .ok (.iadd, 1) := by decide +kernel
theorem dX3_change_341 : decode cX3_change 341 = .ok (.aload_n 0, 1) := by decide +kernel
theorem dX3_change_342 : decode cX3_change 342 = .ok (.getfield 28, 3) := by decide +kernel
theorem dX3_change_345 : decode cX3_change 345 = .ok (.iload 4, 2) := by decide +kernel
theorem dX3_change_347 : decode cX3_change 347 = .ok (.iaload, 1) := by decide +kernel
theorem dX3_change_348 : decode cX3_change 348 = .ok (.iastore, 1) := by decide +kernel
theorem dX3_change_349 : decode cX3_change 349 = .ok (.iinc 4 1, 3) := by decide +kernel
theorem dX3_change_352 : decode cX3_change 352 = .ok (.goto (-34), 3) := by decide +kernel
theorem dX3_change_355 : decode cX3_change 355 = .ok (.return_, 1) := by decide +kernel
