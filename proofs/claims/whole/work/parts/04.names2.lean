theorem dX8_init_29 : decode cX8_init 29 = .ok (.bipush 12, 2) := by decide +kernel
theorem dX8_init_31 : decode cX8_init 31 = .ok (.newarray .int, 2) := by decide +kernel
theorem dX8_init_33 : decode cX8_init 33 = .ok (.putfield 21, 3) := by decide +kernel
theorem dX8_init_36 : decode cX8_init 36 = .ok (.aload_n 0, 1) := by decide +kernel
theorem dX8_init_37 : decode cX8_init 37 = .ok (.bipush 12, 2) := by decide +kernel
theorem dX8_init_39 : decode cX8_init 39 = .ok (.newarray .int, 2) := by decide +kernel
theorem dX8_init_41 : decode cX8_init 41 = .ok (.putfield 24, 3) := by decide +kernel
theorem dX8_init_44 : decode cX8_init 44 = .ok (.aload_n 0, 1) := by decide +kernel
theorem dX8_init_45 : decode cX8_init 45 = .ok (.new 27, 3) := by decide +kernel
theorem dX8_init_48 : decode cX8_init 48 = .ok (.dup, 1) := by decide +kernel
theorem dX8_init_49 : decode cX8_init 49 = .ok (.invokespecial 29, 3) := by decide +kernel
theorem dX8_init_52 : decode cX8_init 52 = .ok (.putfield 30, 3) := by decide +kernel
theorem dX8_init_55 : decode cX8_init 55 = .ok (.return_, 1) := by decide +kernel
set_option maxRecDepth 20000 in
theorem ggX8_weighLate_X4_countLate : GoodIn wsX8_weighLate wsX4_countLate := goodIn_r _ [8, 9, 10, 11, 12, 13, 14, 15, 16, 24, 25, 26] (by decide +kernel) (by decide +kernel)
set_option maxRecDepth 20000 in
theorem gX8_weighLate_X4_countLate : GoodIn wsX8_weighLate (wsV RX8 34 RX4 yX4_countLate wsX4_countLate) := goodIn_app (goodIn_of _ (by decide +kernel)) ggX8_weighLate_X4_countLate
theorem dX8_weighLate_0 : decode cX8_weighLate 0 = .ok (.aload_n 0, 1) := by decide +kernel
theorem dX8_weighLate_1 : decode cX8_weighLate 1 = .ok (.getfield 9, 3) := by decide +kernel
theorem dX8_weighLate_4 : decode cX8_weighLate 4 = .ok (.iload_n 1, 1) := by decide +kernel
theorem dX8_weighLate_5 : decode cX8_weighLate 5 = .ok (.iaload, 1) := by decide +kernel
theorem dX8_weighLate_6 : decode cX8_weighLate 6 = .ok (.istore_n 3, 1) := by decide +kernel
theorem dX8_weighLate_7 : decode cX8_weighLate 7 = .ok (.aload_n 0, 1) := by decide +kernel
theorem dX8_weighLate_8 : decode cX8_weighLate 8 = .ok (.getfield 15, 3) := by decide +kernel
theorem dX8_weighLate_11 : decode cX8_weighLate 11 = .ok (.iload_n 1, 1) := by decide +kernel
theorem dX8_weighLate_12 : decode cX8_weighLate 12 = .ok (.iaload, 1) := by decide +kernel
theorem dX8_weighLate_13 : decode cX8_weighLate 13 = .ok (.istore 4, 2) := by decide +kernel
theorem dX8_weighLate_15 : decode cX8_weighLate 15 = .ok (.iload_n 3, 1) := by decide +kernel
theorem dX8_weighLate_16 : decode cX8_weighLate 16 = .ok (.bipush 12, 2) := by decide +kernel
theorem dX8_weighLate_18 : decode cX8_weighLate 18 = .ok (.if_icmp .le 15, 3) := by decide +kernel
theorem dX8_weighLate_21 : decode cX8_weighLate 21 = .ok (.iload 4, 2) := by decide +kernel
theorem dX8_weighLate_23 : decode cX8_weighLate 23 = .ok (.bipush 12, 2) := by decide +kernel
theorem dX8_weighLate_25 : decode cX8_weighLate 25 = .ok (.imul, 1) := by decide +kernel
theorem dX8_weighLate_26 : decode cX8_weighLate 26 = .ok (.iload_n 3, 1) := by decide +kernel
theorem dX8_weighLate_27 : decode cX8_weighLate 27 = .ok (.idiv, 1) := by decide +kernel
theorem dX8_weighLate_28 : decode cX8_weighLate 28 = .ok (.istore 4, 2) := by decide +kernel
theorem dX8_weighLate_30 : decode cX8_weighLate 30 = .ok (.bipush 12, 2) := by decide +kernel
theorem dX8_weighLate_32 : decode cX8_weighLate 32 = .ok (.istore_n 3, 1) := by decide +kernel
theorem dX8_weighLate_33 : decode cX8_weighLate 33 = .ok (.aload_n 0, 1) := by decide +kernel
theorem dX8_weighLate_34 : decode cX8_weighLate 34 = .ok (.getfield 30, 3) := by decide +kernel
theorem dX8_weighLate_37 : decode cX8_weighLate 37 = .ok (.iload_n 3, 1) := by decide +kernel
theorem dX8_weighLate_38 : decode cX8_weighLate 38 = .ok (.iload 4, 2) := by decide +kernel
theorem dX8_weighLate_40 : decode cX8_weighLate 40 = .ok (.iload_n 2, 1) := by decide +kernel
theorem dX8_weighLate_41 : decode cX8_weighLate 41 = .ok (.invokevirtual 34, 3) := by decide +kernel
theorem dX8_weighLate_44 : decode cX8_weighLate 44 = .ok (.return_, 1) := by decide +kernel
theorem dX8_addAct_0 : decode cX8_addAct 0 = .ok (.aload_n 0, 1) := by decide +kernel
theorem dX8_addAct_1 : decode cX8_addAct 1 = .ok (.getfield 21, 3) := by decide +kernel
theorem dX8_addAct_4 : decode cX8_addAct 4 = .ok (.aload_n 0, 1) := by decide +kernel
theorem dX8_addAct_5 : decode cX8_addAct 5 = .ok (.getfield 38, 3) := by decide +kernel
theorem dX8_addAct_8 : decode cX8_addAct 8 = .ok (.iload_n 1, 1) := by decide +kernel
theorem dX8_addAct_9 : decode cX8_addAct 9 = .ok (.iastore, 1) := by decide +kernel
theorem dX8_addAct_10 : decode cX8_addAct 10 = .ok (.aload_n 0, 1) := by decide +kernel
theorem dX8_addAct_11 : decode cX8_addAct 11 = .ok (.getfield 24, 3) := by decide +kernel
theorem dX8_addAct_14 : decode cX8_addAct 14 = .ok (.aload_n 0, 1) := by decide +kernel
theorem dX8_addAct_15 : decode cX8_addAct 15 = .ok (.getfield 38, 3) := by decide +kernel
theorem dX8_addAct_18 : decode cX8_addAct 18 = .ok (.iload_n 2, 1) := by decide +kernel
theorem dX8_addAct_19 : decode cX8_addAct 19 = .ok (.iastore, 1) := by decide +kernel
theorem dX8_addAct_20 : decode cX8_addAct 20 = .ok (.aload_n 0, 1) := by decide +kernel
theorem dX8_addAct_21 : decode cX8_addAct 21 = .ok (.dup, 1) := by decide +kernel
theorem dX8_addAct_22 : decode cX8_addAct 22 = .ok (.getfield 38, 3) := by decide +kernel
theorem dX8_addAct_25 : decode cX8_addAct 25 = .ok (.iconst 1, 1) := by decide +kernel
theorem dX8_addAct_26 : decode cX8_addAct 26 = .ok (.iadd, 1) := by decide +kernel
theorem dX8_addAct_27 : decode cX8_addAct 27 = .ok (.putfield 38, 3) := by decide +kernel
theorem dX8_addAct_30 : decode cX8_addAct 30 = .ok (.aload_n 0, 1) := by decide +kernel
theorem dX8_addAct_31 : decode cX8_addAct 31 = .ok (.getfield 38, 3) := by decide +kernel
theorem dX8_addAct_34 : decode cX8_addAct 34 = .ok (.iconst 1, 1) := by decide +kernel
theorem dX8_addAct_35 : decode cX8_addAct 35 = .ok (.isub, 1) := by decide +kernel
theorem dX8_addAct_36 : decode cX8_addAct 36 = .ok (.ireturn, 1) := by decide +kernel
theorem dX8_canDoAll_0 : decode cX8_canDoAll 0 = .ok (.iconst 0, 1) := by decide +kernel
theorem dX8_canDoAll_1 : decode cX8_canDoAll 1 = .ok (.istore_n 3, 1) := by decide +kernel
theorem dX8_canDoAll_2 : decode cX8_canDoAll 2 = .ok (.iload_n 3, 1) := by decide +kernel
theorem dX8_canDoAll_3 : decode cX8_canDoAll 3 = .ok (.aload_n 0, 1) := by decide +kernel
theorem dX8_canDoAll_4 : decode cX8_canDoAll 4 = .ok (.getfield 38, 3) := by decide +kernel
theorem dX8_canDoAll_7 : decode cX8_canDoAll 7 = .ok (.if_icmp .ge 32, 3) := by decide +kernel
theorem dX8_canDoAll_10 : decode cX8_canDoAll 10 = .ok (.aload_n 0, 1) := by decide +kernel
theorem dX8_canDoAll_11 : decode cX8_canDoAll 11 = .ok (.getfield 21, 3) := by decide +kernel
theorem dX8_canDoAll_14 : decode cX8_canDoAll 14 = .ok (.iload_n 3, 1) := by decide +kernel
theorem dX8_canDoAll_15 : decode cX8_canDoAll 15 = .ok (.iaload, 1) := by decide +kernel
theorem dX8_canDoAll_16 : decode cX8_canDoAll 16 = .ok (.iload_n 1, 1) := by decide +kernel
theorem dX8_canDoAll_17 : decode cX8_canDoAll 17 = .ok (.if_icmp .ne 16, 3) := by decide +kernel
theorem dX8_canDoAll_20 : decode cX8_canDoAll 20 = .ok (.aload_n 0, 1) := by decide +kernel
theorem dX8_canDoAll_21 : decode cX8_canDoAll 21 = .ok (.getfield 24, 3) := by decide +kernel
theorem dX8_canDoAll_24 : decode cX8_canDoAll 24 = .ok (.iload_n 3, 1) := by decide +kernel
theorem dX8_canDoAll_25 : decode cX8_canDoAll 25 = .ok (.iaload, 1) := by decide +kernel
theorem dX8_canDoAll_26 : decode cX8_canDoAll 26 = .ok (.iload_n 2, 1) := by decide +kernel
theorem dX8_canDoAll_27 : decode cX8_canDoAll 27 = .ok (.iand, 1) := by decide +kernel
theorem dX8_canDoAll_28 : decode cX8_canDoAll 28 = .ok (.ifCond .ne 5, 3) := by decide +kernel
theorem dX8_canDoAll_31 : decode cX8_canDoAll 31 = .ok (.iconst 0, 1) := by decide +kernel
theorem dX8_canDoAll_32 : decode cX8_canDoAll 32 = .ok (.ireturn, 1) := by decide +kernel
theorem dX8_canDoAll_33 : decode cX8_canDoAll 33 = .ok (.iinc 3 1, 3) := by decide +kernel
theorem dX8_canDoAll_36 : decode cX8_canDoAll 36 = .ok (.goto (-34), 3) := by decide +kernel
theorem dX8_canDoAll_39 : decode cX8_canDoAll 39 = .ok (.iconst 1, 1) := by decide +kernel
theorem dX8_canDoAll_40 : decode cX8_canDoAll 40 = .ok (.ireturn, 1) := by decide +kernel
theorem dX8_priceOf_0 : decode cX8_priceOf 0 = .ok (.iconst 0, 1) := by decide +kernel
theorem dX8_priceOf_1 : decode cX8_priceOf 1 = .ok (.istore_n 2, 1) := by decide +kernel
theorem dX8_priceOf_2 : decode cX8_priceOf 2 = .ok (.iconst 0, 1) := by decide +kernel
theorem dX8_priceOf_3 : decode cX8_priceOf 3 = .ok (.istore_n 3, 1) := by decide +kernel
theorem dX8_priceOf_4 : decode cX8_priceOf 4 = .ok (.iload_n 3, 1) := by decide +kernel
theorem dX8_priceOf_5 : decode cX8_priceOf 5 = .ok (.bipush 10, 2) := by decide +kernel
theorem dX8_priceOf_7 : decode cX8_priceOf 7 = .ok (.if_icmp .ge 31, 3) := by decide +kernel
theorem dX8_priceOf_10 : decode cX8_priceOf 10 = .ok (.iload_n 1, 1) := by decide +kernel
theorem dX8_priceOf_11 : decode cX8_priceOf 11 = .ok (.iload_n 3, 1) := by decide +kernel
theorem dX8_priceOf_12 : decode cX8_priceOf 12 = .ok (.ishr, 1) := by decide +kernel
theorem dX8_priceOf_13 : decode cX8_priceOf 13 = .ok (.iconst 1, 1) := by decide +kernel
theorem dX8_priceOf_14 : decode cX8_priceOf 14 = .ok (.iand, 1) := by decide +kernel
theorem dX8_priceOf_15 : decode cX8_priceOf 15 = .ok (.iconst 1, 1) := by decide +kernel
theorem dX8_priceOf_16 : decode cX8_priceOf 16 = .ok (.if_icmp .ne 16, 3) := by decide +kernel
theorem dX8_priceOf_19 : decode cX8_priceOf 19 = .ok (.iload_n 2, 1) := by decide +kernel
theorem dX8_priceOf_20 : decode cX8_priceOf 20 = .ok (.sipush 1000, 3) := by decide +kernel
theorem dX8_priceOf_23 : decode cX8_priceOf 23 = .ok (.aload_n 0, 1) := by decide +kernel
theorem dX8_priceOf_24 : decode cX8_priceOf 24 = .ok (.getfield 18, 3) := by decide +kernel
theorem dX8_priceOf_27 : decode cX8_priceOf 27 = .ok (.iload_n 3, 1) := by decide +kernel
theorem dX8_priceOf_28 : decode cX8_priceOf 28 = .ok (.iaload, 1) := by decide +kernel
theorem dX8_priceOf_29 : decode cX8_priceOf 29 = .ok (.isub, 1) := by decide +kernel
theorem dX8_priceOf_30 : decode cX8_priceOf 30 = .ok (.iadd, 1) := by decide +kernel
theorem dX8_priceOf_31 : decode cX8_priceOf 31 = .ok (.istore_n 2, 1) := by decide +kernel
theorem dX8_priceOf_32 : decode cX8_priceOf 32 = .ok (.iinc 3 1, 3) := by decide +kernel
theorem dX8_priceOf_35 : decode cX8_priceOf 35 = .ok (.goto (-31), 3) := by decide +kernel
theorem dX8_priceOf_38 : decode cX8_priceOf 38 = .ok (.iload_n 2, 1) := by decide +kernel
theorem dX8_priceOf_39 : decode cX8_priceOf 39 = .ok (.ireturn, 1) := by decide +kernel
set_option maxRecDepth 20000 in
theorem ggX8_fewestFor_X8_priceOf : GoodIn wsX8_fewestFor wsX8_priceOf := goodIn_r _ [5, 6, 21, 22, 23, 24, 25, 26, 27] (by decide +kernel) (by decide +kernel)
set_option maxRecDepth 20000 in
theorem gX8_fewestFor_X8_priceOf : GoodIn wsX8_fewestFor (wsV RX8 42 RX8 yX8_priceOf wsX8_priceOf) := goodIn_app (goodIn_of _ (by decide +kernel)) ggX8_fewestFor_X8_priceOf
set_option maxRecDepth 20000 in
theorem ggX8_fewestFor_J6_bitCount_0f7a4 : GoodIn wsX8_fewestFor wsJ6_bitCount_0f7a4 := goodIn_r _ [10, 11, 12, 13] (by decide +kernel) (by decide +kernel)
set_option maxRecDepth 20000 in
theorem gX8_fewestFor_J6_bitCount_0f7a4 : GoodIn wsX8_fewestFor (va_wsS RX8 46 yJ6_bitCount_0f7a4 wsJ6_bitCount_0f7a4) := goodIn_app (goodIn_of _ (by decide +kernel)) ggX8_fewestFor_J6_bitCount_0f7a4
set_option maxRecDepth 20000 in
theorem ggX8_fewestFor_X8_canDoAll : GoodIn wsX8_fewestFor wsX8_canDoAll := goodIn_r _ [17, 18, 19, 20, 21, 22, 23, 24, 25, 26, 27] (by decide +kernel) (by decide +kernel)
set_option maxRecDepth 20000 in
theorem gX8_fewestFor_X8_canDoAll : GoodIn wsX8_fewestFor (wsV RX8 51 RX8 yX8_canDoAll wsX8_canDoAll) := goodIn_app (goodIn_of _ (by decide +kernel)) ggX8_fewestFor_X8_canDoAll
theorem dX8_fewestFor_0 : decode cX8_fewestFor 0 = .ok (.sipush 1023, 3) := by decide +kernel
theorem dX8_fewestFor_3 : decode cX8_fewestFor 3 = .ok (.istore_n 2, 1) := by decide +kernel
theorem dX8_fewestFor_4 : decode cX8_fewestFor 4 = .ok (.bipush 10, 2) := by decide +kernel
theorem dX8_fewestFor_6 : decode cX8_fewestFor 6 = .ok (.istore_n 3, 1) := by decide +kernel
theorem dX8_fewestFor_7 : decode cX8_fewestFor 7 = .ok (.aload_n 0, 1) := by decide +kernel
theorem dX8_fewestFor_8 : decode cX8_fewestFor 8 = .ok (.iload_n 2, 1) := by decide +kernel
theorem dX8_fewestFor_9 : decode cX8_fewestFor 9 = .ok (.invokevirtual 42, 3) := by decide +kernel
theorem dX8_fewestFor_12 : decode cX8_fewestFor 12 = .ok (.istore 4, 2) := by decide +kernel
theorem dX8_fewestFor_14 : decode cX8_fewestFor 14 = .ok (.iconst 0, 1) := by decide +kernel
theorem dX8_fewestFor_15 : decode cX8_fewestFor 15 = .ok (.istore 5, 2) := by decide +kernel
theorem dX8_fewestFor_17 : decode cX8_fewestFor 17 = .ok (.iload 5, 2) := by decide +kernel
theorem dX8_fewestFor_19 : decode cX8_fewestFor 19 = .ok (.sipush 1024, 3) := by decide +kernel
theorem dX8_fewestFor_22 : decode cX8_fewestFor 22 = .ok (.if_icmp .ge 66, 3) := by decide +kernel
theorem dX8_fewestFor_25 : decode cX8_fewestFor 25 = .ok (.iload 5, 2) := by decide +kernel
theorem dX8_fewestFor_27 : decode cX8_fewestFor 27 = .ok (.invokestatic 46, 3) := by decide +kernel
theorem dX8_fewestFor_30 : decode cX8_fewestFor 30 = .ok (.istore 6, 2) := by decide +kernel
theorem dX8_fewestFor_32 : decode cX8_fewestFor 32 = .ok (.iload 6, 2) := by decide +kernel
theorem dX8_fewestFor_34 : decode cX8_fewestFor 34 = .ok (.iload_n 3, 1) := by decide +kernel
theorem dX8_fewestFor_35 : decode cX8_fewestFor 35 = .ok (.if_icmp .gt 47, 3) := by decide +kernel
theorem dX8_fewestFor_38 : decode cX8_fewestFor 38 = .ok (.aload_n 0, 1) := by decide +kernel
theorem dX8_fewestFor_39 : decode cX8_fewestFor 39 = .ok (.iload_n 1, 1) := by decide +kernel
theorem dX8_fewestFor_40 : decode cX8_fewestFor 40 = .ok (.iload 5, 2) := by decide +kernel
theorem dX8_fewestFor_42 : decode cX8_fewestFor 42 = .ok (.invokevirtual 51, 3) := by decide +kernel
theorem dX8_fewestFor_45 : decode cX8_fewestFor 45 = .ok (.ifCond .ne 6, 3) := by decide +kernel
theorem dX8_fewestFor_48 : decode cX8_fewestFor 48 = .ok (.goto 34, 3) := by decide +kernel
theorem dX8_fewestFor_51 : decode cX8_fewestFor 51 = .ok (.aload_n 0, 1) := by decide +kernel
theorem dX8_fewestFor_52 : decode cX8_fewestFor 52 = .ok (.iload 5, 2) := by decide +kernel
theorem dX8_fewestFor_54 : decode cX8_fewestFor 54 = .ok (.invokevirtual 42, 3) := by decide +kernel
theorem dX8_fewestFor_57 : decode cX8_fewestFor 57 = .ok (.istore 7, 2) := by decide +kernel
theorem dX8_fewestFor_59 : decode cX8_fewestFor 59 = .ok (.iload 6, 2) := by decide +kernel
theorem dX8_fewestFor_61 : decode cX8_fewestFor 61 = .ok (.iload_n 3, 1) := by decide +kernel
theorem dX8_fewestFor_62 : decode cX8_fewestFor 62 = .ok (.if_icmp .lt 10, 3) := by decide +kernel
theorem dX8_fewestFor_65 : decode cX8_fewestFor 65 = .ok (.iload 7, 2) := by decide +kernel
theorem dX8_fewestFor_67 : decode cX8_fewestFor 67 = .ok (.iload 4, 2) := by decide +kernel
theorem dX8_fewestFor_69 : decode cX8_fewestFor 69 = .ok (.if_icmp .ge 13, 3) := by decide +kernel
theorem dX8_fewestFor_72 : decode cX8_fewestFor 72 = .ok (.iload 5, 2) := by decide +kernel
theorem dX8_fewestFor_74 : decode cX8_fewestFor 74 = .ok (.istore_n 2, 1) := by decide +kernel
theorem dX8_fewestFor_75 : decode cX8_fewestFor 75 = .ok (.iload 6, 2) := by decide +kernel
theorem dX8_fewestFor_77 : decode cX8_fewestFor 77 = .ok (.istore_n 3, 1) := by decide +kernel
theorem dX8_fewestFor_78 : decode cX8_fewestFor 78 = .ok (.iload 7, 2) := by decide +kernel
theorem dX8_fewestFor_80 : decode cX8_fewestFor 80 = .ok (.istore 4, 2) := by decide +kernel
theorem dX8_fewestFor_82 : decode cX8_fewestFor 82 = .ok (.iinc 5 1, 3) := by decide +kernel
theorem dX8_fewestFor_85 : decode cX8_fewestFor 85 = .ok (.goto (-68), 3) := by decide +kernel
theorem dX8_fewestFor_88 : decode cX8_fewestFor 88 = .ok (.iload_n 2, 1) := by decide +kernel
theorem dX8_fewestFor_89 : decode cX8_fewestFor 89 = .ok (.ireturn, 1) := by decide +kernel
set_option maxRecDepth 20000 in
theorem ggX8_mustFor_J6_bitCount_0f7a4 : GoodIn wsX8_mustFor wsJ6_bitCount_0f7a4 := goodIn_r _ [7, 8, 9, 10] (by decide +kernel) (by decide +kernel)
set_option maxRecDepth 20000 in
theorem gX8_mustFor_J6_bitCount_0f7a4 : GoodIn wsX8_mustFor (va_wsS RX8 46 yJ6_bitCount_0f7a4 wsJ6_bitCount_0f7a4) := goodIn_app (goodIn_of _ (by decide +kernel)) ggX8_mustFor_J6_bitCount_0f7a4
theorem dX8_mustFor_0 : decode cX8_mustFor 0 = .ok (.iconst 0, 1) := by decide +kernel
theorem dX8_mustFor_1 : decode cX8_mustFor 1 = .ok (.istore_n 2, 1) := by decide +kernel
theorem dX8_mustFor_2 : decode cX8_mustFor 2 = .ok (.iconst 0, 1) := by decide +kernel
theorem dX8_mustFor_3 : decode cX8_mustFor 3 = .ok (.istore_n 3, 1) := by decide +kernel
theorem dX8_mustFor_4 : decode cX8_mustFor 4 = .ok (.iload_n 3, 1) := by decide +kernel
theorem dX8_mustFor_5 : decode cX8_mustFor 5 = .ok (.aload_n 0, 1) := by decide +kernel
theorem dX8_mustFor_6 : decode cX8_mustFor 6 = .ok (.getfield 38, 3) := by decide +kernel
theorem dX8_mustFor_9 : decode cX8_mustFor 9 = .ok (.if_icmp .ge 41, 3) := by decide +kernel
theorem dX8_mustFor_12 : decode cX8_mustFor 12 = .ok (.aload_n 0, 1) := by decide +kernel
theorem dX8_mustFor_13 : decode cX8_mustFor 13 = .ok (.getfield 21, 3) := by decide +kernel
theorem dX8_mustFor_16 : decode cX8_mustFor 16 = .ok (.iload_n 3, 1) := by decide +kernel
theorem dX8_mustFor_17 : decode cX8_mustFor 17 = .ok (.iaload, 1) := by decide +kernel
theorem dX8_mustFor_18 : decode cX8_mustFor 18 = .ok (.iload_n 1, 1) := by decide +kernel
theorem dX8_mustFor_19 : decode cX8_mustFor 19 = .ok (.if_icmp .ne 25, 3) := by decide +kernel
theorem dX8_mustFor_22 : decode cX8_mustFor 22 = .ok (.aload_n 0, 1) := by decide +kernel
theorem dX8_mustFor_23 : decode cX8_mustFor 23 = .ok (.getfield 24, 3) := by decide +kernel
theorem dX8_mustFor_26 : decode cX8_mustFor 26 = .ok (.iload_n 3, 1) := by decide +kernel
theorem dX8_mustFor_27 : decode cX8_mustFor 27 = .ok (.iaload, 1) := by decide +kernel
theorem dX8_mustFor_28 : decode cX8_mustFor 28 = .ok (.invokestatic 46, 3) := by decide +kernel
theorem dX8_mustFor_31 : decode cX8_mustFor 31 = .ok (.iconst 1, 1) := by decide +kernel
theorem dX8_mustFor_32 : decode cX8_mustFor 32 = .ok (.if_icmp .ne 12, 3) := by decide +kernel
theorem dX8_mustFor_35 : decode cX8_mustFor 35 = .ok (.iload_n 2, 1) := by decide +kernel
theorem dX8_mustFor_36 : decode cX8_mustFor 36 = .ok (.aload_n 0, 1) := by decide +kernel
theorem dX8_mustFor_37 : decode cX8_mustFor 37 = .ok (.getfield 24, 3) := by decide +kernel
theorem dX8_mustFor_40 : decode cX8_mustFor 40 = .ok (.iload_n 3, 1) := by decide +kernel
theorem dX8_mustFor_41 : decode cX8_mustFor 41 = .ok (.iaload, 1) := by decide +kernel
theorem dX8_mustFor_42 : decode cX8_mustFor 42 = .ok (.ior, 1) := by decide +kernel
theorem dX8_mustFor_43 : decode cX8_mustFor 43 = .ok (.istore_n 2, 1) := by decide +kernel
theorem dX8_mustFor_44 : decode cX8_mustFor 44 = .ok (.iinc 3 1, 3) := by decide +kernel
theorem dX8_mustFor_47 : decode cX8_mustFor 47 = .ok (.goto (-43), 3) := by decide +kernel
theorem dX8_mustFor_50 : decode cX8_mustFor 50 = .ok (.iload_n 2, 1) := by decide +kernel
theorem dX8_mustFor_51 : decode cX8_mustFor 51 = .ok (.ireturn, 1) := by decide +kernel
theorem dX9_init_0 : decode cX9_init 0 = .ok (.aload_n 0, 1) := by decide +kernel
theorem dX9_init_1 : decode cX9_init 1 = .ok (.invokespecial 3, 3) := by decide +kernel
theorem dX9_init_4 : decode cX9_init 4 = .ok (.aload_n 0, 1) := by decide +kernel
theorem dX9_init_5 : decode cX9_init 5 = .ok (.bipush 10, 2) := by decide +kernel
theorem dX9_init_7 : decode cX9_init 7 = .ok (.newarray .int, 2) := by decide +kernel
theorem dX9_init_9 : decode cX9_init 9 = .ok (.putfield 9, 3) := by decide +kernel
theorem dX9_init_12 : decode cX9_init 12 = .ok (.aload_n 0, 1) := by decide +kernel
theorem dX9_init_13 : decode cX9_init 13 = .ok (.bipush 10, 2) := by decide +kernel
theorem dX9_init_15 : decode cX9_init 15 = .ok (.newarray .int, 2) := by decide +kernel
theorem dX9_init_17 : decode cX9_init 17 = .ok (.putfield 15, 3) := by decide +kernel
theorem dX9_init_20 : decode cX9_init 20 = .ok (.aload_n 0, 1) := by decide +kernel
theorem dX9_init_21 : decode cX9_init 21 = .ok (.bipush 10, 2) := by decide +kernel
theorem dX9_init_23 : decode cX9_init 23 = .ok (.newarray .int, 2) := by decide +kernel
theorem dX9_init_25 : decode cX9_init 25 = .ok (.putfield 18, 3) := by decide +kernel
theorem dX9_init_28 : decode cX9_init 28 = .ok (.aload_n 0, 1) := by decide +kernel
theorem dX9_init_29 : decode cX9_init 29 = .ok (.bipush 10, 2) := by decide +kernel
theorem dX9_init_31 : decode cX9_init 31 = .ok (.newarray .int, 2) := by decide +kernel
theorem dX9_init_33 : decode cX9_init 33 = .ok (.putfield 21, 3) := by decide +kernel
theorem dX9_init_36 : decode cX9_init 36 = .ok (.aload_n 0, 1) := by decide +kernel
theorem dX9_init_37 : decode cX9_init 37 = .ok (.bipush 10, 2) := by decide +kernel
theorem dX9_init_39 : decode cX9_init 39 = .ok (.newarray .int, 2) := by decide +kernel
theorem dX9_init_41 : decode cX9_init 41 = .ok (.putfield 24, 3) := by decide +kernel
theorem dX9_init_44 : decode cX9_init 44 = .ok (.return_, 1) := by decide +kernel
set_option maxRecDepth 20000 in
theorem ggX9_add_X9_clash : GoodIn wsX9_add wsX9_clash := goodIn_r _ [11, 1, 3, 4, 5, 12, 13, 14, 15, 16, 17, 18, 19] (by decide +kernel) (by decide +kernel)
set_option maxRecDepth 20000 in
theorem gX9_add_X9_clash : GoodIn wsX9_add (wsV RX9 31 RX9 yX9_clash wsX9_clash) := goodIn_app (goodIn_of _ (by decide +kernel)) ggX9_add_X9_clash
theorem dX9_add_0 : decode cX9_add 0 = .ok (.aload_n 0, 1) := by decide +kernel
theorem dX9_add_1 : decode cX9_add 1 = .ok (.getfield 9, 3) := by decide +kernel
theorem dX9_add_4 : decode cX9_add 4 = .ok (.aload_n 0, 1) := by decide +kernel
theorem dX9_add_5 : decode cX9_add 5 = .ok (.getfield 27, 3) := by decide +kernel
theorem dX9_add_8 : decode cX9_add 8 = .ok (.iload_n 1, 1) := by decide +kernel
theorem dX9_add_9 : decode cX9_add 9 = .ok (.iastore, 1) := by decide +kernel
theorem dX9_add_10 : decode cX9_add 10 = .ok (.aload_n 0, 1) := by decide +kernel
theorem dX9_add_11 : decode cX9_add 11 = .ok (.getfield 15, 3) := by decide +kernel
theorem dX9_add_14 : decode cX9_add 14 = .ok (.aload_n 0, 1) := by decide +kernel
theorem dX9_add_15 : decode cX9_add 15 = .ok (.getfield 27, 3) := by decide +kernel
theorem dX9_add_18 : decode cX9_add 18 = .ok (.iload_n 2, 1) := by decide +kernel
theorem dX9_add_19 : decode cX9_add 19 = .ok (.iastore, 1) := by decide +kernel
theorem dX9_add_20 : decode cX9_add 20 = .ok (.aload_n 0, 1) := by decide +kernel
theorem dX9_add_21 : decode cX9_add 21 = .ok (.getfield 18, 3) := by decide +kernel
theorem dX9_add_24 : decode cX9_add 24 = .ok (.aload_n 0, 1) := by decide +kernel
theorem dX9_add_25 : decode cX9_add 25 = .ok (.getfield 27, 3) := by decide +kernel
theorem dX9_add_28 : decode cX9_add 28 = .ok (.iload_n 3, 1) := by decide +kernel
theorem dX9_add_29 : decode cX9_add 29 = .ok (.iastore, 1) := by decide +kernel
theorem dX9_add_30 : decode cX9_add 30 = .ok (.aload_n 0, 1) := by decide +kernel
theorem dX9_add_31 : decode cX9_add 31 = .ok (.getfield 21, 3) := by decide +kernel
theorem dX9_add_34 : decode cX9_add 34 = .ok (.aload_n 0, 1) := by decide +kernel
theorem dX9_add_35 : decode cX9_add 35 = .ok (.getfield 27, 3) := by decide +kernel
theorem dX9_add_38 : decode cX9_add 38 = .ok (.iload 4, 2) := by decide +kernel
theorem dX9_add_40 : decode cX9_add 40 = .ok (.iastore, 1) := by decide +kernel
theorem dX9_add_41 : decode cX9_add 41 = .ok (.aload_n 0, 1) := by decide +kernel
theorem dX9_add_42 : decode cX9_add 42 = .ok (.getfield 24, 3) := by decide +kernel
theorem dX9_add_45 : decode cX9_add 45 = .ok (.aload_n 0, 1) := by decide +kernel
theorem dX9_add_46 : decode cX9_add 46 = .ok (.getfield 27, 3) := by decide +kernel
theorem dX9_add_49 : decode cX9_add 49 = .ok (.iconst 0, 1) := by decide +kernel
theorem dX9_add_50 : decode cX9_add 50 = .ok (.iastore, 1) := by decide +kernel
theorem dX9_add_51 : decode cX9_add 51 = .ok (.iconst 0, 1) := by decide +kernel
theorem dX9_add_52 : decode cX9_add 52 = .ok (.istore 5, 2) := by decide +kernel
theorem dX9_add_54 : decode cX9_add 54 = .ok (.iload 5, 2) := by decide +kernel
theorem dX9_add_56 : decode cX9_add 56 = .ok (.aload_n 0, 1) := by decide +kernel
theorem dX9_add_57 : decode cX9_add 57 = .ok (.getfield 27, 3) := by decide +kernel
theorem dX9_add_60 : decode cX9_add 60 = .ok (.if_icmp .ge 54, 3) := by decide +kernel
theorem dX9_add_63 : decode cX9_add 63 = .ok (.aload_n 0, 1) := by decide +kernel
theorem dX9_add_64 : decode cX9_add 64 = .ok (.iload 5, 2) := by decide +kernel
theorem dX9_add_66 : decode cX9_add 66 = .ok (.aload_n 0, 1) := by decide +kernel
theorem dX9_add_67 : decode cX9_add 67 = .ok (.getfield 27, 3) := by decide +kernel
theorem dX9_add_70 : decode cX9_add 70 = .ok (.invokevirtual 31, 3) := by decide +kernel
theorem dX9_add_73 : decode cX9_add 73 = .ok (.ifCond .eq 35, 3) := by decide +kernel
theorem dX9_add_76 : decode cX9_add 76 = .ok (.aload_n 0, 1) := by decide +kernel
theorem dX9_add_77 : decode cX9_add 77 = .ok (.getfield 24, 3) := by decide +kernel
theorem dX9_add_80 : decode cX9_add 80 = .ok (.iload 5, 2) := by decide +kernel
theorem dX9_add_82 : decode cX9_add 82 = .ok (.dup2, 1) := by decide +kernel
theorem dX9_add_83 : decode cX9_add 83 = .ok (.iaload, 1) := by decide +kernel
theorem dX9_add_84 : decode cX9_add 84 = .ok (.iconst 1, 1) := by decide +kernel
theorem dX9_add_85 : decode cX9_add 85 = .ok (.aload_n 0, 1) := by decide +kernel
theorem dX9_add_86 : decode cX9_add 86 = .ok (.getfield 27, 3) := by decide +kernel
theorem dX9_add_89 : decode cX9_add 89 = .ok (.ishl, 1) := by decide +kernel
theorem dX9_add_90 : decode cX9_add 90 = .ok (.ior, 1) := by decide +kernel
theorem dX9_add_91 : decode cX9_add 91 = .ok (.iastore, 1) := by decide +kernel
theorem dX9_add_92 : decode cX9_add 92 = .ok (.aload_n 0, 1) := by decide +kernel
theorem dX9_add_93 : decode cX9_add 93 = .ok (.getfield 24, 3) := by decide +kernel
theorem dX9_add_96 : decode cX9_add 96 = .ok (.aload_n 0, 1) := by decide +kernel
theorem dX9_add_97 : decode cX9_add 97 = .ok (.getfield 27, 3) := by decide +kernel
theorem dX9_add_100 : decode cX9_add 100 = .ok (.dup2, 1) := by decide +kernel
theorem dX9_add_101 : decode cX9_add 101 = .ok (.iaload, 1) := by decide +kernel
theorem dX9_add_102 : decode cX9_add 102 = .ok (.iconst 1, 1) := by decide +kernel
theorem dX9_add_103 : decode cX9_add 103 = .ok (.iload 5, 2) := by decide +kernel
theorem dX9_add_105 : decode cX9_add 105 = .ok (.ishl, 1) := by decide +kernel
theorem dX9_add_106 : decode cX9_add 106 = .ok (.ior, 1) := by decide +kernel
theorem dX9_add_107 : decode cX9_add 107 = .ok (.iastore, 1) := by decide +kernel
theorem dX9_add_108 : decode cX9_add 108 = .ok (.iinc 5 1, 3) := by decide +kernel
theorem dX9_add_111 : decode cX9_add 111 = .ok (.goto (-57), 3) := by decide +kernel
theorem dX9_add_114 : decode cX9_add 114 = .ok (.aload_n 0, 1) := by decide +kernel
theorem dX9_add_115 : decode cX9_add 115 = .ok (.dup, 1) := by decide +kernel
theorem dX9_add_116 : decode cX9_add 116 = .ok (.getfield 27, 3) := by decide +kernel
theorem dX9_add_119 : decode cX9_add 119 = .ok (.iconst 1, 1) := by decide +kernel
theorem dX9_add_120 : decode cX9_add 120 = .ok (.iadd, 1) := by decide +kernel
theorem dX9_add_121 : decode cX9_add 121 = .ok (.putfield 27, 3) := by decide +kernel
theorem dX9_add_124 : decode cX9_add 124 = .ok (.aload_n 0, 1) := by decide +kernel
theorem dX9_add_125 : decode cX9_add 125 = .ok (.getfield 27, 3) := by decide +kernel
theorem dX9_add_128 : decode cX9_add 128 = .ok (.iconst 1, 1) := by decide +kernel
theorem dX9_add_129 : decode cX9_add 129 = .ok (.isub, 1) := by decide +kernel
theorem dX9_add_130 : decode cX9_add 130 = .ok (.ireturn, 1) := by decide +kernel
theorem dX9_clash_0 : decode cX9_clash 0 = .ok (.aload_n 0, 1) := by decide +kernel
theorem dX9_clash_1 : decode cX9_clash 1 = .ok (.getfield 9, 3) := by decide +kernel
theorem dX9_clash_4 : decode cX9_clash 4 = .ok (.iload_n 1, 1) := by decide +kernel
theorem dX9_clash_5 : decode cX9_clash 5 = .ok (.iaload, 1) := by decide +kernel
theorem dX9_clash_6 : decode cX9_clash 6 = .ok (.aload_n 0, 1) := by decide +kernel
theorem dX9_clash_7 : decode cX9_clash 7 = .ok (.getfield 9, 3) := by decide +kernel
theorem dX9_clash_10 : decode cX9_clash 10 = .ok (.iload_n 2, 1) := by decide +kernel
theorem dX9_clash_11 : decode cX9_clash 11 = .ok (.iaload, 1) := by decide +kernel
theorem dX9_clash_12 : decode cX9_clash 12 = .ok (.if_icmp .ne 52, 3) := by decide +kernel
theorem dX9_clash_15 : decode cX9_clash 15 = .ok (.aload_n 0, 1) := by decide +kernel
theorem dX9_clash_16 : decode cX9_clash 16 = .ok (.getfield 15, 3) := by decide +kernel
theorem dX9_clash_19 : decode cX9_clash 19 = .ok (.iload_n 1, 1) := by decide +kernel
theorem dX9_clash_20 : decode cX9_clash 20 = .ok (.iaload, 1) := by decide +kernel
theorem dX9_clash_21 : decode cX9_clash 21 = .ok (.aload_n 0, 1) := by decide +kernel
theorem dX9_clash_22 : decode cX9_clash 22 = .ok (.getfield 15, 3) := by decide +kernel
theorem dX9_clash_25 : decode cX9_clash 25 = .ok (.iload_n 2, 1) := by decide +kernel
theorem dX9_clash_26 : decode cX9_clash 26 = .ok (.iaload, 1) := by decide +kernel
theorem dX9_clash_27 : decode cX9_clash 27 = .ok (.if_icmp .eq 37, 3) := by decide +kernel
theorem dX9_clash_30 : decode cX9_clash 30 = .ok (.aload_n 0, 1) := by decide +kernel
theorem dX9_clash_31 : decode cX9_clash 31 = .ok (.getfield 18, 3) := by decide +kernel
theorem dX9_clash_34 : decode cX9_clash 34 = .ok (.iload_n 1, 1) := by decide +kernel
theorem dX9_clash_35 : decode cX9_clash 35 = .ok (.iaload, 1) := by decide +kernel
theorem dX9_clash_36 : decode cX9_clash 36 = .ok (.aload_n 0, 1) := by decide +kernel
theorem dX9_clash_37 : decode cX9_clash 37 = .ok (.getfield 21, 3) := by decide +kernel
theorem dX9_clash_40 : decode cX9_clash 40 = .ok (.iload_n 2, 1) := by decide +kernel
theorem dX9_clash_41 : decode cX9_clash 41 = .ok (.iaload, 1) := by decide +kernel
theorem dX9_clash_42 : decode cX9_clash 42 = .ok (.if_icmp .gt 22, 3) := by decide +kernel
theorem dX9_clash_45 : decode cX9_clash 45 = .ok (.aload_n 0, 1) := by decide +kernel
theorem dX9_clash_46 : decode cX9_clash 46 = .ok (.getfield 18, 3) := by decide +kernel
theorem dX9_clash_49 : decode cX9_clash 49 = .ok (.iload_n 2, 1) := by decide +kernel
theorem dX9_clash_50 : decode cX9_clash 50 = .ok (.iaload, 1) := by decide +kernel
theorem dX9_clash_51 : decode cX9_clash 51 = .ok (.aload_n 0, 1) := by decide +kernel
theorem dX9_clash_52 : decode cX9_clash 52 = .ok (.getfield 21, 3) := by decide +kernel
theorem dX9_clash_55 : decode cX9_clash 55 = .ok (.iload_n 1, 1) := by decide +kernel
theorem dX9_clash_56 : decode cX9_clash 56 = .ok (.iaload, 1) := by decide +kernel
theorem dX9_clash_57 : decode cX9_clash 57 = .ok (.if_icmp .gt 7, 3) := by decide +kernel
theorem dX9_clash_60 : decode cX9_clash 60 = .ok (.iconst 1, 1) := by decide +kernel
theorem dX9_clash_61 : decode cX9_clash 61 = .ok (.goto 4, 3) := by decide +kernel
theorem dX9_clash_64 : decode cX9_clash 64 = .ok (.iconst 0, 1) := by decide +kernel
theorem dX9_clash_65 : decode cX9_clash 65 = .ok (.ireturn, 1) := by decide +kernel
theorem dX9_restCanBe_0 : decode cX9_restCanBe 0 = .ok (.iconst 0, 1) := by decide +kernel
theorem dX9_restCanBe_1 : decode cX9_restCanBe 1 = .ok (.istore_n 2, 1) := by decide +kernel
theorem dX9_restCanBe_2 : decode cX9_restCanBe 2 = .ok (.iload_n 2, 1) := by decide +kernel
theorem dX9_restCanBe_3 : decode cX9_restCanBe 3 = .ok (.aload_n 0, 1) := by decide +kernel
theorem dX9_restCanBe_4 : decode cX9_restCanBe 4 = .ok (.getfield 27, 3) := by decide +kernel
theorem dX9_restCanBe_7 : decode cX9_restCanBe 7 = .ok (.if_icmp .ge 32, 3) := by decide +kernel
theorem dX9_restCanBe_10 : decode cX9_restCanBe 10 = .ok (.iload_n 1, 1) := by decide +kernel
theorem dX9_restCanBe_11 : decode cX9_restCanBe 11 = .ok (.iload_n 2, 1) := by decide +kernel
theorem dX9_restCanBe_12 : decode cX9_restCanBe 12 = .ok (.ishr, 1) := by decide +kernel
theorem dX9_restCanBe_13 : decode cX9_restCanBe 13 = .ok (.iconst 1, 1) := by decide +kernel
theorem dX9_restCanBe_14 : decode cX9_restCanBe 14 = .ok (.iand, 1) := by decide +kernel
theorem dX9_restCanBe_15 : decode cX9_restCanBe 15 = .ok (.ifCond .ne 18, 3) := by decide +kernel
theorem dX9_restCanBe_18 : decode cX9_restCanBe 18 = .ok (.aload_n 0, 1) := by decide +kernel
theorem dX9_restCanBe_19 : decode cX9_restCanBe 19 = .ok (.getfield 24, 3) := by decide +kernel
theorem dX9_restCanBe_22 : decode cX9_restCanBe 22 = .ok (.iload_n 2, 1) := by decide +kernel
theorem dX9_restCanBe_23 : decode cX9_restCanBe 23 = .ok (.iaload, 1) := by decide +kernel
theorem dX9_restCanBe_24 : decode cX9_restCanBe 24 = .ok (.iload_n 1, 1) := by decide +kernel
theorem dX9_restCanBe_25 : decode cX9_restCanBe 25 = .ok (.iconst (-1), 1) := by decide +kernel
theorem dX9_restCanBe_26 : decode cX9_restCanBe 26 = .ok (.ixor, 1) := by decide +kernel
theorem dX9_restCanBe_27 : decode cX9_restCanBe 27 = .ok (.iand, 1) := by decide +kernel
theorem dX9_restCanBe_28 : decode cX9_restCanBe 28 = .ok (.ifCond .eq 5, 3) := by decide +kernel
theorem dX9_restCanBe_31 : decode cX9_restCanBe 31 = .ok (.iconst 0, 1) := by decide +kernel
theorem dX9_restCanBe_32 : decode cX9_restCanBe 32 = .ok (.ireturn, 1) := by decide +kernel
theorem dX9_restCanBe_33 : decode cX9_restCanBe 33 = .ok (.iinc 2 1, 3) := by decide +kernel
theorem dX9_restCanBe_36 : decode cX9_restCanBe 36 = .ok (.goto (-34), 3) := by decide +kernel
theorem dX9_restCanBe_39 : decode cX9_restCanBe 39 = .ok (.iconst 1, 1) := by decide +kernel
theorem dX9_restCanBe_40 : decode cX9_restCanBe 40 = .ok (.ireturn, 1) := by decide +kernel
set_option maxRecDepth 20000 in
theorem ggX9_sift_J6_bitCount_0f7a4 : GoodIn wsX9_sift wsJ6_bitCount_0f7a4 := goodIn_r _ [7, 8, 9, 10] (by decide +kernel) (by decide +kernel)
set_option maxRecDepth 20000 in
theorem gX9_sift_J6_bitCount_0f7a4 : GoodIn wsX9_sift (va_wsS RX9 41 yJ6_bitCount_0f7a4 wsJ6_bitCount_0f7a4) := goodIn_app (goodIn_of _ (by decide +kernel)) ggX9_sift_J6_bitCount_0f7a4
set_option maxRecDepth 20000 in
theorem ggX9_sift_X9_restCanBe : GoodIn wsX9_sift wsX9_restCanBe := goodIn_r _ [15, 1, 16, 17, 18, 19, 20, 21, 22, 23, 24] (by decide +kernel) (by decide +kernel)
set_option maxRecDepth 20000 in
theorem gX9_sift_X9_restCanBe : GoodIn wsX9_sift (wsV RX9 47 RX9 yX9_restCanBe wsX9_restCanBe) := goodIn_app (goodIn_of _ (by decide +kernel)) ggX9_sift_X9_restCanBe
theorem dX9_sift_0 : decode cX9_sift 0 = .ok (.iconst 1, 1) := by decide +kernel
theorem dX9_sift_1 : decode cX9_sift 1 = .ok (.aload_n 0, 1) := by decide +kernel
theorem dX9_sift_2 : decode cX9_sift 2 = .ok (.getfield 27, 3) := by decide +kernel
theorem dX9_sift_5 : decode cX9_sift 5 = .ok (.ishl, 1) := by decide +kernel
theorem dX9_sift_6 : decode cX9_sift 6 = .ok (.iconst 1, 1) := by decide +kernel
theorem dX9_sift_7 : decode cX9_sift 7 = .ok (.isub, 1) := by decide +kernel
theorem dX9_sift_8 : decode cX9_sift 8 = .ok (.istore_n 1, 1) := by decide +kernel
theorem dX9_sift_9 : decode cX9_sift 9 = .ok (.aload_n 0, 1) := by decide +kernel
theorem dX9_sift_10 : decode cX9_sift 10 = .ok (.iload_n 1, 1) := by decide +kernel
theorem dX9_sift_11 : decode cX9_sift 11 = .ok (.putfield 35, 3) := by decide +kernel
theorem dX9_sift_14 : decode cX9_sift 14 = .ok (.aload_n 0, 1) := by decide +kernel
theorem dX9_sift_15 : decode cX9_sift 15 = .ok (.iload_n 1, 1) := by decide +kernel
theorem dX9_sift_16 : decode cX9_sift 16 = .ok (.putfield 38, 3) := by decide +kernel
theorem dX9_sift_19 : decode cX9_sift 19 = .ok (.aload_n 0, 1) := by decide +kernel
theorem dX9_sift_20 : decode cX9_sift 20 = .ok (.getfield 27, 3) := by decide +kernel
theorem dX9_sift_23 : decode cX9_sift 23 = .ok (.iconst 1, 1) := by decide +kernel
theorem dX9_sift_24 : decode cX9_sift 24 = .ok (.iadd, 1) := by decide +kernel
theorem dX9_sift_25 : decode cX9_sift 25 = .ok (.istore_n 2, 1) := by decide +kernel
theorem dX9_sift_26 : decode cX9_sift 26 = .ok (.iconst 0, 1) := by decide +kernel
theorem dX9_sift_27 : decode cX9_sift 27 = .ok (.istore_n 3, 1) := by decide +kernel
theorem dX9_sift_28 : decode cX9_sift 28 = .ok (.iload_n 3, 1) := by decide +kernel
theorem dX9_sift_29 : decode cX9_sift 29 = .ok (.iload_n 1, 1) := by decide +kernel
theorem dX9_sift_30 : decode cX9_sift 30 = .ok (.if_icmp .gt 61, 3) := by decide +kernel
theorem dX9_sift_33 : decode cX9_sift 33 = .ok (.iload_n 3, 1) := by decide +kernel
theorem dX9_sift_34 : decode cX9_sift 34 = .ok (.invokestatic 41, 3) := by decide +kernel
theorem dX9_sift_37 : decode cX9_sift 37 = .ok (.istore 4, 2) := by decide +kernel
theorem dX9_sift_39 : decode cX9_sift 39 = .ok (.iload 4, 2) := by decide +kernel
theorem dX9_sift_41 : decode cX9_sift 41 = .ok (.iload_n 2, 1) := by decide +kernel
theorem dX9_sift_42 : decode cX9_sift 42 = .ok (.if_icmp .gt 43, 3) := by decide +kernel
theorem dX9_sift_45 : decode cX9_sift 45 = .ok (.aload_n 0, 1) := by decide +kernel
theorem dX9_sift_46 : decode cX9_sift 46 = .ok (.iload_n 3, 1) := by decide +kernel
theorem dX9_sift_47 : decode cX9_sift 47 = .ok (.invokevirtual 47, 3) := by decide +kernel
theorem dX9_sift_50 : decode cX9_sift 50 = .ok (.ifCond .ne 6, 3) := by decide +kernel
theorem dX9_sift_53 : decode cX9_sift 53 = .ok (.goto 32, 3) := by decide +kernel
theorem dX9_sift_56 : decode cX9_sift 56 = .ok (.iload 4, 2) := by decide +kernel
theorem dX9_sift_58 : decode cX9_sift 58 = .ok (.iload_n 2, 1) := by decide +kernel
theorem dX9_sift_59 : decode cX9_sift 59 = .ok (.if_icmp .ge 16, 3) := by decide +kernel
theorem dX9_sift_62 : decode cX9_sift 62 = .ok (.iload 4, 2) := by decide +kernel
theorem dX9_sift_64 : decode cX9_sift 64 = .ok (.istore_n 2, 1) := by decide +kernel
theorem dX9_sift_65 : decode cX9_sift 65 = .ok (.aload_n 0, 1) := by decide +kernel
theorem dX9_sift_66 : decode cX9_sift 66 = .ok (.iload_n 3, 1) := by decide +kernel
theorem dX9_sift_67 : decode cX9_sift 67 = .ok (.putfield 35, 3) := by decide +kernel
theorem dX9_sift_70 : decode cX9_sift 70 = .ok (.aload_n 0, 1) := by decide +kernel
theorem dX9_sift_71 : decode cX9_sift 71 = .ok (.iload_n 3, 1) := by decide +kernel
theorem dX9_sift_72 : decode cX9_sift 72 = .ok (.putfield 38, 3) := by decide +kernel
theorem dX9_sift_75 : decode cX9_sift 75 = .ok (.aload_n 0, 1) := by decide +kernel
theorem dX9_sift_76 : decode cX9_sift 76 = .ok (.dup, 1) := by decide +kernel
theorem dX9_sift_77 : decode cX9_sift 77 = .ok (.getfield 38, 3) := by decide +kernel
theorem dX9_sift_80 : decode cX9_sift 80 = .ok (.iload_n 3, 1) := by decide +kernel
theorem dX9_sift_81 : decode cX9_sift 81 = .ok (.iand, 1) := by decide +kernel
theorem dX9_sift_82 : decode cX9_sift 82 = .ok (.putfield 38, 3) := by decide +kernel
theorem dX9_sift_85 : decode cX9_sift 85 = .ok (.iinc 3 1, 3) := by decide +kernel
theorem dX9_sift_88 : decode cX9_sift 88 = .ok (.goto (-60), 3) := by decide +kernel
theorem dX9_sift_91 : decode cX9_sift 91 = .ok (.return_, 1) := by decide +kernel
set_option maxRecDepth 20000 in
theorem ggX10_init_X2_init : GoodIn wsX10_init wsX2_init := goodIn_r _ [44, 45, 2, 3, 46, 40, 47, 48, 49, 50, 51, 52, 53, 54, 55, 56, 57, 58, 59, 60, 61, 62, 63, 64, 65, 66, 67, 68, 135, 136, 137, 138, 139, 140, 141, 142, 143, 144, 145, 146, 147, 212, 213, 214] (by decide +kernel) (by decide +kernel)
set_option maxRecDepth 20000 in
theorem gX10_init_X2_init : GoodIn wsX10_init (wsX2_init) := ggX10_init_X2_init
set_option maxRecDepth 20000 in
theorem ggX10_init_X0_init : GoodIn wsX10_init wsX0_init := goodIn_r _ [70, 71, 2, 3, 72, 73, 74, 40, 75, 76, 77, 78, 79, 80, 81, 82, 83, 158, 159, 160, 161, 162, 163, 164, 165, 166, 167, 168, 169, 170] (by decide +kernel) (by decide +kernel)
set_option maxRecDepth 20000 in
theorem gX10_init_X0_init_n18 : GoodIn wsX10_init (wsX0_init) := ggX10_init_X0_init
set_option maxRecDepth 20000 in
theorem ggX10_init_X7_init : GoodIn wsX10_init wsX7_init := goodIn_r _ [86, 87, 2, 3, 40, 88, 89, 90, 91, 92, 93, 171, 172, 173, 174, 175, 176, 177, 178] (by decide +kernel) (by decide +kernel)
set_option maxRecDepth 20000 in
theorem gX10_init_X7_init : GoodIn wsX10_init (wsX7_init) := ggX10_init_X7_init
set_option maxRecDepth 20000 in
theorem ggX10_init_X8_init : GoodIn wsX10_init wsX8_init := goodIn_r _ [95, 96, 2, 3, 40, 97, 98, 99, 100, 101, 102, 56, 57, 103, 59, 60, 61, 62, 63, 64, 179, 180, 181, 182, 183, 184, 185, 212, 213, 214] (by decide +kernel) (by decide +kernel)
set_option maxRecDepth 20000 in
theorem gX10_init_X8_init_n32 : GoodIn wsX10_init (wsX8_init) := ggX10_init_X8_init
set_option maxRecDepth 20000 in
theorem ggX10_init_X3_init : GoodIn wsX10_init wsX3_init := goodIn_r _ [105, 106, 2, 3, 40, 107, 108, 186, 187, 188] (by decide +kernel) (by decide +kernel)
set_option maxRecDepth 20000 in
theorem gX10_init_X3_init_n39 : GoodIn wsX10_init (wsX3_init) := ggX10_init_X3_init
set_option maxRecDepth 20000 in
theorem ggX10_init_X9_init : GoodIn wsX10_init wsX9_init := goodIn_r _ [110, 111, 2, 3, 40, 112, 113, 114, 115, 116, 189, 190, 191, 192, 193, 194, 195, 196] (by decide +kernel) (by decide +kernel)
set_option maxRecDepth 20000 in
theorem gX10_init_X9_init_n46 : GoodIn wsX10_init (wsX9_init) := ggX10_init_X9_init
set_option maxRecDepth 20000 in
theorem ggX10_init_X6_init : GoodIn wsX10_init wsX6_init := goodIn_r _ [118, 119, 2, 3, 120, 40, 121, 122, 123, 124, 125, 197, 198, 199, 200, 201, 202] (by decide +kernel) (by decide +kernel)
set_option maxRecDepth 20000 in
theorem gX10_init_X6_init_n53 : GoodIn wsX10_init (wsX6_init) := ggX10_init_X6_init
set_option maxRecDepth 20000 in
theorem ggX10_init_X1_init : GoodIn wsX10_init wsX1_init := goodIn_r _ [127, 128, 2, 3, 40, 129, 130, 203, 204, 205, 206] (by decide +kernel) (by decide +kernel)
set_option maxRecDepth 20000 in
theorem gX10_init_X1_init_n60 : GoodIn wsX10_init (wsX1_init) := ggX10_init_X1_init
set_option maxRecDepth 20000 in
theorem ggX10_init_X5_init : GoodIn wsX10_init wsX5_init := goodIn_r _ [132, 133, 2, 3, 40, 134, 207, 208, 209, 210, 211] (by decide +kernel) (by decide +kernel)
set_option maxRecDepth 20000 in
theorem gX10_init_X5_init_n67 : GoodIn wsX10_init (wsX5_init) := ggX10_init_X5_init
theorem dX10_init_0 : decode cX10_init 0 = .ok (.aload_n 0, 1) := by decide +kernel
theorem dX10_init_1 : decode cX10_init 1 = .ok (.invokespecial 3, 3) := by decide +kernel
theorem dX10_init_4 : decode cX10_init 4 = .ok (.aload_n 0, 1) := by decide +kernel
theorem dX10_init_5 : decode cX10_init 5 = .ok (.new 9, 3) := by decide +kernel
theorem dX10_init_8 : decode cX10_init 8 = .ok (.dup, 1) := by decide +kernel
theorem dX10_init_9 : decode cX10_init 9 = .ok (.invokespecial 11, 3) := by decide +kernel
theorem dX10_init_12 : decode cX10_init 12 = .ok (.putfield 12, 3) := by decide +kernel
theorem dX10_init_15 : decode cX10_init 15 = .ok (.aload_n 0, 1) := by decide +kernel
theorem dX10_init_16 : decode cX10_init 16 = .ok (.new 16, 3) := by decide +kernel
theorem dX10_init_19 : decode cX10_init 19 = .ok (.dup, 1) := by decide +kernel
theorem dX10_init_20 : decode cX10_init 20 = .ok (.invokespecial 18, 3) := by decide +kernel
theorem dX10_init_23 : decode cX10_init 23 = .ok (.putfield 19, 3) := by decide +kernel
theorem dX10_init_26 : decode cX10_init 26 = .ok (.aload_n 0, 1) := by decide +kernel
theorem dX10_init_27 : decode cX10_init 27 = .ok (.new 23, 3) := by decide +kernel
theorem dX10_init_30 : decode cX10_init 30 = .ok (.dup, 1) := by decide +kernel
theorem dX10_init_31 : decode cX10_init 31 = .ok (.invokespecial 25, 3) := by decide +kernel
theorem dX10_init_34 : decode cX10_init 34 = .ok (.putfield 26, 3) := by decide +kernel
theorem dX10_init_37 : decode cX10_init 37 = .ok (.aload_n 0, 1) := by decide +kernel
theorem dX10_init_38 : decode cX10_init 38 = .ok (.new 30, 3) := by decide +kernel
theorem dX10_init_41 : decode cX10_init 41 = .ok (.dup, 1) := by decide +kernel
theorem dX10_init_42 : decode cX10_init 42 = .ok (.invokespecial 32, 3) := by decide +kernel
theorem dX10_init_45 : decode cX10_init 45 = .ok (.putfield 33, 3) := by decide +kernel
theorem dX10_init_48 : decode cX10_init 48 = .ok (.aload_n 0, 1) := by decide +kernel
theorem dX10_init_49 : decode cX10_init 49 = .ok (.new 37, 3) := by decide +kernel
theorem dX10_init_52 : decode cX10_init 52 = .ok (.dup, 1) := by decide +kernel
theorem dX10_init_53 : decode cX10_init 53 = .ok (.invokespecial 39, 3) := by decide +kernel
theorem dX10_init_56 : decode cX10_init 56 = .ok (.putfield 40, 3) := by decide +kernel
theorem dX10_init_59 : decode cX10_init 59 = .ok (.aload_n 0, 1) := by decide +kernel
theorem dX10_init_60 : decode cX10_init 60 = .ok (.new 44, 3) := by decide +kernel
theorem dX10_init_63 : decode cX10_init 63 = .ok (.dup, 1) := by decide +kernel
theorem dX10_init_64 : decode cX10_init 64 = .ok (.invokespecial 46, 3) := by decide +kernel
theorem dX10_init_67 : decode cX10_init 67 = .ok (.putfield 47, 3) := by decide +kernel
theorem dX10_init_70 : decode cX10_init 70 = .ok (.aload_n 0, 1) := by decide +kernel
theorem dX10_init_71 : decode cX10_init 71 = .ok (.new 51, 3) := by decide +kernel
theorem dX10_init_74 : decode cX10_init 74 = .ok (.dup, 1) := by decide +kernel
theorem dX10_init_75 : decode cX10_init 75 = .ok (.invokespecial 53, 3) := by decide +kernel
theorem dX10_init_78 : decode cX10_init 78 = .ok (.putfield 54, 3) := by decide +kernel
theorem dX10_init_81 : decode cX10_init 81 = .ok (.aload_n 0, 1) := by decide +kernel
theorem dX10_init_82 : decode cX10_init 82 = .ok (.new 58, 3) := by decide +kernel
theorem dX10_init_85 : decode cX10_init 85 = .ok (.dup, 1) := by decide +kernel
theorem dX10_init_86 : decode cX10_init 86 = .ok (.invokespecial 60, 3) := by decide +kernel
theorem dX10_init_89 : decode cX10_init 89 = .ok (.putfield 61, 3) := by decide +kernel
theorem dX10_init_92 : decode cX10_init 92 = .ok (.aload_n 0, 1) := by decide +kernel
theorem dX10_init_93 : decode cX10_init 93 = .ok (.new 65, 3) := by decide +kernel
theorem dX10_init_96 : decode cX10_init 96 = .ok (.dup, 1) := by decide +kernel
theorem dX10_init_97 : decode cX10_init 97 = .ok (.invokespecial 67, 3) := by decide +kernel
theorem dX10_init_100 : decode cX10_init 100 = .ok (.putfield 68, 3) := by decide +kernel
theorem dX10_init_103 : decode cX10_init 103 = .ok (.aload_n 0, 1) := by decide +kernel
theorem dX10_init_104 : decode cX10_init 104 = .ok (.iconst 5, 1) := by decide +kernel
theorem dX10_init_105 : decode cX10_init 105 = .ok (.newarray .int, 2) := by decide +kernel
theorem dX10_init_107 : decode cX10_init 107 = .ok (.putfield 72, 3) := by decide +kernel
theorem dX10_init_110 : decode cX10_init 110 = .ok (.return_, 1) := by decide +kernel
set_option maxRecDepth 20000 in
theorem ggX10_skill_X10_within : GoodIn wsX10_skill wsX10_within := goodIn_r _ [5] (by decide +kernel) (by decide +kernel)
set_option maxRecDepth 20000 in
theorem gX10_skill_X10_within : GoodIn wsX10_skill (va_wsS RX10 76 yX10_within wsX10_within) := goodIn_app (goodIn_of _ (by decide +kernel)) ggX10_skill_X10_within
set_option maxRecDepth 20000 in
theorem ggX10_skill_X10_exchange : GoodIn wsX10_skill wsX10_exchange := goodIn_r _ [8] (by decide +kernel) (by decide +kernel)
set_option maxRecDepth 20000 in
theorem gX10_skill_X10_exchange : GoodIn wsX10_skill (va_wsS RX10 83 yX10_exchange wsX10_exchange) := goodIn_app (goodIn_of _ (by decide +kernel)) ggX10_skill_X10_exchange
theorem dX10_skill_0 : decode cX10_skill 0 = .ok (.iload_n 1, 1) := by decide +kernel
theorem dX10_skill_1 : decode cX10_skill 1 = .ok (.iconst 0, 1) := by decide +kernel
theorem dX10_skill_2 : decode cX10_skill 2 = .ok (.bipush 7, 2) := by decide +kernel
theorem dX10_skill_4 : decode cX10_skill 4 = .ok (.invokestatic 76, 3) := by decide +kernel
theorem dX10_skill_7 : decode cX10_skill 7 = .ok (.ifCond .ne 5, 3) := by decide +kernel
theorem dX10_skill_10 : decode cX10_skill 10 = .ok (.iconst (-1), 1) := by decide +kernel
theorem dX10_skill_11 : decode cX10_skill 11 = .ok (.ireturn, 1) := by decide +kernel
theorem dX10_skill_12 : decode cX10_skill 12 = .ok (.iload_n 2, 1) := by decide +kernel
theorem dX10_skill_13 : decode cX10_skill 13 = .ok (.iconst 0, 1) := by decide +kernel
theorem dX10_skill_14 : decode cX10_skill 14 = .ok (.bipush 99, 2) := by decide +kernel
theorem dX10_skill_16 : decode cX10_skill 16 = .ok (.invokestatic 76, 3) := by decide +kernel
theorem dX10_skill_19 : decode cX10_skill 19 = .ok (.ifCond .eq 18, 3) := by decide +kernel
theorem dX10_skill_22 : decode cX10_skill 22 = .ok (.aload_n 0, 1) := by decide +kernel
theorem dX10_skill_23 : decode cX10_skill 23 = .ok (.getfield 12, 3) := by decide +kernel
theorem dX10_skill_26 : decode cX10_skill 26 = .ok (.getfield 80, 3) := by decide +kernel
theorem dX10_skill_29 : decode cX10_skill 29 = .ok (.iload_n 1, 1) := by decide +kernel
theorem dX10_skill_30 : decode cX10_skill 30 = .ok (.iload_n 2, 1) := by decide +kernel
theorem dX10_skill_31 : decode cX10_skill 31 = .ok (.invokestatic 83, 3) := by decide +kernel
theorem dX10_skill_34 : decode cX10_skill 34 = .ok (.goto 5, 3) := by decide +kernel
theorem dX10_skill_37 : decode cX10_skill 37 = .ok (.bipush (-2), 2) := by decide +kernel
theorem dX10_skill_39 : decode cX10_skill 39 = .ok (.ireturn, 1) := by decide +kernel
set_option maxRecDepth 20000 in
theorem ggX10_match_X10_within : GoodIn wsX10_match wsX10_within := goodIn_r _ [5] (by decide +kernel) (by decide +kernel)
set_option maxRecDepth 20000 in
theorem gX10_match_X10_within : GoodIn wsX10_match (va_wsS RX10 76 yX10_within wsX10_within) := goodIn_app (goodIn_of _ (by decide +kernel)) ggX10_match_X10_within
set_option maxRecDepth 20000 in
theorem ggX10_match_X2_add : GoodIn wsX10_match wsX2_add := goodIn_r _ [10, 11, 12, 13, 14, 25, 26, 27, 28, 29, 30, 31, 32, 33, 34, 35, 36, 37] (by decide +kernel) (by decide +kernel)
set_option maxRecDepth 20000 in
theorem gX10_match_X2_add : GoodIn wsX10_match (wsV RX10 91 RX2 yX2_add wsX2_add) := goodIn_app (goodIn_of _ (by decide +kernel)) ggX10_match_X2_add
theorem dX10_match_0 : decode cX10_match 0 = .ok (.iload_n 1, 1) := by decide +kernel
theorem dX10_match_1 : decode cX10_match 1 = .ok (.iconst 0, 1) := by decide +kernel
theorem dX10_match_2 : decode cX10_match 2 = .ok (.bipush 7, 2) := by decide +kernel
theorem dX10_match_4 : decode cX10_match 4 = .ok (.invokestatic 76, 3) := by decide +kernel
theorem dX10_match_7 : decode cX10_match 7 = .ok (.ifCond .eq 18, 3) := by decide +kernel
theorem dX10_match_10 : decode cX10_match 10 = .ok (.iload_n 2, 1) := by decide +kernel
theorem dX10_match_11 : decode cX10_match 11 = .ok (.iconst 0, 1) := by decide +kernel
theorem dX10_match_12 : decode cX10_match 12 = .ok (.bipush 7, 2) := by decide +kernel
theorem dX10_match_14 : decode cX10_match 14 = .ok (.invokestatic 76, 3) := by decide +kernel
theorem dX10_match_17 : decode cX10_match 17 = .ok (.ifCond .eq 8, 3) := by decide +kernel
theorem dX10_match_20 : decode cX10_match 20 = .ok (.iload_n 1, 1) := by decide +kernel
theorem dX10_match_21 : decode cX10_match 21 = .ok (.iload_n 2, 1) := by decide +kernel
theorem dX10_match_22 : decode cX10_match 22 = .ok (.if_icmp .ne 5, 3) := by decide +kernel
theorem dX10_match_25 : decode cX10_match 25 = .ok (.iconst (-1), 1) := by decide +kernel
theorem dX10_match_26 : decode cX10_match 26 = .ok (.ireturn, 1) := by decide +kernel
theorem dX10_match_27 : decode cX10_match 27 = .ok (.iload_n 3, 1) := by decide +kernel
theorem dX10_match_28 : decode cX10_match 28 = .ok (.iconst 0, 1) := by decide +kernel
theorem dX10_match_29 : decode cX10_match 29 = .ok (.iconst 5, 1) := by decide +kernel
theorem dX10_match_30 : decode cX10_match 30 = .ok (.invokestatic 76, 3) := by decide +kernel
theorem dX10_match_33 : decode cX10_match 33 = .ok (.ifCond .ne 6, 3) := by decide +kernel
theorem dX10_match_36 : decode cX10_match 36 = .ok (.bipush (-2), 2) := by decide +kernel
theorem dX10_match_38 : decode cX10_match 38 = .ok (.ireturn, 1) := by decide +kernel
theorem dX10_match_39 : decode cX10_match 39 = .ok (.aload_n 0, 1) := by decide +kernel
theorem dX10_match_40 : decode cX10_match 40 = .ok (.getfield 12, 3) := by decide +kernel
theorem dX10_match_43 : decode cX10_match 43 = .ok (.getfield 87, 3) := by decide +kernel
theorem dX10_match_46 : decode cX10_match 46 = .ok (.bipush 12, 2) := by decide +kernel
theorem dX10_match_48 : decode cX10_match 48 = .ok (.if_icmp .ge 16, 3) := by decide +kernel
theorem dX10_match_51 : decode cX10_match 51 = .ok (.aload_n 0, 1) := by decide +kernel
theorem dX10_match_52 : decode cX10_match 52 = .ok (.getfield 12, 3) := by decide +kernel
theorem dX10_match_55 : decode cX10_match 55 = .ok (.iload_n 1, 1) := by decide +kernel
theorem dX10_match_56 : decode cX10_match 56 = .ok (.iload_n 2, 1) := by decide +kernel
theorem dX10_match_57 : decode cX10_match 57 = .ok (.iload_n 3, 1) := by decide +kernel
theorem dX10_match_58 : decode cX10_match 58 = .ok (.invokevirtual 91, 3) := by decide +kernel
theorem dX10_match_61 : decode cX10_match 61 = .ok (.goto 5, 3) := by decide +kernel
theorem dX10_match_64 : decode cX10_match 64 = .ok (.bipush (-4), 2) := by decide +kernel
theorem dX10_match_66 : decode cX10_match 66 = .ok (.ireturn, 1) := by decide +kernel
set_option maxRecDepth 20000 in
theorem ggX10_goal_X2_has : GoodIn wsX10_goal wsX2_has := goodIn_r _ [6, 7, 25, 26, 27, 28, 29, 30, 31, 32, 33, 34, 35, 36, 37] (by decide +kernel) (by decide +kernel)
set_option maxRecDepth 20000 in
theorem gX10_goal_X2_has : GoodIn wsX10_goal (wsV RX10 95 RX2 yX2_has wsX2_has) := goodIn_app (goodIn_of _ (by decide +kernel)) ggX10_goal_X2_has
set_option maxRecDepth 20000 in
theorem ggX10_goal_X10_within : GoodIn wsX10_goal wsX10_within := goodIn_r _ [11] (by decide +kernel) (by decide +kernel)
set_option maxRecDepth 20000 in
theorem gX10_goal_X10_within : GoodIn wsX10_goal (va_wsS RX10 76 yX10_within wsX10_within) := goodIn_app (goodIn_of _ (by decide +kernel)) ggX10_goal_X10_within
set_option maxRecDepth 20000 in
theorem ggX10_goal_X10_exchange : GoodIn wsX10_goal wsX10_exchange := goodIn_r _ [14] (by decide +kernel) (by decide +kernel)
set_option maxRecDepth 20000 in
theorem gX10_goal_X10_exchange : GoodIn wsX10_goal (va_wsS RX10 83 yX10_exchange wsX10_exchange) := goodIn_app (goodIn_of _ (by decide +kernel)) ggX10_goal_X10_exchange
theorem dX10_goal_0 : decode cX10_goal 0 = .ok (.aload_n 0, 1) := by decide +kernel
theorem dX10_goal_1 : decode cX10_goal 1 = .ok (.getfield 12, 3) := by decide +kernel
theorem dX10_goal_4 : decode cX10_goal 4 = .ok (.iload_n 1, 1) := by decide +kernel
theorem dX10_goal_5 : decode cX10_goal 5 = .ok (.invokevirtual 95, 3) := by decide +kernel
theorem dX10_goal_8 : decode cX10_goal 8 = .ok (.ifCond .ne 5, 3) := by decide +kernel
theorem dX10_goal_11 : decode cX10_goal 11 = .ok (.iconst (-1), 1) := by decide +kernel
theorem dX10_goal_12 : decode cX10_goal 12 = .ok (.ireturn, 1) := by decide +kernel
theorem dX10_goal_13 : decode cX10_goal 13 = .ok (.iload_n 2, 1) := by decide +kernel
theorem dX10_goal_14 : decode cX10_goal 14 = .ok (.iconst 0, 1) := by decide +kernel
theorem dX10_goal_15 : decode cX10_goal 15 = .ok (.iconst 5, 1) := by decide +kernel
theorem dX10_goal_16 : decode cX10_goal 16 = .ok (.invokestatic 76, 3) := by decide +kernel
theorem dX10_goal_19 : decode cX10_goal 19 = .ok (.ifCond .eq 12, 3) := by decide +kernel
theorem dX10_goal_22 : decode cX10_goal 22 = .ok (.iload_n 3, 1) := by decide +kernel
theorem dX10_goal_23 : decode cX10_goal 23 = .ok (.iconst 0, 1) := by decide +kernel
theorem dX10_goal_24 : decode cX10_goal 24 = .ok (.iconst 2, 1) := by decide +kernel
theorem dX10_goal_25 : decode cX10_goal 25 = .ok (.invokestatic 76, 3) := by decide +kernel
theorem dX10_goal_28 : decode cX10_goal 28 = .ok (.ifCond .ne 6, 3) := by decide +kernel
theorem dX10_goal_31 : decode cX10_goal 31 = .ok (.bipush (-2), 2) := by decide +kernel
theorem dX10_goal_33 : decode cX10_goal 33 = .ok (.ireturn, 1) := by decide +kernel
theorem dX10_goal_34 : decode cX10_goal 34 = .ok (.aload_n 0, 1) := by decide +kernel
theorem dX10_goal_35 : decode cX10_goal 35 = .ok (.getfield 12, 3) := by decide +kernel
theorem dX10_goal_38 : decode cX10_goal 38 = .ok (.getfield 99, 3) := by decide +kernel
theorem dX10_goal_41 : decode cX10_goal 41 = .ok (.iload_n 1, 1) := by decide +kernel
theorem dX10_goal_42 : decode cX10_goal 42 = .ok (.bipush 6, 2) := by decide +kernel
theorem dX10_goal_44 : decode cX10_goal 44 = .ok (.imul, 1) := by decide +kernel
theorem dX10_goal_45 : decode cX10_goal 45 = .ok (.iload_n 2, 1) := by decide +kernel
theorem dX10_goal_46 : decode cX10_goal 46 = .ok (.iadd, 1) := by decide +kernel
theorem dX10_goal_47 : decode cX10_goal 47 = .ok (.iload_n 3, 1) := by decide +kernel
theorem dX10_goal_48 : decode cX10_goal 48 = .ok (.invokestatic 83, 3) := by decide +kernel
theorem dX10_goal_51 : decode cX10_goal 51 = .ok (.ireturn, 1) := by decide +kernel
set_option maxRecDepth 20000 in
theorem ggX10_ofMatch_X2_has : GoodIn wsX10_ofMatch wsX2_has := goodIn_r _ [6, 7, 36, 37, 38, 39, 40, 41, 42, 43, 44, 45, 46, 47, 48] (by decide +kernel) (by decide +kernel)
set_option maxRecDepth 20000 in
theorem gX10_ofMatch_X2_has : GoodIn wsX10_ofMatch (wsV RX10 95 RX2 yX2_has wsX2_has) := goodIn_app (goodIn_of _ (by decide +kernel)) ggX10_ofMatch_X2_has
set_option maxRecDepth 20000 in
theorem ggX10_ofMatch_X2_goalsAhead : GoodIn wsX10_ofMatch wsX2_goalsAhead := goodIn_r _ [11, 12, 36, 37, 38, 39, 40, 41, 42, 43, 44, 45, 46, 47, 48] (by decide +kernel) (by decide +kernel)
set_option maxRecDepth 20000 in
theorem gX10_ofMatch_X2_goalsAhead : GoodIn wsX10_ofMatch (wsV RX10 111 RX2 yX2_goalsAhead wsX2_goalsAhead) := goodIn_app (goodIn_of _ (by decide +kernel)) ggX10_ofMatch_X2_goalsAhead
set_option maxRecDepth 20000 in
theorem ggX10_ofMatch_X2_endOf : GoodIn wsX10_ofMatch wsX2_endOf := goodIn_r _ [16, 17, 18, 19, 5, 20, 21, 9, 10, 11, 12, 22, 23, 24, 25, 36, 37, 38, 39, 40, 41, 42, 43, 44, 45, 46, 47, 48] (by decide +kernel) (by decide +kernel)
set_option maxRecDepth 20000 in
theorem gX10_ofMatch_X2_endOf : GoodIn wsX10_ofMatch (wsV RX10 114 RX2 yX2_endOf wsX2_endOf) := goodIn_app (goodIn_of _ (by decide +kernel)) ggX10_ofMatch_X2_endOf
theorem dX10_ofMatch_0 : decode cX10_ofMatch 0 = .ok (.aload_n 0, 1) := by decide +kernel
theorem dX10_ofMatch_1 : decode cX10_ofMatch 1 = .ok (.getfield 12, 3) := by decide +kernel
theorem dX10_ofMatch_4 : decode cX10_ofMatch 4 = .ok (.iload_n 1, 1) := by decide +kernel
theorem dX10_ofMatch_5 : decode cX10_ofMatch 5 = .ok (.invokevirtual 95, 3) := by decide +kernel
theorem dX10_ofMatch_8 : decode cX10_ofMatch 8 = .ok (.ifCond .ne 5, 3) := by decide +kernel
theorem dX10_ofMatch_11 : decode cX10_ofMatch 11 = .ok (.iconst (-1), 1) := by decide +kernel
theorem dX10_ofMatch_12 : decode cX10_ofMatch 12 = .ok (.ireturn, 1) := by decide +kernel
theorem dX10_ofMatch_13 : decode cX10_ofMatch 13 = .ok (.iload_n 2, 1) := by decide +kernel
theorem dX10_ofMatch_14 : decode cX10_ofMatch 14 = .ok (.tableswitch 129 0 7 #[46, 56, 66, 76, 88, 100, 109, 119], 46) := by decide +kernel
theorem dX10_ofMatch_60 : decode cX10_ofMatch 60 = .ok (.aload_n 0, 1) := by decide +kernel
theorem dX10_ofMatch_61 : decode cX10_ofMatch 61 = .ok (.getfield 12, 3) := by decide +kernel
theorem dX10_ofMatch_64 : decode cX10_ofMatch 64 = .ok (.getfield 102, 3) := by decide +kernel
theorem dX10_ofMatch_67 : decode cX10_ofMatch 67 = .ok (.iload_n 1, 1) := by decide +kernel
theorem dX10_ofMatch_68 : decode cX10_ofMatch 68 = .ok (.iaload, 1) := by decide +kernel
theorem dX10_ofMatch_69 : decode cX10_ofMatch 69 = .ok (.ireturn, 1) := by decide +kernel
theorem dX10_ofMatch_70 : decode cX10_ofMatch 70 = .ok (.aload_n 0, 1) := by decide +kernel
theorem dX10_ofMatch_71 : decode cX10_ofMatch 71 = .ok (.getfield 12, 3) := by decide +kernel
theorem dX10_ofMatch_74 : decode cX10_ofMatch 74 = .ok (.getfield 105, 3) := by decide +kernel
theorem dX10_ofMatch_77 : decode cX10_ofMatch 77 = .ok (.iload_n 1, 1) := by decide +kernel
theorem dX10_ofMatch_78 : decode cX10_ofMatch 78 = .ok (.iaload, 1) := by decide +kernel
theorem dX10_ofMatch_79 : decode cX10_ofMatch 79 = .ok (.ireturn, 1) := by decide +kernel
theorem dX10_ofMatch_80 : decode cX10_ofMatch 80 = .ok (.aload_n 0, 1) := by decide +kernel
theorem dX10_ofMatch_81 : decode cX10_ofMatch 81 = .ok (.getfield 12, 3) := by decide +kernel
theorem dX10_ofMatch_84 : decode cX10_ofMatch 84 = .ok (.getfield 108, 3) := by decide +kernel
theorem dX10_ofMatch_87 : decode cX10_ofMatch 87 = .ok (.iload_n 1, 1) := by decide +kernel
theorem dX10_ofMatch_88 : decode cX10_ofMatch 88 = .ok (.iaload, 1) := by decide +kernel
theorem dX10_ofMatch_89 : decode cX10_ofMatch 89 = .ok (.ireturn, 1) := by decide +kernel
theorem dX10_ofMatch_90 : decode cX10_ofMatch 90 = .ok (.aload_n 0, 1) := by decide +kernel
theorem dX10_ofMatch_91 : decode cX10_ofMatch 91 = .ok (.getfield 12, 3) := by decide +kernel
theorem dX10_ofMatch_94 : decode cX10_ofMatch 94 = .ok (.iload_n 1, 1) := by decide +kernel
theorem dX10_ofMatch_95 : decode cX10_ofMatch 95 = .ok (.bipush 6, 2) := by decide +kernel
theorem dX10_ofMatch_97 : decode cX10_ofMatch 97 = .ok (.iconst 1, 1) := by decide +kernel
theorem dX10_ofMatch_98 : decode cX10_ofMatch 98 = .ok (.invokevirtual 111, 3) := by decide +kernel
theorem dX10_ofMatch_101 : decode cX10_ofMatch 101 = .ok (.ireturn, 1) := by decide +kernel
theorem dX10_ofMatch_102 : decode cX10_ofMatch 102 = .ok (.aload_n 0, 1) := by decide +kernel
theorem dX10_ofMatch_103 : decode cX10_ofMatch 103 = .ok (.getfield 12, 3) := by decide +kernel
theorem dX10_ofMatch_106 : decode cX10_ofMatch 106 = .ok (.iload_n 1, 1) := by decide +kernel
theorem dX10_ofMatch_107 : decode cX10_ofMatch 107 = .ok (.bipush 6, 2) := by decide +kernel
theorem dX10_ofMatch_109 : decode cX10_ofMatch 109 = .ok (.iconst 2, 1) := by decide +kernel
theorem dX10_ofMatch_110 : decode cX10_ofMatch 110 = .ok (.invokevirtual 111, 3) := by decide +kernel
theorem dX10_ofMatch_113 : decode cX10_ofMatch 113 = .ok (.ireturn, 1) := by decide +kernel
theorem dX10_ofMatch_114 : decode cX10_ofMatch 114 = .ok (.aload_n 0, 1) := by decide +kernel
theorem dX10_ofMatch_115 : decode cX10_ofMatch 115 = .ok (.getfield 12, 3) := by decide +kernel
theorem dX10_ofMatch_118 : decode cX10_ofMatch 118 = .ok (.iload_n 1, 1) := by decide +kernel
theorem dX10_ofMatch_119 : decode cX10_ofMatch 119 = .ok (.invokevirtual 114, 3) := by decide +kernel
theorem dX10_ofMatch_122 : decode cX10_ofMatch 122 = .ok (.ireturn, 1) := by decide +kernel
theorem dX10_ofMatch_123 : decode cX10_ofMatch 123 = .ok (.aload_n 0, 1) := by decide +kernel
theorem dX10_ofMatch_124 : decode cX10_ofMatch 124 = .ok (.getfield 12, 3) := by decide +kernel
theorem dX10_ofMatch_127 : decode cX10_ofMatch 127 = .ok (.getfield 118, 3) := by decide +kernel
theorem dX10_ofMatch_130 : decode cX10_ofMatch 130 = .ok (.iload_n 1, 1) := by decide +kernel
theorem dX10_ofMatch_131 : decode cX10_ofMatch 131 = .ok (.iaload, 1) := by decide +kernel
theorem dX10_ofMatch_132 : decode cX10_ofMatch 132 = .ok (.ireturn, 1) := by decide +kernel
theorem dX10_ofMatch_133 : decode cX10_ofMatch 133 = .ok (.aload_n 0, 1) := by decide +kernel
theorem dX10_ofMatch_134 : decode cX10_ofMatch 134 = .ok (.getfield 12, 3) := by decide +kernel
theorem dX10_ofMatch_137 : decode cX10_ofMatch 137 = .ok (.getfield 121, 3) := by decide +kernel
theorem dX10_ofMatch_140 : decode cX10_ofMatch 140 = .ok (.iload_n 1, 1) := by decide +kernel
theorem dX10_ofMatch_141 : decode cX10_ofMatch 141 = .ok (.iaload, 1) := by decide +kernel
theorem dX10_ofMatch_142 : decode cX10_ofMatch 142 = .ok (.ireturn, 1) := by decide +kernel
theorem dX10_ofMatch_143 : decode cX10_ofMatch 143 = .ok (.bipush (-2), 2) := by decide +kernel
theorem dX10_ofMatch_145 : decode cX10_ofMatch 145 = .ok (.ireturn, 1) := by decide +kernel
set_option maxRecDepth 20000 in
theorem ggX10_likely_X2_has : GoodIn wsX10_likely wsX2_has := goodIn_r _ [8, 9, 72, 73, 74, 75, 76, 77, 78, 79, 80, 81, 82, 83, 84] (by decide +kernel) (by decide +kernel)
set_option maxRecDepth 20000 in
theorem gX10_likely_X2_has : GoodIn wsX10_likely (wsV RX10 95 RX2 yX2_has wsX2_has) := goodIn_app (goodIn_of _ (by decide +kernel)) ggX10_likely_X2_has
set_option maxRecDepth 20000 in
theorem ggX10_likely_X10_within : GoodIn wsX10_likely wsX10_within := goodIn_r _ [13] (by decide +kernel) (by decide +kernel)
set_option maxRecDepth 20000 in
theorem gX10_likely_X10_within : GoodIn wsX10_likely (va_wsS RX10 76 yX10_within wsX10_within) := goodIn_app (goodIn_of _ (by decide +kernel)) ggX10_likely_X10_within
set_option maxRecDepth 20000 in
theorem ggX10_likely_X2_weigh : GoodIn wsX10_likely wsX2_weigh := goodIn_r _ [17, 18, 19, 20, 21, 22, 23, 7, 24, 25, 26, 27, 28, 29, 30, 31, 32, 33, 34, 35, 36, 37, 38, 39, 40, 41, 42, 43, 44, 45, 46, 47, 48, 49, 50, 51, 52, 53, 54, 55, 56, 57, 72, 73, 74, 75, 76, 77, 78, 79, 80, 81, 82, 83, 84, 85, 86, 87] (by decide +kernel) (by decide +kernel)
set_option maxRecDepth 20000 in
theorem gX10_likely_X2_weigh : GoodIn wsX10_likely (wsV RX10 128 RX2 yX2_weigh wsX2_weigh) := goodIn_app (goodIn_of _ (by decide +kernel)) ggX10_likely_X2_weigh
set_option maxRecDepth 20000 in
theorem ggX10_likely_X4_inLowestTerms : GoodIn wsX10_likely wsX4_inLowestTerms := goodIn_r _ [61, 40, 54, 85, 86, 87] (by decide +kernel) (by decide +kernel)
set_option maxRecDepth 20000 in
theorem gX10_likely_X4_inLowestTerms : GoodIn wsX10_likely (wsV RX10 136 RX4 yX4_inLowestTerms wsX4_inLowestTerms) := goodIn_app (goodIn_of _ (by decide +kernel)) ggX10_likely_X4_inLowestTerms
theorem dX10_likely_0 : decode cX10_likely 0 = .ok (.aload_n 0, 1) := by decide +kernel
theorem dX10_likely_1 : decode cX10_likely 1 = .ok (.getfield 12, 3) := by decide +kernel
theorem dX10_likely_4 : decode cX10_likely 4 = .ok (.iload_n 1, 1) := by decide +kernel
theorem dX10_likely_5 : decode cX10_likely 5 = .ok (.invokevirtual 95, 3) := by decide +kernel
theorem dX10_likely_8 : decode cX10_likely 8 = .ok (.ifCond .ne 7, 3) := by decide +kernel
theorem dX10_likely_11 : decode cX10_likely 11 = .ok (.ldc2_w 124, 3) := by decide +kernel
theorem dX10_likely_14 : decode cX10_likely 14 = .ok (.lreturn, 1) := by decide +kernel
theorem dX10_likely_15 : decode cX10_likely 15 = .ok (.iload_n 2, 1) := by decide +kernel
theorem dX10_likely_16 : decode cX10_likely 16 = .ok (.iconst 0, 1) := by decide +kernel
theorem dX10_likely_17 : decode cX10_likely 17 = .ok (.bipush 6, 2) := by decide +kernel
theorem dX10_likely_19 : decode cX10_likely 19 = .ok (.invokestatic 76, 3) := by decide +kernel
theorem dX10_likely_22 : decode cX10_likely 22 = .ok (.ifCond .eq 44, 3) := by decide +kernel
theorem dX10_likely_25 : decode cX10_likely 25 = .ok (.iload_n 3, 1) := by decide +kernel
theorem dX10_likely_26 : decode cX10_likely 26 = .ok (.iconst 0, 1) := by decide +kernel
theorem dX10_likely_27 : decode cX10_likely 27 = .ok (.bipush 6, 2) := by decide +kernel
theorem dX10_likely_29 : decode cX10_likely 29 = .ok (.invokestatic 76, 3) := by decide +kernel
theorem dX10_likely_32 : decode cX10_likely 32 = .ok (.ifCond .eq 34, 3) := by decide +kernel
theorem dX10_likely_35 : decode cX10_likely 35 = .ok (.iload 4, 2) := by decide +kernel
theorem dX10_likely_37 : decode cX10_likely 37 = .ok (.iconst 0, 1) := by decide +kernel
theorem dX10_likely_38 : decode cX10_likely 38 = .ok (.bipush 6, 2) := by decide +kernel
theorem dX10_likely_40 : decode cX10_likely 40 = .ok (.invokestatic 76, 3) := by decide +kernel
theorem dX10_likely_43 : decode cX10_likely 43 = .ok (.ifCond .eq 23, 3) := by decide +kernel
theorem dX10_likely_46 : decode cX10_likely 46 = .ok (.iload 5, 2) := by decide +kernel
theorem dX10_likely_48 : decode cX10_likely 48 = .ok (.iconst 0, 1) := by decide +kernel
theorem dX10_likely_49 : decode cX10_likely 49 = .ok (.iconst 2, 1) := by decide +kernel
theorem dX10_likely_50 : decode cX10_likely 50 = .ok (.invokestatic 76, 3) := by decide +kernel
theorem dX10_likely_53 : decode cX10_likely 53 = .ok (.ifCond .eq 13, 3) := by decide +kernel
theorem dX10_likely_56 : decode cX10_likely 56 = .ok (.iload 6, 2) := by decide +kernel
theorem dX10_likely_58 : decode cX10_likely 58 = .ok (.iconst 0, 1) := by decide +kernel
theorem dX10_likely_59 : decode cX10_likely 59 = .ok (.iconst 1, 1) := by decide +kernel
theorem dX10_likely_60 : decode cX10_likely 60 = .ok (.invokestatic 76, 3) := by decide +kernel
theorem dX10_likely_63 : decode cX10_likely 63 = .ok (.ifCond .ne 7, 3) := by decide +kernel
theorem dX10_likely_66 : decode cX10_likely 66 = .ok (.ldc2_w 126, 3) := by decide +kernel
theorem dX10_likely_69 : decode cX10_likely 69 = .ok (.lreturn, 1) := by decide +kernel
theorem dX10_likely_70 : decode cX10_likely 70 = .ok (.aload_n 0, 1) := by decide +kernel
theorem dX10_likely_71 : decode cX10_likely 71 = .ok (.getfield 12, 3) := by decide +kernel
theorem dX10_likely_74 : decode cX10_likely 74 = .ok (.iload_n 1, 1) := by decide +kernel
theorem dX10_likely_75 : decode cX10_likely 75 = .ok (.iload_n 2, 1) := by decide +kernel
theorem dX10_likely_76 : decode cX10_likely 76 = .ok (.iload_n 3, 1) := by decide +kernel
theorem dX10_likely_77 : decode cX10_likely 77 = .ok (.iload 4, 2) := by decide +kernel
theorem dX10_likely_79 : decode cX10_likely 79 = .ok (.isub, 1) := by decide +kernel
theorem dX10_likely_80 : decode cX10_likely 80 = .ok (.iload 5, 2) := by decide +kernel
theorem dX10_likely_82 : decode cX10_likely 82 = .ok (.invokevirtual 128, 3) := by decide +kernel
theorem dX10_likely_85 : decode cX10_likely 85 = .ok (.aload_n 0, 1) := by decide +kernel
theorem dX10_likely_86 : decode cX10_likely 86 = .ok (.getfield 12, 3) := by decide +kernel
theorem dX10_likely_89 : decode cX10_likely 89 = .ok (.getfield 132, 3) := by decide +kernel
theorem dX10_likely_92 : decode cX10_likely 92 = .ok (.iload 6, 2) := by decide +kernel
theorem dX10_likely_94 : decode cX10_likely 94 = .ok (.invokevirtual 136, 3) := by decide +kernel
theorem dX10_likely_97 : decode cX10_likely 97 = .ok (.lreturn, 1) := by decide +kernel
set_option maxRecDepth 20000 in
theorem ggX10_set_X10_within : GoodIn wsX10_set wsX10_within := goodIn_r _ [9] (by decide +kernel) (by decide +kernel)
set_option maxRecDepth 20000 in
theorem gX10_set_X10_within : GoodIn wsX10_set (va_wsS RX10 76 yX10_within wsX10_within) := goodIn_app (goodIn_of _ (by decide +kernel)) ggX10_set_X10_within
theorem dX10_set_0 : decode cX10_set 0 = .ok (.iload_n 1, 1) := by decide +kernel
theorem dX10_set_1 : decode cX10_set 1 = .ok (.iconst 0, 1) := by decide +kernel
theorem dX10_set_2 : decode cX10_set 2 = .ok (.getstatic 142, 3) := by decide +kernel
theorem dX10_set_5 : decode cX10_set 5 = .ok (.arraylength, 1) := by decide +kernel
theorem dX10_set_6 : decode cX10_set 6 = .ok (.iconst 1, 1) := by decide +kernel
theorem dX10_set_7 : decode cX10_set 7 = .ok (.isub, 1) := by decide +kernel
theorem dX10_set_8 : decode cX10_set 8 = .ok (.invokestatic 76, 3) := by decide +kernel
theorem dX10_set_11 : decode cX10_set 11 = .ok (.ifCond .eq 20, 3) := by decide +kernel
theorem dX10_set_14 : decode cX10_set 14 = .ok (.iload_n 2, 1) := by decide +kernel
theorem dX10_set_15 : decode cX10_set 15 = .ok (.getstatic 142, 3) := by decide +kernel
theorem dX10_set_18 : decode cX10_set 18 = .ok (.iload_n 1, 1) := by decide +kernel
theorem dX10_set_19 : decode cX10_set 19 = .ok (.iaload, 1) := by decide +kernel
theorem dX10_set_20 : decode cX10_set 20 = .ok (.getstatic 145, 3) := by decide +kernel
theorem dX10_set_23 : decode cX10_set 23 = .ok (.iload_n 1, 1) := by decide +kernel
theorem dX10_set_24 : decode cX10_set 24 = .ok (.iaload, 1) := by decide +kernel
theorem dX10_set_25 : decode cX10_set 25 = .ok (.invokestatic 76, 3) := by decide +kernel
theorem dX10_set_28 : decode cX10_set 28 = .ok (.ifCond .ne 6, 3) := by decide +kernel
theorem dX10_set_31 : decode cX10_set 31 = .ok (.bipush (-2), 2) := by decide +kernel
theorem dX10_set_33 : decode cX10_set 33 = .ok (.ireturn, 1) := by decide +kernel
theorem dX10_set_34 : decode cX10_set 34 = .ok (.iload_n 1, 1) := by decide +kernel
theorem dX10_set_35 : decode cX10_set 35 = .ok (.tableswitch 105 0 3 #[29, 48, 67, 86], 29) := by decide +kernel
theorem dX10_set_64 : decode cX10_set 64 = .ok (.aload_n 0, 1) := by decide +kernel
theorem dX10_set_65 : decode cX10_set 65 = .ok (.getfield 12, 3) := by decide +kernel
theorem dX10_set_68 : decode cX10_set 68 = .ok (.getfield 148, 3) := by decide +kernel
theorem dX10_set_71 : decode cX10_set 71 = .ok (.istore_n 3, 1) := by decide +kernel
theorem dX10_set_72 : decode cX10_set 72 = .ok (.aload_n 0, 1) := by decide +kernel
theorem dX10_set_73 : decode cX10_set 73 = .ok (.getfield 12, 3) := by decide +kernel
theorem dX10_set_76 : decode cX10_set 76 = .ok (.iload_n 2, 1) := by decide +kernel
theorem dX10_set_77 : decode cX10_set 77 = .ok (.putfield 148, 3) := by decide +kernel
theorem dX10_set_80 : decode cX10_set 80 = .ok (.goto 76, 3) := by decide +kernel
theorem dX10_set_83 : decode cX10_set 83 = .ok (.aload_n 0, 1) := by decide +kernel
theorem dX10_set_84 : decode cX10_set 84 = .ok (.getfield 19, 3) := by decide +kernel
theorem dX10_set_87 : decode cX10_set 87 = .ok (.getfield 151, 3) := by decide +kernel
theorem dX10_set_90 : decode cX10_set 90 = .ok (.istore_n 3, 1) := by decide +kernel
theorem dX10_set_91 : decode cX10_set 91 = .ok (.aload_n 0, 1) := by decide +kernel
theorem dX10_set_92 : decode cX10_set 92 = .ok (.getfield 19, 3) := by decide +kernel
theorem dX10_set_95 : decode cX10_set 95 = .ok (.iload_n 2, 1) := by decide +kernel
theorem dX10_set_96 : decode cX10_set 96 = .ok (.putfield 151, 3) := by decide +kernel
theorem dX10_set_99 : decode cX10_set 99 = .ok (.goto 57, 3) := by decide +kernel
theorem dX10_set_102 : decode cX10_set 102 = .ok (.aload_n 0, 1) := by decide +kernel
theorem dX10_set_103 : decode cX10_set 103 = .ok (.getfield 19, 3) := by decide +kernel
theorem dX10_set_106 : decode cX10_set 106 = .ok (.getfield 154, 3) := by decide +kernel
theorem dX10_set_109 : decode cX10_set 109 = .ok (.istore_n 3, 1) := by decide +kernel
theorem dX10_set_110 : decode cX10_set 110 = .ok (.aload_n 0, 1) := by decide +kernel
theorem dX10_set_111 : decode cX10_set 111 = .ok (.getfield 19, 3) := by decide +kernel
theorem dX10_set_114 : decode cX10_set 114 = .ok (.iload_n 2, 1) := by decide +kernel
theorem dX10_set_115 : decode cX10_set 115 = .ok (.putfield 154, 3) := by decide +kernel
theorem dX10_set_118 : decode cX10_set 118 = .ok (.goto 38, 3) := by decide +kernel
theorem dX10_set_121 : decode cX10_set 121 = .ok (.aload_n 0, 1) := by decide +kernel
theorem dX10_set_122 : decode cX10_set 122 = .ok (.getfield 19, 3) := by decide +kernel
theorem dX10_set_125 : decode cX10_set 125 = .ok (.getfield 157, 3) := by decide +kernel
theorem dX10_set_128 : decode cX10_set 128 = .ok (.istore_n 3, 1) := by decide +kernel
theorem dX10_set_129 : decode cX10_set 129 = .ok (.aload_n 0, 1) := by decide +kernel
theorem dX10_set_130 : decode cX10_set 130 = .ok (.getfield 19, 3) := by decide +kernel
theorem dX10_set_133 : decode cX10_set 133 = .ok (.iload_n 2, 1) := by decide +kernel
theorem dX10_set_134 : decode cX10_set 134 = .ok (.putfield 157, 3) := by decide +kernel
theorem dX10_set_137 : decode cX10_set 137 = .ok (.goto 19, 3) := by decide +kernel
theorem dX10_set_140 : decode cX10_set 140 = .ok (.aload_n 0, 1) := by decide +kernel
theorem dX10_set_141 : decode cX10_set 141 = .ok (.getfield 54, 3) := by decide +kernel
theorem dX10_set_144 : decode cX10_set 144 = .ok (.getfield 160, 3) := by decide +kernel
theorem dX10_set_147 : decode cX10_set 147 = .ok (.istore_n 3, 1) := by decide +kernel
theorem dX10_set_148 : decode cX10_set 148 = .ok (.aload_n 0, 1) := by decide +kernel
theorem dX10_set_149 : decode cX10_set 149 = .ok (.getfield 54, 3) := by decide +kernel
theorem dX10_set_152 : decode cX10_set 152 = .ok (.iload_n 2, 1) := by decide +kernel
theorem dX10_set_153 : decode cX10_set 153 = .ok (.putfield 160, 3) := by decide +kernel
theorem dX10_set_156 : decode cX10_set 156 = .ok (.iload_n 3, 1) := by decide +kernel
theorem dX10_set_157 : decode cX10_set 157 = .ok (.ireturn, 1) := by decide +kernel
set_option maxRecDepth 20000 in
theorem ggX10_price_X2_has : GoodIn wsX10_price wsX2_has := goodIn_r _ [6, 7, 28, 29, 30, 31, 32, 33, 34, 35, 36, 37, 38, 39, 40] (by decide +kernel) (by decide +kernel)
set_option maxRecDepth 20000 in
theorem gX10_price_X2_has : GoodIn wsX10_price (wsV RX10 95 RX2 yX2_has wsX2_has) := goodIn_app (goodIn_of _ (by decide +kernel)) ggX10_price_X2_has
set_option maxRecDepth 20000 in
theorem ggX10_price_X10_isSpot : GoodIn wsX10_price wsX10_isSpot := goodIn_r _ [11, 12, 13, 10, 14] (by decide +kernel) (by decide +kernel)
set_option maxRecDepth 20000 in
theorem gX10_price_X10_isSpot : GoodIn wsX10_price (va_wsS RX10 163 yX10_isSpot wsX10_isSpot) := goodIn_app (goodIn_of _ (by decide +kernel)) ggX10_price_X10_isSpot
set_option maxRecDepth 20000 in
theorem ggX10_price_X10_within : GoodIn wsX10_price wsX10_within := goodIn_r _ [14] (by decide +kernel) (by decide +kernel)
set_option maxRecDepth 20000 in
theorem gX10_price_X10_within : GoodIn wsX10_price (va_wsS RX10 76 yX10_within wsX10_within) := goodIn_app (goodIn_of _ (by decide +kernel)) ggX10_price_X10_within
set_option maxRecDepth 20000 in
theorem ggX10_price_X10_exchange : GoodIn wsX10_price wsX10_exchange := goodIn_r _ [17] (by decide +kernel) (by decide +kernel)
set_option maxRecDepth 20000 in
theorem gX10_price_X10_exchange : GoodIn wsX10_price (va_wsS RX10 83 yX10_exchange wsX10_exchange) := goodIn_app (goodIn_of _ (by decide +kernel)) ggX10_price_X10_exchange
theorem dX10_price_0 : decode cX10_price 0 = .ok (.aload_n 0, 1) := by decide +kernel
theorem dX10_price_1 : decode cX10_price 1 = .ok (.getfield 12, 3) := by decide +kernel
theorem dX10_price_4 : decode cX10_price 4 = .ok (.iload_n 1, 1) := by decide +kernel
theorem dX10_price_5 : decode cX10_price 5 = .ok (.invokevirtual 95, 3) := by decide +kernel
theorem dX10_price_8 : decode cX10_price 8 = .ok (.ifCond .ne 5, 3) := by decide +kernel
theorem dX10_price_11 : decode cX10_price 11 = .ok (.iconst (-1), 1) := by decide +kernel
theorem dX10_price_12 : decode cX10_price 12 = .ok (.ireturn, 1) := by decide +kernel
theorem dX10_price_13 : decode cX10_price 13 = .ok (.iload_n 2, 1) := by decide +kernel
theorem dX10_price_14 : decode cX10_price 14 = .ok (.iload_n 3, 1) := by decide +kernel
theorem dX10_price_15 : decode cX10_price 15 = .ok (.invokestatic 163, 3) := by decide +kernel
theorem dX10_price_18 : decode cX10_price 18 = .ok (.ifCond .eq 21, 3) := by decide +kernel
theorem dX10_price_21 : decode cX10_price 21 = .ok (.iload 4, 2) := by decide +kernel
theorem dX10_price_23 : decode cX10_price 23 = .ok (.ifCond .eq 19, 3) := by decide +kernel
theorem dX10_price_26 : decode cX10_price 26 = .ok (.iload 4, 2) := by decide +kernel
theorem dX10_price_28 : decode cX10_price 28 = .ok (.bipush 100, 2) := by decide +kernel
theorem dX10_price_30 : decode cX10_price 30 = .ok (.sipush 10000, 3) := by decide +kernel
theorem dX10_price_33 : decode cX10_price 33 = .ok (.invokestatic 76, 3) := by decide +kernel
theorem dX10_price_36 : decode cX10_price 36 = .ok (.ifCond .ne 6, 3) := by decide +kernel
theorem dX10_price_39 : decode cX10_price 39 = .ok (.bipush (-2), 2) := by decide +kernel
theorem dX10_price_41 : decode cX10_price 41 = .ok (.ireturn, 1) := by decide +kernel
theorem dX10_price_42 : decode cX10_price 42 = .ok (.aload_n 0, 1) := by decide +kernel
theorem dX10_price_43 : decode cX10_price 43 = .ok (.getfield 12, 3) := by decide +kernel
theorem dX10_price_46 : decode cX10_price 46 = .ok (.getfield 167, 3) := by decide +kernel
theorem dX10_price_49 : decode cX10_price 49 = .ok (.iload_n 1, 1) := by decide +kernel
theorem dX10_price_50 : decode cX10_price 50 = .ok (.bipush 18, 2) := by decide +kernel
theorem dX10_price_52 : decode cX10_price 52 = .ok (.imul, 1) := by decide +kernel
theorem dX10_price_53 : decode cX10_price 53 = .ok (.iload_n 2, 1) := by decide +kernel
theorem dX10_price_54 : decode cX10_price 54 = .ok (.iconst 3, 1) := by decide +kernel
theorem dX10_price_55 : decode cX10_price 55 = .ok (.imul, 1) := by decide +kernel
theorem dX10_price_56 : decode cX10_price 56 = .ok (.iadd, 1) := by decide +kernel
theorem dX10_price_57 : decode cX10_price 57 = .ok (.iload_n 3, 1) := by decide +kernel
theorem dX10_price_58 : decode cX10_price 58 = .ok (.iadd, 1) := by decide +kernel
theorem dX10_price_59 : decode cX10_price 59 = .ok (.iload 4, 2) := by decide +kernel
theorem dX10_price_61 : decode cX10_price 61 = .ok (.invokestatic 83, 3) := by decide +kernel
theorem dX10_price_64 : decode cX10_price 64 = .ok (.ireturn, 1) := by decide +kernel
set_option maxRecDepth 20000 in
theorem ggX10_lean_X2_has : GoodIn wsX10_lean wsX2_has := goodIn_r _ [7, 8, 90, 91, 92, 93, 94, 95, 96, 97, 98, 99, 100, 101, 102] (by decide +kernel) (by decide +kernel)
set_option maxRecDepth 20000 in
theorem gX10_lean_X2_has : GoodIn wsX10_lean (wsV RX10 95 RX2 yX2_has wsX2_has) := goodIn_app (goodIn_of _ (by decide +kernel)) ggX10_lean_X2_has
set_option maxRecDepth 20000 in
theorem ggX10_lean_X10_isSpot : GoodIn wsX10_lean wsX10_isSpot := goodIn_r _ [12, 13, 14, 11, 15] (by decide +kernel) (by decide +kernel)
set_option maxRecDepth 20000 in
theorem gX10_lean_X10_isSpot : GoodIn wsX10_lean (va_wsS RX10 163 yX10_isSpot wsX10_isSpot) := goodIn_app (goodIn_of _ (by decide +kernel)) ggX10_lean_X10_isSpot
set_option maxRecDepth 20000 in
theorem ggX10_lean_X2_leanAt : GoodIn wsX10_lean wsX2_leanAt := goodIn_r _ [19, 20, 21, 22, 23, 24, 25, 6, 26, 27, 28, 29, 30, 31, 32, 33, 34, 35, 36, 37, 38, 39, 40, 41, 42, 43, 44, 45, 46, 47, 48, 49, 50, 51, 52, 53, 54, 55, 56, 57, 58, 59, 60, 61, 62, 63, 64, 65, 66, 67, 68, 69, 70, 71, 72, 73, 74, 75, 76, 77, 78, 79, 90, 91, 92, 93, 94, 95, 96, 97, 98, 99, 100, 101, 102, 103, 104, 105] (by decide +kernel) (by decide +kernel)
set_option maxRecDepth 20000 in
theorem gX10_lean_X2_leanAt : GoodIn wsX10_lean (wsV RX10 170 RX2 yX2_leanAt wsX2_leanAt) := goodIn_app (goodIn_of _ (by decide +kernel)) ggX10_lean_X2_leanAt
theorem dX10_lean_0 : decode cX10_lean 0 = .ok (.aload_n 0, 1) := by decide +kernel
theorem dX10_lean_1 : decode cX10_lean 1 = .ok (.getfield 12, 3) := by decide +kernel
theorem dX10_lean_4 : decode cX10_lean 4 = .ok (.iload_n 1, 1) := by decide +kernel
theorem dX10_lean_5 : decode cX10_lean 5 = .ok (.invokevirtual 95, 3) := by decide +kernel
theorem dX10_lean_8 : decode cX10_lean 8 = .ok (.ifCond .eq 24, 3) := by decide +kernel
theorem dX10_lean_11 : decode cX10_lean 11 = .ok (.iload_n 2, 1) := by decide +kernel
theorem dX10_lean_12 : decode cX10_lean 12 = .ok (.iload_n 3, 1) := by decide +kernel
theorem dX10_lean_13 : decode cX10_lean 13 = .ok (.invokestatic 163, 3) := by decide +kernel
theorem dX10_lean_16 : decode cX10_lean 16 = .ok (.ifCond .eq 16, 3) := by decide +kernel
theorem dX10_lean_19 : decode cX10_lean 19 = .ok (.aload_n 0, 1) := by decide +kernel
theorem dX10_lean_20 : decode cX10_lean 20 = .ok (.getfield 12, 3) := by decide +kernel
theorem dX10_lean_23 : decode cX10_lean 23 = .ok (.iload_n 1, 1) := by decide +kernel
theorem dX10_lean_24 : decode cX10_lean 24 = .ok (.iload_n 2, 1) := by decide +kernel
theorem dX10_lean_25 : decode cX10_lean 25 = .ok (.iload_n 3, 1) := by decide +kernel
theorem dX10_lean_26 : decode cX10_lean 26 = .ok (.invokevirtual 170, 3) := by decide +kernel
theorem dX10_lean_29 : decode cX10_lean 29 = .ok (.goto 5, 3) := by decide +kernel
theorem dX10_lean_32 : decode cX10_lean 32 = .ok (.ldc 173, 2) := by decide +kernel
theorem dX10_lean_34 : decode cX10_lean 34 = .ok (.ireturn, 1) := by decide +kernel
set_option maxRecDepth 20000 in
theorem ggX10_greatest_X2_has : GoodIn wsX10_greatest wsX2_has := goodIn_r _ [7, 8, 93, 94, 95, 96, 97, 98, 99, 100, 101, 102, 103, 104, 105] (by decide +kernel) (by decide +kernel)
set_option maxRecDepth 20000 in
theorem gX10_greatest_X2_has : GoodIn wsX10_greatest (wsV RX10 95 RX2 yX2_has wsX2_has) := goodIn_app (goodIn_of _ (by decide +kernel)) ggX10_greatest_X2_has
set_option maxRecDepth 20000 in
theorem ggX10_greatest_X10_within : GoodIn wsX10_greatest wsX10_within := goodIn_r _ [12] (by decide +kernel) (by decide +kernel)
set_option maxRecDepth 20000 in
theorem gX10_greatest_X10_within : GoodIn wsX10_greatest (va_wsS RX10 76 yX10_within wsX10_within) := goodIn_app (goodIn_of _ (by decide +kernel)) ggX10_greatest_X10_within
set_option maxRecDepth 20000 in
theorem ggX10_greatest_X2_seekTop : GoodIn wsX10_greatest wsX2_seekTop := goodIn_r _ [16, 17, 18, 19, 20, 21, 6, 22, 23, 24, 25, 26, 27, 28, 29, 30, 31, 32, 33, 34, 35, 36, 37, 38, 39, 40, 41, 42, 43, 44, 45, 46, 47, 48, 49, 50, 51, 52, 53, 54, 55, 56, 57, 58, 59, 60, 61, 62, 63, 64, 65, 66, 67, 68, 69, 70, 71, 72, 73, 74, 75, 76, 77, 78, 79, 80, 81, 82, 93, 94, 95, 96, 97, 98, 99, 100, 101, 102, 103, 104, 105, 106, 107, 108] (by decide +kernel) (by decide +kernel)
set_option maxRecDepth 20000 in
theorem gX10_greatest_X2_seekTop : GoodIn wsX10_greatest (wsV RX10 174 RX2 yX2_seekTop wsX2_seekTop) := goodIn_app (goodIn_of _ (by decide +kernel)) ggX10_greatest_X2_seekTop
theorem dX10_greatest_0 : decode cX10_greatest 0 = .ok (.aload_n 0, 1) := by decide +kernel
theorem dX10_greatest_1 : decode cX10_greatest 1 = .ok (.getfield 12, 3) := by decide +kernel
theorem dX10_greatest_4 : decode cX10_greatest 4 = .ok (.iload_n 1, 1) := by decide +kernel
theorem dX10_greatest_5 : decode cX10_greatest 5 = .ok (.invokevirtual 95, 3) := by decide +kernel
theorem dX10_greatest_8 : decode cX10_greatest 8 = .ok (.ifCond .eq 12, 3) := by decide +kernel
theorem dX10_greatest_11 : decode cX10_greatest 11 = .ok (.iload_n 2, 1) := by decide +kernel
theorem dX10_greatest_12 : decode cX10_greatest 12 = .ok (.iconst 0, 1) := by decide +kernel
theorem dX10_greatest_13 : decode cX10_greatest 13 = .ok (.iconst 1, 1) := by decide +kernel
theorem dX10_greatest_14 : decode cX10_greatest 14 = .ok (.invokestatic 76, 3) := by decide +kernel
theorem dX10_greatest_17 : decode cX10_greatest 17 = .ok (.ifCond .ne 6, 3) := by decide +kernel
theorem dX10_greatest_20 : decode cX10_greatest 20 = .ok (.ldc 173, 2) := by decide +kernel
theorem dX10_greatest_22 : decode cX10_greatest 22 = .ok (.ireturn, 1) := by decide +kernel
theorem dX10_greatest_23 : decode cX10_greatest 23 = .ok (.aload_n 0, 1) := by decide +kernel
theorem dX10_greatest_24 : decode cX10_greatest 24 = .ok (.getfield 12, 3) := by decide +kernel
theorem dX10_greatest_27 : decode cX10_greatest 27 = .ok (.iload_n 1, 1) := by decide +kernel
theorem dX10_greatest_28 : decode cX10_greatest 28 = .ok (.invokevirtual 174, 3) := by decide +kernel
theorem dX10_greatest_31 : decode cX10_greatest 31 = .ok (.iload_n 2, 1) := by decide +kernel
theorem dX10_greatest_32 : decode cX10_greatest 32 = .ok (.ifCond .ne 13, 3) := by decide +kernel
theorem dX10_greatest_35 : decode cX10_greatest 35 = .ok (.aload_n 0, 1) := by decide +kernel
theorem dX10_greatest_36 : decode cX10_greatest 36 = .ok (.getfield 12, 3) := by decide +kernel
theorem dX10_greatest_39 : decode cX10_greatest 39 = .ok (.getfield 178, 3) := by decide +kernel
theorem dX10_greatest_42 : decode cX10_greatest 42 = .ok (.goto 10, 3) := by decide +kernel
theorem dX10_greatest_45 : decode cX10_greatest 45 = .ok (.aload_n 0, 1) := by decide +kernel
theorem dX10_greatest_46 : decode cX10_greatest 46 = .ok (.getfield 12, 3) := by decide +kernel
theorem dX10_greatest_49 : decode cX10_greatest 49 = .ok (.getfield 181, 3) := by decide +kernel
theorem dX10_greatest_52 : decode cX10_greatest 52 = .ok (.ireturn, 1) := by decide +kernel
set_option maxRecDepth 20000 in
theorem ggX10_stake_X10_isHand : GoodIn wsX10_stake wsX10_isHand := goodIn_r _ [6] (by decide +kernel) (by decide +kernel)
set_option maxRecDepth 20000 in
theorem gX10_stake_X10_isHand : GoodIn wsX10_stake (va_wsS RX10 184 yX10_isHand wsX10_isHand) := goodIn_app (goodIn_of _ (by decide +kernel)) ggX10_stake_X10_isHand
set_option maxRecDepth 20000 in
theorem ggX10_stake_X2_has : GoodIn wsX10_stake wsX2_has := goodIn_r _ [11, 12, 50, 51, 52, 53, 54, 55, 56, 57, 58, 59, 60, 61, 62] (by decide +kernel) (by decide +kernel)
set_option maxRecDepth 20000 in
theorem gX10_stake_X2_has : GoodIn wsX10_stake (wsV RX10 95 RX2 yX2_has wsX2_has) := goodIn_app (goodIn_of _ (by decide +kernel)) ggX10_stake_X2_has
set_option maxRecDepth 20000 in
theorem ggX10_stake_X10_within : GoodIn wsX10_stake wsX10_within := goodIn_r _ [15] (by decide +kernel) (by decide +kernel)
set_option maxRecDepth 20000 in
theorem gX10_stake_X10_within : GoodIn wsX10_stake (va_wsS RX10 76 yX10_within wsX10_within) := goodIn_app (goodIn_of _ (by decide +kernel)) ggX10_stake_X10_within
set_option maxRecDepth 20000 in
theorem ggX10_stake_X0_add : GoodIn wsX10_stake wsX0_add := goodIn_r _ [20, 21, 22, 23, 24, 25, 26, 37, 38, 39, 40, 41, 42, 43, 44, 45, 46, 47, 48, 49] (by decide +kernel) (by decide +kernel)
set_option maxRecDepth 20000 in
theorem gX10_stake_X0_add : GoodIn wsX10_stake (wsV RX10 188 RX0 yX0_add wsX0_add) := goodIn_app (goodIn_of _ (by decide +kernel)) ggX10_stake_X0_add
theorem dX10_stake_0 : decode cX10_stake 0 = .ok (.iload_n 1, 1) := by decide +kernel
theorem dX10_stake_1 : decode cX10_stake 1 = .ok (.invokestatic 184, 3) := by decide +kernel
theorem dX10_stake_4 : decode cX10_stake 4 = .ok (.ifCond .eq 14, 3) := by decide +kernel
theorem dX10_stake_7 : decode cX10_stake 7 = .ok (.aload_n 0, 1) := by decide +kernel
theorem dX10_stake_8 : decode cX10_stake 8 = .ok (.getfield 12, 3) := by decide +kernel
theorem dX10_stake_11 : decode cX10_stake 11 = .ok (.iload_n 2, 1) := by decide +kernel
theorem dX10_stake_12 : decode cX10_stake 12 = .ok (.invokevirtual 95, 3) := by decide +kernel
theorem dX10_stake_15 : decode cX10_stake 15 = .ok (.ifCond .ne 5, 3) := by decide +kernel
theorem dX10_stake_18 : decode cX10_stake 18 = .ok (.iconst (-1), 1) := by decide +kernel
theorem dX10_stake_19 : decode cX10_stake 19 = .ok (.ireturn, 1) := by decide +kernel
theorem dX10_stake_20 : decode cX10_stake 20 = .ok (.iload_n 3, 1) := by decide +kernel
theorem dX10_stake_21 : decode cX10_stake 21 = .ok (.iconst 0, 1) := by decide +kernel
theorem dX10_stake_22 : decode cX10_stake 22 = .ok (.iconst 2, 1) := by decide +kernel
theorem dX10_stake_23 : decode cX10_stake 23 = .ok (.invokestatic 76, 3) := by decide +kernel
theorem dX10_stake_26 : decode cX10_stake 26 = .ok (.ifCond .eq 26, 3) := by decide +kernel
theorem dX10_stake_29 : decode cX10_stake 29 = .ok (.iload 4, 2) := by decide +kernel
theorem dX10_stake_31 : decode cX10_stake 31 = .ok (.iconst 0, 1) := by decide +kernel
theorem dX10_stake_32 : decode cX10_stake 32 = .ok (.bipush 89, 2) := by decide +kernel
theorem dX10_stake_34 : decode cX10_stake 34 = .ok (.invokestatic 76, 3) := by decide +kernel
theorem dX10_stake_37 : decode cX10_stake 37 = .ok (.ifCond .eq 15, 3) := by decide +kernel
theorem dX10_stake_40 : decode cX10_stake 40 = .ok (.iload 5, 2) := by decide +kernel
theorem dX10_stake_42 : decode cX10_stake 42 = .ok (.iconst 1, 1) := by decide +kernel
theorem dX10_stake_43 : decode cX10_stake 43 = .ok (.sipush 10000, 3) := by decide +kernel
theorem dX10_stake_46 : decode cX10_stake 46 = .ok (.invokestatic 76, 3) := by decide +kernel
theorem dX10_stake_49 : decode cX10_stake 49 = .ok (.ifCond .ne 6, 3) := by decide +kernel
theorem dX10_stake_52 : decode cX10_stake 52 = .ok (.bipush (-2), 2) := by decide +kernel
theorem dX10_stake_54 : decode cX10_stake 54 = .ok (.ireturn, 1) := by decide +kernel
theorem dX10_stake_55 : decode cX10_stake 55 = .ok (.aload_n 0, 1) := by decide +kernel
theorem dX10_stake_56 : decode cX10_stake 56 = .ok (.getfield 19, 3) := by decide +kernel
theorem dX10_stake_59 : decode cX10_stake 59 = .ok (.getfield 187, 3) := by decide +kernel
theorem dX10_stake_62 : decode cX10_stake 62 = .ok (.bipush 40, 2) := by decide +kernel
theorem dX10_stake_64 : decode cX10_stake 64 = .ok (.if_icmp .ge 20, 3) := by decide +kernel
theorem dX10_stake_67 : decode cX10_stake 67 = .ok (.aload_n 0, 1) := by decide +kernel
theorem dX10_stake_68 : decode cX10_stake 68 = .ok (.getfield 19, 3) := by decide +kernel
theorem dX10_stake_71 : decode cX10_stake 71 = .ok (.iload_n 1, 1) := by decide +kernel
theorem dX10_stake_72 : decode cX10_stake 72 = .ok (.iload_n 2, 1) := by decide +kernel
theorem dX10_stake_73 : decode cX10_stake 73 = .ok (.iload_n 3, 1) := by decide +kernel
theorem dX10_stake_74 : decode cX10_stake 74 = .ok (.iload 4, 2) := by decide +kernel
theorem dX10_stake_76 : decode cX10_stake 76 = .ok (.iload 5, 2) := by decide +kernel
theorem dX10_stake_78 : decode cX10_stake 78 = .ok (.invokevirtual 188, 3) := by decide +kernel
theorem dX10_stake_81 : decode cX10_stake 81 = .ok (.goto 5, 3) := by decide +kernel
theorem dX10_stake_84 : decode cX10_stake 84 = .ok (.bipush (-4), 2) := by decide +kernel
theorem dX10_stake_86 : decode cX10_stake 86 = .ok (.ireturn, 1) := by decide +kernel
set_option maxRecDepth 20000 in
theorem ggX10_gain_X10_isHand : GoodIn wsX10_gain wsX10_isHand := goodIn_r _ [7] (by decide +kernel) (by decide +kernel)
set_option maxRecDepth 20000 in
theorem gX10_gain_X10_isHand : GoodIn wsX10_gain (va_wsS RX10 184 yX10_isHand wsX10_isHand) := goodIn_app (goodIn_of _ (by decide +kernel)) ggX10_gain_X10_isHand
set_option maxRecDepth 20000 in
theorem ggX10_gain_X0_gainOf : GoodIn wsX10_gain wsX0_gainOf := goodIn_r _ [12, 13, 14, 15, 16, 17, 11, 18, 19, 20, 21, 22, 23, 24, 25, 26, 27, 28, 29, 30, 31, 32, 33, 34, 35, 36, 37, 38, 39, 40, 51, 52, 53, 54, 55, 56, 57, 58, 59, 60, 61, 62, 63, 64, 65, 66, 67, 68, 69, 70, 71, 72, 73, 74, 75, 76] (by decide +kernel) (by decide +kernel)
set_option maxRecDepth 20000 in
theorem gX10_gain_X0_gainOf : GoodIn wsX10_gain (wsV RX10 191 RX0 yX0_gainOf wsX0_gainOf) := goodIn_app (goodIn_of _ (by decide +kernel)) ggX10_gain_X0_gainOf
theorem dX10_gain_0 : decode cX10_gain 0 = .ok (.iload_n 1, 1) := by decide +kernel
theorem dX10_gain_1 : decode cX10_gain 1 = .ok (.invokestatic 184, 3) := by decide +kernel
theorem dX10_gain_4 : decode cX10_gain 4 = .ok (.ifCond .eq 18, 3) := by decide +kernel
theorem dX10_gain_7 : decode cX10_gain 7 = .ok (.aload_n 0, 1) := by decide +kernel
theorem dX10_gain_8 : decode cX10_gain 8 = .ok (.getfield 19, 3) := by decide +kernel
theorem dX10_gain_11 : decode cX10_gain 11 = .ok (.iload_n 1, 1) := by decide +kernel
theorem dX10_gain_12 : decode cX10_gain 12 = .ok (.aload_n 0, 1) := by decide +kernel
theorem dX10_gain_13 : decode cX10_gain 13 = .ok (.getfield 12, 3) := by decide +kernel
theorem dX10_gain_16 : decode cX10_gain 16 = .ok (.invokevirtual 191, 3) := by decide +kernel
theorem dX10_gain_19 : decode cX10_gain 19 = .ok (.goto 5, 3) := by decide +kernel
theorem dX10_gain_22 : decode cX10_gain 22 = .ok (.ldc 173, 2) := by decide +kernel
theorem dX10_gain_24 : decode cX10_gain 24 = .ok (.ireturn, 1) := by decide +kernel
set_option maxRecDepth 20000 in
theorem ggX10_answer_X10_isHand : GoodIn wsX10_answer wsX10_isHand := goodIn_r _ [5] (by decide +kernel) (by decide +kernel)
set_option maxRecDepth 20000 in
theorem gX10_answer_X10_isHand : GoodIn wsX10_answer (va_wsS RX10 184 yX10_isHand wsX10_isHand) := goodIn_app (goodIn_of _ (by decide +kernel)) ggX10_answer_X10_isHand
set_option maxRecDepth 20000 in
theorem ggX10_answer_X10_within : GoodIn wsX10_answer wsX10_within := goodIn_r _ [8] (by decide +kernel) (by decide +kernel)
set_option maxRecDepth 20000 in
theorem gX10_answer_X10_within : GoodIn wsX10_answer (va_wsS RX10 76 yX10_within wsX10_within) := goodIn_app (goodIn_of _ (by decide +kernel)) ggX10_answer_X10_within
set_option maxRecDepth 20000 in
theorem ggX10_answer_X0_countPairs : GoodIn wsX10_answer wsX0_countPairs := goodIn_r _ [13, 14, 15, 16, 17, 18, 19, 20, 21, 22, 23, 12, 24, 25, 26, 27, 28, 29, 30, 31, 32, 33, 34, 35, 36, 37, 38, 39, 40, 54, 55, 56, 57, 58, 59, 60, 61, 62, 63, 64, 65, 66] (by decide +kernel) (by decide +kernel)
set_option maxRecDepth 20000 in
theorem gX10_answer_X0_countPairs : GoodIn wsX10_answer (wsV RX10 195 RX0 yX0_countPairs wsX0_countPairs) := goodIn_app (goodIn_of _ (by decide +kernel)) ggX10_answer_X0_countPairs
set_option maxRecDepth 20000 in
theorem ggX10_answer_X10_asNumber : GoodIn wsX10_answer wsX10_asNumber := goodIn_r _ [43] (by decide +kernel) (by decide +kernel)
set_option maxRecDepth 20000 in
theorem gX10_answer_X10_asNumber : GoodIn wsX10_answer (va_wsS RX10 199 yX10_asNumber wsX10_asNumber) := goodIn_app (goodIn_of _ (by decide +kernel)) ggX10_answer_X10_asNumber
theorem dX10_answer_0 : decode cX10_answer 0 = .ok (.iload_n 1, 1) := by decide +kernel
theorem dX10_answer_1 : decode cX10_answer 1 = .ok (.invokestatic 184, 3) := by decide +kernel
theorem dX10_answer_4 : decode cX10_answer 4 = .ok (.ifCond .eq 15, 3) := by decide +kernel
theorem dX10_answer_7 : decode cX10_answer 7 = .ok (.iload_n 2, 1) := by decide +kernel
theorem dX10_answer_8 : decode cX10_answer 8 = .ok (.invokestatic 184, 3) := by decide +kernel
theorem dX10_answer_11 : decode cX10_answer 11 = .ok (.ifCond .eq 8, 3) := by decide +kernel
theorem dX10_answer_14 : decode cX10_answer 14 = .ok (.iload_n 1, 1) := by decide +kernel
theorem dX10_answer_15 : decode cX10_answer 15 = .ok (.iload_n 2, 1) := by decide +kernel
theorem dX10_answer_16 : decode cX10_answer 16 = .ok (.if_icmp .ne 5, 3) := by decide +kernel
theorem dX10_answer_19 : decode cX10_answer 19 = .ok (.iconst (-1), 1) := by decide +kernel
theorem dX10_answer_20 : decode cX10_answer 20 = .ok (.ireturn, 1) := by decide +kernel
theorem dX10_answer_21 : decode cX10_answer 21 = .ok (.iload_n 3, 1) := by decide +kernel
theorem dX10_answer_22 : decode cX10_answer 22 = .ok (.iconst 0, 1) := by decide +kernel
theorem dX10_answer_23 : decode cX10_answer 23 = .ok (.iconst 1, 1) := by decide +kernel
theorem dX10_answer_24 : decode cX10_answer 24 = .ok (.invokestatic 76, 3) := by decide +kernel
theorem dX10_answer_27 : decode cX10_answer 27 = .ok (.ifCond .ne 6, 3) := by decide +kernel
theorem dX10_answer_30 : decode cX10_answer 30 = .ok (.bipush (-2), 2) := by decide +kernel
theorem dX10_answer_32 : decode cX10_answer 32 = .ok (.ireturn, 1) := by decide +kernel
theorem dX10_answer_33 : decode cX10_answer 33 = .ok (.aload_n 0, 1) := by decide +kernel
theorem dX10_answer_34 : decode cX10_answer 34 = .ok (.getfield 19, 3) := by decide +kernel
theorem dX10_answer_37 : decode cX10_answer 37 = .ok (.iload_n 1, 1) := by decide +kernel
theorem dX10_answer_38 : decode cX10_answer 38 = .ok (.iload_n 2, 1) := by decide +kernel
theorem dX10_answer_39 : decode cX10_answer 39 = .ok (.invokevirtual 195, 3) := by decide +kernel
theorem dX10_answer_42 : decode cX10_answer 42 = .ok (.istore 4, 2) := by decide +kernel
theorem dX10_answer_44 : decode cX10_answer 44 = .ok (.iload_n 3, 1) := by decide +kernel
theorem dX10_answer_45 : decode cX10_answer 45 = .ok (.ifCond .ne 8, 3) := by decide +kernel
theorem dX10_answer_48 : decode cX10_answer 48 = .ok (.iload 4, 2) := by decide +kernel
theorem dX10_answer_50 : decode cX10_answer 50 = .ok (.goto 23, 3) := by decide +kernel
theorem dX10_answer_53 : decode cX10_answer 53 = .ok (.iload 4, 2) := by decide +kernel
theorem dX10_answer_55 : decode cX10_answer 55 = .ok (.aload_n 0, 1) := by decide +kernel
theorem dX10_answer_56 : decode cX10_answer 56 = .ok (.getfield 19, 3) := by decide +kernel
theorem dX10_answer_59 : decode cX10_answer 59 = .ok (.getfield 157, 3) := by decide +kernel
theorem dX10_answer_62 : decode cX10_answer 62 = .ok (.if_icmp .lt 7, 3) := by decide +kernel
theorem dX10_answer_65 : decode cX10_answer 65 = .ok (.iconst 1, 1) := by decide +kernel
theorem dX10_answer_66 : decode cX10_answer 66 = .ok (.goto 4, 3) := by decide +kernel
theorem dX10_answer_69 : decode cX10_answer 69 = .ok (.iconst 0, 1) := by decide +kernel
theorem dX10_answer_70 : decode cX10_answer 70 = .ok (.invokestatic 199, 3) := by decide +kernel
theorem dX10_answer_73 : decode cX10_answer 73 = .ok (.ireturn, 1) := by decide +kernel
set_option maxRecDepth 20000 in
theorem ggX10_one_X10_isHand : GoodIn wsX10_one wsX10_isHand := goodIn_r _ [5] (by decide +kernel) (by decide +kernel)
set_option maxRecDepth 20000 in
theorem gX10_one_X10_isHand : GoodIn wsX10_one (va_wsS RX10 184 yX10_isHand wsX10_isHand) := goodIn_app (goodIn_of _ (by decide +kernel)) ggX10_one_X10_isHand
set_option maxRecDepth 20000 in
theorem ggX10_one_X0_groupHands : GoodIn wsX10_one wsX0_groupHands := goodIn_r _ [10, 11, 12, 13, 14, 15, 9, 16, 17, 18, 19, 20, 21, 22, 23, 24, 25, 26, 27, 28, 29, 30, 31, 32, 33, 34, 35, 36, 37, 38, 39, 40, 41, 42, 43, 44, 4, 45, 56, 57, 58, 59, 60, 61, 62, 63, 64, 65, 66, 67, 68] (by decide +kernel) (by decide +kernel)
set_option maxRecDepth 20000 in
theorem gX10_one_X0_groupHands : GoodIn wsX10_one (wsV RX10 203 RX0 yX0_groupHands wsX0_groupHands) := goodIn_app (goodIn_of _ (by decide +kernel)) ggX10_one_X0_groupHands
theorem dX10_one_0 : decode cX10_one 0 = .ok (.iload_n 1, 1) := by decide +kernel
theorem dX10_one_1 : decode cX10_one 1 = .ok (.invokestatic 184, 3) := by decide +kernel
theorem dX10_one_4 : decode cX10_one 4 = .ok (.ifCond .ne 5, 3) := by decide +kernel
theorem dX10_one_7 : decode cX10_one 7 = .ok (.iconst (-1), 1) := by decide +kernel
theorem dX10_one_8 : decode cX10_one 8 = .ok (.ireturn, 1) := by decide +kernel
theorem dX10_one_9 : decode cX10_one 9 = .ok (.aload_n 0, 1) := by decide +kernel
theorem dX10_one_10 : decode cX10_one 10 = .ok (.getfield 19, 3) := by decide +kernel
theorem dX10_one_13 : decode cX10_one 13 = .ok (.invokevirtual 203, 3) := by decide +kernel
theorem dX10_one_16 : decode cX10_one 16 = .ok (.aload_n 0, 1) := by decide +kernel
theorem dX10_one_17 : decode cX10_one 17 = .ok (.getfield 19, 3) := by decide +kernel
theorem dX10_one_20 : decode cX10_one 20 = .ok (.getfield 206, 3) := by decide +kernel
theorem dX10_one_23 : decode cX10_one 23 = .ok (.iload_n 1, 1) := by decide +kernel
theorem dX10_one_24 : decode cX10_one 24 = .ok (.iaload, 1) := by decide +kernel
theorem dX10_one_25 : decode cX10_one 25 = .ok (.ireturn, 1) := by decide +kernel
set_option maxRecDepth 20000 in
theorem ggX10_meet_X10_isPerson : GoodIn wsX10_meet wsX10_isPerson := goodIn_r _ [5] (by decide +kernel) (by decide +kernel)
set_option maxRecDepth 20000 in
theorem gX10_meet_X10_isPerson : GoodIn wsX10_meet (va_wsS RX10 209 yX10_isPerson wsX10_isPerson) := goodIn_app (goodIn_of _ (by decide +kernel)) ggX10_meet_X10_isPerson
set_option maxRecDepth 20000 in
theorem ggX10_meet_X10_isHour : GoodIn wsX10_meet wsX10_isHour := goodIn_r _ [8] (by decide +kernel) (by decide +kernel)
set_option maxRecDepth 20000 in
theorem gX10_meet_X10_isHour : GoodIn wsX10_meet (va_wsS RX10 212 yX10_isHour wsX10_isHour) := goodIn_app (goodIn_of _ (by decide +kernel)) ggX10_meet_X10_isHour
set_option maxRecDepth 20000 in
theorem ggX10_meet_X7_add : GoodIn wsX10_meet wsX7_add := goodIn_r _ [13, 14, 15, 16, 17, 28, 29, 30, 31, 32, 33, 34, 35] (by decide +kernel) (by decide +kernel)
set_option maxRecDepth 20000 in
theorem gX10_meet_X7_add : GoodIn wsX10_meet (wsV RX10 216 RX7 yX7_add wsX7_add) := goodIn_app (goodIn_of _ (by decide +kernel)) ggX10_meet_X7_add
theorem dX10_meet_0 : decode cX10_meet 0 = .ok (.iload_n 1, 1) := by decide +kernel
theorem dX10_meet_1 : decode cX10_meet 1 = .ok (.invokestatic 209, 3) := by decide +kernel
theorem dX10_meet_4 : decode cX10_meet 4 = .ok (.ifCond .eq 15, 3) := by decide +kernel
theorem dX10_meet_7 : decode cX10_meet 7 = .ok (.iload_n 2, 1) := by decide +kernel
theorem dX10_meet_8 : decode cX10_meet 8 = .ok (.invokestatic 209, 3) := by decide +kernel
theorem dX10_meet_11 : decode cX10_meet 11 = .ok (.ifCond .eq 8, 3) := by decide +kernel
theorem dX10_meet_14 : decode cX10_meet 14 = .ok (.iload_n 1, 1) := by decide +kernel
theorem dX10_meet_15 : decode cX10_meet 15 = .ok (.iload_n 2, 1) := by decide +kernel
theorem dX10_meet_16 : decode cX10_meet 16 = .ok (.if_icmp .ne 5, 3) := by decide +kernel
theorem dX10_meet_19 : decode cX10_meet 19 = .ok (.iconst (-1), 1) := by decide +kernel
theorem dX10_meet_20 : decode cX10_meet 20 = .ok (.ireturn, 1) := by decide +kernel
theorem dX10_meet_21 : decode cX10_meet 21 = .ok (.iload_n 3, 1) := by decide +kernel
theorem dX10_meet_22 : decode cX10_meet 22 = .ok (.invokestatic 212, 3) := by decide +kernel
theorem dX10_meet_25 : decode cX10_meet 25 = .ok (.ifCond .ne 6, 3) := by decide +kernel
theorem dX10_meet_28 : decode cX10_meet 28 = .ok (.bipush (-2), 2) := by decide +kernel
theorem dX10_meet_30 : decode cX10_meet 30 = .ok (.ireturn, 1) := by decide +kernel
theorem dX10_meet_31 : decode cX10_meet 31 = .ok (.aload_n 0, 1) := by decide +kernel
theorem dX10_meet_32 : decode cX10_meet 32 = .ok (.getfield 26, 3) := by decide +kernel
theorem dX10_meet_35 : decode cX10_meet 35 = .ok (.getfield 215, 3) := by decide +kernel
theorem dX10_meet_38 : decode cX10_meet 38 = .ok (.bipush 30, 2) := by decide +kernel
theorem dX10_meet_40 : decode cX10_meet 40 = .ok (.if_icmp .ge 16, 3) := by decide +kernel
theorem dX10_meet_43 : decode cX10_meet 43 = .ok (.aload_n 0, 1) := by decide +kernel
theorem dX10_meet_44 : decode cX10_meet 44 = .ok (.getfield 26, 3) := by decide +kernel
theorem dX10_meet_47 : decode cX10_meet 47 = .ok (.iload_n 1, 1) := by decide +kernel
theorem dX10_meet_48 : decode cX10_meet 48 = .ok (.iload_n 2, 1) := by decide +kernel
theorem dX10_meet_49 : decode cX10_meet 49 = .ok (.iload_n 3, 1) := by decide +kernel
theorem dX10_meet_50 : decode cX10_meet 50 = .ok (.invokevirtual 216, 3) := by decide +kernel
theorem dX10_meet_53 : decode cX10_meet 53 = .ok (.goto 5, 3) := by decide +kernel
theorem dX10_meet_56 : decode cX10_meet 56 = .ok (.bipush (-4), 2) := by decide +kernel
theorem dX10_meet_58 : decode cX10_meet 58 = .ok (.ireturn, 1) := by decide +kernel
set_option maxRecDepth 20000 in
theorem ggX10_knew_X10_isPerson : GoodIn wsX10_knew wsX10_isPerson := goodIn_r _ [5] (by decide +kernel) (by decide +kernel)
set_option maxRecDepth 20000 in
theorem gX10_knew_X10_isPerson : GoodIn wsX10_knew (va_wsS RX10 209 yX10_isPerson wsX10_isPerson) := goodIn_app (goodIn_of _ (by decide +kernel)) ggX10_knew_X10_isPerson
set_option maxRecDepth 20000 in
theorem ggX10_knew_X10_isHour : GoodIn wsX10_knew wsX10_isHour := goodIn_r _ [8] (by decide +kernel) (by decide +kernel)
set_option maxRecDepth 20000 in
theorem gX10_knew_X10_isHour : GoodIn wsX10_knew (va_wsS RX10 212 yX10_isHour wsX10_isHour) := goodIn_app (goodIn_of _ (by decide +kernel)) ggX10_knew_X10_isHour
set_option maxRecDepth 20000 in
theorem ggX10_knew_X7_spread : GoodIn wsX10_knew wsX7_spread := goodIn_r _ [13, 14, 15, 16, 17, 18, 19, 20, 21, 22, 23, 24, 25, 12, 26, 37, 38, 39, 40, 41, 42, 43, 44] (by decide +kernel) (by decide +kernel)
set_option maxRecDepth 20000 in
theorem gX10_knew_X7_spread : GoodIn wsX10_knew (wsV RX10 217 RX7 yX7_spread wsX7_spread) := goodIn_app (goodIn_of _ (by decide +kernel)) ggX10_knew_X7_spread
theorem dX10_knew_0 : decode cX10_knew 0 = .ok (.iload_n 1, 1) := by decide +kernel
theorem dX10_knew_1 : decode cX10_knew 1 = .ok (.invokestatic 209, 3) := by decide +kernel
theorem dX10_knew_4 : decode cX10_knew 4 = .ok (.ifCond .eq 10, 3) := by decide +kernel
theorem dX10_knew_7 : decode cX10_knew 7 = .ok (.iload_n 3, 1) := by decide +kernel
theorem dX10_knew_8 : decode cX10_knew 8 = .ok (.invokestatic 209, 3) := by decide +kernel
theorem dX10_knew_11 : decode cX10_knew 11 = .ok (.ifCond .ne 5, 3) := by decide +kernel
theorem dX10_knew_14 : decode cX10_knew 14 = .ok (.iconst (-1), 1) := by decide +kernel
theorem dX10_knew_15 : decode cX10_knew 15 = .ok (.ireturn, 1) := by decide +kernel
theorem dX10_knew_16 : decode cX10_knew 16 = .ok (.iload_n 2, 1) := by decide +kernel
theorem dX10_knew_17 : decode cX10_knew 17 = .ok (.invokestatic 212, 3) := by decide +kernel
theorem dX10_knew_20 : decode cX10_knew 20 = .ok (.ifCond .ne 6, 3) := by decide +kernel
theorem dX10_knew_23 : decode cX10_knew 23 = .ok (.bipush (-2), 2) := by decide +kernel
theorem dX10_knew_25 : decode cX10_knew 25 = .ok (.ireturn, 1) := by decide +kernel
theorem dX10_knew_26 : decode cX10_knew 26 = .ok (.aload_n 0, 1) := by decide +kernel
theorem dX10_knew_27 : decode cX10_knew 27 = .ok (.getfield 26, 3) := by decide +kernel
theorem dX10_knew_30 : decode cX10_knew 30 = .ok (.iload_n 1, 1) := by decide +kernel
theorem dX10_knew_31 : decode cX10_knew 31 = .ok (.iload_n 2, 1) := by decide +kernel
theorem dX10_knew_32 : decode cX10_knew 32 = .ok (.invokevirtual 217, 3) := by decide +kernel
theorem dX10_knew_35 : decode cX10_knew 35 = .ok (.aload_n 0, 1) := by decide +kernel
theorem dX10_knew_36 : decode cX10_knew 36 = .ok (.getfield 26, 3) := by decide +kernel
theorem dX10_knew_39 : decode cX10_knew 39 = .ok (.getfield 221, 3) := by decide +kernel
theorem dX10_knew_42 : decode cX10_knew 42 = .ok (.iload_n 3, 1) := by decide +kernel
theorem dX10_knew_43 : decode cX10_knew 43 = .ok (.iaload, 1) := by decide +kernel
theorem dX10_knew_44 : decode cX10_knew 44 = .ok (.ireturn, 1) := by decide +kernel
set_option maxRecDepth 20000 in
theorem ggX10_own_X10_isHand : GoodIn wsX10_own wsX10_isHand := goodIn_r _ [5] (by decide +kernel) (by decide +kernel)
set_option maxRecDepth 20000 in
theorem gX10_own_X10_isHand : GoodIn wsX10_own (va_wsS RX10 184 yX10_isHand wsX10_isHand) := goodIn_app (goodIn_of _ (by decide +kernel)) ggX10_own_X10_isHand
set_option maxRecDepth 20000 in
theorem ggX10_own_X10_isPerson : GoodIn wsX10_own wsX10_isPerson := goodIn_r _ [8] (by decide +kernel) (by decide +kernel)
set_option maxRecDepth 20000 in
theorem gX10_own_X10_isPerson : GoodIn wsX10_own (va_wsS RX10 209 yX10_isPerson wsX10_isPerson) := goodIn_app (goodIn_of _ (by decide +kernel)) ggX10_own_X10_isPerson
set_option maxRecDepth 20000 in
theorem ggX10_own_X10_exchange : GoodIn wsX10_own wsX10_exchange := goodIn_r _ [11] (by decide +kernel) (by decide +kernel)
set_option maxRecDepth 20000 in
theorem gX10_own_X10_exchange : GoodIn wsX10_own (va_wsS RX10 83 yX10_exchange wsX10_exchange) := goodIn_app (goodIn_of _ (by decide +kernel)) ggX10_own_X10_exchange
theorem dX10_own_0 : decode cX10_own 0 = .ok (.iload_n 1, 1) := by decide +kernel
theorem dX10_own_1 : decode cX10_own 1 = .ok (.invokestatic 184, 3) := by decide +kernel
theorem dX10_own_4 : decode cX10_own 4 = .ok (.ifCond .eq 25, 3) := by decide +kernel
theorem dX10_own_7 : decode cX10_own 7 = .ok (.iload_n 2, 1) := by decide +kernel
theorem dX10_own_8 : decode cX10_own 8 = .ok (.invokestatic 209, 3) := by decide +kernel
theorem dX10_own_11 : decode cX10_own 11 = .ok (.ifCond .eq 18, 3) := by decide +kernel
theorem dX10_own_14 : decode cX10_own 14 = .ok (.aload_n 0, 1) := by decide +kernel
theorem dX10_own_15 : decode cX10_own 15 = .ok (.getfield 26, 3) := by decide +kernel
theorem dX10_own_18 : decode cX10_own 18 = .ok (.getfield 224, 3) := by decide +kernel
theorem dX10_own_21 : decode cX10_own 21 = .ok (.iload_n 1, 1) := by decide +kernel
theorem dX10_own_22 : decode cX10_own 22 = .ok (.iload_n 2, 1) := by decide +kernel
theorem dX10_own_23 : decode cX10_own 23 = .ok (.invokestatic 83, 3) := by decide +kernel
theorem dX10_own_26 : decode cX10_own 26 = .ok (.goto 4, 3) := by decide +kernel
theorem dX10_own_29 : decode cX10_own 29 = .ok (.iconst (-1), 1) := by decide +kernel
theorem dX10_own_30 : decode cX10_own 30 = .ok (.ireturn, 1) := by decide +kernel
set_option maxRecDepth 20000 in
theorem ggX10_begin_X2_has : GoodIn wsX10_begin wsX2_has := goodIn_r _ [6, 7, 25, 26, 27, 28, 29, 30, 31, 32, 33, 34, 35, 36, 37] (by decide +kernel) (by decide +kernel)
set_option maxRecDepth 20000 in
theorem gX10_begin_X2_has : GoodIn wsX10_begin (wsV RX10 95 RX2 yX2_has wsX2_has) := goodIn_app (goodIn_of _ (by decide +kernel)) ggX10_begin_X2_has
set_option maxRecDepth 20000 in
theorem ggX10_begin_X10_isHour : GoodIn wsX10_begin wsX10_isHour := goodIn_r _ [11] (by decide +kernel) (by decide +kernel)
set_option maxRecDepth 20000 in
theorem gX10_begin_X10_isHour : GoodIn wsX10_begin (va_wsS RX10 212 yX10_isHour wsX10_isHour) := goodIn_app (goodIn_of _ (by decide +kernel)) ggX10_begin_X10_isHour
set_option maxRecDepth 20000 in
theorem ggX10_begin_X10_exchange : GoodIn wsX10_begin wsX10_exchange := goodIn_r _ [14] (by decide +kernel) (by decide +kernel)
set_option maxRecDepth 20000 in
theorem gX10_begin_X10_exchange : GoodIn wsX10_begin (va_wsS RX10 83 yX10_exchange wsX10_exchange) := goodIn_app (goodIn_of _ (by decide +kernel)) ggX10_begin_X10_exchange
theorem dX10_begin_0 : decode cX10_begin 0 = .ok (.aload_n 0, 1) := by decide +kernel
theorem dX10_begin_1 : decode cX10_begin 1 = .ok (.getfield 12, 3) := by decide +kernel
theorem dX10_begin_4 : decode cX10_begin 4 = .ok (.iload_n 1, 1) := by decide +kernel
theorem dX10_begin_5 : decode cX10_begin 5 = .ok (.invokevirtual 95, 3) := by decide +kernel
theorem dX10_begin_8 : decode cX10_begin 8 = .ok (.ifCond .ne 5, 3) := by decide +kernel
theorem dX10_begin_11 : decode cX10_begin 11 = .ok (.iconst (-1), 1) := by decide +kernel
theorem dX10_begin_12 : decode cX10_begin 12 = .ok (.ireturn, 1) := by decide +kernel
theorem dX10_begin_13 : decode cX10_begin 13 = .ok (.iload_n 2, 1) := by decide +kernel
theorem dX10_begin_14 : decode cX10_begin 14 = .ok (.invokestatic 212, 3) := by decide +kernel
theorem dX10_begin_17 : decode cX10_begin 17 = .ok (.ifCond .eq 18, 3) := by decide +kernel
theorem dX10_begin_20 : decode cX10_begin 20 = .ok (.aload_n 0, 1) := by decide +kernel
theorem dX10_begin_21 : decode cX10_begin 21 = .ok (.getfield 12, 3) := by decide +kernel
theorem dX10_begin_24 : decode cX10_begin 24 = .ok (.getfield 118, 3) := by decide +kernel
theorem dX10_begin_27 : decode cX10_begin 27 = .ok (.iload_n 1, 1) := by decide +kernel
theorem dX10_begin_28 : decode cX10_begin 28 = .ok (.iload_n 2, 1) := by decide +kernel
theorem dX10_begin_29 : decode cX10_begin 29 = .ok (.invokestatic 83, 3) := by decide +kernel
theorem dX10_begin_32 : decode cX10_begin 32 = .ok (.goto 5, 3) := by decide +kernel
theorem dX10_begin_35 : decode cX10_begin 35 = .ok (.bipush (-2), 2) := by decide +kernel
theorem dX10_begin_37 : decode cX10_begin 37 = .ok (.ireturn, 1) := by decide +kernel
set_option maxRecDepth 20000 in
theorem ggX10_news_X10_isPerson : GoodIn wsX10_news wsX10_isPerson := goodIn_r _ [5] (by decide +kernel) (by decide +kernel)
set_option maxRecDepth 20000 in
theorem gX10_news_X10_isPerson : GoodIn wsX10_news (va_wsS RX10 209 yX10_isPerson wsX10_isPerson) := goodIn_app (goodIn_of _ (by decide +kernel)) ggX10_news_X10_isPerson
set_option maxRecDepth 20000 in
theorem ggX10_news_X10_isHour : GoodIn wsX10_news wsX10_isHour := goodIn_r _ [8] (by decide +kernel) (by decide +kernel)
set_option maxRecDepth 20000 in
theorem gX10_news_X10_isHour : GoodIn wsX10_news (va_wsS RX10 212 yX10_isHour wsX10_isHour) := goodIn_app (goodIn_of _ (by decide +kernel)) ggX10_news_X10_isHour
theorem dX10_news_0 : decode cX10_news 0 = .ok (.iload_n 1, 1) := by decide +kernel
theorem dX10_news_1 : decode cX10_news 1 = .ok (.invokestatic 209, 3) := by decide +kernel
theorem dX10_news_4 : decode cX10_news 4 = .ok (.ifCond .ne 5, 3) := by decide +kernel
theorem dX10_news_7 : decode cX10_news 7 = .ok (.iconst (-1), 1) := by decide +kernel
theorem dX10_news_8 : decode cX10_news 8 = .ok (.ireturn, 1) := by decide +kernel
theorem dX10_news_9 : decode cX10_news 9 = .ok (.iload_n 2, 1) := by decide +kernel
theorem dX10_news_10 : decode cX10_news 10 = .ok (.invokestatic 212, 3) := by decide +kernel
theorem dX10_news_13 : decode cX10_news 13 = .ok (.ifCond .ne 6, 3) := by decide +kernel
theorem dX10_news_16 : decode cX10_news 16 = .ok (.bipush (-2), 2) := by decide +kernel
theorem dX10_news_18 : decode cX10_news 18 = .ok (.ireturn, 1) := by decide +kernel
theorem dX10_news_19 : decode cX10_news 19 = .ok (.aload_n 0, 1) := by decide +kernel
theorem dX10_news_20 : decode cX10_news 20 = .ok (.getfield 26, 3) := by decide +kernel
theorem dX10_news_23 : decode cX10_news 23 = .ok (.iload_n 1, 1) := by decide +kernel
theorem dX10_news_24 : decode cX10_news 24 = .ok (.putfield 227, 3) := by decide +kernel
theorem dX10_news_27 : decode cX10_news 27 = .ok (.aload_n 0, 1) := by decide +kernel
theorem dX10_news_28 : decode cX10_news 28 = .ok (.getfield 26, 3) := by decide +kernel
theorem dX10_news_31 : decode cX10_news 31 = .ok (.iload_n 2, 1) := by decide +kernel
theorem dX10_news_32 : decode cX10_news 32 = .ok (.putfield 230, 3) := by decide +kernel
theorem dX10_news_35 : decode cX10_news 35 = .ok (.iconst 1, 1) := by decide +kernel
theorem dX10_news_36 : decode cX10_news 36 = .ok (.ireturn, 1) := by decide +kernel
set_option maxRecDepth 20000 in
theorem ggX10_explained_X2_has : GoodIn wsX10_explained wsX2_has := goodIn_r _ [8, 9, 56, 57, 58, 59, 60, 61, 62, 63, 64, 65, 66, 67, 68] (by decide +kernel) (by decide +kernel)
set_option maxRecDepth 20000 in
theorem gX10_explained_X2_has : GoodIn wsX10_explained (wsV RX10 95 RX2 yX2_has wsX2_has) := goodIn_app (goodIn_of _ (by decide +kernel)) ggX10_explained_X2_has
set_option maxRecDepth 20000 in
theorem ggX10_explained_X10_within : GoodIn wsX10_explained wsX10_within := goodIn_r _ [13] (by decide +kernel) (by decide +kernel)
set_option maxRecDepth 20000 in
theorem gX10_explained_X10_within : GoodIn wsX10_explained (va_wsS RX10 76 yX10_within wsX10_within) := goodIn_app (goodIn_of _ (by decide +kernel)) ggX10_explained_X10_within
set_option maxRecDepth 20000 in
theorem ggX10_explained_X7_countExplained : GoodIn wsX10_explained wsX7_countExplained := goodIn_r _ [18, 19, 20, 21, 22, 23, 24, 25, 17, 26, 27, 28, 29, 30, 31, 32, 33, 34, 35, 36, 37, 38, 69, 70, 71, 72, 73, 74, 75, 76, 77, 78, 79, 80, 81, 82, 83, 84, 85, 86, 87, 88, 89] (by decide +kernel) (by decide +kernel)
set_option maxRecDepth 20000 in
theorem gX10_explained_X7_countExplained : GoodIn wsX10_explained (wsV RX10 233 RX7 yX7_countExplained wsX7_countExplained) := goodIn_app (goodIn_of _ (by decide +kernel)) ggX10_explained_X7_countExplained
set_option maxRecDepth 20000 in
theorem ggX10_explained_X0_countOn : GoodIn wsX10_explained wsX0_countOn := goodIn_r _ [43, 44, 45, 77, 78, 79, 80, 81, 82, 83, 84, 85, 86, 87, 88, 89] (by decide +kernel) (by decide +kernel)
set_option maxRecDepth 20000 in
theorem gX10_explained_X0_countOn : GoodIn wsX10_explained (wsV RX10 237 RX0 yX0_countOn wsX0_countOn) := goodIn_app (goodIn_of _ (by decide +kernel)) ggX10_explained_X0_countOn
theorem dX10_explained_0 : decode cX10_explained 0 = .ok (.aload_n 0, 1) := by decide +kernel
theorem dX10_explained_1 : decode cX10_explained 1 = .ok (.getfield 12, 3) := by decide +kernel
theorem dX10_explained_4 : decode cX10_explained 4 = .ok (.iload_n 1, 1) := by decide +kernel
theorem dX10_explained_5 : decode cX10_explained 5 = .ok (.invokevirtual 95, 3) := by decide +kernel
theorem dX10_explained_8 : decode cX10_explained 8 = .ok (.ifCond .ne 5, 3) := by decide +kernel
theorem dX10_explained_11 : decode cX10_explained 11 = .ok (.iconst (-1), 1) := by decide +kernel
theorem dX10_explained_12 : decode cX10_explained 12 = .ok (.ireturn, 1) := by decide +kernel
theorem dX10_explained_13 : decode cX10_explained 13 = .ok (.iload_n 2, 1) := by decide +kernel
theorem dX10_explained_14 : decode cX10_explained 14 = .ok (.iconst 0, 1) := by decide +kernel
theorem dX10_explained_15 : decode cX10_explained 15 = .ok (.iconst 1, 1) := by decide +kernel
theorem dX10_explained_16 : decode cX10_explained 16 = .ok (.invokestatic 76, 3) := by decide +kernel
theorem dX10_explained_19 : decode cX10_explained 19 = .ok (.ifCond .ne 6, 3) := by decide +kernel
theorem dX10_explained_22 : decode cX10_explained 22 = .ok (.bipush (-2), 2) := by decide +kernel
theorem dX10_explained_24 : decode cX10_explained 24 = .ok (.ireturn, 1) := by decide +kernel
theorem dX10_explained_25 : decode cX10_explained 25 = .ok (.aload_n 0, 1) := by decide +kernel
theorem dX10_explained_26 : decode cX10_explained 26 = .ok (.getfield 26, 3) := by decide +kernel
theorem dX10_explained_29 : decode cX10_explained 29 = .ok (.iload_n 1, 1) := by decide +kernel
theorem dX10_explained_30 : decode cX10_explained 30 = .ok (.aload_n 0, 1) := by decide +kernel
theorem dX10_explained_31 : decode cX10_explained 31 = .ok (.getfield 12, 3) := by decide +kernel
theorem dX10_explained_34 : decode cX10_explained 34 = .ok (.getfield 118, 3) := by decide +kernel
theorem dX10_explained_37 : decode cX10_explained 37 = .ok (.iload_n 1, 1) := by decide +kernel
theorem dX10_explained_38 : decode cX10_explained 38 = .ok (.iaload, 1) := by decide +kernel
theorem dX10_explained_39 : decode cX10_explained 39 = .ok (.aload_n 0, 1) := by decide +kernel
theorem dX10_explained_40 : decode cX10_explained 40 = .ok (.getfield 19, 3) := by decide +kernel
theorem dX10_explained_43 : decode cX10_explained 43 = .ok (.invokevirtual 233, 3) := by decide +kernel
theorem dX10_explained_46 : decode cX10_explained 46 = .ok (.istore_n 3, 1) := by decide +kernel
theorem dX10_explained_47 : decode cX10_explained 47 = .ok (.iload_n 2, 1) := by decide +kernel
theorem dX10_explained_48 : decode cX10_explained 48 = .ok (.ifCond .ne 7, 3) := by decide +kernel
theorem dX10_explained_51 : decode cX10_explained 51 = .ok (.iload_n 3, 1) := by decide +kernel
theorem dX10_explained_52 : decode cX10_explained 52 = .ok (.goto 13, 3) := by decide +kernel
theorem dX10_explained_55 : decode cX10_explained 55 = .ok (.aload_n 0, 1) := by decide +kernel
theorem dX10_explained_56 : decode cX10_explained 56 = .ok (.getfield 19, 3) := by decide +kernel
theorem dX10_explained_59 : decode cX10_explained 59 = .ok (.iload_n 1, 1) := by decide +kernel
theorem dX10_explained_60 : decode cX10_explained 60 = .ok (.invokevirtual 237, 3) := by decide +kernel
theorem dX10_explained_63 : decode cX10_explained 63 = .ok (.iload_n 3, 1) := by decide +kernel
theorem dX10_explained_64 : decode cX10_explained 64 = .ok (.isub, 1) := by decide +kernel
theorem dX10_explained_65 : decode cX10_explained 65 = .ok (.ireturn, 1) := by decide +kernel
set_option maxRecDepth 20000 in
theorem ggX10_moves_X10_isPlayer : GoodIn wsX10_moves wsX10_isPlayer := goodIn_r _ [5] (by decide +kernel) (by decide +kernel)
set_option maxRecDepth 20000 in
theorem gX10_moves_X10_isPlayer : GoodIn wsX10_moves (va_wsS RX10 240 yX10_isPlayer wsX10_isPlayer) := goodIn_app (goodIn_of _ (by decide +kernel)) ggX10_moves_X10_isPlayer
set_option maxRecDepth 20000 in
theorem ggX10_moves_X10_within : GoodIn wsX10_moves wsX10_within := goodIn_r _ [8] (by decide +kernel) (by decide +kernel)
set_option maxRecDepth 20000 in
theorem gX10_moves_X10_within : GoodIn wsX10_moves (va_wsS RX10 76 yX10_within wsX10_within) := goodIn_app (goodIn_of _ (by decide +kernel)) ggX10_moves_X10_within
theorem dX10_moves_0 : decode cX10_moves 0 = .ok (.iload_n 1, 1) := by decide +kernel
theorem dX10_moves_1 : decode cX10_moves 1 = .ok (.invokestatic 240, 3) := by decide +kernel
theorem dX10_moves_4 : decode cX10_moves 4 = .ok (.ifCond .ne 5, 3) := by decide +kernel
theorem dX10_moves_7 : decode cX10_moves 7 = .ok (.iconst (-1), 1) := by decide +kernel
theorem dX10_moves_8 : decode cX10_moves 8 = .ok (.ireturn, 1) := by decide +kernel
theorem dX10_moves_9 : decode cX10_moves 9 = .ok (.iload_n 2, 1) := by decide +kernel
theorem dX10_moves_10 : decode cX10_moves 10 = .ok (.iconst 0, 1) := by decide +kernel
theorem dX10_moves_11 : decode cX10_moves 11 = .ok (.sipush 200, 3) := by decide +kernel
theorem dX10_moves_14 : decode cX10_moves 14 = .ok (.invokestatic 76, 3) := by decide +kernel
theorem dX10_moves_17 : decode cX10_moves 17 = .ok (.ifCond .eq 12, 3) := by decide +kernel
theorem dX10_moves_20 : decode cX10_moves 20 = .ok (.iload_n 3, 1) := by decide +kernel
theorem dX10_moves_21 : decode cX10_moves 21 = .ok (.iconst 0, 1) := by decide +kernel
theorem dX10_moves_22 : decode cX10_moves 22 = .ok (.iload_n 2, 1) := by decide +kernel
theorem dX10_moves_23 : decode cX10_moves 23 = .ok (.invokestatic 76, 3) := by decide +kernel
theorem dX10_moves_26 : decode cX10_moves 26 = .ok (.ifCond .ne 6, 3) := by decide +kernel
theorem dX10_moves_29 : decode cX10_moves 29 = .ok (.bipush (-2), 2) := by decide +kernel
theorem dX10_moves_31 : decode cX10_moves 31 = .ok (.ireturn, 1) := by decide +kernel
theorem dX10_moves_32 : decode cX10_moves 32 = .ok (.aload_n 0, 1) := by decide +kernel
theorem dX10_moves_33 : decode cX10_moves 33 = .ok (.getfield 33, 3) := by decide +kernel
theorem dX10_moves_36 : decode cX10_moves 36 = .ok (.getfield 243, 3) := by decide +kernel
theorem dX10_moves_39 : decode cX10_moves 39 = .ok (.iload_n 1, 1) := by decide +kernel
theorem dX10_moves_40 : decode cX10_moves 40 = .ok (.iload_n 2, 1) := by decide +kernel
theorem dX10_moves_41 : decode cX10_moves 41 = .ok (.iastore, 1) := by decide +kernel
theorem dX10_moves_42 : decode cX10_moves 42 = .ok (.aload_n 0, 1) := by decide +kernel
theorem dX10_moves_43 : decode cX10_moves 43 = .ok (.getfield 33, 3) := by decide +kernel
theorem dX10_moves_46 : decode cX10_moves 46 = .ok (.getfield 246, 3) := by decide +kernel
theorem dX10_moves_49 : decode cX10_moves 49 = .ok (.iload_n 1, 1) := by decide +kernel
theorem dX10_moves_50 : decode cX10_moves 50 = .ok (.iload_n 3, 1) := by decide +kernel
theorem dX10_moves_51 : decode cX10_moves 51 = .ok (.iastore, 1) := by decide +kernel
theorem dX10_moves_52 : decode cX10_moves 52 = .ok (.iconst 1, 1) := by decide +kernel
theorem dX10_moves_53 : decode cX10_moves 53 = .ok (.ireturn, 1) := by decide +kernel
set_option maxRecDepth 20000 in
theorem ggX10_late_X10_isPlayer : GoodIn wsX10_late wsX10_isPlayer := goodIn_r _ [8] (by decide +kernel) (by decide +kernel)
set_option maxRecDepth 20000 in
theorem gX10_late_X10_isPlayer : GoodIn wsX10_late (va_wsS RX10 240 yX10_isPlayer wsX10_isPlayer) := goodIn_app (goodIn_of _ (by decide +kernel)) ggX10_late_X10_isPlayer
set_option maxRecDepth 20000 in
theorem ggX10_late_X10_within : GoodIn wsX10_late wsX10_within := goodIn_r _ [11] (by decide +kernel) (by decide +kernel)
set_option maxRecDepth 20000 in
theorem gX10_late_X10_within : GoodIn wsX10_late (va_wsS RX10 76 yX10_within wsX10_within) := goodIn_app (goodIn_of _ (by decide +kernel)) ggX10_late_X10_within
set_option maxRecDepth 20000 in
theorem ggX10_late_X8_weighLate : GoodIn wsX10_late wsX8_weighLate := goodIn_r _ [16, 17, 18, 19, 20, 21, 22, 23, 24, 25, 26, 27, 28, 29, 30, 31, 32, 47, 48, 49, 50, 51, 52, 53, 54, 55, 56] (by decide +kernel) (by decide +kernel)
set_option maxRecDepth 20000 in
theorem gX10_late_X8_weighLate : GoodIn wsX10_late (wsV RX10 251 RX8 yX8_weighLate wsX8_weighLate) := goodIn_app (goodIn_of _ (by decide +kernel)) ggX10_late_X8_weighLate
set_option maxRecDepth 20000 in
theorem ggX10_late_X4_inLowestTerms : GoodIn wsX10_late wsX4_inLowestTerms := goodIn_r _ [36, 26, 28, 54, 55, 56] (by decide +kernel) (by decide +kernel)
set_option maxRecDepth 20000 in
theorem gX10_late_X4_inLowestTerms : GoodIn wsX10_late (wsV RX10 136 RX4 yX4_inLowestTerms wsX4_inLowestTerms) := goodIn_app (goodIn_of _ (by decide +kernel)) ggX10_late_X4_inLowestTerms
theorem dX10_late_0 : decode cX10_late 0 = .ok (.iload_n 1, 1) := by decide +kernel
theorem dX10_late_1 : decode cX10_late 1 = .ok (.invokestatic 240, 3) := by decide +kernel
theorem dX10_late_4 : decode cX10_late 4 = .ok (.ifCond .ne 7, 3) := by decide +kernel
theorem dX10_late_7 : decode cX10_late 7 = .ok (.ldc2_w 124, 3) := by decide +kernel
theorem dX10_late_10 : decode cX10_late 10 = .ok (.lreturn, 1) := by decide +kernel
theorem dX10_late_11 : decode cX10_late 11 = .ok (.iload_n 2, 1) := by decide +kernel
theorem dX10_late_12 : decode cX10_late 12 = .ok (.iconst 1, 1) := by decide +kernel
theorem dX10_late_13 : decode cX10_late 13 = .ok (.bipush 19, 2) := by decide +kernel
theorem dX10_late_15 : decode cX10_late 15 = .ok (.invokestatic 76, 3) := by decide +kernel
theorem dX10_late_18 : decode cX10_late 18 = .ok (.ifCond .eq 12, 3) := by decide +kernel
theorem dX10_late_21 : decode cX10_late 21 = .ok (.iload_n 3, 1) := by decide +kernel
theorem dX10_late_22 : decode cX10_late 22 = .ok (.iconst 0, 1) := by decide +kernel
theorem dX10_late_23 : decode cX10_late 23 = .ok (.iconst 1, 1) := by decide +kernel
theorem dX10_late_24 : decode cX10_late 24 = .ok (.invokestatic 76, 3) := by decide +kernel
theorem dX10_late_27 : decode cX10_late 27 = .ok (.ifCond .ne 7, 3) := by decide +kernel
theorem dX10_late_30 : decode cX10_late 30 = .ok (.ldc2_w 126, 3) := by decide +kernel
theorem dX10_late_33 : decode cX10_late 33 = .ok (.lreturn, 1) := by decide +kernel
theorem dX10_late_34 : decode cX10_late 34 = .ok (.aload_n 0, 1) := by decide +kernel
theorem dX10_late_35 : decode cX10_late 35 = .ok (.getfield 33, 3) := by decide +kernel
theorem dX10_late_38 : decode cX10_late 38 = .ok (.getfield 243, 3) := by decide +kernel
theorem dX10_late_41 : decode cX10_late 41 = .ok (.iload_n 1, 1) := by decide +kernel
theorem dX10_late_42 : decode cX10_late 42 = .ok (.iaload, 1) := by decide +kernel
theorem dX10_late_43 : decode cX10_late 43 = .ok (.ifCond .ne 7, 3) := by decide +kernel
theorem dX10_late_46 : decode cX10_late 46 = .ok (.ldc2_w 249, 3) := by decide +kernel
theorem dX10_late_49 : decode cX10_late 49 = .ok (.lreturn, 1) := by decide +kernel
theorem dX10_late_50 : decode cX10_late 50 = .ok (.aload_n 0, 1) := by decide +kernel
theorem dX10_late_51 : decode cX10_late 51 = .ok (.getfield 33, 3) := by decide +kernel
theorem dX10_late_54 : decode cX10_late 54 = .ok (.iload_n 1, 1) := by decide +kernel
theorem dX10_late_55 : decode cX10_late 55 = .ok (.iload_n 2, 1) := by decide +kernel
theorem dX10_late_56 : decode cX10_late 56 = .ok (.invokevirtual 251, 3) := by decide +kernel
theorem dX10_late_59 : decode cX10_late 59 = .ok (.aload_n 0, 1) := by decide +kernel
theorem dX10_late_60 : decode cX10_late 60 = .ok (.getfield 33, 3) := by decide +kernel
theorem dX10_late_63 : decode cX10_late 63 = .ok (.getfield 254, 3) := by decide +kernel
theorem dX10_late_66 : decode cX10_late 66 = .ok (.iload_n 3, 1) := by decide +kernel
theorem dX10_late_67 : decode cX10_late 67 = .ok (.invokevirtual 136, 3) := by decide +kernel
theorem dX10_late_70 : decode cX10_late 70 = .ok (.lreturn, 1) := by decide +kernel
set_option maxRecDepth 20000 in
theorem ggX10_debts_X10_isPlayer : GoodIn wsX10_debts wsX10_isPlayer := goodIn_r _ [5] (by decide +kernel) (by decide +kernel)
set_option maxRecDepth 20000 in
theorem gX10_debts_X10_isPlayer : GoodIn wsX10_debts (va_wsS RX10 240 yX10_isPlayer wsX10_isPlayer) := goodIn_app (goodIn_of _ (by decide +kernel)) ggX10_debts_X10_isPlayer
set_option maxRecDepth 20000 in
theorem ggX10_debts_X10_within : GoodIn wsX10_debts wsX10_within := goodIn_r _ [8] (by decide +kernel) (by decide +kernel)
set_option maxRecDepth 20000 in
theorem gX10_debts_X10_within : GoodIn wsX10_debts (va_wsS RX10 76 yX10_within wsX10_within) := goodIn_app (goodIn_of _ (by decide +kernel)) ggX10_debts_X10_within
set_option maxRecDepth 20000 in
theorem ggX10_debts_X10_exchange : GoodIn wsX10_debts wsX10_exchange := goodIn_r _ [11] (by decide +kernel) (by decide +kernel)
set_option maxRecDepth 20000 in
theorem gX10_debts_X10_exchange : GoodIn wsX10_debts (va_wsS RX10 83 yX10_exchange wsX10_exchange) := goodIn_app (goodIn_of _ (by decide +kernel)) ggX10_debts_X10_exchange
theorem dX10_debts_0 : decode cX10_debts 0 = .ok (.iload_n 1, 1) := by decide +kernel
theorem dX10_debts_1 : decode cX10_debts 1 = .ok (.invokestatic 240, 3) := by decide +kernel
theorem dX10_debts_4 : decode cX10_debts 4 = .ok (.ifCond .ne 5, 3) := by decide +kernel
theorem dX10_debts_7 : decode cX10_debts 7 = .ok (.iconst (-1), 1) := by decide +kernel
theorem dX10_debts_8 : decode cX10_debts 8 = .ok (.ireturn, 1) := by decide +kernel
theorem dX10_debts_9 : decode cX10_debts 9 = .ok (.iload_n 2, 1) := by decide +kernel
theorem dX10_debts_10 : decode cX10_debts 10 = .ok (.iconst 0, 1) := by decide +kernel
theorem dX10_debts_11 : decode cX10_debts 11 = .ok (.sipush 1000, 3) := by decide +kernel
theorem dX10_debts_14 : decode cX10_debts 14 = .ok (.invokestatic 76, 3) := by decide +kernel
theorem dX10_debts_17 : decode cX10_debts 17 = .ok (.ifCond .eq 18, 3) := by decide +kernel
theorem dX10_debts_20 : decode cX10_debts 20 = .ok (.aload_n 0, 1) := by decide +kernel
theorem dX10_debts_21 : decode cX10_debts 21 = .ok (.getfield 33, 3) := by decide +kernel
theorem dX10_debts_24 : decode cX10_debts 24 = .ok (.getfield 255, 3) := by decide +kernel
theorem dX10_debts_27 : decode cX10_debts 27 = .ok (.iload_n 1, 1) := by decide +kernel
theorem dX10_debts_28 : decode cX10_debts 28 = .ok (.iload_n 2, 1) := by decide +kernel
theorem dX10_debts_29 : decode cX10_debts 29 = .ok (.invokestatic 83, 3) := by decide +kernel
theorem dX10_debts_32 : decode cX10_debts 32 = .ok (.goto 5, 3) := by decide +kernel
theorem dX10_debts_35 : decode cX10_debts 35 = .ok (.bipush (-2), 2) := by decide +kernel
theorem dX10_debts_37 : decode cX10_debts 37 = .ok (.ireturn, 1) := by decide +kernel
set_option maxRecDepth 20000 in
theorem ggX10_act_X2_has : GoodIn wsX10_act wsX2_has := goodIn_r _ [7, 8, 38, 39, 40, 41, 42, 43, 44, 45, 46, 47, 48, 49, 50] (by decide +kernel) (by decide +kernel)
set_option maxRecDepth 20000 in
theorem gX10_act_X2_has : GoodIn wsX10_act (wsV RX10 95 RX2 yX2_has wsX2_has) := goodIn_app (goodIn_of _ (by decide +kernel)) ggX10_act_X2_has
set_option maxRecDepth 20000 in
theorem ggX10_act_X10_within : GoodIn wsX10_act wsX10_within := goodIn_r _ [12] (by decide +kernel) (by decide +kernel)
set_option maxRecDepth 20000 in
theorem gX10_act_X10_within : GoodIn wsX10_act (va_wsS RX10 76 yX10_within wsX10_within) := goodIn_app (goodIn_of _ (by decide +kernel)) ggX10_act_X10_within
set_option maxRecDepth 20000 in
theorem ggX10_act_X8_addAct : GoodIn wsX10_act wsX8_addAct := goodIn_r _ [17, 18, 19, 20, 31, 32, 33, 34, 35, 36, 37] (by decide +kernel) (by decide +kernel)
set_option maxRecDepth 20000 in
theorem gX10_act_X8_addAct : GoodIn wsX10_act (wsV RX10 261 RX8 yX8_addAct wsX8_addAct) := goodIn_app (goodIn_of _ (by decide +kernel)) ggX10_act_X8_addAct
theorem dX10_act_0 : decode cX10_act 0 = .ok (.aload_n 0, 1) := by decide +kernel
theorem dX10_act_1 : decode cX10_act 1 = .ok (.getfield 12, 3) := by decide +kernel
theorem dX10_act_4 : decode cX10_act 4 = .ok (.iload_n 1, 1) := by decide +kernel
theorem dX10_act_5 : decode cX10_act 5 = .ok (.invokevirtual 95, 3) := by decide +kernel
theorem dX10_act_8 : decode cX10_act 8 = .ok (.ifCond .ne 5, 3) := by decide +kernel
theorem dX10_act_11 : decode cX10_act 11 = .ok (.iconst (-1), 1) := by decide +kernel
theorem dX10_act_12 : decode cX10_act 12 = .ok (.ireturn, 1) := by decide +kernel
theorem dX10_act_13 : decode cX10_act 13 = .ok (.iload_n 2, 1) := by decide +kernel
theorem dX10_act_14 : decode cX10_act 14 = .ok (.iconst 1, 1) := by decide +kernel
theorem dX10_act_15 : decode cX10_act 15 = .ok (.sipush 1023, 3) := by decide +kernel
theorem dX10_act_18 : decode cX10_act 18 = .ok (.invokestatic 76, 3) := by decide +kernel
theorem dX10_act_21 : decode cX10_act 21 = .ok (.ifCond .ne 6, 3) := by decide +kernel
theorem dX10_act_24 : decode cX10_act 24 = .ok (.bipush (-2), 2) := by decide +kernel
theorem dX10_act_26 : decode cX10_act 26 = .ok (.ireturn, 1) := by decide +kernel
theorem dX10_act_27 : decode cX10_act 27 = .ok (.aload_n 0, 1) := by decide +kernel
theorem dX10_act_28 : decode cX10_act 28 = .ok (.getfield 33, 3) := by decide +kernel
theorem dX10_act_31 : decode cX10_act 31 = .ok (.getfield 258, 3) := by decide +kernel
theorem dX10_act_34 : decode cX10_act 34 = .ok (.bipush 12, 2) := by decide +kernel
theorem dX10_act_36 : decode cX10_act 36 = .ok (.if_icmp .ge 15, 3) := by decide +kernel
theorem dX10_act_39 : decode cX10_act 39 = .ok (.aload_n 0, 1) := by decide +kernel
theorem dX10_act_40 : decode cX10_act 40 = .ok (.getfield 33, 3) := by decide +kernel
theorem dX10_act_43 : decode cX10_act 43 = .ok (.iload_n 1, 1) := by decide +kernel
theorem dX10_act_44 : decode cX10_act 44 = .ok (.iload_n 2, 1) := by decide +kernel
theorem dX10_act_45 : decode cX10_act 45 = .ok (.invokevirtual 261, 3) := by decide +kernel
theorem dX10_act_48 : decode cX10_act 48 = .ok (.goto 5, 3) := by decide +kernel
theorem dX10_act_51 : decode cX10_act 51 = .ok (.bipush (-4), 2) := by decide +kernel
theorem dX10_act_53 : decode cX10_act 53 = .ok (.ireturn, 1) := by decide +kernel
set_option maxRecDepth 20000 in
theorem ggX10_needed_X2_has : GoodIn wsX10_needed wsX2_has := goodIn_r _ [7, 8, 48, 49, 50, 51, 52, 53, 54, 55, 56, 57, 58, 59, 60] (by decide +kernel) (by decide +kernel)
set_option maxRecDepth 20000 in
theorem gX10_needed_X2_has : GoodIn wsX10_needed (wsV RX10 95 RX2 yX2_has wsX2_has) := goodIn_app (goodIn_of _ (by decide +kernel)) ggX10_needed_X2_has
set_option maxRecDepth 20000 in
theorem ggX10_needed_X8_fewestFor : GoodIn wsX10_needed wsX8_fewestFor := goodIn_r _ [13, 14, 15, 16, 12, 17, 18, 19, 20, 21, 22, 23, 24, 25, 26, 27, 28, 29, 30, 31, 32, 61, 62, 63, 64, 65, 66, 67] (by decide +kernel) (by decide +kernel)
set_option maxRecDepth 20000 in
theorem gX10_needed_X8_fewestFor : GoodIn wsX10_needed (wsV RX10 264 RX8 yX8_fewestFor wsX8_fewestFor) := goodIn_app (goodIn_of _ (by decide +kernel)) ggX10_needed_X8_fewestFor
set_option maxRecDepth 20000 in
theorem ggX10_needed_X8_priceOf : GoodIn wsX10_needed wsX8_priceOf := goodIn_r _ [17, 18, 61, 62, 63, 64, 65, 66, 67] (by decide +kernel) (by decide +kernel)
set_option maxRecDepth 20000 in
theorem gX10_needed_X8_priceOf : GoodIn wsX10_needed (wsV RX10 267 RX8 yX8_priceOf wsX8_priceOf) := goodIn_app (goodIn_of _ (by decide +kernel)) ggX10_needed_X8_priceOf
set_option maxRecDepth 20000 in
theorem ggX10_needed_X8_mustFor : GoodIn wsX10_needed wsX8_mustFor := goodIn_r _ [37, 30, 31, 32, 19, 20, 21, 22, 23, 24, 25, 61, 62, 63, 64, 65, 66, 67] (by decide +kernel) (by decide +kernel)
set_option maxRecDepth 20000 in
theorem gX10_needed_X8_mustFor : GoodIn wsX10_needed (wsV RX10 270 RX8 yX8_mustFor wsX8_mustFor) := goodIn_app (goodIn_of _ (by decide +kernel)) ggX10_needed_X8_mustFor
theorem dX10_needed_0 : decode cX10_needed 0 = .ok (.aload_n 0, 1) := by decide +kernel
theorem dX10_needed_1 : decode cX10_needed 1 = .ok (.getfield 12, 3) := by decide +kernel
theorem dX10_needed_4 : decode cX10_needed 4 = .ok (.iload_n 1, 1) := by decide +kernel
theorem dX10_needed_5 : decode cX10_needed 5 = .ok (.invokevirtual 95, 3) := by decide +kernel
theorem dX10_needed_8 : decode cX10_needed 8 = .ok (.ifCond .ne 5, 3) := by decide +kernel
theorem dX10_needed_11 : decode cX10_needed 11 = .ok (.iconst (-1), 1) := by decide +kernel
theorem dX10_needed_12 : decode cX10_needed 12 = .ok (.ireturn, 1) := by decide +kernel
theorem dX10_needed_13 : decode cX10_needed 13 = .ok (.iload_n 2, 1) := by decide +kernel
theorem dX10_needed_14 : decode cX10_needed 14 = .ok (.tableswitch 60 0 2 #[26, 35, 51], 26) := by decide +kernel
theorem dX10_needed_40 : decode cX10_needed 40 = .ok (.aload_n 0, 1) := by decide +kernel
theorem dX10_needed_41 : decode cX10_needed 41 = .ok (.getfield 33, 3) := by decide +kernel
theorem dX10_needed_44 : decode cX10_needed 44 = .ok (.iload_n 1, 1) := by decide +kernel
theorem dX10_needed_45 : decode cX10_needed 45 = .ok (.invokevirtual 264, 3) := by decide +kernel
theorem dX10_needed_48 : decode cX10_needed 48 = .ok (.ireturn, 1) := by decide +kernel
theorem dX10_needed_49 : decode cX10_needed 49 = .ok (.aload_n 0, 1) := by decide +kernel
theorem dX10_needed_50 : decode cX10_needed 50 = .ok (.getfield 33, 3) := by decide +kernel
theorem dX10_needed_53 : decode cX10_needed 53 = .ok (.aload_n 0, 1) := by decide +kernel
theorem dX10_needed_54 : decode cX10_needed 54 = .ok (.getfield 33, 3) := by decide +kernel
theorem dX10_needed_57 : decode cX10_needed 57 = .ok (.iload_n 1, 1) := by decide +kernel
theorem dX10_needed_58 : decode cX10_needed 58 = .ok (.invokevirtual 264, 3) := by decide +kernel
theorem dX10_needed_61 : decode cX10_needed 61 = .ok (.invokevirtual 267, 3) := by decide +kernel
theorem dX10_needed_64 : decode cX10_needed 64 = .ok (.ireturn, 1) := by decide +kernel
theorem dX10_needed_65 : decode cX10_needed 65 = .ok (.aload_n 0, 1) := by decide +kernel
theorem dX10_needed_66 : decode cX10_needed 66 = .ok (.getfield 33, 3) := by decide +kernel
theorem dX10_needed_69 : decode cX10_needed 69 = .ok (.iload_n 1, 1) := by decide +kernel
theorem dX10_needed_70 : decode cX10_needed 70 = .ok (.invokevirtual 270, 3) := by decide +kernel
theorem dX10_needed_73 : decode cX10_needed 73 = .ok (.ireturn, 1) := by decide +kernel
theorem dX10_needed_74 : decode cX10_needed 74 = .ok (.bipush (-2), 2) := by decide +kernel
theorem dX10_needed_76 : decode cX10_needed 76 = .ok (.ireturn, 1) := by decide +kernel
set_option maxRecDepth 20000 in
theorem ggX10_joined_X2_has : GoodIn wsX10_joined wsX2_has := goodIn_r _ [8, 9, 83, 84, 85, 86, 87, 88, 89, 90, 91, 92, 93, 94, 95] (by decide +kernel) (by decide +kernel)
set_option maxRecDepth 20000 in
theorem gX10_joined_X2_has : GoodIn wsX10_joined (wsV RX10 95 RX2 yX2_has wsX2_has) := goodIn_app (goodIn_of _ (by decide +kernel)) ggX10_joined_X2_has
set_option maxRecDepth 20000 in
theorem ggX10_joined_X3_build : GoodIn wsX10_joined wsX3_build := goodIn_r _ [14, 15, 16, 17, 18, 19, 20, 21, 22, 23, 24, 25, 26, 27, 28, 29, 30, 31, 32, 33, 34, 35, 36, 37, 38, 39, 40, 41, 42, 43, 44, 45, 46, 47, 48, 49, 50, 51, 52, 53, 54, 55, 56, 57, 58, 59, 60, 61, 62, 63, 64, 13, 65, 83, 84, 85, 86, 87, 88, 89, 90, 91, 92, 93, 94, 95, 96, 97, 98, 99, 100, 101, 102, 103, 104, 105, 106, 107, 108, 109, 110, 111] (by decide +kernel) (by decide +kernel)
set_option maxRecDepth 20000 in
theorem gX10_joined_X3_build : GoodIn wsX10_joined (wsV RX10 273 RX3 yX3_build wsX3_build) := goodIn_app (goodIn_of _ (by decide +kernel)) ggX10_joined_X3_build
set_option maxRecDepth 20000 in
theorem ggX10_joined_X3_areLinked : GoodIn wsX10_joined wsX3_areLinked := goodIn_r _ [69, 16, 96, 97, 98] (by decide +kernel) (by decide +kernel)
set_option maxRecDepth 20000 in
theorem gX10_joined_X3_areLinked : GoodIn wsX10_joined (wsV RX10 277 RX3 yX3_areLinked wsX3_areLinked) := goodIn_app (goodIn_of _ (by decide +kernel)) ggX10_joined_X3_areLinked
set_option maxRecDepth 20000 in
theorem ggX10_joined_X10_asNumber : GoodIn wsX10_joined wsX10_asNumber := goodIn_r _ [72] (by decide +kernel) (by decide +kernel)
set_option maxRecDepth 20000 in
theorem gX10_joined_X10_asNumber : GoodIn wsX10_joined (va_wsS RX10 199 yX10_asNumber wsX10_asNumber) := goodIn_app (goodIn_of _ (by decide +kernel)) ggX10_joined_X10_asNumber
theorem dX10_joined_0 : decode cX10_joined 0 = .ok (.aload_n 0, 1) := by decide +kernel
theorem dX10_joined_1 : decode cX10_joined 1 = .ok (.getfield 12, 3) := by decide +kernel
theorem dX10_joined_4 : decode cX10_joined 4 = .ok (.iload_n 1, 1) := by decide +kernel
theorem dX10_joined_5 : decode cX10_joined 5 = .ok (.invokevirtual 95, 3) := by decide +kernel
theorem dX10_joined_8 : decode cX10_joined 8 = .ok (.ifCond .eq 14, 3) := by decide +kernel
theorem dX10_joined_11 : decode cX10_joined 11 = .ok (.aload_n 0, 1) := by decide +kernel
theorem dX10_joined_12 : decode cX10_joined 12 = .ok (.getfield 12, 3) := by decide +kernel
theorem dX10_joined_15 : decode cX10_joined 15 = .ok (.iload_n 2, 1) := by decide +kernel
theorem dX10_joined_16 : decode cX10_joined 16 = .ok (.invokevirtual 95, 3) := by decide +kernel
theorem dX10_joined_19 : decode cX10_joined 19 = .ok (.ifCond .ne 5, 3) := by decide +kernel
theorem dX10_joined_22 : decode cX10_joined 22 = .ok (.iconst (-1), 1) := by decide +kernel
theorem dX10_joined_23 : decode cX10_joined 23 = .ok (.ireturn, 1) := by decide +kernel
theorem dX10_joined_24 : decode cX10_joined 24 = .ok (.aload_n 0, 1) := by decide +kernel
theorem dX10_joined_25 : decode cX10_joined 25 = .ok (.getfield 40, 3) := by decide +kernel
theorem dX10_joined_28 : decode cX10_joined 28 = .ok (.aload_n 0, 1) := by decide +kernel
theorem dX10_joined_29 : decode cX10_joined 29 = .ok (.getfield 12, 3) := by decide +kernel
theorem dX10_joined_32 : decode cX10_joined 32 = .ok (.aload_n 0, 1) := by decide +kernel
theorem dX10_joined_33 : decode cX10_joined 33 = .ok (.getfield 19, 3) := by decide +kernel
theorem dX10_joined_36 : decode cX10_joined 36 = .ok (.invokevirtual 273, 3) := by decide +kernel
theorem dX10_joined_39 : decode cX10_joined 39 = .ok (.aload_n 0, 1) := by decide +kernel
theorem dX10_joined_40 : decode cX10_joined 40 = .ok (.getfield 40, 3) := by decide +kernel
theorem dX10_joined_43 : decode cX10_joined 43 = .ok (.iload_n 1, 1) := by decide +kernel
theorem dX10_joined_44 : decode cX10_joined 44 = .ok (.iload_n 2, 1) := by decide +kernel
theorem dX10_joined_45 : decode cX10_joined 45 = .ok (.invokevirtual 277, 3) := by decide +kernel
theorem dX10_joined_48 : decode cX10_joined 48 = .ok (.invokestatic 199, 3) := by decide +kernel
theorem dX10_joined_51 : decode cX10_joined 51 = .ok (.ireturn, 1) := by decide +kernel
set_option maxRecDepth 20000 in
theorem ggX10_ring_X2_has : GoodIn wsX10_ring wsX2_has := goodIn_r _ [8, 9, 83, 84, 85, 86, 87, 88, 89, 90, 91, 92, 93, 94, 95] (by decide +kernel) (by decide +kernel)
set_option maxRecDepth 20000 in
theorem gX10_ring_X2_has : GoodIn wsX10_ring (wsV RX10 95 RX2 yX2_has wsX2_has) := goodIn_app (goodIn_of _ (by decide +kernel)) ggX10_ring_X2_has
set_option maxRecDepth 20000 in
theorem ggX10_ring_X3_build : GoodIn wsX10_ring wsX3_build := goodIn_r _ [14, 15, 16, 17, 18, 19, 20, 21, 22, 23, 24, 25, 26, 27, 28, 29, 30, 31, 32, 33, 34, 35, 36, 37, 38, 39, 40, 41, 42, 43, 44, 45, 46, 47, 48, 49, 50, 51, 52, 53, 54, 55, 56, 57, 58, 59, 60, 61, 62, 63, 64, 13, 65, 83, 84, 85, 86, 87, 88, 89, 90, 91, 92, 93, 94, 95, 80, 81, 82, 96, 97, 98, 99, 100, 101, 102, 103, 104, 105, 106, 107, 108] (by decide +kernel) (by decide +kernel)
set_option maxRecDepth 20000 in
theorem gX10_ring_X3_build : GoodIn wsX10_ring (wsV RX10 273 RX3 yX3_build wsX3_build) := goodIn_app (goodIn_of _ (by decide +kernel)) ggX10_ring_X3_build
set_option maxRecDepth 20000 in
theorem ggX10_ring_X3_close : GoodIn wsX10_ring wsX3_close := goodIn_r _ [69, 16, 15, 56, 57, 58, 80, 81, 82] (by decide +kernel) (by decide +kernel)
set_option maxRecDepth 20000 in
theorem gX10_ring_X3_close : GoodIn wsX10_ring (wsV RX10 280 RX3 yX3_close wsX3_close) := goodIn_app (goodIn_of _ (by decide +kernel)) ggX10_ring_X3_close
theorem dX10_ring_0 : decode cX10_ring 0 = .ok (.aload_n 0, 1) := by decide +kernel
theorem dX10_ring_1 : decode cX10_ring 1 = .ok (.getfield 12, 3) := by decide +kernel
theorem dX10_ring_4 : decode cX10_ring 4 = .ok (.iload_n 1, 1) := by decide +kernel
theorem dX10_ring_5 : decode cX10_ring 5 = .ok (.invokevirtual 95, 3) := by decide +kernel
theorem dX10_ring_8 : decode cX10_ring 8 = .ok (.ifCond .ne 5, 3) := by decide +kernel
theorem dX10_ring_11 : decode cX10_ring 11 = .ok (.iconst (-1), 1) := by decide +kernel
theorem dX10_ring_12 : decode cX10_ring 12 = .ok (.ireturn, 1) := by decide +kernel
theorem dX10_ring_13 : decode cX10_ring 13 = .ok (.aload_n 0, 1) := by decide +kernel
theorem dX10_ring_14 : decode cX10_ring 14 = .ok (.getfield 40, 3) := by decide +kernel
theorem dX10_ring_17 : decode cX10_ring 17 = .ok (.aload_n 0, 1) := by decide +kernel
theorem dX10_ring_18 : decode cX10_ring 18 = .ok (.getfield 12, 3) := by decide +kernel
theorem dX10_ring_21 : decode cX10_ring 21 = .ok (.aload_n 0, 1) := by decide +kernel
theorem dX10_ring_22 : decode cX10_ring 22 = .ok (.getfield 19, 3) := by decide +kernel
theorem dX10_ring_25 : decode cX10_ring 25 = .ok (.invokevirtual 273, 3) := by decide +kernel
theorem dX10_ring_28 : decode cX10_ring 28 = .ok (.aload_n 0, 1) := by decide +kernel
theorem dX10_ring_29 : decode cX10_ring 29 = .ok (.getfield 40, 3) := by decide +kernel
theorem dX10_ring_32 : decode cX10_ring 32 = .ok (.invokevirtual 280, 3) := by decide +kernel
theorem dX10_ring_35 : decode cX10_ring 35 = .ok (.aload_n 0, 1) := by decide +kernel
theorem dX10_ring_36 : decode cX10_ring 36 = .ok (.getfield 40, 3) := by decide +kernel
theorem dX10_ring_39 : decode cX10_ring 39 = .ok (.getfield 283, 3) := by decide +kernel
theorem dX10_ring_42 : decode cX10_ring 42 = .ok (.iload_n 1, 1) := by decide +kernel
theorem dX10_ring_43 : decode cX10_ring 43 = .ok (.iaload, 1) := by decide +kernel
theorem dX10_ring_44 : decode cX10_ring 44 = .ok (.ireturn, 1) := by decide +kernel
set_option maxRecDepth 20000 in
theorem ggX10_holds_X2_has : GoodIn wsX10_holds wsX2_has := goodIn_r _ [8, 9, 91, 92, 93, 94, 95, 96, 97, 98, 99, 100, 101, 102, 103] (by decide +kernel) (by decide +kernel)
set_option maxRecDepth 20000 in
theorem gX10_holds_X2_has : GoodIn wsX10_holds (wsV RX10 95 RX2 yX2_has wsX2_has) := goodIn_app (goodIn_of _ (by decide +kernel)) ggX10_holds_X2_has
set_option maxRecDepth 20000 in
theorem ggX10_holds_X3_build : GoodIn wsX10_holds wsX3_build := goodIn_r _ [14, 15, 16, 17, 18, 19, 20, 21, 22, 23, 24, 25, 26, 27, 28, 29, 30, 31, 32, 33, 34, 35, 36, 37, 38, 39, 40, 41, 42, 43, 44, 45, 46, 47, 48, 49, 50, 51, 52, 53, 54, 55, 56, 57, 58, 59, 60, 61, 62, 63, 64, 13, 65, 91, 92, 93, 94, 95, 96, 97, 98, 99, 100, 101, 102, 103, 104, 105, 106, 107, 108, 109, 110, 111, 112, 113, 114, 115, 116, 117, 118, 119] (by decide +kernel) (by decide +kernel)
set_option maxRecDepth 20000 in
theorem gX10_holds_X3_build : GoodIn wsX10_holds (wsV RX10 273 RX3 yX3_build wsX3_build) := goodIn_app (goodIn_of _ (by decide +kernel)) ggX10_holds_X3_build
set_option maxRecDepth 20000 in
theorem ggX10_holds_X3_areLinked : GoodIn wsX10_holds wsX3_areLinked := goodIn_r _ [69, 16, 104, 105, 106] (by decide +kernel) (by decide +kernel)
set_option maxRecDepth 20000 in
theorem gX10_holds_X3_areLinked : GoodIn wsX10_holds (wsV RX10 277 RX3 yX3_areLinked wsX3_areLinked) := goodIn_app (goodIn_of _ (by decide +kernel)) ggX10_holds_X3_areLinked
set_option maxRecDepth 20000 in
theorem ggX10_holds_X3_cut : GoodIn wsX10_holds wsX3_cut := goodIn_r _ [73, 16, 104, 105, 106] (by decide +kernel) (by decide +kernel)
set_option maxRecDepth 20000 in
theorem gX10_holds_X3_cut : GoodIn wsX10_holds (wsV RX10 286 RX3 yX3_cut wsX3_cut) := goodIn_app (goodIn_of _ (by decide +kernel)) ggX10_holds_X3_cut
set_option maxRecDepth 20000 in
theorem ggX10_holds_X3_close : GoodIn wsX10_holds wsX3_close := goodIn_r _ [77, 16, 15, 56, 57, 58, 104, 105, 106] (by decide +kernel) (by decide +kernel)
set_option maxRecDepth 20000 in
theorem gX10_holds_X3_close : GoodIn wsX10_holds (wsV RX10 280 RX3 yX3_close wsX3_close) := goodIn_app (goodIn_of _ (by decide +kernel)) ggX10_holds_X3_close
set_option maxRecDepth 20000 in
theorem ggX10_holds_X10_asNumber : GoodIn wsX10_holds wsX10_asNumber := goodIn_r _ [80] (by decide +kernel) (by decide +kernel)
set_option maxRecDepth 20000 in
theorem gX10_holds_X10_asNumber : GoodIn wsX10_holds (va_wsS RX10 199 yX10_asNumber wsX10_asNumber) := goodIn_app (goodIn_of _ (by decide +kernel)) ggX10_holds_X10_asNumber
theorem dX10_holds_0 : decode cX10_holds 0 = .ok (.aload_n 0, 1) := by decide +kernel
theorem dX10_holds_1 : decode cX10_holds 1 = .ok (.getfield 12, 3) := by decide +kernel
theorem dX10_holds_4 : decode cX10_holds 4 = .ok (.iload_n 1, 1) := by decide +kernel
theorem dX10_holds_5 : decode cX10_holds 5 = .ok (.invokevirtual 95, 3) := by decide +kernel
theorem dX10_holds_8 : decode cX10_holds 8 = .ok (.ifCond .eq 14, 3) := by decide +kernel
theorem dX10_holds_11 : decode cX10_holds 11 = .ok (.aload_n 0, 1) := by decide +kernel
theorem dX10_holds_12 : decode cX10_holds 12 = .ok (.getfield 12, 3) := by decide +kernel
theorem dX10_holds_15 : decode cX10_holds 15 = .ok (.iload_n 2, 1) := by decide +kernel
theorem dX10_holds_16 : decode cX10_holds 16 = .ok (.invokevirtual 95, 3) := by decide +kernel
theorem dX10_holds_19 : decode cX10_holds 19 = .ok (.ifCond .ne 5, 3) := by decide +kernel
theorem dX10_holds_22 : decode cX10_holds 22 = .ok (.iconst (-1), 1) := by decide +kernel
theorem dX10_holds_23 : decode cX10_holds 23 = .ok (.ireturn, 1) := by decide +kernel
theorem dX10_holds_24 : decode cX10_holds 24 = .ok (.aload_n 0, 1) := by decide +kernel
theorem dX10_holds_25 : decode cX10_holds 25 = .ok (.getfield 40, 3) := by decide +kernel
theorem dX10_holds_28 : decode cX10_holds 28 = .ok (.aload_n 0, 1) := by decide +kernel
theorem dX10_holds_29 : decode cX10_holds 29 = .ok (.getfield 12, 3) := by decide +kernel
theorem dX10_holds_32 : decode cX10_holds 32 = .ok (.aload_n 0, 1) := by decide +kernel
theorem dX10_holds_33 : decode cX10_holds 33 = .ok (.getfield 19, 3) := by decide +kernel
theorem dX10_holds_36 : decode cX10_holds 36 = .ok (.invokevirtual 273, 3) := by decide +kernel
theorem dX10_holds_39 : decode cX10_holds 39 = .ok (.aload_n 0, 1) := by decide +kernel
theorem dX10_holds_40 : decode cX10_holds 40 = .ok (.getfield 40, 3) := by decide +kernel
theorem dX10_holds_43 : decode cX10_holds 43 = .ok (.iload_n 1, 1) := by decide +kernel
theorem dX10_holds_44 : decode cX10_holds 44 = .ok (.iload_n 2, 1) := by decide +kernel
theorem dX10_holds_45 : decode cX10_holds 45 = .ok (.invokevirtual 277, 3) := by decide +kernel
theorem dX10_holds_48 : decode cX10_holds 48 = .ok (.ifCond .ne 6, 3) := by decide +kernel
theorem dX10_holds_51 : decode cX10_holds 51 = .ok (.bipush (-5), 2) := by decide +kernel
theorem dX10_holds_53 : decode cX10_holds 53 = .ok (.ireturn, 1) := by decide +kernel
theorem dX10_holds_54 : decode cX10_holds 54 = .ok (.iload_n 1, 1) := by decide +kernel
theorem dX10_holds_55 : decode cX10_holds 55 = .ok (.iload_n 2, 1) := by decide +kernel
theorem dX10_holds_56 : decode cX10_holds 56 = .ok (.if_icmp .ne 5, 3) := by decide +kernel
theorem dX10_holds_59 : decode cX10_holds 59 = .ok (.iconst 0, 1) := by decide +kernel
theorem dX10_holds_60 : decode cX10_holds 60 = .ok (.ireturn, 1) := by decide +kernel
theorem dX10_holds_61 : decode cX10_holds 61 = .ok (.aload_n 0, 1) := by decide +kernel
theorem dX10_holds_62 : decode cX10_holds 62 = .ok (.getfield 40, 3) := by decide +kernel
theorem dX10_holds_65 : decode cX10_holds 65 = .ok (.iload_n 1, 1) := by decide +kernel
theorem dX10_holds_66 : decode cX10_holds 66 = .ok (.iload_n 2, 1) := by decide +kernel
theorem dX10_holds_67 : decode cX10_holds 67 = .ok (.invokevirtual 286, 3) := by decide +kernel
theorem dX10_holds_70 : decode cX10_holds 70 = .ok (.aload_n 0, 1) := by decide +kernel
theorem dX10_holds_71 : decode cX10_holds 71 = .ok (.getfield 40, 3) := by decide +kernel
theorem dX10_holds_74 : decode cX10_holds 74 = .ok (.invokevirtual 280, 3) := by decide +kernel
theorem dX10_holds_77 : decode cX10_holds 77 = .ok (.aload_n 0, 1) := by decide +kernel
theorem dX10_holds_78 : decode cX10_holds 78 = .ok (.getfield 40, 3) := by decide +kernel
theorem dX10_holds_81 : decode cX10_holds 81 = .ok (.iload_n 1, 1) := by decide +kernel
theorem dX10_holds_82 : decode cX10_holds 82 = .ok (.iload_n 2, 1) := by decide +kernel
theorem dX10_holds_83 : decode cX10_holds 83 = .ok (.invokevirtual 277, 3) := by decide +kernel
theorem dX10_holds_86 : decode cX10_holds 86 = .ok (.ifCond .ne 7, 3) := by decide +kernel
theorem dX10_holds_89 : decode cX10_holds 89 = .ok (.iconst 1, 1) := by decide +kernel
theorem dX10_holds_90 : decode cX10_holds 90 = .ok (.goto 4, 3) := by decide +kernel
theorem dX10_holds_93 : decode cX10_holds 93 = .ok (.iconst 0, 1) := by decide +kernel
theorem dX10_holds_94 : decode cX10_holds 94 = .ok (.invokestatic 199, 3) := by decide +kernel
theorem dX10_holds_97 : decode cX10_holds 97 = .ok (.ireturn, 1) := by decide +kernel
set_option maxRecDepth 20000 in
theorem ggX10_story_X10_isPerson : GoodIn wsX10_story wsX10_isPerson := goodIn_r _ [5] (by decide +kernel) (by decide +kernel)
set_option maxRecDepth 20000 in
theorem gX10_story_X10_isPerson : GoodIn wsX10_story (va_wsS RX10 209 yX10_isPerson wsX10_isPerson) := goodIn_app (goodIn_of _ (by decide +kernel)) ggX10_story_X10_isPerson
set_option maxRecDepth 20000 in
theorem ggX10_story_X10_within : GoodIn wsX10_story wsX10_within := goodIn_r _ [8] (by decide +kernel) (by decide +kernel)
set_option maxRecDepth 20000 in
theorem gX10_story_X10_within : GoodIn wsX10_story (va_wsS RX10 76 yX10_within wsX10_within) := goodIn_app (goodIn_of _ (by decide +kernel)) ggX10_story_X10_within
set_option maxRecDepth 20000 in
theorem ggX10_story_X10_isHour : GoodIn wsX10_story wsX10_isHour := goodIn_r _ [11] (by decide +kernel) (by decide +kernel)
set_option maxRecDepth 20000 in
theorem gX10_story_X10_isHour : GoodIn wsX10_story (va_wsS RX10 212 yX10_isHour wsX10_isHour) := goodIn_app (goodIn_of _ (by decide +kernel)) ggX10_story_X10_isHour
set_option maxRecDepth 20000 in
theorem ggX10_story_X9_add : GoodIn wsX10_story wsX9_add := goodIn_r _ [16, 17, 18, 19, 20, 21, 22, 23, 24, 25, 15, 26, 37, 38, 39, 40, 41, 42, 43, 44] (by decide +kernel) (by decide +kernel)
set_option maxRecDepth 20000 in
theorem gX10_story_X9_add : GoodIn wsX10_story (wsV RX10 290 RX9 yX9_add wsX9_add) := goodIn_app (goodIn_of _ (by decide +kernel)) ggX10_story_X9_add
theorem dX10_story_0 : decode cX10_story 0 = .ok (.iload_n 1, 1) := by decide +kernel
theorem dX10_story_1 : decode cX10_story 1 = .ok (.invokestatic 209, 3) := by decide +kernel
theorem dX10_story_4 : decode cX10_story 4 = .ok (.ifCond .ne 5, 3) := by decide +kernel
theorem dX10_story_7 : decode cX10_story 7 = .ok (.iconst (-1), 1) := by decide +kernel
theorem dX10_story_8 : decode cX10_story 8 = .ok (.ireturn, 1) := by decide +kernel
theorem dX10_story_9 : decode cX10_story 9 = .ok (.iload_n 2, 1) := by decide +kernel
theorem dX10_story_10 : decode cX10_story 10 = .ok (.iconst 0, 1) := by decide +kernel
theorem dX10_story_11 : decode cX10_story 11 = .ok (.bipush 9, 2) := by decide +kernel
theorem dX10_story_13 : decode cX10_story 13 = .ok (.invokestatic 76, 3) := by decide +kernel
theorem dX10_story_16 : decode cX10_story 16 = .ok (.ifCond .eq 24, 3) := by decide +kernel
theorem dX10_story_19 : decode cX10_story 19 = .ok (.iload_n 3, 1) := by decide +kernel
theorem dX10_story_20 : decode cX10_story 20 = .ok (.invokestatic 212, 3) := by decide +kernel
theorem dX10_story_23 : decode cX10_story 23 = .ok (.ifCond .eq 17, 3) := by decide +kernel
theorem dX10_story_26 : decode cX10_story 26 = .ok (.iload 4, 2) := by decide +kernel
theorem dX10_story_28 : decode cX10_story 28 = .ok (.invokestatic 212, 3) := by decide +kernel
theorem dX10_story_31 : decode cX10_story 31 = .ok (.ifCond .eq 9, 3) := by decide +kernel
theorem dX10_story_34 : decode cX10_story 34 = .ok (.iload_n 3, 1) := by decide +kernel
theorem dX10_story_35 : decode cX10_story 35 = .ok (.iload 4, 2) := by decide +kernel
theorem dX10_story_37 : decode cX10_story 37 = .ok (.if_icmp .le 6, 3) := by decide +kernel
theorem dX10_story_40 : decode cX10_story 40 = .ok (.bipush (-2), 2) := by decide +kernel
theorem dX10_story_42 : decode cX10_story 42 = .ok (.ireturn, 1) := by decide +kernel
theorem dX10_story_43 : decode cX10_story 43 = .ok (.aload_n 0, 1) := by decide +kernel
theorem dX10_story_44 : decode cX10_story 44 = .ok (.getfield 47, 3) := by decide +kernel
theorem dX10_story_47 : decode cX10_story 47 = .ok (.getfield 289, 3) := by decide +kernel
theorem dX10_story_50 : decode cX10_story 50 = .ok (.bipush 10, 2) := by decide +kernel
theorem dX10_story_52 : decode cX10_story 52 = .ok (.if_icmp .ge 18, 3) := by decide +kernel
theorem dX10_story_55 : decode cX10_story 55 = .ok (.aload_n 0, 1) := by decide +kernel
theorem dX10_story_56 : decode cX10_story 56 = .ok (.getfield 47, 3) := by decide +kernel
theorem dX10_story_59 : decode cX10_story 59 = .ok (.iload_n 1, 1) := by decide +kernel
theorem dX10_story_60 : decode cX10_story 60 = .ok (.iload_n 2, 1) := by decide +kernel
theorem dX10_story_61 : decode cX10_story 61 = .ok (.iload_n 3, 1) := by decide +kernel
theorem dX10_story_62 : decode cX10_story 62 = .ok (.iload 4, 2) := by decide +kernel
theorem dX10_story_64 : decode cX10_story 64 = .ok (.invokevirtual 290, 3) := by decide +kernel
theorem dX10_story_67 : decode cX10_story 67 = .ok (.goto 5, 3) := by decide +kernel
theorem dX10_story_70 : decode cX10_story 70 = .ok (.bipush (-4), 2) := by decide +kernel
theorem dX10_story_72 : decode cX10_story 72 = .ok (.ireturn, 1) := by decide +kernel
set_option maxRecDepth 20000 in
theorem ggX10_untrue_X9_sift : GoodIn wsX10_untrue wsX9_sift := goodIn_r _ [6, 7, 8, 9, 10, 11, 12, 13, 14, 15, 16, 17, 18, 19, 5, 20, 21, 33, 34, 35, 36, 37, 38, 39, 40] (by decide +kernel) (by decide +kernel)
set_option maxRecDepth 20000 in
theorem gX10_untrue_X9_sift : GoodIn wsX10_untrue (wsV RX10 293 RX9 yX9_sift wsX9_sift) := goodIn_app (goodIn_of _ (by decide +kernel)) ggX10_untrue_X9_sift
set_option maxRecDepth 20000 in
theorem ggX10_untrue_J6_bitCount_0f7a4 : GoodIn wsX10_untrue wsJ6_bitCount_0f7a4 := goodIn_r _ [13, 14, 15, 16] (by decide +kernel) (by decide +kernel)
set_option maxRecDepth 20000 in
theorem gX10_untrue_J6_bitCount_0f7a4 : GoodIn wsX10_untrue (va_wsS RX10 299 yJ6_bitCount_0f7a4 wsJ6_bitCount_0f7a4) := goodIn_app (goodIn_of _ (by decide +kernel)) ggX10_untrue_J6_bitCount_0f7a4
theorem dX10_untrue_0 : decode cX10_untrue 0 = .ok (.iload_n 1, 1) := by decide +kernel
theorem dX10_untrue_1 : decode cX10_untrue 1 = .ok (.tableswitch 75 0 2 #[27, 42, 60], 27) := by decide +kernel
theorem dX10_untrue_28 : decode cX10_untrue 28 = .ok (.aload_n 0, 1) := by decide +kernel
theorem dX10_untrue_29 : decode cX10_untrue 29 = .ok (.getfield 47, 3) := by decide +kernel
theorem dX10_untrue_32 : decode cX10_untrue 32 = .ok (.invokevirtual 293, 3) := by decide +kernel
theorem dX10_untrue_35 : decode cX10_untrue 35 = .ok (.aload_n 0, 1) := by decide +kernel
theorem dX10_untrue_36 : decode cX10_untrue 36 = .ok (.getfield 47, 3) := by decide +kernel
theorem dX10_untrue_39 : decode cX10_untrue 39 = .ok (.getfield 296, 3) := by decide +kernel
theorem dX10_untrue_42 : decode cX10_untrue 42 = .ok (.ireturn, 1) := by decide +kernel
theorem dX10_untrue_43 : decode cX10_untrue 43 = .ok (.aload_n 0, 1) := by decide +kernel
theorem dX10_untrue_44 : decode cX10_untrue 44 = .ok (.getfield 47, 3) := by decide +kernel
theorem dX10_untrue_47 : decode cX10_untrue 47 = .ok (.invokevirtual 293, 3) := by decide +kernel
theorem dX10_untrue_50 : decode cX10_untrue 50 = .ok (.aload_n 0, 1) := by decide +kernel
theorem dX10_untrue_51 : decode cX10_untrue 51 = .ok (.getfield 47, 3) := by decide +kernel
theorem dX10_untrue_54 : decode cX10_untrue 54 = .ok (.getfield 296, 3) := by decide +kernel
theorem dX10_untrue_57 : decode cX10_untrue 57 = .ok (.invokestatic 299, 3) := by decide +kernel
theorem dX10_untrue_60 : decode cX10_untrue 60 = .ok (.ireturn, 1) := by decide +kernel
theorem dX10_untrue_61 : decode cX10_untrue 61 = .ok (.aload_n 0, 1) := by decide +kernel
theorem dX10_untrue_62 : decode cX10_untrue 62 = .ok (.getfield 47, 3) := by decide +kernel
theorem dX10_untrue_65 : decode cX10_untrue 65 = .ok (.invokevirtual 293, 3) := by decide +kernel
theorem dX10_untrue_68 : decode cX10_untrue 68 = .ok (.aload_n 0, 1) := by decide +kernel
theorem dX10_untrue_69 : decode cX10_untrue 69 = .ok (.getfield 47, 3) := by decide +kernel
theorem dX10_untrue_72 : decode cX10_untrue 72 = .ok (.getfield 304, 3) := by decide +kernel
theorem dX10_untrue_75 : decode cX10_untrue 75 = .ok (.ireturn, 1) := by decide +kernel
theorem dX10_untrue_76 : decode cX10_untrue 76 = .ok (.bipush (-2), 2) := by decide +kernel
theorem dX10_untrue_78 : decode cX10_untrue 78 = .ok (.ireturn, 1) := by decide +kernel
set_option maxRecDepth 20000 in
theorem ggX10_take_X10_within : GoodIn wsX10_take wsX10_within := goodIn_r _ [5] (by decide +kernel) (by decide +kernel)
set_option maxRecDepth 20000 in
theorem gX10_take_X10_within : GoodIn wsX10_take (va_wsS RX10 76 yX10_within wsX10_within) := goodIn_app (goodIn_of _ (by decide +kernel)) ggX10_take_X10_within
set_option maxRecDepth 20000 in
theorem ggX10_take_X10_exchange : GoodIn wsX10_take wsX10_exchange := goodIn_r _ [8] (by decide +kernel) (by decide +kernel)
set_option maxRecDepth 20000 in
theorem gX10_take_X10_exchange : GoodIn wsX10_take (va_wsS RX10 83 yX10_exchange wsX10_exchange) := goodIn_app (goodIn_of _ (by decide +kernel)) ggX10_take_X10_exchange
theorem dX10_take_0 : decode cX10_take 0 = .ok (.iload_n 1, 1) := by decide +kernel
theorem dX10_take_1 : decode cX10_take 1 = .ok (.iconst 0, 1) := by decide +kernel
theorem dX10_take_2 : decode cX10_take 2 = .ok (.bipush 7, 2) := by decide +kernel
theorem dX10_take_4 : decode cX10_take 4 = .ok (.invokestatic 76, 3) := by decide +kernel
theorem dX10_take_7 : decode cX10_take 7 = .ok (.ifCond .ne 5, 3) := by decide +kernel
theorem dX10_take_10 : decode cX10_take 10 = .ok (.iconst (-1), 1) := by decide +kernel
theorem dX10_take_11 : decode cX10_take 11 = .ok (.ireturn, 1) := by decide +kernel
theorem dX10_take_12 : decode cX10_take 12 = .ok (.iload_n 2, 1) := by decide +kernel
theorem dX10_take_13 : decode cX10_take 13 = .ok (.iconst 0, 1) := by decide +kernel
theorem dX10_take_14 : decode cX10_take 14 = .ok (.bipush 99, 2) := by decide +kernel
theorem dX10_take_16 : decode cX10_take 16 = .ok (.invokestatic 76, 3) := by decide +kernel
theorem dX10_take_19 : decode cX10_take 19 = .ok (.ifCond .eq 18, 3) := by decide +kernel
theorem dX10_take_22 : decode cX10_take 22 = .ok (.aload_n 0, 1) := by decide +kernel
theorem dX10_take_23 : decode cX10_take 23 = .ok (.getfield 54, 3) := by decide +kernel
theorem dX10_take_26 : decode cX10_take 26 = .ok (.getfield 307, 3) := by decide +kernel
theorem dX10_take_29 : decode cX10_take 29 = .ok (.iload_n 1, 1) := by decide +kernel
theorem dX10_take_30 : decode cX10_take 30 = .ok (.iload_n 2, 1) := by decide +kernel
theorem dX10_take_31 : decode cX10_take 31 = .ok (.invokestatic 83, 3) := by decide +kernel
theorem dX10_take_34 : decode cX10_take 34 = .ok (.goto 5, 3) := by decide +kernel
theorem dX10_take_37 : decode cX10_take 37 = .ok (.bipush (-2), 2) := by decide +kernel
theorem dX10_take_39 : decode cX10_take 39 = .ok (.ireturn, 1) := by decide +kernel
set_option maxRecDepth 20000 in
theorem ggX10_table_X6_reckon : GoodIn wsX10_table wsX6_reckon := goodIn_r _ [7, 8, 9, 10, 11, 12, 13, 14, 15, 16, 17, 18, 19, 20, 21, 22, 23, 24, 25, 6, 26, 27, 28, 29, 52, 53, 54, 55, 56, 57, 58, 59, 60, 61, 62, 63, 64, 65, 66, 67, 68, 69, 70] (by decide +kernel) (by decide +kernel)
set_option maxRecDepth 20000 in
theorem gX10_table_X6_reckon : GoodIn wsX10_table (wsV RX10 310 RX6 yX6_reckon wsX6_reckon) := goodIn_app (goodIn_of _ (by decide +kernel)) ggX10_table_X6_reckon
set_option maxRecDepth 20000 in
theorem ggX10_table_X6_sideAt : GoodIn wsX10_table wsX6_sideAt := goodIn_r _ [33, 11, 34, 35, 36, 6, 37, 38, 39, 40, 41, 8, 10, 52, 53, 54, 55, 56, 57] (by decide +kernel) (by decide +kernel)
set_option maxRecDepth 20000 in
theorem gX10_table_X6_sideAt : GoodIn wsX10_table (wsV RX10 317 RX6 yX6_sideAt wsX6_sideAt) := goodIn_app (goodIn_of _ (by decide +kernel)) ggX10_table_X6_sideAt
theorem dX10_table_0 : decode cX10_table 0 = .ok (.aload_n 0, 1) := by decide +kernel
theorem dX10_table_1 : decode cX10_table 1 = .ok (.getfield 54, 3) := by decide +kernel
theorem dX10_table_4 : decode cX10_table 4 = .ok (.aload_n 0, 1) := by decide +kernel
theorem dX10_table_5 : decode cX10_table 5 = .ok (.getfield 12, 3) := by decide +kernel
theorem dX10_table_8 : decode cX10_table 8 = .ok (.invokevirtual 310, 3) := by decide +kernel
theorem dX10_table_11 : decode cX10_table 11 = .ok (.iload_n 1, 1) := by decide +kernel
theorem dX10_table_12 : decode cX10_table 12 = .ok (.iconst (-1), 1) := by decide +kernel
theorem dX10_table_13 : decode cX10_table 13 = .ok (.if_icmp .ne 13, 3) := by decide +kernel
theorem dX10_table_16 : decode cX10_table 16 = .ok (.aload_n 0, 1) := by decide +kernel
theorem dX10_table_17 : decode cX10_table 17 = .ok (.getfield 54, 3) := by decide +kernel
theorem dX10_table_20 : decode cX10_table 20 = .ok (.getfield 314, 3) := by decide +kernel
theorem dX10_table_23 : decode cX10_table 23 = .ok (.goto 11, 3) := by decide +kernel
theorem dX10_table_26 : decode cX10_table 26 = .ok (.aload_n 0, 1) := by decide +kernel
theorem dX10_table_27 : decode cX10_table 27 = .ok (.getfield 54, 3) := by decide +kernel
theorem dX10_table_30 : decode cX10_table 30 = .ok (.iload_n 1, 1) := by decide +kernel
theorem dX10_table_31 : decode cX10_table 31 = .ok (.invokevirtual 317, 3) := by decide +kernel
theorem dX10_table_34 : decode cX10_table 34 = .ok (.ireturn, 1) := by decide +kernel
set_option maxRecDepth 20000 in
theorem ggX10_ofSide_X10_within : GoodIn wsX10_ofSide wsX10_within := goodIn_r _ [7] (by decide +kernel) (by decide +kernel)
set_option maxRecDepth 20000 in
theorem gX10_ofSide_X10_within : GoodIn wsX10_ofSide (va_wsS RX10 76 yX10_within wsX10_within) := goodIn_app (goodIn_of _ (by decide +kernel)) ggX10_ofSide_X10_within
set_option maxRecDepth 20000 in
theorem ggX10_ofSide_X6_reckon : GoodIn wsX10_ofSide wsX6_reckon := goodIn_r _ [12, 13, 14, 15, 16, 17, 18, 19, 20, 21, 22, 23, 24, 25, 26, 27, 28, 29, 30, 11, 31, 32, 6, 33, 63, 64, 65, 66, 67, 68, 69, 70, 71, 72, 73, 74, 75, 76, 77, 78, 79, 80, 81] (by decide +kernel) (by decide +kernel)
set_option maxRecDepth 20000 in
theorem gX10_ofSide_X6_reckon : GoodIn wsX10_ofSide (wsV RX10 310 RX6 yX6_reckon wsX6_reckon) := goodIn_app (goodIn_of _ (by decide +kernel)) ggX10_ofSide_X6_reckon
set_option maxRecDepth 20000 in
theorem ggX10_ofSide_X6_isDown : GoodIn wsX10_ofSide wsX6_isDown := goodIn_r _ [37, 17, 38, 39, 40, 41, 11, 42, 16, 43, 44, 45, 46, 13, 15, 63, 64, 65, 66, 67, 68] (by decide +kernel) (by decide +kernel)
set_option maxRecDepth 20000 in
theorem gX10_ofSide_X6_isDown : GoodIn wsX10_ofSide (wsV RX10 330 RX6 yX6_isDown wsX6_isDown) := goodIn_app (goodIn_of _ (by decide +kernel)) ggX10_ofSide_X6_isDown
set_option maxRecDepth 20000 in
theorem ggX10_ofSide_X10_asNumber : GoodIn wsX10_ofSide wsX10_asNumber := goodIn_r _ [33] (by decide +kernel) (by decide +kernel)
set_option maxRecDepth 20000 in
theorem gX10_ofSide_X10_asNumber : GoodIn wsX10_ofSide (va_wsS RX10 199 yX10_asNumber wsX10_asNumber) := goodIn_app (goodIn_of _ (by decide +kernel)) ggX10_ofSide_X10_asNumber
set_option maxRecDepth 20000 in
theorem ggX10_ofSide_X6_takingToGoDown : GoodIn wsX10_ofSide wsX6_takingToGoDown := goodIn_r _ [51, 13, 52, 35, 36, 11, 37, 17, 38, 39, 40, 41, 42, 16, 43, 44, 45, 46, 15, 63, 64, 65, 66, 67, 68] (by decide +kernel) (by decide +kernel)
set_option maxRecDepth 20000 in
theorem gX10_ofSide_X6_takingToGoDown : GoodIn wsX10_ofSide (wsV RX10 333 RX6 yX6_takingToGoDown wsX6_takingToGoDown) := goodIn_app (goodIn_of _ (by decide +kernel)) ggX10_ofSide_X6_takingToGoDown
theorem dX10_ofSide_0 : decode cX10_ofSide 0 = .ok (.iload_n 1, 1) := by decide +kernel
theorem dX10_ofSide_1 : decode cX10_ofSide 1 = .ok (.iconst 0, 1) := by decide +kernel
theorem dX10_ofSide_2 : decode cX10_ofSide 2 = .ok (.bipush 7, 2) := by decide +kernel
theorem dX10_ofSide_4 : decode cX10_ofSide 4 = .ok (.invokestatic 76, 3) := by decide +kernel
theorem dX10_ofSide_7 : decode cX10_ofSide 7 = .ok (.ifCond .ne 6, 3) := by decide +kernel
theorem dX10_ofSide_10 : decode cX10_ofSide 10 = .ok (.ldc 173, 2) := by decide +kernel
theorem dX10_ofSide_12 : decode cX10_ofSide 12 = .ok (.ireturn, 1) := by decide +kernel
theorem dX10_ofSide_13 : decode cX10_ofSide 13 = .ok (.aload_n 0, 1) := by decide +kernel
theorem dX10_ofSide_14 : decode cX10_ofSide 14 = .ok (.getfield 54, 3) := by decide +kernel
theorem dX10_ofSide_17 : decode cX10_ofSide 17 = .ok (.aload_n 0, 1) := by decide +kernel
theorem dX10_ofSide_18 : decode cX10_ofSide 18 = .ok (.getfield 12, 3) := by decide +kernel
theorem dX10_ofSide_21 : decode cX10_ofSide 21 = .ok (.invokevirtual 310, 3) := by decide +kernel
theorem dX10_ofSide_24 : decode cX10_ofSide 24 = .ok (.aload_n 0, 1) := by decide +kernel
theorem dX10_ofSide_25 : decode cX10_ofSide 25 = .ok (.getfield 54, 3) := by decide +kernel
theorem dX10_ofSide_28 : decode cX10_ofSide 28 = .ok (.getfield 320, 3) := by decide +kernel
theorem dX10_ofSide_31 : decode cX10_ofSide 31 = .ok (.iload_n 1, 1) := by decide +kernel
theorem dX10_ofSide_32 : decode cX10_ofSide 32 = .ok (.baload, 1) := by decide +kernel
theorem dX10_ofSide_33 : decode cX10_ofSide 33 = .ok (.ifCond .ne 6, 3) := by decide +kernel
theorem dX10_ofSide_36 : decode cX10_ofSide 36 = .ok (.ldc 173, 2) := by decide +kernel
theorem dX10_ofSide_38 : decode cX10_ofSide 38 = .ok (.ireturn, 1) := by decide +kernel
theorem dX10_ofSide_39 : decode cX10_ofSide 39 = .ok (.iload_n 2, 1) := by decide +kernel
theorem dX10_ofSide_40 : decode cX10_ofSide 40 = .ok (.tableswitch 73 0 3 #[32, 42, 52, 64], 32) := by decide +kernel
theorem dX10_ofSide_72 : decode cX10_ofSide 72 = .ok (.aload_n 0, 1) := by decide +kernel
theorem dX10_ofSide_73 : decode cX10_ofSide 73 = .ok (.getfield 54, 3) := by decide +kernel
theorem dX10_ofSide_76 : decode cX10_ofSide 76 = .ok (.getfield 324, 3) := by decide +kernel
theorem dX10_ofSide_79 : decode cX10_ofSide 79 = .ok (.iload_n 1, 1) := by decide +kernel
theorem dX10_ofSide_80 : decode cX10_ofSide 80 = .ok (.iaload, 1) := by decide +kernel
theorem dX10_ofSide_81 : decode cX10_ofSide 81 = .ok (.ireturn, 1) := by decide +kernel
theorem dX10_ofSide_82 : decode cX10_ofSide 82 = .ok (.aload_n 0, 1) := by decide +kernel
theorem dX10_ofSide_83 : decode cX10_ofSide 83 = .ok (.getfield 54, 3) := by decide +kernel
theorem dX10_ofSide_86 : decode cX10_ofSide 86 = .ok (.getfield 327, 3) := by decide +kernel
theorem dX10_ofSide_89 : decode cX10_ofSide 89 = .ok (.iload_n 1, 1) := by decide +kernel
theorem dX10_ofSide_90 : decode cX10_ofSide 90 = .ok (.iaload, 1) := by decide +kernel
theorem dX10_ofSide_91 : decode cX10_ofSide 91 = .ok (.ireturn, 1) := by decide +kernel
theorem dX10_ofSide_92 : decode cX10_ofSide 92 = .ok (.aload_n 0, 1) := by decide +kernel
theorem dX10_ofSide_93 : decode cX10_ofSide 93 = .ok (.getfield 54, 3) := by decide +kernel
theorem dX10_ofSide_96 : decode cX10_ofSide 96 = .ok (.iload_n 1, 1) := by decide +kernel
theorem dX10_ofSide_97 : decode cX10_ofSide 97 = .ok (.invokevirtual 330, 3) := by decide +kernel
theorem dX10_ofSide_100 : decode cX10_ofSide 100 = .ok (.invokestatic 199, 3) := by decide +kernel
theorem dX10_ofSide_103 : decode cX10_ofSide 103 = .ok (.ireturn, 1) := by decide +kernel
theorem dX10_ofSide_104 : decode cX10_ofSide 104 = .ok (.aload_n 0, 1) := by decide +kernel
theorem dX10_ofSide_105 : decode cX10_ofSide 105 = .ok (.getfield 54, 3) := by decide +kernel
theorem dX10_ofSide_108 : decode cX10_ofSide 108 = .ok (.iload_n 1, 1) := by decide +kernel
theorem dX10_ofSide_109 : decode cX10_ofSide 109 = .ok (.invokevirtual 333, 3) := by decide +kernel
theorem dX10_ofSide_112 : decode cX10_ofSide 112 = .ok (.ireturn, 1) := by decide +kernel
theorem dX10_ofSide_113 : decode cX10_ofSide 113 = .ok (.ldc 173, 2) := by decide +kernel
theorem dX10_ofSide_115 : decode cX10_ofSide 115 = .ok (.ireturn, 1) := by decide +kernel
set_option maxRecDepth 20000 in
theorem ggX10_say_X10_within : GoodIn wsX10_say wsX10_within := goodIn_r _ [5] (by decide +kernel) (by decide +kernel)
set_option maxRecDepth 20000 in
theorem gX10_say_X10_within : GoodIn wsX10_say (va_wsS RX10 76 yX10_within wsX10_within) := goodIn_app (goodIn_of _ (by decide +kernel)) ggX10_say_X10_within
set_option maxRecDepth 20000 in
theorem ggX10_say_X1_add : GoodIn wsX10_say wsX1_add := goodIn_r _ [10, 11, 12, 23, 24, 25, 26] (by decide +kernel) (by decide +kernel)
set_option maxRecDepth 20000 in
theorem gX10_say_X1_add : GoodIn wsX10_say (wsV RX10 337 RX1 yX1_add wsX1_add) := goodIn_app (goodIn_of _ (by decide +kernel)) ggX10_say_X1_add
theorem dX10_say_0 : decode cX10_say 0 = .ok (.iload_n 1, 1) := by decide +kernel
theorem dX10_say_1 : decode cX10_say 1 = .ok (.bipush 33, 2) := by decide +kernel
theorem dX10_say_3 : decode cX10_say 3 = .ok (.bipush 126, 2) := by decide +kernel
theorem dX10_say_5 : decode cX10_say 5 = .ok (.invokestatic 76, 3) := by decide +kernel
theorem dX10_say_8 : decode cX10_say 8 = .ok (.ifCond .ne 6, 3) := by decide +kernel
theorem dX10_say_11 : decode cX10_say 11 = .ok (.bipush (-2), 2) := by decide +kernel
theorem dX10_say_13 : decode cX10_say 13 = .ok (.ireturn, 1) := by decide +kernel
theorem dX10_say_14 : decode cX10_say 14 = .ok (.aload_n 0, 1) := by decide +kernel
theorem dX10_say_15 : decode cX10_say 15 = .ok (.getfield 61, 3) := by decide +kernel
theorem dX10_say_18 : decode cX10_say 18 = .ok (.getfield 336, 3) := by decide +kernel
theorem dX10_say_21 : decode cX10_say 21 = .ok (.bipush 40, 2) := by decide +kernel
theorem dX10_say_23 : decode cX10_say 23 = .ok (.if_icmp .ge 14, 3) := by decide +kernel
theorem dX10_say_26 : decode cX10_say 26 = .ok (.aload_n 0, 1) := by decide +kernel
theorem dX10_say_27 : decode cX10_say 27 = .ok (.getfield 61, 3) := by decide +kernel
theorem dX10_say_30 : decode cX10_say 30 = .ok (.iload_n 1, 1) := by decide +kernel
theorem dX10_say_31 : decode cX10_say 31 = .ok (.invokevirtual 337, 3) := by decide +kernel
theorem dX10_say_34 : decode cX10_say 34 = .ok (.goto 5, 3) := by decide +kernel
theorem dX10_say_37 : decode cX10_say 37 = .ok (.bipush (-4), 2) := by decide +kernel
theorem dX10_say_39 : decode cX10_say 39 = .ok (.ireturn, 1) := by decide +kernel
theorem dX10_wipe_0 : decode cX10_wipe 0 = .ok (.aload_n 0, 1) := by decide +kernel
theorem dX10_wipe_1 : decode cX10_wipe 1 = .ok (.getfield 61, 3) := by decide +kernel
theorem dX10_wipe_4 : decode cX10_wipe 4 = .ok (.getfield 336, 3) := by decide +kernel
theorem dX10_wipe_7 : decode cX10_wipe 7 = .ok (.istore_n 1, 1) := by decide +kernel
theorem dX10_wipe_8 : decode cX10_wipe 8 = .ok (.aload_n 0, 1) := by decide +kernel
theorem dX10_wipe_9 : decode cX10_wipe 9 = .ok (.getfield 61, 3) := by decide +kernel
theorem dX10_wipe_12 : decode cX10_wipe 12 = .ok (.iconst 0, 1) := by decide +kernel
theorem dX10_wipe_13 : decode cX10_wipe 13 = .ok (.putfield 336, 3) := by decide +kernel
theorem dX10_wipe_16 : decode cX10_wipe 16 = .ok (.iload_n 1, 1) := by decide +kernel
theorem dX10_wipe_17 : decode cX10_wipe 17 = .ok (.ireturn, 1) := by decide +kernel
set_option maxRecDepth 20000 in
theorem ggX10_fault_X1_firstFault : GoodIn wsX10_fault wsX1_firstFault := goodIn_r _ [6, 7, 8, 9, 10, 5, 11, 12, 13, 14, 15, 16, 17, 28, 29, 30, 31] (by decide +kernel) (by decide +kernel)
set_option maxRecDepth 20000 in
theorem gX10_fault_X1_firstFault : GoodIn wsX10_fault (wsV RX10 339 RX1 yX1_firstFault wsX1_firstFault) := goodIn_app (goodIn_of _ (by decide +kernel)) ggX10_fault_X1_firstFault
theorem dX10_fault_0 : decode cX10_fault 0 = .ok (.aload_n 0, 1) := by decide +kernel
theorem dX10_fault_1 : decode cX10_fault 1 = .ok (.getfield 61, 3) := by decide +kernel
theorem dX10_fault_4 : decode cX10_fault 4 = .ok (.invokevirtual 339, 3) := by decide +kernel
theorem dX10_fault_7 : decode cX10_fault 7 = .ok (.ireturn, 1) := by decide +kernel
set_option maxRecDepth 20000 in
theorem ggX10_rule_X1_firstFault : GoodIn wsX10_rule wsX1_firstFault := goodIn_r _ [6, 7, 8, 9, 10, 5, 11, 12, 13, 14, 15, 16, 17, 34, 35, 36, 37] (by decide +kernel) (by decide +kernel)
set_option maxRecDepth 20000 in
theorem gX10_rule_X1_firstFault : GoodIn wsX10_rule (wsV RX10 339 RX1 yX1_firstFault wsX1_firstFault) := goodIn_app (goodIn_of _ (by decide +kernel)) ggX10_rule_X1_firstFault
set_option maxRecDepth 20000 in
theorem ggX10_rule_X1_hold : GoodIn wsX10_rule wsX1_hold := goodIn_r _ [21, 7, 22, 8, 23, 34, 35, 36, 37] (by decide +kernel) (by decide +kernel)
set_option maxRecDepth 20000 in
theorem gX10_rule_X1_hold : GoodIn wsX10_rule (wsV RX10 343 RX1 yX1_hold wsX1_hold) := goodIn_app (goodIn_of _ (by decide +kernel)) ggX10_rule_X1_hold
theorem dX10_rule_0 : decode cX10_rule 0 = .ok (.aload_n 0, 1) := by decide +kernel
theorem dX10_rule_1 : decode cX10_rule 1 = .ok (.getfield 61, 3) := by decide +kernel
theorem dX10_rule_4 : decode cX10_rule 4 = .ok (.invokevirtual 339, 3) := by decide +kernel
theorem dX10_rule_7 : decode cX10_rule 7 = .ok (.bipush (-6), 2) := by decide +kernel
theorem dX10_rule_9 : decode cX10_rule 9 = .ok (.if_icmp .eq 6, 3) := by decide +kernel
theorem dX10_rule_12 : decode cX10_rule 12 = .ok (.bipush (-5), 2) := by decide +kernel
theorem dX10_rule_14 : decode cX10_rule 14 = .ok (.ireturn, 1) := by decide +kernel
theorem dX10_rule_15 : decode cX10_rule 15 = .ok (.aload_n 0, 1) := by decide +kernel
theorem dX10_rule_16 : decode cX10_rule 16 = .ok (.getfield 61, 3) := by decide +kernel
theorem dX10_rule_19 : decode cX10_rule 19 = .ok (.invokevirtual 343, 3) := by decide +kernel
theorem dX10_rule_22 : decode cX10_rule 22 = .ok (.iconst 1, 1) := by decide +kernel
theorem dX10_rule_23 : decode cX10_rule 23 = .ok (.ireturn, 1) := by decide +kernel
set_option maxRecDepth 20000 in
theorem ggX10_proof_X2_has : GoodIn wsX10_proof wsX2_has := goodIn_r _ [9, 10, 234, 235, 236, 237, 238, 239, 240, 241, 242, 243, 244, 245, 246] (by decide +kernel) (by decide +kernel)
set_option maxRecDepth 20000 in
theorem gX10_proof_X2_has : GoodIn wsX10_proof (wsV RX10 95 RX2 yX2_has wsX2_has) := goodIn_app (goodIn_of _ (by decide +kernel)) ggX10_proof_X2_has
set_option maxRecDepth 20000 in
theorem ggX10_proof_X10_within : GoodIn wsX10_proof wsX10_within := goodIn_r _ [14] (by decide +kernel) (by decide +kernel)
set_option maxRecDepth 20000 in
theorem gX10_proof_X10_within : GoodIn wsX10_proof (va_wsS RX10 76 yX10_within wsX10_within) := goodIn_app (goodIn_of _ (by decide +kernel)) ggX10_proof_X10_within
set_option maxRecDepth 20000 in
theorem ggX10_proof_X10_factOf : GoodIn wsX10_proof wsX10_factOf := goodIn_r _ [18, 1, 19, 20, 21, 22, 23, 24, 25, 8, 26, 27, 28, 29, 30, 31, 32, 33, 34, 35, 36, 37, 38, 39, 40, 41, 42, 43, 44, 45, 46, 47, 48, 49, 50, 51, 52, 53, 54, 55, 56, 57, 58, 59, 60, 61, 62, 63, 64, 65, 66, 67, 68, 69, 70, 71, 72, 73, 74, 75, 76, 77, 78, 79, 80, 81, 82, 83, 84, 85, 86, 87, 88, 89, 90, 91, 92, 93, 94, 95, 96, 97, 98, 99, 100, 101, 102, 103, 104, 105, 106, 107, 108, 109, 110, 111, 112, 113, 114, 115, 116, 117, 118, 119, 120, 121, 122, 123, 124, 125, 126, 127, 128, 129, 130, 131, 132, 133, 134, 13, 135, 136, 137, 138, 139, 140, 141, 142, 143, 144, 145, 146, 147, 148, 149, 150, 151, 152, 153, 154, 155, 156, 157, 158, 159, 160, 161, 162, 163, 164, 165, 166, 167, 168, 169, 170, 171, 172, 173, 174, 175, 176, 177, 178, 179, 180, 181, 182, 183, 184, 185, 186, 187, 188, 189, 190, 191, 192, 193, 194, 195, 196, 197, 198, 199, 200, 201, 202, 203, 224, 225, 226, 227, 228, 229, 230, 231, 232, 233, 234, 235, 236, 237, 238, 239, 240, 241, 242, 243, 244, 245, 246, 247, 248, 249, 250, 251, 252, 253, 254, 255, 256, 257, 258, 259, 260, 261, 262, 263, 264, 265, 266, 267, 268, 269, 270, 271, 272, 273, 274, 275, 276, 277, 278, 279, 280] (by decide +kernel) (by decide +kernel)
set_option maxRecDepth 20000 in
theorem gX10_proof_X10_factOf : GoodIn wsX10_proof (wsV RX10 346 RX10 yX10_factOf wsX10_factOf) := goodIn_app (goodIn_of _ (by decide +kernel)) ggX10_proof_X10_factOf
set_option maxRecDepth 20000 in
theorem ggX10_proof_X1_grants : GoodIn wsX10_proof wsX1_grants := goodIn_r _ [208, 209, 210, 211, 212, 207, 213, 214, 215, 216, 217, 218, 219, 220, 281, 282, 283, 284] (by decide +kernel) (by decide +kernel)
set_option maxRecDepth 20000 in
theorem gX10_proof_X1_grants : GoodIn wsX10_proof (wsV RX10 349 RX1 yX1_grants wsX1_grants) := goodIn_app (goodIn_of _ (by decide +kernel)) ggX10_proof_X1_grants
set_option maxRecDepth 20000 in
theorem ggX10_proof_X10_asNumber : GoodIn wsX10_proof wsX10_asNumber := goodIn_r _ [223] (by decide +kernel) (by decide +kernel)
set_option maxRecDepth 20000 in
theorem gX10_proof_X10_asNumber : GoodIn wsX10_proof (va_wsS RX10 199 yX10_asNumber wsX10_asNumber) := goodIn_app (goodIn_of _ (by decide +kernel)) ggX10_proof_X10_asNumber
theorem dX10_proof_0 : decode cX10_proof 0 = .ok (.aload_n 0, 1) := by decide +kernel
theorem dX10_proof_1 : decode cX10_proof 1 = .ok (.getfield 12, 3) := by decide +kernel
theorem dX10_proof_4 : decode cX10_proof 4 = .ok (.iload_n 1, 1) := by decide +kernel
theorem dX10_proof_5 : decode cX10_proof 5 = .ok (.invokevirtual 95, 3) := by decide +kernel
theorem dX10_proof_8 : decode cX10_proof 8 = .ok (.ifCond .eq 12, 3) := by decide +kernel
theorem dX10_proof_11 : decode cX10_proof 11 = .ok (.iload_n 2, 1) := by decide +kernel
theorem dX10_proof_12 : decode cX10_proof 12 = .ok (.iconst 0, 1) := by decide +kernel
theorem dX10_proof_13 : decode cX10_proof 13 = .ok (.iconst 5, 1) := by decide +kernel
theorem dX10_proof_14 : decode cX10_proof 14 = .ok (.invokestatic 76, 3) := by decide +kernel
theorem dX10_proof_17 : decode cX10_proof 17 = .ok (.ifCond .ne 6, 3) := by decide +kernel
theorem dX10_proof_20 : decode cX10_proof 20 = .ok (.ldc 173, 2) := by decide +kernel
theorem dX10_proof_22 : decode cX10_proof 22 = .ok (.ireturn, 1) := by decide +kernel
theorem dX10_proof_23 : decode cX10_proof 23 = .ok (.iload_n 2, 1) := by decide +kernel
theorem dX10_proof_24 : decode cX10_proof 24 = .ok (.ifCond .le 12, 3) := by decide +kernel
theorem dX10_proof_27 : decode cX10_proof 27 = .ok (.aload_n 0, 1) := by decide +kernel
theorem dX10_proof_28 : decode cX10_proof 28 = .ok (.iload_n 1, 1) := by decide +kernel
theorem dX10_proof_29 : decode cX10_proof 29 = .ok (.iload_n 2, 1) := by decide +kernel
theorem dX10_proof_30 : decode cX10_proof 30 = .ok (.iconst 1, 1) := by decide +kernel
theorem dX10_proof_31 : decode cX10_proof 31 = .ok (.isub, 1) := by decide +kernel
theorem dX10_proof_32 : decode cX10_proof 32 = .ok (.invokevirtual 346, 3) := by decide +kernel
theorem dX10_proof_35 : decode cX10_proof 35 = .ok (.ireturn, 1) := by decide +kernel
theorem dX10_proof_36 : decode cX10_proof 36 = .ok (.iconst 0, 1) := by decide +kernel
theorem dX10_proof_37 : decode cX10_proof 37 = .ok (.istore_n 3, 1) := by decide +kernel
theorem dX10_proof_38 : decode cX10_proof 38 = .ok (.iload_n 3, 1) := by decide +kernel
theorem dX10_proof_39 : decode cX10_proof 39 = .ok (.iconst 5, 1) := by decide +kernel
theorem dX10_proof_40 : decode cX10_proof 40 = .ok (.if_icmp .ge 21, 3) := by decide +kernel
theorem dX10_proof_43 : decode cX10_proof 43 = .ok (.aload_n 0, 1) := by decide +kernel
theorem dX10_proof_44 : decode cX10_proof 44 = .ok (.getfield 72, 3) := by decide +kernel
theorem dX10_proof_47 : decode cX10_proof 47 = .ok (.iload_n 3, 1) := by decide +kernel
theorem dX10_proof_48 : decode cX10_proof 48 = .ok (.aload_n 0, 1) := by decide +kernel
theorem dX10_proof_49 : decode cX10_proof 49 = .ok (.iload_n 1, 1) := by decide +kernel
theorem dX10_proof_50 : decode cX10_proof 50 = .ok (.iload_n 3, 1) := by decide +kernel
theorem dX10_proof_51 : decode cX10_proof 51 = .ok (.invokevirtual 346, 3) := by decide +kernel
theorem dX10_proof_54 : decode cX10_proof 54 = .ok (.iastore, 1) := by decide +kernel
theorem dX10_proof_55 : decode cX10_proof 55 = .ok (.iinc 3 1, 3) := by decide +kernel
theorem dX10_proof_58 : decode cX10_proof 58 = .ok (.goto (-20), 3) := by decide +kernel
theorem dX10_proof_61 : decode cX10_proof 61 = .ok (.aload_n 0, 1) := by decide +kernel
theorem dX10_proof_62 : decode cX10_proof 62 = .ok (.getfield 61, 3) := by decide +kernel
theorem dX10_proof_65 : decode cX10_proof 65 = .ok (.aload_n 0, 1) := by decide +kernel
theorem dX10_proof_66 : decode cX10_proof 66 = .ok (.getfield 72, 3) := by decide +kernel
theorem dX10_proof_69 : decode cX10_proof 69 = .ok (.invokevirtual 349, 3) := by decide +kernel
theorem dX10_proof_72 : decode cX10_proof 72 = .ok (.invokestatic 199, 3) := by decide +kernel
theorem dX10_proof_75 : decode cX10_proof 75 = .ok (.ireturn, 1) := by decide +kernel
set_option maxRecDepth 20000 in
theorem ggX10_cost_X2_has : GoodIn wsX10_cost wsX2_has := goodIn_r _ [6, 7, 25, 26, 27, 28, 29, 30, 31, 32, 33, 34, 35, 36, 37] (by decide +kernel) (by decide +kernel)
set_option maxRecDepth 20000 in
theorem gX10_cost_X2_has : GoodIn wsX10_cost (wsV RX10 95 RX2 yX2_has wsX2_has) := goodIn_app (goodIn_of _ (by decide +kernel)) ggX10_cost_X2_has
set_option maxRecDepth 20000 in
theorem ggX10_cost_X10_within : GoodIn wsX10_cost wsX10_within := goodIn_r _ [11] (by decide +kernel) (by decide +kernel)
set_option maxRecDepth 20000 in
theorem gX10_cost_X10_within : GoodIn wsX10_cost (va_wsS RX10 76 yX10_within wsX10_within) := goodIn_app (goodIn_of _ (by decide +kernel)) ggX10_cost_X10_within
set_option maxRecDepth 20000 in
theorem ggX10_cost_X10_exchange : GoodIn wsX10_cost wsX10_exchange := goodIn_r _ [14] (by decide +kernel) (by decide +kernel)
set_option maxRecDepth 20000 in
theorem gX10_cost_X10_exchange : GoodIn wsX10_cost (va_wsS RX10 83 yX10_exchange wsX10_exchange) := goodIn_app (goodIn_of _ (by decide +kernel)) ggX10_cost_X10_exchange
theorem dX10_cost_0 : decode cX10_cost 0 = .ok (.aload_n 0, 1) := by decide +kernel
theorem dX10_cost_1 : decode cX10_cost 1 = .ok (.getfield 12, 3) := by decide +kernel
theorem dX10_cost_4 : decode cX10_cost 4 = .ok (.iload_n 1, 1) := by decide +kernel
theorem dX10_cost_5 : decode cX10_cost 5 = .ok (.invokevirtual 95, 3) := by decide +kernel
theorem dX10_cost_8 : decode cX10_cost 8 = .ok (.ifCond .ne 5, 3) := by decide +kernel
theorem dX10_cost_11 : decode cX10_cost 11 = .ok (.iconst (-1), 1) := by decide +kernel
theorem dX10_cost_12 : decode cX10_cost 12 = .ok (.ireturn, 1) := by decide +kernel
theorem dX10_cost_13 : decode cX10_cost 13 = .ok (.iload_n 2, 1) := by decide +kernel
theorem dX10_cost_14 : decode cX10_cost 14 = .ok (.iconst 0, 1) := by decide +kernel
theorem dX10_cost_15 : decode cX10_cost 15 = .ok (.bipush 100, 2) := by decide +kernel
theorem dX10_cost_17 : decode cX10_cost 17 = .ok (.invokestatic 76, 3) := by decide +kernel
theorem dX10_cost_20 : decode cX10_cost 20 = .ok (.ifCond .eq 18, 3) := by decide +kernel
theorem dX10_cost_23 : decode cX10_cost 23 = .ok (.aload_n 0, 1) := by decide +kernel
theorem dX10_cost_24 : decode cX10_cost 24 = .ok (.getfield 12, 3) := by decide +kernel
theorem dX10_cost_27 : decode cX10_cost 27 = .ok (.getfield 121, 3) := by decide +kernel
theorem dX10_cost_30 : decode cX10_cost 30 = .ok (.iload_n 1, 1) := by decide +kernel
theorem dX10_cost_31 : decode cX10_cost 31 = .ok (.iload_n 2, 1) := by decide +kernel
theorem dX10_cost_32 : decode cX10_cost 32 = .ok (.invokestatic 83, 3) := by decide +kernel
theorem dX10_cost_35 : decode cX10_cost 35 = .ok (.goto 5, 3) := by decide +kernel
theorem dX10_cost_38 : decode cX10_cost 38 = .ok (.bipush (-2), 2) := by decide +kernel
theorem dX10_cost_40 : decode cX10_cost 40 = .ok (.ireturn, 1) := by decide +kernel
set_option maxRecDepth 20000 in
theorem ggX10_looks_X10_within : GoodIn wsX10_looks wsX10_within := goodIn_r _ [6] (by decide +kernel) (by decide +kernel)
set_option maxRecDepth 20000 in
theorem gX10_looks_X10_within : GoodIn wsX10_looks (va_wsS RX10 76 yX10_within wsX10_within) := goodIn_app (goodIn_of _ (by decide +kernel)) ggX10_looks_X10_within
set_option maxRecDepth 20000 in
theorem ggX10_looks_X5_choose : GoodIn wsX10_looks wsX5_choose := goodIn_r _ [11, 12, 13, 14, 15, 16, 17, 18, 10, 19, 20, 21, 22, 23, 24, 25, 26, 27, 28, 29, 30, 31, 32, 33, 34, 35, 36, 37, 38, 39, 40, 41, 42, 43, 44, 45, 46, 47, 48, 49, 50, 51, 52, 53, 54, 55, 56, 57, 58, 59, 60, 61, 62, 63, 64, 65, 66, 67, 68, 69, 70, 71, 72, 73, 74, 75, 76, 77, 78, 79, 80, 81, 82, 83, 84, 85, 86, 87, 88, 89, 90, 91, 92, 93, 94, 95, 96, 97, 98, 99, 100, 101, 102, 113, 114, 115, 116, 117, 118, 119, 120, 121, 122, 123, 124, 125, 126, 127, 128, 129, 130, 131, 132, 133] (by decide +kernel) (by decide +kernel)
set_option maxRecDepth 20000 in
theorem gX10_looks_X5_choose : GoodIn wsX10_looks (wsV RX10 353 RX5 yX5_choose wsX5_choose) := goodIn_app (goodIn_of _ (by decide +kernel)) ggX10_looks_X5_choose
theorem dX10_looks_0 : decode cX10_looks 0 = .ok (.iload_n 1, 1) := by decide +kernel
theorem dX10_looks_1 : decode cX10_looks 1 = .ok (.iconst 0, 1) := by decide +kernel
theorem dX10_looks_2 : decode cX10_looks 2 = .ok (.sipush 1000, 3) := by decide +kernel
theorem dX10_looks_5 : decode cX10_looks 5 = .ok (.invokestatic 76, 3) := by decide +kernel
theorem dX10_looks_8 : decode cX10_looks 8 = .ok (.ifCond .eq 12, 3) := by decide +kernel
theorem dX10_looks_11 : decode cX10_looks 11 = .ok (.iload_n 2, 1) := by decide +kernel
theorem dX10_looks_12 : decode cX10_looks 12 = .ok (.iconst 0, 1) := by decide +kernel
theorem dX10_looks_13 : decode cX10_looks 13 = .ok (.iconst 1, 1) := by decide +kernel
theorem dX10_looks_14 : decode cX10_looks 14 = .ok (.invokestatic 76, 3) := by decide +kernel
theorem dX10_looks_17 : decode cX10_looks 17 = .ok (.ifCond .ne 6, 3) := by decide +kernel
theorem dX10_looks_20 : decode cX10_looks 20 = .ok (.bipush (-2), 2) := by decide +kernel
theorem dX10_looks_22 : decode cX10_looks 22 = .ok (.ireturn, 1) := by decide +kernel
theorem dX10_looks_23 : decode cX10_looks 23 = .ok (.aload_n 0, 1) := by decide +kernel
theorem dX10_looks_24 : decode cX10_looks 24 = .ok (.getfield 68, 3) := by decide +kernel
theorem dX10_looks_27 : decode cX10_looks 27 = .ok (.iload_n 1, 1) := by decide +kernel
theorem dX10_looks_28 : decode cX10_looks 28 = .ok (.aload_n 0, 1) := by decide +kernel
theorem dX10_looks_29 : decode cX10_looks 29 = .ok (.getfield 12, 3) := by decide +kernel
theorem dX10_looks_32 : decode cX10_looks 32 = .ok (.invokevirtual 353, 3) := by decide +kernel
theorem dX10_looks_35 : decode cX10_looks 35 = .ok (.iload_n 2, 1) := by decide +kernel
theorem dX10_looks_36 : decode cX10_looks 36 = .ok (.ifCond .ne 13, 3) := by decide +kernel
theorem dX10_looks_39 : decode cX10_looks 39 = .ok (.aload_n 0, 1) := by decide +kernel
theorem dX10_looks_40 : decode cX10_looks 40 = .ok (.getfield 68, 3) := by decide +kernel
theorem dX10_looks_43 : decode cX10_looks 43 = .ok (.getfield 357, 3) := by decide +kernel
theorem dX10_looks_46 : decode cX10_looks 46 = .ok (.goto 10, 3) := by decide +kernel
theorem dX10_looks_49 : decode cX10_looks 49 = .ok (.aload_n 0, 1) := by decide +kernel
theorem dX10_looks_50 : decode cX10_looks 50 = .ok (.getfield 68, 3) := by decide +kernel
theorem dX10_looks_53 : decode cX10_looks 53 = .ok (.getfield 360, 3) := by decide +kernel
theorem dX10_looks_56 : decode cX10_looks 56 = .ok (.ireturn, 1) := by decide +kernel
theorem dX10_told_0 : decode cX10_told 0 = .ok (.iload_n 1, 1) := by decide +kernel
theorem dX10_told_1 : decode cX10_told 1 = .ok (.tableswitch 87 0 5 #[39, 47, 55, 63, 71, 79], 39) := by decide +kernel
theorem dX10_told_40 : decode cX10_told 40 = .ok (.aload_n 0, 1) := by decide +kernel
theorem dX10_told_41 : decode cX10_told 41 = .ok (.getfield 12, 3) := by decide +kernel
theorem dX10_told_44 : decode cX10_told 44 = .ok (.getfield 87, 3) := by decide +kernel
theorem dX10_told_47 : decode cX10_told 47 = .ok (.ireturn, 1) := by decide +kernel
theorem dX10_told_48 : decode cX10_told 48 = .ok (.aload_n 0, 1) := by decide +kernel
theorem dX10_told_49 : decode cX10_told 49 = .ok (.getfield 19, 3) := by decide +kernel
theorem dX10_told_52 : decode cX10_told 52 = .ok (.getfield 187, 3) := by decide +kernel
theorem dX10_told_55 : decode cX10_told 55 = .ok (.ireturn, 1) := by decide +kernel
theorem dX10_told_56 : decode cX10_told 56 = .ok (.aload_n 0, 1) := by decide +kernel
theorem dX10_told_57 : decode cX10_told 57 = .ok (.getfield 26, 3) := by decide +kernel
theorem dX10_told_60 : decode cX10_told 60 = .ok (.getfield 215, 3) := by decide +kernel
theorem dX10_told_63 : decode cX10_told 63 = .ok (.ireturn, 1) := by decide +kernel
theorem dX10_told_64 : decode cX10_told 64 = .ok (.aload_n 0, 1) := by decide +kernel
theorem dX10_told_65 : decode cX10_told 65 = .ok (.getfield 33, 3) := by decide +kernel
theorem dX10_told_68 : decode cX10_told 68 = .ok (.getfield 258, 3) := by decide +kernel
theorem dX10_told_71 : decode cX10_told 71 = .ok (.ireturn, 1) := by decide +kernel
theorem dX10_told_72 : decode cX10_told 72 = .ok (.aload_n 0, 1) := by decide +kernel
theorem dX10_told_73 : decode cX10_told 73 = .ok (.getfield 47, 3) := by decide +kernel
theorem dX10_told_76 : decode cX10_told 76 = .ok (.getfield 289, 3) := by decide +kernel
theorem dX10_told_79 : decode cX10_told 79 = .ok (.ireturn, 1) := by decide +kernel
theorem dX10_told_80 : decode cX10_told 80 = .ok (.aload_n 0, 1) := by decide +kernel
theorem dX10_told_81 : decode cX10_told 81 = .ok (.getfield 61, 3) := by decide +kernel
theorem dX10_told_84 : decode cX10_told 84 = .ok (.getfield 336, 3) := by decide +kernel
theorem dX10_told_87 : decode cX10_told 87 = .ok (.ireturn, 1) := by decide +kernel
theorem dX10_told_88 : decode cX10_told 88 = .ok (.bipush (-2), 2) := by decide +kernel
theorem dX10_told_90 : decode cX10_told 90 = .ok (.ireturn, 1) := by decide +kernel
set_option maxRecDepth 20000 in
theorem ggX10_factOf_X2_seekTop : GoodIn wsX10_factOf wsX2_seekTop := goodIn_r _ [10, 11, 12, 13, 14, 15, 9, 16, 17, 18, 19, 20, 21, 22, 23, 24, 25, 26, 27, 28, 29, 30, 31, 32, 33, 34, 35, 36, 37, 38, 39, 40, 41, 42, 43, 44, 45, 46, 47, 48, 49, 50, 51, 52, 53, 54, 55, 56, 57, 58, 59, 60, 61, 62, 63, 64, 65, 66, 67, 68, 69, 70, 71, 72, 73, 74, 75, 76, 199, 200, 201, 202, 203, 204, 205, 206, 207, 208, 209, 210, 211, 215, 216, 217] (by decide +kernel) (by decide +kernel)
set_option maxRecDepth 20000 in
theorem gX10_factOf_X2_seekTop : GoodIn wsX10_factOf (wsV RX10 174 RX2 yX2_seekTop wsX2_seekTop) := goodIn_app (goodIn_of _ (by decide +kernel)) ggX10_factOf_X2_seekTop
set_option maxRecDepth 20000 in
theorem ggX10_factOf_X0_countGrouped : GoodIn wsX10_factOf wsX0_countGrouped := goodIn_r _ [81, 82, 83, 84, 85, 80, 86, 87, 88, 89, 90, 91, 92, 93, 94, 95, 96, 58, 97, 98, 99, 100, 101, 102, 103, 104, 105, 106, 107, 108, 109, 110, 111, 112, 113, 114, 115, 116, 117, 118, 119, 120, 121, 122, 123, 124, 218, 219, 220, 221, 222, 223, 224, 225, 226, 227, 228, 229, 230] (by decide +kernel) (by decide +kernel)
set_option maxRecDepth 20000 in
theorem gX10_factOf_X0_countGrouped : GoodIn wsX10_factOf (wsV RX10 363 RX0 yX0_countGrouped wsX0_countGrouped) := goodIn_app (goodIn_of _ (by decide +kernel)) ggX10_factOf_X0_countGrouped
set_option maxRecDepth 20000 in
theorem ggX10_factOf_X7_countExplained : GoodIn wsX10_factOf wsX7_countExplained := goodIn_r _ [129, 130, 131, 132, 133, 134, 135, 136, 128, 137, 138, 139, 140, 141, 142, 96, 58, 97, 143, 144, 145, 146, 231, 232, 233, 234, 235, 236, 237, 238, 218, 219, 220, 221, 222, 223, 224, 225, 226, 227, 228, 229, 230] (by decide +kernel) (by decide +kernel)
set_option maxRecDepth 20000 in
theorem gX10_factOf_X7_countExplained : GoodIn wsX10_factOf (wsV RX10 233 RX7 yX7_countExplained wsX7_countExplained) := goodIn_app (goodIn_of _ (by decide +kernel)) ggX10_factOf_X7_countExplained
set_option maxRecDepth 20000 in
theorem ggX10_factOf_X3_build : GoodIn wsX10_factOf wsX3_build := goodIn_r _ [151, 152, 153, 154, 155, 84, 85, 80, 86, 82, 87, 88, 89, 90, 91, 92, 93, 94, 95, 96, 58, 97, 98, 99, 100, 101, 102, 103, 104, 105, 106, 107, 108, 109, 110, 111, 112, 113, 114, 115, 116, 117, 118, 119, 120, 156, 122, 123, 124, 157, 158, 150, 159, 199, 200, 201, 202, 203, 204, 205, 206, 207, 208, 209, 210, 211, 212, 213, 214, 218, 219, 220, 221, 222, 223, 224, 225, 226, 227, 228, 229, 230] (by decide +kernel) (by decide +kernel)
set_option maxRecDepth 20000 in
theorem gX10_factOf_X3_build : GoodIn wsX10_factOf (wsV RX10 273 RX3 yX3_build wsX3_build) := goodIn_app (goodIn_of _ (by decide +kernel)) ggX10_factOf_X3_build
set_option maxRecDepth 20000 in
theorem ggX10_factOf_X3_close : GoodIn wsX10_factOf wsX3_close := goodIn_r _ [163, 153, 152, 118, 119, 120, 212, 213, 214] (by decide +kernel) (by decide +kernel)
set_option maxRecDepth 20000 in
theorem gX10_factOf_X3_close : GoodIn wsX10_factOf (wsV RX10 280 RX3 yX3_close wsX3_close) := goodIn_app (goodIn_of _ (by decide +kernel)) ggX10_factOf_X3_close
set_option maxRecDepth 20000 in
theorem ggX10_factOf_J6_bitCount_0f7a4 : GoodIn wsX10_factOf wsJ6_bitCount_0f7a4 := goodIn_r _ [167, 168, 169, 170] (by decide +kernel) (by decide +kernel)
set_option maxRecDepth 20000 in
theorem gX10_factOf_J6_bitCount_0f7a4 : GoodIn wsX10_factOf (va_wsS RX10 299 yJ6_bitCount_0f7a4 wsJ6_bitCount_0f7a4) := goodIn_app (goodIn_of _ (by decide +kernel)) ggX10_factOf_J6_bitCount_0f7a4
set_option maxRecDepth 20000 in
theorem ggX10_factOf_X8_fewestFor : GoodIn wsX10_factOf wsX8_fewestFor := goodIn_r _ [175, 176, 177, 178, 174, 179, 180, 181, 165, 166, 167, 168, 169, 170, 182, 183, 184, 185, 186, 187, 188, 239, 240, 241, 242, 243, 244, 245] (by decide +kernel) (by decide +kernel)
set_option maxRecDepth 20000 in
theorem gX10_factOf_X8_fewestFor : GoodIn wsX10_factOf (wsV RX10 264 RX8 yX8_fewestFor wsX8_fewestFor) := goodIn_app (goodIn_of _ (by decide +kernel)) ggX10_factOf_X8_fewestFor
theorem dX10_factOf_0 : decode cX10_factOf 0 = .ok (.iload_n 2, 1) := by decide +kernel
theorem dX10_factOf_1 : decode cX10_factOf 1 = .ok (.tableswitch 113 0 3 #[31, 47, 56, 78], 31) := by decide +kernel
theorem dX10_factOf_32 : decode cX10_factOf 32 = .ok (.aload_n 0, 1) := by decide +kernel
theorem dX10_factOf_33 : decode cX10_factOf 33 = .ok (.getfield 12, 3) := by decide +kernel
theorem dX10_factOf_36 : decode cX10_factOf 36 = .ok (.iload_n 1, 1) := by decide +kernel
theorem dX10_factOf_37 : decode cX10_factOf 37 = .ok (.invokevirtual 174, 3) := by decide +kernel
theorem dX10_factOf_40 : decode cX10_factOf 40 = .ok (.aload_n 0, 1) := by decide +kernel
theorem dX10_factOf_41 : decode cX10_factOf 41 = .ok (.getfield 12, 3) := by decide +kernel
theorem dX10_factOf_44 : decode cX10_factOf 44 = .ok (.getfield 178, 3) := by decide +kernel
theorem dX10_factOf_47 : decode cX10_factOf 47 = .ok (.ireturn, 1) := by decide +kernel
theorem dX10_factOf_48 : decode cX10_factOf 48 = .ok (.aload_n 0, 1) := by decide +kernel
theorem dX10_factOf_49 : decode cX10_factOf 49 = .ok (.getfield 19, 3) := by decide +kernel
theorem dX10_factOf_52 : decode cX10_factOf 52 = .ok (.iload_n 1, 1) := by decide +kernel
theorem dX10_factOf_53 : decode cX10_factOf 53 = .ok (.invokevirtual 363, 3) := by decide +kernel
theorem dX10_factOf_56 : decode cX10_factOf 56 = .ok (.ireturn, 1) := by decide +kernel
theorem dX10_factOf_57 : decode cX10_factOf 57 = .ok (.aload_n 0, 1) := by decide +kernel
theorem dX10_factOf_58 : decode cX10_factOf 58 = .ok (.getfield 26, 3) := by decide +kernel
theorem dX10_factOf_61 : decode cX10_factOf 61 = .ok (.iload_n 1, 1) := by decide +kernel
theorem dX10_factOf_62 : decode cX10_factOf 62 = .ok (.aload_n 0, 1) := by decide +kernel
theorem dX10_factOf_63 : decode cX10_factOf 63 = .ok (.getfield 12, 3) := by decide +kernel
theorem dX10_factOf_66 : decode cX10_factOf 66 = .ok (.getfield 118, 3) := by decide +kernel
theorem dX10_factOf_69 : decode cX10_factOf 69 = .ok (.iload_n 1, 1) := by decide +kernel
theorem dX10_factOf_70 : decode cX10_factOf 70 = .ok (.iaload, 1) := by decide +kernel
theorem dX10_factOf_71 : decode cX10_factOf 71 = .ok (.aload_n 0, 1) := by decide +kernel
theorem dX10_factOf_72 : decode cX10_factOf 72 = .ok (.getfield 19, 3) := by decide +kernel
theorem dX10_factOf_75 : decode cX10_factOf 75 = .ok (.invokevirtual 233, 3) := by decide +kernel
theorem dX10_factOf_78 : decode cX10_factOf 78 = .ok (.ireturn, 1) := by decide +kernel
theorem dX10_factOf_79 : decode cX10_factOf 79 = .ok (.aload_n 0, 1) := by decide +kernel
theorem dX10_factOf_80 : decode cX10_factOf 80 = .ok (.getfield 40, 3) := by decide +kernel
theorem dX10_factOf_83 : decode cX10_factOf 83 = .ok (.aload_n 0, 1) := by decide +kernel
theorem dX10_factOf_84 : decode cX10_factOf 84 = .ok (.getfield 12, 3) := by decide +kernel
theorem dX10_factOf_87 : decode cX10_factOf 87 = .ok (.aload_n 0, 1) := by decide +kernel
theorem dX10_factOf_88 : decode cX10_factOf 88 = .ok (.getfield 19, 3) := by decide +kernel
theorem dX10_factOf_91 : decode cX10_factOf 91 = .ok (.invokevirtual 273, 3) := by decide +kernel
theorem dX10_factOf_94 : decode cX10_factOf 94 = .ok (.aload_n 0, 1) := by decide +kernel
theorem dX10_factOf_95 : decode cX10_factOf 95 = .ok (.getfield 40, 3) := by decide +kernel
theorem dX10_factOf_98 : decode cX10_factOf 98 = .ok (.invokevirtual 280, 3) := by decide +kernel
theorem dX10_factOf_101 : decode cX10_factOf 101 = .ok (.aload_n 0, 1) := by decide +kernel
theorem dX10_factOf_102 : decode cX10_factOf 102 = .ok (.getfield 40, 3) := by decide +kernel
theorem dX10_factOf_105 : decode cX10_factOf 105 = .ok (.getfield 283, 3) := by decide +kernel
theorem dX10_factOf_108 : decode cX10_factOf 108 = .ok (.iload_n 1, 1) := by decide +kernel
theorem dX10_factOf_109 : decode cX10_factOf 109 = .ok (.iaload, 1) := by decide +kernel
theorem dX10_factOf_110 : decode cX10_factOf 110 = .ok (.invokestatic 299, 3) := by decide +kernel
theorem dX10_factOf_113 : decode cX10_factOf 113 = .ok (.ireturn, 1) := by decide +kernel
theorem dX10_factOf_114 : decode cX10_factOf 114 = .ok (.aload_n 0, 1) := by decide +kernel
theorem dX10_factOf_115 : decode cX10_factOf 115 = .ok (.getfield 33, 3) := by decide +kernel
theorem dX10_factOf_118 : decode cX10_factOf 118 = .ok (.iload_n 1, 1) := by decide +kernel
theorem dX10_factOf_119 : decode cX10_factOf 119 = .ok (.invokevirtual 264, 3) := by decide +kernel
theorem dX10_factOf_122 : decode cX10_factOf 122 = .ok (.invokestatic 299, 3) := by decide +kernel
theorem dX10_factOf_125 : decode cX10_factOf 125 = .ok (.ireturn, 1) := by decide +kernel
theorem dX10_within_0 : decode cX10_within 0 = .ok (.iload_n 0, 1) := by decide +kernel
theorem dX10_within_1 : decode cX10_within 1 = .ok (.iload_n 1, 1) := by decide +kernel
theorem dX10_within_2 : decode cX10_within 2 = .ok (.if_icmp .lt 12, 3) := by decide +kernel
theorem dX10_within_5 : decode cX10_within 5 = .ok (.iload_n 0, 1) := by decide +kernel
theorem dX10_within_6 : decode cX10_within 6 = .ok (.iload_n 2, 1) := by decide +kernel
theorem dX10_within_7 : decode cX10_within 7 = .ok (.if_icmp .gt 7, 3) := by decide +kernel
theorem dX10_within_10 : decode cX10_within 10 = .ok (.iconst 1, 1) := by decide +kernel
theorem dX10_within_11 : decode cX10_within 11 = .ok (.goto 4, 3) := by decide +kernel
theorem dX10_within_14 : decode cX10_within 14 = .ok (.iconst 0, 1) := by decide +kernel
theorem dX10_within_15 : decode cX10_within 15 = .ok (.ireturn, 1) := by decide +kernel
theorem dX10_isHand_0 : decode cX10_isHand 0 = .ok (.iload_n 0, 1) := by decide +kernel
theorem dX10_isHand_1 : decode cX10_isHand 1 = .ok (.ifCond .lt 13, 3) := by decide +kernel
theorem dX10_isHand_4 : decode cX10_isHand 4 = .ok (.iload_n 0, 1) := by decide +kernel
theorem dX10_isHand_5 : decode cX10_isHand 5 = .ok (.bipush 10, 2) := by decide +kernel
theorem dX10_isHand_7 : decode cX10_isHand 7 = .ok (.if_icmp .ge 7, 3) := by decide +kernel
theorem dX10_isHand_10 : decode cX10_isHand 10 = .ok (.iconst 1, 1) := by decide +kernel
theorem dX10_isHand_11 : decode cX10_isHand 11 = .ok (.goto 4, 3) := by decide +kernel
theorem dX10_isHand_14 : decode cX10_isHand 14 = .ok (.iconst 0, 1) := by decide +kernel
theorem dX10_isHand_15 : decode cX10_isHand 15 = .ok (.ireturn, 1) := by decide +kernel
theorem dX10_isPerson_0 : decode cX10_isPerson 0 = .ok (.iload_n 0, 1) := by decide +kernel
theorem dX10_isPerson_1 : decode cX10_isPerson 1 = .ok (.ifCond .lt 13, 3) := by decide +kernel
theorem dX10_isPerson_4 : decode cX10_isPerson 4 = .ok (.iload_n 0, 1) := by decide +kernel
theorem dX10_isPerson_5 : decode cX10_isPerson 5 = .ok (.bipush 10, 2) := by decide +kernel
theorem dX10_isPerson_7 : decode cX10_isPerson 7 = .ok (.if_icmp .ge 7, 3) := by decide +kernel
theorem dX10_isPerson_10 : decode cX10_isPerson 10 = .ok (.iconst 1, 1) := by decide +kernel
theorem dX10_isPerson_11 : decode cX10_isPerson 11 = .ok (.goto 4, 3) := by decide +kernel
theorem dX10_isPerson_14 : decode cX10_isPerson 14 = .ok (.iconst 0, 1) := by decide +kernel
theorem dX10_isPerson_15 : decode cX10_isPerson 15 = .ok (.ireturn, 1) := by decide +kernel
theorem dX10_isPlayer_0 : decode cX10_isPlayer 0 = .ok (.iload_n 0, 1) := by decide +kernel
theorem dX10_isPlayer_1 : decode cX10_isPlayer 1 = .ok (.ifCond .lt 13, 3) := by decide +kernel
theorem dX10_isPlayer_4 : decode cX10_isPlayer 4 = .ok (.iload_n 0, 1) := by decide +kernel
theorem dX10_isPlayer_5 : decode cX10_isPlayer 5 = .ok (.bipush 10, 2) := by decide +kernel
theorem dX10_isPlayer_7 : decode cX10_isPlayer 7 = .ok (.if_icmp .ge 7, 3) := by decide +kernel
theorem dX10_isPlayer_10 : decode cX10_isPlayer 10 = .ok (.iconst 1, 1) := by decide +kernel
theorem dX10_isPlayer_11 : decode cX10_isPlayer 11 = .ok (.goto 4, 3) := by decide +kernel
theorem dX10_isPlayer_14 : decode cX10_isPlayer 14 = .ok (.iconst 0, 1) := by decide +kernel
theorem dX10_isPlayer_15 : decode cX10_isPlayer 15 = .ok (.ireturn, 1) := by decide +kernel
theorem dX10_isHour_0 : decode cX10_isHour 0 = .ok (.iload_n 0, 1) := by decide +kernel
theorem dX10_isHour_1 : decode cX10_isHour 1 = .ok (.ifCond .lt 14, 3) := by decide +kernel
theorem dX10_isHour_4 : decode cX10_isHour 4 = .ok (.iload_n 0, 1) := by decide +kernel
theorem dX10_isHour_5 : decode cX10_isHour 5 = .ok (.sipush 999, 3) := by decide +kernel
theorem dX10_isHour_8 : decode cX10_isHour 8 = .ok (.if_icmp .gt 7, 3) := by decide +kernel
theorem dX10_isHour_11 : decode cX10_isHour 11 = .ok (.iconst 1, 1) := by decide +kernel
theorem dX10_isHour_12 : decode cX10_isHour 12 = .ok (.goto 4, 3) := by decide +kernel
theorem dX10_isHour_15 : decode cX10_isHour 15 = .ok (.iconst 0, 1) := by decide +kernel
theorem dX10_isHour_16 : decode cX10_isHour 16 = .ok (.ireturn, 1) := by decide +kernel
set_option maxRecDepth 20000 in
theorem ggX10_isSpot_X10_within : GoodIn wsX10_isSpot wsX10_within := goodIn_r _ [4] (by decide +kernel) (by decide +kernel)
set_option maxRecDepth 20000 in
theorem gX10_isSpot_X10_within : GoodIn wsX10_isSpot (va_wsS RX10 76 yX10_within wsX10_within) := goodIn_app (goodIn_of _ (by decide +kernel)) ggX10_isSpot_X10_within
theorem dX10_isSpot_0 : decode cX10_isSpot 0 = .ok (.iload_n 0, 1) := by decide +kernel
theorem dX10_isSpot_1 : decode cX10_isSpot 1 = .ok (.iconst 0, 1) := by decide +kernel
theorem dX10_isSpot_2 : decode cX10_isSpot 2 = .ok (.iconst 5, 1) := by decide +kernel
theorem dX10_isSpot_3 : decode cX10_isSpot 3 = .ok (.invokestatic 76, 3) := by decide +kernel
theorem dX10_isSpot_6 : decode cX10_isSpot 6 = .ok (.ifCond .eq 16, 3) := by decide +kernel
theorem dX10_isSpot_9 : decode cX10_isSpot 9 = .ok (.iload_n 1, 1) := by decide +kernel
theorem dX10_isSpot_10 : decode cX10_isSpot 10 = .ok (.iconst 0, 1) := by decide +kernel
theorem dX10_isSpot_11 : decode cX10_isSpot 11 = .ok (.iconst 2, 1) := by decide +kernel
theorem dX10_isSpot_12 : decode cX10_isSpot 12 = .ok (.invokestatic 76, 3) := by decide +kernel
theorem dX10_isSpot_15 : decode cX10_isSpot 15 = .ok (.ifCond .eq 7, 3) := by decide +kernel
theorem dX10_isSpot_18 : decode cX10_isSpot 18 = .ok (.iconst 1, 1) := by decide +kernel
theorem dX10_isSpot_19 : decode cX10_isSpot 19 = .ok (.goto 4, 3) := by decide +kernel
theorem dX10_isSpot_22 : decode cX10_isSpot 22 = .ok (.iconst 0, 1) := by decide +kernel
theorem dX10_isSpot_23 : decode cX10_isSpot 23 = .ok (.ireturn, 1) := by decide +kernel
theorem dX10_asNumber_0 : decode cX10_asNumber 0 = .ok (.iload_n 0, 1) := by decide +kernel
theorem dX10_asNumber_1 : decode cX10_asNumber 1 = .ok (.ifCond .eq 7, 3) := by decide +kernel
theorem dX10_asNumber_4 : decode cX10_asNumber 4 = .ok (.iconst 1, 1) := by decide +kernel
theorem dX10_asNumber_5 : decode cX10_asNumber 5 = .ok (.goto 4, 3) := by decide +kernel
theorem dX10_asNumber_8 : decode cX10_asNumber 8 = .ok (.iconst 0, 1) := by decide +kernel
theorem dX10_asNumber_9 : decode cX10_asNumber 9 = .ok (.ireturn, 1) := by decide +kernel
theorem dX10_exchange_0 : decode cX10_exchange 0 = .ok (.aload_n 0, 1) := by decide +kernel
theorem dX10_exchange_1 : decode cX10_exchange 1 = .ok (.iload_n 1, 1) := by decide +kernel
theorem dX10_exchange_2 : decode cX10_exchange 2 = .ok (.iaload, 1) := by decide +kernel
theorem dX10_exchange_3 : decode cX10_exchange 3 = .ok (.istore_n 3, 1) := by decide +kernel
theorem dX10_exchange_4 : decode cX10_exchange 4 = .ok (.aload_n 0, 1) := by decide +kernel
theorem dX10_exchange_5 : decode cX10_exchange 5 = .ok (.iload_n 1, 1) := by decide +kernel
theorem dX10_exchange_6 : decode cX10_exchange 6 = .ok (.iload_n 2, 1) := by decide +kernel
theorem dX10_exchange_7 : decode cX10_exchange 7 = .ok (.iastore, 1) := by decide +kernel
theorem dX10_exchange_8 : decode cX10_exchange 8 = .ok (.iload_n 3, 1) := by decide +kernel
theorem dX10_exchange_9 : decode cX10_exchange 9 = .ok (.ireturn, 1) := by decide +kernel
theorem dX10_closeOver_0 : decode cX10_closeOver 0 = .ok (.iconst 0, 1) := by decide +kernel
theorem dX10_closeOver_1 : decode cX10_closeOver 1 = .ok (.istore_n 2, 1) := by decide +kernel
theorem dX10_closeOver_2 : decode cX10_closeOver 2 = .ok (.iload_n 2, 1) := by decide +kernel
theorem dX10_closeOver_3 : decode cX10_closeOver 3 = .ok (.iload_n 1, 1) := by decide +kernel
theorem dX10_closeOver_4 : decode cX10_closeOver 4 = .ok (.if_icmp .ge 42, 3) := by decide +kernel
theorem dX10_closeOver_7 : decode cX10_closeOver 7 = .ok (.iconst 0, 1) := by decide +kernel
theorem dX10_closeOver_8 : decode cX10_closeOver 8 = .ok (.istore_n 3, 1) := by decide +kernel
theorem dX10_closeOver_9 : decode cX10_closeOver 9 = .ok (.iload_n 3, 1) := by decide +kernel
theorem dX10_closeOver_10 : decode cX10_closeOver 10 = .ok (.iload_n 1, 1) := by decide +kernel
theorem dX10_closeOver_11 : decode cX10_closeOver 11 = .ok (.if_icmp .ge 29, 3) := by decide +kernel
theorem dX10_closeOver_14 : decode cX10_closeOver 14 = .ok (.aload_n 0, 1) := by decide +kernel
theorem dX10_closeOver_15 : decode cX10_closeOver 15 = .ok (.iload_n 3, 1) := by decide +kernel
theorem dX10_closeOver_16 : decode cX10_closeOver 16 = .ok (.iaload, 1) := by decide +kernel
theorem dX10_closeOver_17 : decode cX10_closeOver 17 = .ok (.iload_n 2, 1) := by decide +kernel
theorem dX10_closeOver_18 : decode cX10_closeOver 18 = .ok (.ishr, 1) := by decide +kernel
theorem dX10_closeOver_19 : decode cX10_closeOver 19 = .ok (.iconst 1, 1) := by decide +kernel
theorem dX10_closeOver_20 : decode cX10_closeOver 20 = .ok (.iand, 1) := by decide +kernel
theorem dX10_closeOver_21 : decode cX10_closeOver 21 = .ok (.iconst 1, 1) := by decide +kernel
theorem dX10_closeOver_22 : decode cX10_closeOver 22 = .ok (.if_icmp .ne 12, 3) := by decide +kernel
theorem dX10_closeOver_25 : decode cX10_closeOver 25 = .ok (.aload_n 0, 1) := by decide +kernel
theorem dX10_closeOver_26 : decode cX10_closeOver 26 = .ok (.iload_n 3, 1) := by decide +kernel
theorem dX10_closeOver_27 : decode cX10_closeOver 27 = .ok (.dup2, 1) := by decide +kernel
theorem dX10_closeOver_28 : decode cX10_closeOver 28 = .ok (.iaload, 1) := by decide +kernel
theorem dX10_closeOver_29 : decode cX10_closeOver 29 = .ok (.aload_n 0, 1) := by decide +kernel
theorem dX10_closeOver_30 : decode cX10_closeOver 30 = .ok (.iload_n 2, 1) := by decide +kernel
theorem dX10_closeOver_31 : decode cX10_closeOver 31 = .ok (.iaload, 1) := by decide +kernel
theorem dX10_closeOver_32 : decode cX10_closeOver 32 = .ok (.ior, 1) := by decide +kernel
theorem dX10_closeOver_33 : decode cX10_closeOver 33 = .ok (.iastore, 1) := by decide +kernel
theorem dX10_closeOver_34 : decode cX10_closeOver 34 = .ok (.iinc 3 1, 3) := by decide +kernel
theorem dX10_closeOver_37 : decode cX10_closeOver 37 = .ok (.goto (-28), 3) := by decide +kernel
theorem dX10_closeOver_40 : decode cX10_closeOver 40 = .ok (.iinc 2 1, 3) := by decide +kernel
theorem dX10_closeOver_43 : decode cX10_closeOver 43 = .ok (.goto (-41), 3) := by decide +kernel
theorem dX10_closeOver_46 : decode cX10_closeOver 46 = .ok (.return_, 1) := by decide +kernel
theorem dX11_init_0 : decode cX11_init 0 = .ok (.aload_n 0, 1) := by decide +kernel
theorem dX11_init_1 : decode cX11_init 1 = .ok (.invokespecial 1, 3) := by decide +kernel
theorem dX11_init_4 : decode cX11_init 4 = .ok (.aload_n 0, 1) := by decide +kernel
theorem dX11_init_5 : decode cX11_init 5 = .ok (.bipush 8, 2) := by decide +kernel
theorem dX11_init_7 : decode cX11_init 7 = .ok (.newarray .int, 2) := by decide +kernel
theorem dX11_init_9 : decode cX11_init 9 = .ok (.putfield 7, 3) := by decide +kernel
theorem dX11_init_12 : decode cX11_init 12 = .ok (.aload_n 0, 1) := by decide +kernel
theorem dX11_init_13 : decode cX11_init 13 = .ok (.bipush 8, 2) := by decide +kernel
theorem dX11_init_15 : decode cX11_init 15 = .ok (.newarray .int, 2) := by decide +kernel
theorem dX11_init_17 : decode cX11_init 17 = .ok (.putfield 13, 3) := by decide +kernel
theorem dX11_init_20 : decode cX11_init 20 = .ok (.aload_n 0, 1) := by decide +kernel
theorem dX11_init_21 : decode cX11_init 21 = .ok (.bipush 12, 2) := by decide +kernel
theorem dX11_init_23 : decode cX11_init 23 = .ok (.newarray .int, 2) := by decide +kernel
theorem dX11_init_25 : decode cX11_init 25 = .ok (.putfield 16, 3) := by decide +kernel
theorem dX11_init_28 : decode cX11_init 28 = .ok (.aload_n 0, 1) := by decide +kernel
theorem dX11_init_29 : decode cX11_init 29 = .ok (.bipush 12, 2) := by decide +kernel
theorem dX11_init_31 : decode cX11_init 31 = .ok (.newarray .int, 2) := by decide +kernel
theorem dX11_init_33 : decode cX11_init 33 = .ok (.putfield 19, 3) := by decide +kernel
theorem dX11_init_36 : decode cX11_init 36 = .ok (.aload_n 0, 1) := by decide +kernel
theorem dX11_init_37 : decode cX11_init 37 = .ok (.bipush 12, 2) := by decide +kernel
theorem dX11_init_39 : decode cX11_init 39 = .ok (.newarray .int, 2) := by decide +kernel
theorem dX11_init_41 : decode cX11_init 41 = .ok (.putfield 22, 3) := by decide +kernel
theorem dX11_init_44 : decode cX11_init 44 = .ok (.aload_n 0, 1) := by decide +kernel
theorem dX11_init_45 : decode cX11_init 45 = .ok (.bipush 12, 2) := by decide +kernel
theorem dX11_init_47 : decode cX11_init 47 = .ok (.newarray .int, 2) := by decide +kernel
theorem dX11_init_49 : decode cX11_init 49 = .ok (.putfield 25, 3) := by decide +kernel
theorem dX11_init_52 : decode cX11_init 52 = .ok (.aload_n 0, 1) := by decide +kernel
theorem dX11_init_53 : decode cX11_init 53 = .ok (.bipush 12, 2) := by decide +kernel
theorem dX11_init_55 : decode cX11_init 55 = .ok (.newarray .int, 2) := by decide +kernel
theorem dX11_init_57 : decode cX11_init 57 = .ok (.putfield 28, 3) := by decide +kernel
theorem dX11_init_60 : decode cX11_init 60 = .ok (.aload_n 0, 1) := by decide +kernel
theorem dX11_init_61 : decode cX11_init 61 = .ok (.bipush 72, 2) := by decide +kernel
theorem dX11_init_63 : decode cX11_init 63 = .ok (.newarray .int, 2) := by decide +kernel
theorem dX11_init_65 : decode cX11_init 65 = .ok (.putfield 31, 3) := by decide +kernel
theorem dX11_init_68 : decode cX11_init 68 = .ok (.aload_n 0, 1) := by decide +kernel
theorem dX11_init_69 : decode cX11_init 69 = .ok (.sipush 216, 3) := by decide +kernel
theorem dX11_init_72 : decode cX11_init 72 = .ok (.newarray .int, 2) := by decide +kernel
theorem dX11_init_74 : decode cX11_init 74 = .ok (.putfield 34, 3) := by decide +kernel
theorem dX11_init_77 : decode cX11_init 77 = .ok (.aload_n 0, 1) := by decide +kernel
theorem dX11_init_78 : decode cX11_init 78 = .ok (.iconst 5, 1) := by decide +kernel
theorem dX11_init_79 : decode cX11_init 79 = .ok (.newarray .int, 2) := by decide +kernel
theorem dX11_init_81 : decode cX11_init 81 = .ok (.putfield 37, 3) := by decide +kernel
theorem dX11_init_84 : decode cX11_init 84 = .ok (.aload_n 0, 1) := by decide +kernel
theorem dX11_init_85 : decode cX11_init 85 = .ok (.bipush 40, 2) := by decide +kernel
theorem dX11_init_87 : decode cX11_init 87 = .ok (.newarray .int, 2) := by decide +kernel
theorem dX11_init_89 : decode cX11_init 89 = .ok (.putfield 40, 3) := by decide +kernel
theorem dX11_init_92 : decode cX11_init 92 = .ok (.aload_n 0, 1) := by decide +kernel
theorem dX11_init_93 : decode cX11_init 93 = .ok (.bipush 40, 2) := by decide +kernel
theorem dX11_init_95 : decode cX11_init 95 = .ok (.newarray .int, 2) := by decide +kernel
theorem dX11_init_97 : decode cX11_init 97 = .ok (.putfield 43, 3) := by decide +kernel
theorem dX11_init_100 : decode cX11_init 100 = .ok (.aload_n 0, 1) := by decide +kernel
theorem dX11_init_101 : decode cX11_init 101 = .ok (.bipush 40, 2) := by decide +kernel
theorem dX11_init_103 : decode cX11_init 103 = .ok (.newarray .int, 2) := by decide +kernel
theorem dX11_init_105 : decode cX11_init 105 = .ok (.putfield 46, 3) := by decide +kernel
theorem dX11_init_108 : decode cX11_init 108 = .ok (.aload_n 0, 1) := by decide +kernel
theorem dX11_init_109 : decode cX11_init 109 = .ok (.bipush 40, 2) := by decide +kernel
theorem dX11_init_111 : decode cX11_init 111 = .ok (.newarray .int, 2) := by decide +kernel
theorem dX11_init_113 : decode cX11_init 113 = .ok (.putfield 49, 3) := by decide +kernel
theorem dX11_init_116 : decode cX11_init 116 = .ok (.aload_n 0, 1) := by decide +kernel
theorem dX11_init_117 : decode cX11_init 117 = .ok (.bipush 40, 2) := by decide +kernel
theorem dX11_init_119 : decode cX11_init 119 = .ok (.newarray .int, 2) := by decide +kernel
theorem dX11_init_121 : decode cX11_init 121 = .ok (.putfield 52, 3) := by decide +kernel
theorem dX11_init_124 : decode cX11_init 124 = .ok (.aload_n 0, 1) := by decide +kernel
theorem dX11_init_125 : decode cX11_init 125 = .ok (.bipush 30, 2) := by decide +kernel
theorem dX11_init_127 : decode cX11_init 127 = .ok (.newarray .int, 2) := by decide +kernel
theorem dX11_init_129 : decode cX11_init 129 = .ok (.putfield 55, 3) := by decide +kernel
theorem dX11_init_132 : decode cX11_init 132 = .ok (.aload_n 0, 1) := by decide +kernel
theorem dX11_init_133 : decode cX11_init 133 = .ok (.bipush 30, 2) := by decide +kernel
theorem dX11_init_135 : decode cX11_init 135 = .ok (.newarray .int, 2) := by decide +kernel
theorem dX11_init_137 : decode cX11_init 137 = .ok (.putfield 58, 3) := by decide +kernel
theorem dX11_init_140 : decode cX11_init 140 = .ok (.aload_n 0, 1) := by decide +kernel
theorem dX11_init_141 : decode cX11_init 141 = .ok (.bipush 30, 2) := by decide +kernel
theorem dX11_init_143 : decode cX11_init 143 = .ok (.newarray .int, 2) := by decide +kernel
theorem dX11_init_145 : decode cX11_init 145 = .ok (.putfield 61, 3) := by decide +kernel
theorem dX11_init_148 : decode cX11_init 148 = .ok (.aload_n 0, 1) := by decide +kernel
