theorem dX0_init_0 : decode cX0_init 0 = .ok (.aload_n 0, 1) := by decide +kernel
theorem dX0_init_1 : decode cX0_init 1 = .ok (.invokespecial 3, 3) := by decide +kernel
theorem dX0_init_4 : decode cX0_init 4 = .ok (.aload_n 0, 1) := by decide +kernel
theorem dX0_init_5 : decode cX0_init 5 = .ok (.iconst 3, 1) := by decide +kernel
theorem dX0_init_6 : decode cX0_init 6 = .ok (.putfield 9, 3) := by decide +kernel
theorem dX0_init_9 : decode cX0_init 9 = .ok (.aload_n 0, 1) := by decide +kernel
theorem dX0_init_10 : decode cX0_init 10 = .ok (.iconst 2, 1) := by decide +kernel
theorem dX0_init_11 : decode cX0_init 11 = .ok (.putfield 15, 3) := by decide +kernel
theorem dX0_init_14 : decode cX0_init 14 = .ok (.aload_n 0, 1) := by decide +kernel
theorem dX0_init_15 : decode cX0_init 15 = .ok (.iconst 2, 1) := by decide +kernel
theorem dX0_init_16 : decode cX0_init 16 = .ok (.putfield 18, 3) := by decide +kernel
theorem dX0_init_19 : decode cX0_init 19 = .ok (.aload_n 0, 1) := by decide +kernel
theorem dX0_init_20 : decode cX0_init 20 = .ok (.bipush 40, 2) := by decide +kernel
theorem dX0_init_22 : decode cX0_init 22 = .ok (.newarray .int, 2) := by decide +kernel
theorem dX0_init_24 : decode cX0_init 24 = .ok (.putfield 21, 3) := by decide +kernel
theorem dX0_init_27 : decode cX0_init 27 = .ok (.aload_n 0, 1) := by decide +kernel
theorem dX0_init_28 : decode cX0_init 28 = .ok (.bipush 40, 2) := by decide +kernel
theorem dX0_init_30 : decode cX0_init 30 = .ok (.newarray .int, 2) := by decide +kernel
theorem dX0_init_32 : decode cX0_init 32 = .ok (.putfield 25, 3) := by decide +kernel
theorem dX0_init_35 : decode cX0_init 35 = .ok (.aload_n 0, 1) := by decide +kernel
theorem dX0_init_36 : decode cX0_init 36 = .ok (.bipush 40, 2) := by decide +kernel
theorem dX0_init_38 : decode cX0_init 38 = .ok (.newarray .int, 2) := by decide +kernel
theorem dX0_init_40 : decode cX0_init 40 = .ok (.putfield 28, 3) := by decide +kernel
theorem dX0_init_43 : decode cX0_init 43 = .ok (.aload_n 0, 1) := by decide +kernel
theorem dX0_init_44 : decode cX0_init 44 = .ok (.bipush 40, 2) := by decide +kernel
theorem dX0_init_46 : decode cX0_init 46 = .ok (.newarray .int, 2) := by decide +kernel
theorem dX0_init_48 : decode cX0_init 48 = .ok (.putfield 31, 3) := by decide +kernel
theorem dX0_init_51 : decode cX0_init 51 = .ok (.aload_n 0, 1) := by decide +kernel
theorem dX0_init_52 : decode cX0_init 52 = .ok (.bipush 40, 2) := by decide +kernel
theorem dX0_init_54 : decode cX0_init 54 = .ok (.newarray .int, 2) := by decide +kernel
theorem dX0_init_56 : decode cX0_init 56 = .ok (.putfield 34, 3) := by decide +kernel
theorem dX0_init_59 : decode cX0_init 59 = .ok (.aload_n 0, 1) := by decide +kernel
theorem dX0_init_60 : decode cX0_init 60 = .ok (.bipush 40, 2) := by decide +kernel
theorem dX0_init_62 : decode cX0_init 62 = .ok (.newarray .int, 2) := by decide +kernel
theorem dX0_init_64 : decode cX0_init 64 = .ok (.putfield 37, 3) := by decide +kernel
theorem dX0_init_67 : decode cX0_init 67 = .ok (.aload_n 0, 1) := by decide +kernel
theorem dX0_init_68 : decode cX0_init 68 = .ok (.bipush 40, 2) := by decide +kernel
theorem dX0_init_70 : decode cX0_init 70 = .ok (.newarray .int, 2) := by decide +kernel
theorem dX0_init_72 : decode cX0_init 72 = .ok (.putfield 40, 3) := by decide +kernel
theorem dX0_init_75 : decode cX0_init 75 = .ok (.aload_n 0, 1) := by decide +kernel
theorem dX0_init_76 : decode cX0_init 76 = .ok (.bipush 40, 2) := by decide +kernel
theorem dX0_init_78 : decode cX0_init 78 = .ok (.newarray .int, 2) := by decide +kernel
theorem dX0_init_80 : decode cX0_init 80 = .ok (.putfield 43, 3) := by decide +kernel
theorem dX0_init_83 : decode cX0_init 83 = .ok (.aload_n 0, 1) := by decide +kernel
theorem dX0_init_84 : decode cX0_init 84 = .ok (.bipush 10, 2) := by decide +kernel
theorem dX0_init_86 : decode cX0_init 86 = .ok (.newarray .int, 2) := by decide +kernel
theorem dX0_init_88 : decode cX0_init 88 = .ok (.putfield 46, 3) := by decide +kernel
theorem dX0_init_91 : decode cX0_init 91 = .ok (.return_, 1) := by decide +kernel
theorem dX0_add_0 : decode cX0_add 0 = .ok (.aload_n 0, 1) := by decide +kernel
theorem dX0_add_1 : decode cX0_add 1 = .ok (.getfield 21, 3) := by decide +kernel
theorem dX0_add_4 : decode cX0_add 4 = .ok (.aload_n 0, 1) := by decide +kernel
theorem dX0_add_5 : decode cX0_add 5 = .ok (.getfield 49, 3) := by decide +kernel
theorem dX0_add_8 : decode cX0_add 8 = .ok (.iload_n 1, 1) := by decide +kernel
theorem dX0_add_9 : decode cX0_add 9 = .ok (.iastore, 1) := by decide +kernel
theorem dX0_add_10 : decode cX0_add 10 = .ok (.aload_n 0, 1) := by decide +kernel
theorem dX0_add_11 : decode cX0_add 11 = .ok (.getfield 25, 3) := by decide +kernel
theorem dX0_add_14 : decode cX0_add 14 = .ok (.aload_n 0, 1) := by decide +kernel
theorem dX0_add_15 : decode cX0_add 15 = .ok (.getfield 49, 3) := by decide +kernel
theorem dX0_add_18 : decode cX0_add 18 = .ok (.iload_n 2, 1) := by decide +kernel
theorem dX0_add_19 : decode cX0_add 19 = .ok (.iastore, 1) := by decide +kernel
theorem dX0_add_20 : decode cX0_add 20 = .ok (.aload_n 0, 1) := by decide +kernel
theorem dX0_add_21 : decode cX0_add 21 = .ok (.getfield 28, 3) := by decide +kernel
theorem dX0_add_24 : decode cX0_add 24 = .ok (.aload_n 0, 1) := by decide +kernel
theorem dX0_add_25 : decode cX0_add 25 = .ok (.getfield 49, 3) := by decide +kernel
theorem dX0_add_28 : decode cX0_add 28 = .ok (.iload_n 3, 1) := by decide +kernel
theorem dX0_add_29 : decode cX0_add 29 = .ok (.iastore, 1) := by decide +kernel
theorem dX0_add_30 : decode cX0_add 30 = .ok (.aload_n 0, 1) := by decide +kernel
theorem dX0_add_31 : decode cX0_add 31 = .ok (.getfield 31, 3) := by decide +kernel
theorem dX0_add_34 : decode cX0_add 34 = .ok (.aload_n 0, 1) := by decide +kernel
theorem dX0_add_35 : decode cX0_add 35 = .ok (.getfield 49, 3) := by decide +kernel
theorem dX0_add_38 : decode cX0_add 38 = .ok (.iload 4, 2) := by decide +kernel
theorem dX0_add_40 : decode cX0_add 40 = .ok (.iastore, 1) := by decide +kernel
theorem dX0_add_41 : decode cX0_add 41 = .ok (.aload_n 0, 1) := by decide +kernel
theorem dX0_add_42 : decode cX0_add 42 = .ok (.getfield 34, 3) := by decide +kernel
theorem dX0_add_45 : decode cX0_add 45 = .ok (.aload_n 0, 1) := by decide +kernel
theorem dX0_add_46 : decode cX0_add 46 = .ok (.getfield 49, 3) := by decide +kernel
theorem dX0_add_49 : decode cX0_add 49 = .ok (.iload 5, 2) := by decide +kernel
theorem dX0_add_51 : decode cX0_add 51 = .ok (.iastore, 1) := by decide +kernel
theorem dX0_add_52 : decode cX0_add 52 = .ok (.aload_n 0, 1) := by decide +kernel
theorem dX0_add_53 : decode cX0_add 53 = .ok (.dup, 1) := by decide +kernel
theorem dX0_add_54 : decode cX0_add 54 = .ok (.getfield 49, 3) := by decide +kernel
theorem dX0_add_57 : decode cX0_add 57 = .ok (.iconst 1, 1) := by decide +kernel
theorem dX0_add_58 : decode cX0_add 58 = .ok (.iadd, 1) := by decide +kernel
theorem dX0_add_59 : decode cX0_add 59 = .ok (.putfield 49, 3) := by decide +kernel
theorem dX0_add_62 : decode cX0_add 62 = .ok (.aload_n 0, 1) := by decide +kernel
theorem dX0_add_63 : decode cX0_add 63 = .ok (.getfield 49, 3) := by decide +kernel
theorem dX0_add_66 : decode cX0_add 66 = .ok (.iconst 1, 1) := by decide +kernel
theorem dX0_add_67 : decode cX0_add 67 = .ok (.isub, 1) := by decide +kernel
theorem dX0_add_68 : decode cX0_add 68 = .ok (.ireturn, 1) := by decide +kernel
set_option maxRecDepth 20000 in
theorem ggX0_gainOf_X0_gainBy : GoodIn wsX0_gainOf wsX0_gainBy := goodIn_r _ [7, 8, 9, 10, 11, 12, 13, 14, 15, 16, 17, 18, 19, 20, 21, 22, 23, 24, 25, 26, 27, 28, 29, 30, 31, 32, 33, 34, 35, 36, 37, 38, 39, 40, 41, 42, 43, 44, 45, 46, 47, 48, 49, 50, 51, 52, 53, 54, 55] (by decide +kernel) (by decide +kernel)
set_option maxRecDepth 20000 in
theorem gX0_gainOf_X0_gainBy : GoodIn wsX0_gainOf (wsV RX0 52 RX0 yX0_gainBy wsX0_gainBy) := goodIn_app (goodIn_of _ (by decide +kernel)) ggX0_gainOf_X0_gainBy
theorem dX0_gainOf_0 : decode cX0_gainOf 0 = .ok (.iconst 0, 1) := by decide +kernel
theorem dX0_gainOf_1 : decode cX0_gainOf 1 = .ok (.istore_n 3, 1) := by decide +kernel
theorem dX0_gainOf_2 : decode cX0_gainOf 2 = .ok (.iconst 0, 1) := by decide +kernel
theorem dX0_gainOf_3 : decode cX0_gainOf 3 = .ok (.istore 4, 2) := by decide +kernel
theorem dX0_gainOf_5 : decode cX0_gainOf 5 = .ok (.iload 4, 2) := by decide +kernel
theorem dX0_gainOf_7 : decode cX0_gainOf 7 = .ok (.aload_n 0, 1) := by decide +kernel
theorem dX0_gainOf_8 : decode cX0_gainOf 8 = .ok (.getfield 49, 3) := by decide +kernel
theorem dX0_gainOf_11 : decode cX0_gainOf 11 = .ok (.if_icmp .ge 30, 3) := by decide +kernel
theorem dX0_gainOf_14 : decode cX0_gainOf 14 = .ok (.aload_n 0, 1) := by decide +kernel
theorem dX0_gainOf_15 : decode cX0_gainOf 15 = .ok (.getfield 21, 3) := by decide +kernel
theorem dX0_gainOf_18 : decode cX0_gainOf 18 = .ok (.iload 4, 2) := by decide +kernel
theorem dX0_gainOf_20 : decode cX0_gainOf 20 = .ok (.iaload, 1) := by decide +kernel
theorem dX0_gainOf_21 : decode cX0_gainOf 21 = .ok (.iload_n 1, 1) := by decide +kernel
theorem dX0_gainOf_22 : decode cX0_gainOf 22 = .ok (.if_icmp .ne 13, 3) := by decide +kernel
theorem dX0_gainOf_25 : decode cX0_gainOf 25 = .ok (.iload_n 3, 1) := by decide +kernel
theorem dX0_gainOf_26 : decode cX0_gainOf 26 = .ok (.aload_n 0, 1) := by decide +kernel
theorem dX0_gainOf_27 : decode cX0_gainOf 27 = .ok (.iload 4, 2) := by decide +kernel
theorem dX0_gainOf_29 : decode cX0_gainOf 29 = .ok (.aload_n 2, 1) := by decide +kernel
theorem dX0_gainOf_30 : decode cX0_gainOf 30 = .ok (.invokevirtual 52, 3) := by decide +kernel
theorem dX0_gainOf_33 : decode cX0_gainOf 33 = .ok (.iadd, 1) := by decide +kernel
theorem dX0_gainOf_34 : decode cX0_gainOf 34 = .ok (.istore_n 3, 1) := by decide +kernel
theorem dX0_gainOf_35 : decode cX0_gainOf 35 = .ok (.iinc 4 1, 3) := by decide +kernel
theorem dX0_gainOf_38 : decode cX0_gainOf 38 = .ok (.goto (-33), 3) := by decide +kernel
theorem dX0_gainOf_41 : decode cX0_gainOf 41 = .ok (.iload_n 3, 1) := by decide +kernel
theorem dX0_gainOf_42 : decode cX0_gainOf 42 = .ok (.ireturn, 1) := by decide +kernel
set_option maxRecDepth 20000 in
theorem ggX0_gainBy_X2_endOf : GoodIn wsX0_gainBy wsX2_endOf := goodIn_r _ [9, 10, 11, 12, 8, 13, 14, 15, 16, 17, 18, 19, 20, 21, 22, 36, 37, 38, 39, 40, 41, 42, 43, 44, 45, 46, 47, 48] (by decide +kernel) (by decide +kernel)
set_option maxRecDepth 20000 in
theorem gX0_gainBy_X2_endOf : GoodIn wsX0_gainBy (wsV RX0 61 RX2 yX2_endOf wsX2_endOf) := goodIn_app (goodIn_of _ (by decide +kernel)) ggX0_gainBy_X2_endOf
theorem dX0_gainBy_0 : decode cX0_gainBy 0 = .ok (.aload_n 0, 1) := by decide +kernel
theorem dX0_gainBy_1 : decode cX0_gainBy 1 = .ok (.getfield 31, 3) := by decide +kernel
theorem dX0_gainBy_4 : decode cX0_gainBy 4 = .ok (.iload_n 1, 1) := by decide +kernel
theorem dX0_gainBy_5 : decode cX0_gainBy 5 = .ok (.iaload, 1) := by decide +kernel
theorem dX0_gainBy_6 : decode cX0_gainBy 6 = .ok (.bipush 15, 2) := by decide +kernel
theorem dX0_gainBy_8 : decode cX0_gainBy 8 = .ok (.idiv, 1) := by decide +kernel
theorem dX0_gainBy_9 : decode cX0_gainBy 9 = .ok (.iconst 3, 1) := by decide +kernel
theorem dX0_gainBy_10 : decode cX0_gainBy 10 = .ok (.imul, 1) := by decide +kernel
theorem dX0_gainBy_11 : decode cX0_gainBy 11 = .ok (.aload_n 0, 1) := by decide +kernel
theorem dX0_gainBy_12 : decode cX0_gainBy 12 = .ok (.getfield 28, 3) := by decide +kernel
theorem dX0_gainBy_15 : decode cX0_gainBy 15 = .ok (.iload_n 1, 1) := by decide +kernel
theorem dX0_gainBy_16 : decode cX0_gainBy 16 = .ok (.iaload, 1) := by decide +kernel
theorem dX0_gainBy_17 : decode cX0_gainBy 17 = .ok (.iadd, 1) := by decide +kernel
theorem dX0_gainBy_18 : decode cX0_gainBy 18 = .ok (.istore_n 3, 1) := by decide +kernel
theorem dX0_gainBy_19 : decode cX0_gainBy 19 = .ok (.aload_n 2, 1) := by decide +kernel
theorem dX0_gainBy_20 : decode cX0_gainBy 20 = .ok (.getfield 56, 3) := by decide +kernel
theorem dX0_gainBy_23 : decode cX0_gainBy 23 = .ok (.aload_n 0, 1) := by decide +kernel
theorem dX0_gainBy_24 : decode cX0_gainBy 24 = .ok (.getfield 25, 3) := by decide +kernel
theorem dX0_gainBy_27 : decode cX0_gainBy 27 = .ok (.iload_n 1, 1) := by decide +kernel
theorem dX0_gainBy_28 : decode cX0_gainBy 28 = .ok (.iaload, 1) := by decide +kernel
theorem dX0_gainBy_29 : decode cX0_gainBy 29 = .ok (.bipush 18, 2) := by decide +kernel
theorem dX0_gainBy_31 : decode cX0_gainBy 31 = .ok (.imul, 1) := by decide +kernel
theorem dX0_gainBy_32 : decode cX0_gainBy 32 = .ok (.iload_n 3, 1) := by decide +kernel
theorem dX0_gainBy_33 : decode cX0_gainBy 33 = .ok (.iadd, 1) := by decide +kernel
theorem dX0_gainBy_34 : decode cX0_gainBy 34 = .ok (.iaload, 1) := by decide +kernel
theorem dX0_gainBy_35 : decode cX0_gainBy 35 = .ok (.istore 4, 2) := by decide +kernel
theorem dX0_gainBy_37 : decode cX0_gainBy 37 = .ok (.iload 4, 2) := by decide +kernel
theorem dX0_gainBy_39 : decode cX0_gainBy 39 = .ok (.ifCond .ne 5, 3) := by decide +kernel
theorem dX0_gainBy_42 : decode cX0_gainBy 42 = .ok (.iconst 0, 1) := by decide +kernel
theorem dX0_gainBy_43 : decode cX0_gainBy 43 = .ok (.ireturn, 1) := by decide +kernel
theorem dX0_gainBy_44 : decode cX0_gainBy 44 = .ok (.aload_n 2, 1) := by decide +kernel
theorem dX0_gainBy_45 : decode cX0_gainBy 45 = .ok (.aload_n 0, 1) := by decide +kernel
theorem dX0_gainBy_46 : decode cX0_gainBy 46 = .ok (.getfield 25, 3) := by decide +kernel
theorem dX0_gainBy_49 : decode cX0_gainBy 49 = .ok (.iload_n 1, 1) := by decide +kernel
theorem dX0_gainBy_50 : decode cX0_gainBy 50 = .ok (.iaload, 1) := by decide +kernel
theorem dX0_gainBy_51 : decode cX0_gainBy 51 = .ok (.invokevirtual 61, 3) := by decide +kernel
theorem dX0_gainBy_54 : decode cX0_gainBy 54 = .ok (.aload_n 0, 1) := by decide +kernel
theorem dX0_gainBy_55 : decode cX0_gainBy 55 = .ok (.getfield 28, 3) := by decide +kernel
theorem dX0_gainBy_58 : decode cX0_gainBy 58 = .ok (.iload_n 1, 1) := by decide +kernel
theorem dX0_gainBy_59 : decode cX0_gainBy 59 = .ok (.iaload, 1) := by decide +kernel
theorem dX0_gainBy_60 : decode cX0_gainBy 60 = .ok (.if_icmp .ne 18, 3) := by decide +kernel
theorem dX0_gainBy_63 : decode cX0_gainBy 63 = .ok (.aload_n 0, 1) := by decide +kernel
theorem dX0_gainBy_64 : decode cX0_gainBy 64 = .ok (.getfield 34, 3) := by decide +kernel
theorem dX0_gainBy_67 : decode cX0_gainBy 67 = .ok (.iload_n 1, 1) := by decide +kernel
theorem dX0_gainBy_68 : decode cX0_gainBy 68 = .ok (.iaload, 1) := by decide +kernel
theorem dX0_gainBy_69 : decode cX0_gainBy 69 = .ok (.iload 4, 2) := by decide +kernel
theorem dX0_gainBy_71 : decode cX0_gainBy 71 = .ok (.imul, 1) := by decide +kernel
theorem dX0_gainBy_72 : decode cX0_gainBy 72 = .ok (.bipush 100, 2) := by decide +kernel
theorem dX0_gainBy_74 : decode cX0_gainBy 74 = .ok (.idiv, 1) := by decide +kernel
theorem dX0_gainBy_75 : decode cX0_gainBy 75 = .ok (.goto 4, 3) := by decide +kernel
theorem dX0_gainBy_78 : decode cX0_gainBy 78 = .ok (.iconst 0, 1) := by decide +kernel
theorem dX0_gainBy_79 : decode cX0_gainBy 79 = .ok (.istore 5, 2) := by decide +kernel
theorem dX0_gainBy_81 : decode cX0_gainBy 81 = .ok (.iload 5, 2) := by decide +kernel
theorem dX0_gainBy_83 : decode cX0_gainBy 83 = .ok (.aload_n 0, 1) := by decide +kernel
theorem dX0_gainBy_84 : decode cX0_gainBy 84 = .ok (.getfield 34, 3) := by decide +kernel
theorem dX0_gainBy_87 : decode cX0_gainBy 87 = .ok (.iload_n 1, 1) := by decide +kernel
theorem dX0_gainBy_88 : decode cX0_gainBy 88 = .ok (.iaload, 1) := by decide +kernel
theorem dX0_gainBy_89 : decode cX0_gainBy 89 = .ok (.isub, 1) := by decide +kernel
theorem dX0_gainBy_90 : decode cX0_gainBy 90 = .ok (.ireturn, 1) := by decide +kernel
theorem dX0_countOn_0 : decode cX0_countOn 0 = .ok (.iconst 0, 1) := by decide +kernel
theorem dX0_countOn_1 : decode cX0_countOn 1 = .ok (.istore_n 2, 1) := by decide +kernel
theorem dX0_countOn_2 : decode cX0_countOn 2 = .ok (.iconst 0, 1) := by decide +kernel
theorem dX0_countOn_3 : decode cX0_countOn 3 = .ok (.istore_n 3, 1) := by decide +kernel
theorem dX0_countOn_4 : decode cX0_countOn 4 = .ok (.iload_n 3, 1) := by decide +kernel
theorem dX0_countOn_5 : decode cX0_countOn 5 = .ok (.aload_n 0, 1) := by decide +kernel
theorem dX0_countOn_6 : decode cX0_countOn 6 = .ok (.getfield 49, 3) := by decide +kernel
theorem dX0_countOn_9 : decode cX0_countOn 9 = .ok (.if_icmp .ge 22, 3) := by decide +kernel
theorem dX0_countOn_12 : decode cX0_countOn 12 = .ok (.aload_n 0, 1) := by decide +kernel
theorem dX0_countOn_13 : decode cX0_countOn 13 = .ok (.getfield 25, 3) := by decide +kernel
theorem dX0_countOn_16 : decode cX0_countOn 16 = .ok (.iload_n 3, 1) := by decide +kernel
theorem dX0_countOn_17 : decode cX0_countOn 17 = .ok (.iaload, 1) := by decide +kernel
theorem dX0_countOn_18 : decode cX0_countOn 18 = .ok (.iload_n 1, 1) := by decide +kernel
theorem dX0_countOn_19 : decode cX0_countOn 19 = .ok (.if_icmp .ne 6, 3) := by decide +kernel
theorem dX0_countOn_22 : decode cX0_countOn 22 = .ok (.iinc 2 1, 3) := by decide +kernel
theorem dX0_countOn_25 : decode cX0_countOn 25 = .ok (.iinc 3 1, 3) := by decide +kernel
theorem dX0_countOn_28 : decode cX0_countOn 28 = .ok (.goto (-24), 3) := by decide +kernel
theorem dX0_countOn_31 : decode cX0_countOn 31 = .ok (.iload_n 2, 1) := by decide +kernel
theorem dX0_countOn_32 : decode cX0_countOn 32 = .ok (.ireturn, 1) := by decide +kernel
theorem dX0_handsOn_0 : decode cX0_handsOn 0 = .ok (.iconst 0, 1) := by decide +kernel
theorem dX0_handsOn_1 : decode cX0_handsOn 1 = .ok (.istore_n 2, 1) := by decide +kernel
theorem dX0_handsOn_2 : decode cX0_handsOn 2 = .ok (.iconst 0, 1) := by decide +kernel
theorem dX0_handsOn_3 : decode cX0_handsOn 3 = .ok (.istore_n 3, 1) := by decide +kernel
theorem dX0_handsOn_4 : decode cX0_handsOn 4 = .ok (.iload_n 3, 1) := by decide +kernel
theorem dX0_handsOn_5 : decode cX0_handsOn 5 = .ok (.aload_n 0, 1) := by decide +kernel
theorem dX0_handsOn_6 : decode cX0_handsOn 6 = .ok (.getfield 49, 3) := by decide +kernel
theorem dX0_handsOn_9 : decode cX0_handsOn 9 = .ok (.if_icmp .ge 30, 3) := by decide +kernel
theorem dX0_handsOn_12 : decode cX0_handsOn 12 = .ok (.aload_n 0, 1) := by decide +kernel
theorem dX0_handsOn_13 : decode cX0_handsOn 13 = .ok (.getfield 25, 3) := by decide +kernel
theorem dX0_handsOn_16 : decode cX0_handsOn 16 = .ok (.iload_n 3, 1) := by decide +kernel
theorem dX0_handsOn_17 : decode cX0_handsOn 17 = .ok (.iaload, 1) := by decide +kernel
theorem dX0_handsOn_18 : decode cX0_handsOn 18 = .ok (.iload_n 1, 1) := by decide +kernel
theorem dX0_handsOn_19 : decode cX0_handsOn 19 = .ok (.if_icmp .ne 14, 3) := by decide +kernel
theorem dX0_handsOn_22 : decode cX0_handsOn 22 = .ok (.iload_n 2, 1) := by decide +kernel
theorem dX0_handsOn_23 : decode cX0_handsOn 23 = .ok (.iconst 1, 1) := by decide +kernel
theorem dX0_handsOn_24 : decode cX0_handsOn 24 = .ok (.aload_n 0, 1) := by decide +kernel
theorem dX0_handsOn_25 : decode cX0_handsOn 25 = .ok (.getfield 21, 3) := by decide +kernel
theorem dX0_handsOn_28 : decode cX0_handsOn 28 = .ok (.iload_n 3, 1) := by decide +kernel
theorem dX0_handsOn_29 : decode cX0_handsOn 29 = .ok (.iaload, 1) := by decide +kernel
theorem dX0_handsOn_30 : decode cX0_handsOn 30 = .ok (.ishl, 1) := by decide +kernel
theorem dX0_handsOn_31 : decode cX0_handsOn 31 = .ok (.ior, 1) := by decide +kernel
theorem dX0_handsOn_32 : decode cX0_handsOn 32 = .ok (.istore_n 2, 1) := by decide +kernel
theorem dX0_handsOn_33 : decode cX0_handsOn 33 = .ok (.iinc 3 1, 3) := by decide +kernel
theorem dX0_handsOn_36 : decode cX0_handsOn 36 = .ok (.goto (-32), 3) := by decide +kernel
theorem dX0_handsOn_39 : decode cX0_handsOn 39 = .ok (.iload_n 2, 1) := by decide +kernel
theorem dX0_handsOn_40 : decode cX0_handsOn 40 = .ok (.ireturn, 1) := by decide +kernel
theorem dX0_areAlike_0 : decode cX0_areAlike 0 = .ok (.aload_n 0, 1) := by decide +kernel
theorem dX0_areAlike_1 : decode cX0_areAlike 1 = .ok (.getfield 25, 3) := by decide +kernel
theorem dX0_areAlike_4 : decode cX0_areAlike 4 = .ok (.iload_n 1, 1) := by decide +kernel
theorem dX0_areAlike_5 : decode cX0_areAlike 5 = .ok (.iaload, 1) := by decide +kernel
theorem dX0_areAlike_6 : decode cX0_areAlike 6 = .ok (.aload_n 0, 1) := by decide +kernel
theorem dX0_areAlike_7 : decode cX0_areAlike 7 = .ok (.getfield 25, 3) := by decide +kernel
theorem dX0_areAlike_10 : decode cX0_areAlike 10 = .ok (.iload_n 2, 1) := by decide +kernel
theorem dX0_areAlike_11 : decode cX0_areAlike 11 = .ok (.iaload, 1) := by decide +kernel
theorem dX0_areAlike_12 : decode cX0_areAlike 12 = .ok (.if_icmp .ne 18, 3) := by decide +kernel
theorem dX0_areAlike_15 : decode cX0_areAlike 15 = .ok (.aload_n 0, 1) := by decide +kernel
theorem dX0_areAlike_16 : decode cX0_areAlike 16 = .ok (.getfield 28, 3) := by decide +kernel
theorem dX0_areAlike_19 : decode cX0_areAlike 19 = .ok (.iload_n 1, 1) := by decide +kernel
theorem dX0_areAlike_20 : decode cX0_areAlike 20 = .ok (.iaload, 1) := by decide +kernel
theorem dX0_areAlike_21 : decode cX0_areAlike 21 = .ok (.aload_n 0, 1) := by decide +kernel
theorem dX0_areAlike_22 : decode cX0_areAlike 22 = .ok (.getfield 28, 3) := by decide +kernel
theorem dX0_areAlike_25 : decode cX0_areAlike 25 = .ok (.iload_n 2, 1) := by decide +kernel
theorem dX0_areAlike_26 : decode cX0_areAlike 26 = .ok (.iaload, 1) := by decide +kernel
theorem dX0_areAlike_27 : decode cX0_areAlike 27 = .ok (.if_icmp .eq 5, 3) := by decide +kernel
theorem dX0_areAlike_30 : decode cX0_areAlike 30 = .ok (.iconst 0, 1) := by decide +kernel
theorem dX0_areAlike_31 : decode cX0_areAlike 31 = .ok (.ireturn, 1) := by decide +kernel
theorem dX0_areAlike_32 : decode cX0_areAlike 32 = .ok (.aload_n 0, 1) := by decide +kernel
theorem dX0_areAlike_33 : decode cX0_areAlike 33 = .ok (.getfield 31, 3) := by decide +kernel
theorem dX0_areAlike_36 : decode cX0_areAlike 36 = .ok (.iload_n 1, 1) := by decide +kernel
theorem dX0_areAlike_37 : decode cX0_areAlike 37 = .ok (.iaload, 1) := by decide +kernel
theorem dX0_areAlike_38 : decode cX0_areAlike 38 = .ok (.aload_n 0, 1) := by decide +kernel
theorem dX0_areAlike_39 : decode cX0_areAlike 39 = .ok (.getfield 31, 3) := by decide +kernel
theorem dX0_areAlike_42 : decode cX0_areAlike 42 = .ok (.iload_n 2, 1) := by decide +kernel
theorem dX0_areAlike_43 : decode cX0_areAlike 43 = .ok (.iaload, 1) := by decide +kernel
theorem dX0_areAlike_44 : decode cX0_areAlike 44 = .ok (.if_icmp .ge 19, 3) := by decide +kernel
theorem dX0_areAlike_47 : decode cX0_areAlike 47 = .ok (.aload_n 0, 1) := by decide +kernel
theorem dX0_areAlike_48 : decode cX0_areAlike 48 = .ok (.getfield 31, 3) := by decide +kernel
theorem dX0_areAlike_51 : decode cX0_areAlike 51 = .ok (.iload_n 2, 1) := by decide +kernel
theorem dX0_areAlike_52 : decode cX0_areAlike 52 = .ok (.iaload, 1) := by decide +kernel
theorem dX0_areAlike_53 : decode cX0_areAlike 53 = .ok (.aload_n 0, 1) := by decide +kernel
theorem dX0_areAlike_54 : decode cX0_areAlike 54 = .ok (.getfield 31, 3) := by decide +kernel
theorem dX0_areAlike_57 : decode cX0_areAlike 57 = .ok (.iload_n 1, 1) := by decide +kernel
theorem dX0_areAlike_58 : decode cX0_areAlike 58 = .ok (.iaload, 1) := by decide +kernel
theorem dX0_areAlike_59 : decode cX0_areAlike 59 = .ok (.isub, 1) := by decide +kernel
theorem dX0_areAlike_60 : decode cX0_areAlike 60 = .ok (.goto 16, 3) := by decide +kernel
theorem dX0_areAlike_63 : decode cX0_areAlike 63 = .ok (.aload_n 0, 1) := by decide +kernel
theorem dX0_areAlike_64 : decode cX0_areAlike 64 = .ok (.getfield 31, 3) := by decide +kernel
theorem dX0_areAlike_67 : decode cX0_areAlike 67 = .ok (.iload_n 1, 1) := by decide +kernel
theorem dX0_areAlike_68 : decode cX0_areAlike 68 = .ok (.iaload, 1) := by decide +kernel
theorem dX0_areAlike_69 : decode cX0_areAlike 69 = .ok (.aload_n 0, 1) := by decide +kernel
theorem dX0_areAlike_70 : decode cX0_areAlike 70 = .ok (.getfield 31, 3) := by decide +kernel
theorem dX0_areAlike_73 : decode cX0_areAlike 73 = .ok (.iload_n 2, 1) := by decide +kernel
theorem dX0_areAlike_74 : decode cX0_areAlike 74 = .ok (.iaload, 1) := by decide +kernel
theorem dX0_areAlike_75 : decode cX0_areAlike 75 = .ok (.isub, 1) := by decide +kernel
theorem dX0_areAlike_76 : decode cX0_areAlike 76 = .ok (.istore_n 3, 1) := by decide +kernel
theorem dX0_areAlike_77 : decode cX0_areAlike 77 = .ok (.aload_n 0, 1) := by decide +kernel
theorem dX0_areAlike_78 : decode cX0_areAlike 78 = .ok (.getfield 34, 3) := by decide +kernel
theorem dX0_areAlike_81 : decode cX0_areAlike 81 = .ok (.iload_n 1, 1) := by decide +kernel
theorem dX0_areAlike_82 : decode cX0_areAlike 82 = .ok (.iaload, 1) := by decide +kernel
theorem dX0_areAlike_83 : decode cX0_areAlike 83 = .ok (.aload_n 0, 1) := by decide +kernel
theorem dX0_areAlike_84 : decode cX0_areAlike 84 = .ok (.getfield 34, 3) := by decide +kernel
theorem dX0_areAlike_87 : decode cX0_areAlike 87 = .ok (.iload_n 2, 1) := by decide +kernel
theorem dX0_areAlike_88 : decode cX0_areAlike 88 = .ok (.iaload, 1) := by decide +kernel
theorem dX0_areAlike_89 : decode cX0_areAlike 89 = .ok (.if_icmp .le 12, 3) := by decide +kernel
theorem dX0_areAlike_92 : decode cX0_areAlike 92 = .ok (.aload_n 0, 1) := by decide +kernel
theorem dX0_areAlike_93 : decode cX0_areAlike 93 = .ok (.getfield 34, 3) := by decide +kernel
theorem dX0_areAlike_96 : decode cX0_areAlike 96 = .ok (.iload_n 1, 1) := by decide +kernel
theorem dX0_areAlike_97 : decode cX0_areAlike 97 = .ok (.iaload, 1) := by decide +kernel
theorem dX0_areAlike_98 : decode cX0_areAlike 98 = .ok (.goto 9, 3) := by decide +kernel
theorem dX0_areAlike_101 : decode cX0_areAlike 101 = .ok (.aload_n 0, 1) := by decide +kernel
theorem dX0_areAlike_102 : decode cX0_areAlike 102 = .ok (.getfield 34, 3) := by decide +kernel
theorem dX0_areAlike_105 : decode cX0_areAlike 105 = .ok (.iload_n 2, 1) := by decide +kernel
theorem dX0_areAlike_106 : decode cX0_areAlike 106 = .ok (.iaload, 1) := by decide +kernel
theorem dX0_areAlike_107 : decode cX0_areAlike 107 = .ok (.istore 4, 2) := by decide +kernel
theorem dX0_areAlike_109 : decode cX0_areAlike 109 = .ok (.aload_n 0, 1) := by decide +kernel
theorem dX0_areAlike_110 : decode cX0_areAlike 110 = .ok (.getfield 34, 3) := by decide +kernel
theorem dX0_areAlike_113 : decode cX0_areAlike 113 = .ok (.iload_n 1, 1) := by decide +kernel
theorem dX0_areAlike_114 : decode cX0_areAlike 114 = .ok (.iaload, 1) := by decide +kernel
theorem dX0_areAlike_115 : decode cX0_areAlike 115 = .ok (.aload_n 0, 1) := by decide +kernel
theorem dX0_areAlike_116 : decode cX0_areAlike 116 = .ok (.getfield 34, 3) := by decide +kernel
theorem dX0_areAlike_119 : decode cX0_areAlike 119 = .ok (.iload_n 2, 1) := by decide +kernel
theorem dX0_areAlike_120 : decode cX0_areAlike 120 = .ok (.iaload, 1) := by decide +kernel
theorem dX0_areAlike_121 : decode cX0_areAlike 121 = .ok (.if_icmp .le 12, 3) := by decide +kernel
theorem dX0_areAlike_124 : decode cX0_areAlike 124 = .ok (.aload_n 0, 1) := by decide +kernel
theorem dX0_areAlike_125 : decode cX0_areAlike 125 = .ok (.getfield 34, 3) := by decide +kernel
theorem dX0_areAlike_128 : decode cX0_areAlike 128 = .ok (.iload_n 2, 1) := by decide +kernel
theorem dX0_areAlike_129 : decode cX0_areAlike 129 = .ok (.iaload, 1) := by decide +kernel
theorem dX0_areAlike_130 : decode cX0_areAlike 130 = .ok (.goto 9, 3) := by decide +kernel
theorem dX0_areAlike_133 : decode cX0_areAlike 133 = .ok (.aload_n 0, 1) := by decide +kernel
theorem dX0_areAlike_134 : decode cX0_areAlike 134 = .ok (.getfield 34, 3) := by decide +kernel
theorem dX0_areAlike_137 : decode cX0_areAlike 137 = .ok (.iload_n 1, 1) := by decide +kernel
theorem dX0_areAlike_138 : decode cX0_areAlike 138 = .ok (.iaload, 1) := by decide +kernel
theorem dX0_areAlike_139 : decode cX0_areAlike 139 = .ok (.istore 5, 2) := by decide +kernel
theorem dX0_areAlike_141 : decode cX0_areAlike 141 = .ok (.iload_n 3, 1) := by decide +kernel
theorem dX0_areAlike_142 : decode cX0_areAlike 142 = .ok (.aload_n 0, 1) := by decide +kernel
theorem dX0_areAlike_143 : decode cX0_areAlike 143 = .ok (.getfield 9, 3) := by decide +kernel
theorem dX0_areAlike_146 : decode cX0_areAlike 146 = .ok (.if_icmp .gt 19, 3) := by decide +kernel
theorem dX0_areAlike_149 : decode cX0_areAlike 149 = .ok (.iload 4, 2) := by decide +kernel
theorem dX0_areAlike_151 : decode cX0_areAlike 151 = .ok (.aload_n 0, 1) := by decide +kernel
theorem dX0_areAlike_152 : decode cX0_areAlike 152 = .ok (.getfield 15, 3) := by decide +kernel
theorem dX0_areAlike_155 : decode cX0_areAlike 155 = .ok (.iload 5, 2) := by decide +kernel
theorem dX0_areAlike_157 : decode cX0_areAlike 157 = .ok (.imul, 1) := by decide +kernel
theorem dX0_areAlike_158 : decode cX0_areAlike 158 = .ok (.if_icmp .gt 7, 3) := by decide +kernel
theorem dX0_areAlike_161 : decode cX0_areAlike 161 = .ok (.iconst 1, 1) := by decide +kernel
theorem dX0_areAlike_162 : decode cX0_areAlike 162 = .ok (.goto 4, 3) := by decide +kernel
theorem dX0_areAlike_165 : decode cX0_areAlike 165 = .ok (.iconst 0, 1) := by decide +kernel
theorem dX0_areAlike_166 : decode cX0_areAlike 166 = .ok (.ireturn, 1) := by decide +kernel
set_option maxRecDepth 20000 in
theorem ggX0_countPairs_J7_fill_53178 : GoodIn wsX0_countPairs wsJ7_fill_53178 := goodIn_r _ [7] (by decide +kernel) (by decide +kernel)
set_option maxRecDepth 20000 in
theorem gX0_countPairs_J7_fill_53178 : GoodIn wsX0_countPairs (va_wsS RX0 65 yJ7_fill_53178 wsJ7_fill_53178) := goodIn_app (goodIn_of _ (by decide +kernel)) ggX0_countPairs_J7_fill_53178
set_option maxRecDepth 20000 in
theorem ggX0_countPairs_X0_seekFree : GoodIn wsX0_countPairs wsX0_seekFree := goodIn_r _ [12, 13, 14, 2, 3, 1, 4, 5, 6, 7, 15, 16, 17, 11, 18, 19, 20, 21, 22, 23, 24, 29, 30, 31, 32, 33, 34, 35, 36, 37, 38, 39, 40, 41] (by decide +kernel) (by decide +kernel)
set_option maxRecDepth 20000 in
theorem gX0_countPairs_X0_seekFree : GoodIn wsX0_countPairs (wsV RX0 71 RX0 yX0_seekFree wsX0_seekFree) := goodIn_app (goodIn_of _ (by decide +kernel)) ggX0_countPairs_X0_seekFree
set_option maxRecDepth 20000 in
theorem ggX0_countPairs_X0_pairUpTo : GoodIn wsX0_countPairs wsX0_pairUpTo := goodIn_r _ [28, 13, 1, 29, 30, 31, 32, 33, 34, 35, 36, 37, 38, 39, 40, 41] (by decide +kernel) (by decide +kernel)
set_option maxRecDepth 20000 in
theorem gX0_countPairs_X0_pairUpTo : GoodIn wsX0_countPairs (wsV RX0 75 RX0 yX0_pairUpTo wsX0_pairUpTo) := goodIn_app (goodIn_of _ (by decide +kernel)) ggX0_countPairs_X0_pairUpTo
theorem dX0_countPairs_0 : decode cX0_countPairs 0 = .ok (.aload_n 0, 1) := by decide +kernel
theorem dX0_countPairs_1 : decode cX0_countPairs 1 = .ok (.getfield 37, 3) := by decide +kernel
theorem dX0_countPairs_4 : decode cX0_countPairs 4 = .ok (.iconst (-1), 1) := by decide +kernel
theorem dX0_countPairs_5 : decode cX0_countPairs 5 = .ok (.invokestatic 65, 3) := by decide +kernel
theorem dX0_countPairs_8 : decode cX0_countPairs 8 = .ok (.iconst 0, 1) := by decide +kernel
theorem dX0_countPairs_9 : decode cX0_countPairs 9 = .ok (.istore_n 3, 1) := by decide +kernel
theorem dX0_countPairs_10 : decode cX0_countPairs 10 = .ok (.iconst 0, 1) := by decide +kernel
theorem dX0_countPairs_11 : decode cX0_countPairs 11 = .ok (.istore 4, 2) := by decide +kernel
theorem dX0_countPairs_13 : decode cX0_countPairs 13 = .ok (.iload 4, 2) := by decide +kernel
theorem dX0_countPairs_15 : decode cX0_countPairs 15 = .ok (.aload_n 0, 1) := by decide +kernel
theorem dX0_countPairs_16 : decode cX0_countPairs 16 = .ok (.getfield 49, 3) := by decide +kernel
theorem dX0_countPairs_19 : decode cX0_countPairs 19 = .ok (.if_icmp .ge 44, 3) := by decide +kernel
theorem dX0_countPairs_22 : decode cX0_countPairs 22 = .ok (.aload_n 0, 1) := by decide +kernel
theorem dX0_countPairs_23 : decode cX0_countPairs 23 = .ok (.getfield 21, 3) := by decide +kernel
theorem dX0_countPairs_26 : decode cX0_countPairs 26 = .ok (.iload 4, 2) := by decide +kernel
theorem dX0_countPairs_28 : decode cX0_countPairs 28 = .ok (.iaload, 1) := by decide +kernel
theorem dX0_countPairs_29 : decode cX0_countPairs 29 = .ok (.iload_n 1, 1) := by decide +kernel
theorem dX0_countPairs_30 : decode cX0_countPairs 30 = .ok (.if_icmp .ne 27, 3) := by decide +kernel
theorem dX0_countPairs_33 : decode cX0_countPairs 33 = .ok (.aload_n 0, 1) := by decide +kernel
theorem dX0_countPairs_34 : decode cX0_countPairs 34 = .ok (.iload 4, 2) := by decide +kernel
theorem dX0_countPairs_36 : decode cX0_countPairs 36 = .ok (.iload_n 2, 1) := by decide +kernel
theorem dX0_countPairs_37 : decode cX0_countPairs 37 = .ok (.invokevirtual 71, 3) := by decide +kernel
theorem dX0_countPairs_40 : decode cX0_countPairs 40 = .ok (.istore 5, 2) := by decide +kernel
theorem dX0_countPairs_42 : decode cX0_countPairs 42 = .ok (.iload 5, 2) := by decide +kernel
theorem dX0_countPairs_44 : decode cX0_countPairs 44 = .ok (.iconst (-1), 1) := by decide +kernel
theorem dX0_countPairs_45 : decode cX0_countPairs 45 = .ok (.if_icmp .eq 12, 3) := by decide +kernel
theorem dX0_countPairs_48 : decode cX0_countPairs 48 = .ok (.aload_n 0, 1) := by decide +kernel
theorem dX0_countPairs_49 : decode cX0_countPairs 49 = .ok (.iload 5, 2) := by decide +kernel
theorem dX0_countPairs_51 : decode cX0_countPairs 51 = .ok (.invokevirtual 75, 3) := by decide +kernel
theorem dX0_countPairs_54 : decode cX0_countPairs 54 = .ok (.iinc 3 1, 3) := by decide +kernel
theorem dX0_countPairs_57 : decode cX0_countPairs 57 = .ok (.iinc 4 1, 3) := by decide +kernel
theorem dX0_countPairs_60 : decode cX0_countPairs 60 = .ok (.goto (-47), 3) := by decide +kernel
theorem dX0_countPairs_63 : decode cX0_countPairs 63 = .ok (.iload_n 3, 1) := by decide +kernel
theorem dX0_countPairs_64 : decode cX0_countPairs 64 = .ok (.ireturn, 1) := by decide +kernel
set_option maxRecDepth 20000 in
theorem ggX0_seekFree_J7_fill_53178 : GoodIn wsX0_seekFree wsJ7_fill_53178 := goodIn_r _ [9] (by decide +kernel) (by decide +kernel)
set_option maxRecDepth 20000 in
theorem gX0_seekFree_J7_fill_53178 : GoodIn wsX0_seekFree (va_wsS RX0 65 yJ7_fill_53178 wsJ7_fill_53178) := goodIn_app (goodIn_of _ (by decide +kernel)) ggX0_seekFree_J7_fill_53178
set_option maxRecDepth 20000 in
theorem ggX0_seekFree_X0_areAlike : GoodIn wsX0_seekFree wsX0_areAlike := goodIn_r _ [14, 15, 16, 17, 18, 19, 20, 21, 22, 23, 24, 25, 26, 27, 28, 29, 30, 31, 32, 33] (by decide +kernel) (by decide +kernel)
set_option maxRecDepth 20000 in
theorem gX0_seekFree_X0_areAlike : GoodIn wsX0_seekFree (wsV RX0 79 RX0 yX0_areAlike wsX0_areAlike) := goodIn_app (goodIn_of _ (by decide +kernel)) ggX0_seekFree_X0_areAlike
theorem dX0_seekFree_0 : decode cX0_seekFree 0 = .ok (.aload_n 0, 1) := by decide +kernel
theorem dX0_seekFree_1 : decode cX0_seekFree 1 = .ok (.getfield 40, 3) := by decide +kernel
theorem dX0_seekFree_4 : decode cX0_seekFree 4 = .ok (.iconst (-1), 1) := by decide +kernel
theorem dX0_seekFree_5 : decode cX0_seekFree 5 = .ok (.invokestatic 65, 3) := by decide +kernel
theorem dX0_seekFree_8 : decode cX0_seekFree 8 = .ok (.iconst 1, 1) := by decide +kernel
theorem dX0_seekFree_9 : decode cX0_seekFree 9 = .ok (.istore_n 3, 1) := by decide +kernel
theorem dX0_seekFree_10 : decode cX0_seekFree 10 = .ok (.aload_n 0, 1) := by decide +kernel
theorem dX0_seekFree_11 : decode cX0_seekFree 11 = .ok (.getfield 43, 3) := by decide +kernel
theorem dX0_seekFree_14 : decode cX0_seekFree 14 = .ok (.iconst 0, 1) := by decide +kernel
theorem dX0_seekFree_15 : decode cX0_seekFree 15 = .ok (.iload_n 1, 1) := by decide +kernel
theorem dX0_seekFree_16 : decode cX0_seekFree 16 = .ok (.iastore, 1) := by decide +kernel
theorem dX0_seekFree_17 : decode cX0_seekFree 17 = .ok (.iconst 0, 1) := by decide +kernel
theorem dX0_seekFree_18 : decode cX0_seekFree 18 = .ok (.istore 4, 2) := by decide +kernel
theorem dX0_seekFree_20 : decode cX0_seekFree 20 = .ok (.iload 4, 2) := by decide +kernel
theorem dX0_seekFree_22 : decode cX0_seekFree 22 = .ok (.iload_n 3, 1) := by decide +kernel
theorem dX0_seekFree_23 : decode cX0_seekFree 23 = .ok (.if_icmp .ge 117, 3) := by decide +kernel
theorem dX0_seekFree_26 : decode cX0_seekFree 26 = .ok (.aload_n 0, 1) := by decide +kernel
theorem dX0_seekFree_27 : decode cX0_seekFree 27 = .ok (.getfield 43, 3) := by decide +kernel
theorem dX0_seekFree_30 : decode cX0_seekFree 30 = .ok (.iload 4, 2) := by decide +kernel
theorem dX0_seekFree_32 : decode cX0_seekFree 32 = .ok (.iaload, 1) := by decide +kernel
theorem dX0_seekFree_33 : decode cX0_seekFree 33 = .ok (.istore 5, 2) := by decide +kernel
theorem dX0_seekFree_35 : decode cX0_seekFree 35 = .ok (.iconst 0, 1) := by decide +kernel
theorem dX0_seekFree_36 : decode cX0_seekFree 36 = .ok (.istore 6, 2) := by decide +kernel
theorem dX0_seekFree_38 : decode cX0_seekFree 38 = .ok (.iload 6, 2) := by decide +kernel
theorem dX0_seekFree_40 : decode cX0_seekFree 40 = .ok (.aload_n 0, 1) := by decide +kernel
theorem dX0_seekFree_41 : decode cX0_seekFree 41 = .ok (.getfield 49, 3) := by decide +kernel
theorem dX0_seekFree_44 : decode cX0_seekFree 44 = .ok (.if_icmp .ge 90, 3) := by decide +kernel
theorem dX0_seekFree_47 : decode cX0_seekFree 47 = .ok (.aload_n 0, 1) := by decide +kernel
theorem dX0_seekFree_48 : decode cX0_seekFree 48 = .ok (.getfield 21, 3) := by decide +kernel
theorem dX0_seekFree_51 : decode cX0_seekFree 51 = .ok (.iload 6, 2) := by decide +kernel
theorem dX0_seekFree_53 : decode cX0_seekFree 53 = .ok (.iaload, 1) := by decide +kernel
theorem dX0_seekFree_54 : decode cX0_seekFree 54 = .ok (.iload_n 2, 1) := by decide +kernel
theorem dX0_seekFree_55 : decode cX0_seekFree 55 = .ok (.if_icmp .ne 73, 3) := by decide +kernel
theorem dX0_seekFree_58 : decode cX0_seekFree 58 = .ok (.aload_n 0, 1) := by decide +kernel
theorem dX0_seekFree_59 : decode cX0_seekFree 59 = .ok (.getfield 40, 3) := by decide +kernel
theorem dX0_seekFree_62 : decode cX0_seekFree 62 = .ok (.iload 6, 2) := by decide +kernel
theorem dX0_seekFree_64 : decode cX0_seekFree 64 = .ok (.iaload, 1) := by decide +kernel
theorem dX0_seekFree_65 : decode cX0_seekFree 65 = .ok (.iconst (-1), 1) := by decide +kernel
theorem dX0_seekFree_66 : decode cX0_seekFree 66 = .ok (.if_icmp .ne 62, 3) := by decide +kernel
theorem dX0_seekFree_69 : decode cX0_seekFree 69 = .ok (.aload_n 0, 1) := by decide +kernel
theorem dX0_seekFree_70 : decode cX0_seekFree 70 = .ok (.iload 5, 2) := by decide +kernel
theorem dX0_seekFree_72 : decode cX0_seekFree 72 = .ok (.iload 6, 2) := by decide +kernel
theorem dX0_seekFree_74 : decode cX0_seekFree 74 = .ok (.invokevirtual 79, 3) := by decide +kernel
theorem dX0_seekFree_77 : decode cX0_seekFree 77 = .ok (.ifCond .ne 6, 3) := by decide +kernel
theorem dX0_seekFree_80 : decode cX0_seekFree 80 = .ok (.goto 48, 3) := by decide +kernel
theorem dX0_seekFree_83 : decode cX0_seekFree 83 = .ok (.aload_n 0, 1) := by decide +kernel
theorem dX0_seekFree_84 : decode cX0_seekFree 84 = .ok (.getfield 40, 3) := by decide +kernel
theorem dX0_seekFree_87 : decode cX0_seekFree 87 = .ok (.iload 6, 2) := by decide +kernel
theorem dX0_seekFree_89 : decode cX0_seekFree 89 = .ok (.iload 5, 2) := by decide +kernel
theorem dX0_seekFree_91 : decode cX0_seekFree 91 = .ok (.iastore, 1) := by decide +kernel
theorem dX0_seekFree_92 : decode cX0_seekFree 92 = .ok (.aload_n 0, 1) := by decide +kernel
theorem dX0_seekFree_93 : decode cX0_seekFree 93 = .ok (.getfield 37, 3) := by decide +kernel
theorem dX0_seekFree_96 : decode cX0_seekFree 96 = .ok (.iload 6, 2) := by decide +kernel
theorem dX0_seekFree_98 : decode cX0_seekFree 98 = .ok (.iaload, 1) := by decide +kernel
theorem dX0_seekFree_99 : decode cX0_seekFree 99 = .ok (.iconst (-1), 1) := by decide +kernel
theorem dX0_seekFree_100 : decode cX0_seekFree 100 = .ok (.if_icmp .ne 6, 3) := by decide +kernel
theorem dX0_seekFree_103 : decode cX0_seekFree 103 = .ok (.iload 6, 2) := by decide +kernel
theorem dX0_seekFree_105 : decode cX0_seekFree 105 = .ok (.ireturn, 1) := by decide +kernel
theorem dX0_seekFree_106 : decode cX0_seekFree 106 = .ok (.iload_n 3, 1) := by decide +kernel
theorem dX0_seekFree_107 : decode cX0_seekFree 107 = .ok (.bipush 40, 2) := by decide +kernel
theorem dX0_seekFree_109 : decode cX0_seekFree 109 = .ok (.if_icmp .ge 19, 3) := by decide +kernel
theorem dX0_seekFree_112 : decode cX0_seekFree 112 = .ok (.aload_n 0, 1) := by decide +kernel
theorem dX0_seekFree_113 : decode cX0_seekFree 113 = .ok (.getfield 43, 3) := by decide +kernel
theorem dX0_seekFree_116 : decode cX0_seekFree 116 = .ok (.iload_n 3, 1) := by decide +kernel
theorem dX0_seekFree_117 : decode cX0_seekFree 117 = .ok (.aload_n 0, 1) := by decide +kernel
theorem dX0_seekFree_118 : decode cX0_seekFree 118 = .ok (.getfield 37, 3) := by decide +kernel
theorem dX0_seekFree_121 : decode cX0_seekFree 121 = .ok (.iload 6, 2) := by decide +kernel
theorem dX0_seekFree_123 : decode cX0_seekFree 123 = .ok (.iaload, 1) := by decide +kernel
theorem dX0_seekFree_124 : decode cX0_seekFree 124 = .ok (.iastore, 1) := by decide +kernel
theorem dX0_seekFree_125 : decode cX0_seekFree 125 = .ok (.iinc 3 1, 3) := by decide +kernel
theorem dX0_seekFree_128 : decode cX0_seekFree 128 = .ok (.iinc 6 1, 3) := by decide +kernel
theorem dX0_seekFree_131 : decode cX0_seekFree 131 = .ok (.goto (-93), 3) := by decide +kernel
theorem dX0_seekFree_134 : decode cX0_seekFree 134 = .ok (.iinc 4 1, 3) := by decide +kernel
theorem dX0_seekFree_137 : decode cX0_seekFree 137 = .ok (.goto (-117), 3) := by decide +kernel
theorem dX0_seekFree_140 : decode cX0_seekFree 140 = .ok (.iconst (-1), 1) := by decide +kernel
theorem dX0_seekFree_141 : decode cX0_seekFree 141 = .ok (.ireturn, 1) := by decide +kernel
theorem dX0_pairUpTo_0 : decode cX0_pairUpTo 0 = .ok (.iload_n 1, 1) := by decide +kernel
theorem dX0_pairUpTo_1 : decode cX0_pairUpTo 1 = .ok (.istore_n 2, 1) := by decide +kernel
theorem dX0_pairUpTo_2 : decode cX0_pairUpTo 2 = .ok (.iconst 0, 1) := by decide +kernel
theorem dX0_pairUpTo_3 : decode cX0_pairUpTo 3 = .ok (.istore_n 3, 1) := by decide +kernel
theorem dX0_pairUpTo_4 : decode cX0_pairUpTo 4 = .ok (.iload_n 3, 1) := by decide +kernel
theorem dX0_pairUpTo_5 : decode cX0_pairUpTo 5 = .ok (.bipush 40, 2) := by decide +kernel
theorem dX0_pairUpTo_7 : decode cX0_pairUpTo 7 = .ok (.if_icmp .ge 57, 3) := by decide +kernel
theorem dX0_pairUpTo_10 : decode cX0_pairUpTo 10 = .ok (.iload_n 2, 1) := by decide +kernel
theorem dX0_pairUpTo_11 : decode cX0_pairUpTo 11 = .ok (.iconst (-1), 1) := by decide +kernel
theorem dX0_pairUpTo_12 : decode cX0_pairUpTo 12 = .ok (.if_icmp .eq 52, 3) := by decide +kernel
theorem dX0_pairUpTo_15 : decode cX0_pairUpTo 15 = .ok (.aload_n 0, 1) := by decide +kernel
theorem dX0_pairUpTo_16 : decode cX0_pairUpTo 16 = .ok (.getfield 40, 3) := by decide +kernel
theorem dX0_pairUpTo_19 : decode cX0_pairUpTo 19 = .ok (.iload_n 2, 1) := by decide +kernel
theorem dX0_pairUpTo_20 : decode cX0_pairUpTo 20 = .ok (.iaload, 1) := by decide +kernel
theorem dX0_pairUpTo_21 : decode cX0_pairUpTo 21 = .ok (.istore 4, 2) := by decide +kernel
theorem dX0_pairUpTo_23 : decode cX0_pairUpTo 23 = .ok (.iload 4, 2) := by decide +kernel
theorem dX0_pairUpTo_25 : decode cX0_pairUpTo 25 = .ok (.iconst (-1), 1) := by decide +kernel
theorem dX0_pairUpTo_26 : decode cX0_pairUpTo 26 = .ok (.if_icmp .ne 4, 3) := by decide +kernel
theorem dX0_pairUpTo_29 : decode cX0_pairUpTo 29 = .ok (.return_, 1) := by decide +kernel
theorem dX0_pairUpTo_30 : decode cX0_pairUpTo 30 = .ok (.aload_n 0, 1) := by decide +kernel
theorem dX0_pairUpTo_31 : decode cX0_pairUpTo 31 = .ok (.getfield 37, 3) := by decide +kernel
theorem dX0_pairUpTo_34 : decode cX0_pairUpTo 34 = .ok (.iload 4, 2) := by decide +kernel
theorem dX0_pairUpTo_36 : decode cX0_pairUpTo 36 = .ok (.iaload, 1) := by decide +kernel
theorem dX0_pairUpTo_37 : decode cX0_pairUpTo 37 = .ok (.istore 5, 2) := by decide +kernel
theorem dX0_pairUpTo_39 : decode cX0_pairUpTo 39 = .ok (.aload_n 0, 1) := by decide +kernel
theorem dX0_pairUpTo_40 : decode cX0_pairUpTo 40 = .ok (.getfield 37, 3) := by decide +kernel
theorem dX0_pairUpTo_43 : decode cX0_pairUpTo 43 = .ok (.iload 4, 2) := by decide +kernel
theorem dX0_pairUpTo_45 : decode cX0_pairUpTo 45 = .ok (.iload_n 2, 1) := by decide +kernel
theorem dX0_pairUpTo_46 : decode cX0_pairUpTo 46 = .ok (.iastore, 1) := by decide +kernel
theorem dX0_pairUpTo_47 : decode cX0_pairUpTo 47 = .ok (.aload_n 0, 1) := by decide +kernel
theorem dX0_pairUpTo_48 : decode cX0_pairUpTo 48 = .ok (.getfield 37, 3) := by decide +kernel
theorem dX0_pairUpTo_51 : decode cX0_pairUpTo 51 = .ok (.iload_n 2, 1) := by decide +kernel
theorem dX0_pairUpTo_52 : decode cX0_pairUpTo 52 = .ok (.iload 4, 2) := by decide +kernel
theorem dX0_pairUpTo_54 : decode cX0_pairUpTo 54 = .ok (.iastore, 1) := by decide +kernel
theorem dX0_pairUpTo_55 : decode cX0_pairUpTo 55 = .ok (.iload 5, 2) := by decide +kernel
theorem dX0_pairUpTo_57 : decode cX0_pairUpTo 57 = .ok (.istore_n 2, 1) := by decide +kernel
theorem dX0_pairUpTo_58 : decode cX0_pairUpTo 58 = .ok (.iinc 3 1, 3) := by decide +kernel
theorem dX0_pairUpTo_61 : decode cX0_pairUpTo 61 = .ok (.goto (-57), 3) := by decide +kernel
theorem dX0_pairUpTo_64 : decode cX0_pairUpTo 64 = .ok (.return_, 1) := by decide +kernel
set_option maxRecDepth 20000 in
theorem ggX0_groupHands_X0_countPairs : GoodIn wsX0_groupHands wsX0_countPairs := goodIn_r _ [7, 8, 9, 10, 11, 12, 13, 14, 15, 16, 17, 6, 18, 19, 20, 21, 22, 23, 24, 25, 26, 27, 28, 29, 30, 31, 32, 33, 34, 38, 39, 40, 41, 42, 43, 44, 45, 46, 47, 48, 49, 50] (by decide +kernel) (by decide +kernel)
set_option maxRecDepth 20000 in
theorem gX0_groupHands_X0_countPairs : GoodIn wsX0_groupHands (wsV RX0 83 RX0 yX0_countPairs wsX0_countPairs) := goodIn_app (goodIn_of _ (by decide +kernel)) ggX0_groupHands_X0_countPairs
set_option maxRecDepth 20000 in
theorem ggX0_groupHands_X10_closeOver : GoodIn wsX0_groupHands wsX10_closeOver := goodIn_r _ [37] (by decide +kernel) (by decide +kernel)
set_option maxRecDepth 20000 in
theorem gX0_groupHands_X10_closeOver_n86 : GoodIn wsX0_groupHands (wsX10_closeOver) := ggX0_groupHands_X10_closeOver
theorem dX0_groupHands_0 : decode cX0_groupHands 0 = .ok (.iconst 0, 1) := by decide +kernel
theorem dX0_groupHands_1 : decode cX0_groupHands 1 = .ok (.istore_n 1, 1) := by decide +kernel
theorem dX0_groupHands_2 : decode cX0_groupHands 2 = .ok (.iload_n 1, 1) := by decide +kernel
theorem dX0_groupHands_3 : decode cX0_groupHands 3 = .ok (.bipush 10, 2) := by decide +kernel
theorem dX0_groupHands_5 : decode cX0_groupHands 5 = .ok (.if_icmp .ge 18, 3) := by decide +kernel
theorem dX0_groupHands_8 : decode cX0_groupHands 8 = .ok (.aload_n 0, 1) := by decide +kernel
theorem dX0_groupHands_9 : decode cX0_groupHands 9 = .ok (.getfield 46, 3) := by decide +kernel
theorem dX0_groupHands_12 : decode cX0_groupHands 12 = .ok (.iload_n 1, 1) := by decide +kernel
theorem dX0_groupHands_13 : decode cX0_groupHands 13 = .ok (.iconst 1, 1) := by decide +kernel
theorem dX0_groupHands_14 : decode cX0_groupHands 14 = .ok (.iload_n 1, 1) := by decide +kernel
theorem dX0_groupHands_15 : decode cX0_groupHands 15 = .ok (.ishl, 1) := by decide +kernel
theorem dX0_groupHands_16 : decode cX0_groupHands 16 = .ok (.iastore, 1) := by decide +kernel
theorem dX0_groupHands_17 : decode cX0_groupHands 17 = .ok (.iinc 1 1, 3) := by decide +kernel
theorem dX0_groupHands_20 : decode cX0_groupHands 20 = .ok (.goto (-18), 3) := by decide +kernel
theorem dX0_groupHands_23 : decode cX0_groupHands 23 = .ok (.iconst 0, 1) := by decide +kernel
theorem dX0_groupHands_24 : decode cX0_groupHands 24 = .ok (.istore_n 1, 1) := by decide +kernel
theorem dX0_groupHands_25 : decode cX0_groupHands 25 = .ok (.iload_n 1, 1) := by decide +kernel
theorem dX0_groupHands_26 : decode cX0_groupHands 26 = .ok (.bipush 10, 2) := by decide +kernel
theorem dX0_groupHands_28 : decode cX0_groupHands 28 = .ok (.if_icmp .ge 62, 3) := by decide +kernel
theorem dX0_groupHands_31 : decode cX0_groupHands 31 = .ok (.iload_n 1, 1) := by decide +kernel
theorem dX0_groupHands_32 : decode cX0_groupHands 32 = .ok (.iconst 1, 1) := by decide +kernel
theorem dX0_groupHands_33 : decode cX0_groupHands 33 = .ok (.iadd, 1) := by decide +kernel
theorem dX0_groupHands_34 : decode cX0_groupHands 34 = .ok (.istore_n 2, 1) := by decide +kernel
theorem dX0_groupHands_35 : decode cX0_groupHands 35 = .ok (.iload_n 2, 1) := by decide +kernel
theorem dX0_groupHands_36 : decode cX0_groupHands 36 = .ok (.bipush 10, 2) := by decide +kernel
theorem dX0_groupHands_38 : decode cX0_groupHands 38 = .ok (.if_icmp .ge 46, 3) := by decide +kernel
theorem dX0_groupHands_41 : decode cX0_groupHands 41 = .ok (.aload_n 0, 1) := by decide +kernel
theorem dX0_groupHands_42 : decode cX0_groupHands 42 = .ok (.iload_n 1, 1) := by decide +kernel
theorem dX0_groupHands_43 : decode cX0_groupHands 43 = .ok (.iload_n 2, 1) := by decide +kernel
theorem dX0_groupHands_44 : decode cX0_groupHands 44 = .ok (.invokevirtual 83, 3) := by decide +kernel
theorem dX0_groupHands_47 : decode cX0_groupHands 47 = .ok (.aload_n 0, 1) := by decide +kernel
theorem dX0_groupHands_48 : decode cX0_groupHands 48 = .ok (.getfield 18, 3) := by decide +kernel
theorem dX0_groupHands_51 : decode cX0_groupHands 51 = .ok (.if_icmp .lt 27, 3) := by decide +kernel
theorem dX0_groupHands_54 : decode cX0_groupHands 54 = .ok (.aload_n 0, 1) := by decide +kernel
theorem dX0_groupHands_55 : decode cX0_groupHands 55 = .ok (.getfield 46, 3) := by decide +kernel
theorem dX0_groupHands_58 : decode cX0_groupHands 58 = .ok (.iload_n 1, 1) := by decide +kernel
theorem dX0_groupHands_59 : decode cX0_groupHands 59 = .ok (.dup2, 1) := by decide +kernel
theorem dX0_groupHands_60 : decode cX0_groupHands 60 = .ok (.iaload, 1) := by decide +kernel
theorem dX0_groupHands_61 : decode cX0_groupHands 61 = .ok (.iconst 1, 1) := by decide +kernel
theorem dX0_groupHands_62 : decode cX0_groupHands 62 = .ok (.iload_n 2, 1) := by decide +kernel
theorem dX0_groupHands_63 : decode cX0_groupHands 63 = .ok (.ishl, 1) := by decide +kernel
theorem dX0_groupHands_64 : decode cX0_groupHands 64 = .ok (.ior, 1) := by decide +kernel
theorem dX0_groupHands_65 : decode cX0_groupHands 65 = .ok (.iastore, 1) := by decide +kernel
theorem dX0_groupHands_66 : decode cX0_groupHands 66 = .ok (.aload_n 0, 1) := by decide +kernel
theorem dX0_groupHands_67 : decode cX0_groupHands 67 = .ok (.getfield 46, 3) := by decide +kernel
theorem dX0_groupHands_70 : decode cX0_groupHands 70 = .ok (.iload_n 2, 1) := by decide +kernel
theorem dX0_groupHands_71 : decode cX0_groupHands 71 = .ok (.dup2, 1) := by decide +kernel
theorem dX0_groupHands_72 : decode cX0_groupHands 72 = .ok (.iaload, 1) := by decide +kernel
theorem dX0_groupHands_73 : decode cX0_groupHands 73 = .ok (.iconst 1, 1) := by decide +kernel
theorem dX0_groupHands_74 : decode cX0_groupHands 74 = .ok (.iload_n 1, 1) := by decide +kernel
theorem dX0_groupHands_75 : decode cX0_groupHands 75 = .ok (.ishl, 1) := by decide +kernel
theorem dX0_groupHands_76 : decode cX0_groupHands 76 = .ok (.ior, 1) := by decide +kernel
theorem dX0_groupHands_77 : decode cX0_groupHands 77 = .ok (.iastore, 1) := by decide +kernel
theorem dX0_groupHands_78 : decode cX0_groupHands 78 = .ok (.iinc 2 1, 3) := by decide +kernel
theorem dX0_groupHands_81 : decode cX0_groupHands 81 = .ok (.goto (-46), 3) := by decide +kernel
theorem dX0_groupHands_84 : decode cX0_groupHands 84 = .ok (.iinc 1 1, 3) := by decide +kernel
theorem dX0_groupHands_87 : decode cX0_groupHands 87 = .ok (.goto (-62), 3) := by decide +kernel
theorem dX0_groupHands_90 : decode cX0_groupHands 90 = .ok (.aload_n 0, 1) := by decide +kernel
theorem dX0_groupHands_91 : decode cX0_groupHands 91 = .ok (.getfield 46, 3) := by decide +kernel
theorem dX0_groupHands_94 : decode cX0_groupHands 94 = .ok (.bipush 10, 2) := by decide +kernel
theorem dX0_groupHands_96 : decode cX0_groupHands 96 = .ok (.invokestatic 86, 3) := by decide +kernel
theorem dX0_groupHands_99 : decode cX0_groupHands 99 = .ok (.return_, 1) := by decide +kernel
set_option maxRecDepth 20000 in
theorem ggX0_countGrouped_X0_groupHands : GoodIn wsX0_countGrouped wsX0_groupHands := goodIn_r _ [6, 1, 7, 8, 9, 10, 5, 11, 12, 13, 14, 15, 16, 17, 18, 19, 20, 21, 22, 23, 24, 25, 26, 27, 28, 29, 30, 31, 32, 33, 34, 35, 36, 37, 38, 39, 40, 41, 46, 47, 48, 49, 50, 51, 52, 53, 54, 55, 56, 57, 58] (by decide +kernel) (by decide +kernel)
set_option maxRecDepth 20000 in
theorem gX0_countGrouped_X0_groupHands : GoodIn wsX0_countGrouped (wsV RX0 89 RX0 yX0_groupHands wsX0_groupHands) := goodIn_app (goodIn_of _ (by decide +kernel)) ggX0_countGrouped_X0_groupHands
set_option maxRecDepth 20000 in
theorem ggX0_countGrouped_X0_handsOn : GoodIn wsX0_countGrouped wsX0_handsOn := goodIn_r _ [45, 13, 29, 14, 46, 47, 48, 49, 50, 51, 52, 53, 54, 55, 56, 57, 58] (by decide +kernel) (by decide +kernel)
set_option maxRecDepth 20000 in
theorem gX0_countGrouped_X0_handsOn : GoodIn wsX0_countGrouped (wsV RX0 92 RX0 yX0_handsOn wsX0_handsOn) := goodIn_app (goodIn_of _ (by decide +kernel)) ggX0_countGrouped_X0_handsOn
theorem dX0_countGrouped_0 : decode cX0_countGrouped 0 = .ok (.aload_n 0, 1) := by decide +kernel
theorem dX0_countGrouped_1 : decode cX0_countGrouped 1 = .ok (.invokevirtual 89, 3) := by decide +kernel
theorem dX0_countGrouped_4 : decode cX0_countGrouped 4 = .ok (.aload_n 0, 1) := by decide +kernel
theorem dX0_countGrouped_5 : decode cX0_countGrouped 5 = .ok (.iload_n 1, 1) := by decide +kernel
theorem dX0_countGrouped_6 : decode cX0_countGrouped 6 = .ok (.invokevirtual 92, 3) := by decide +kernel
theorem dX0_countGrouped_9 : decode cX0_countGrouped 9 = .ok (.istore_n 2, 1) := by decide +kernel
theorem dX0_countGrouped_10 : decode cX0_countGrouped 10 = .ok (.iconst 0, 1) := by decide +kernel
theorem dX0_countGrouped_11 : decode cX0_countGrouped 11 = .ok (.istore_n 3, 1) := by decide +kernel
theorem dX0_countGrouped_12 : decode cX0_countGrouped 12 = .ok (.iconst 0, 1) := by decide +kernel
theorem dX0_countGrouped_13 : decode cX0_countGrouped 13 = .ok (.istore 4, 2) := by decide +kernel
theorem dX0_countGrouped_15 : decode cX0_countGrouped 15 = .ok (.iload 4, 2) := by decide +kernel
theorem dX0_countGrouped_17 : decode cX0_countGrouped 17 = .ok (.bipush 10, 2) := by decide +kernel
theorem dX0_countGrouped_19 : decode cX0_countGrouped 19 = .ok (.if_icmp .ge 36, 3) := by decide +kernel
theorem dX0_countGrouped_22 : decode cX0_countGrouped 22 = .ok (.iload_n 2, 1) := by decide +kernel
theorem dX0_countGrouped_23 : decode cX0_countGrouped 23 = .ok (.iload 4, 2) := by decide +kernel
theorem dX0_countGrouped_25 : decode cX0_countGrouped 25 = .ok (.ishr, 1) := by decide +kernel
theorem dX0_countGrouped_26 : decode cX0_countGrouped 26 = .ok (.iconst 1, 1) := by decide +kernel
theorem dX0_countGrouped_27 : decode cX0_countGrouped 27 = .ok (.iand, 1) := by decide +kernel
theorem dX0_countGrouped_28 : decode cX0_countGrouped 28 = .ok (.iconst 1, 1) := by decide +kernel
theorem dX0_countGrouped_29 : decode cX0_countGrouped 29 = .ok (.if_icmp .ne 20, 3) := by decide +kernel
theorem dX0_countGrouped_32 : decode cX0_countGrouped 32 = .ok (.aload_n 0, 1) := by decide +kernel
theorem dX0_countGrouped_33 : decode cX0_countGrouped 33 = .ok (.getfield 46, 3) := by decide +kernel
theorem dX0_countGrouped_36 : decode cX0_countGrouped 36 = .ok (.iload 4, 2) := by decide +kernel
theorem dX0_countGrouped_38 : decode cX0_countGrouped 38 = .ok (.iaload, 1) := by decide +kernel
theorem dX0_countGrouped_39 : decode cX0_countGrouped 39 = .ok (.iconst 1, 1) := by decide +kernel
theorem dX0_countGrouped_40 : decode cX0_countGrouped 40 = .ok (.iload 4, 2) := by decide +kernel
theorem dX0_countGrouped_42 : decode cX0_countGrouped 42 = .ok (.ishl, 1) := by decide +kernel
theorem dX0_countGrouped_43 : decode cX0_countGrouped 43 = .ok (.if_icmp .eq 6, 3) := by decide +kernel
theorem dX0_countGrouped_46 : decode cX0_countGrouped 46 = .ok (.iinc 3 1, 3) := by decide +kernel
theorem dX0_countGrouped_49 : decode cX0_countGrouped 49 = .ok (.iinc 4 1, 3) := by decide +kernel
theorem dX0_countGrouped_52 : decode cX0_countGrouped 52 = .ok (.goto (-37), 3) := by decide +kernel
theorem dX0_countGrouped_55 : decode cX0_countGrouped 55 = .ok (.iload_n 3, 1) := by decide +kernel
theorem dX0_countGrouped_56 : decode cX0_countGrouped 56 = .ok (.ireturn, 1) := by decide +kernel
theorem dX1_init_0 : decode cX1_init 0 = .ok (.aload_n 0, 1) := by decide +kernel
theorem dX1_init_1 : decode cX1_init 1 = .ok (.invokespecial 3, 3) := by decide +kernel
theorem dX1_init_4 : decode cX1_init 4 = .ok (.aload_n 0, 1) := by decide +kernel
theorem dX1_init_5 : decode cX1_init 5 = .ok (.bipush 40, 2) := by decide +kernel
theorem dX1_init_7 : decode cX1_init 7 = .ok (.newarray .int, 2) := by decide +kernel
theorem dX1_init_9 : decode cX1_init 9 = .ok (.putfield 9, 3) := by decide +kernel
theorem dX1_init_12 : decode cX1_init 12 = .ok (.aload_n 0, 1) := by decide +kernel
theorem dX1_init_13 : decode cX1_init 13 = .ok (.bipush 40, 2) := by decide +kernel
theorem dX1_init_15 : decode cX1_init 15 = .ok (.newarray .int, 2) := by decide +kernel
theorem dX1_init_17 : decode cX1_init 17 = .ok (.putfield 15, 3) := by decide +kernel
theorem dX1_init_20 : decode cX1_init 20 = .ok (.return_, 1) := by decide +kernel
theorem dX1_add_0 : decode cX1_add 0 = .ok (.aload_n 0, 1) := by decide +kernel
theorem dX1_add_1 : decode cX1_add 1 = .ok (.getfield 9, 3) := by decide +kernel
theorem dX1_add_4 : decode cX1_add 4 = .ok (.aload_n 0, 1) := by decide +kernel
theorem dX1_add_5 : decode cX1_add 5 = .ok (.getfield 18, 3) := by decide +kernel
theorem dX1_add_8 : decode cX1_add 8 = .ok (.iload_n 1, 1) := by decide +kernel
theorem dX1_add_9 : decode cX1_add 9 = .ok (.iastore, 1) := by decide +kernel
theorem dX1_add_10 : decode cX1_add 10 = .ok (.aload_n 0, 1) := by decide +kernel
theorem dX1_add_11 : decode cX1_add 11 = .ok (.dup, 1) := by decide +kernel
theorem dX1_add_12 : decode cX1_add 12 = .ok (.getfield 18, 3) := by decide +kernel
theorem dX1_add_15 : decode cX1_add 15 = .ok (.iconst 1, 1) := by decide +kernel
theorem dX1_add_16 : decode cX1_add 16 = .ok (.iadd, 1) := by decide +kernel
theorem dX1_add_17 : decode cX1_add 17 = .ok (.putfield 18, 3) := by decide +kernel
theorem dX1_add_20 : decode cX1_add 20 = .ok (.aload_n 0, 1) := by decide +kernel
theorem dX1_add_21 : decode cX1_add 21 = .ok (.getfield 18, 3) := by decide +kernel
theorem dX1_add_24 : decode cX1_add 24 = .ok (.ireturn, 1) := by decide +kernel
set_option maxRecDepth 20000 in
theorem ggX1_firstFault_X1_goOn : GoodIn wsX1_firstFault wsX1_goOn := goodIn_r _ [6, 7, 8, 5, 9, 10, 11, 12] (by decide +kernel) (by decide +kernel)
set_option maxRecDepth 20000 in
theorem gX1_firstFault_X1_goOn : GoodIn wsX1_firstFault (va_wsS RX1 22 yX1_goOn wsX1_goOn) := goodIn_app (goodIn_of _ (by decide +kernel)) ggX1_firstFault_X1_goOn
theorem dX1_firstFault_0 : decode cX1_firstFault 0 = .ok (.iconst 0, 1) := by decide +kernel
theorem dX1_firstFault_1 : decode cX1_firstFault 1 = .ok (.istore_n 1, 1) := by decide +kernel
theorem dX1_firstFault_2 : decode cX1_firstFault 2 = .ok (.iconst 0, 1) := by decide +kernel
theorem dX1_firstFault_3 : decode cX1_firstFault 3 = .ok (.istore_n 2, 1) := by decide +kernel
theorem dX1_firstFault_4 : decode cX1_firstFault 4 = .ok (.iload_n 2, 1) := by decide +kernel
theorem dX1_firstFault_5 : decode cX1_firstFault 5 = .ok (.aload_n 0, 1) := by decide +kernel
theorem dX1_firstFault_6 : decode cX1_firstFault 6 = .ok (.getfield 18, 3) := by decide +kernel
theorem dX1_firstFault_9 : decode cX1_firstFault 9 = .ok (.if_icmp .ge 27, 3) := by decide +kernel
theorem dX1_firstFault_12 : decode cX1_firstFault 12 = .ok (.iload_n 1, 1) := by decide +kernel
theorem dX1_firstFault_13 : decode cX1_firstFault 13 = .ok (.aload_n 0, 1) := by decide +kernel
theorem dX1_firstFault_14 : decode cX1_firstFault 14 = .ok (.getfield 9, 3) := by decide +kernel
theorem dX1_firstFault_17 : decode cX1_firstFault 17 = .ok (.iload_n 2, 1) := by decide +kernel
theorem dX1_firstFault_18 : decode cX1_firstFault 18 = .ok (.iaload, 1) := by decide +kernel
theorem dX1_firstFault_19 : decode cX1_firstFault 19 = .ok (.invokestatic 22, 3) := by decide +kernel
theorem dX1_firstFault_22 : decode cX1_firstFault 22 = .ok (.istore_n 1, 1) := by decide +kernel
theorem dX1_firstFault_23 : decode cX1_firstFault 23 = .ok (.iload_n 1, 1) := by decide +kernel
theorem dX1_firstFault_24 : decode cX1_firstFault 24 = .ok (.iconst (-1), 1) := by decide +kernel
theorem dX1_firstFault_25 : decode cX1_firstFault 25 = .ok (.if_icmp .ne 5, 3) := by decide +kernel
theorem dX1_firstFault_28 : decode cX1_firstFault 28 = .ok (.iload_n 2, 1) := by decide +kernel
theorem dX1_firstFault_29 : decode cX1_firstFault 29 = .ok (.ireturn, 1) := by decide +kernel
theorem dX1_firstFault_30 : decode cX1_firstFault 30 = .ok (.iinc 2 1, 3) := by decide +kernel
theorem dX1_firstFault_33 : decode cX1_firstFault 33 = .ok (.goto (-29), 3) := by decide +kernel
theorem dX1_firstFault_36 : decode cX1_firstFault 36 = .ok (.iload_n 1, 1) := by decide +kernel
theorem dX1_firstFault_37 : decode cX1_firstFault 37 = .ok (.iconst 3, 1) := by decide +kernel
theorem dX1_firstFault_38 : decode cX1_firstFault 38 = .ok (.if_icmp .lt 8, 3) := by decide +kernel
theorem dX1_firstFault_41 : decode cX1_firstFault 41 = .ok (.bipush (-6), 2) := by decide +kernel
theorem dX1_firstFault_43 : decode cX1_firstFault 43 = .ok (.goto 7, 3) := by decide +kernel
theorem dX1_firstFault_46 : decode cX1_firstFault 46 = .ok (.aload_n 0, 1) := by decide +kernel
theorem dX1_firstFault_47 : decode cX1_firstFault 47 = .ok (.getfield 18, 3) := by decide +kernel
theorem dX1_firstFault_50 : decode cX1_firstFault 50 = .ok (.ireturn, 1) := by decide +kernel
set_option maxRecDepth 20000 in
theorem ggX1_goOn_X1_factBy : GoodIn wsX1_goOn wsX1_factBy := goodIn_r _ [4] (by decide +kernel) (by decide +kernel)
set_option maxRecDepth 20000 in
theorem gX1_goOn_X1_factBy : GoodIn wsX1_goOn (va_wsS RX1 26 yX1_factBy wsX1_factBy) := goodIn_app (goodIn_of _ (by decide +kernel)) ggX1_goOn_X1_factBy
set_option maxRecDepth 20000 in
theorem ggX1_goOn_X1_isDigit : GoodIn wsX1_goOn wsX1_isDigit := goodIn_r _ [7] (by decide +kernel) (by decide +kernel)
set_option maxRecDepth 20000 in
theorem gX1_goOn_X1_isDigit : GoodIn wsX1_goOn (va_wsS RX1 30 yX1_isDigit wsX1_isDigit) := goodIn_app (goodIn_of _ (by decide +kernel)) ggX1_goOn_X1_isDigit
theorem dX1_goOn_0 : decode cX1_goOn 0 = .ok (.iload_n 0, 1) := by decide +kernel
theorem dX1_goOn_1 : decode cX1_goOn 1 = .ok (.ifCond .ne 16, 3) := by decide +kernel
theorem dX1_goOn_4 : decode cX1_goOn 4 = .ok (.iload_n 1, 1) := by decide +kernel
theorem dX1_goOn_5 : decode cX1_goOn 5 = .ok (.invokestatic 26, 3) := by decide +kernel
theorem dX1_goOn_8 : decode cX1_goOn 8 = .ok (.ifCond .lt 7, 3) := by decide +kernel
theorem dX1_goOn_11 : decode cX1_goOn 11 = .ok (.iconst 1, 1) := by decide +kernel
theorem dX1_goOn_12 : decode cX1_goOn 12 = .ok (.goto 4, 3) := by decide +kernel
theorem dX1_goOn_15 : decode cX1_goOn 15 = .ok (.iconst (-1), 1) := by decide +kernel
theorem dX1_goOn_16 : decode cX1_goOn 16 = .ok (.ireturn, 1) := by decide +kernel
theorem dX1_goOn_17 : decode cX1_goOn 17 = .ok (.iload_n 0, 1) := by decide +kernel
theorem dX1_goOn_18 : decode cX1_goOn 18 = .ok (.iconst 1, 1) := by decide +kernel
theorem dX1_goOn_19 : decode cX1_goOn 19 = .ok (.if_icmp .ne 21, 3) := by decide +kernel
theorem dX1_goOn_22 : decode cX1_goOn 22 = .ok (.iload_n 1, 1) := by decide +kernel
theorem dX1_goOn_23 : decode cX1_goOn 23 = .ok (.bipush 60, 2) := by decide +kernel
theorem dX1_goOn_25 : decode cX1_goOn 25 = .ok (.if_icmp .eq 9, 3) := by decide +kernel
theorem dX1_goOn_28 : decode cX1_goOn 28 = .ok (.iload_n 1, 1) := by decide +kernel
theorem dX1_goOn_29 : decode cX1_goOn 29 = .ok (.bipush 62, 2) := by decide +kernel
theorem dX1_goOn_31 : decode cX1_goOn 31 = .ok (.if_icmp .ne 7, 3) := by decide +kernel
theorem dX1_goOn_34 : decode cX1_goOn 34 = .ok (.iconst 2, 1) := by decide +kernel
theorem dX1_goOn_35 : decode cX1_goOn 35 = .ok (.goto 4, 3) := by decide +kernel
theorem dX1_goOn_38 : decode cX1_goOn 38 = .ok (.iconst (-1), 1) := by decide +kernel
theorem dX1_goOn_39 : decode cX1_goOn 39 = .ok (.ireturn, 1) := by decide +kernel
theorem dX1_goOn_40 : decode cX1_goOn 40 = .ok (.iload_n 1, 1) := by decide +kernel
theorem dX1_goOn_41 : decode cX1_goOn 41 = .ok (.invokestatic 30, 3) := by decide +kernel
theorem dX1_goOn_44 : decode cX1_goOn 44 = .ok (.ifCond .eq 16, 3) := by decide +kernel
theorem dX1_goOn_47 : decode cX1_goOn 47 = .ok (.iload_n 0, 1) := by decide +kernel
theorem dX1_goOn_48 : decode cX1_goOn 48 = .ok (.iconst 5, 1) := by decide +kernel
theorem dX1_goOn_49 : decode cX1_goOn 49 = .ok (.if_icmp .ge 9, 3) := by decide +kernel
theorem dX1_goOn_52 : decode cX1_goOn 52 = .ok (.iload_n 0, 1) := by decide +kernel
theorem dX1_goOn_53 : decode cX1_goOn 53 = .ok (.iconst 1, 1) := by decide +kernel
theorem dX1_goOn_54 : decode cX1_goOn 54 = .ok (.iadd, 1) := by decide +kernel
theorem dX1_goOn_55 : decode cX1_goOn 55 = .ok (.goto 4, 3) := by decide +kernel
theorem dX1_goOn_58 : decode cX1_goOn 58 = .ok (.iconst (-1), 1) := by decide +kernel
theorem dX1_goOn_59 : decode cX1_goOn 59 = .ok (.ireturn, 1) := by decide +kernel
theorem dX1_goOn_60 : decode cX1_goOn 60 = .ok (.iload_n 0, 1) := by decide +kernel
theorem dX1_goOn_61 : decode cX1_goOn 61 = .ok (.iconst 3, 1) := by decide +kernel
theorem dX1_goOn_62 : decode cX1_goOn 62 = .ok (.if_icmp .lt 19, 3) := by decide +kernel
theorem dX1_goOn_65 : decode cX1_goOn 65 = .ok (.iload_n 1, 1) := by decide +kernel
theorem dX1_goOn_66 : decode cX1_goOn 66 = .ok (.bipush 38, 2) := by decide +kernel
theorem dX1_goOn_68 : decode cX1_goOn 68 = .ok (.if_icmp .eq 9, 3) := by decide +kernel
theorem dX1_goOn_71 : decode cX1_goOn 71 = .ok (.iload_n 1, 1) := by decide +kernel
theorem dX1_goOn_72 : decode cX1_goOn 72 = .ok (.bipush 124, 2) := by decide +kernel
theorem dX1_goOn_74 : decode cX1_goOn 74 = .ok (.if_icmp .ne 7, 3) := by decide +kernel
theorem dX1_goOn_77 : decode cX1_goOn 77 = .ok (.iconst 0, 1) := by decide +kernel
theorem dX1_goOn_78 : decode cX1_goOn 78 = .ok (.goto 4, 3) := by decide +kernel
theorem dX1_goOn_81 : decode cX1_goOn 81 = .ok (.iconst (-1), 1) := by decide +kernel
theorem dX1_goOn_82 : decode cX1_goOn 82 = .ok (.ireturn, 1) := by decide +kernel
theorem dX1_isDigit_0 : decode cX1_isDigit 0 = .ok (.iload_n 0, 1) := by decide +kernel
theorem dX1_isDigit_1 : decode cX1_isDigit 1 = .ok (.bipush 48, 2) := by decide +kernel
theorem dX1_isDigit_3 : decode cX1_isDigit 3 = .ok (.if_icmp .lt 13, 3) := by decide +kernel
theorem dX1_isDigit_6 : decode cX1_isDigit 6 = .ok (.iload_n 0, 1) := by decide +kernel
theorem dX1_isDigit_7 : decode cX1_isDigit 7 = .ok (.bipush 57, 2) := by decide +kernel
theorem dX1_isDigit_9 : decode cX1_isDigit 9 = .ok (.if_icmp .gt 7, 3) := by decide +kernel
theorem dX1_isDigit_12 : decode cX1_isDigit 12 = .ok (.iconst 1, 1) := by decide +kernel
theorem dX1_isDigit_13 : decode cX1_isDigit 13 = .ok (.goto 4, 3) := by decide +kernel
theorem dX1_isDigit_16 : decode cX1_isDigit 16 = .ok (.iconst 0, 1) := by decide +kernel
theorem dX1_isDigit_17 : decode cX1_isDigit 17 = .ok (.ireturn, 1) := by decide +kernel
theorem dX1_factBy_0 : decode cX1_factBy 0 = .ok (.iload_n 0, 1) := by decide +kernel
theorem dX1_factBy_1 : decode cX1_factBy 1 = .ok (.lookupswitch 61 #[(103, 51), (104, 53), (110, 59), (114, 57), (120, 55)], 51) := by decide +kernel
theorem dX1_factBy_52 : decode cX1_factBy 52 = .ok (.iconst 0, 1) := by decide +kernel
theorem dX1_factBy_53 : decode cX1_factBy 53 = .ok (.ireturn, 1) := by decide +kernel
theorem dX1_factBy_54 : decode cX1_factBy 54 = .ok (.iconst 1, 1) := by decide +kernel
theorem dX1_factBy_55 : decode cX1_factBy 55 = .ok (.ireturn, 1) := by decide +kernel
theorem dX1_factBy_56 : decode cX1_factBy 56 = .ok (.iconst 2, 1) := by decide +kernel
theorem dX1_factBy_57 : decode cX1_factBy 57 = .ok (.ireturn, 1) := by decide +kernel
theorem dX1_factBy_58 : decode cX1_factBy 58 = .ok (.iconst 3, 1) := by decide +kernel
theorem dX1_factBy_59 : decode cX1_factBy 59 = .ok (.ireturn, 1) := by decide +kernel
theorem dX1_factBy_60 : decode cX1_factBy 60 = .ok (.iconst 4, 1) := by decide +kernel
theorem dX1_factBy_61 : decode cX1_factBy 61 = .ok (.ireturn, 1) := by decide +kernel
theorem dX1_factBy_62 : decode cX1_factBy 62 = .ok (.iconst (-1), 1) := by decide +kernel
theorem dX1_factBy_63 : decode cX1_factBy 63 = .ok (.ireturn, 1) := by decide +kernel
theorem dX1_hold_0 : decode cX1_hold 0 = .ok (.iconst 0, 1) := by decide +kernel
theorem dX1_hold_1 : decode cX1_hold 1 = .ok (.istore_n 1, 1) := by decide +kernel
theorem dX1_hold_2 : decode cX1_hold 2 = .ok (.iload_n 1, 1) := by decide +kernel
theorem dX1_hold_3 : decode cX1_hold 3 = .ok (.aload_n 0, 1) := by decide +kernel
theorem dX1_hold_4 : decode cX1_hold 4 = .ok (.getfield 18, 3) := by decide +kernel
theorem dX1_hold_7 : decode cX1_hold 7 = .ok (.if_icmp .ge 21, 3) := by decide +kernel
theorem dX1_hold_10 : decode cX1_hold 10 = .ok (.aload_n 0, 1) := by decide +kernel
theorem dX1_hold_11 : decode cX1_hold 11 = .ok (.getfield 15, 3) := by decide +kernel
theorem dX1_hold_14 : decode cX1_hold 14 = .ok (.iload_n 1, 1) := by decide +kernel
theorem dX1_hold_15 : decode cX1_hold 15 = .ok (.aload_n 0, 1) := by decide +kernel
theorem dX1_hold_16 : decode cX1_hold 16 = .ok (.getfield 9, 3) := by decide +kernel
theorem dX1_hold_19 : decode cX1_hold 19 = .ok (.iload_n 1, 1) := by decide +kernel
theorem dX1_hold_20 : decode cX1_hold 20 = .ok (.iaload, 1) := by decide +kernel
theorem dX1_hold_21 : decode cX1_hold 21 = .ok (.iastore, 1) := by decide +kernel
theorem dX1_hold_22 : decode cX1_hold 22 = .ok (.iinc 1 1, 3) := by decide +kernel
theorem dX1_hold_25 : decode cX1_hold 25 = .ok (.goto (-23), 3) := by decide +kernel
theorem dX1_hold_28 : decode cX1_hold 28 = .ok (.aload_n 0, 1) := by decide +kernel
theorem dX1_hold_29 : decode cX1_hold 29 = .ok (.aload_n 0, 1) := by decide +kernel
theorem dX1_hold_30 : decode cX1_hold 30 = .ok (.getfield 18, 3) := by decide +kernel
theorem dX1_hold_33 : decode cX1_hold 33 = .ok (.putfield 34, 3) := by decide +kernel
theorem dX1_hold_36 : decode cX1_hold 36 = .ok (.aload_n 0, 1) := by decide +kernel
theorem dX1_hold_37 : decode cX1_hold 37 = .ok (.iconst 0, 1) := by decide +kernel
theorem dX1_hold_38 : decode cX1_hold 38 = .ok (.putfield 18, 3) := by decide +kernel
theorem dX1_hold_41 : decode cX1_hold 41 = .ok (.return_, 1) := by decide +kernel
set_option maxRecDepth 20000 in
theorem ggX1_grants_X1_factBy : GoodIn wsX1_grants wsX1_factBy := goodIn_r _ [6] (by decide +kernel) (by decide +kernel)
set_option maxRecDepth 20000 in
theorem gX1_grants_X1_factBy : GoodIn wsX1_grants (va_wsS RX1 26 yX1_factBy wsX1_factBy) := goodIn_app (goodIn_of _ (by decide +kernel)) ggX1_grants_X1_factBy
set_option maxRecDepth 20000 in
theorem ggX1_grants_X1_fits : GoodIn wsX1_grants wsX1_fits := goodIn_r _ [10, 1, 2, 11, 12, 5, 13, 14, 15, 16, 17] (by decide +kernel) (by decide +kernel)
set_option maxRecDepth 20000 in
theorem gX1_grants_X1_fits : GoodIn wsX1_grants (wsV RX1 37 RX1 yX1_fits wsX1_fits) := goodIn_app (goodIn_of _ (by decide +kernel)) ggX1_grants_X1_fits
theorem dX1_grants_0 : decode cX1_grants 0 = .ok (.aload_n 0, 1) := by decide +kernel
theorem dX1_grants_1 : decode cX1_grants 1 = .ok (.getfield 34, 3) := by decide +kernel
theorem dX1_grants_4 : decode cX1_grants 4 = .ok (.ifCond .le 7, 3) := by decide +kernel
theorem dX1_grants_7 : decode cX1_grants 7 = .ok (.iconst 1, 1) := by decide +kernel
theorem dX1_grants_8 : decode cX1_grants 8 = .ok (.goto 4, 3) := by decide +kernel
theorem dX1_grants_11 : decode cX1_grants 11 = .ok (.iconst 0, 1) := by decide +kernel
theorem dX1_grants_12 : decode cX1_grants 12 = .ok (.istore_n 2, 1) := by decide +kernel
theorem dX1_grants_13 : decode cX1_grants 13 = .ok (.iconst 0, 1) := by decide +kernel
theorem dX1_grants_14 : decode cX1_grants 14 = .ok (.istore_n 3, 1) := by decide +kernel
theorem dX1_grants_15 : decode cX1_grants 15 = .ok (.iload_n 3, 1) := by decide +kernel
theorem dX1_grants_16 : decode cX1_grants 16 = .ok (.aload_n 0, 1) := by decide +kernel
theorem dX1_grants_17 : decode cX1_grants 17 = .ok (.getfield 34, 3) := by decide +kernel
theorem dX1_grants_20 : decode cX1_grants 20 = .ok (.if_icmp .ge 78, 3) := by decide +kernel
theorem dX1_grants_23 : decode cX1_grants 23 = .ok (.aload_n 0, 1) := by decide +kernel
theorem dX1_grants_24 : decode cX1_grants 24 = .ok (.getfield 15, 3) := by decide +kernel
theorem dX1_grants_27 : decode cX1_grants 27 = .ok (.iload_n 3, 1) := by decide +kernel
theorem dX1_grants_28 : decode cX1_grants 28 = .ok (.iaload, 1) := by decide +kernel
theorem dX1_grants_29 : decode cX1_grants 29 = .ok (.invokestatic 26, 3) := by decide +kernel
theorem dX1_grants_32 : decode cX1_grants 32 = .ok (.istore 4, 2) := by decide +kernel
theorem dX1_grants_34 : decode cX1_grants 34 = .ok (.iload 4, 2) := by decide +kernel
theorem dX1_grants_36 : decode cX1_grants 36 = .ok (.ifCond .lt 37, 3) := by decide +kernel
theorem dX1_grants_39 : decode cX1_grants 39 = .ok (.iload 4, 2) := by decide +kernel
theorem dX1_grants_41 : decode cX1_grants 41 = .ok (.aload_n 1, 1) := by decide +kernel
theorem dX1_grants_42 : decode cX1_grants 42 = .ok (.arraylength, 1) := by decide +kernel
theorem dX1_grants_43 : decode cX1_grants 43 = .ok (.if_icmp .ge 30, 3) := by decide +kernel
theorem dX1_grants_46 : decode cX1_grants 46 = .ok (.iload_n 2, 1) := by decide +kernel
theorem dX1_grants_47 : decode cX1_grants 47 = .ok (.ifCond .eq 21, 3) := by decide +kernel
theorem dX1_grants_50 : decode cX1_grants 50 = .ok (.aload_n 0, 1) := by decide +kernel
theorem dX1_grants_51 : decode cX1_grants 51 = .ok (.aload_n 1, 1) := by decide +kernel
theorem dX1_grants_52 : decode cX1_grants 52 = .ok (.iload 4, 2) := by decide +kernel
theorem dX1_grants_54 : decode cX1_grants 54 = .ok (.iaload, 1) := by decide +kernel
theorem dX1_grants_55 : decode cX1_grants 55 = .ok (.iload_n 3, 1) := by decide +kernel
theorem dX1_grants_56 : decode cX1_grants 56 = .ok (.iconst 1, 1) := by decide +kernel
theorem dX1_grants_57 : decode cX1_grants 57 = .ok (.iadd, 1) := by decide +kernel
theorem dX1_grants_58 : decode cX1_grants 58 = .ok (.invokevirtual 37, 3) := by decide +kernel
theorem dX1_grants_61 : decode cX1_grants 61 = .ok (.ifCond .eq 7, 3) := by decide +kernel
theorem dX1_grants_64 : decode cX1_grants 64 = .ok (.iconst 1, 1) := by decide +kernel
theorem dX1_grants_65 : decode cX1_grants 65 = .ok (.goto 4, 3) := by decide +kernel
theorem dX1_grants_68 : decode cX1_grants 68 = .ok (.iconst 0, 1) := by decide +kernel
theorem dX1_grants_69 : decode cX1_grants 69 = .ok (.istore_n 2, 1) := by decide +kernel
theorem dX1_grants_70 : decode cX1_grants 70 = .ok (.goto 22, 3) := by decide +kernel
theorem dX1_grants_73 : decode cX1_grants 73 = .ok (.aload_n 0, 1) := by decide +kernel
theorem dX1_grants_74 : decode cX1_grants 74 = .ok (.getfield 15, 3) := by decide +kernel
theorem dX1_grants_77 : decode cX1_grants 77 = .ok (.iload_n 3, 1) := by decide +kernel
theorem dX1_grants_78 : decode cX1_grants 78 = .ok (.iaload, 1) := by decide +kernel
theorem dX1_grants_79 : decode cX1_grants 79 = .ok (.bipush 124, 2) := by decide +kernel
theorem dX1_grants_81 : decode cX1_grants 81 = .ok (.if_icmp .ne 11, 3) := by decide +kernel
theorem dX1_grants_84 : decode cX1_grants 84 = .ok (.iload_n 2, 1) := by decide +kernel
theorem dX1_grants_85 : decode cX1_grants 85 = .ok (.ifCond .eq 5, 3) := by decide +kernel
theorem dX1_grants_88 : decode cX1_grants 88 = .ok (.iconst 1, 1) := by decide +kernel
theorem dX1_grants_89 : decode cX1_grants 89 = .ok (.ireturn, 1) := by decide +kernel
theorem dX1_grants_90 : decode cX1_grants 90 = .ok (.iconst 1, 1) := by decide +kernel
theorem dX1_grants_91 : decode cX1_grants 91 = .ok (.istore_n 2, 1) := by decide +kernel
theorem dX1_grants_92 : decode cX1_grants 92 = .ok (.iinc 3 1, 3) := by decide +kernel
theorem dX1_grants_95 : decode cX1_grants 95 = .ok (.goto (-80), 3) := by decide +kernel
theorem dX1_grants_98 : decode cX1_grants 98 = .ok (.iload_n 2, 1) := by decide +kernel
theorem dX1_grants_99 : decode cX1_grants 99 = .ok (.ireturn, 1) := by decide +kernel
set_option maxRecDepth 20000 in
theorem ggX1_fits_X1_isDigit : GoodIn wsX1_fits wsX1_isDigit := goodIn_r _ [6] (by decide +kernel) (by decide +kernel)
set_option maxRecDepth 20000 in
theorem gX1_fits_X1_isDigit : GoodIn wsX1_fits (va_wsS RX1 30 yX1_isDigit wsX1_isDigit) := goodIn_app (goodIn_of _ (by decide +kernel)) ggX1_fits_X1_isDigit
theorem dX1_fits_0 : decode cX1_fits 0 = .ok (.iload_n 2, 1) := by decide +kernel
theorem dX1_fits_1 : decode cX1_fits 1 = .ok (.aload_n 0, 1) := by decide +kernel
theorem dX1_fits_2 : decode cX1_fits 2 = .ok (.getfield 34, 3) := by decide +kernel
theorem dX1_fits_5 : decode cX1_fits 5 = .ok (.if_icmp .lt 5, 3) := by decide +kernel
theorem dX1_fits_8 : decode cX1_fits 8 = .ok (.iconst 0, 1) := by decide +kernel
theorem dX1_fits_9 : decode cX1_fits 9 = .ok (.ireturn, 1) := by decide +kernel
theorem dX1_fits_10 : decode cX1_fits 10 = .ok (.iconst 0, 1) := by decide +kernel
theorem dX1_fits_11 : decode cX1_fits 11 = .ok (.istore_n 3, 1) := by decide +kernel
theorem dX1_fits_12 : decode cX1_fits 12 = .ok (.iload_n 2, 1) := by decide +kernel
theorem dX1_fits_13 : decode cX1_fits 13 = .ok (.iconst 1, 1) := by decide +kernel
theorem dX1_fits_14 : decode cX1_fits 14 = .ok (.iadd, 1) := by decide +kernel
theorem dX1_fits_15 : decode cX1_fits 15 = .ok (.istore 4, 2) := by decide +kernel
theorem dX1_fits_17 : decode cX1_fits 17 = .ok (.iload 4, 2) := by decide +kernel
theorem dX1_fits_19 : decode cX1_fits 19 = .ok (.aload_n 0, 1) := by decide +kernel
theorem dX1_fits_20 : decode cX1_fits 20 = .ok (.getfield 34, 3) := by decide +kernel
theorem dX1_fits_23 : decode cX1_fits 23 = .ok (.if_icmp .ge 38, 3) := by decide +kernel
theorem dX1_fits_26 : decode cX1_fits 26 = .ok (.aload_n 0, 1) := by decide +kernel
theorem dX1_fits_27 : decode cX1_fits 27 = .ok (.getfield 15, 3) := by decide +kernel
theorem dX1_fits_30 : decode cX1_fits 30 = .ok (.iload 4, 2) := by decide +kernel
theorem dX1_fits_32 : decode cX1_fits 32 = .ok (.iaload, 1) := by decide +kernel
theorem dX1_fits_33 : decode cX1_fits 33 = .ok (.invokestatic 30, 3) := by decide +kernel
theorem dX1_fits_36 : decode cX1_fits 36 = .ok (.ifCond .eq 25, 3) := by decide +kernel
theorem dX1_fits_39 : decode cX1_fits 39 = .ok (.iload_n 3, 1) := by decide +kernel
theorem dX1_fits_40 : decode cX1_fits 40 = .ok (.bipush 10, 2) := by decide +kernel
theorem dX1_fits_42 : decode cX1_fits 42 = .ok (.imul, 1) := by decide +kernel
theorem dX1_fits_43 : decode cX1_fits 43 = .ok (.aload_n 0, 1) := by decide +kernel
theorem dX1_fits_44 : decode cX1_fits 44 = .ok (.getfield 15, 3) := by decide +kernel
theorem dX1_fits_47 : decode cX1_fits 47 = .ok (.iload 4, 2) := by decide +kernel
theorem dX1_fits_49 : decode cX1_fits 49 = .ok (.iaload, 1) := by decide +kernel
theorem dX1_fits_50 : decode cX1_fits 50 = .ok (.iadd, 1) := by decide +kernel
theorem dX1_fits_51 : decode cX1_fits 51 = .ok (.bipush 48, 2) := by decide +kernel
theorem dX1_fits_53 : decode cX1_fits 53 = .ok (.isub, 1) := by decide +kernel
theorem dX1_fits_54 : decode cX1_fits 54 = .ok (.istore_n 3, 1) := by decide +kernel
theorem dX1_fits_55 : decode cX1_fits 55 = .ok (.iinc 4 1, 3) := by decide +kernel
theorem dX1_fits_58 : decode cX1_fits 58 = .ok (.goto (-41), 3) := by decide +kernel
theorem dX1_fits_61 : decode cX1_fits 61 = .ok (.aload_n 0, 1) := by decide +kernel
theorem dX1_fits_62 : decode cX1_fits 62 = .ok (.getfield 15, 3) := by decide +kernel
theorem dX1_fits_65 : decode cX1_fits 65 = .ok (.iload_n 2, 1) := by decide +kernel
theorem dX1_fits_66 : decode cX1_fits 66 = .ok (.iaload, 1) := by decide +kernel
theorem dX1_fits_67 : decode cX1_fits 67 = .ok (.bipush 60, 2) := by decide +kernel
theorem dX1_fits_69 : decode cX1_fits 69 = .ok (.if_icmp .ne 16, 3) := by decide +kernel
theorem dX1_fits_72 : decode cX1_fits 72 = .ok (.iload_n 1, 1) := by decide +kernel
theorem dX1_fits_73 : decode cX1_fits 73 = .ok (.iload_n 3, 1) := by decide +kernel
theorem dX1_fits_74 : decode cX1_fits 74 = .ok (.if_icmp .ge 7, 3) := by decide +kernel
theorem dX1_fits_77 : decode cX1_fits 77 = .ok (.iconst 1, 1) := by decide +kernel
theorem dX1_fits_78 : decode cX1_fits 78 = .ok (.goto 17, 3) := by decide +kernel
theorem dX1_fits_81 : decode cX1_fits 81 = .ok (.iconst 0, 1) := by decide +kernel
theorem dX1_fits_82 : decode cX1_fits 82 = .ok (.goto 13, 3) := by decide +kernel
theorem dX1_fits_85 : decode cX1_fits 85 = .ok (.iload_n 1, 1) := by decide +kernel
theorem dX1_fits_86 : decode cX1_fits 86 = .ok (.iload_n 3, 1) := by decide +kernel
theorem dX1_fits_87 : decode cX1_fits 87 = .ok (.if_icmp .le 7, 3) := by decide +kernel
theorem dX1_fits_90 : decode cX1_fits 90 = .ok (.iconst 1, 1) := by decide +kernel
theorem dX1_fits_91 : decode cX1_fits 91 = .ok (.goto 4, 3) := by decide +kernel
theorem dX1_fits_94 : decode cX1_fits 94 = .ok (.iconst 0, 1) := by decide +kernel
theorem dX1_fits_95 : decode cX1_fits 95 = .ok (.ireturn, 1) := by decide +kernel
set_option maxRecDepth 20000 in
theorem ggX2_init_X4_init : GoodIn wsX2_init wsX4_init := goodIn_r _ [19, 20, 2, 3, 21, 22, 23, 41, 42, 43] (by decide +kernel) (by decide +kernel)
set_option maxRecDepth 20000 in
theorem gX2_init_X4_init_n42 : GoodIn wsX2_init (wsX4_init) := ggX2_init_X4_init
set_option maxRecDepth 20000 in
theorem ggX2_init_J7_fill_53178 : GoodIn wsX2_init wsJ7_fill_53178 := goodIn_r _ [27] (by decide +kernel) (by decide +kernel)
set_option maxRecDepth 20000 in
theorem gX2_init_J7_fill_53178 : GoodIn wsX2_init (va_wsS RX2 47 yJ7_fill_53178 wsJ7_fill_53178) := goodIn_app (goodIn_of _ (by decide +kernel)) ggX2_init_J7_fill_53178
theorem dX2_init_0 : decode cX2_init 0 = .ok (.aload_n 0, 1) := by decide +kernel
theorem dX2_init_1 : decode cX2_init 1 = .ok (.invokespecial 3, 3) := by decide +kernel
theorem dX2_init_4 : decode cX2_init 4 = .ok (.aload_n 0, 1) := by decide +kernel
theorem dX2_init_5 : decode cX2_init 5 = .ok (.bipush 20, 2) := by decide +kernel
theorem dX2_init_7 : decode cX2_init 7 = .ok (.putfield 9, 3) := by decide +kernel
theorem dX2_init_10 : decode cX2_init 10 = .ok (.aload_n 0, 1) := by decide +kernel
theorem dX2_init_11 : decode cX2_init 11 = .ok (.bipush 8, 2) := by decide +kernel
theorem dX2_init_13 : decode cX2_init 13 = .ok (.newarray .int, 2) := by decide +kernel
theorem dX2_init_15 : decode cX2_init 15 = .ok (.putfield 15, 3) := by decide +kernel
theorem dX2_init_18 : decode cX2_init 18 = .ok (.aload_n 0, 1) := by decide +kernel
theorem dX2_init_19 : decode cX2_init 19 = .ok (.bipush 12, 2) := by decide +kernel
theorem dX2_init_21 : decode cX2_init 21 = .ok (.newarray .int, 2) := by decide +kernel
theorem dX2_init_23 : decode cX2_init 23 = .ok (.putfield 19, 3) := by decide +kernel
theorem dX2_init_26 : decode cX2_init 26 = .ok (.aload_n 0, 1) := by decide +kernel
theorem dX2_init_27 : decode cX2_init 27 = .ok (.bipush 12, 2) := by decide +kernel
theorem dX2_init_29 : decode cX2_init 29 = .ok (.newarray .int, 2) := by decide +kernel
theorem dX2_init_31 : decode cX2_init 31 = .ok (.putfield 22, 3) := by decide +kernel
theorem dX2_init_34 : decode cX2_init 34 = .ok (.aload_n 0, 1) := by decide +kernel
theorem dX2_init_35 : decode cX2_init 35 = .ok (.bipush 12, 2) := by decide +kernel
theorem dX2_init_37 : decode cX2_init 37 = .ok (.newarray .int, 2) := by decide +kernel
theorem dX2_init_39 : decode cX2_init 39 = .ok (.putfield 25, 3) := by decide +kernel
theorem dX2_init_42 : decode cX2_init 42 = .ok (.aload_n 0, 1) := by decide +kernel
theorem dX2_init_43 : decode cX2_init 43 = .ok (.bipush 12, 2) := by decide +kernel
theorem dX2_init_45 : decode cX2_init 45 = .ok (.newarray .int, 2) := by decide +kernel
theorem dX2_init_47 : decode cX2_init 47 = .ok (.putfield 28, 3) := by decide +kernel
theorem dX2_init_50 : decode cX2_init 50 = .ok (.aload_n 0, 1) := by decide +kernel
theorem dX2_init_51 : decode cX2_init 51 = .ok (.bipush 12, 2) := by decide +kernel
theorem dX2_init_53 : decode cX2_init 53 = .ok (.newarray .int, 2) := by decide +kernel
theorem dX2_init_55 : decode cX2_init 55 = .ok (.putfield 31, 3) := by decide +kernel
theorem dX2_init_58 : decode cX2_init 58 = .ok (.aload_n 0, 1) := by decide +kernel
theorem dX2_init_59 : decode cX2_init 59 = .ok (.bipush 72, 2) := by decide +kernel
theorem dX2_init_61 : decode cX2_init 61 = .ok (.newarray .int, 2) := by decide +kernel
theorem dX2_init_63 : decode cX2_init 63 = .ok (.putfield 34, 3) := by decide +kernel
theorem dX2_init_66 : decode cX2_init 66 = .ok (.aload_n 0, 1) := by decide +kernel
theorem dX2_init_67 : decode cX2_init 67 = .ok (.sipush 216, 3) := by decide +kernel
theorem dX2_init_70 : decode cX2_init 70 = .ok (.newarray .int, 2) := by decide +kernel
theorem dX2_init_72 : decode cX2_init 72 = .ok (.putfield 37, 3) := by decide +kernel
theorem dX2_init_75 : decode cX2_init 75 = .ok (.aload_n 0, 1) := by decide +kernel
theorem dX2_init_76 : decode cX2_init 76 = .ok (.new 40, 3) := by decide +kernel
theorem dX2_init_79 : decode cX2_init 79 = .ok (.dup, 1) := by decide +kernel
theorem dX2_init_80 : decode cX2_init 80 = .ok (.invokespecial 42, 3) := by decide +kernel
theorem dX2_init_83 : decode cX2_init 83 = .ok (.putfield 43, 3) := by decide +kernel
theorem dX2_init_86 : decode cX2_init 86 = .ok (.aload_n 0, 1) := by decide +kernel
theorem dX2_init_87 : decode cX2_init 87 = .ok (.getfield 15, 3) := by decide +kernel
theorem dX2_init_90 : decode cX2_init 90 = .ok (.bipush 50, 2) := by decide +kernel
theorem dX2_init_92 : decode cX2_init 92 = .ok (.invokestatic 47, 3) := by decide +kernel
theorem dX2_init_95 : decode cX2_init 95 = .ok (.aload_n 0, 1) := by decide +kernel
theorem dX2_init_96 : decode cX2_init 96 = .ok (.getfield 31, 3) := by decide +kernel
theorem dX2_init_99 : decode cX2_init 99 = .ok (.bipush 10, 2) := by decide +kernel
theorem dX2_init_101 : decode cX2_init 101 = .ok (.invokestatic 47, 3) := by decide +kernel
theorem dX2_init_104 : decode cX2_init 104 = .ok (.return_, 1) := by decide +kernel
theorem dX2_has_0 : decode cX2_has 0 = .ok (.iload_n 1, 1) := by decide +kernel
theorem dX2_has_1 : decode cX2_has 1 = .ok (.ifCond .lt 15, 3) := by decide +kernel
theorem dX2_has_4 : decode cX2_has 4 = .ok (.iload_n 1, 1) := by decide +kernel
theorem dX2_has_5 : decode cX2_has 5 = .ok (.aload_n 0, 1) := by decide +kernel
theorem dX2_has_6 : decode cX2_has 6 = .ok (.getfield 53, 3) := by decide +kernel
theorem dX2_has_9 : decode cX2_has 9 = .ok (.if_icmp .ge 7, 3) := by decide +kernel
theorem dX2_has_12 : decode cX2_has 12 = .ok (.iconst 1, 1) := by decide +kernel
theorem dX2_has_13 : decode cX2_has 13 = .ok (.goto 4, 3) := by decide +kernel
theorem dX2_has_16 : decode cX2_has 16 = .ok (.iconst 0, 1) := by decide +kernel
theorem dX2_has_17 : decode cX2_has 17 = .ok (.ireturn, 1) := by decide +kernel
theorem dX2_add_0 : decode cX2_add 0 = .ok (.aload_n 0, 1) := by decide +kernel
theorem dX2_add_1 : decode cX2_add 1 = .ok (.getfield 19, 3) := by decide +kernel
theorem dX2_add_4 : decode cX2_add 4 = .ok (.aload_n 0, 1) := by decide +kernel
theorem dX2_add_5 : decode cX2_add 5 = .ok (.getfield 53, 3) := by decide +kernel
theorem dX2_add_8 : decode cX2_add 8 = .ok (.iload_n 1, 1) := by decide +kernel
theorem dX2_add_9 : decode cX2_add 9 = .ok (.iastore, 1) := by decide +kernel
theorem dX2_add_10 : decode cX2_add 10 = .ok (.aload_n 0, 1) := by decide +kernel
theorem dX2_add_11 : decode cX2_add 11 = .ok (.getfield 22, 3) := by decide +kernel
theorem dX2_add_14 : decode cX2_add 14 = .ok (.aload_n 0, 1) := by decide +kernel
theorem dX2_add_15 : decode cX2_add 15 = .ok (.getfield 53, 3) := by decide +kernel
theorem dX2_add_18 : decode cX2_add 18 = .ok (.iload_n 2, 1) := by decide +kernel
theorem dX2_add_19 : decode cX2_add 19 = .ok (.iastore, 1) := by decide +kernel
theorem dX2_add_20 : decode cX2_add 20 = .ok (.aload_n 0, 1) := by decide +kernel
theorem dX2_add_21 : decode cX2_add 21 = .ok (.getfield 25, 3) := by decide +kernel
theorem dX2_add_24 : decode cX2_add 24 = .ok (.aload_n 0, 1) := by decide +kernel
theorem dX2_add_25 : decode cX2_add 25 = .ok (.getfield 53, 3) := by decide +kernel
theorem dX2_add_28 : decode cX2_add 28 = .ok (.iload_n 3, 1) := by decide +kernel
theorem dX2_add_29 : decode cX2_add 29 = .ok (.iastore, 1) := by decide +kernel
theorem dX2_add_30 : decode cX2_add 30 = .ok (.aload_n 0, 1) := by decide +kernel
theorem dX2_add_31 : decode cX2_add 31 = .ok (.dup, 1) := by decide +kernel
theorem dX2_add_32 : decode cX2_add 32 = .ok (.getfield 53, 3) := by decide +kernel
theorem dX2_add_35 : decode cX2_add 35 = .ok (.iconst 1, 1) := by decide +kernel
theorem dX2_add_36 : decode cX2_add 36 = .ok (.iadd, 1) := by decide +kernel
theorem dX2_add_37 : decode cX2_add 37 = .ok (.putfield 53, 3) := by decide +kernel
theorem dX2_add_40 : decode cX2_add 40 = .ok (.aload_n 0, 1) := by decide +kernel
theorem dX2_add_41 : decode cX2_add 41 = .ok (.getfield 53, 3) := by decide +kernel
theorem dX2_add_44 : decode cX2_add 44 = .ok (.iconst 1, 1) := by decide +kernel
theorem dX2_add_45 : decode cX2_add 45 = .ok (.isub, 1) := by decide +kernel
theorem dX2_add_46 : decode cX2_add 46 = .ok (.ireturn, 1) := by decide +kernel
theorem dX2_goalsAhead_0 : decode cX2_goalsAhead 0 = .ok (.iconst 0, 1) := by decide +kernel
theorem dX2_goalsAhead_1 : decode cX2_goalsAhead 1 = .ok (.istore 4, 2) := by decide +kernel
theorem dX2_goalsAhead_3 : decode cX2_goalsAhead 3 = .ok (.iconst 0, 1) := by decide +kernel
theorem dX2_goalsAhead_4 : decode cX2_goalsAhead 4 = .ok (.istore 5, 2) := by decide +kernel
theorem dX2_goalsAhead_6 : decode cX2_goalsAhead 6 = .ok (.iload 5, 2) := by decide +kernel
theorem dX2_goalsAhead_8 : decode cX2_goalsAhead 8 = .ok (.iload_n 2, 1) := by decide +kernel
theorem dX2_goalsAhead_9 : decode cX2_goalsAhead 9 = .ok (.if_icmp .ge 28, 3) := by decide +kernel
theorem dX2_goalsAhead_12 : decode cX2_goalsAhead 12 = .ok (.aload_n 0, 1) := by decide +kernel
theorem dX2_goalsAhead_13 : decode cX2_goalsAhead 13 = .ok (.getfield 34, 3) := by decide +kernel
theorem dX2_goalsAhead_16 : decode cX2_goalsAhead 16 = .ok (.iload_n 1, 1) := by decide +kernel
theorem dX2_goalsAhead_17 : decode cX2_goalsAhead 17 = .ok (.bipush 6, 2) := by decide +kernel
theorem dX2_goalsAhead_19 : decode cX2_goalsAhead 19 = .ok (.imul, 1) := by decide +kernel
theorem dX2_goalsAhead_20 : decode cX2_goalsAhead 20 = .ok (.iload 5, 2) := by decide +kernel
theorem dX2_goalsAhead_22 : decode cX2_goalsAhead 22 = .ok (.iadd, 1) := by decide +kernel
theorem dX2_goalsAhead_23 : decode cX2_goalsAhead 23 = .ok (.iaload, 1) := by decide +kernel
theorem dX2_goalsAhead_24 : decode cX2_goalsAhead 24 = .ok (.iload_n 3, 1) := by decide +kernel
theorem dX2_goalsAhead_25 : decode cX2_goalsAhead 25 = .ok (.if_icmp .ne 6, 3) := by decide +kernel
theorem dX2_goalsAhead_28 : decode cX2_goalsAhead 28 = .ok (.iinc 4 1, 3) := by decide +kernel
theorem dX2_goalsAhead_31 : decode cX2_goalsAhead 31 = .ok (.iinc 5 1, 3) := by decide +kernel
theorem dX2_goalsAhead_34 : decode cX2_goalsAhead 34 = .ok (.goto (-28), 3) := by decide +kernel
theorem dX2_goalsAhead_37 : decode cX2_goalsAhead 37 = .ok (.iload 4, 2) := by decide +kernel
theorem dX2_goalsAhead_39 : decode cX2_goalsAhead 39 = .ok (.ireturn, 1) := by decide +kernel
set_option maxRecDepth 20000 in
theorem ggX2_leadAhead_X2_goalsAhead : GoodIn wsX2_leadAhead wsX2_goalsAhead := goodIn_r _ [5, 6, 7, 8, 9, 10, 11, 12, 13, 14, 15, 16, 17, 18, 19] (by decide +kernel) (by decide +kernel)
set_option maxRecDepth 20000 in
theorem gX2_leadAhead_X2_goalsAhead : GoodIn wsX2_leadAhead (wsV RX2 56 RX2 yX2_goalsAhead wsX2_goalsAhead) := goodIn_app (goodIn_of _ (by decide +kernel)) ggX2_leadAhead_X2_goalsAhead
theorem dX2_leadAhead_0 : decode cX2_leadAhead 0 = .ok (.aload_n 0, 1) := by decide +kernel
theorem dX2_leadAhead_1 : decode cX2_leadAhead 1 = .ok (.iload_n 1, 1) := by decide +kernel
theorem dX2_leadAhead_2 : decode cX2_leadAhead 2 = .ok (.iload_n 2, 1) := by decide +kernel
theorem dX2_leadAhead_3 : decode cX2_leadAhead 3 = .ok (.iconst 1, 1) := by decide +kernel
theorem dX2_leadAhead_4 : decode cX2_leadAhead 4 = .ok (.invokevirtual 56, 3) := by decide +kernel
theorem dX2_leadAhead_7 : decode cX2_leadAhead 7 = .ok (.aload_n 0, 1) := by decide +kernel
theorem dX2_leadAhead_8 : decode cX2_leadAhead 8 = .ok (.iload_n 1, 1) := by decide +kernel
theorem dX2_leadAhead_9 : decode cX2_leadAhead 9 = .ok (.iload_n 2, 1) := by decide +kernel
theorem dX2_leadAhead_10 : decode cX2_leadAhead 10 = .ok (.iconst 2, 1) := by decide +kernel
theorem dX2_leadAhead_11 : decode cX2_leadAhead 11 = .ok (.invokevirtual 56, 3) := by decide +kernel
theorem dX2_leadAhead_14 : decode cX2_leadAhead 14 = .ok (.isub, 1) := by decide +kernel
theorem dX2_leadAhead_15 : decode cX2_leadAhead 15 = .ok (.ireturn, 1) := by decide +kernel
set_option maxRecDepth 20000 in
theorem ggX2_endOf_X2_leadAhead : GoodIn wsX2_endOf wsX2_leadAhead := goodIn_r _ [5, 6, 7, 8, 4, 9, 10, 15, 16, 17, 18, 19, 20, 21, 22, 23, 24, 25, 26, 27] (by decide +kernel) (by decide +kernel)
set_option maxRecDepth 20000 in
theorem gX2_endOf_X2_leadAhead : GoodIn wsX2_endOf (wsV RX2 60 RX2 yX2_leadAhead wsX2_leadAhead) := goodIn_app (goodIn_of _ (by decide +kernel)) ggX2_endOf_X2_leadAhead
set_option maxRecDepth 20000 in
theorem ggX2_endOf_X4_endByLead : GoodIn wsX2_endOf wsX4_endByLead := goodIn_r _ [14] (by decide +kernel) (by decide +kernel)
set_option maxRecDepth 20000 in
theorem gX2_endOf_X4_endByLead : GoodIn wsX2_endOf (va_wsS RX2 64 yX4_endByLead wsX4_endByLead) := goodIn_app (goodIn_of _ (by decide +kernel)) ggX2_endOf_X4_endByLead
theorem dX2_endOf_0 : decode cX2_endOf 0 = .ok (.aload_n 0, 1) := by decide +kernel
theorem dX2_endOf_1 : decode cX2_endOf 1 = .ok (.iload_n 1, 1) := by decide +kernel
theorem dX2_endOf_2 : decode cX2_endOf 2 = .ok (.bipush 6, 2) := by decide +kernel
theorem dX2_endOf_4 : decode cX2_endOf 4 = .ok (.invokevirtual 60, 3) := by decide +kernel
theorem dX2_endOf_7 : decode cX2_endOf 7 = .ok (.invokestatic 64, 3) := by decide +kernel
theorem dX2_endOf_10 : decode cX2_endOf 10 = .ok (.ireturn, 1) := by decide +kernel
theorem dX2_chanceOf_0 : decode cX2_chanceOf 0 = .ok (.aload_n 0, 1) := by decide +kernel
theorem dX2_chanceOf_1 : decode cX2_chanceOf 1 = .ok (.getfield 9, 3) := by decide +kernel
theorem dX2_chanceOf_4 : decode cX2_chanceOf 4 = .ok (.aload_n 0, 1) := by decide +kernel
theorem dX2_chanceOf_5 : decode cX2_chanceOf 5 = .ok (.getfield 15, 3) := by decide +kernel
theorem dX2_chanceOf_8 : decode cX2_chanceOf 8 = .ok (.iload_n 1, 1) := by decide +kernel
theorem dX2_chanceOf_9 : decode cX2_chanceOf 9 = .ok (.iaload, 1) := by decide +kernel
theorem dX2_chanceOf_10 : decode cX2_chanceOf 10 = .ok (.aload_n 0, 1) := by decide +kernel
theorem dX2_chanceOf_11 : decode cX2_chanceOf 11 = .ok (.getfield 15, 3) := by decide +kernel
theorem dX2_chanceOf_14 : decode cX2_chanceOf 14 = .ok (.iload_n 2, 1) := by decide +kernel
theorem dX2_chanceOf_15 : decode cX2_chanceOf 15 = .ok (.iaload, 1) := by decide +kernel
theorem dX2_chanceOf_16 : decode cX2_chanceOf 16 = .ok (.isub, 1) := by decide +kernel
theorem dX2_chanceOf_17 : decode cX2_chanceOf 17 = .ok (.iconst 4, 1) := by decide +kernel
theorem dX2_chanceOf_18 : decode cX2_chanceOf 18 = .ok (.idiv, 1) := by decide +kernel
theorem dX2_chanceOf_19 : decode cX2_chanceOf 19 = .ok (.iadd, 1) := by decide +kernel
theorem dX2_chanceOf_20 : decode cX2_chanceOf 20 = .ok (.istore_n 3, 1) := by decide +kernel
theorem dX2_chanceOf_21 : decode cX2_chanceOf 21 = .ok (.iconst 1, 1) := by decide +kernel
theorem dX2_chanceOf_22 : decode cX2_chanceOf 22 = .ok (.bipush 45, 2) := by decide +kernel
theorem dX2_chanceOf_24 : decode cX2_chanceOf 24 = .ok (.iload_n 3, 1) := by decide +kernel
theorem dX2_chanceOf_25 : decode cX2_chanceOf 25 = .ok (.invokestatic 68, 3) := by decide +kernel
theorem dX2_chanceOf_28 : decode cX2_chanceOf 28 = .ok (.invokestatic 73, 3) := by decide +kernel
theorem dX2_chanceOf_31 : decode cX2_chanceOf 31 = .ok (.ireturn, 1) := by decide +kernel
set_option maxRecDepth 20000 in
theorem ggX2_weigh_X2_chanceOf : GoodIn wsX2_weigh wsX2_chanceOf := goodIn_r _ [8, 9, 10, 11, 12, 13, 14, 15, 16, 17, 42, 43, 44, 45, 46, 47, 48, 49, 50, 51, 52, 53, 54] (by decide +kernel) (by decide +kernel)
set_option maxRecDepth 20000 in
theorem gX2_weigh_X2_chanceOf : GoodIn wsX2_weigh (wsV RX2 76 RX2 yX2_chanceOf wsX2_chanceOf) := goodIn_app (goodIn_of _ (by decide +kernel)) ggX2_weigh_X2_chanceOf
set_option maxRecDepth 20000 in
theorem ggX2_weigh_X4_playQuarters : GoodIn wsX2_weigh wsX4_playQuarters := goodIn_r _ [22, 23, 24, 25, 26, 27, 28, 29, 30, 31, 32, 21, 33, 55, 56, 57] (by decide +kernel) (by decide +kernel)
set_option maxRecDepth 20000 in
theorem gX2_weigh_X4_playQuarters : GoodIn wsX2_weigh (wsV RX2 79 RX4 yX4_playQuarters wsX4_playQuarters) := goodIn_app (goodIn_of _ (by decide +kernel)) ggX2_weigh_X4_playQuarters
set_option maxRecDepth 20000 in
theorem ggX2_weigh_X4_sumEnd : GoodIn wsX2_weigh wsX4_sumEnd := goodIn_r _ [37, 38, 23, 39, 40, 21, 41, 55, 56, 57] (by decide +kernel) (by decide +kernel)
set_option maxRecDepth 20000 in
theorem gX2_weigh_X4_sumEnd : GoodIn wsX2_weigh (wsV RX2 83 RX4 yX4_sumEnd wsX4_sumEnd) := goodIn_app (goodIn_of _ (by decide +kernel)) ggX2_weigh_X4_sumEnd
theorem dX2_weigh_0 : decode cX2_weigh 0 = .ok (.aload_n 0, 1) := by decide +kernel
theorem dX2_weigh_1 : decode cX2_weigh 1 = .ok (.aload_n 0, 1) := by decide +kernel
theorem dX2_weigh_2 : decode cX2_weigh 2 = .ok (.getfield 19, 3) := by decide +kernel
theorem dX2_weigh_5 : decode cX2_weigh 5 = .ok (.iload_n 1, 1) := by decide +kernel
theorem dX2_weigh_6 : decode cX2_weigh 6 = .ok (.iaload, 1) := by decide +kernel
theorem dX2_weigh_7 : decode cX2_weigh 7 = .ok (.aload_n 0, 1) := by decide +kernel
theorem dX2_weigh_8 : decode cX2_weigh 8 = .ok (.getfield 22, 3) := by decide +kernel
theorem dX2_weigh_11 : decode cX2_weigh 11 = .ok (.iload_n 1, 1) := by decide +kernel
theorem dX2_weigh_12 : decode cX2_weigh 12 = .ok (.iaload, 1) := by decide +kernel
theorem dX2_weigh_13 : decode cX2_weigh 13 = .ok (.invokevirtual 76, 3) := by decide +kernel
theorem dX2_weigh_16 : decode cX2_weigh 16 = .ok (.istore 5, 2) := by decide +kernel
theorem dX2_weigh_18 : decode cX2_weigh 18 = .ok (.aload_n 0, 1) := by decide +kernel
theorem dX2_weigh_19 : decode cX2_weigh 19 = .ok (.aload_n 0, 1) := by decide +kernel
theorem dX2_weigh_20 : decode cX2_weigh 20 = .ok (.getfield 22, 3) := by decide +kernel
theorem dX2_weigh_23 : decode cX2_weigh 23 = .ok (.iload_n 1, 1) := by decide +kernel
theorem dX2_weigh_24 : decode cX2_weigh 24 = .ok (.iaload, 1) := by decide +kernel
theorem dX2_weigh_25 : decode cX2_weigh 25 = .ok (.aload_n 0, 1) := by decide +kernel
theorem dX2_weigh_26 : decode cX2_weigh 26 = .ok (.getfield 19, 3) := by decide +kernel
theorem dX2_weigh_29 : decode cX2_weigh 29 = .ok (.iload_n 1, 1) := by decide +kernel
theorem dX2_weigh_30 : decode cX2_weigh 30 = .ok (.iaload, 1) := by decide +kernel
theorem dX2_weigh_31 : decode cX2_weigh 31 = .ok (.invokevirtual 76, 3) := by decide +kernel
theorem dX2_weigh_34 : decode cX2_weigh 34 = .ok (.istore 6, 2) := by decide +kernel
theorem dX2_weigh_36 : decode cX2_weigh 36 = .ok (.aload_n 0, 1) := by decide +kernel
theorem dX2_weigh_37 : decode cX2_weigh 37 = .ok (.getfield 43, 3) := by decide +kernel
theorem dX2_weigh_40 : decode cX2_weigh 40 = .ok (.bipush 6, 2) := by decide +kernel
theorem dX2_weigh_42 : decode cX2_weigh 42 = .ok (.iload_n 2, 1) := by decide +kernel
theorem dX2_weigh_43 : decode cX2_weigh 43 = .ok (.isub, 1) := by decide +kernel
theorem dX2_weigh_44 : decode cX2_weigh 44 = .ok (.iload 5, 2) := by decide +kernel
theorem dX2_weigh_46 : decode cX2_weigh 46 = .ok (.iload 6, 2) := by decide +kernel
theorem dX2_weigh_48 : decode cX2_weigh 48 = .ok (.invokevirtual 79, 3) := by decide +kernel
theorem dX2_weigh_51 : decode cX2_weigh 51 = .ok (.aload_n 0, 1) := by decide +kernel
theorem dX2_weigh_52 : decode cX2_weigh 52 = .ok (.getfield 43, 3) := by decide +kernel
theorem dX2_weigh_55 : decode cX2_weigh 55 = .ok (.iload_n 3, 1) := by decide +kernel
theorem dX2_weigh_56 : decode cX2_weigh 56 = .ok (.iload 4, 2) := by decide +kernel
theorem dX2_weigh_58 : decode cX2_weigh 58 = .ok (.invokevirtual 83, 3) := by decide +kernel
theorem dX2_weigh_61 : decode cX2_weigh 61 = .ok (.return_, 1) := by decide +kernel
set_option maxRecDepth 20000 in
theorem ggX2_leanAt_X2_leadAhead : GoodIn wsX2_leanAt wsX2_leadAhead := goodIn_r _ [8, 9, 10, 11, 7, 12, 13, 62, 63, 64, 65, 66, 67, 68, 69, 70, 71, 72, 73, 74] (by decide +kernel) (by decide +kernel)
set_option maxRecDepth 20000 in
theorem gX2_leanAt_X2_leadAhead : GoodIn wsX2_leanAt (wsV RX2 60 RX2 yX2_leadAhead wsX2_leadAhead) := goodIn_app (goodIn_of _ (by decide +kernel)) ggX2_leanAt_X2_leadAhead
set_option maxRecDepth 20000 in
theorem ggX2_leanAt_X2_weigh : GoodIn wsX2_leanAt wsX2_weigh := goodIn_r _ [17, 18, 19, 3, 20, 21, 22, 7, 23, 24, 25, 26, 27, 28, 29, 30, 31, 32, 33, 34, 35, 36, 37, 38, 39, 40, 41, 42, 43, 44, 45, 46, 47, 48, 49, 50, 51, 52, 53, 54, 55, 56, 62, 63, 64, 65, 66, 67, 68, 69, 70, 71, 72, 73, 74, 75, 76, 77] (by decide +kernel) (by decide +kernel)
set_option maxRecDepth 20000 in
theorem gX2_leanAt_X2_weigh : GoodIn wsX2_leanAt (wsV RX2 87 RX2 yX2_weigh wsX2_weigh) := goodIn_app (goodIn_of _ (by decide +kernel)) ggX2_leanAt_X2_weigh
set_option maxRecDepth 20000 in
theorem ggX2_leanAt_X4_thousandths : GoodIn wsX2_leanAt wsX4_thousandths := goodIn_r _ [60, 39, 61, 53, 75, 76, 77] (by decide +kernel) (by decide +kernel)
set_option maxRecDepth 20000 in
theorem gX2_leanAt_X4_thousandths : GoodIn wsX2_leanAt (wsV RX2 92 RX4 yX4_thousandths wsX4_thousandths) := goodIn_app (goodIn_of _ (by decide +kernel)) ggX2_leanAt_X4_thousandths
theorem dX2_leanAt_0 : decode cX2_leanAt 0 = .ok (.aload_n 0, 1) := by decide +kernel
theorem dX2_leanAt_1 : decode cX2_leanAt 1 = .ok (.getfield 37, 3) := by decide +kernel
theorem dX2_leanAt_4 : decode cX2_leanAt 4 = .ok (.iload_n 1, 1) := by decide +kernel
theorem dX2_leanAt_5 : decode cX2_leanAt 5 = .ok (.bipush 18, 2) := by decide +kernel
theorem dX2_leanAt_7 : decode cX2_leanAt 7 = .ok (.imul, 1) := by decide +kernel
theorem dX2_leanAt_8 : decode cX2_leanAt 8 = .ok (.iload_n 2, 1) := by decide +kernel
theorem dX2_leanAt_9 : decode cX2_leanAt 9 = .ok (.iconst 3, 1) := by decide +kernel
theorem dX2_leanAt_10 : decode cX2_leanAt 10 = .ok (.imul, 1) := by decide +kernel
theorem dX2_leanAt_11 : decode cX2_leanAt 11 = .ok (.iadd, 1) := by decide +kernel
theorem dX2_leanAt_12 : decode cX2_leanAt 12 = .ok (.iload_n 3, 1) := by decide +kernel
theorem dX2_leanAt_13 : decode cX2_leanAt 13 = .ok (.iadd, 1) := by decide +kernel
theorem dX2_leanAt_14 : decode cX2_leanAt 14 = .ok (.iaload, 1) := by decide +kernel
theorem dX2_leanAt_15 : decode cX2_leanAt 15 = .ok (.istore 4, 2) := by decide +kernel
theorem dX2_leanAt_17 : decode cX2_leanAt 17 = .ok (.iload 4, 2) := by decide +kernel
theorem dX2_leanAt_19 : decode cX2_leanAt 19 = .ok (.ifCond .gt 5, 3) := by decide +kernel
theorem dX2_leanAt_22 : decode cX2_leanAt 22 = .ok (.iconst 0, 1) := by decide +kernel
theorem dX2_leanAt_23 : decode cX2_leanAt 23 = .ok (.ireturn, 1) := by decide +kernel
theorem dX2_leanAt_24 : decode cX2_leanAt 24 = .ok (.aload_n 0, 1) := by decide +kernel
theorem dX2_leanAt_25 : decode cX2_leanAt 25 = .ok (.iload_n 1, 1) := by decide +kernel
theorem dX2_leanAt_26 : decode cX2_leanAt 26 = .ok (.iload_n 2, 1) := by decide +kernel
theorem dX2_leanAt_27 : decode cX2_leanAt 27 = .ok (.aload_n 0, 1) := by decide +kernel
theorem dX2_leanAt_28 : decode cX2_leanAt 28 = .ok (.iload_n 1, 1) := by decide +kernel
theorem dX2_leanAt_29 : decode cX2_leanAt 29 = .ok (.iload_n 2, 1) := by decide +kernel
theorem dX2_leanAt_30 : decode cX2_leanAt 30 = .ok (.invokevirtual 60, 3) := by decide +kernel
theorem dX2_leanAt_33 : decode cX2_leanAt 33 = .ok (.iload_n 3, 1) := by decide +kernel
theorem dX2_leanAt_34 : decode cX2_leanAt 34 = .ok (.invokevirtual 87, 3) := by decide +kernel
theorem dX2_leanAt_37 : decode cX2_leanAt 37 = .ok (.ldc 91, 2) := by decide +kernel
theorem dX2_leanAt_39 : decode cX2_leanAt 39 = .ok (.iload 4, 2) := by decide +kernel
theorem dX2_leanAt_41 : decode cX2_leanAt 41 = .ok (.idiv, 1) := by decide +kernel
theorem dX2_leanAt_42 : decode cX2_leanAt 42 = .ok (.aload_n 0, 1) := by decide +kernel
theorem dX2_leanAt_43 : decode cX2_leanAt 43 = .ok (.getfield 43, 3) := by decide +kernel
theorem dX2_leanAt_46 : decode cX2_leanAt 46 = .ok (.invokevirtual 92, 3) := by decide +kernel
theorem dX2_leanAt_49 : decode cX2_leanAt 49 = .ok (.isub, 1) := by decide +kernel
theorem dX2_leanAt_50 : decode cX2_leanAt 50 = .ok (.ireturn, 1) := by decide +kernel
set_option maxRecDepth 20000 in
theorem ggX2_seekTop_X2_leanAt : GoodIn wsX2_seekTop wsX2_leanAt := goodIn_r _ [7, 8, 9, 10, 11, 12, 13, 6, 14, 15, 16, 17, 18, 19, 20, 21, 22, 23, 24, 25, 26, 27, 28, 29, 30, 31, 32, 33, 34, 35, 36, 37, 38, 39, 40, 41, 42, 43, 44, 45, 46, 47, 48, 49, 50, 51, 52, 53, 54, 55, 56, 57, 58, 59, 60, 61, 62, 63, 64, 65, 66, 67, 68, 69, 70, 71, 72, 73, 74, 75, 76, 77, 78, 79, 80, 81, 82, 83] (by decide +kernel) (by decide +kernel)
set_option maxRecDepth 20000 in
theorem gX2_seekTop_X2_leanAt : GoodIn wsX2_seekTop (wsV RX2 96 RX2 yX2_leanAt wsX2_leanAt) := goodIn_app (goodIn_of _ (by decide +kernel)) ggX2_seekTop_X2_leanAt
theorem dX2_seekTop_0 : decode cX2_seekTop 0 = .ok (.aload_n 0, 1) := by decide +kernel
theorem dX2_seekTop_1 : decode cX2_seekTop 1 = .ok (.aload_n 0, 1) := by decide +kernel
theorem dX2_seekTop_2 : decode cX2_seekTop 2 = .ok (.iload_n 1, 1) := by decide +kernel
theorem dX2_seekTop_3 : decode cX2_seekTop 3 = .ok (.iconst 0, 1) := by decide +kernel
theorem dX2_seekTop_4 : decode cX2_seekTop 4 = .ok (.iconst 0, 1) := by decide +kernel
theorem dX2_seekTop_5 : decode cX2_seekTop 5 = .ok (.invokevirtual 96, 3) := by decide +kernel
theorem dX2_seekTop_8 : decode cX2_seekTop 8 = .ok (.putfield 99, 3) := by decide +kernel
theorem dX2_seekTop_11 : decode cX2_seekTop 11 = .ok (.aload_n 0, 1) := by decide +kernel
theorem dX2_seekTop_12 : decode cX2_seekTop 12 = .ok (.iconst 0, 1) := by decide +kernel
theorem dX2_seekTop_13 : decode cX2_seekTop 13 = .ok (.putfield 102, 3) := by decide +kernel
theorem dX2_seekTop_16 : decode cX2_seekTop 16 = .ok (.iconst 1, 1) := by decide +kernel
theorem dX2_seekTop_17 : decode cX2_seekTop 17 = .ok (.istore_n 2, 1) := by decide +kernel
theorem dX2_seekTop_18 : decode cX2_seekTop 18 = .ok (.iload_n 2, 1) := by decide +kernel
theorem dX2_seekTop_19 : decode cX2_seekTop 19 = .ok (.bipush 18, 2) := by decide +kernel
theorem dX2_seekTop_21 : decode cX2_seekTop 21 = .ok (.if_icmp .ge 48, 3) := by decide +kernel
theorem dX2_seekTop_24 : decode cX2_seekTop 24 = .ok (.aload_n 0, 1) := by decide +kernel
theorem dX2_seekTop_25 : decode cX2_seekTop 25 = .ok (.iload_n 1, 1) := by decide +kernel
theorem dX2_seekTop_26 : decode cX2_seekTop 26 = .ok (.iload_n 2, 1) := by decide +kernel
theorem dX2_seekTop_27 : decode cX2_seekTop 27 = .ok (.iconst 3, 1) := by decide +kernel
theorem dX2_seekTop_28 : decode cX2_seekTop 28 = .ok (.idiv, 1) := by decide +kernel
theorem dX2_seekTop_29 : decode cX2_seekTop 29 = .ok (.iload_n 2, 1) := by decide +kernel
theorem dX2_seekTop_30 : decode cX2_seekTop 30 = .ok (.iconst 3, 1) := by decide +kernel
theorem dX2_seekTop_31 : decode cX2_seekTop 31 = .ok (.irem, 1) := by decide +kernel
theorem dX2_seekTop_32 : decode cX2_seekTop 32 = .ok (.invokevirtual 96, 3) := by decide +kernel
theorem dX2_seekTop_35 : decode cX2_seekTop 35 = .ok (.istore_n 3, 1) := by decide +kernel
theorem dX2_seekTop_36 : decode cX2_seekTop 36 = .ok (.iload_n 3, 1) := by decide +kernel
theorem dX2_seekTop_37 : decode cX2_seekTop 37 = .ok (.aload_n 0, 1) := by decide +kernel
theorem dX2_seekTop_38 : decode cX2_seekTop 38 = .ok (.getfield 99, 3) := by decide +kernel
theorem dX2_seekTop_41 : decode cX2_seekTop 41 = .ok (.if_icmp .le 22, 3) := by decide +kernel
theorem dX2_seekTop_44 : decode cX2_seekTop 44 = .ok (.aload_n 0, 1) := by decide +kernel
theorem dX2_seekTop_45 : decode cX2_seekTop 45 = .ok (.iload_n 3, 1) := by decide +kernel
theorem dX2_seekTop_46 : decode cX2_seekTop 46 = .ok (.putfield 99, 3) := by decide +kernel
theorem dX2_seekTop_49 : decode cX2_seekTop 49 = .ok (.aload_n 0, 1) := by decide +kernel
theorem dX2_seekTop_50 : decode cX2_seekTop 50 = .ok (.bipush 10, 2) := by decide +kernel
theorem dX2_seekTop_52 : decode cX2_seekTop 52 = .ok (.iload_n 2, 1) := by decide +kernel
theorem dX2_seekTop_53 : decode cX2_seekTop 53 = .ok (.iconst 3, 1) := by decide +kernel
theorem dX2_seekTop_54 : decode cX2_seekTop 54 = .ok (.idiv, 1) := by decide +kernel
theorem dX2_seekTop_55 : decode cX2_seekTop 55 = .ok (.imul, 1) := by decide +kernel
theorem dX2_seekTop_56 : decode cX2_seekTop 56 = .ok (.iload_n 2, 1) := by decide +kernel
theorem dX2_seekTop_57 : decode cX2_seekTop 57 = .ok (.iconst 3, 1) := by decide +kernel
theorem dX2_seekTop_58 : decode cX2_seekTop 58 = .ok (.irem, 1) := by decide +kernel
theorem dX2_seekTop_59 : decode cX2_seekTop 59 = .ok (.iadd, 1) := by decide +kernel
theorem dX2_seekTop_60 : decode cX2_seekTop 60 = .ok (.putfield 102, 3) := by decide +kernel
theorem dX2_seekTop_63 : decode cX2_seekTop 63 = .ok (.iinc 2 1, 3) := by decide +kernel
theorem dX2_seekTop_66 : decode cX2_seekTop 66 = .ok (.goto (-48), 3) := by decide +kernel
theorem dX2_seekTop_69 : decode cX2_seekTop 69 = .ok (.return_, 1) := by decide +kernel
theorem dX3_init_0 : decode cX3_init 0 = .ok (.aload_n 0, 1) := by decide +kernel
theorem dX3_init_1 : decode cX3_init 1 = .ok (.invokespecial 3, 3) := by decide +kernel
theorem dX3_init_4 : decode cX3_init 4 = .ok (.aload_n 0, 1) := by decide +kernel
theorem dX3_init_5 : decode cX3_init 5 = .ok (.bipush 12, 2) := by decide +kernel
theorem dX3_init_7 : decode cX3_init 7 = .ok (.newarray .int, 2) := by decide +kernel
theorem dX3_init_9 : decode cX3_init 9 = .ok (.putfield 9, 3) := by decide +kernel
theorem dX3_init_12 : decode cX3_init 12 = .ok (.aload_n 0, 1) := by decide +kernel
theorem dX3_init_13 : decode cX3_init 13 = .ok (.bipush 12, 2) := by decide +kernel
theorem dX3_init_15 : decode cX3_init 15 = .ok (.newarray .int, 2) := by decide +kernel
theorem dX3_init_17 : decode cX3_init 17 = .ok (.putfield 15, 3) := by decide +kernel
theorem dX3_init_20 : decode cX3_init 20 = .ok (.return_, 1) := by decide +kernel
set_option maxRecDepth 20000 in
theorem ggX3_build_X0_groupHands : GoodIn wsX3_build wsX0_groupHands := goodIn_r _ [8, 9, 10, 11, 12, 13, 7, 14, 15, 16, 17, 18, 19, 20, 21, 22, 23, 24, 25, 26, 27, 28, 29, 30, 31, 32, 33, 34, 35, 36, 37, 38, 39, 40, 41, 42, 43, 44, 69, 70, 71, 72, 73, 74, 75, 76, 77, 78, 79, 80, 81] (by decide +kernel) (by decide +kernel)
set_option maxRecDepth 20000 in
theorem gX3_build_X0_groupHands : GoodIn wsX3_build (wsV RX3 18 RX0 yX0_groupHands wsX0_groupHands) := goodIn_app (goodIn_of _ (by decide +kernel)) ggX3_build_X0_groupHands
set_option maxRecDepth 20000 in
theorem ggX3_build_X0_handsOn : GoodIn wsX3_build wsX0_handsOn := goodIn_r _ [48, 16, 32, 17, 69, 70, 71, 72, 73, 74, 75, 76, 77, 78, 79, 80, 81] (by decide +kernel) (by decide +kernel)
set_option maxRecDepth 20000 in
theorem gX3_build_X0_handsOn : GoodIn wsX3_build (wsV RX3 32 RX0 yX0_handsOn wsX0_handsOn) := goodIn_app (goodIn_of _ (by decide +kernel)) ggX3_build_X0_handsOn
set_option maxRecDepth 20000 in
theorem ggX3_build_X3_reachOf : GoodIn wsX3_build wsX3_reachOf := goodIn_r _ [52, 69, 70, 71, 72, 73, 74, 75, 76, 77, 78, 79, 80, 81] (by decide +kernel) (by decide +kernel)
set_option maxRecDepth 20000 in
theorem gX3_build_X3_reachOf : GoodIn wsX3_build (va_wsS RX3 36 yX3_reachOf wsX3_reachOf) := goodIn_app (goodIn_of _ (by decide +kernel)) ggX3_build_X3_reachOf
theorem dX3_build_0 : decode cX3_build 0 = .ok (.aload_n 2, 1) := by decide +kernel
theorem dX3_build_1 : decode cX3_build 1 = .ok (.invokevirtual 18, 3) := by decide +kernel
theorem dX3_build_4 : decode cX3_build 4 = .ok (.aload_n 0, 1) := by decide +kernel
theorem dX3_build_5 : decode cX3_build 5 = .ok (.aload_n 1, 1) := by decide +kernel
theorem dX3_build_6 : decode cX3_build 6 = .ok (.getfield 23, 3) := by decide +kernel
theorem dX3_build_9 : decode cX3_build 9 = .ok (.putfield 29, 3) := by decide +kernel
theorem dX3_build_12 : decode cX3_build 12 = .ok (.iconst 0, 1) := by decide +kernel
theorem dX3_build_13 : decode cX3_build 13 = .ok (.istore_n 3, 1) := by decide +kernel
theorem dX3_build_14 : decode cX3_build 14 = .ok (.iload_n 3, 1) := by decide +kernel
theorem dX3_build_15 : decode cX3_build 15 = .ok (.aload_n 0, 1) := by decide +kernel
theorem dX3_build_16 : decode cX3_build 16 = .ok (.getfield 29, 3) := by decide +kernel
theorem dX3_build_19 : decode cX3_build 19 = .ok (.if_icmp .ge 33, 3) := by decide +kernel
theorem dX3_build_22 : decode cX3_build 22 = .ok (.aload_n 0, 1) := by decide +kernel
theorem dX3_build_23 : decode cX3_build 23 = .ok (.getfield 9, 3) := by decide +kernel
theorem dX3_build_26 : decode cX3_build 26 = .ok (.iload_n 3, 1) := by decide +kernel
theorem dX3_build_27 : decode cX3_build 27 = .ok (.iconst 1, 1) := by decide +kernel
theorem dX3_build_28 : decode cX3_build 28 = .ok (.iload_n 3, 1) := by decide +kernel
theorem dX3_build_29 : decode cX3_build 29 = .ok (.ishl, 1) := by decide +kernel
theorem dX3_build_30 : decode cX3_build 30 = .ok (.iastore, 1) := by decide +kernel
theorem dX3_build_31 : decode cX3_build 31 = .ok (.aload_n 0, 1) := by decide +kernel
theorem dX3_build_32 : decode cX3_build 32 = .ok (.getfield 15, 3) := by decide +kernel
theorem dX3_build_35 : decode cX3_build 35 = .ok (.iload_n 3, 1) := by decide +kernel
theorem dX3_build_36 : decode cX3_build 36 = .ok (.aload_n 2, 1) := by decide +kernel
theorem dX3_build_37 : decode cX3_build 37 = .ok (.iload_n 3, 1) := by decide +kernel
theorem dX3_build_38 : decode cX3_build 38 = .ok (.invokevirtual 32, 3) := by decide +kernel
theorem dX3_build_41 : decode cX3_build 41 = .ok (.aload_n 2, 1) := by decide +kernel
theorem dX3_build_42 : decode cX3_build 42 = .ok (.invokestatic 36, 3) := by decide +kernel
theorem dX3_build_45 : decode cX3_build 45 = .ok (.iastore, 1) := by decide +kernel
theorem dX3_build_46 : decode cX3_build 46 = .ok (.iinc 3 1, 3) := by decide +kernel
theorem dX3_build_49 : decode cX3_build 49 = .ok (.goto (-35), 3) := by decide +kernel
theorem dX3_build_52 : decode cX3_build 52 = .ok (.iconst 0, 1) := by decide +kernel
theorem dX3_build_53 : decode cX3_build 53 = .ok (.istore_n 3, 1) := by decide +kernel
theorem dX3_build_54 : decode cX3_build 54 = .ok (.iload_n 3, 1) := by decide +kernel
theorem dX3_build_55 : decode cX3_build 55 = .ok (.aload_n 0, 1) := by decide +kernel
theorem dX3_build_56 : decode cX3_build 56 = .ok (.getfield 29, 3) := by decide +kernel
theorem dX3_build_59 : decode cX3_build 59 = .ok (.if_icmp .ge 88, 3) := by decide +kernel
theorem dX3_build_62 : decode cX3_build 62 = .ok (.iload_n 3, 1) := by decide +kernel
theorem dX3_build_63 : decode cX3_build 63 = .ok (.iconst 1, 1) := by decide +kernel
theorem dX3_build_64 : decode cX3_build 64 = .ok (.iadd, 1) := by decide +kernel
theorem dX3_build_65 : decode cX3_build 65 = .ok (.istore 4, 2) := by decide +kernel
theorem dX3_build_67 : decode cX3_build 67 = .ok (.iload 4, 2) := by decide +kernel
theorem dX3_build_69 : decode cX3_build 69 = .ok (.aload_n 0, 1) := by decide +kernel
theorem dX3_build_70 : decode cX3_build 70 = .ok (.getfield 29, 3) := by decide +kernel
theorem dX3_build_73 : decode cX3_build 73 = .ok (.if_icmp .ge 68, 3) := by decide +kernel
theorem dX3_build_76 : decode cX3_build 76 = .ok (.aload_n 1, 1) := by decide +kernel
theorem dX3_build_77 : decode cX3_build 77 = .ok (.getfield 40, 3) := by decide +kernel
theorem dX3_build_80 : decode cX3_build 80 = .ok (.iload_n 3, 1) := by decide +kernel
theorem dX3_build_81 : decode cX3_build 81 = .ok (.iaload, 1) := by decide +kernel
theorem dX3_build_82 : decode cX3_build 82 = .ok (.aload_n 1, 1) := by decide +kernel
theorem dX3_build_83 : decode cX3_build 83 = .ok (.getfield 40, 3) := by decide +kernel
theorem dX3_build_86 : decode cX3_build 86 = .ok (.iload 4, 2) := by decide +kernel
theorem dX3_build_88 : decode cX3_build 88 = .ok (.iaload, 1) := by decide +kernel
theorem dX3_build_89 : decode cX3_build 89 = .ok (.if_icmp .eq 20, 3) := by decide +kernel
theorem dX3_build_92 : decode cX3_build 92 = .ok (.aload_n 0, 1) := by decide +kernel
theorem dX3_build_93 : decode cX3_build 93 = .ok (.getfield 15, 3) := by decide +kernel
theorem dX3_build_96 : decode cX3_build 96 = .ok (.iload_n 3, 1) := by decide +kernel
theorem dX3_build_97 : decode cX3_build 97 = .ok (.iaload, 1) := by decide +kernel
theorem dX3_build_98 : decode cX3_build 98 = .ok (.aload_n 0, 1) := by decide +kernel
theorem dX3_build_99 : decode cX3_build 99 = .ok (.getfield 15, 3) := by decide +kernel
theorem dX3_build_102 : decode cX3_build 102 = .ok (.iload 4, 2) := by decide +kernel
theorem dX3_build_104 : decode cX3_build 104 = .ok (.iaload, 1) := by decide +kernel
theorem dX3_build_105 : decode cX3_build 105 = .ok (.iand, 1) := by decide +kernel
theorem dX3_build_106 : decode cX3_build 106 = .ok (.ifCond .eq 29, 3) := by decide +kernel
theorem dX3_build_109 : decode cX3_build 109 = .ok (.aload_n 0, 1) := by decide +kernel
theorem dX3_build_110 : decode cX3_build 110 = .ok (.getfield 9, 3) := by decide +kernel
theorem dX3_build_113 : decode cX3_build 113 = .ok (.iload_n 3, 1) := by decide +kernel
theorem dX3_build_114 : decode cX3_build 114 = .ok (.dup2, 1) := by decide +kernel
theorem dX3_build_115 : decode cX3_build 115 = .ok (.iaload, 1) := by decide +kernel
theorem dX3_build_116 : decode cX3_build 116 = .ok (.iconst 1, 1) := by decide +kernel
theorem dX3_build_117 : decode cX3_build 117 = .ok (.iload 4, 2) := by decide +kernel
theorem dX3_build_119 : decode cX3_build 119 = .ok (.ishl, 1) := by decide +kernel
theorem dX3_build_120 : decode cX3_build 120 = .ok (.ior, 1) := by decide +kernel
theorem dX3_build_121 : decode cX3_build 121 = .ok (.iastore, 1) := by decide +kernel
theorem dX3_build_122 : decode cX3_build 122 = .ok (.aload_n 0, 1) := by decide +kernel
theorem dX3_build_123 : decode cX3_build 123 = .ok (.getfield 9, 3) := by decide +kernel
theorem dX3_build_126 : decode cX3_build 126 = .ok (.iload 4, 2) := by decide +kernel
theorem dX3_build_128 : decode cX3_build 128 = .ok (.dup2, 1) := by decide +kernel
theorem dX3_build_129 : decode cX3_build 129 = .ok (.iaload, 1) := by decide +kernel
theorem dX3_build_130 : decode cX3_build 130 = .ok (.iconst 1, 1) := by decide +kernel
theorem dX3_build_131 : decode cX3_build 131 = .ok (.iload_n 3, 1) := by decide +kernel
theorem dX3_build_132 : decode cX3_build 132 = .ok (.ishl, 1) := by decide +kernel
theorem dX3_build_133 : decode cX3_build 133 = .ok (.ior, 1) := by decide +kernel
theorem dX3_build_134 : decode cX3_build 134 = .ok (.iastore, 1) := by decide +kernel
theorem dX3_build_135 : decode cX3_build 135 = .ok (.iinc 4 1, 3) := by decide +kernel
theorem dX3_build_138 : decode cX3_build 138 = .ok (.goto (-71), 3) := by decide +kernel
theorem dX3_build_141 : decode cX3_build 141 = .ok (.iinc 3 1, 3) := by decide +kernel
theorem dX3_build_144 : decode cX3_build 144 = .ok (.goto (-90), 3) := by decide +kernel
theorem dX3_build_147 : decode cX3_build 147 = .ok (.return_, 1) := by decide +kernel
theorem dX3_reachOf_0 : decode cX3_reachOf 0 = .ok (.iconst 0, 1) := by decide +kernel
theorem dX3_reachOf_1 : decode cX3_reachOf 1 = .ok (.istore_n 2, 1) := by decide +kernel
theorem dX3_reachOf_2 : decode cX3_reachOf 2 = .ok (.iconst 0, 1) := by decide +kernel
theorem dX3_reachOf_3 : decode cX3_reachOf 3 = .ok (.istore_n 3, 1) := by decide +kernel
theorem dX3_reachOf_4 : decode cX3_reachOf 4 = .ok (.iload_n 3, 1) := by decide +kernel
theorem dX3_reachOf_5 : decode cX3_reachOf 5 = .ok (.bipush 10, 2) := by decide +kernel
theorem dX3_reachOf_7 : decode cX3_reachOf 7 = .ok (.if_icmp .ge 27, 3) := by decide +kernel
theorem dX3_reachOf_10 : decode cX3_reachOf 10 = .ok (.iload_n 0, 1) := by decide +kernel
theorem dX3_reachOf_11 : decode cX3_reachOf 11 = .ok (.iload_n 3, 1) := by decide +kernel
theorem dX3_reachOf_12 : decode cX3_reachOf 12 = .ok (.ishr, 1) := by decide +kernel
theorem dX3_reachOf_13 : decode cX3_reachOf 13 = .ok (.iconst 1, 1) := by decide +kernel
theorem dX3_reachOf_14 : decode cX3_reachOf 14 = .ok (.iand, 1) := by decide +kernel
theorem dX3_reachOf_15 : decode cX3_reachOf 15 = .ok (.iconst 1, 1) := by decide +kernel
theorem dX3_reachOf_16 : decode cX3_reachOf 16 = .ok (.if_icmp .ne 12, 3) := by decide +kernel
theorem dX3_reachOf_19 : decode cX3_reachOf 19 = .ok (.iload_n 2, 1) := by decide +kernel
theorem dX3_reachOf_20 : decode cX3_reachOf 20 = .ok (.aload_n 1, 1) := by decide +kernel
theorem dX3_reachOf_21 : decode cX3_reachOf 21 = .ok (.getfield 43, 3) := by decide +kernel
theorem dX3_reachOf_24 : decode cX3_reachOf 24 = .ok (.iload_n 3, 1) := by decide +kernel
theorem dX3_reachOf_25 : decode cX3_reachOf 25 = .ok (.iaload, 1) := by decide +kernel
theorem dX3_reachOf_26 : decode cX3_reachOf 26 = .ok (.ior, 1) := by decide +kernel
theorem dX3_reachOf_27 : decode cX3_reachOf 27 = .ok (.istore_n 2, 1) := by decide +kernel
theorem dX3_reachOf_28 : decode cX3_reachOf 28 = .ok (.iinc 3 1, 3) := by decide +kernel
theorem dX3_reachOf_31 : decode cX3_reachOf 31 = .ok (.goto (-27), 3) := by decide +kernel
theorem dX3_reachOf_34 : decode cX3_reachOf 34 = .ok (.iload_n 2, 1) := by decide +kernel
theorem dX3_reachOf_35 : decode cX3_reachOf 35 = .ok (.ireturn, 1) := by decide +kernel
theorem dX3_areLinked_0 : decode cX3_areLinked 0 = .ok (.aload_n 0, 1) := by decide +kernel
theorem dX3_areLinked_1 : decode cX3_areLinked 1 = .ok (.getfield 9, 3) := by decide +kernel
theorem dX3_areLinked_4 : decode cX3_areLinked 4 = .ok (.iload_n 1, 1) := by decide +kernel
theorem dX3_areLinked_5 : decode cX3_areLinked 5 = .ok (.iaload, 1) := by decide +kernel
theorem dX3_areLinked_6 : decode cX3_areLinked 6 = .ok (.iload_n 2, 1) := by decide +kernel
theorem dX3_areLinked_7 : decode cX3_areLinked 7 = .ok (.ishr, 1) := by decide +kernel
theorem dX3_areLinked_8 : decode cX3_areLinked 8 = .ok (.iconst 1, 1) := by decide +kernel
theorem dX3_areLinked_9 : decode cX3_areLinked 9 = .ok (.iand, 1) := by decide +kernel
theorem dX3_areLinked_10 : decode cX3_areLinked 10 = .ok (.iconst 1, 1) := by decide +kernel
theorem dX3_areLinked_11 : decode cX3_areLinked 11 = .ok (.if_icmp .ne 7, 3) := by decide +kernel
theorem dX3_areLinked_14 : decode cX3_areLinked 14 = .ok (.iconst 1, 1) := by decide +kernel
theorem dX3_areLinked_15 : decode cX3_areLinked 15 = .ok (.goto 4, 3) := by decide +kernel
theorem dX3_areLinked_18 : decode cX3_areLinked 18 = .ok (.iconst 0, 1) := by decide +kernel
theorem dX3_areLinked_19 : decode cX3_areLinked 19 = .ok (.ireturn, 1) := by decide +kernel
theorem dX3_cut_0 : decode cX3_cut 0 = .ok (.aload_n 0, 1) := by decide +kernel
theorem dX3_cut_1 : decode cX3_cut 1 = .ok (.getfield 9, 3) := by decide +kernel
theorem dX3_cut_4 : decode cX3_cut 4 = .ok (.iload_n 1, 1) := by decide +kernel
theorem dX3_cut_5 : decode cX3_cut 5 = .ok (.dup2, 1) := by decide +kernel
theorem dX3_cut_6 : decode cX3_cut 6 = .ok (.iaload, 1) := by decide +kernel
theorem dX3_cut_7 : decode cX3_cut 7 = .ok (.iconst 1, 1) := by decide +kernel
theorem dX3_cut_8 : decode cX3_cut 8 = .ok (.iload_n 2, 1) := by decide +kernel
theorem dX3_cut_9 : decode cX3_cut 9 = .ok (.ishl, 1) := by decide +kernel
theorem dX3_cut_10 : decode cX3_cut 10 = .ok (.iconst (-1), 1) := by decide +kernel
theorem dX3_cut_11 : decode cX3_cut 11 = .ok (.ixor, 1) := by decide +kernel
theorem dX3_cut_12 : decode cX3_cut 12 = .ok (.iand, 1) := by decide +kernel
theorem dX3_cut_13 : decode cX3_cut 13 = .ok (.iastore, 1) := by decide +kernel
theorem dX3_cut_14 : decode cX3_cut 14 = .ok (.aload_n 0, 1) := by decide +kernel
theorem dX3_cut_15 : decode cX3_cut 15 = .ok (.getfield 9, 3) := by decide +kernel
theorem dX3_cut_18 : decode cX3_cut 18 = .ok (.iload_n 2, 1) := by decide +kernel
theorem dX3_cut_19 : decode cX3_cut 19 = .ok (.dup2, 1) := by decide +kernel
theorem dX3_cut_20 : decode cX3_cut 20 = .ok (.iaload, 1) := by decide +kernel
theorem dX3_cut_21 : decode cX3_cut 21 = .ok (.iconst 1, 1) := by decide +kernel
theorem dX3_cut_22 : decode cX3_cut 22 = .ok (.iload_n 1, 1) := by decide +kernel
theorem dX3_cut_23 : decode cX3_cut 23 = .ok (.ishl, 1) := by decide +kernel
theorem dX3_cut_24 : decode cX3_cut 24 = .ok (.iconst (-1), 1) := by decide +kernel
theorem dX3_cut_25 : decode cX3_cut 25 = .ok (.ixor, 1) := by decide +kernel
theorem dX3_cut_26 : decode cX3_cut 26 = .ok (.iand, 1) := by decide +kernel
theorem dX3_cut_27 : decode cX3_cut 27 = .ok (.iastore, 1) := by decide +kernel
theorem dX3_cut_28 : decode cX3_cut 28 = .ok (.return_, 1) := by decide +kernel
set_option maxRecDepth 20000 in
theorem ggX3_close_X10_closeOver : GoodIn wsX3_close wsX10_closeOver := goodIn_r _ [5] (by decide +kernel) (by decide +kernel)
set_option maxRecDepth 20000 in
theorem gX3_close_X10_closeOver_n46 : GoodIn wsX3_close (wsX10_closeOver) := ggX3_close_X10_closeOver
theorem dX3_close_0 : decode cX3_close 0 = .ok (.aload_n 0, 1) := by decide +kernel
theorem dX3_close_1 : decode cX3_close 1 = .ok (.getfield 9, 3) := by decide +kernel
theorem dX3_close_4 : decode cX3_close 4 = .ok (.aload_n 0, 1) := by decide +kernel
theorem dX3_close_5 : decode cX3_close 5 = .ok (.getfield 29, 3) := by decide +kernel
theorem dX3_close_8 : decode cX3_close 8 = .ok (.invokestatic 46, 3) := by decide +kernel
theorem dX3_close_11 : decode cX3_close 11 = .ok (.return_, 1) := by decide +kernel
theorem dX4_init_0 : decode cX4_init 0 = .ok (.aload_n 0, 1) := by decide +kernel
theorem dX4_init_1 : decode cX4_init 1 = .ok (.invokespecial 3, 3) := by decide +kernel
theorem dX4_init_4 : decode cX4_init 4 = .ok (.aload_n 0, 1) := by decide +kernel
theorem dX4_init_5 : decode cX4_init 5 = .ok (.bipush 13, 2) := by decide +kernel
theorem dX4_init_7 : decode cX4_init 7 = .ok (.newarray .long, 2) := by decide +kernel
theorem dX4_init_9 : decode cX4_init 9 = .ok (.putfield 9, 3) := by decide +kernel
theorem dX4_init_12 : decode cX4_init 12 = .ok (.aload_n 0, 1) := by decide +kernel
theorem dX4_init_13 : decode cX4_init 13 = .ok (.lconst 1, 1) := by decide +kernel
theorem dX4_init_14 : decode cX4_init 14 = .ok (.putfield 15, 3) := by decide +kernel
theorem dX4_init_17 : decode cX4_init 17 = .ok (.return_, 1) := by decide +kernel
set_option maxRecDepth 20000 in
theorem ggX4_playQuarters_J7_fill_d0a16 : GoodIn wsX4_playQuarters wsJ7_fill_d0a16 := goodIn_r _ [7] (by decide +kernel) (by decide +kernel)
set_option maxRecDepth 20000 in
theorem gX4_playQuarters_J7_fill_d0a16 : GoodIn wsX4_playQuarters (va_wsS RX4 19 yJ7_fill_d0a16 wsJ7_fill_d0a16) := goodIn_app (goodIn_of _ (by decide +kernel)) ggX4_playQuarters_J7_fill_d0a16
set_option maxRecDepth 20000 in
theorem ggX4_playQuarters_X4_playQuarter : GoodIn wsX4_playQuarters wsX4_playQuarter := goodIn_r _ [12, 1, 13, 14, 15] (by decide +kernel) (by decide +kernel)
set_option maxRecDepth 20000 in
theorem gX4_playQuarters_X4_playQuarter : GoodIn wsX4_playQuarters (wsV RX4 25 RX4 yX4_playQuarter wsX4_playQuarter) := goodIn_app (goodIn_of _ (by decide +kernel)) ggX4_playQuarters_X4_playQuarter
theorem dX4_playQuarters_0 : decode cX4_playQuarters 0 = .ok (.aload_n 0, 1) := by decide +kernel
theorem dX4_playQuarters_1 : decode cX4_playQuarters 1 = .ok (.getfield 9, 3) := by decide +kernel
theorem dX4_playQuarters_4 : decode cX4_playQuarters 4 = .ok (.lconst 0, 1) := by decide +kernel
theorem dX4_playQuarters_5 : decode cX4_playQuarters 5 = .ok (.invokestatic 19, 3) := by decide +kernel
theorem dX4_playQuarters_8 : decode cX4_playQuarters 8 = .ok (.aload_n 0, 1) := by decide +kernel
theorem dX4_playQuarters_9 : decode cX4_playQuarters 9 = .ok (.getfield 9, 3) := by decide +kernel
theorem dX4_playQuarters_12 : decode cX4_playQuarters 12 = .ok (.bipush 6, 2) := by decide +kernel
theorem dX4_playQuarters_14 : decode cX4_playQuarters 14 = .ok (.lconst 1, 1) := by decide +kernel
theorem dX4_playQuarters_15 : decode cX4_playQuarters 15 = .ok (.lastore, 1) := by decide +kernel
theorem dX4_playQuarters_16 : decode cX4_playQuarters 16 = .ok (.aload_n 0, 1) := by decide +kernel
theorem dX4_playQuarters_17 : decode cX4_playQuarters 17 = .ok (.lconst 1, 1) := by decide +kernel
theorem dX4_playQuarters_18 : decode cX4_playQuarters 18 = .ok (.putfield 15, 3) := by decide +kernel
theorem dX4_playQuarters_21 : decode cX4_playQuarters 21 = .ok (.iconst 0, 1) := by decide +kernel
theorem dX4_playQuarters_22 : decode cX4_playQuarters 22 = .ok (.istore 4, 2) := by decide +kernel
theorem dX4_playQuarters_24 : decode cX4_playQuarters 24 = .ok (.iload 4, 2) := by decide +kernel
theorem dX4_playQuarters_26 : decode cX4_playQuarters 26 = .ok (.iload_n 1, 1) := by decide +kernel
theorem dX4_playQuarters_27 : decode cX4_playQuarters 27 = .ok (.if_icmp .ge 27, 3) := by decide +kernel
theorem dX4_playQuarters_30 : decode cX4_playQuarters 30 = .ok (.aload_n 0, 1) := by decide +kernel
theorem dX4_playQuarters_31 : decode cX4_playQuarters 31 = .ok (.iload_n 2, 1) := by decide +kernel
theorem dX4_playQuarters_32 : decode cX4_playQuarters 32 = .ok (.iload_n 3, 1) := by decide +kernel
theorem dX4_playQuarters_33 : decode cX4_playQuarters 33 = .ok (.invokevirtual 25, 3) := by decide +kernel
theorem dX4_playQuarters_36 : decode cX4_playQuarters 36 = .ok (.aload_n 0, 1) := by decide +kernel
theorem dX4_playQuarters_37 : decode cX4_playQuarters 37 = .ok (.dup, 1) := by decide +kernel
theorem dX4_playQuarters_38 : decode cX4_playQuarters 38 = .ok (.getfield 15, 3) := by decide +kernel
theorem dX4_playQuarters_41 : decode cX4_playQuarters 41 = .ok (.ldc2_w 29, 3) := by decide +kernel
theorem dX4_playQuarters_44 : decode cX4_playQuarters 44 = .ok (.lmul, 1) := by decide +kernel
theorem dX4_playQuarters_45 : decode cX4_playQuarters 45 = .ok (.putfield 15, 3) := by decide +kernel
theorem dX4_playQuarters_48 : decode cX4_playQuarters 48 = .ok (.iinc 4 1, 3) := by decide +kernel
theorem dX4_playQuarters_51 : decode cX4_playQuarters 51 = .ok (.goto (-27), 3) := by decide +kernel
theorem dX4_playQuarters_54 : decode cX4_playQuarters 54 = .ok (.return_, 1) := by decide +kernel
theorem dX4_playQuarter_0 : decode cX4_playQuarter 0 = .ok (.bipush 100, 2) := by decide +kernel
theorem dX4_playQuarter_2 : decode cX4_playQuarter 2 = .ok (.iload_n 1, 1) := by decide +kernel
theorem dX4_playQuarter_3 : decode cX4_playQuarter 3 = .ok (.isub, 1) := by decide +kernel
theorem dX4_playQuarter_4 : decode cX4_playQuarter 4 = .ok (.iload_n 2, 1) := by decide +kernel
theorem dX4_playQuarter_5 : decode cX4_playQuarter 5 = .ok (.isub, 1) := by decide +kernel
theorem dX4_playQuarter_6 : decode cX4_playQuarter 6 = .ok (.istore_n 3, 1) := by decide +kernel
theorem dX4_playQuarter_7 : decode cX4_playQuarter 7 = .ok (.lconst 0, 1) := by decide +kernel
theorem dX4_playQuarter_8 : decode cX4_playQuarter 8 = .ok (.lstore 4, 2) := by decide +kernel
theorem dX4_playQuarter_10 : decode cX4_playQuarter 10 = .ok (.iconst 0, 1) := by decide +kernel
theorem dX4_playQuarter_11 : decode cX4_playQuarter 11 = .ok (.istore 6, 2) := by decide +kernel
theorem dX4_playQuarter_13 : decode cX4_playQuarter 13 = .ok (.iload 6, 2) := by decide +kernel
theorem dX4_playQuarter_15 : decode cX4_playQuarter 15 = .ok (.aload_n 0, 1) := by decide +kernel
theorem dX4_playQuarter_16 : decode cX4_playQuarter 16 = .ok (.getfield 9, 3) := by decide +kernel
theorem dX4_playQuarter_19 : decode cX4_playQuarter 19 = .ok (.arraylength, 1) := by decide +kernel
theorem dX4_playQuarter_20 : decode cX4_playQuarter 20 = .ok (.if_icmp .ge 73, 3) := by decide +kernel
theorem dX4_playQuarter_23 : decode cX4_playQuarter 23 = .ok (.aload_n 0, 1) := by decide +kernel
theorem dX4_playQuarter_24 : decode cX4_playQuarter 24 = .ok (.getfield 9, 3) := by decide +kernel
theorem dX4_playQuarter_27 : decode cX4_playQuarter 27 = .ok (.iload 6, 2) := by decide +kernel
theorem dX4_playQuarter_29 : decode cX4_playQuarter 29 = .ok (.laload, 1) := by decide +kernel
theorem dX4_playQuarter_30 : decode cX4_playQuarter 30 = .ok (.lstore 7, 2) := by decide +kernel
theorem dX4_playQuarter_32 : decode cX4_playQuarter 32 = .ok (.iload 6, 2) := by decide +kernel
theorem dX4_playQuarter_34 : decode cX4_playQuarter 34 = .ok (.iconst 1, 1) := by decide +kernel
theorem dX4_playQuarter_35 : decode cX4_playQuarter 35 = .ok (.iadd, 1) := by decide +kernel
theorem dX4_playQuarter_36 : decode cX4_playQuarter 36 = .ok (.aload_n 0, 1) := by decide +kernel
theorem dX4_playQuarter_37 : decode cX4_playQuarter 37 = .ok (.getfield 9, 3) := by decide +kernel
theorem dX4_playQuarter_40 : decode cX4_playQuarter 40 = .ok (.arraylength, 1) := by decide +kernel
theorem dX4_playQuarter_41 : decode cX4_playQuarter 41 = .ok (.if_icmp .ge 15, 3) := by decide +kernel
theorem dX4_playQuarter_44 : decode cX4_playQuarter 44 = .ok (.aload_n 0, 1) := by decide +kernel
theorem dX4_playQuarter_45 : decode cX4_playQuarter 45 = .ok (.getfield 9, 3) := by decide +kernel
theorem dX4_playQuarter_48 : decode cX4_playQuarter 48 = .ok (.iload 6, 2) := by decide +kernel
theorem dX4_playQuarter_50 : decode cX4_playQuarter 50 = .ok (.iconst 1, 1) := by decide +kernel
theorem dX4_playQuarter_51 : decode cX4_playQuarter 51 = .ok (.iadd, 1) := by decide +kernel
theorem dX4_playQuarter_52 : decode cX4_playQuarter 52 = .ok (.laload, 1) := by decide +kernel
theorem dX4_playQuarter_53 : decode cX4_playQuarter 53 = .ok (.goto 4, 3) := by decide +kernel
theorem dX4_playQuarter_56 : decode cX4_playQuarter 56 = .ok (.lconst 0, 1) := by decide +kernel
theorem dX4_playQuarter_57 : decode cX4_playQuarter 57 = .ok (.lstore 9, 2) := by decide +kernel
theorem dX4_playQuarter_59 : decode cX4_playQuarter 59 = .ok (.aload_n 0, 1) := by decide +kernel
theorem dX4_playQuarter_60 : decode cX4_playQuarter 60 = .ok (.getfield 9, 3) := by decide +kernel
theorem dX4_playQuarter_63 : decode cX4_playQuarter 63 = .ok (.iload 6, 2) := by decide +kernel
theorem dX4_playQuarter_65 : decode cX4_playQuarter 65 = .ok (.lload 4, 2) := by decide +kernel
theorem dX4_playQuarter_67 : decode cX4_playQuarter 67 = .ok (.iload_n 1, 1) := by decide +kernel
theorem dX4_playQuarter_68 : decode cX4_playQuarter 68 = .ok (.i2l, 1) := by decide +kernel
theorem dX4_playQuarter_69 : decode cX4_playQuarter 69 = .ok (.lmul, 1) := by decide +kernel
theorem dX4_playQuarter_70 : decode cX4_playQuarter 70 = .ok (.lload 7, 2) := by decide +kernel
theorem dX4_playQuarter_72 : decode cX4_playQuarter 72 = .ok (.iload_n 3, 1) := by decide +kernel
theorem dX4_playQuarter_73 : decode cX4_playQuarter 73 = .ok (.i2l, 1) := by decide +kernel
theorem dX4_playQuarter_74 : decode cX4_playQuarter 74 = .ok (.lmul, 1) := by decide +kernel
theorem dX4_playQuarter_75 : decode cX4_playQuarter 75 = .ok (.ladd, 1) := by decide +kernel
theorem dX4_playQuarter_76 : decode cX4_playQuarter 76 = .ok (.lload 9, 2) := by decide +kernel
theorem dX4_playQuarter_78 : decode cX4_playQuarter 78 = .ok (.iload_n 2, 1) := by decide +kernel
theorem dX4_playQuarter_79 : decode cX4_playQuarter 79 = .ok (.i2l, 1) := by decide +kernel
theorem dX4_playQuarter_80 : decode cX4_playQuarter 80 = .ok (.lmul, 1) := by decide +kernel
theorem dX4_playQuarter_81 : decode cX4_playQuarter 81 = .ok (.ladd, 1) := by decide +kernel
theorem dX4_playQuarter_82 : decode cX4_playQuarter 82 = .ok (.lastore, 1) := by decide +kernel
theorem dX4_playQuarter_83 : decode cX4_playQuarter 83 = .ok (.lload 7, 2) := by decide +kernel
theorem dX4_playQuarter_85 : decode cX4_playQuarter 85 = .ok (.lstore 4, 2) := by decide +kernel
theorem dX4_playQuarter_87 : decode cX4_playQuarter 87 = .ok (.iinc 6 1, 3) := by decide +kernel
theorem dX4_playQuarter_90 : decode cX4_playQuarter 90 = .ok (.goto (-77), 3) := by decide +kernel
theorem dX4_playQuarter_93 : decode cX4_playQuarter 93 = .ok (.return_, 1) := by decide +kernel
set_option maxRecDepth 20000 in
theorem ggX4_sumEnd_X4_endByLead : GoodIn wsX4_sumEnd wsX4_endByLead := goodIn_r _ [6] (by decide +kernel) (by decide +kernel)
set_option maxRecDepth 20000 in
theorem gX4_sumEnd_X4_endByLead : GoodIn wsX4_sumEnd (va_wsS RX4 34 yX4_endByLead wsX4_endByLead) := goodIn_app (goodIn_of _ (by decide +kernel)) ggX4_sumEnd_X4_endByLead
theorem dX4_sumEnd_0 : decode cX4_sumEnd 0 = .ok (.aload_n 0, 1) := by decide +kernel
theorem dX4_sumEnd_1 : decode cX4_sumEnd 1 = .ok (.lconst 0, 1) := by decide +kernel
theorem dX4_sumEnd_2 : decode cX4_sumEnd 2 = .ok (.putfield 31, 3) := by decide +kernel
theorem dX4_sumEnd_5 : decode cX4_sumEnd 5 = .ok (.iconst 0, 1) := by decide +kernel
theorem dX4_sumEnd_6 : decode cX4_sumEnd 6 = .ok (.istore_n 3, 1) := by decide +kernel
theorem dX4_sumEnd_7 : decode cX4_sumEnd 7 = .ok (.iload_n 3, 1) := by decide +kernel
theorem dX4_sumEnd_8 : decode cX4_sumEnd 8 = .ok (.aload_n 0, 1) := by decide +kernel
theorem dX4_sumEnd_9 : decode cX4_sumEnd 9 = .ok (.getfield 9, 3) := by decide +kernel
theorem dX4_sumEnd_12 : decode cX4_sumEnd 12 = .ok (.arraylength, 1) := by decide +kernel
theorem dX4_sumEnd_13 : decode cX4_sumEnd 13 = .ok (.if_icmp .ge 37, 3) := by decide +kernel
theorem dX4_sumEnd_16 : decode cX4_sumEnd 16 = .ok (.iload_n 1, 1) := by decide +kernel
theorem dX4_sumEnd_17 : decode cX4_sumEnd 17 = .ok (.iload_n 3, 1) := by decide +kernel
theorem dX4_sumEnd_18 : decode cX4_sumEnd 18 = .ok (.iadd, 1) := by decide +kernel
theorem dX4_sumEnd_19 : decode cX4_sumEnd 19 = .ok (.bipush 6, 2) := by decide +kernel
theorem dX4_sumEnd_21 : decode cX4_sumEnd 21 = .ok (.isub, 1) := by decide +kernel
theorem dX4_sumEnd_22 : decode cX4_sumEnd 22 = .ok (.invokestatic 34, 3) := by decide +kernel
theorem dX4_sumEnd_25 : decode cX4_sumEnd 25 = .ok (.iload_n 2, 1) := by decide +kernel
theorem dX4_sumEnd_26 : decode cX4_sumEnd 26 = .ok (.if_icmp .ne 18, 3) := by decide +kernel
theorem dX4_sumEnd_29 : decode cX4_sumEnd 29 = .ok (.aload_n 0, 1) := by decide +kernel
theorem dX4_sumEnd_30 : decode cX4_sumEnd 30 = .ok (.dup, 1) := by decide +kernel
theorem dX4_sumEnd_31 : decode cX4_sumEnd 31 = .ok (.getfield 31, 3) := by decide +kernel
theorem dX4_sumEnd_34 : decode cX4_sumEnd 34 = .ok (.aload_n 0, 1) := by decide +kernel
theorem dX4_sumEnd_35 : decode cX4_sumEnd 35 = .ok (.getfield 9, 3) := by decide +kernel
theorem dX4_sumEnd_38 : decode cX4_sumEnd 38 = .ok (.iload_n 3, 1) := by decide +kernel
theorem dX4_sumEnd_39 : decode cX4_sumEnd 39 = .ok (.laload, 1) := by decide +kernel
theorem dX4_sumEnd_40 : decode cX4_sumEnd 40 = .ok (.ladd, 1) := by decide +kernel
theorem dX4_sumEnd_41 : decode cX4_sumEnd 41 = .ok (.putfield 31, 3) := by decide +kernel
theorem dX4_sumEnd_44 : decode cX4_sumEnd 44 = .ok (.iinc 3 1, 3) := by decide +kernel
theorem dX4_sumEnd_47 : decode cX4_sumEnd 47 = .ok (.goto (-40), 3) := by decide +kernel
theorem dX4_sumEnd_50 : decode cX4_sumEnd 50 = .ok (.return_, 1) := by decide +kernel
set_option maxRecDepth 20000 in
theorem ggX4_countLate_J7_fill_d0a16 : GoodIn wsX4_countLate wsJ7_fill_d0a16 := goodIn_r _ [8] (by decide +kernel) (by decide +kernel)
set_option maxRecDepth 20000 in
theorem gX4_countLate_J7_fill_d0a16 : GoodIn wsX4_countLate (va_wsS RX4 19 yJ7_fill_d0a16 wsJ7_fill_d0a16) := goodIn_app (goodIn_of _ (by decide +kernel)) ggX4_countLate_J7_fill_d0a16
theorem dX4_countLate_0 : decode cX4_countLate 0 = .ok (.aload_n 0, 1) := by decide +kernel
theorem dX4_countLate_1 : decode cX4_countLate 1 = .ok (.getfield 9, 3) := by decide +kernel
theorem dX4_countLate_4 : decode cX4_countLate 4 = .ok (.lconst 0, 1) := by decide +kernel
theorem dX4_countLate_5 : decode cX4_countLate 5 = .ok (.invokestatic 19, 3) := by decide +kernel
theorem dX4_countLate_8 : decode cX4_countLate 8 = .ok (.aload_n 0, 1) := by decide +kernel
theorem dX4_countLate_9 : decode cX4_countLate 9 = .ok (.getfield 9, 3) := by decide +kernel
theorem dX4_countLate_12 : decode cX4_countLate 12 = .ok (.iconst 0, 1) := by decide +kernel
theorem dX4_countLate_13 : decode cX4_countLate 13 = .ok (.lconst 1, 1) := by decide +kernel
theorem dX4_countLate_14 : decode cX4_countLate 14 = .ok (.lastore, 1) := by decide +kernel
theorem dX4_countLate_15 : decode cX4_countLate 15 = .ok (.aload_n 0, 1) := by decide +kernel
theorem dX4_countLate_16 : decode cX4_countLate 16 = .ok (.lconst 1, 1) := by decide +kernel
theorem dX4_countLate_17 : decode cX4_countLate 17 = .ok (.putfield 15, 3) := by decide +kernel
theorem dX4_countLate_20 : decode cX4_countLate 20 = .ok (.iconst 0, 1) := by decide +kernel
theorem dX4_countLate_21 : decode cX4_countLate 21 = .ok (.istore 4, 2) := by decide +kernel
theorem dX4_countLate_23 : decode cX4_countLate 23 = .ok (.iload 4, 2) := by decide +kernel
theorem dX4_countLate_25 : decode cX4_countLate 25 = .ok (.iload_n 1, 1) := by decide +kernel
theorem dX4_countLate_26 : decode cX4_countLate 26 = .ok (.if_icmp .ge 88, 3) := by decide +kernel
theorem dX4_countLate_29 : decode cX4_countLate 29 = .ok (.aload_n 0, 1) := by decide +kernel
theorem dX4_countLate_30 : decode cX4_countLate 30 = .ok (.getfield 9, 3) := by decide +kernel
theorem dX4_countLate_33 : decode cX4_countLate 33 = .ok (.arraylength, 1) := by decide +kernel
theorem dX4_countLate_34 : decode cX4_countLate 34 = .ok (.iconst 1, 1) := by decide +kernel
theorem dX4_countLate_35 : decode cX4_countLate 35 = .ok (.isub, 1) := by decide +kernel
theorem dX4_countLate_36 : decode cX4_countLate 36 = .ok (.istore 5, 2) := by decide +kernel
theorem dX4_countLate_38 : decode cX4_countLate 38 = .ok (.iload 5, 2) := by decide +kernel
theorem dX4_countLate_40 : decode cX4_countLate 40 = .ok (.ifCond .le 42, 3) := by decide +kernel
theorem dX4_countLate_43 : decode cX4_countLate 43 = .ok (.aload_n 0, 1) := by decide +kernel
theorem dX4_countLate_44 : decode cX4_countLate 44 = .ok (.getfield 9, 3) := by decide +kernel
theorem dX4_countLate_47 : decode cX4_countLate 47 = .ok (.iload 5, 2) := by decide +kernel
theorem dX4_countLate_49 : decode cX4_countLate 49 = .ok (.aload_n 0, 1) := by decide +kernel
theorem dX4_countLate_50 : decode cX4_countLate 50 = .ok (.getfield 9, 3) := by decide +kernel
theorem dX4_countLate_53 : decode cX4_countLate 53 = .ok (.iload 5, 2) := by decide +kernel
theorem dX4_countLate_55 : decode cX4_countLate 55 = .ok (.laload, 1) := by decide +kernel
theorem dX4_countLate_56 : decode cX4_countLate 56 = .ok (.bipush 20, 2) := by decide +kernel
theorem dX4_countLate_58 : decode cX4_countLate 58 = .ok (.iload_n 3, 1) := by decide +kernel
theorem dX4_countLate_59 : decode cX4_countLate 59 = .ok (.isub, 1) := by decide +kernel
theorem dX4_countLate_60 : decode cX4_countLate 60 = .ok (.i2l, 1) := by decide +kernel
theorem dX4_countLate_61 : decode cX4_countLate 61 = .ok (.lmul, 1) := by decide +kernel
theorem dX4_countLate_62 : decode cX4_countLate 62 = .ok (.aload_n 0, 1) := by decide +kernel
theorem dX4_countLate_63 : decode cX4_countLate 63 = .ok (.getfield 9, 3) := by decide +kernel
theorem dX4_countLate_66 : decode cX4_countLate 66 = .ok (.iload 5, 2) := by decide +kernel
theorem dX4_countLate_68 : decode cX4_countLate 68 = .ok (.iconst 1, 1) := by decide +kernel
theorem dX4_countLate_69 : decode cX4_countLate 69 = .ok (.isub, 1) := by decide +kernel
theorem dX4_countLate_70 : decode cX4_countLate 70 = .ok (.laload, 1) := by decide +kernel
theorem dX4_countLate_71 : decode cX4_countLate 71 = .ok (.iload_n 3, 1) := by decide +kernel
theorem dX4_countLate_72 : decode cX4_countLate 72 = .ok (.i2l, 1) := by decide +kernel
theorem dX4_countLate_73 : decode cX4_countLate 73 = .ok (.lmul, 1) := by decide +kernel
theorem dX4_countLate_74 : decode cX4_countLate 74 = .ok (.ladd, 1) := by decide +kernel
theorem dX4_countLate_75 : decode cX4_countLate 75 = .ok (.lastore, 1) := by decide +kernel
theorem dX4_countLate_76 : decode cX4_countLate 76 = .ok (.iinc 5 (-1), 3) := by decide +kernel
theorem dX4_countLate_79 : decode cX4_countLate 79 = .ok (.goto (-41), 3) := by decide +kernel
theorem dX4_countLate_82 : decode cX4_countLate 82 = .ok (.aload_n 0, 1) := by decide +kernel
theorem dX4_countLate_83 : decode cX4_countLate 83 = .ok (.getfield 9, 3) := by decide +kernel
theorem dX4_countLate_86 : decode cX4_countLate 86 = .ok (.iconst 0, 1) := by decide +kernel
theorem dX4_countLate_87 : decode cX4_countLate 87 = .ok (.dup2, 1) := by decide +kernel
theorem dX4_countLate_88 : decode cX4_countLate 88 = .ok (.laload, 1) := by decide +kernel
theorem dX4_countLate_89 : decode cX4_countLate 89 = .ok (.bipush 20, 2) := by decide +kernel
theorem dX4_countLate_91 : decode cX4_countLate 91 = .ok (.iload_n 3, 1) := by decide +kernel
theorem dX4_countLate_92 : decode cX4_countLate 92 = .ok (.isub, 1) := by decide +kernel
theorem dX4_countLate_93 : decode cX4_countLate 93 = .ok (.i2l, 1) := by decide +kernel
theorem dX4_countLate_94 : decode cX4_countLate 94 = .ok (.lmul, 1) := by decide +kernel
theorem dX4_countLate_95 : decode cX4_countLate 95 = .ok (.lastore, 1) := by decide +kernel
theorem dX4_countLate_96 : decode cX4_countLate 96 = .ok (.aload_n 0, 1) := by decide +kernel
theorem dX4_countLate_97 : decode cX4_countLate 97 = .ok (.dup, 1) := by decide +kernel
theorem dX4_countLate_98 : decode cX4_countLate 98 = .ok (.getfield 15, 3) := by decide +kernel
theorem dX4_countLate_101 : decode cX4_countLate 101 = .ok (.ldc2_w 38, 3) := by decide +kernel
theorem dX4_countLate_104 : decode cX4_countLate 104 = .ok (.lmul, 1) := by decide +kernel
theorem dX4_countLate_105 : decode cX4_countLate 105 = .ok (.putfield 15, 3) := by decide +kernel
theorem dX4_countLate_108 : decode cX4_countLate 108 = .ok (.iinc 4 1, 3) := by decide +kernel
theorem dX4_countLate_111 : decode cX4_countLate 111 = .ok (.goto (-88), 3) := by decide +kernel
theorem dX4_countLate_114 : decode cX4_countLate 114 = .ok (.aload_n 0, 1) := by decide +kernel
theorem dX4_countLate_115 : decode cX4_countLate 115 = .ok (.lconst 0, 1) := by decide +kernel
theorem dX4_countLate_116 : decode cX4_countLate 116 = .ok (.putfield 31, 3) := by decide +kernel
theorem dX4_countLate_119 : decode cX4_countLate 119 = .ok (.iload_n 2, 1) := by decide +kernel
theorem dX4_countLate_120 : decode cX4_countLate 120 = .ok (.istore 4, 2) := by decide +kernel
theorem dX4_countLate_122 : decode cX4_countLate 122 = .ok (.iload 4, 2) := by decide +kernel
theorem dX4_countLate_124 : decode cX4_countLate 124 = .ok (.ifCond .lt 35, 3) := by decide +kernel
theorem dX4_countLate_127 : decode cX4_countLate 127 = .ok (.iload 4, 2) := by decide +kernel
theorem dX4_countLate_129 : decode cX4_countLate 129 = .ok (.aload_n 0, 1) := by decide +kernel
theorem dX4_countLate_130 : decode cX4_countLate 130 = .ok (.getfield 9, 3) := by decide +kernel
theorem dX4_countLate_133 : decode cX4_countLate 133 = .ok (.arraylength, 1) := by decide +kernel
theorem dX4_countLate_134 : decode cX4_countLate 134 = .ok (.if_icmp .ge 25, 3) := by decide +kernel
theorem dX4_countLate_137 : decode cX4_countLate 137 = .ok (.aload_n 0, 1) := by decide +kernel
theorem dX4_countLate_138 : decode cX4_countLate 138 = .ok (.dup, 1) := by decide +kernel
theorem dX4_countLate_139 : decode cX4_countLate 139 = .ok (.getfield 31, 3) := by decide +kernel
theorem dX4_countLate_142 : decode cX4_countLate 142 = .ok (.aload_n 0, 1) := by decide +kernel
theorem dX4_countLate_143 : decode cX4_countLate 143 = .ok (.getfield 9, 3) := by decide +kernel
theorem dX4_countLate_146 : decode cX4_countLate 146 = .ok (.iload 4, 2) := by decide +kernel
theorem dX4_countLate_148 : decode cX4_countLate 148 = .ok (.laload, 1) := by decide +kernel
theorem dX4_countLate_149 : decode cX4_countLate 149 = .ok (.ladd, 1) := by decide +kernel
theorem dX4_countLate_150 : decode cX4_countLate 150 = .ok (.putfield 31, 3) := by decide +kernel
theorem dX4_countLate_153 : decode cX4_countLate 153 = .ok (.iinc 4 1, 3) := by decide +kernel
theorem dX4_countLate_156 : decode cX4_countLate 156 = .ok (.goto (-34), 3) := by decide +kernel
theorem dX4_countLate_159 : decode cX4_countLate 159 = .ok (.return_, 1) := by decide +kernel
theorem dX4_thousandths_0 : decode cX4_thousandths 0 = .ok (.aload_n 0, 1) := by decide +kernel
theorem dX4_thousandths_1 : decode cX4_thousandths 1 = .ok (.getfield 15, 3) := by decide +kernel
theorem dX4_thousandths_4 : decode cX4_thousandths 4 = .ok (.lconst 0, 1) := by decide +kernel
theorem dX4_thousandths_5 : decode cX4_thousandths 5 = .ok (.lcmp, 1) := by decide +kernel
theorem dX4_thousandths_6 : decode cX4_thousandths 6 = .ok (.ifCond .le 20, 3) := by decide +kernel
theorem dX4_thousandths_9 : decode cX4_thousandths 9 = .ok (.ldc2_w 40, 3) := by decide +kernel
theorem dX4_thousandths_12 : decode cX4_thousandths 12 = .ok (.aload_n 0, 1) := by decide +kernel
theorem dX4_thousandths_13 : decode cX4_thousandths 13 = .ok (.getfield 31, 3) := by decide +kernel
theorem dX4_thousandths_16 : decode cX4_thousandths 16 = .ok (.lmul, 1) := by decide +kernel
theorem dX4_thousandths_17 : decode cX4_thousandths 17 = .ok (.aload_n 0, 1) := by decide +kernel
theorem dX4_thousandths_18 : decode cX4_thousandths 18 = .ok (.getfield 15, 3) := by decide +kernel
theorem dX4_thousandths_21 : decode cX4_thousandths 21 = .ok (.ldiv, 1) := by decide +kernel
theorem dX4_thousandths_22 : decode cX4_thousandths 22 = .ok (.l2i, 1) := by decide +kernel
theorem dX4_thousandths_23 : decode cX4_thousandths 23 = .ok (.goto 4, 3) := by decide +kernel
theorem dX4_thousandths_26 : decode cX4_thousandths 26 = .ok (.iconst 0, 1) := by decide +kernel
theorem dX4_thousandths_27 : decode cX4_thousandths 27 = .ok (.ireturn, 1) := by decide +kernel
theorem dX4_inLowestTerms_0 : decode cX4_inLowestTerms 0 = .ok (.aload_n 0, 1) := by decide +kernel
theorem dX4_inLowestTerms_1 : decode cX4_inLowestTerms 1 = .ok (.getfield 15, 3) := by decide +kernel
theorem dX4_inLowestTerms_4 : decode cX4_inLowestTerms 4 = .ok (.lstore_n 2, 1) := by decide +kernel
theorem dX4_inLowestTerms_5 : decode cX4_inLowestTerms 5 = .ok (.aload_n 0, 1) := by decide +kernel
theorem dX4_inLowestTerms_6 : decode cX4_inLowestTerms 6 = .ok (.getfield 31, 3) := by decide +kernel
theorem dX4_inLowestTerms_9 : decode cX4_inLowestTerms 9 = .ok (.lstore 4, 2) := by decide +kernel
theorem dX4_inLowestTerms_11 : decode cX4_inLowestTerms 11 = .ok (.iconst 0, 1) := by decide +kernel
theorem dX4_inLowestTerms_12 : decode cX4_inLowestTerms 12 = .ok (.istore 6, 2) := by decide +kernel
theorem dX4_inLowestTerms_14 : decode cX4_inLowestTerms 14 = .ok (.iload 6, 2) := by decide +kernel
theorem dX4_inLowestTerms_16 : decode cX4_inLowestTerms 16 = .ok (.sipush 1000, 3) := by decide +kernel
theorem dX4_inLowestTerms_19 : decode cX4_inLowestTerms 19 = .ok (.if_icmp .ge 29, 3) := by decide +kernel
theorem dX4_inLowestTerms_22 : decode cX4_inLowestTerms 22 = .ok (.lload 4, 2) := by decide +kernel
theorem dX4_inLowestTerms_24 : decode cX4_inLowestTerms 24 = .ok (.lconst 0, 1) := by decide +kernel
theorem dX4_inLowestTerms_25 : decode cX4_inLowestTerms 25 = .ok (.lcmp, 1) := by decide +kernel
theorem dX4_inLowestTerms_26 : decode cX4_inLowestTerms 26 = .ok (.ifCond .le 22, 3) := by decide +kernel
theorem dX4_inLowestTerms_29 : decode cX4_inLowestTerms 29 = .ok (.lload_n 2, 1) := by decide +kernel
theorem dX4_inLowestTerms_30 : decode cX4_inLowestTerms 30 = .ok (.lload 4, 2) := by decide +kernel
theorem dX4_inLowestTerms_32 : decode cX4_inLowestTerms 32 = .ok (.lrem, 1) := by decide +kernel
theorem dX4_inLowestTerms_33 : decode cX4_inLowestTerms 33 = .ok (.lstore 7, 2) := by decide +kernel
theorem dX4_inLowestTerms_35 : decode cX4_inLowestTerms 35 = .ok (.lload 4, 2) := by decide +kernel
theorem dX4_inLowestTerms_37 : decode cX4_inLowestTerms 37 = .ok (.lstore_n 2, 1) := by decide +kernel
theorem dX4_inLowestTerms_38 : decode cX4_inLowestTerms 38 = .ok (.lload 7, 2) := by decide +kernel
theorem dX4_inLowestTerms_40 : decode cX4_inLowestTerms 40 = .ok (.lstore 4, 2) := by decide +kernel
theorem dX4_inLowestTerms_42 : decode cX4_inLowestTerms 42 = .ok (.iinc 6 1, 3) := by decide +kernel
theorem dX4_inLowestTerms_45 : decode cX4_inLowestTerms 45 = .ok (.goto (-31), 3) := by decide +kernel
theorem dX4_inLowestTerms_48 : decode cX4_inLowestTerms 48 = .ok (.lload_n 2, 1) := by decide +kernel
theorem dX4_inLowestTerms_49 : decode cX4_inLowestTerms 49 = .ok (.lconst 0, 1) := by decide +kernel
theorem dX4_inLowestTerms_50 : decode cX4_inLowestTerms 50 = .ok (.lcmp, 1) := by decide +kernel
theorem dX4_inLowestTerms_51 : decode cX4_inLowestTerms 51 = .ok (.ifCond .gt 6, 3) := by decide +kernel
theorem dX4_inLowestTerms_54 : decode cX4_inLowestTerms 54 = .ok (.iload_n 1, 1) := by decide +kernel
theorem dX4_inLowestTerms_55 : decode cX4_inLowestTerms 55 = .ok (.i2l, 1) := by decide +kernel
theorem dX4_inLowestTerms_56 : decode cX4_inLowestTerms 56 = .ok (.lreturn, 1) := by decide +kernel
theorem dX4_inLowestTerms_57 : decode cX4_inLowestTerms 57 = .ok (.iload_n 1, 1) := by decide +kernel
theorem dX4_inLowestTerms_58 : decode cX4_inLowestTerms 58 = .ok (.ifCond .ne 10, 3) := by decide +kernel
theorem dX4_inLowestTerms_61 : decode cX4_inLowestTerms 61 = .ok (.aload_n 0, 1) := by decide +kernel
theorem dX4_inLowestTerms_62 : decode cX4_inLowestTerms 62 = .ok (.getfield 31, 3) := by decide +kernel
theorem dX4_inLowestTerms_65 : decode cX4_inLowestTerms 65 = .ok (.goto 7, 3) := by decide +kernel
theorem dX4_inLowestTerms_68 : decode cX4_inLowestTerms 68 = .ok (.aload_n 0, 1) := by decide +kernel
theorem dX4_inLowestTerms_69 : decode cX4_inLowestTerms 69 = .ok (.getfield 15, 3) := by decide +kernel
theorem dX4_inLowestTerms_72 : decode cX4_inLowestTerms 72 = .ok (.lload_n 2, 1) := by decide +kernel
theorem dX4_inLowestTerms_73 : decode cX4_inLowestTerms 73 = .ok (.ldiv, 1) := by decide +kernel
theorem dX4_inLowestTerms_74 : decode cX4_inLowestTerms 74 = .ok (.lreturn, 1) := by decide +kernel
theorem dX4_endByLead_0 : decode cX4_endByLead 0 = .ok (.iload_n 0, 1) := by decide +kernel
theorem dX4_endByLead_1 : decode cX4_endByLead 1 = .ok (.ifCond .le 7, 3) := by decide +kernel
theorem dX4_endByLead_4 : decode cX4_endByLead 4 = .ok (.iconst 0, 1) := by decide +kernel
theorem dX4_endByLead_5 : decode cX4_endByLead 5 = .ok (.goto 12, 3) := by decide +kernel
theorem dX4_endByLead_8 : decode cX4_endByLead 8 = .ok (.iload_n 0, 1) := by decide +kernel
theorem dX4_endByLead_9 : decode cX4_endByLead 9 = .ok (.ifCond .ne 7, 3) := by decide +kernel
theorem dX4_endByLead_12 : decode cX4_endByLead 12 = .ok (.iconst 1, 1) := by decide +kernel
theorem dX4_endByLead_13 : decode cX4_endByLead 13 = .ok (.goto 4, 3) := by decide +kernel
theorem dX4_endByLead_16 : decode cX4_endByLead 16 = .ok (.iconst 2, 1) := by decide +kernel
theorem dX4_endByLead_17 : decode cX4_endByLead 17 = .ok (.ireturn, 1) := by decide +kernel
theorem dX5_init_0 : decode cX5_init 0 = .ok (.aload_n 0, 1) := by decide +kernel
theorem dX5_init_1 : decode cX5_init 1 = .ok (.invokespecial 3, 3) := by decide +kernel
theorem dX5_init_4 : decode cX5_init 4 = .ok (.aload_n 0, 1) := by decide +kernel
theorem dX5_init_5 : decode cX5_init 5 = .ok (.bipush 12, 2) := by decide +kernel
theorem dX5_init_7 : decode cX5_init 7 = .ok (.newarray .int, 2) := by decide +kernel
theorem dX5_init_9 : decode cX5_init 9 = .ok (.putfield 9, 3) := by decide +kernel
theorem dX5_init_12 : decode cX5_init 12 = .ok (.return_, 1) := by decide +kernel
set_option maxRecDepth 20000 in
theorem ggX5_choose_X5_seekWorthy : GoodIn wsX5_choose wsX5_seekWorthy := goodIn_r _ [9, 10, 11, 12, 13, 14, 15, 16, 17, 18, 19, 20, 21, 22, 23, 24, 25, 26, 27, 28, 29, 30, 31, 32, 33, 34, 35, 36, 37, 38, 39, 40, 41, 42, 43, 44, 45, 46, 47, 48, 49, 50, 51, 52, 53, 54, 55, 56, 57, 58, 59, 60, 61, 62, 63, 64, 65, 66, 67, 68, 69, 70, 71, 72, 73, 74, 75, 76, 77, 78, 79, 80, 81, 98, 99, 100, 101, 102, 103, 104, 105, 106, 107, 108, 109, 110, 93, 94, 95, 96, 97, 111, 112, 113] (by decide +kernel) (by decide +kernel)
set_option maxRecDepth 20000 in
theorem gX5_choose_X5_seekWorthy : GoodIn wsX5_choose (wsV RX5 15 RX5 yX5_seekWorthy wsX5_seekWorthy) := goodIn_app (goodIn_of _ (by decide +kernel)) ggX5_choose_X5_seekWorthy
set_option maxRecDepth 20000 in
theorem ggX5_choose_J6_bitCount_0f7a4 : GoodIn wsX5_choose wsJ6_bitCount_0f7a4 := goodIn_r _ [85, 86, 87, 88] (by decide +kernel) (by decide +kernel)
set_option maxRecDepth 20000 in
theorem gX5_choose_J6_bitCount_0f7a4 : GoodIn wsX5_choose (va_wsS RX5 32 yJ6_bitCount_0f7a4 wsJ6_bitCount_0f7a4) := goodIn_app (goodIn_of _ (by decide +kernel)) ggX5_choose_J6_bitCount_0f7a4
set_option maxRecDepth 20000 in
theorem ggX5_choose_X5_change : GoodIn wsX5_choose wsX5_change := goodIn_r _ [92, 3, 10, 4, 98, 99, 100, 101, 102, 103, 104, 105, 106, 107, 108, 109, 110, 93, 94, 95, 96, 97] (by decide +kernel) (by decide +kernel)
set_option maxRecDepth 20000 in
theorem gX5_choose_X5_change : GoodIn wsX5_choose (wsV RX5 38 RX5 yX5_change wsX5_change) := goodIn_app (goodIn_of _ (by decide +kernel)) ggX5_choose_X5_change
theorem dX5_choose_0 : decode cX5_choose 0 = .ok (.aload_n 0, 1) := by decide +kernel
theorem dX5_choose_1 : decode cX5_choose 1 = .ok (.aload_n 2, 1) := by decide +kernel
theorem dX5_choose_2 : decode cX5_choose 2 = .ok (.invokevirtual 15, 3) := by decide +kernel
theorem dX5_choose_5 : decode cX5_choose 5 = .ok (.istore_n 3, 1) := by decide +kernel
theorem dX5_choose_6 : decode cX5_choose 6 = .ok (.aload_n 0, 1) := by decide +kernel
theorem dX5_choose_7 : decode cX5_choose 7 = .ok (.iconst 0, 1) := by decide +kernel
theorem dX5_choose_8 : decode cX5_choose 8 = .ok (.putfield 19, 3) := by decide +kernel
theorem dX5_choose_11 : decode cX5_choose 11 = .ok (.aload_n 0, 1) := by decide +kernel
theorem dX5_choose_12 : decode cX5_choose 12 = .ok (.iconst 0, 1) := by decide +kernel
theorem dX5_choose_13 : decode cX5_choose 13 = .ok (.putfield 23, 3) := by decide +kernel
theorem dX5_choose_16 : decode cX5_choose 16 = .ok (.aload_n 0, 1) := by decide +kernel
theorem dX5_choose_17 : decode cX5_choose 17 = .ok (.iconst 0, 1) := by decide +kernel
theorem dX5_choose_18 : decode cX5_choose 18 = .ok (.putfield 26, 3) := by decide +kernel
theorem dX5_choose_21 : decode cX5_choose 21 = .ok (.aload_n 0, 1) := by decide +kernel
theorem dX5_choose_22 : decode cX5_choose 22 = .ok (.iconst 0, 1) := by decide +kernel
theorem dX5_choose_23 : decode cX5_choose 23 = .ok (.putfield 29, 3) := by decide +kernel
theorem dX5_choose_26 : decode cX5_choose 26 = .ok (.iconst 0, 1) := by decide +kernel
theorem dX5_choose_27 : decode cX5_choose 27 = .ok (.istore 4, 2) := by decide +kernel
theorem dX5_choose_29 : decode cX5_choose 29 = .ok (.iconst 0, 1) := by decide +kernel
theorem dX5_choose_30 : decode cX5_choose 30 = .ok (.istore 5, 2) := by decide +kernel
theorem dX5_choose_32 : decode cX5_choose 32 = .ok (.iconst 1, 1) := by decide +kernel
theorem dX5_choose_33 : decode cX5_choose 33 = .ok (.istore 6, 2) := by decide +kernel
theorem dX5_choose_35 : decode cX5_choose 35 = .ok (.iload 6, 2) := by decide +kernel
theorem dX5_choose_37 : decode cX5_choose 37 = .ok (.iconst 1, 1) := by decide +kernel
theorem dX5_choose_38 : decode cX5_choose 38 = .ok (.iload_n 3, 1) := by decide +kernel
theorem dX5_choose_39 : decode cX5_choose 39 = .ok (.invokestatic 32, 3) := by decide +kernel
theorem dX5_choose_42 : decode cX5_choose 42 = .ok (.ishl, 1) := by decide +kernel
theorem dX5_choose_43 : decode cX5_choose 43 = .ok (.if_icmp .ge 89, 3) := by decide +kernel
theorem dX5_choose_46 : decode cX5_choose 46 = .ok (.iload 5, 2) := by decide +kernel
theorem dX5_choose_48 : decode cX5_choose 48 = .ok (.iload_n 3, 1) := by decide +kernel
theorem dX5_choose_49 : decode cX5_choose 49 = .ok (.isub, 1) := by decide +kernel
theorem dX5_choose_50 : decode cX5_choose 50 = .ok (.iload_n 3, 1) := by decide +kernel
theorem dX5_choose_51 : decode cX5_choose 51 = .ok (.iand, 1) := by decide +kernel
theorem dX5_choose_52 : decode cX5_choose 52 = .ok (.istore 7, 2) := by decide +kernel
theorem dX5_choose_54 : decode cX5_choose 54 = .ok (.aload_n 0, 1) := by decide +kernel
theorem dX5_choose_55 : decode cX5_choose 55 = .ok (.iload 5, 2) := by decide +kernel
theorem dX5_choose_57 : decode cX5_choose 57 = .ok (.iload 7, 2) := by decide +kernel
theorem dX5_choose_59 : decode cX5_choose 59 = .ok (.aload_n 2, 1) := by decide +kernel
theorem dX5_choose_60 : decode cX5_choose 60 = .ok (.invokevirtual 38, 3) := by decide +kernel
theorem dX5_choose_63 : decode cX5_choose 63 = .ok (.iload 7, 2) := by decide +kernel
theorem dX5_choose_65 : decode cX5_choose 65 = .ok (.istore 5, 2) := by decide +kernel
theorem dX5_choose_67 : decode cX5_choose 67 = .ok (.aload_n 0, 1) := by decide +kernel
theorem dX5_choose_68 : decode cX5_choose 68 = .ok (.getfield 29, 3) := by decide +kernel
theorem dX5_choose_71 : decode cX5_choose 71 = .ok (.iload_n 1, 1) := by decide +kernel
theorem dX5_choose_72 : decode cX5_choose 72 = .ok (.if_icmp .gt 54, 3) := by decide +kernel
theorem dX5_choose_75 : decode cX5_choose 75 = .ok (.aload_n 0, 1) := by decide +kernel
theorem dX5_choose_76 : decode cX5_choose 76 = .ok (.getfield 26, 3) := by decide +kernel
theorem dX5_choose_79 : decode cX5_choose 79 = .ok (.aload_n 0, 1) := by decide +kernel
theorem dX5_choose_80 : decode cX5_choose 80 = .ok (.getfield 23, 3) := by decide +kernel
theorem dX5_choose_83 : decode cX5_choose 83 = .ok (.if_icmp .gt 23, 3) := by decide +kernel
theorem dX5_choose_86 : decode cX5_choose 86 = .ok (.aload_n 0, 1) := by decide +kernel
theorem dX5_choose_87 : decode cX5_choose 87 = .ok (.getfield 26, 3) := by decide +kernel
theorem dX5_choose_90 : decode cX5_choose 90 = .ok (.aload_n 0, 1) := by decide +kernel
theorem dX5_choose_91 : decode cX5_choose 91 = .ok (.getfield 23, 3) := by decide +kernel
theorem dX5_choose_94 : decode cX5_choose 94 = .ok (.if_icmp .ne 32, 3) := by decide +kernel
theorem dX5_choose_97 : decode cX5_choose 97 = .ok (.aload_n 0, 1) := by decide +kernel
theorem dX5_choose_98 : decode cX5_choose 98 = .ok (.getfield 29, 3) := by decide +kernel
theorem dX5_choose_101 : decode cX5_choose 101 = .ok (.iload 4, 2) := by decide +kernel
theorem dX5_choose_103 : decode cX5_choose 103 = .ok (.if_icmp .ge 23, 3) := by decide +kernel
theorem dX5_choose_106 : decode cX5_choose 106 = .ok (.aload_n 0, 1) := by decide +kernel
theorem dX5_choose_107 : decode cX5_choose 107 = .ok (.iload 5, 2) := by decide +kernel
theorem dX5_choose_109 : decode cX5_choose 109 = .ok (.putfield 19, 3) := by decide +kernel
theorem dX5_choose_112 : decode cX5_choose 112 = .ok (.aload_n 0, 1) := by decide +kernel
theorem dX5_choose_113 : decode cX5_choose 113 = .ok (.aload_n 0, 1) := by decide +kernel
theorem dX5_choose_114 : decode cX5_choose 114 = .ok (.getfield 26, 3) := by decide +kernel
theorem dX5_choose_117 : decode cX5_choose 117 = .ok (.putfield 23, 3) := by decide +kernel
theorem dX5_choose_120 : decode cX5_choose 120 = .ok (.aload_n 0, 1) := by decide +kernel
theorem dX5_choose_121 : decode cX5_choose 121 = .ok (.getfield 29, 3) := by decide +kernel
theorem dX5_choose_124 : decode cX5_choose 124 = .ok (.istore 4, 2) := by decide +kernel
theorem dX5_choose_126 : decode cX5_choose 126 = .ok (.iinc 6 1, 3) := by decide +kernel
theorem dX5_choose_129 : decode cX5_choose 129 = .ok (.goto (-94), 3) := by decide +kernel
theorem dX5_choose_132 : decode cX5_choose 132 = .ok (.return_, 1) := by decide +kernel
set_option maxRecDepth 20000 in
theorem ggX5_seekWorthy_X2_seekTop : GoodIn wsX5_seekWorthy wsX2_seekTop := goodIn_r _ [6, 7, 8, 9, 10, 11, 5, 12, 13, 14, 15, 16, 17, 18, 19, 20, 21, 22, 23, 24, 25, 26, 27, 28, 29, 30, 31, 32, 33, 34, 35, 36, 37, 38, 39, 40, 41, 42, 43, 44, 45, 46, 47, 48, 49, 50, 51, 52, 53, 54, 55, 56, 57, 58, 59, 60, 61, 62, 63, 64, 65, 66, 67, 68, 69, 70, 71, 72, 73, 74, 75, 76, 77, 78, 79, 80, 81, 82, 83, 84, 85, 91, 92, 93] (by decide +kernel) (by decide +kernel)
set_option maxRecDepth 20000 in
theorem gX5_seekWorthy_X2_seekTop : GoodIn wsX5_seekWorthy (wsV RX5 47 RX2 yX2_seekTop wsX2_seekTop) := goodIn_app (goodIn_of _ (by decide +kernel)) ggX5_seekWorthy_X2_seekTop
theorem dX5_seekWorthy_0 : decode cX5_seekWorthy 0 = .ok (.iconst 0, 1) := by decide +kernel
theorem dX5_seekWorthy_1 : decode cX5_seekWorthy 1 = .ok (.istore_n 2, 1) := by decide +kernel
theorem dX5_seekWorthy_2 : decode cX5_seekWorthy 2 = .ok (.iconst 0, 1) := by decide +kernel
theorem dX5_seekWorthy_3 : decode cX5_seekWorthy 3 = .ok (.istore_n 3, 1) := by decide +kernel
theorem dX5_seekWorthy_4 : decode cX5_seekWorthy 4 = .ok (.iload_n 3, 1) := by decide +kernel
theorem dX5_seekWorthy_5 : decode cX5_seekWorthy 5 = .ok (.aload_n 1, 1) := by decide +kernel
theorem dX5_seekWorthy_6 : decode cX5_seekWorthy 6 = .ok (.getfield 42, 3) := by decide +kernel
theorem dX5_seekWorthy_9 : decode cX5_seekWorthy 9 = .ok (.if_icmp .ge 39, 3) := by decide +kernel
theorem dX5_seekWorthy_12 : decode cX5_seekWorthy 12 = .ok (.aload_n 1, 1) := by decide +kernel
theorem dX5_seekWorthy_13 : decode cX5_seekWorthy 13 = .ok (.iload_n 3, 1) := by decide +kernel
theorem dX5_seekWorthy_14 : decode cX5_seekWorthy 14 = .ok (.invokevirtual 47, 3) := by decide +kernel
theorem dX5_seekWorthy_17 : decode cX5_seekWorthy 17 = .ok (.aload_n 0, 1) := by decide +kernel
theorem dX5_seekWorthy_18 : decode cX5_seekWorthy 18 = .ok (.getfield 9, 3) := by decide +kernel
theorem dX5_seekWorthy_21 : decode cX5_seekWorthy 21 = .ok (.iload_n 3, 1) := by decide +kernel
theorem dX5_seekWorthy_22 : decode cX5_seekWorthy 22 = .ok (.aload_n 1, 1) := by decide +kernel
theorem dX5_seekWorthy_23 : decode cX5_seekWorthy 23 = .ok (.getfield 51, 3) := by decide +kernel
theorem dX5_seekWorthy_26 : decode cX5_seekWorthy 26 = .ok (.iastore, 1) := by decide +kernel
theorem dX5_seekWorthy_27 : decode cX5_seekWorthy 27 = .ok (.aload_n 0, 1) := by decide +kernel
theorem dX5_seekWorthy_28 : decode cX5_seekWorthy 28 = .ok (.getfield 9, 3) := by decide +kernel
theorem dX5_seekWorthy_31 : decode cX5_seekWorthy 31 = .ok (.iload_n 3, 1) := by decide +kernel
theorem dX5_seekWorthy_32 : decode cX5_seekWorthy 32 = .ok (.iaload, 1) := by decide +kernel
theorem dX5_seekWorthy_33 : decode cX5_seekWorthy 33 = .ok (.ifCond .le 9, 3) := by decide +kernel
theorem dX5_seekWorthy_36 : decode cX5_seekWorthy 36 = .ok (.iload_n 2, 1) := by decide +kernel
theorem dX5_seekWorthy_37 : decode cX5_seekWorthy 37 = .ok (.iconst 1, 1) := by decide +kernel
theorem dX5_seekWorthy_38 : decode cX5_seekWorthy 38 = .ok (.iload_n 3, 1) := by decide +kernel
theorem dX5_seekWorthy_39 : decode cX5_seekWorthy 39 = .ok (.ishl, 1) := by decide +kernel
theorem dX5_seekWorthy_40 : decode cX5_seekWorthy 40 = .ok (.ior, 1) := by decide +kernel
theorem dX5_seekWorthy_41 : decode cX5_seekWorthy 41 = .ok (.istore_n 2, 1) := by decide +kernel
theorem dX5_seekWorthy_42 : decode cX5_seekWorthy 42 = .ok (.iinc 3 1, 3) := by decide +kernel
theorem dX5_seekWorthy_45 : decode cX5_seekWorthy 45 = .ok (.goto (-41), 3) := by decide +kernel
theorem dX5_seekWorthy_48 : decode cX5_seekWorthy 48 = .ok (.iload_n 2, 1) := by decide +kernel
theorem dX5_seekWorthy_49 : decode cX5_seekWorthy 49 = .ok (.ireturn, 1) := by decide +kernel
theorem dX5_change_0 : decode cX5_change 0 = .ok (.iconst 0, 1) := by decide +kernel
theorem dX5_change_1 : decode cX5_change 1 = .ok (.istore 4, 2) := by decide +kernel
theorem dX5_change_3 : decode cX5_change 3 = .ok (.iload 4, 2) := by decide +kernel
theorem dX5_change_5 : decode cX5_change 5 = .ok (.aload_n 3, 1) := by decide +kernel
theorem dX5_change_6 : decode cX5_change 6 = .ok (.getfield 42, 3) := by decide +kernel
theorem dX5_change_9 : decode cX5_change 9 = .ok (.if_icmp .ge 73, 3) := by decide +kernel
theorem dX5_change_12 : decode cX5_change 12 = .ok (.iload_n 1, 1) := by decide +kernel
theorem dX5_change_13 : decode cX5_change 13 = .ok (.iload 4, 2) := by decide +kernel
theorem dX5_change_15 : decode cX5_change 15 = .ok (.ishr, 1) := by decide +kernel
theorem dX5_change_16 : decode cX5_change 16 = .ok (.iload_n 2, 1) := by decide +kernel
theorem dX5_change_17 : decode cX5_change 17 = .ok (.iload 4, 2) := by decide +kernel
theorem dX5_change_19 : decode cX5_change 19 = .ok (.ishr, 1) := by decide +kernel
theorem dX5_change_20 : decode cX5_change 20 = .ok (.if_icmp .eq 62, 3) := by decide +kernel
theorem dX5_change_23 : decode cX5_change 23 = .ok (.iload_n 2, 1) := by decide +kernel
theorem dX5_change_24 : decode cX5_change 24 = .ok (.iload 4, 2) := by decide +kernel
theorem dX5_change_26 : decode cX5_change 26 = .ok (.ishr, 1) := by decide +kernel
theorem dX5_change_27 : decode cX5_change 27 = .ok (.iconst 1, 1) := by decide +kernel
theorem dX5_change_28 : decode cX5_change 28 = .ok (.iand, 1) := by decide +kernel
theorem dX5_change_29 : decode cX5_change 29 = .ok (.iload_n 1, 1) := by decide +kernel
theorem dX5_change_30 : decode cX5_change 30 = .ok (.iload 4, 2) := by decide +kernel
theorem dX5_change_32 : decode cX5_change 32 = .ok (.ishr, 1) := by decide +kernel
theorem dX5_change_33 : decode cX5_change 33 = .ok (.iconst 1, 1) := by decide +kernel
theorem dX5_change_34 : decode cX5_change 34 = .ok (.iand, 1) := by decide +kernel
theorem dX5_change_35 : decode cX5_change 35 = .ok (.isub, 1) := by decide +kernel
theorem dX5_change_36 : decode cX5_change 36 = .ok (.istore 5, 2) := by decide +kernel
theorem dX5_change_38 : decode cX5_change 38 = .ok (.aload_n 0, 1) := by decide +kernel
theorem dX5_change_39 : decode cX5_change 39 = .ok (.dup, 1) := by decide +kernel
theorem dX5_change_40 : decode cX5_change 40 = .ok (.getfield 26, 3) := by decide +kernel
theorem dX5_change_43 : decode cX5_change 43 = .ok (.iload 5, 2) := by decide +kernel
theorem dX5_change_45 : decode cX5_change 45 = .ok (.aload_n 0, 1) := by decide +kernel
theorem dX5_change_46 : decode cX5_change 46 = .ok (.getfield 9, 3) := by decide +kernel
theorem dX5_change_49 : decode cX5_change 49 = .ok (.iload 4, 2) := by decide +kernel
theorem dX5_change_51 : decode cX5_change 51 = .ok (.iaload, 1) := by decide +kernel
theorem dX5_change_52 : decode cX5_change 52 = .ok (.imul, 1) := by decide +kernel
theorem dX5_change_53 : decode cX5_change 53 = .ok (.iadd, 1) := by decide +kernel
theorem dX5_change_54 : decode cX5_change 54 = .ok (.putfield 26, 3) := by decide +kernel
theorem dX5_change_57 : decode cX5_change 57 = .ok (.aload_n 0, 1) := by decide +kernel
theorem dX5_change_58 : decode cX5_change 58 = .ok (.dup, 1) := by decide +kernel
theorem dX5_change_59 : decode cX5_change 59 = .ok (.getfield 29, 3) := by decide +kernel
theorem dX5_change_62 : decode cX5_change 62 = .ok (.iload 5, 2) := by decide +kernel
theorem dX5_change_64 : decode cX5_change 64 = .ok (.aload_n 3, 1) := by decide +kernel
theorem dX5_change_65 : decode cX5_change 65 = .ok (.getfield 54, 3) := by decide +kernel
theorem dX5_change_68 : decode cX5_change 68 = .ok (.iload 4, 2) := by decide +kernel
theorem dX5_change_70 : decode cX5_change 70 = .ok (.iaload, 1) := by decide +kernel
theorem dX5_change_71 : decode cX5_change 71 = .ok (.imul, 1) := by decide +kernel
theorem dX5_change_72 : decode cX5_change 72 = .ok (.iadd, 1) := by decide +kernel
theorem dX5_change_73 : decode cX5_change 73 = .ok (.putfield 29, 3) := by decide +kernel
theorem dX5_change_76 : decode cX5_change 76 = .ok (.iinc 4 1, 3) := by decide +kernel
theorem dX5_change_79 : decode cX5_change 79 = .ok (.goto (-76), 3) := by decide +kernel
theorem dX5_change_82 : decode cX5_change 82 = .ok (.return_, 1) := by decide +kernel
theorem dX6_init_0 : decode cX6_init 0 = .ok (.aload_n 0, 1) := by decide +kernel
theorem dX6_init_1 : decode cX6_init 1 = .ok (.invokespecial 3, 3) := by decide +kernel
theorem dX6_init_4 : decode cX6_init 4 = .ok (.aload_n 0, 1) := by decide +kernel
theorem dX6_init_5 : decode cX6_init 5 = .ok (.iconst 2, 1) := by decide +kernel
theorem dX6_init_6 : decode cX6_init 6 = .ok (.putfield 9, 3) := by decide +kernel
theorem dX6_init_9 : decode cX6_init 9 = .ok (.aload_n 0, 1) := by decide +kernel
theorem dX6_init_10 : decode cX6_init 10 = .ok (.bipush 8, 2) := by decide +kernel
theorem dX6_init_12 : decode cX6_init 12 = .ok (.newarray .int, 2) := by decide +kernel
theorem dX6_init_14 : decode cX6_init 14 = .ok (.putfield 15, 3) := by decide +kernel
theorem dX6_init_17 : decode cX6_init 17 = .ok (.aload_n 0, 1) := by decide +kernel
theorem dX6_init_18 : decode cX6_init 18 = .ok (.bipush 8, 2) := by decide +kernel
theorem dX6_init_20 : decode cX6_init 20 = .ok (.newarray .int, 2) := by decide +kernel
theorem dX6_init_22 : decode cX6_init 22 = .ok (.putfield 19, 3) := by decide +kernel
theorem dX6_init_25 : decode cX6_init 25 = .ok (.aload_n 0, 1) := by decide +kernel
theorem dX6_init_26 : decode cX6_init 26 = .ok (.bipush 8, 2) := by decide +kernel
theorem dX6_init_28 : decode cX6_init 28 = .ok (.newarray .int, 2) := by decide +kernel
theorem dX6_init_30 : decode cX6_init 30 = .ok (.putfield 22, 3) := by decide +kernel
theorem dX6_init_33 : decode cX6_init 33 = .ok (.aload_n 0, 1) := by decide +kernel
theorem dX6_init_34 : decode cX6_init 34 = .ok (.bipush 8, 2) := by decide +kernel
theorem dX6_init_36 : decode cX6_init 36 = .ok (.newarray .boolean, 2) := by decide +kernel
theorem dX6_init_38 : decode cX6_init 38 = .ok (.putfield 25, 3) := by decide +kernel
theorem dX6_init_41 : decode cX6_init 41 = .ok (.return_, 1) := by decide +kernel
set_option maxRecDepth 20000 in
theorem ggX6_reckon_X2_leadAhead : GoodIn wsX6_reckon wsX2_leadAhead := goodIn_r _ [10, 11, 12, 13, 9, 14, 15, 30, 31, 32, 33, 34, 35, 36, 37, 38, 39, 40, 41, 42] (by decide +kernel) (by decide +kernel)
set_option maxRecDepth 20000 in
theorem gX6_reckon_X2_leadAhead : GoodIn wsX6_reckon (wsV RX6 34 RX2 yX2_leadAhead wsX2_leadAhead) := goodIn_app (goodIn_of _ (by decide +kernel)) ggX6_reckon_X2_leadAhead
set_option maxRecDepth 20000 in
theorem ggX6_reckon_X6_score : GoodIn wsX6_reckon wsX6_score := goodIn_r _ [20, 4, 3, 1, 24, 25, 26, 27, 28, 29] (by decide +kernel) (by decide +kernel)
set_option maxRecDepth 20000 in
theorem gX6_reckon_X6_score : GoodIn wsX6_reckon (wsV RX6 41 RX6 yX6_score wsX6_score) := goodIn_app (goodIn_of _ (by decide +kernel)) ggX6_reckon_X6_score
set_option maxRecDepth 20000 in
theorem ggX6_reckon_X10_asNumber : GoodIn wsX6_reckon wsX10_asNumber := goodIn_r _ [23] (by decide +kernel) (by decide +kernel)
set_option maxRecDepth 20000 in
theorem gX6_reckon_X10_asNumber_n51 : GoodIn wsX6_reckon (wsX10_asNumber) := ggX6_reckon_X10_asNumber
theorem dX6_reckon_0 : decode cX6_reckon 0 = .ok (.iconst 0, 1) := by decide +kernel
theorem dX6_reckon_1 : decode cX6_reckon 1 = .ok (.istore_n 2, 1) := by decide +kernel
theorem dX6_reckon_2 : decode cX6_reckon 2 = .ok (.iload_n 2, 1) := by decide +kernel
theorem dX6_reckon_3 : decode cX6_reckon 3 = .ok (.bipush 8, 2) := by decide +kernel
theorem dX6_reckon_5 : decode cX6_reckon 5 = .ok (.if_icmp .ge 36, 3) := by decide +kernel
theorem dX6_reckon_8 : decode cX6_reckon 8 = .ok (.aload_n 0, 1) := by decide +kernel
theorem dX6_reckon_9 : decode cX6_reckon 9 = .ok (.getfield 19, 3) := by decide +kernel
theorem dX6_reckon_12 : decode cX6_reckon 12 = .ok (.iload_n 2, 1) := by decide +kernel
theorem dX6_reckon_13 : decode cX6_reckon 13 = .ok (.aload_n 0, 1) := by decide +kernel
theorem dX6_reckon_14 : decode cX6_reckon 14 = .ok (.getfield 15, 3) := by decide +kernel
theorem dX6_reckon_17 : decode cX6_reckon 17 = .ok (.iload_n 2, 1) := by decide +kernel
theorem dX6_reckon_18 : decode cX6_reckon 18 = .ok (.iaload, 1) := by decide +kernel
theorem dX6_reckon_19 : decode cX6_reckon 19 = .ok (.ineg, 1) := by decide +kernel
theorem dX6_reckon_20 : decode cX6_reckon 20 = .ok (.iastore, 1) := by decide +kernel
theorem dX6_reckon_21 : decode cX6_reckon 21 = .ok (.aload_n 0, 1) := by decide +kernel
theorem dX6_reckon_22 : decode cX6_reckon 22 = .ok (.getfield 22, 3) := by decide +kernel
theorem dX6_reckon_25 : decode cX6_reckon 25 = .ok (.iload_n 2, 1) := by decide +kernel
theorem dX6_reckon_26 : decode cX6_reckon 26 = .ok (.iconst 0, 1) := by decide +kernel
theorem dX6_reckon_27 : decode cX6_reckon 27 = .ok (.iastore, 1) := by decide +kernel
theorem dX6_reckon_28 : decode cX6_reckon 28 = .ok (.aload_n 0, 1) := by decide +kernel
theorem dX6_reckon_29 : decode cX6_reckon 29 = .ok (.getfield 25, 3) := by decide +kernel
theorem dX6_reckon_32 : decode cX6_reckon 32 = .ok (.iload_n 2, 1) := by decide +kernel
theorem dX6_reckon_33 : decode cX6_reckon 33 = .ok (.iconst 0, 1) := by decide +kernel
theorem dX6_reckon_34 : decode cX6_reckon 34 = .ok (.bastore, 1) := by decide +kernel
theorem dX6_reckon_35 : decode cX6_reckon 35 = .ok (.iinc 2 1, 3) := by decide +kernel
theorem dX6_reckon_38 : decode cX6_reckon 38 = .ok (.goto (-36), 3) := by decide +kernel
theorem dX6_reckon_41 : decode cX6_reckon 41 = .ok (.iconst 0, 1) := by decide +kernel
theorem dX6_reckon_42 : decode cX6_reckon 42 = .ok (.istore_n 2, 1) := by decide +kernel
theorem dX6_reckon_43 : decode cX6_reckon 43 = .ok (.iload_n 2, 1) := by decide +kernel
theorem dX6_reckon_44 : decode cX6_reckon 44 = .ok (.aload_n 1, 1) := by decide +kernel
theorem dX6_reckon_45 : decode cX6_reckon 45 = .ok (.getfield 29, 3) := by decide +kernel
theorem dX6_reckon_48 : decode cX6_reckon 48 = .ok (.if_icmp .ge 40, 3) := by decide +kernel
theorem dX6_reckon_51 : decode cX6_reckon 51 = .ok (.aload_n 1, 1) := by decide +kernel
theorem dX6_reckon_52 : decode cX6_reckon 52 = .ok (.iload_n 2, 1) := by decide +kernel
theorem dX6_reckon_53 : decode cX6_reckon 53 = .ok (.bipush 6, 2) := by decide +kernel
theorem dX6_reckon_55 : decode cX6_reckon 55 = .ok (.invokevirtual 34, 3) := by decide +kernel
theorem dX6_reckon_58 : decode cX6_reckon 58 = .ok (.istore_n 3, 1) := by decide +kernel
theorem dX6_reckon_59 : decode cX6_reckon 59 = .ok (.aload_n 0, 1) := by decide +kernel
theorem dX6_reckon_60 : decode cX6_reckon 60 = .ok (.aload_n 1, 1) := by decide +kernel
theorem dX6_reckon_61 : decode cX6_reckon 61 = .ok (.getfield 38, 3) := by decide +kernel
theorem dX6_reckon_64 : decode cX6_reckon 64 = .ok (.iload_n 2, 1) := by decide +kernel
theorem dX6_reckon_65 : decode cX6_reckon 65 = .ok (.iaload, 1) := by decide +kernel
theorem dX6_reckon_66 : decode cX6_reckon 66 = .ok (.iload_n 3, 1) := by decide +kernel
theorem dX6_reckon_67 : decode cX6_reckon 67 = .ok (.invokevirtual 41, 3) := by decide +kernel
theorem dX6_reckon_70 : decode cX6_reckon 70 = .ok (.aload_n 0, 1) := by decide +kernel
theorem dX6_reckon_71 : decode cX6_reckon 71 = .ok (.aload_n 1, 1) := by decide +kernel
theorem dX6_reckon_72 : decode cX6_reckon 72 = .ok (.getfield 45, 3) := by decide +kernel
theorem dX6_reckon_75 : decode cX6_reckon 75 = .ok (.iload_n 2, 1) := by decide +kernel
theorem dX6_reckon_76 : decode cX6_reckon 76 = .ok (.iaload, 1) := by decide +kernel
theorem dX6_reckon_77 : decode cX6_reckon 77 = .ok (.iload_n 3, 1) := by decide +kernel
theorem dX6_reckon_78 : decode cX6_reckon 78 = .ok (.ineg, 1) := by decide +kernel
theorem dX6_reckon_79 : decode cX6_reckon 79 = .ok (.invokevirtual 41, 3) := by decide +kernel
theorem dX6_reckon_82 : decode cX6_reckon 82 = .ok (.iinc 2 1, 3) := by decide +kernel
theorem dX6_reckon_85 : decode cX6_reckon 85 = .ok (.goto (-42), 3) := by decide +kernel
theorem dX6_reckon_88 : decode cX6_reckon 88 = .ok (.aload_n 0, 1) := by decide +kernel
theorem dX6_reckon_89 : decode cX6_reckon 89 = .ok (.iconst 0, 1) := by decide +kernel
theorem dX6_reckon_90 : decode cX6_reckon 90 = .ok (.putfield 48, 3) := by decide +kernel
theorem dX6_reckon_93 : decode cX6_reckon 93 = .ok (.iconst 0, 1) := by decide +kernel
theorem dX6_reckon_94 : decode cX6_reckon 94 = .ok (.istore_n 2, 1) := by decide +kernel
theorem dX6_reckon_95 : decode cX6_reckon 95 = .ok (.iload_n 2, 1) := by decide +kernel
theorem dX6_reckon_96 : decode cX6_reckon 96 = .ok (.bipush 8, 2) := by decide +kernel
theorem dX6_reckon_98 : decode cX6_reckon 98 = .ok (.if_icmp .ge 27, 3) := by decide +kernel
theorem dX6_reckon_101 : decode cX6_reckon 101 = .ok (.aload_n 0, 1) := by decide +kernel
theorem dX6_reckon_102 : decode cX6_reckon 102 = .ok (.dup, 1) := by decide +kernel
theorem dX6_reckon_103 : decode cX6_reckon 103 = .ok (.getfield 48, 3) := by decide +kernel
theorem dX6_reckon_106 : decode cX6_reckon 106 = .ok (.aload_n 0, 1) := by decide +kernel
theorem dX6_reckon_107 : decode cX6_reckon 107 = .ok (.getfield 25, 3) := by decide +kernel
theorem dX6_reckon_110 : decode cX6_reckon 110 = .ok (.iload_n 2, 1) := by decide +kernel
theorem dX6_reckon_111 : decode cX6_reckon 111 = .ok (.baload, 1) := by decide +kernel
theorem dX6_reckon_112 : decode cX6_reckon 112 = .ok (.invokestatic 51, 3) := by decide +kernel
theorem dX6_reckon_115 : decode cX6_reckon 115 = .ok (.iadd, 1) := by decide +kernel
theorem dX6_reckon_116 : decode cX6_reckon 116 = .ok (.putfield 48, 3) := by decide +kernel
theorem dX6_reckon_119 : decode cX6_reckon 119 = .ok (.iinc 2 1, 3) := by decide +kernel
theorem dX6_reckon_122 : decode cX6_reckon 122 = .ok (.goto (-27), 3) := by decide +kernel
theorem dX6_reckon_125 : decode cX6_reckon 125 = .ok (.return_, 1) := by decide +kernel
theorem dX6_score_0 : decode cX6_score 0 = .ok (.aload_n 0, 1) := by decide +kernel
theorem dX6_score_1 : decode cX6_score 1 = .ok (.getfield 25, 3) := by decide +kernel
theorem dX6_score_4 : decode cX6_score 4 = .ok (.iload_n 1, 1) := by decide +kernel
theorem dX6_score_5 : decode cX6_score 5 = .ok (.iconst 1, 1) := by decide +kernel
theorem dX6_score_6 : decode cX6_score 6 = .ok (.bastore, 1) := by decide +kernel
theorem dX6_score_7 : decode cX6_score 7 = .ok (.aload_n 0, 1) := by decide +kernel
theorem dX6_score_8 : decode cX6_score 8 = .ok (.getfield 22, 3) := by decide +kernel
theorem dX6_score_11 : decode cX6_score 11 = .ok (.iload_n 1, 1) := by decide +kernel
theorem dX6_score_12 : decode cX6_score 12 = .ok (.dup2, 1) := by decide +kernel
theorem dX6_score_13 : decode cX6_score 13 = .ok (.iaload, 1) := by decide +kernel
theorem dX6_score_14 : decode cX6_score 14 = .ok (.iload_n 2, 1) := by decide +kernel
theorem dX6_score_15 : decode cX6_score 15 = .ok (.iadd, 1) := by decide +kernel
theorem dX6_score_16 : decode cX6_score 16 = .ok (.iastore, 1) := by decide +kernel
theorem dX6_score_17 : decode cX6_score 17 = .ok (.aload_n 0, 1) := by decide +kernel
theorem dX6_score_18 : decode cX6_score 18 = .ok (.getfield 19, 3) := by decide +kernel
theorem dX6_score_21 : decode cX6_score 21 = .ok (.iload_n 1, 1) := by decide +kernel
theorem dX6_score_22 : decode cX6_score 22 = .ok (.dup2, 1) := by decide +kernel
theorem dX6_score_23 : decode cX6_score 23 = .ok (.iaload, 1) := by decide +kernel
theorem dX6_score_24 : decode cX6_score 24 = .ok (.iload_n 2, 1) := by decide +kernel
theorem dX6_score_25 : decode cX6_score 25 = .ok (.ifCond .le 7, 3) := by decide +kernel
theorem dX6_score_28 : decode cX6_score 28 = .ok (.iconst 3, 1) := by decide +kernel
theorem dX6_score_29 : decode cX6_score 29 = .ok (.goto 12, 3) := by decide +kernel
theorem dX6_score_32 : decode cX6_score 32 = .ok (.iload_n 2, 1) := by decide +kernel
theorem dX6_score_33 : decode cX6_score 33 = .ok (.ifCond .ne 7, 3) := by decide +kernel
theorem dX6_score_36 : decode cX6_score 36 = .ok (.iconst 1, 1) := by decide +kernel
theorem dX6_score_37 : decode cX6_score 37 = .ok (.goto 4, 3) := by decide +kernel
theorem dX6_score_40 : decode cX6_score 40 = .ok (.iconst 0, 1) := by decide +kernel
theorem dX6_score_41 : decode cX6_score 41 = .ok (.iadd, 1) := by decide +kernel
theorem dX6_score_42 : decode cX6_score 42 = .ok (.iastore, 1) := by decide +kernel
theorem dX6_score_43 : decode cX6_score 43 = .ok (.return_, 1) := by decide +kernel
theorem dX6_isAhead_0 : decode cX6_isAhead 0 = .ok (.aload_n 0, 1) := by decide +kernel
theorem dX6_isAhead_1 : decode cX6_isAhead 1 = .ok (.getfield 19, 3) := by decide +kernel
theorem dX6_isAhead_4 : decode cX6_isAhead 4 = .ok (.iload_n 1, 1) := by decide +kernel
theorem dX6_isAhead_5 : decode cX6_isAhead 5 = .ok (.iaload, 1) := by decide +kernel
theorem dX6_isAhead_6 : decode cX6_isAhead 6 = .ok (.aload_n 0, 1) := by decide +kernel
theorem dX6_isAhead_7 : decode cX6_isAhead 7 = .ok (.getfield 19, 3) := by decide +kernel
theorem dX6_isAhead_10 : decode cX6_isAhead 10 = .ok (.iload_n 2, 1) := by decide +kernel
theorem dX6_isAhead_11 : decode cX6_isAhead 11 = .ok (.iaload, 1) := by decide +kernel
theorem dX6_isAhead_12 : decode cX6_isAhead 12 = .ok (.if_icmp .eq 24, 3) := by decide +kernel
theorem dX6_isAhead_15 : decode cX6_isAhead 15 = .ok (.aload_n 0, 1) := by decide +kernel
theorem dX6_isAhead_16 : decode cX6_isAhead 16 = .ok (.getfield 19, 3) := by decide +kernel
theorem dX6_isAhead_19 : decode cX6_isAhead 19 = .ok (.iload_n 1, 1) := by decide +kernel
theorem dX6_isAhead_20 : decode cX6_isAhead 20 = .ok (.iaload, 1) := by decide +kernel
theorem dX6_isAhead_21 : decode cX6_isAhead 21 = .ok (.aload_n 0, 1) := by decide +kernel
theorem dX6_isAhead_22 : decode cX6_isAhead 22 = .ok (.getfield 19, 3) := by decide +kernel
theorem dX6_isAhead_25 : decode cX6_isAhead 25 = .ok (.iload_n 2, 1) := by decide +kernel
theorem dX6_isAhead_26 : decode cX6_isAhead 26 = .ok (.iaload, 1) := by decide +kernel
theorem dX6_isAhead_27 : decode cX6_isAhead 27 = .ok (.if_icmp .le 7, 3) := by decide +kernel
theorem dX6_isAhead_30 : decode cX6_isAhead 30 = .ok (.iconst 1, 1) := by decide +kernel
theorem dX6_isAhead_31 : decode cX6_isAhead 31 = .ok (.goto 4, 3) := by decide +kernel
theorem dX6_isAhead_34 : decode cX6_isAhead 34 = .ok (.iconst 0, 1) := by decide +kernel
theorem dX6_isAhead_35 : decode cX6_isAhead 35 = .ok (.ireturn, 1) := by decide +kernel
theorem dX6_isAhead_36 : decode cX6_isAhead 36 = .ok (.aload_n 0, 1) := by decide +kernel
theorem dX6_isAhead_37 : decode cX6_isAhead 37 = .ok (.getfield 22, 3) := by decide +kernel
theorem dX6_isAhead_40 : decode cX6_isAhead 40 = .ok (.iload_n 1, 1) := by decide +kernel
theorem dX6_isAhead_41 : decode cX6_isAhead 41 = .ok (.iaload, 1) := by decide +kernel
theorem dX6_isAhead_42 : decode cX6_isAhead 42 = .ok (.aload_n 0, 1) := by decide +kernel
theorem dX6_isAhead_43 : decode cX6_isAhead 43 = .ok (.getfield 22, 3) := by decide +kernel
theorem dX6_isAhead_46 : decode cX6_isAhead 46 = .ok (.iload_n 2, 1) := by decide +kernel
theorem dX6_isAhead_47 : decode cX6_isAhead 47 = .ok (.iaload, 1) := by decide +kernel
theorem dX6_isAhead_48 : decode cX6_isAhead 48 = .ok (.if_icmp .eq 24, 3) := by decide +kernel
theorem dX6_isAhead_51 : decode cX6_isAhead 51 = .ok (.aload_n 0, 1) := by decide +kernel
theorem dX6_isAhead_52 : decode cX6_isAhead 52 = .ok (.getfield 22, 3) := by decide +kernel
theorem dX6_isAhead_55 : decode cX6_isAhead 55 = .ok (.iload_n 1, 1) := by decide +kernel
theorem dX6_isAhead_56 : decode cX6_isAhead 56 = .ok (.iaload, 1) := by decide +kernel
theorem dX6_isAhead_57 : decode cX6_isAhead 57 = .ok (.aload_n 0, 1) := by decide +kernel
theorem dX6_isAhead_58 : decode cX6_isAhead 58 = .ok (.getfield 22, 3) := by decide +kernel
theorem dX6_isAhead_61 : decode cX6_isAhead 61 = .ok (.iload_n 2, 1) := by decide +kernel
theorem dX6_isAhead_62 : decode cX6_isAhead 62 = .ok (.iaload, 1) := by decide +kernel
theorem dX6_isAhead_63 : decode cX6_isAhead 63 = .ok (.if_icmp .le 7, 3) := by decide +kernel
theorem dX6_isAhead_66 : decode cX6_isAhead 66 = .ok (.iconst 1, 1) := by decide +kernel
theorem dX6_isAhead_67 : decode cX6_isAhead 67 = .ok (.goto 4, 3) := by decide +kernel
theorem dX6_isAhead_70 : decode cX6_isAhead 70 = .ok (.iconst 0, 1) := by decide +kernel
theorem dX6_isAhead_71 : decode cX6_isAhead 71 = .ok (.ireturn, 1) := by decide +kernel
theorem dX6_isAhead_72 : decode cX6_isAhead 72 = .ok (.iload_n 1, 1) := by decide +kernel
theorem dX6_isAhead_73 : decode cX6_isAhead 73 = .ok (.iload_n 2, 1) := by decide +kernel
theorem dX6_isAhead_74 : decode cX6_isAhead 74 = .ok (.if_icmp .ge 7, 3) := by decide +kernel
theorem dX6_isAhead_77 : decode cX6_isAhead 77 = .ok (.iconst 1, 1) := by decide +kernel
theorem dX6_isAhead_78 : decode cX6_isAhead 78 = .ok (.goto 4, 3) := by decide +kernel
theorem dX6_isAhead_81 : decode cX6_isAhead 81 = .ok (.iconst 0, 1) := by decide +kernel
theorem dX6_isAhead_82 : decode cX6_isAhead 82 = .ok (.ireturn, 1) := by decide +kernel
set_option maxRecDepth 20000 in
theorem ggX6_placeOf_X6_isAhead : GoodIn wsX6_placeOf wsX6_isAhead := goodIn_r _ [6, 7, 8, 9, 10, 11, 12, 13, 14] (by decide +kernel) (by decide +kernel)
set_option maxRecDepth 20000 in
theorem gX6_placeOf_X6_isAhead : GoodIn wsX6_placeOf (wsV RX6 55 RX6 yX6_isAhead wsX6_isAhead) := goodIn_app (goodIn_of _ (by decide +kernel)) ggX6_placeOf_X6_isAhead
theorem dX6_placeOf_0 : decode cX6_placeOf 0 = .ok (.iconst 0, 1) := by decide +kernel
theorem dX6_placeOf_1 : decode cX6_placeOf 1 = .ok (.istore_n 2, 1) := by decide +kernel
theorem dX6_placeOf_2 : decode cX6_placeOf 2 = .ok (.iconst 0, 1) := by decide +kernel
theorem dX6_placeOf_3 : decode cX6_placeOf 3 = .ok (.istore_n 3, 1) := by decide +kernel
theorem dX6_placeOf_4 : decode cX6_placeOf 4 = .ok (.iload_n 3, 1) := by decide +kernel
theorem dX6_placeOf_5 : decode cX6_placeOf 5 = .ok (.bipush 8, 2) := by decide +kernel
theorem dX6_placeOf_7 : decode cX6_placeOf 7 = .ok (.if_icmp .ge 30, 3) := by decide +kernel
theorem dX6_placeOf_10 : decode cX6_placeOf 10 = .ok (.aload_n 0, 1) := by decide +kernel
theorem dX6_placeOf_11 : decode cX6_placeOf 11 = .ok (.getfield 25, 3) := by decide +kernel
theorem dX6_placeOf_14 : decode cX6_placeOf 14 = .ok (.iload_n 3, 1) := by decide +kernel
theorem dX6_placeOf_15 : decode cX6_placeOf 15 = .ok (.baload, 1) := by decide +kernel
theorem dX6_placeOf_16 : decode cX6_placeOf 16 = .ok (.ifCond .eq 15, 3) := by decide +kernel
theorem dX6_placeOf_19 : decode cX6_placeOf 19 = .ok (.aload_n 0, 1) := by decide +kernel
theorem dX6_placeOf_20 : decode cX6_placeOf 20 = .ok (.iload_n 3, 1) := by decide +kernel
theorem dX6_placeOf_21 : decode cX6_placeOf 21 = .ok (.iload_n 1, 1) := by decide +kernel
theorem dX6_placeOf_22 : decode cX6_placeOf 22 = .ok (.invokevirtual 55, 3) := by decide +kernel
theorem dX6_placeOf_25 : decode cX6_placeOf 25 = .ok (.ifCond .eq 6, 3) := by decide +kernel
theorem dX6_placeOf_28 : decode cX6_placeOf 28 = .ok (.iinc 2 1, 3) := by decide +kernel
theorem dX6_placeOf_31 : decode cX6_placeOf 31 = .ok (.iinc 3 1, 3) := by decide +kernel
theorem dX6_placeOf_34 : decode cX6_placeOf 34 = .ok (.goto (-30), 3) := by decide +kernel
theorem dX6_placeOf_37 : decode cX6_placeOf 37 = .ok (.iload_n 2, 1) := by decide +kernel
theorem dX6_placeOf_38 : decode cX6_placeOf 38 = .ok (.ireturn, 1) := by decide +kernel
set_option maxRecDepth 20000 in
theorem ggX6_sideAt_X6_placeOf : GoodIn wsX6_sideAt wsX6_placeOf := goodIn_r _ [6, 1, 7, 8, 9, 5, 10, 11, 12, 13, 14, 15, 16, 17, 18] (by decide +kernel) (by decide +kernel)
set_option maxRecDepth 20000 in
theorem gX6_sideAt_X6_placeOf : GoodIn wsX6_sideAt (wsV RX6 59 RX6 yX6_placeOf wsX6_placeOf) := goodIn_app (goodIn_of _ (by decide +kernel)) ggX6_sideAt_X6_placeOf
theorem dX6_sideAt_0 : decode cX6_sideAt 0 = .ok (.iconst 0, 1) := by decide +kernel
theorem dX6_sideAt_1 : decode cX6_sideAt 1 = .ok (.istore_n 2, 1) := by decide +kernel
theorem dX6_sideAt_2 : decode cX6_sideAt 2 = .ok (.iload_n 2, 1) := by decide +kernel
theorem dX6_sideAt_3 : decode cX6_sideAt 3 = .ok (.bipush 8, 2) := by decide +kernel
theorem dX6_sideAt_5 : decode cX6_sideAt 5 = .ok (.if_icmp .ge 29, 3) := by decide +kernel
theorem dX6_sideAt_8 : decode cX6_sideAt 8 = .ok (.aload_n 0, 1) := by decide +kernel
theorem dX6_sideAt_9 : decode cX6_sideAt 9 = .ok (.getfield 25, 3) := by decide +kernel
theorem dX6_sideAt_12 : decode cX6_sideAt 12 = .ok (.iload_n 2, 1) := by decide +kernel
theorem dX6_sideAt_13 : decode cX6_sideAt 13 = .ok (.baload, 1) := by decide +kernel
theorem dX6_sideAt_14 : decode cX6_sideAt 14 = .ok (.ifCond .eq 14, 3) := by decide +kernel
theorem dX6_sideAt_17 : decode cX6_sideAt 17 = .ok (.aload_n 0, 1) := by decide +kernel
theorem dX6_sideAt_18 : decode cX6_sideAt 18 = .ok (.iload_n 2, 1) := by decide +kernel
theorem dX6_sideAt_19 : decode cX6_sideAt 19 = .ok (.invokevirtual 59, 3) := by decide +kernel
theorem dX6_sideAt_22 : decode cX6_sideAt 22 = .ok (.iload_n 1, 1) := by decide +kernel
theorem dX6_sideAt_23 : decode cX6_sideAt 23 = .ok (.if_icmp .ne 5, 3) := by decide +kernel
theorem dX6_sideAt_26 : decode cX6_sideAt 26 = .ok (.iload_n 2, 1) := by decide +kernel
theorem dX6_sideAt_27 : decode cX6_sideAt 27 = .ok (.ireturn, 1) := by decide +kernel
theorem dX6_sideAt_28 : decode cX6_sideAt 28 = .ok (.iinc 2 1, 3) := by decide +kernel
theorem dX6_sideAt_31 : decode cX6_sideAt 31 = .ok (.goto (-29), 3) := by decide +kernel
theorem dX6_sideAt_34 : decode cX6_sideAt 34 = .ok (.bipush (-6), 2) := by decide +kernel
theorem dX6_sideAt_36 : decode cX6_sideAt 36 = .ok (.ireturn, 1) := by decide +kernel
set_option maxRecDepth 20000 in
theorem ggX6_isDown_X6_placeOf : GoodIn wsX6_isDown wsX6_placeOf := goodIn_r _ [7, 8, 9, 10, 11, 6, 12, 13, 14, 15, 16, 17, 18, 19, 20] (by decide +kernel) (by decide +kernel)
set_option maxRecDepth 20000 in
theorem gX6_isDown_X6_placeOf : GoodIn wsX6_isDown (wsV RX6 59 RX6 yX6_placeOf wsX6_placeOf) := goodIn_app (goodIn_of _ (by decide +kernel)) ggX6_isDown_X6_placeOf
theorem dX6_isDown_0 : decode cX6_isDown 0 = .ok (.aload_n 0, 1) := by decide +kernel
theorem dX6_isDown_1 : decode cX6_isDown 1 = .ok (.iload_n 1, 1) := by decide +kernel
theorem dX6_isDown_2 : decode cX6_isDown 2 = .ok (.invokevirtual 59, 3) := by decide +kernel
theorem dX6_isDown_5 : decode cX6_isDown 5 = .ok (.aload_n 0, 1) := by decide +kernel
theorem dX6_isDown_6 : decode cX6_isDown 6 = .ok (.getfield 48, 3) := by decide +kernel
theorem dX6_isDown_9 : decode cX6_isDown 9 = .ok (.aload_n 0, 1) := by decide +kernel
theorem dX6_isDown_10 : decode cX6_isDown 10 = .ok (.getfield 9, 3) := by decide +kernel
theorem dX6_isDown_13 : decode cX6_isDown 13 = .ok (.isub, 1) := by decide +kernel
theorem dX6_isDown_14 : decode cX6_isDown 14 = .ok (.if_icmp .lt 7, 3) := by decide +kernel
theorem dX6_isDown_17 : decode cX6_isDown 17 = .ok (.iconst 1, 1) := by decide +kernel
theorem dX6_isDown_18 : decode cX6_isDown 18 = .ok (.goto 4, 3) := by decide +kernel
theorem dX6_isDown_21 : decode cX6_isDown 21 = .ok (.iconst 0, 1) := by decide +kernel
theorem dX6_isDown_22 : decode cX6_isDown 22 = .ok (.ireturn, 1) := by decide +kernel
set_option maxRecDepth 20000 in
theorem ggX6_takingToGoDown_X6_isDown : GoodIn wsX6_takingToGoDown wsX6_isDown := goodIn_r _ [6, 7, 8, 9, 10, 11, 5, 12, 13, 14, 15, 16, 17, 1, 18, 19, 20, 21, 22, 23, 24] (by decide +kernel) (by decide +kernel)
set_option maxRecDepth 20000 in
theorem gX6_takingToGoDown_X6_isDown : GoodIn wsX6_takingToGoDown (wsV RX6 63 RX6 yX6_isDown wsX6_isDown) := goodIn_app (goodIn_of _ (by decide +kernel)) ggX6_takingToGoDown_X6_isDown
theorem dX6_takingToGoDown_0 : decode cX6_takingToGoDown 0 = .ok (.aload_n 0, 1) := by decide +kernel
theorem dX6_takingToGoDown_1 : decode cX6_takingToGoDown 1 = .ok (.getfield 19, 3) := by decide +kernel
theorem dX6_takingToGoDown_4 : decode cX6_takingToGoDown 4 = .ok (.iload_n 1, 1) := by decide +kernel
theorem dX6_takingToGoDown_5 : decode cX6_takingToGoDown 5 = .ok (.iaload, 1) := by decide +kernel
theorem dX6_takingToGoDown_6 : decode cX6_takingToGoDown 6 = .ok (.istore_n 2, 1) := by decide +kernel
theorem dX6_takingToGoDown_7 : decode cX6_takingToGoDown 7 = .ok (.bipush (-6), 2) := by decide +kernel
theorem dX6_takingToGoDown_9 : decode cX6_takingToGoDown 9 = .ok (.istore_n 3, 1) := by decide +kernel
theorem dX6_takingToGoDown_10 : decode cX6_takingToGoDown 10 = .ok (.iconst 0, 1) := by decide +kernel
theorem dX6_takingToGoDown_11 : decode cX6_takingToGoDown 11 = .ok (.istore 4, 2) := by decide +kernel
theorem dX6_takingToGoDown_13 : decode cX6_takingToGoDown 13 = .ok (.iload 4, 2) := by decide +kernel
theorem dX6_takingToGoDown_15 : decode cX6_takingToGoDown 15 = .ok (.sipush 200, 3) := by decide +kernel
theorem dX6_takingToGoDown_18 : decode cX6_takingToGoDown 18 = .ok (.if_icmp .gt 36, 3) := by decide +kernel
theorem dX6_takingToGoDown_21 : decode cX6_takingToGoDown 21 = .ok (.iload_n 3, 1) := by decide +kernel
theorem dX6_takingToGoDown_22 : decode cX6_takingToGoDown 22 = .ok (.bipush (-6), 2) := by decide +kernel
theorem dX6_takingToGoDown_24 : decode cX6_takingToGoDown 24 = .ok (.if_icmp .ne 30, 3) := by decide +kernel
theorem dX6_takingToGoDown_27 : decode cX6_takingToGoDown 27 = .ok (.aload_n 0, 1) := by decide +kernel
theorem dX6_takingToGoDown_28 : decode cX6_takingToGoDown 28 = .ok (.getfield 19, 3) := by decide +kernel
theorem dX6_takingToGoDown_31 : decode cX6_takingToGoDown 31 = .ok (.iload_n 1, 1) := by decide +kernel
theorem dX6_takingToGoDown_32 : decode cX6_takingToGoDown 32 = .ok (.iload_n 2, 1) := by decide +kernel
theorem dX6_takingToGoDown_33 : decode cX6_takingToGoDown 33 = .ok (.iload 4, 2) := by decide +kernel
theorem dX6_takingToGoDown_35 : decode cX6_takingToGoDown 35 = .ok (.isub, 1) := by decide +kernel
theorem dX6_takingToGoDown_36 : decode cX6_takingToGoDown 36 = .ok (.iastore, 1) := by decide +kernel
theorem dX6_takingToGoDown_37 : decode cX6_takingToGoDown 37 = .ok (.aload_n 0, 1) := by decide +kernel
theorem dX6_takingToGoDown_38 : decode cX6_takingToGoDown 38 = .ok (.iload_n 1, 1) := by decide +kernel
theorem dX6_takingToGoDown_39 : decode cX6_takingToGoDown 39 = .ok (.invokevirtual 63, 3) := by decide +kernel
theorem dX6_takingToGoDown_42 : decode cX6_takingToGoDown 42 = .ok (.ifCond .eq 6, 3) := by decide +kernel
theorem dX6_takingToGoDown_45 : decode cX6_takingToGoDown 45 = .ok (.iload 4, 2) := by decide +kernel
theorem dX6_takingToGoDown_47 : decode cX6_takingToGoDown 47 = .ok (.istore_n 3, 1) := by decide +kernel
theorem dX6_takingToGoDown_48 : decode cX6_takingToGoDown 48 = .ok (.iinc 4 1, 3) := by decide +kernel
theorem dX6_takingToGoDown_51 : decode cX6_takingToGoDown 51 = .ok (.goto (-38), 3) := by decide +kernel
theorem dX6_takingToGoDown_54 : decode cX6_takingToGoDown 54 = .ok (.aload_n 0, 1) := by decide +kernel
theorem dX6_takingToGoDown_55 : decode cX6_takingToGoDown 55 = .ok (.getfield 19, 3) := by decide +kernel
theorem dX6_takingToGoDown_58 : decode cX6_takingToGoDown 58 = .ok (.iload_n 1, 1) := by decide +kernel
theorem dX6_takingToGoDown_59 : decode cX6_takingToGoDown 59 = .ok (.iload_n 2, 1) := by decide +kernel
theorem dX6_takingToGoDown_60 : decode cX6_takingToGoDown 60 = .ok (.iastore, 1) := by decide +kernel
theorem dX6_takingToGoDown_61 : decode cX6_takingToGoDown 61 = .ok (.iload_n 3, 1) := by decide +kernel
theorem dX6_takingToGoDown_62 : decode cX6_takingToGoDown 62 = .ok (.ireturn, 1) := by decide +kernel
theorem dX7_init_0 : decode cX7_init 0 = .ok (.aload_n 0, 1) := by decide +kernel
theorem dX7_init_1 : decode cX7_init 1 = .ok (.invokespecial 3, 3) := by decide +kernel
theorem dX7_init_4 : decode cX7_init 4 = .ok (.aload_n 0, 1) := by decide +kernel
theorem dX7_init_5 : decode cX7_init 5 = .ok (.bipush 30, 2) := by decide +kernel
theorem dX7_init_7 : decode cX7_init 7 = .ok (.newarray .int, 2) := by decide +kernel
theorem dX7_init_9 : decode cX7_init 9 = .ok (.putfield 9, 3) := by decide +kernel
theorem dX7_init_12 : decode cX7_init 12 = .ok (.aload_n 0, 1) := by decide +kernel
theorem dX7_init_13 : decode cX7_init 13 = .ok (.bipush 30, 2) := by decide +kernel
theorem dX7_init_15 : decode cX7_init 15 = .ok (.newarray .int, 2) := by decide +kernel
theorem dX7_init_17 : decode cX7_init 17 = .ok (.putfield 15, 3) := by decide +kernel
theorem dX7_init_20 : decode cX7_init 20 = .ok (.aload_n 0, 1) := by decide +kernel
theorem dX7_init_21 : decode cX7_init 21 = .ok (.bipush 30, 2) := by decide +kernel
theorem dX7_init_23 : decode cX7_init 23 = .ok (.newarray .int, 2) := by decide +kernel
theorem dX7_init_25 : decode cX7_init 25 = .ok (.putfield 18, 3) := by decide +kernel
theorem dX7_init_28 : decode cX7_init 28 = .ok (.aload_n 0, 1) := by decide +kernel
theorem dX7_init_29 : decode cX7_init 29 = .ok (.bipush 10, 2) := by decide +kernel
theorem dX7_init_31 : decode cX7_init 31 = .ok (.newarray .int, 2) := by decide +kernel
theorem dX7_init_33 : decode cX7_init 33 = .ok (.putfield 21, 3) := by decide +kernel
theorem dX7_init_36 : decode cX7_init 36 = .ok (.aload_n 0, 1) := by decide +kernel
theorem dX7_init_37 : decode cX7_init 37 = .ok (.bipush 10, 2) := by decide +kernel
theorem dX7_init_39 : decode cX7_init 39 = .ok (.newarray .int, 2) := by decide +kernel
theorem dX7_init_41 : decode cX7_init 41 = .ok (.putfield 24, 3) := by decide +kernel
theorem dX7_init_44 : decode cX7_init 44 = .ok (.aload_n 0, 1) := by decide +kernel
theorem dX7_init_45 : decode cX7_init 45 = .ok (.bipush (-6), 2) := by decide +kernel
theorem dX7_init_47 : decode cX7_init 47 = .ok (.putfield 27, 3) := by decide +kernel
theorem dX7_init_50 : decode cX7_init 50 = .ok (.iconst 0, 1) := by decide +kernel
theorem dX7_init_51 : decode cX7_init 51 = .ok (.istore_n 1, 1) := by decide +kernel
theorem dX7_init_52 : decode cX7_init 52 = .ok (.iload_n 1, 1) := by decide +kernel
theorem dX7_init_53 : decode cX7_init 53 = .ok (.bipush 10, 2) := by decide +kernel
theorem dX7_init_55 : decode cX7_init 55 = .ok (.if_icmp .ge 16, 3) := by decide +kernel
theorem dX7_init_58 : decode cX7_init 58 = .ok (.aload_n 0, 1) := by decide +kernel
theorem dX7_init_59 : decode cX7_init 59 = .ok (.getfield 24, 3) := by decide +kernel
theorem dX7_init_62 : decode cX7_init 62 = .ok (.iload_n 1, 1) := by decide +kernel
theorem dX7_init_63 : decode cX7_init 63 = .ok (.iload_n 1, 1) := by decide +kernel
theorem dX7_init_64 : decode cX7_init 64 = .ok (.iastore, 1) := by decide +kernel
theorem dX7_init_65 : decode cX7_init 65 = .ok (.iinc 1 1, 3) := by decide +kernel
theorem dX7_init_68 : decode cX7_init 68 = .ok (.goto (-16), 3) := by decide +kernel
theorem dX7_init_71 : decode cX7_init 71 = .ok (.return_, 1) := by decide +kernel
theorem dX7_add_0 : decode cX7_add 0 = .ok (.aload_n 0, 1) := by decide +kernel
theorem dX7_add_1 : decode cX7_add 1 = .ok (.getfield 31, 3) := by decide +kernel
theorem dX7_add_4 : decode cX7_add 4 = .ok (.istore 4, 2) := by decide +kernel
theorem dX7_add_6 : decode cX7_add 6 = .ok (.iload 4, 2) := by decide +kernel
theorem dX7_add_8 : decode cX7_add 8 = .ok (.ifCond .le 70, 3) := by decide +kernel
theorem dX7_add_11 : decode cX7_add 11 = .ok (.aload_n 0, 1) := by decide +kernel
theorem dX7_add_12 : decode cX7_add 12 = .ok (.getfield 18, 3) := by decide +kernel
theorem dX7_add_15 : decode cX7_add 15 = .ok (.iload 4, 2) := by decide +kernel
theorem dX7_add_17 : decode cX7_add 17 = .ok (.iconst 1, 1) := by decide +kernel
theorem dX7_add_18 : decode cX7_add 18 = .ok (.isub, 1) := by decide +kernel
theorem dX7_add_19 : decode cX7_add 19 = .ok (.iaload, 1) := by decide +kernel
theorem dX7_add_20 : decode cX7_add 20 = .ok (.iload_n 3, 1) := by decide +kernel
theorem dX7_add_21 : decode cX7_add 21 = .ok (.if_icmp .le 57, 3) := by decide +kernel
theorem dX7_add_24 : decode cX7_add 24 = .ok (.aload_n 0, 1) := by decide +kernel
theorem dX7_add_25 : decode cX7_add 25 = .ok (.getfield 9, 3) := by decide +kernel
theorem dX7_add_28 : decode cX7_add 28 = .ok (.iload 4, 2) := by decide +kernel
theorem dX7_add_30 : decode cX7_add 30 = .ok (.aload_n 0, 1) := by decide +kernel
theorem dX7_add_31 : decode cX7_add 31 = .ok (.getfield 9, 3) := by decide +kernel
theorem dX7_add_34 : decode cX7_add 34 = .ok (.iload 4, 2) := by decide +kernel
theorem dX7_add_36 : decode cX7_add 36 = .ok (.iconst 1, 1) := by decide +kernel
theorem dX7_add_37 : decode cX7_add 37 = .ok (.isub, 1) := by decide +kernel
theorem dX7_add_38 : decode cX7_add 38 = .ok (.iaload, 1) := by decide +kernel
theorem dX7_add_39 : decode cX7_add 39 = .ok (.iastore, 1) := by decide +kernel
theorem dX7_add_40 : decode cX7_add 40 = .ok (.aload_n 0, 1) := by decide +kernel
theorem dX7_add_41 : decode cX7_add 41 = .ok (.getfield 15, 3) := by decide +kernel
theorem dX7_add_44 : decode cX7_add 44 = .ok (.iload 4, 2) := by decide +kernel
theorem dX7_add_46 : decode cX7_add 46 = .ok (.aload_n 0, 1) := by decide +kernel
theorem dX7_add_47 : decode cX7_add 47 = .ok (.getfield 15, 3) := by decide +kernel
theorem dX7_add_50 : decode cX7_add 50 = .ok (.iload 4, 2) := by decide +kernel
theorem dX7_add_52 : decode cX7_add 52 = .ok (.iconst 1, 1) := by decide +kernel
theorem dX7_add_53 : decode cX7_add 53 = .ok (.isub, 1) := by decide +kernel
theorem dX7_add_54 : decode cX7_add 54 = .ok (.iaload, 1) := by decide +kernel
theorem dX7_add_55 : decode cX7_add 55 = .ok (.iastore, 1) := by decide +kernel
theorem dX7_add_56 : decode cX7_add 56 = .ok (.aload_n 0, 1) := by decide +kernel
theorem dX7_add_57 : decode cX7_add 57 = .ok (.getfield 18, 3) := by decide +kernel
theorem dX7_add_60 : decode cX7_add 60 = .ok (.iload 4, 2) := by decide +kernel
theorem dX7_add_62 : decode cX7_add 62 = .ok (.aload_n 0, 1) := by decide +kernel
theorem dX7_add_63 : decode cX7_add 63 = .ok (.getfield 18, 3) := by decide +kernel
theorem dX7_add_66 : decode cX7_add 66 = .ok (.iload 4, 2) := by decide +kernel
theorem dX7_add_68 : decode cX7_add 68 = .ok (.iconst 1, 1) := by decide +kernel
theorem dX7_add_69 : decode cX7_add 69 = .ok (.isub, 1) := by decide +kernel
theorem dX7_add_70 : decode cX7_add 70 = .ok (.iaload, 1) := by decide +kernel
theorem dX7_add_71 : decode cX7_add 71 = .ok (.iastore, 1) := by decide +kernel
theorem dX7_add_72 : decode cX7_add 72 = .ok (.iinc 4 (-1), 3) := by decide +kernel
theorem dX7_add_75 : decode cX7_add 75 = .ok (.goto (-69), 3) := by decide +kernel
theorem dX7_add_78 : decode cX7_add 78 = .ok (.aload_n 0, 1) := by decide +kernel
theorem dX7_add_79 : decode cX7_add 79 = .ok (.getfield 9, 3) := by decide +kernel
theorem dX7_add_82 : decode cX7_add 82 = .ok (.iload 4, 2) := by decide +kernel
theorem dX7_add_84 : decode cX7_add 84 = .ok (.iload_n 1, 1) := by decide +kernel
theorem dX7_add_85 : decode cX7_add 85 = .ok (.iastore, 1) := by decide +kernel
theorem dX7_add_86 : decode cX7_add 86 = .ok (.aload_n 0, 1) := by decide +kernel
theorem dX7_add_87 : decode cX7_add 87 = .ok (.getfield 15, 3) := by decide +kernel
theorem dX7_add_90 : decode cX7_add 90 = .ok (.iload 4, 2) := by decide +kernel
theorem dX7_add_92 : decode cX7_add 92 = .ok (.iload_n 2, 1) := by decide +kernel
theorem dX7_add_93 : decode cX7_add 93 = .ok (.iastore, 1) := by decide +kernel
theorem dX7_add_94 : decode cX7_add 94 = .ok (.aload_n 0, 1) := by decide +kernel
theorem dX7_add_95 : decode cX7_add 95 = .ok (.getfield 18, 3) := by decide +kernel
theorem dX7_add_98 : decode cX7_add 98 = .ok (.iload 4, 2) := by decide +kernel
theorem dX7_add_100 : decode cX7_add 100 = .ok (.iload_n 3, 1) := by decide +kernel
theorem dX7_add_101 : decode cX7_add 101 = .ok (.iastore, 1) := by decide +kernel
theorem dX7_add_102 : decode cX7_add 102 = .ok (.aload_n 0, 1) := by decide +kernel
theorem dX7_add_103 : decode cX7_add 103 = .ok (.dup, 1) := by decide +kernel
theorem dX7_add_104 : decode cX7_add 104 = .ok (.getfield 31, 3) := by decide +kernel
theorem dX7_add_107 : decode cX7_add 107 = .ok (.iconst 1, 1) := by decide +kernel
theorem dX7_add_108 : decode cX7_add 108 = .ok (.iadd, 1) := by decide +kernel
theorem dX7_add_109 : decode cX7_add 109 = .ok (.putfield 31, 3) := by decide +kernel
theorem dX7_add_112 : decode cX7_add 112 = .ok (.aload_n 0, 1) := by decide +kernel
theorem dX7_add_113 : decode cX7_add 113 = .ok (.getfield 31, 3) := by decide +kernel
theorem dX7_add_116 : decode cX7_add 116 = .ok (.ireturn, 1) := by decide +kernel
set_option maxRecDepth 20000 in
theorem ggX7_spread_J7_fill_53178 : GoodIn wsX7_spread wsJ7_fill_53178 := goodIn_r _ [9] (by decide +kernel) (by decide +kernel)
set_option maxRecDepth 20000 in
theorem gX7_spread_J7_fill_53178 : GoodIn wsX7_spread (va_wsS RX7 34 yJ7_fill_53178 wsJ7_fill_53178) := goodIn_app (goodIn_of _ (by decide +kernel)) ggX7_spread_J7_fill_53178
set_option maxRecDepth 20000 in
theorem ggX7_spread_X7_tell : GoodIn wsX7_spread wsX7_tell := goodIn_r _ [14, 1, 15, 16, 17, 18, 19, 20, 21, 22] (by decide +kernel) (by decide +kernel)
set_option maxRecDepth 20000 in
theorem gX7_spread_X7_tell : GoodIn wsX7_spread (wsV RX7 40 RX7 yX7_tell wsX7_tell) := goodIn_app (goodIn_of _ (by decide +kernel)) ggX7_spread_X7_tell
theorem dX7_spread_0 : decode cX7_spread 0 = .ok (.aload_n 0, 1) := by decide +kernel
theorem dX7_spread_1 : decode cX7_spread 1 = .ok (.getfield 21, 3) := by decide +kernel
theorem dX7_spread_4 : decode cX7_spread 4 = .ok (.bipush (-6), 2) := by decide +kernel
theorem dX7_spread_6 : decode cX7_spread 6 = .ok (.invokestatic 34, 3) := by decide +kernel
theorem dX7_spread_9 : decode cX7_spread 9 = .ok (.aload_n 0, 1) := by decide +kernel
theorem dX7_spread_10 : decode cX7_spread 10 = .ok (.getfield 21, 3) := by decide +kernel
theorem dX7_spread_13 : decode cX7_spread 13 = .ok (.iload_n 1, 1) := by decide +kernel
theorem dX7_spread_14 : decode cX7_spread 14 = .ok (.iload_n 2, 1) := by decide +kernel
theorem dX7_spread_15 : decode cX7_spread 15 = .ok (.iastore, 1) := by decide +kernel
theorem dX7_spread_16 : decode cX7_spread 16 = .ok (.iconst 0, 1) := by decide +kernel
theorem dX7_spread_17 : decode cX7_spread 17 = .ok (.istore_n 3, 1) := by decide +kernel
theorem dX7_spread_18 : decode cX7_spread 18 = .ok (.iload_n 3, 1) := by decide +kernel
theorem dX7_spread_19 : decode cX7_spread 19 = .ok (.aload_n 0, 1) := by decide +kernel
theorem dX7_spread_20 : decode cX7_spread 20 = .ok (.getfield 31, 3) := by decide +kernel
theorem dX7_spread_23 : decode cX7_spread 23 = .ok (.if_icmp .ge 63, 3) := by decide +kernel
theorem dX7_spread_26 : decode cX7_spread 26 = .ok (.aload_n 0, 1) := by decide +kernel
theorem dX7_spread_27 : decode cX7_spread 27 = .ok (.getfield 18, 3) := by decide +kernel
theorem dX7_spread_30 : decode cX7_spread 30 = .ok (.iload_n 3, 1) := by decide +kernel
theorem dX7_spread_31 : decode cX7_spread 31 = .ok (.iaload, 1) := by decide +kernel
theorem dX7_spread_32 : decode cX7_spread 32 = .ok (.iload_n 2, 1) := by decide +kernel
theorem dX7_spread_33 : decode cX7_spread 33 = .ok (.if_icmp .lt 47, 3) := by decide +kernel
theorem dX7_spread_36 : decode cX7_spread 36 = .ok (.aload_n 0, 1) := by decide +kernel
theorem dX7_spread_37 : decode cX7_spread 37 = .ok (.aload_n 0, 1) := by decide +kernel
theorem dX7_spread_38 : decode cX7_spread 38 = .ok (.getfield 9, 3) := by decide +kernel
theorem dX7_spread_41 : decode cX7_spread 41 = .ok (.iload_n 3, 1) := by decide +kernel
theorem dX7_spread_42 : decode cX7_spread 42 = .ok (.iaload, 1) := by decide +kernel
theorem dX7_spread_43 : decode cX7_spread 43 = .ok (.aload_n 0, 1) := by decide +kernel
theorem dX7_spread_44 : decode cX7_spread 44 = .ok (.getfield 15, 3) := by decide +kernel
theorem dX7_spread_47 : decode cX7_spread 47 = .ok (.iload_n 3, 1) := by decide +kernel
theorem dX7_spread_48 : decode cX7_spread 48 = .ok (.iaload, 1) := by decide +kernel
theorem dX7_spread_49 : decode cX7_spread 49 = .ok (.aload_n 0, 1) := by decide +kernel
theorem dX7_spread_50 : decode cX7_spread 50 = .ok (.getfield 18, 3) := by decide +kernel
theorem dX7_spread_53 : decode cX7_spread 53 = .ok (.iload_n 3, 1) := by decide +kernel
theorem dX7_spread_54 : decode cX7_spread 54 = .ok (.iaload, 1) := by decide +kernel
theorem dX7_spread_55 : decode cX7_spread 55 = .ok (.invokevirtual 40, 3) := by decide +kernel
theorem dX7_spread_58 : decode cX7_spread 58 = .ok (.aload_n 0, 1) := by decide +kernel
theorem dX7_spread_59 : decode cX7_spread 59 = .ok (.aload_n 0, 1) := by decide +kernel
theorem dX7_spread_60 : decode cX7_spread 60 = .ok (.getfield 15, 3) := by decide +kernel
theorem dX7_spread_63 : decode cX7_spread 63 = .ok (.iload_n 3, 1) := by decide +kernel
theorem dX7_spread_64 : decode cX7_spread 64 = .ok (.iaload, 1) := by decide +kernel
theorem dX7_spread_65 : decode cX7_spread 65 = .ok (.aload_n 0, 1) := by decide +kernel
theorem dX7_spread_66 : decode cX7_spread 66 = .ok (.getfield 9, 3) := by decide +kernel
theorem dX7_spread_69 : decode cX7_spread 69 = .ok (.iload_n 3, 1) := by decide +kernel
theorem dX7_spread_70 : decode cX7_spread 70 = .ok (.iaload, 1) := by decide +kernel
theorem dX7_spread_71 : decode cX7_spread 71 = .ok (.aload_n 0, 1) := by decide +kernel
theorem dX7_spread_72 : decode cX7_spread 72 = .ok (.getfield 18, 3) := by decide +kernel
theorem dX7_spread_75 : decode cX7_spread 75 = .ok (.iload_n 3, 1) := by decide +kernel
theorem dX7_spread_76 : decode cX7_spread 76 = .ok (.iaload, 1) := by decide +kernel
theorem dX7_spread_77 : decode cX7_spread 77 = .ok (.invokevirtual 40, 3) := by decide +kernel
theorem dX7_spread_80 : decode cX7_spread 80 = .ok (.iinc 3 1, 3) := by decide +kernel
theorem dX7_spread_83 : decode cX7_spread 83 = .ok (.goto (-65), 3) := by decide +kernel
theorem dX7_spread_86 : decode cX7_spread 86 = .ok (.return_, 1) := by decide +kernel
theorem dX7_tell_0 : decode cX7_tell 0 = .ok (.aload_n 0, 1) := by decide +kernel
theorem dX7_tell_1 : decode cX7_tell 1 = .ok (.getfield 21, 3) := by decide +kernel
theorem dX7_tell_4 : decode cX7_tell 4 = .ok (.iload_n 1, 1) := by decide +kernel
theorem dX7_tell_5 : decode cX7_tell 5 = .ok (.iaload, 1) := by decide +kernel
theorem dX7_tell_6 : decode cX7_tell 6 = .ok (.bipush (-6), 2) := by decide +kernel
theorem dX7_tell_8 : decode cX7_tell 8 = .ok (.if_icmp .eq 21, 3) := by decide +kernel
theorem dX7_tell_11 : decode cX7_tell 11 = .ok (.aload_n 0, 1) := by decide +kernel
theorem dX7_tell_12 : decode cX7_tell 12 = .ok (.getfield 21, 3) := by decide +kernel
theorem dX7_tell_15 : decode cX7_tell 15 = .ok (.iload_n 2, 1) := by decide +kernel
theorem dX7_tell_16 : decode cX7_tell 16 = .ok (.iaload, 1) := by decide +kernel
theorem dX7_tell_17 : decode cX7_tell 17 = .ok (.bipush (-6), 2) := by decide +kernel
theorem dX7_tell_19 : decode cX7_tell 19 = .ok (.if_icmp .ne 10, 3) := by decide +kernel
theorem dX7_tell_22 : decode cX7_tell 22 = .ok (.aload_n 0, 1) := by decide +kernel
theorem dX7_tell_23 : decode cX7_tell 23 = .ok (.getfield 21, 3) := by decide +kernel
theorem dX7_tell_26 : decode cX7_tell 26 = .ok (.iload_n 2, 1) := by decide +kernel
theorem dX7_tell_27 : decode cX7_tell 27 = .ok (.iload_n 3, 1) := by decide +kernel
theorem dX7_tell_28 : decode cX7_tell 28 = .ok (.iastore, 1) := by decide +kernel
theorem dX7_tell_29 : decode cX7_tell 29 = .ok (.return_, 1) := by decide +kernel
set_option maxRecDepth 20000 in
theorem ggX7_countExplained_X7_spread : GoodIn wsX7_countExplained wsX7_spread := goodIn_r _ [9, 3, 10, 11, 12, 13, 14, 15, 16, 17, 18, 19, 20, 8, 21, 22, 23, 24, 25, 26, 27, 28, 29] (by decide +kernel) (by decide +kernel)
set_option maxRecDepth 20000 in
theorem gX7_countExplained_X7_spread : GoodIn wsX7_countExplained (wsV RX7 47 RX7 yX7_spread wsX7_spread) := goodIn_app (goodIn_of _ (by decide +kernel)) ggX7_countExplained_X7_spread
theorem dX7_countExplained_0 : decode cX7_countExplained 0 = .ok (.aload_n 0, 1) := by decide +kernel
theorem dX7_countExplained_1 : decode cX7_countExplained 1 = .ok (.getfield 27, 3) := by decide +kernel
theorem dX7_countExplained_4 : decode cX7_countExplained 4 = .ok (.bipush (-6), 2) := by decide +kernel
theorem dX7_countExplained_6 : decode cX7_countExplained 6 = .ok (.if_icmp .ne 5, 3) := by decide +kernel
theorem dX7_countExplained_9 : decode cX7_countExplained 9 = .ok (.iconst 0, 1) := by decide +kernel
theorem dX7_countExplained_10 : decode cX7_countExplained 10 = .ok (.ireturn, 1) := by decide +kernel
theorem dX7_countExplained_11 : decode cX7_countExplained 11 = .ok (.aload_n 0, 1) := by decide +kernel
theorem dX7_countExplained_12 : decode cX7_countExplained 12 = .ok (.aload_n 0, 1) := by decide +kernel
theorem dX7_countExplained_13 : decode cX7_countExplained 13 = .ok (.getfield 27, 3) := by decide +kernel
theorem dX7_countExplained_16 : decode cX7_countExplained 16 = .ok (.aload_n 0, 1) := by decide +kernel
theorem dX7_countExplained_17 : decode cX7_countExplained 17 = .ok (.getfield 44, 3) := by decide +kernel
theorem dX7_countExplained_20 : decode cX7_countExplained 20 = .ok (.invokevirtual 47, 3) := by decide +kernel
theorem dX7_countExplained_23 : decode cX7_countExplained 23 = .ok (.iconst 0, 1) := by decide +kernel
theorem dX7_countExplained_24 : decode cX7_countExplained 24 = .ok (.istore 4, 2) := by decide +kernel
theorem dX7_countExplained_26 : decode cX7_countExplained 26 = .ok (.iconst 0, 1) := by decide +kernel
theorem dX7_countExplained_27 : decode cX7_countExplained 27 = .ok (.istore 5, 2) := by decide +kernel
theorem dX7_countExplained_29 : decode cX7_countExplained 29 = .ok (.iload 5, 2) := by decide +kernel
theorem dX7_countExplained_31 : decode cX7_countExplained 31 = .ok (.aload_n 3, 1) := by decide +kernel
theorem dX7_countExplained_32 : decode cX7_countExplained 32 = .ok (.getfield 51, 3) := by decide +kernel
theorem dX7_countExplained_35 : decode cX7_countExplained 35 = .ok (.if_icmp .ge 70, 3) := by decide +kernel
theorem dX7_countExplained_38 : decode cX7_countExplained 38 = .ok (.aload_n 0, 1) := by decide +kernel
theorem dX7_countExplained_39 : decode cX7_countExplained 39 = .ok (.getfield 21, 3) := by decide +kernel
theorem dX7_countExplained_42 : decode cX7_countExplained 42 = .ok (.aload_n 0, 1) := by decide +kernel
theorem dX7_countExplained_43 : decode cX7_countExplained 43 = .ok (.getfield 24, 3) := by decide +kernel
theorem dX7_countExplained_46 : decode cX7_countExplained 46 = .ok (.aload_n 3, 1) := by decide +kernel
theorem dX7_countExplained_47 : decode cX7_countExplained 47 = .ok (.getfield 54, 3) := by decide +kernel
theorem dX7_countExplained_50 : decode cX7_countExplained 50 = .ok (.iload 5, 2) := by decide +kernel
theorem dX7_countExplained_52 : decode cX7_countExplained 52 = .ok (.iaload, 1) := by decide +kernel
theorem dX7_countExplained_53 : decode cX7_countExplained 53 = .ok (.iaload, 1) := by decide +kernel
theorem dX7_countExplained_54 : decode cX7_countExplained 54 = .ok (.iaload, 1) := by decide +kernel
theorem dX7_countExplained_55 : decode cX7_countExplained 55 = .ok (.istore 6, 2) := by decide +kernel
theorem dX7_countExplained_57 : decode cX7_countExplained 57 = .ok (.iload_n 2, 1) := by decide +kernel
theorem dX7_countExplained_58 : decode cX7_countExplained 58 = .ok (.aload_n 3, 1) := by decide +kernel
theorem dX7_countExplained_59 : decode cX7_countExplained 59 = .ok (.getfield 57, 3) := by decide +kernel
theorem dX7_countExplained_62 : decode cX7_countExplained 62 = .ok (.iload 5, 2) := by decide +kernel
theorem dX7_countExplained_64 : decode cX7_countExplained 64 = .ok (.iaload, 1) := by decide +kernel
theorem dX7_countExplained_65 : decode cX7_countExplained 65 = .ok (.bipush 60, 2) := by decide +kernel
theorem dX7_countExplained_67 : decode cX7_countExplained 67 = .ok (.idiv, 1) := by decide +kernel
theorem dX7_countExplained_68 : decode cX7_countExplained 68 = .ok (.iadd, 1) := by decide +kernel
theorem dX7_countExplained_69 : decode cX7_countExplained 69 = .ok (.istore 7, 2) := by decide +kernel
theorem dX7_countExplained_71 : decode cX7_countExplained 71 = .ok (.aload_n 3, 1) := by decide +kernel
theorem dX7_countExplained_72 : decode cX7_countExplained 72 = .ok (.getfield 60, 3) := by decide +kernel
theorem dX7_countExplained_75 : decode cX7_countExplained 75 = .ok (.iload 5, 2) := by decide +kernel
theorem dX7_countExplained_77 : decode cX7_countExplained 77 = .ok (.iaload, 1) := by decide +kernel
theorem dX7_countExplained_78 : decode cX7_countExplained 78 = .ok (.iload_n 1, 1) := by decide +kernel
theorem dX7_countExplained_79 : decode cX7_countExplained 79 = .ok (.if_icmp .ne 20, 3) := by decide +kernel
theorem dX7_countExplained_82 : decode cX7_countExplained 82 = .ok (.iload 6, 2) := by decide +kernel
theorem dX7_countExplained_84 : decode cX7_countExplained 84 = .ok (.bipush (-6), 2) := by decide +kernel
theorem dX7_countExplained_86 : decode cX7_countExplained 86 = .ok (.if_icmp .eq 13, 3) := by decide +kernel
theorem dX7_countExplained_89 : decode cX7_countExplained 89 = .ok (.iload 6, 2) := by decide +kernel
theorem dX7_countExplained_91 : decode cX7_countExplained 91 = .ok (.iload 7, 2) := by decide +kernel
theorem dX7_countExplained_93 : decode cX7_countExplained 93 = .ok (.if_icmp .gt 6, 3) := by decide +kernel
theorem dX7_countExplained_96 : decode cX7_countExplained 96 = .ok (.iinc 4 1, 3) := by decide +kernel
theorem dX7_countExplained_99 : decode cX7_countExplained 99 = .ok (.iinc 5 1, 3) := by decide +kernel
theorem dX7_countExplained_102 : decode cX7_countExplained 102 = .ok (.goto (-73), 3) := by decide +kernel
theorem dX7_countExplained_105 : decode cX7_countExplained 105 = .ok (.iload 4, 2) := by decide +kernel
theorem dX7_countExplained_107 : decode cX7_countExplained 107 = .ok (.ireturn, 1) := by decide +kernel
set_option maxRecDepth 20000 in
theorem ggX8_init_X4_init : GoodIn wsX8_init wsX4_init := goodIn_r _ [15, 16, 2, 3, 17, 18, 19, 27, 28, 29] (by decide +kernel) (by decide +kernel)
set_option maxRecDepth 20000 in
theorem gX8_init_X4_init_n29 : GoodIn wsX8_init (wsX4_init) := ggX8_init_X4_init
theorem dX8_init_0 : decode cX8_init 0 = .ok (.aload_n 0, 1) := by decide +kernel
theorem dX8_init_1 : decode cX8_init 1 = .ok (.invokespecial 3, 3) := by decide +kernel
theorem dX8_init_4 : decode cX8_init 4 = .ok (.aload_n 0, 1) := by decide +kernel
theorem dX8_init_5 : decode cX8_init 5 = .ok (.bipush 10, 2) := by decide +kernel
theorem dX8_init_7 : decode cX8_init 7 = .ok (.newarray .int, 2) := by decide +kernel
theorem dX8_init_9 : decode cX8_init 9 = .ok (.putfield 9, 3) := by decide +kernel
theorem dX8_init_12 : decode cX8_init 12 = .ok (.aload_n 0, 1) := by decide +kernel
theorem dX8_init_13 : decode cX8_init 13 = .ok (.bipush 10, 2) := by decide +kernel
theorem dX8_init_15 : decode cX8_init 15 = .ok (.newarray .int, 2) := by decide +kernel
theorem dX8_init_17 : decode cX8_init 17 = .ok (.putfield 15, 3) := by decide +kernel
theorem dX8_init_20 : decode cX8_init 20 = .ok (.aload_n 0, 1) := by decide +kernel
theorem dX8_init_21 : decode cX8_init 21 = .ok (.bipush 10, 2) := by decide +kernel
theorem dX8_init_23 : decode cX8_init 23 = .ok (.newarray .int, 2) := by decide +kernel
theorem dX8_init_25 : decode cX8_init 25 = .ok (.putfield 18, 3) := by decide +kernel
theorem dX8_init_28 : decode cX8_init 28 = .ok (.aload_n 0, 1) := by decide +kernel
