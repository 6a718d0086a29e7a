set_option maxRecDepth 20000 in
theorem ggX11_neededOf_X11_priceOf : GoodIn wsX11_neededOf wsX11_priceOf := goodIn_r _ [11, 12, 13, 14, 15, 16, 17, 18, 19, 20, 21, 22, 23, 24, 25, 26, 27, 28, 29, 30, 31, 32, 33, 34, 35, 36, 37, 38, 39, 40, 41, 42, 43, 44, 45, 46, 47, 48, 49, 50, 51, 52, 53, 54, 55, 56, 57, 58, 59, 60, 61, 62, 63, 64, 65, 66] (by decide +kernel) (by decide +kernel)
set_option maxRecDepth 20000 in
theorem gX11_neededOf_X11_priceOf : GoodIn wsX11_neededOf (wsV RX11 250 RX11 yX11_priceOf wsX11_priceOf) := goodIn_app (goodIn_of _ (by decide +kernel)) ggX11_neededOf_X11_priceOf
theorem dX11_neededOf_0 : decode cX11_neededOf 0 = .ok (.sipush 1023, 3) := by decide +kernel
theorem dX11_neededOf_3 : decode cX11_neededOf 3 = .ok (.istore_n 2, 1) := by decide +kernel
theorem dX11_neededOf_4 : decode cX11_neededOf 4 = .ok (.iconst 0, 1) := by decide +kernel
theorem dX11_neededOf_5 : decode cX11_neededOf 5 = .ok (.istore_n 3, 1) := by decide +kernel
theorem dX11_neededOf_6 : decode cX11_neededOf 6 = .ok (.iload_n 3, 1) := by decide +kernel
theorem dX11_neededOf_7 : decode cX11_neededOf 7 = .ok (.sipush 1024, 3) := by decide +kernel
theorem dX11_neededOf_10 : decode cX11_neededOf 10 = .ok (.if_icmp .ge 140, 3) := by decide +kernel
theorem dX11_neededOf_13 : decode cX11_neededOf 13 = .ok (.iconst 1, 1) := by decide +kernel
theorem dX11_neededOf_14 : decode cX11_neededOf 14 = .ok (.istore 4, 2) := by decide +kernel
theorem dX11_neededOf_16 : decode cX11_neededOf 16 = .ok (.iconst 0, 1) := by decide +kernel
theorem dX11_neededOf_17 : decode cX11_neededOf 17 = .ok (.istore 5, 2) := by decide +kernel
theorem dX11_neededOf_19 : decode cX11_neededOf 19 = .ok (.iload 5, 2) := by decide +kernel
theorem dX11_neededOf_21 : decode cX11_neededOf 21 = .ok (.aload_n 0, 1) := by decide +kernel
theorem dX11_neededOf_22 : decode cX11_neededOf 22 = .ok (.getfield 244, 3) := by decide +kernel
theorem dX11_neededOf_25 : decode cX11_neededOf 25 = .ok (.if_icmp .ge 44, 3) := by decide +kernel
theorem dX11_neededOf_28 : decode cX11_neededOf 28 = .ok (.iload 4, 2) := by decide +kernel
theorem dX11_neededOf_30 : decode cX11_neededOf 30 = .ok (.ifCond .eq 39, 3) := by decide +kernel
theorem dX11_neededOf_33 : decode cX11_neededOf 33 = .ok (.aload_n 0, 1) := by decide +kernel
theorem dX11_neededOf_34 : decode cX11_neededOf 34 = .ok (.getfield 80, 3) := by decide +kernel
theorem dX11_neededOf_37 : decode cX11_neededOf 37 = .ok (.iload 5, 2) := by decide +kernel
theorem dX11_neededOf_39 : decode cX11_neededOf 39 = .ok (.iaload, 1) := by decide +kernel
theorem dX11_neededOf_40 : decode cX11_neededOf 40 = .ok (.iload_n 1, 1) := by decide +kernel
theorem dX11_neededOf_41 : decode cX11_neededOf 41 = .ok (.if_icmp .ne 15, 3) := by decide +kernel
theorem dX11_neededOf_44 : decode cX11_neededOf 44 = .ok (.aload_n 0, 1) := by decide +kernel
theorem dX11_neededOf_45 : decode cX11_neededOf 45 = .ok (.getfield 83, 3) := by decide +kernel
theorem dX11_neededOf_48 : decode cX11_neededOf 48 = .ok (.iload 5, 2) := by decide +kernel
theorem dX11_neededOf_50 : decode cX11_neededOf 50 = .ok (.iaload, 1) := by decide +kernel
theorem dX11_neededOf_51 : decode cX11_neededOf 51 = .ok (.iload_n 3, 1) := by decide +kernel
theorem dX11_neededOf_52 : decode cX11_neededOf 52 = .ok (.iand, 1) := by decide +kernel
theorem dX11_neededOf_53 : decode cX11_neededOf 53 = .ok (.ifCond .eq 7, 3) := by decide +kernel
theorem dX11_neededOf_56 : decode cX11_neededOf 56 = .ok (.iconst 1, 1) := by decide +kernel
theorem dX11_neededOf_57 : decode cX11_neededOf 57 = .ok (.goto 4, 3) := by decide +kernel
theorem dX11_neededOf_60 : decode cX11_neededOf 60 = .ok (.iconst 0, 1) := by decide +kernel
theorem dX11_neededOf_61 : decode cX11_neededOf 61 = .ok (.istore 4, 2) := by decide +kernel
theorem dX11_neededOf_63 : decode cX11_neededOf 63 = .ok (.iinc 5 1, 3) := by decide +kernel
theorem dX11_neededOf_66 : decode cX11_neededOf 66 = .ok (.goto (-47), 3) := by decide +kernel
theorem dX11_neededOf_69 : decode cX11_neededOf 69 = .ok (.iload_n 3, 1) := by decide +kernel
theorem dX11_neededOf_70 : decode cX11_neededOf 70 = .ok (.invokestatic 247, 3) := by decide +kernel
theorem dX11_neededOf_73 : decode cX11_neededOf 73 = .ok (.iload_n 2, 1) := by decide +kernel
theorem dX11_neededOf_74 : decode cX11_neededOf 74 = .ok (.invokestatic 247, 3) := by decide +kernel
theorem dX11_neededOf_77 : decode cX11_neededOf 77 = .ok (.isub, 1) := by decide +kernel
theorem dX11_neededOf_78 : decode cX11_neededOf 78 = .ok (.istore 5, 2) := by decide +kernel
theorem dX11_neededOf_80 : decode cX11_neededOf 80 = .ok (.iload 5, 2) := by decide +kernel
theorem dX11_neededOf_82 : decode cX11_neededOf 82 = .ok (.ifCond .lt 39, 3) := by decide +kernel
theorem dX11_neededOf_85 : decode cX11_neededOf 85 = .ok (.iload 5, 2) := by decide +kernel
theorem dX11_neededOf_87 : decode cX11_neededOf 87 = .ok (.ifCond .ne 38, 3) := by decide +kernel
theorem dX11_neededOf_90 : decode cX11_neededOf 90 = .ok (.aload_n 0, 1) := by decide +kernel
theorem dX11_neededOf_91 : decode cX11_neededOf 91 = .ok (.iload_n 3, 1) := by decide +kernel
theorem dX11_neededOf_92 : decode cX11_neededOf 92 = .ok (.invokevirtual 250, 3) := by decide +kernel
theorem dX11_neededOf_95 : decode cX11_neededOf 95 = .ok (.aload_n 0, 1) := by decide +kernel
theorem dX11_neededOf_96 : decode cX11_neededOf 96 = .ok (.iload_n 2, 1) := by decide +kernel
theorem dX11_neededOf_97 : decode cX11_neededOf 97 = .ok (.invokevirtual 250, 3) := by decide +kernel
theorem dX11_neededOf_100 : decode cX11_neededOf 100 = .ok (.if_icmp .lt 21, 3) := by decide +kernel
theorem dX11_neededOf_103 : decode cX11_neededOf 103 = .ok (.aload_n 0, 1) := by decide +kernel
theorem dX11_neededOf_104 : decode cX11_neededOf 104 = .ok (.iload_n 3, 1) := by decide +kernel
theorem dX11_neededOf_105 : decode cX11_neededOf 105 = .ok (.invokevirtual 250, 3) := by decide +kernel
theorem dX11_neededOf_108 : decode cX11_neededOf 108 = .ok (.aload_n 0, 1) := by decide +kernel
theorem dX11_neededOf_109 : decode cX11_neededOf 109 = .ok (.iload_n 2, 1) := by decide +kernel
theorem dX11_neededOf_110 : decode cX11_neededOf 110 = .ok (.invokevirtual 250, 3) := by decide +kernel
theorem dX11_neededOf_113 : decode cX11_neededOf 113 = .ok (.if_icmp .ne 12, 3) := by decide +kernel
theorem dX11_neededOf_116 : decode cX11_neededOf 116 = .ok (.iload_n 3, 1) := by decide +kernel
theorem dX11_neededOf_117 : decode cX11_neededOf 117 = .ok (.iload_n 2, 1) := by decide +kernel
theorem dX11_neededOf_118 : decode cX11_neededOf 118 = .ok (.if_icmp .ge 7, 3) := by decide +kernel
theorem dX11_neededOf_121 : decode cX11_neededOf 121 = .ok (.iconst 1, 1) := by decide +kernel
theorem dX11_neededOf_122 : decode cX11_neededOf 122 = .ok (.goto 4, 3) := by decide +kernel
theorem dX11_neededOf_125 : decode cX11_neededOf 125 = .ok (.iconst 0, 1) := by decide +kernel
theorem dX11_neededOf_126 : decode cX11_neededOf 126 = .ok (.istore 6, 2) := by decide +kernel
theorem dX11_neededOf_128 : decode cX11_neededOf 128 = .ok (.iload 4, 2) := by decide +kernel
theorem dX11_neededOf_130 : decode cX11_neededOf 130 = .ok (.ifCond .eq 12, 3) := by decide +kernel
theorem dX11_neededOf_133 : decode cX11_neededOf 133 = .ok (.iload 6, 2) := by decide +kernel
theorem dX11_neededOf_135 : decode cX11_neededOf 135 = .ok (.ifCond .eq 7, 3) := by decide +kernel
theorem dX11_neededOf_138 : decode cX11_neededOf 138 = .ok (.iload_n 3, 1) := by decide +kernel
theorem dX11_neededOf_139 : decode cX11_neededOf 139 = .ok (.goto 4, 3) := by decide +kernel
theorem dX11_neededOf_142 : decode cX11_neededOf 142 = .ok (.iload_n 2, 1) := by decide +kernel
theorem dX11_neededOf_143 : decode cX11_neededOf 143 = .ok (.istore_n 2, 1) := by decide +kernel
theorem dX11_neededOf_144 : decode cX11_neededOf 144 = .ok (.iinc 3 1, 3) := by decide +kernel
theorem dX11_neededOf_147 : decode cX11_neededOf 147 = .ok (.goto (-141), 3) := by decide +kernel
theorem dX11_neededOf_150 : decode cX11_neededOf 150 = .ok (.iload_n 2, 1) := by decide +kernel
theorem dX11_neededOf_151 : decode cX11_neededOf 151 = .ok (.ireturn, 1) := by decide +kernel
set_option maxRecDepth 20000 in
theorem ggX11_mustOf_X11_bits : GoodIn wsX11_mustOf wsX11_bits := goodIn_r _ [7] (by decide +kernel) (by decide +kernel)
set_option maxRecDepth 20000 in
theorem gX11_mustOf_X11_bits : GoodIn wsX11_mustOf (va_wsS RX11 247 yX11_bits wsX11_bits) := goodIn_app (goodIn_of _ (by decide +kernel)) ggX11_mustOf_X11_bits
theorem dX11_mustOf_0 : decode cX11_mustOf 0 = .ok (.iconst 0, 1) := by decide +kernel
theorem dX11_mustOf_1 : decode cX11_mustOf 1 = .ok (.istore_n 2, 1) := by decide +kernel
theorem dX11_mustOf_2 : decode cX11_mustOf 2 = .ok (.iconst 0, 1) := by decide +kernel
theorem dX11_mustOf_3 : decode cX11_mustOf 3 = .ok (.istore_n 3, 1) := by decide +kernel
theorem dX11_mustOf_4 : decode cX11_mustOf 4 = .ok (.iload_n 3, 1) := by decide +kernel
theorem dX11_mustOf_5 : decode cX11_mustOf 5 = .ok (.aload_n 0, 1) := by decide +kernel
theorem dX11_mustOf_6 : decode cX11_mustOf 6 = .ok (.getfield 244, 3) := by decide +kernel
theorem dX11_mustOf_9 : decode cX11_mustOf 9 = .ok (.if_icmp .ge 45, 3) := by decide +kernel
theorem dX11_mustOf_12 : decode cX11_mustOf 12 = .ok (.iload_n 2, 1) := by decide +kernel
theorem dX11_mustOf_13 : decode cX11_mustOf 13 = .ok (.aload_n 0, 1) := by decide +kernel
theorem dX11_mustOf_14 : decode cX11_mustOf 14 = .ok (.getfield 80, 3) := by decide +kernel
theorem dX11_mustOf_17 : decode cX11_mustOf 17 = .ok (.iload_n 3, 1) := by decide +kernel
theorem dX11_mustOf_18 : decode cX11_mustOf 18 = .ok (.iaload, 1) := by decide +kernel
theorem dX11_mustOf_19 : decode cX11_mustOf 19 = .ok (.iload_n 1, 1) := by decide +kernel
theorem dX11_mustOf_20 : decode cX11_mustOf 20 = .ok (.if_icmp .ne 25, 3) := by decide +kernel
theorem dX11_mustOf_23 : decode cX11_mustOf 23 = .ok (.aload_n 0, 1) := by decide +kernel
theorem dX11_mustOf_24 : decode cX11_mustOf 24 = .ok (.getfield 83, 3) := by decide +kernel
theorem dX11_mustOf_27 : decode cX11_mustOf 27 = .ok (.iload_n 3, 1) := by decide +kernel
theorem dX11_mustOf_28 : decode cX11_mustOf 28 = .ok (.iaload, 1) := by decide +kernel
theorem dX11_mustOf_29 : decode cX11_mustOf 29 = .ok (.invokestatic 247, 3) := by decide +kernel
theorem dX11_mustOf_32 : decode cX11_mustOf 32 = .ok (.iconst 1, 1) := by decide +kernel
theorem dX11_mustOf_33 : decode cX11_mustOf 33 = .ok (.if_icmp .ne 12, 3) := by decide +kernel
theorem dX11_mustOf_36 : decode cX11_mustOf 36 = .ok (.aload_n 0, 1) := by decide +kernel
theorem dX11_mustOf_37 : decode cX11_mustOf 37 = .ok (.getfield 83, 3) := by decide +kernel
theorem dX11_mustOf_40 : decode cX11_mustOf 40 = .ok (.iload_n 3, 1) := by decide +kernel
theorem dX11_mustOf_41 : decode cX11_mustOf 41 = .ok (.iaload, 1) := by decide +kernel
theorem dX11_mustOf_42 : decode cX11_mustOf 42 = .ok (.goto 4, 3) := by decide +kernel
theorem dX11_mustOf_45 : decode cX11_mustOf 45 = .ok (.iconst 0, 1) := by decide +kernel
theorem dX11_mustOf_46 : decode cX11_mustOf 46 = .ok (.ior, 1) := by decide +kernel
theorem dX11_mustOf_47 : decode cX11_mustOf 47 = .ok (.istore_n 2, 1) := by decide +kernel
theorem dX11_mustOf_48 : decode cX11_mustOf 48 = .ok (.iinc 3 1, 3) := by decide +kernel
theorem dX11_mustOf_51 : decode cX11_mustOf 51 = .ok (.goto (-47), 3) := by decide +kernel
theorem dX11_mustOf_54 : decode cX11_mustOf 54 = .ok (.iload_n 2, 1) := by decide +kernel
theorem dX11_mustOf_55 : decode cX11_mustOf 55 = .ok (.ireturn, 1) := by decide +kernel
set_option maxRecDepth 20000 in
theorem ggX11_needed_X11_isMatch : GoodIn wsX11_needed wsX11_isMatch := goodIn_r _ [5, 6, 7, 8, 4, 9, 29, 30, 31, 32, 33, 34, 35, 36, 37, 38, 39, 40, 41, 42, 43, 44, 45, 46, 47, 48, 49, 50, 51, 52, 53, 54, 55, 56, 57, 58, 59, 60, 61, 62, 63, 64, 65, 66, 67, 68, 69, 70, 71, 72, 73, 74, 75, 76, 77, 78, 79, 80, 81, 82] (by decide +kernel) (by decide +kernel)
set_option maxRecDepth 20000 in
theorem gX11_needed_X11_isMatch : GoodIn wsX11_needed (wsV RX11 153 RX11 yX11_isMatch wsX11_isMatch) := goodIn_app (goodIn_of _ (by decide +kernel)) ggX11_needed_X11_isMatch
set_option maxRecDepth 20000 in
theorem ggX11_needed_X11_in : GoodIn wsX11_needed wsX11_in := goodIn_r _ [9] (by decide +kernel) (by decide +kernel)
set_option maxRecDepth 20000 in
theorem gX11_needed_X11_in : GoodIn wsX11_needed (va_wsS RX11 138 yX11_in wsX11_in) := goodIn_app (goodIn_of _ (by decide +kernel)) ggX11_needed_X11_in
set_option maxRecDepth 20000 in
theorem ggX11_needed_X11_mustOf : GoodIn wsX11_needed wsX11_mustOf := goodIn_r _ [13, 14, 15, 16, 17, 18, 4, 19, 29, 30, 31, 32, 33, 34, 35, 36, 37, 38, 39, 40, 41, 42, 43, 44, 45, 46, 47, 48, 49, 50, 51, 52, 53, 54, 55, 56, 57, 58, 59, 60, 61, 62, 63, 64, 65, 66, 67, 68, 69, 70, 71, 72, 73, 74, 75, 76, 77, 78, 79, 80, 81, 82] (by decide +kernel) (by decide +kernel)
set_option maxRecDepth 20000 in
theorem gX11_needed_X11_mustOf : GoodIn wsX11_needed (wsV RX11 253 RX11 yX11_mustOf wsX11_mustOf) := goodIn_app (goodIn_of _ (by decide +kernel)) ggX11_needed_X11_mustOf
set_option maxRecDepth 20000 in
theorem ggX11_needed_X11_neededOf : GoodIn wsX11_needed wsX11_neededOf := goodIn_r _ [23, 14, 15, 16, 17, 18, 4, 19, 24, 25, 26, 27, 28, 29, 30, 31, 32, 33, 34, 35, 36, 37, 38, 39, 40, 41, 42, 43, 44, 45, 46, 47, 48, 49, 50, 51, 52, 53, 54, 55, 56, 57, 58, 59, 60, 61, 62, 63, 64, 65, 66, 67, 68, 69, 70, 71, 72, 73, 74, 75, 76, 77, 78, 79, 80, 81, 82] (by decide +kernel) (by decide +kernel)
set_option maxRecDepth 20000 in
theorem gX11_needed_X11_neededOf : GoodIn wsX11_needed (wsV RX11 256 RX11 yX11_neededOf wsX11_neededOf) := goodIn_app (goodIn_of _ (by decide +kernel)) ggX11_needed_X11_neededOf
set_option maxRecDepth 20000 in
theorem ggX11_needed_X11_priceOf : GoodIn wsX11_needed wsX11_priceOf := goodIn_r _ [27, 28, 29, 30, 31, 32, 33, 34, 35, 36, 37, 38, 39, 40, 41, 42, 43, 44, 45, 46, 47, 48, 49, 50, 51, 52, 53, 54, 55, 56, 57, 58, 59, 60, 61, 62, 63, 64, 65, 66, 67, 68, 69, 70, 71, 72, 73, 74, 75, 76, 77, 78, 79, 80, 81, 82] (by decide +kernel) (by decide +kernel)
set_option maxRecDepth 20000 in
theorem gX11_needed_X11_priceOf : GoodIn wsX11_needed (wsV RX11 250 RX11 yX11_priceOf wsX11_priceOf) := goodIn_app (goodIn_of _ (by decide +kernel)) ggX11_needed_X11_priceOf
theorem dX11_needed_0 : decode cX11_needed 0 = .ok (.aload_n 0, 1) := by decide +kernel
theorem dX11_needed_1 : decode cX11_needed 1 = .ok (.iload_n 1, 1) := by decide +kernel
theorem dX11_needed_2 : decode cX11_needed 2 = .ok (.invokevirtual 153, 3) := by decide +kernel
theorem dX11_needed_5 : decode cX11_needed 5 = .ok (.ifCond .ne 5, 3) := by decide +kernel
theorem dX11_needed_8 : decode cX11_needed 8 = .ok (.iconst (-1), 1) := by decide +kernel
theorem dX11_needed_9 : decode cX11_needed 9 = .ok (.ireturn, 1) := by decide +kernel
theorem dX11_needed_10 : decode cX11_needed 10 = .ok (.iload_n 2, 1) := by decide +kernel
theorem dX11_needed_11 : decode cX11_needed 11 = .ok (.iconst 0, 1) := by decide +kernel
theorem dX11_needed_12 : decode cX11_needed 12 = .ok (.iconst 2, 1) := by decide +kernel
theorem dX11_needed_13 : decode cX11_needed 13 = .ok (.invokestatic 138, 3) := by decide +kernel
theorem dX11_needed_16 : decode cX11_needed 16 = .ok (.ifCond .ne 6, 3) := by decide +kernel
theorem dX11_needed_19 : decode cX11_needed 19 = .ok (.bipush (-2), 2) := by decide +kernel
theorem dX11_needed_21 : decode cX11_needed 21 = .ok (.ireturn, 1) := by decide +kernel
theorem dX11_needed_22 : decode cX11_needed 22 = .ok (.iload_n 2, 1) := by decide +kernel
theorem dX11_needed_23 : decode cX11_needed 23 = .ok (.iconst 2, 1) := by decide +kernel
theorem dX11_needed_24 : decode cX11_needed 24 = .ok (.if_icmp .ne 11, 3) := by decide +kernel
theorem dX11_needed_27 : decode cX11_needed 27 = .ok (.aload_n 0, 1) := by decide +kernel
theorem dX11_needed_28 : decode cX11_needed 28 = .ok (.iload_n 1, 1) := by decide +kernel
theorem dX11_needed_29 : decode cX11_needed 29 = .ok (.invokevirtual 253, 3) := by decide +kernel
theorem dX11_needed_32 : decode cX11_needed 32 = .ok (.goto 24, 3) := by decide +kernel
theorem dX11_needed_35 : decode cX11_needed 35 = .ok (.iload_n 2, 1) := by decide +kernel
theorem dX11_needed_36 : decode cX11_needed 36 = .ok (.ifCond .ne 11, 3) := by decide +kernel
theorem dX11_needed_39 : decode cX11_needed 39 = .ok (.aload_n 0, 1) := by decide +kernel
theorem dX11_needed_40 : decode cX11_needed 40 = .ok (.iload_n 1, 1) := by decide +kernel
theorem dX11_needed_41 : decode cX11_needed 41 = .ok (.invokevirtual 256, 3) := by decide +kernel
theorem dX11_needed_44 : decode cX11_needed 44 = .ok (.goto 12, 3) := by decide +kernel
theorem dX11_needed_47 : decode cX11_needed 47 = .ok (.aload_n 0, 1) := by decide +kernel
theorem dX11_needed_48 : decode cX11_needed 48 = .ok (.aload_n 0, 1) := by decide +kernel
theorem dX11_needed_49 : decode cX11_needed 49 = .ok (.iload_n 1, 1) := by decide +kernel
theorem dX11_needed_50 : decode cX11_needed 50 = .ok (.invokevirtual 256, 3) := by decide +kernel
theorem dX11_needed_53 : decode cX11_needed 53 = .ok (.invokevirtual 250, 3) := by decide +kernel
theorem dX11_needed_56 : decode cX11_needed 56 = .ok (.ireturn, 1) := by decide +kernel
set_option maxRecDepth 20000 in
theorem ggX11_layHands_X11_layOnes : GoodIn wsX11_layHands wsX11_layOnes := goodIn_r _ [11, 5, 12, 13, 14, 15, 10, 16, 3, 17, 6, 18, 19, 20, 21, 22, 23, 24, 25, 26, 27, 28, 29, 4, 30, 31, 32, 33, 34, 35, 36, 37, 38, 39, 40, 41, 42, 43, 44, 45, 46, 47, 48, 49, 50, 51, 52, 53, 54, 55, 56, 57, 58, 59, 60, 61, 62, 63, 64, 65, 66, 67, 68, 69, 70, 71, 72, 73, 74, 75, 76, 77, 78, 79, 80, 81, 82, 83, 84, 85, 86, 87, 88] (by decide +kernel) (by decide +kernel)
set_option maxRecDepth 20000 in
theorem gX11_layHands_X11_layOnes : GoodIn wsX11_layHands (wsV RX11 222 RX11 yX11_layOnes wsX11_layOnes) := goodIn_app (goodIn_of _ (by decide +kernel)) ggX11_layHands_X11_layOnes
theorem dX11_layHands_0 : decode cX11_layHands 0 = .ok (.aload_n 0, 1) := by decide +kernel
theorem dX11_layHands_1 : decode cX11_layHands 1 = .ok (.invokevirtual 222, 3) := by decide +kernel
theorem dX11_layHands_4 : decode cX11_layHands 4 = .ok (.iconst 0, 1) := by decide +kernel
theorem dX11_layHands_5 : decode cX11_layHands 5 = .ok (.istore_n 1, 1) := by decide +kernel
theorem dX11_layHands_6 : decode cX11_layHands 6 = .ok (.iload_n 1, 1) := by decide +kernel
theorem dX11_layHands_7 : decode cX11_layHands 7 = .ok (.aload_n 0, 1) := by decide +kernel
theorem dX11_layHands_8 : decode cX11_layHands 8 = .ok (.getfield 142, 3) := by decide +kernel
theorem dX11_layHands_11 : decode cX11_layHands 11 = .ok (.if_icmp .ge 16, 3) := by decide +kernel
theorem dX11_layHands_14 : decode cX11_layHands 14 = .ok (.aload_n 0, 1) := by decide +kernel
theorem dX11_layHands_15 : decode cX11_layHands 15 = .ok (.getfield 129, 3) := by decide +kernel
theorem dX11_layHands_18 : decode cX11_layHands 18 = .ok (.iload_n 1, 1) := by decide +kernel
theorem dX11_layHands_19 : decode cX11_layHands 19 = .ok (.iconst 0, 1) := by decide +kernel
theorem dX11_layHands_20 : decode cX11_layHands 20 = .ok (.iastore, 1) := by decide +kernel
theorem dX11_layHands_21 : decode cX11_layHands 21 = .ok (.iinc 1 1, 3) := by decide +kernel
theorem dX11_layHands_24 : decode cX11_layHands 24 = .ok (.goto (-18), 3) := by decide +kernel
theorem dX11_layHands_27 : decode cX11_layHands 27 = .ok (.iconst 0, 1) := by decide +kernel
theorem dX11_layHands_28 : decode cX11_layHands 28 = .ok (.istore_n 1, 1) := by decide +kernel
theorem dX11_layHands_29 : decode cX11_layHands 29 = .ok (.iload_n 1, 1) := by decide +kernel
theorem dX11_layHands_30 : decode cX11_layHands 30 = .ok (.aload_n 0, 1) := by decide +kernel
theorem dX11_layHands_31 : decode cX11_layHands 31 = .ok (.getfield 205, 3) := by decide +kernel
theorem dX11_layHands_34 : decode cX11_layHands 34 = .ok (.if_icmp .ge 34, 3) := by decide +kernel
theorem dX11_layHands_37 : decode cX11_layHands 37 = .ok (.aload_n 0, 1) := by decide +kernel
theorem dX11_layHands_38 : decode cX11_layHands 38 = .ok (.getfield 129, 3) := by decide +kernel
theorem dX11_layHands_41 : decode cX11_layHands 41 = .ok (.aload_n 0, 1) := by decide +kernel
theorem dX11_layHands_42 : decode cX11_layHands 42 = .ok (.getfield 43, 3) := by decide +kernel
theorem dX11_layHands_45 : decode cX11_layHands 45 = .ok (.iload_n 1, 1) := by decide +kernel
theorem dX11_layHands_46 : decode cX11_layHands 46 = .ok (.iaload, 1) := by decide +kernel
theorem dX11_layHands_47 : decode cX11_layHands 47 = .ok (.dup2, 1) := by decide +kernel
theorem dX11_layHands_48 : decode cX11_layHands 48 = .ok (.iaload, 1) := by decide +kernel
theorem dX11_layHands_49 : decode cX11_layHands 49 = .ok (.aload_n 0, 1) := by decide +kernel
theorem dX11_layHands_50 : decode cX11_layHands 50 = .ok (.getfield 120, 3) := by decide +kernel
theorem dX11_layHands_53 : decode cX11_layHands 53 = .ok (.aload_n 0, 1) := by decide +kernel
theorem dX11_layHands_54 : decode cX11_layHands 54 = .ok (.getfield 40, 3) := by decide +kernel
theorem dX11_layHands_57 : decode cX11_layHands 57 = .ok (.iload_n 1, 1) := by decide +kernel
theorem dX11_layHands_58 : decode cX11_layHands 58 = .ok (.iaload, 1) := by decide +kernel
theorem dX11_layHands_59 : decode cX11_layHands 59 = .ok (.iaload, 1) := by decide +kernel
theorem dX11_layHands_60 : decode cX11_layHands 60 = .ok (.ior, 1) := by decide +kernel
theorem dX11_layHands_61 : decode cX11_layHands 61 = .ok (.iastore, 1) := by decide +kernel
theorem dX11_layHands_62 : decode cX11_layHands 62 = .ok (.iinc 1 1, 3) := by decide +kernel
theorem dX11_layHands_65 : decode cX11_layHands 65 = .ok (.goto (-36), 3) := by decide +kernel
theorem dX11_layHands_68 : decode cX11_layHands 68 = .ok (.return_, 1) := by decide +kernel
theorem dX11_areJoined_0 : decode cX11_areJoined 0 = .ok (.aload_n 0, 1) := by decide +kernel
theorem dX11_areJoined_1 : decode cX11_areJoined 1 = .ok (.getfield 22, 3) := by decide +kernel
theorem dX11_areJoined_4 : decode cX11_areJoined 4 = .ok (.iload_n 1, 1) := by decide +kernel
theorem dX11_areJoined_5 : decode cX11_areJoined 5 = .ok (.iaload, 1) := by decide +kernel
theorem dX11_areJoined_6 : decode cX11_areJoined 6 = .ok (.aload_n 0, 1) := by decide +kernel
theorem dX11_areJoined_7 : decode cX11_areJoined 7 = .ok (.getfield 22, 3) := by decide +kernel
theorem dX11_areJoined_10 : decode cX11_areJoined 10 = .ok (.iload_n 2, 1) := by decide +kernel
theorem dX11_areJoined_11 : decode cX11_areJoined 11 = .ok (.iaload, 1) := by decide +kernel
theorem dX11_areJoined_12 : decode cX11_areJoined 12 = .ok (.if_icmp .eq 19, 3) := by decide +kernel
theorem dX11_areJoined_15 : decode cX11_areJoined 15 = .ok (.aload_n 0, 1) := by decide +kernel
theorem dX11_areJoined_16 : decode cX11_areJoined 16 = .ok (.getfield 129, 3) := by decide +kernel
theorem dX11_areJoined_19 : decode cX11_areJoined 19 = .ok (.iload_n 1, 1) := by decide +kernel
theorem dX11_areJoined_20 : decode cX11_areJoined 20 = .ok (.iaload, 1) := by decide +kernel
theorem dX11_areJoined_21 : decode cX11_areJoined 21 = .ok (.aload_n 0, 1) := by decide +kernel
theorem dX11_areJoined_22 : decode cX11_areJoined 22 = .ok (.getfield 129, 3) := by decide +kernel
theorem dX11_areJoined_25 : decode cX11_areJoined 25 = .ok (.iload_n 2, 1) := by decide +kernel
theorem dX11_areJoined_26 : decode cX11_areJoined 26 = .ok (.iaload, 1) := by decide +kernel
theorem dX11_areJoined_27 : decode cX11_areJoined 27 = .ok (.iand, 1) := by decide +kernel
theorem dX11_areJoined_28 : decode cX11_areJoined 28 = .ok (.ifCond .eq 7, 3) := by decide +kernel
theorem dX11_areJoined_31 : decode cX11_areJoined 31 = .ok (.iconst 1, 1) := by decide +kernel
theorem dX11_areJoined_32 : decode cX11_areJoined 32 = .ok (.goto 4, 3) := by decide +kernel
theorem dX11_areJoined_35 : decode cX11_areJoined 35 = .ok (.iconst 0, 1) := by decide +kernel
theorem dX11_areJoined_36 : decode cX11_areJoined 36 = .ok (.ireturn, 1) := by decide +kernel
set_option maxRecDepth 20000 in
theorem ggX11_joined_X11_isMatch : GoodIn wsX11_joined wsX11_isMatch := goodIn_r _ [5, 6, 7, 8, 4, 9, 51, 52, 53, 54, 55, 56, 57, 58, 59, 60, 61, 62, 63, 64, 65, 66, 67, 68, 69, 70, 71, 72, 73, 74, 75, 76, 77, 78, 79, 80, 81, 82, 83, 84, 85, 86, 87, 88, 89, 90, 91, 92, 93, 94, 95, 96, 97, 98, 99, 100, 101, 102, 103, 104] (by decide +kernel) (by decide +kernel)
set_option maxRecDepth 20000 in
theorem gX11_joined_X11_isMatch : GoodIn wsX11_joined (wsV RX11 153 RX11 yX11_isMatch wsX11_isMatch) := goodIn_app (goodIn_of _ (by decide +kernel)) ggX11_joined_X11_isMatch
set_option maxRecDepth 20000 in
theorem ggX11_joined_X11_layHands : GoodIn wsX11_joined wsX11_layHands := goodIn_r _ [13, 6, 14, 15, 16, 17, 18, 19, 20, 21, 4, 22, 23, 24, 25, 26, 27, 28, 29, 30, 31, 32, 33, 34, 35, 36, 37, 38, 39, 40, 41, 42, 43, 44, 45, 51, 52, 53, 54, 55, 56, 57, 58, 59, 60, 61, 62, 63, 64, 65, 66, 67, 68, 69, 70, 71, 72, 73, 74, 75, 76, 77, 78, 79, 80, 81, 82, 83, 84, 85, 86, 87, 88, 89, 90, 91, 92, 93, 94, 95, 96, 97, 98, 99, 100, 101, 102, 103, 104] (by decide +kernel) (by decide +kernel)
set_option maxRecDepth 20000 in
theorem gX11_joined_X11_layHands : GoodIn wsX11_joined (wsV RX11 259 RX11 yX11_layHands wsX11_layHands) := goodIn_app (goodIn_of _ (by decide +kernel)) ggX11_joined_X11_layHands
set_option maxRecDepth 20000 in
theorem ggX11_joined_X11_areJoined : GoodIn wsX11_joined wsX11_areJoined := goodIn_r _ [49, 50, 14, 51, 52, 53, 54, 55, 56, 57, 58, 59, 60, 61, 62, 63, 64, 65, 66, 67, 68, 69, 70, 71, 72, 73, 74, 75, 76, 77, 78, 79, 80, 81, 82, 83, 84, 85, 86, 87, 88, 89, 90, 91, 92, 93, 94, 95, 96, 97, 98, 99, 100, 101, 102, 103, 104] (by decide +kernel) (by decide +kernel)
set_option maxRecDepth 20000 in
theorem gX11_joined_X11_areJoined : GoodIn wsX11_joined (wsV RX11 262 RX11 yX11_areJoined wsX11_areJoined) := goodIn_app (goodIn_of _ (by decide +kernel)) ggX11_joined_X11_areJoined
theorem dX11_joined_0 : decode cX11_joined 0 = .ok (.aload_n 0, 1) := by decide +kernel
theorem dX11_joined_1 : decode cX11_joined 1 = .ok (.iload_n 1, 1) := by decide +kernel
theorem dX11_joined_2 : decode cX11_joined 2 = .ok (.invokevirtual 153, 3) := by decide +kernel
theorem dX11_joined_5 : decode cX11_joined 5 = .ok (.ifCond .eq 11, 3) := by decide +kernel
theorem dX11_joined_8 : decode cX11_joined 8 = .ok (.aload_n 0, 1) := by decide +kernel
theorem dX11_joined_9 : decode cX11_joined 9 = .ok (.iload_n 2, 1) := by decide +kernel
theorem dX11_joined_10 : decode cX11_joined 10 = .ok (.invokevirtual 153, 3) := by decide +kernel
theorem dX11_joined_13 : decode cX11_joined 13 = .ok (.ifCond .ne 5, 3) := by decide +kernel
theorem dX11_joined_16 : decode cX11_joined 16 = .ok (.iconst (-1), 1) := by decide +kernel
theorem dX11_joined_17 : decode cX11_joined 17 = .ok (.ireturn, 1) := by decide +kernel
theorem dX11_joined_18 : decode cX11_joined 18 = .ok (.aload_n 0, 1) := by decide +kernel
theorem dX11_joined_19 : decode cX11_joined 19 = .ok (.invokevirtual 259, 3) := by decide +kernel
theorem dX11_joined_22 : decode cX11_joined 22 = .ok (.aload_n 0, 1) := by decide +kernel
theorem dX11_joined_23 : decode cX11_joined 23 = .ok (.iload_n 1, 1) := by decide +kernel
theorem dX11_joined_24 : decode cX11_joined 24 = .ok (.iload_n 2, 1) := by decide +kernel
theorem dX11_joined_25 : decode cX11_joined 25 = .ok (.invokevirtual 262, 3) := by decide +kernel
theorem dX11_joined_28 : decode cX11_joined 28 = .ok (.ifCond .eq 7, 3) := by decide +kernel
theorem dX11_joined_31 : decode cX11_joined 31 = .ok (.iconst 1, 1) := by decide +kernel
theorem dX11_joined_32 : decode cX11_joined 32 = .ok (.goto 4, 3) := by decide +kernel
theorem dX11_joined_35 : decode cX11_joined 35 = .ok (.iconst 0, 1) := by decide +kernel
theorem dX11_joined_36 : decode cX11_joined 36 = .ok (.ireturn, 1) := by decide +kernel
set_option maxRecDepth 20000 in
theorem ggX11_ringOf_X11_areJoined : GoodIn wsX11_ringOf wsX11_areJoined := goodIn_r _ [6, 7, 8, 9, 10, 11, 12, 13, 14, 15, 16, 17, 18, 19, 20, 21, 22, 23, 24, 25, 26, 27, 28, 29, 30, 31, 32, 33, 34, 35, 36, 37, 38, 39, 40, 41, 42, 43, 44, 45, 46, 47, 48, 49, 50, 51, 52, 53, 54, 55, 56, 57, 58, 59, 60, 61, 62] (by decide +kernel) (by decide +kernel)
set_option maxRecDepth 20000 in
theorem gX11_ringOf_X11_areJoined : GoodIn wsX11_ringOf (wsV RX11 262 RX11 yX11_areJoined wsX11_areJoined) := goodIn_app (goodIn_of _ (by decide +kernel)) ggX11_ringOf_X11_areJoined
theorem dX11_ringOf_0 : decode cX11_ringOf 0 = .ok (.iconst 1, 1) := by decide +kernel
theorem dX11_ringOf_1 : decode cX11_ringOf 1 = .ok (.iload_n 1, 1) := by decide +kernel
theorem dX11_ringOf_2 : decode cX11_ringOf 2 = .ok (.ishl, 1) := by decide +kernel
theorem dX11_ringOf_3 : decode cX11_ringOf 3 = .ok (.istore 4, 2) := by decide +kernel
theorem dX11_ringOf_5 : decode cX11_ringOf 5 = .ok (.iconst 0, 1) := by decide +kernel
theorem dX11_ringOf_6 : decode cX11_ringOf 6 = .ok (.istore 5, 2) := by decide +kernel
theorem dX11_ringOf_8 : decode cX11_ringOf 8 = .ok (.iload 5, 2) := by decide +kernel
theorem dX11_ringOf_10 : decode cX11_ringOf 10 = .ok (.aload_n 0, 1) := by decide +kernel
theorem dX11_ringOf_11 : decode cX11_ringOf 11 = .ok (.getfield 142, 3) := by decide +kernel
theorem dX11_ringOf_14 : decode cX11_ringOf 14 = .ok (.if_icmp .ge 116, 3) := by decide +kernel
theorem dX11_ringOf_17 : decode cX11_ringOf 17 = .ok (.iconst 0, 1) := by decide +kernel
theorem dX11_ringOf_18 : decode cX11_ringOf 18 = .ok (.istore 6, 2) := by decide +kernel
theorem dX11_ringOf_20 : decode cX11_ringOf 20 = .ok (.iload 6, 2) := by decide +kernel
theorem dX11_ringOf_22 : decode cX11_ringOf 22 = .ok (.aload_n 0, 1) := by decide +kernel
theorem dX11_ringOf_23 : decode cX11_ringOf 23 = .ok (.getfield 142, 3) := by decide +kernel
theorem dX11_ringOf_26 : decode cX11_ringOf 26 = .ok (.if_icmp .ge 98, 3) := by decide +kernel
theorem dX11_ringOf_29 : decode cX11_ringOf 29 = .ok (.iconst 0, 1) := by decide +kernel
theorem dX11_ringOf_30 : decode cX11_ringOf 30 = .ok (.istore 7, 2) := by decide +kernel
theorem dX11_ringOf_32 : decode cX11_ringOf 32 = .ok (.iload 7, 2) := by decide +kernel
theorem dX11_ringOf_34 : decode cX11_ringOf 34 = .ok (.aload_n 0, 1) := by decide +kernel
theorem dX11_ringOf_35 : decode cX11_ringOf 35 = .ok (.getfield 142, 3) := by decide +kernel
theorem dX11_ringOf_38 : decode cX11_ringOf 38 = .ok (.if_icmp .ge 80, 3) := by decide +kernel
theorem dX11_ringOf_41 : decode cX11_ringOf 41 = .ok (.iload 4, 2) := by decide +kernel
theorem dX11_ringOf_43 : decode cX11_ringOf 43 = .ok (.iload 6, 2) := by decide +kernel
theorem dX11_ringOf_45 : decode cX11_ringOf 45 = .ok (.ishr, 1) := by decide +kernel
theorem dX11_ringOf_46 : decode cX11_ringOf 46 = .ok (.iconst 1, 1) := by decide +kernel
theorem dX11_ringOf_47 : decode cX11_ringOf 47 = .ok (.iand, 1) := by decide +kernel
theorem dX11_ringOf_48 : decode cX11_ringOf 48 = .ok (.iconst 1, 1) := by decide +kernel
theorem dX11_ringOf_49 : decode cX11_ringOf 49 = .ok (.if_icmp .ne 69, 3) := by decide +kernel
theorem dX11_ringOf_52 : decode cX11_ringOf 52 = .ok (.iload 6, 2) := by decide +kernel
theorem dX11_ringOf_54 : decode cX11_ringOf 54 = .ok (.iload_n 2, 1) := by decide +kernel
theorem dX11_ringOf_55 : decode cX11_ringOf 55 = .ok (.if_icmp .ne 9, 3) := by decide +kernel
theorem dX11_ringOf_58 : decode cX11_ringOf 58 = .ok (.iload 7, 2) := by decide +kernel
theorem dX11_ringOf_60 : decode cX11_ringOf 60 = .ok (.iload_n 3, 1) := by decide +kernel
theorem dX11_ringOf_61 : decode cX11_ringOf 61 = .ok (.if_icmp .eq 15, 3) := by decide +kernel
theorem dX11_ringOf_64 : decode cX11_ringOf 64 = .ok (.iload 6, 2) := by decide +kernel
theorem dX11_ringOf_66 : decode cX11_ringOf 66 = .ok (.iload_n 3, 1) := by decide +kernel
theorem dX11_ringOf_67 : decode cX11_ringOf 67 = .ok (.if_icmp .ne 13, 3) := by decide +kernel
theorem dX11_ringOf_70 : decode cX11_ringOf 70 = .ok (.iload 7, 2) := by decide +kernel
theorem dX11_ringOf_72 : decode cX11_ringOf 72 = .ok (.iload_n 2, 1) := by decide +kernel
theorem dX11_ringOf_73 : decode cX11_ringOf 73 = .ok (.if_icmp .ne 7, 3) := by decide +kernel
theorem dX11_ringOf_76 : decode cX11_ringOf 76 = .ok (.iconst 1, 1) := by decide +kernel
theorem dX11_ringOf_77 : decode cX11_ringOf 77 = .ok (.goto 4, 3) := by decide +kernel
theorem dX11_ringOf_80 : decode cX11_ringOf 80 = .ok (.iconst 0, 1) := by decide +kernel
theorem dX11_ringOf_81 : decode cX11_ringOf 81 = .ok (.istore 8, 2) := by decide +kernel
theorem dX11_ringOf_83 : decode cX11_ringOf 83 = .ok (.iload 4, 2) := by decide +kernel
theorem dX11_ringOf_85 : decode cX11_ringOf 85 = .ok (.iload 8, 2) := by decide +kernel
theorem dX11_ringOf_87 : decode cX11_ringOf 87 = .ok (.ifCond .ne 21, 3) := by decide +kernel
theorem dX11_ringOf_90 : decode cX11_ringOf 90 = .ok (.aload_n 0, 1) := by decide +kernel
theorem dX11_ringOf_91 : decode cX11_ringOf 91 = .ok (.iload 6, 2) := by decide +kernel
theorem dX11_ringOf_93 : decode cX11_ringOf 93 = .ok (.iload 7, 2) := by decide +kernel
theorem dX11_ringOf_95 : decode cX11_ringOf 95 = .ok (.invokevirtual 262, 3) := by decide +kernel
theorem dX11_ringOf_98 : decode cX11_ringOf 98 = .ok (.ifCond .eq 10, 3) := by decide +kernel
theorem dX11_ringOf_101 : decode cX11_ringOf 101 = .ok (.iconst 1, 1) := by decide +kernel
theorem dX11_ringOf_102 : decode cX11_ringOf 102 = .ok (.iload 7, 2) := by decide +kernel
theorem dX11_ringOf_104 : decode cX11_ringOf 104 = .ok (.ishl, 1) := by decide +kernel
theorem dX11_ringOf_105 : decode cX11_ringOf 105 = .ok (.goto 4, 3) := by decide +kernel
theorem dX11_ringOf_108 : decode cX11_ringOf 108 = .ok (.iconst 0, 1) := by decide +kernel
theorem dX11_ringOf_109 : decode cX11_ringOf 109 = .ok (.ior, 1) := by decide +kernel
theorem dX11_ringOf_110 : decode cX11_ringOf 110 = .ok (.istore 4, 2) := by decide +kernel
theorem dX11_ringOf_112 : decode cX11_ringOf 112 = .ok (.iinc 7 1, 3) := by decide +kernel
theorem dX11_ringOf_115 : decode cX11_ringOf 115 = .ok (.goto (-83), 3) := by decide +kernel
theorem dX11_ringOf_118 : decode cX11_ringOf 118 = .ok (.iinc 6 1, 3) := by decide +kernel
theorem dX11_ringOf_121 : decode cX11_ringOf 121 = .ok (.goto (-101), 3) := by decide +kernel
theorem dX11_ringOf_124 : decode cX11_ringOf 124 = .ok (.iinc 5 1, 3) := by decide +kernel
theorem dX11_ringOf_127 : decode cX11_ringOf 127 = .ok (.goto (-119), 3) := by decide +kernel
theorem dX11_ringOf_130 : decode cX11_ringOf 130 = .ok (.iload 4, 2) := by decide +kernel
theorem dX11_ringOf_132 : decode cX11_ringOf 132 = .ok (.ireturn, 1) := by decide +kernel
set_option maxRecDepth 20000 in
theorem ggX11_ring_X11_isMatch : GoodIn wsX11_ring wsX11_isMatch := goodIn_r _ [5, 6, 7, 8, 4, 9, 55, 56, 57, 58, 59, 60, 61, 62, 63, 64, 65, 66, 67, 68, 69, 70, 71, 72, 73, 74, 75, 76, 77, 78, 79, 80, 81, 82, 83, 84, 85, 86, 87, 88, 89, 90, 91, 92, 93, 94, 95, 96, 97, 98, 99, 100, 101, 102, 103, 104, 105, 106, 107, 108] (by decide +kernel) (by decide +kernel)
set_option maxRecDepth 20000 in
theorem gX11_ring_X11_isMatch : GoodIn wsX11_ring (wsV RX11 153 RX11 yX11_isMatch wsX11_isMatch) := goodIn_app (goodIn_of _ (by decide +kernel)) ggX11_ring_X11_isMatch
set_option maxRecDepth 20000 in
theorem ggX11_ring_X11_layHands : GoodIn wsX11_ring wsX11_layHands := goodIn_r _ [13, 6, 14, 15, 16, 17, 18, 19, 20, 21, 4, 22, 23, 24, 25, 26, 27, 28, 29, 30, 31, 32, 33, 34, 35, 36, 37, 38, 39, 40, 41, 42, 43, 44, 45, 55, 56, 57, 58, 59, 60, 61, 62, 63, 64, 65, 66, 67, 68, 69, 70, 71, 72, 73, 74, 75, 76, 77, 78, 79, 80, 81, 82, 83, 84, 85, 86, 87, 88, 89, 90, 91, 92, 93, 94, 95, 96, 97, 98, 99, 100, 101, 102, 103, 104, 105, 106, 107, 108] (by decide +kernel) (by decide +kernel)
set_option maxRecDepth 20000 in
theorem gX11_ring_X11_layHands : GoodIn wsX11_ring (wsV RX11 259 RX11 yX11_layHands wsX11_layHands) := goodIn_app (goodIn_of _ (by decide +kernel)) ggX11_ring_X11_layHands
set_option maxRecDepth 20000 in
theorem ggX11_ring_X11_ringOf : GoodIn wsX11_ring wsX11_ringOf := goodIn_r _ [49, 6, 50, 51, 52, 4, 53, 54, 14, 55, 56, 57, 58, 59, 60, 61, 62, 63, 64, 65, 66, 67, 68, 69, 70, 71, 72, 73, 74, 75, 76, 77, 78, 79, 80, 81, 82, 83, 84, 85, 86, 87, 88, 89, 90, 91, 92, 93, 94, 95, 96, 97, 98, 99, 100, 101, 102, 103, 104, 105, 106, 107, 108] (by decide +kernel) (by decide +kernel)
set_option maxRecDepth 20000 in
theorem gX11_ring_X11_ringOf : GoodIn wsX11_ring (wsV RX11 265 RX11 yX11_ringOf wsX11_ringOf) := goodIn_app (goodIn_of _ (by decide +kernel)) ggX11_ring_X11_ringOf
theorem dX11_ring_0 : decode cX11_ring 0 = .ok (.aload_n 0, 1) := by decide +kernel
theorem dX11_ring_1 : decode cX11_ring 1 = .ok (.iload_n 1, 1) := by decide +kernel
theorem dX11_ring_2 : decode cX11_ring 2 = .ok (.invokevirtual 153, 3) := by decide +kernel
theorem dX11_ring_5 : decode cX11_ring 5 = .ok (.ifCond .ne 5, 3) := by decide +kernel
theorem dX11_ring_8 : decode cX11_ring 8 = .ok (.iconst (-1), 1) := by decide +kernel
theorem dX11_ring_9 : decode cX11_ring 9 = .ok (.ireturn, 1) := by decide +kernel
theorem dX11_ring_10 : decode cX11_ring 10 = .ok (.aload_n 0, 1) := by decide +kernel
theorem dX11_ring_11 : decode cX11_ring 11 = .ok (.invokevirtual 259, 3) := by decide +kernel
theorem dX11_ring_14 : decode cX11_ring 14 = .ok (.aload_n 0, 1) := by decide +kernel
theorem dX11_ring_15 : decode cX11_ring 15 = .ok (.iload_n 1, 1) := by decide +kernel
theorem dX11_ring_16 : decode cX11_ring 16 = .ok (.bipush (-6), 2) := by decide +kernel
theorem dX11_ring_18 : decode cX11_ring 18 = .ok (.bipush (-6), 2) := by decide +kernel
theorem dX11_ring_20 : decode cX11_ring 20 = .ok (.invokevirtual 265, 3) := by decide +kernel
theorem dX11_ring_23 : decode cX11_ring 23 = .ok (.ireturn, 1) := by decide +kernel
set_option maxRecDepth 20000 in
theorem ggX11_holds_X11_isMatch : GoodIn wsX11_holds wsX11_isMatch := goodIn_r _ [5, 6, 7, 8, 4, 9, 55, 56, 57, 58, 59, 60, 61, 62, 63, 64, 65, 66, 67, 68, 69, 70, 71, 72, 73, 74, 75, 76, 77, 78, 79, 80, 81, 82, 83, 84, 85, 86, 87, 88, 89, 90, 91, 92, 93, 94, 95, 96, 97, 98, 99, 100, 101, 102, 103, 104, 105, 106, 107, 108] (by decide +kernel) (by decide +kernel)
set_option maxRecDepth 20000 in
theorem gX11_holds_X11_isMatch : GoodIn wsX11_holds (wsV RX11 153 RX11 yX11_isMatch wsX11_isMatch) := goodIn_app (goodIn_of _ (by decide +kernel)) ggX11_holds_X11_isMatch
set_option maxRecDepth 20000 in
theorem ggX11_holds_X11_layHands : GoodIn wsX11_holds wsX11_layHands := goodIn_r _ [13, 6, 14, 15, 16, 17, 18, 19, 20, 21, 4, 22, 23, 24, 25, 26, 27, 28, 29, 30, 31, 32, 33, 34, 35, 36, 37, 38, 39, 40, 41, 42, 43, 44, 45, 55, 56, 57, 58, 59, 60, 61, 62, 63, 64, 65, 66, 67, 68, 69, 70, 71, 72, 73, 74, 75, 76, 77, 78, 79, 80, 81, 82, 83, 84, 85, 86, 87, 88, 89, 90, 91, 92, 93, 94, 95, 96, 97, 98, 99, 100, 101, 102, 103, 104, 105, 106, 107, 108] (by decide +kernel) (by decide +kernel)
set_option maxRecDepth 20000 in
theorem gX11_holds_X11_layHands : GoodIn wsX11_holds (wsV RX11 259 RX11 yX11_layHands wsX11_layHands) := goodIn_app (goodIn_of _ (by decide +kernel)) ggX11_holds_X11_layHands
set_option maxRecDepth 20000 in
theorem ggX11_holds_X11_areJoined : GoodIn wsX11_holds wsX11_areJoined := goodIn_r _ [49, 50, 14, 55, 56, 57, 58, 59, 60, 61, 62, 63, 64, 65, 66, 67, 68, 69, 70, 71, 72, 73, 74, 75, 76, 77, 78, 79, 80, 81, 82, 83, 84, 85, 86, 87, 88, 89, 90, 91, 92, 93, 94, 95, 96, 97, 98, 99, 100, 101, 102, 103, 104, 105, 106, 107, 108] (by decide +kernel) (by decide +kernel)
set_option maxRecDepth 20000 in
theorem gX11_holds_X11_areJoined : GoodIn wsX11_holds (wsV RX11 262 RX11 yX11_areJoined wsX11_areJoined) := goodIn_app (goodIn_of _ (by decide +kernel)) ggX11_holds_X11_areJoined
set_option maxRecDepth 20000 in
theorem ggX11_holds_X11_ringOf : GoodIn wsX11_holds wsX11_ringOf := goodIn_r _ [54, 6, 46, 47, 48, 4, 49, 50, 14, 55, 56, 57, 58, 59, 60, 61, 62, 63, 64, 65, 66, 67, 68, 69, 70, 71, 72, 73, 74, 75, 76, 77, 78, 79, 80, 81, 82, 83, 84, 85, 86, 87, 88, 89, 90, 91, 92, 93, 94, 95, 96, 97, 98, 99, 100, 101, 102, 103, 104, 105, 106, 107, 108] (by decide +kernel) (by decide +kernel)
set_option maxRecDepth 20000 in
theorem gX11_holds_X11_ringOf : GoodIn wsX11_holds (wsV RX11 265 RX11 yX11_ringOf wsX11_ringOf) := goodIn_app (goodIn_of _ (by decide +kernel)) ggX11_holds_X11_ringOf
theorem dX11_holds_0 : decode cX11_holds 0 = .ok (.aload_n 0, 1) := by decide +kernel
theorem dX11_holds_1 : decode cX11_holds 1 = .ok (.iload_n 1, 1) := by decide +kernel
theorem dX11_holds_2 : decode cX11_holds 2 = .ok (.invokevirtual 153, 3) := by decide +kernel
theorem dX11_holds_5 : decode cX11_holds 5 = .ok (.ifCond .eq 11, 3) := by decide +kernel
theorem dX11_holds_8 : decode cX11_holds 8 = .ok (.aload_n 0, 1) := by decide +kernel
theorem dX11_holds_9 : decode cX11_holds 9 = .ok (.iload_n 2, 1) := by decide +kernel
theorem dX11_holds_10 : decode cX11_holds 10 = .ok (.invokevirtual 153, 3) := by decide +kernel
theorem dX11_holds_13 : decode cX11_holds 13 = .ok (.ifCond .ne 5, 3) := by decide +kernel
theorem dX11_holds_16 : decode cX11_holds 16 = .ok (.iconst (-1), 1) := by decide +kernel
theorem dX11_holds_17 : decode cX11_holds 17 = .ok (.ireturn, 1) := by decide +kernel
theorem dX11_holds_18 : decode cX11_holds 18 = .ok (.aload_n 0, 1) := by decide +kernel
theorem dX11_holds_19 : decode cX11_holds 19 = .ok (.invokevirtual 259, 3) := by decide +kernel
theorem dX11_holds_22 : decode cX11_holds 22 = .ok (.aload_n 0, 1) := by decide +kernel
theorem dX11_holds_23 : decode cX11_holds 23 = .ok (.iload_n 1, 1) := by decide +kernel
theorem dX11_holds_24 : decode cX11_holds 24 = .ok (.iload_n 2, 1) := by decide +kernel
theorem dX11_holds_25 : decode cX11_holds 25 = .ok (.invokevirtual 262, 3) := by decide +kernel
theorem dX11_holds_28 : decode cX11_holds 28 = .ok (.ifCond .ne 6, 3) := by decide +kernel
theorem dX11_holds_31 : decode cX11_holds 31 = .ok (.bipush (-5), 2) := by decide +kernel
theorem dX11_holds_33 : decode cX11_holds 33 = .ok (.ireturn, 1) := by decide +kernel
theorem dX11_holds_34 : decode cX11_holds 34 = .ok (.iload_n 1, 1) := by decide +kernel
theorem dX11_holds_35 : decode cX11_holds 35 = .ok (.iload_n 2, 1) := by decide +kernel
theorem dX11_holds_36 : decode cX11_holds 36 = .ok (.if_icmp .eq 21, 3) := by decide +kernel
theorem dX11_holds_39 : decode cX11_holds 39 = .ok (.aload_n 0, 1) := by decide +kernel
theorem dX11_holds_40 : decode cX11_holds 40 = .ok (.iload_n 1, 1) := by decide +kernel
theorem dX11_holds_41 : decode cX11_holds 41 = .ok (.iload_n 1, 1) := by decide +kernel
theorem dX11_holds_42 : decode cX11_holds 42 = .ok (.iload_n 2, 1) := by decide +kernel
theorem dX11_holds_43 : decode cX11_holds 43 = .ok (.invokevirtual 265, 3) := by decide +kernel
theorem dX11_holds_46 : decode cX11_holds 46 = .ok (.iload_n 2, 1) := by decide +kernel
theorem dX11_holds_47 : decode cX11_holds 47 = .ok (.ishr, 1) := by decide +kernel
theorem dX11_holds_48 : decode cX11_holds 48 = .ok (.iconst 1, 1) := by decide +kernel
theorem dX11_holds_49 : decode cX11_holds 49 = .ok (.iand, 1) := by decide +kernel
theorem dX11_holds_50 : decode cX11_holds 50 = .ok (.ifCond .ne 7, 3) := by decide +kernel
theorem dX11_holds_53 : decode cX11_holds 53 = .ok (.iconst 1, 1) := by decide +kernel
theorem dX11_holds_54 : decode cX11_holds 54 = .ok (.goto 4, 3) := by decide +kernel
theorem dX11_holds_57 : decode cX11_holds 57 = .ok (.iconst 0, 1) := by decide +kernel
theorem dX11_holds_58 : decode cX11_holds 58 = .ok (.ireturn, 1) := by decide +kernel
set_option maxRecDepth 20000 in
theorem ggX11_story_X11_isTen : GoodIn wsX11_story wsX11_isTen := goodIn_r _ [9, 10, 11, 8, 12] (by decide +kernel) (by decide +kernel)
set_option maxRecDepth 20000 in
theorem gX11_story_X11_isTen : GoodIn wsX11_story (va_wsS RX11 202 yX11_isTen wsX11_isTen) := goodIn_app (goodIn_of _ (by decide +kernel)) ggX11_story_X11_isTen
set_option maxRecDepth 20000 in
theorem ggX11_story_X11_in : GoodIn wsX11_story wsX11_in := goodIn_r _ [12] (by decide +kernel) (by decide +kernel)
set_option maxRecDepth 20000 in
theorem gX11_story_X11_in : GoodIn wsX11_story (va_wsS RX11 138 yX11_in wsX11_in) := goodIn_app (goodIn_of _ (by decide +kernel)) ggX11_story_X11_in
theorem dX11_story_0 : decode cX11_story 0 = .ok (.iload_n 1, 1) := by decide +kernel
theorem dX11_story_1 : decode cX11_story 1 = .ok (.invokestatic 202, 3) := by decide +kernel
theorem dX11_story_4 : decode cX11_story 4 = .ok (.ifCond .ne 5, 3) := by decide +kernel
theorem dX11_story_7 : decode cX11_story 7 = .ok (.iconst (-1), 1) := by decide +kernel
theorem dX11_story_8 : decode cX11_story 8 = .ok (.ireturn, 1) := by decide +kernel
theorem dX11_story_9 : decode cX11_story 9 = .ok (.iload_n 2, 1) := by decide +kernel
theorem dX11_story_10 : decode cX11_story 10 = .ok (.iconst 0, 1) := by decide +kernel
theorem dX11_story_11 : decode cX11_story 11 = .ok (.bipush 9, 2) := by decide +kernel
theorem dX11_story_13 : decode cX11_story 13 = .ok (.invokestatic 138, 3) := by decide +kernel
theorem dX11_story_16 : decode cX11_story 16 = .ok (.ifCond .eq 32, 3) := by decide +kernel
theorem dX11_story_19 : decode cX11_story 19 = .ok (.iload_n 3, 1) := by decide +kernel
theorem dX11_story_20 : decode cX11_story 20 = .ok (.iconst 0, 1) := by decide +kernel
theorem dX11_story_21 : decode cX11_story 21 = .ok (.sipush 999, 3) := by decide +kernel
theorem dX11_story_24 : decode cX11_story 24 = .ok (.invokestatic 138, 3) := by decide +kernel
theorem dX11_story_27 : decode cX11_story 27 = .ok (.ifCond .eq 21, 3) := by decide +kernel
theorem dX11_story_30 : decode cX11_story 30 = .ok (.iload 4, 2) := by decide +kernel
theorem dX11_story_32 : decode cX11_story 32 = .ok (.iconst 0, 1) := by decide +kernel
theorem dX11_story_33 : decode cX11_story 33 = .ok (.sipush 999, 3) := by decide +kernel
theorem dX11_story_36 : decode cX11_story 36 = .ok (.invokestatic 138, 3) := by decide +kernel
theorem dX11_story_39 : decode cX11_story 39 = .ok (.ifCond .eq 9, 3) := by decide +kernel
theorem dX11_story_42 : decode cX11_story 42 = .ok (.iload_n 3, 1) := by decide +kernel
theorem dX11_story_43 : decode cX11_story 43 = .ok (.iload 4, 2) := by decide +kernel
theorem dX11_story_45 : decode cX11_story 45 = .ok (.if_icmp .le 6, 3) := by decide +kernel
theorem dX11_story_48 : decode cX11_story 48 = .ok (.bipush (-2), 2) := by decide +kernel
theorem dX11_story_50 : decode cX11_story 50 = .ok (.ireturn, 1) := by decide +kernel
theorem dX11_story_51 : decode cX11_story 51 = .ok (.aload_n 0, 1) := by decide +kernel
theorem dX11_story_52 : decode cX11_story 52 = .ok (.getfield 268, 3) := by decide +kernel
theorem dX11_story_55 : decode cX11_story 55 = .ok (.bipush 10, 2) := by decide +kernel
theorem dX11_story_57 : decode cX11_story 57 = .ok (.if_icmp .ne 6, 3) := by decide +kernel
theorem dX11_story_60 : decode cX11_story 60 = .ok (.bipush (-4), 2) := by decide +kernel
theorem dX11_story_62 : decode cX11_story 62 = .ok (.ireturn, 1) := by decide +kernel
theorem dX11_story_63 : decode cX11_story 63 = .ok (.aload_n 0, 1) := by decide +kernel
theorem dX11_story_64 : decode cX11_story 64 = .ok (.getfield 86, 3) := by decide +kernel
theorem dX11_story_67 : decode cX11_story 67 = .ok (.aload_n 0, 1) := by decide +kernel
theorem dX11_story_68 : decode cX11_story 68 = .ok (.getfield 268, 3) := by decide +kernel
theorem dX11_story_71 : decode cX11_story 71 = .ok (.iload_n 1, 1) := by decide +kernel
theorem dX11_story_72 : decode cX11_story 72 = .ok (.iastore, 1) := by decide +kernel
theorem dX11_story_73 : decode cX11_story 73 = .ok (.aload_n 0, 1) := by decide +kernel
theorem dX11_story_74 : decode cX11_story 74 = .ok (.getfield 89, 3) := by decide +kernel
theorem dX11_story_77 : decode cX11_story 77 = .ok (.aload_n 0, 1) := by decide +kernel
theorem dX11_story_78 : decode cX11_story 78 = .ok (.getfield 268, 3) := by decide +kernel
theorem dX11_story_81 : decode cX11_story 81 = .ok (.iload_n 2, 1) := by decide +kernel
theorem dX11_story_82 : decode cX11_story 82 = .ok (.iastore, 1) := by decide +kernel
theorem dX11_story_83 : decode cX11_story 83 = .ok (.aload_n 0, 1) := by decide +kernel
theorem dX11_story_84 : decode cX11_story 84 = .ok (.getfield 92, 3) := by decide +kernel
theorem dX11_story_87 : decode cX11_story 87 = .ok (.aload_n 0, 1) := by decide +kernel
theorem dX11_story_88 : decode cX11_story 88 = .ok (.getfield 268, 3) := by decide +kernel
theorem dX11_story_91 : decode cX11_story 91 = .ok (.iload_n 3, 1) := by decide +kernel
theorem dX11_story_92 : decode cX11_story 92 = .ok (.iastore, 1) := by decide +kernel
theorem dX11_story_93 : decode cX11_story 93 = .ok (.aload_n 0, 1) := by decide +kernel
theorem dX11_story_94 : decode cX11_story 94 = .ok (.getfield 95, 3) := by decide +kernel
theorem dX11_story_97 : decode cX11_story 97 = .ok (.aload_n 0, 1) := by decide +kernel
theorem dX11_story_98 : decode cX11_story 98 = .ok (.getfield 268, 3) := by decide +kernel
theorem dX11_story_101 : decode cX11_story 101 = .ok (.iload 4, 2) := by decide +kernel
theorem dX11_story_103 : decode cX11_story 103 = .ok (.iastore, 1) := by decide +kernel
theorem dX11_story_104 : decode cX11_story 104 = .ok (.aload_n 0, 1) := by decide +kernel
theorem dX11_story_105 : decode cX11_story 105 = .ok (.dup, 1) := by decide +kernel
theorem dX11_story_106 : decode cX11_story 106 = .ok (.getfield 268, 3) := by decide +kernel
theorem dX11_story_109 : decode cX11_story 109 = .ok (.iconst 1, 1) := by decide +kernel
theorem dX11_story_110 : decode cX11_story 110 = .ok (.iadd, 1) := by decide +kernel
theorem dX11_story_111 : decode cX11_story 111 = .ok (.putfield 268, 3) := by decide +kernel
theorem dX11_story_114 : decode cX11_story 114 = .ok (.aload_n 0, 1) := by decide +kernel
theorem dX11_story_115 : decode cX11_story 115 = .ok (.getfield 268, 3) := by decide +kernel
theorem dX11_story_118 : decode cX11_story 118 = .ok (.iconst 1, 1) := by decide +kernel
theorem dX11_story_119 : decode cX11_story 119 = .ok (.isub, 1) := by decide +kernel
theorem dX11_story_120 : decode cX11_story 120 = .ok (.ireturn, 1) := by decide +kernel
theorem dX11_clash_0 : decode cX11_clash 0 = .ok (.aload_n 0, 1) := by decide +kernel
theorem dX11_clash_1 : decode cX11_clash 1 = .ok (.getfield 86, 3) := by decide +kernel
theorem dX11_clash_4 : decode cX11_clash 4 = .ok (.iload_n 1, 1) := by decide +kernel
theorem dX11_clash_5 : decode cX11_clash 5 = .ok (.iaload, 1) := by decide +kernel
theorem dX11_clash_6 : decode cX11_clash 6 = .ok (.aload_n 0, 1) := by decide +kernel
theorem dX11_clash_7 : decode cX11_clash 7 = .ok (.getfield 86, 3) := by decide +kernel
theorem dX11_clash_10 : decode cX11_clash 10 = .ok (.iload_n 2, 1) := by decide +kernel
theorem dX11_clash_11 : decode cX11_clash 11 = .ok (.iaload, 1) := by decide +kernel
theorem dX11_clash_12 : decode cX11_clash 12 = .ok (.if_icmp .ne 52, 3) := by decide +kernel
theorem dX11_clash_15 : decode cX11_clash 15 = .ok (.aload_n 0, 1) := by decide +kernel
theorem dX11_clash_16 : decode cX11_clash 16 = .ok (.getfield 89, 3) := by decide +kernel
theorem dX11_clash_19 : decode cX11_clash 19 = .ok (.iload_n 1, 1) := by decide +kernel
theorem dX11_clash_20 : decode cX11_clash 20 = .ok (.iaload, 1) := by decide +kernel
theorem dX11_clash_21 : decode cX11_clash 21 = .ok (.aload_n 0, 1) := by decide +kernel
theorem dX11_clash_22 : decode cX11_clash 22 = .ok (.getfield 89, 3) := by decide +kernel
theorem dX11_clash_25 : decode cX11_clash 25 = .ok (.iload_n 2, 1) := by decide +kernel
theorem dX11_clash_26 : decode cX11_clash 26 = .ok (.iaload, 1) := by decide +kernel
theorem dX11_clash_27 : decode cX11_clash 27 = .ok (.if_icmp .eq 37, 3) := by decide +kernel
theorem dX11_clash_30 : decode cX11_clash 30 = .ok (.aload_n 0, 1) := by decide +kernel
theorem dX11_clash_31 : decode cX11_clash 31 = .ok (.getfield 92, 3) := by decide +kernel
theorem dX11_clash_34 : decode cX11_clash 34 = .ok (.iload_n 1, 1) := by decide +kernel
theorem dX11_clash_35 : decode cX11_clash 35 = .ok (.iaload, 1) := by decide +kernel
theorem dX11_clash_36 : decode cX11_clash 36 = .ok (.aload_n 0, 1) := by decide +kernel
theorem dX11_clash_37 : decode cX11_clash 37 = .ok (.getfield 95, 3) := by decide +kernel
theorem dX11_clash_40 : decode cX11_clash 40 = .ok (.iload_n 2, 1) := by decide +kernel
theorem dX11_clash_41 : decode cX11_clash 41 = .ok (.iaload, 1) := by decide +kernel
theorem dX11_clash_42 : decode cX11_clash 42 = .ok (.if_icmp .gt 22, 3) := by decide +kernel
theorem dX11_clash_45 : decode cX11_clash 45 = .ok (.aload_n 0, 1) := by decide +kernel
theorem dX11_clash_46 : decode cX11_clash 46 = .ok (.getfield 92, 3) := by decide +kernel
theorem dX11_clash_49 : decode cX11_clash 49 = .ok (.iload_n 2, 1) := by decide +kernel
theorem dX11_clash_50 : decode cX11_clash 50 = .ok (.iaload, 1) := by decide +kernel
theorem dX11_clash_51 : decode cX11_clash 51 = .ok (.aload_n 0, 1) := by decide +kernel
theorem dX11_clash_52 : decode cX11_clash 52 = .ok (.getfield 95, 3) := by decide +kernel
theorem dX11_clash_55 : decode cX11_clash 55 = .ok (.iload_n 1, 1) := by decide +kernel
theorem dX11_clash_56 : decode cX11_clash 56 = .ok (.iaload, 1) := by decide +kernel
theorem dX11_clash_57 : decode cX11_clash 57 = .ok (.if_icmp .gt 7, 3) := by decide +kernel
theorem dX11_clash_60 : decode cX11_clash 60 = .ok (.iconst 1, 1) := by decide +kernel
theorem dX11_clash_61 : decode cX11_clash 61 = .ok (.goto 4, 3) := by decide +kernel
theorem dX11_clash_64 : decode cX11_clash 64 = .ok (.iconst 0, 1) := by decide +kernel
theorem dX11_clash_65 : decode cX11_clash 65 = .ok (.ireturn, 1) := by decide +kernel
set_option maxRecDepth 20000 in
theorem ggX11_canBe_X11_clash : GoodIn wsX11_canBe wsX11_clash := goodIn_r _ [6, 7, 8, 9, 10, 11, 12, 13, 14, 15, 16, 17, 18, 19, 20, 21, 22, 23, 24, 25, 26, 27, 28, 29, 30, 31, 32, 33, 34, 35, 36, 37, 38, 39, 40, 41, 42, 43, 44, 45, 46, 47, 48, 49, 50, 51, 52, 53, 54, 55, 56, 57, 58, 59, 60, 61, 62, 63, 64] (by decide +kernel) (by decide +kernel)
set_option maxRecDepth 20000 in
theorem gX11_canBe_X11_clash : GoodIn wsX11_canBe (wsV RX11 271 RX11 yX11_clash wsX11_clash) := goodIn_app (goodIn_of _ (by decide +kernel)) ggX11_canBe_X11_clash
theorem dX11_canBe_0 : decode cX11_canBe 0 = .ok (.iconst 1, 1) := by decide +kernel
theorem dX11_canBe_1 : decode cX11_canBe 1 = .ok (.istore_n 2, 1) := by decide +kernel
theorem dX11_canBe_2 : decode cX11_canBe 2 = .ok (.iconst 0, 1) := by decide +kernel
theorem dX11_canBe_3 : decode cX11_canBe 3 = .ok (.istore_n 3, 1) := by decide +kernel
theorem dX11_canBe_4 : decode cX11_canBe 4 = .ok (.iload_n 3, 1) := by decide +kernel
theorem dX11_canBe_5 : decode cX11_canBe 5 = .ok (.aload_n 0, 1) := by decide +kernel
theorem dX11_canBe_6 : decode cX11_canBe 6 = .ok (.getfield 268, 3) := by decide +kernel
theorem dX11_canBe_9 : decode cX11_canBe 9 = .ok (.if_icmp .ge 63, 3) := by decide +kernel
theorem dX11_canBe_12 : decode cX11_canBe 12 = .ok (.iconst 0, 1) := by decide +kernel
theorem dX11_canBe_13 : decode cX11_canBe 13 = .ok (.istore 4, 2) := by decide +kernel
theorem dX11_canBe_15 : decode cX11_canBe 15 = .ok (.iload 4, 2) := by decide +kernel
theorem dX11_canBe_17 : decode cX11_canBe 17 = .ok (.iload_n 3, 1) := by decide +kernel
theorem dX11_canBe_18 : decode cX11_canBe 18 = .ok (.if_icmp .ge 48, 3) := by decide +kernel
theorem dX11_canBe_21 : decode cX11_canBe 21 = .ok (.iload_n 2, 1) := by decide +kernel
theorem dX11_canBe_22 : decode cX11_canBe 22 = .ok (.ifCond .eq 36, 3) := by decide +kernel
theorem dX11_canBe_25 : decode cX11_canBe 25 = .ok (.iload_n 1, 1) := by decide +kernel
theorem dX11_canBe_26 : decode cX11_canBe 26 = .ok (.iload_n 3, 1) := by decide +kernel
theorem dX11_canBe_27 : decode cX11_canBe 27 = .ok (.ishr, 1) := by decide +kernel
theorem dX11_canBe_28 : decode cX11_canBe 28 = .ok (.iconst 1, 1) := by decide +kernel
theorem dX11_canBe_29 : decode cX11_canBe 29 = .ok (.iand, 1) := by decide +kernel
theorem dX11_canBe_30 : decode cX11_canBe 30 = .ok (.iconst 1, 1) := by decide +kernel
theorem dX11_canBe_31 : decode cX11_canBe 31 = .ok (.if_icmp .eq 23, 3) := by decide +kernel
theorem dX11_canBe_34 : decode cX11_canBe 34 = .ok (.iload_n 1, 1) := by decide +kernel
theorem dX11_canBe_35 : decode cX11_canBe 35 = .ok (.iload 4, 2) := by decide +kernel
theorem dX11_canBe_37 : decode cX11_canBe 37 = .ok (.ishr, 1) := by decide +kernel
theorem dX11_canBe_38 : decode cX11_canBe 38 = .ok (.iconst 1, 1) := by decide +kernel
theorem dX11_canBe_39 : decode cX11_canBe 39 = .ok (.iand, 1) := by decide +kernel
theorem dX11_canBe_40 : decode cX11_canBe 40 = .ok (.iconst 1, 1) := by decide +kernel
theorem dX11_canBe_41 : decode cX11_canBe 41 = .ok (.if_icmp .eq 13, 3) := by decide +kernel
theorem dX11_canBe_44 : decode cX11_canBe 44 = .ok (.aload_n 0, 1) := by decide +kernel
theorem dX11_canBe_45 : decode cX11_canBe 45 = .ok (.iload_n 3, 1) := by decide +kernel
theorem dX11_canBe_46 : decode cX11_canBe 46 = .ok (.iload 4, 2) := by decide +kernel
theorem dX11_canBe_48 : decode cX11_canBe 48 = .ok (.invokevirtual 271, 3) := by decide +kernel
theorem dX11_canBe_51 : decode cX11_canBe 51 = .ok (.ifCond .ne 7, 3) := by decide +kernel
theorem dX11_canBe_54 : decode cX11_canBe 54 = .ok (.iconst 1, 1) := by decide +kernel
theorem dX11_canBe_55 : decode cX11_canBe 55 = .ok (.goto 4, 3) := by decide +kernel
theorem dX11_canBe_58 : decode cX11_canBe 58 = .ok (.iconst 0, 1) := by decide +kernel
theorem dX11_canBe_59 : decode cX11_canBe 59 = .ok (.istore_n 2, 1) := by decide +kernel
theorem dX11_canBe_60 : decode cX11_canBe 60 = .ok (.iinc 4 1, 3) := by decide +kernel
theorem dX11_canBe_63 : decode cX11_canBe 63 = .ok (.goto (-48), 3) := by decide +kernel
theorem dX11_canBe_66 : decode cX11_canBe 66 = .ok (.iinc 3 1, 3) := by decide +kernel
theorem dX11_canBe_69 : decode cX11_canBe 69 = .ok (.goto (-65), 3) := by decide +kernel
theorem dX11_canBe_72 : decode cX11_canBe 72 = .ok (.iload_n 2, 1) := by decide +kernel
theorem dX11_canBe_73 : decode cX11_canBe 73 = .ok (.ireturn, 1) := by decide +kernel
set_option maxRecDepth 20000 in
theorem ggX11_untrue_X11_in : GoodIn wsX11_untrue wsX11_in := goodIn_r _ [5] (by decide +kernel) (by decide +kernel)
set_option maxRecDepth 20000 in
theorem gX11_untrue_X11_in : GoodIn wsX11_untrue (va_wsS RX11 138 yX11_in wsX11_in) := goodIn_app (goodIn_of _ (by decide +kernel)) ggX11_untrue_X11_in
set_option maxRecDepth 20000 in
theorem ggX11_untrue_X11_bits : GoodIn wsX11_untrue wsX11_bits := goodIn_r _ [8] (by decide +kernel) (by decide +kernel)
set_option maxRecDepth 20000 in
theorem gX11_untrue_X11_bits : GoodIn wsX11_untrue (va_wsS RX11 247 yX11_bits wsX11_bits) := goodIn_app (goodIn_of _ (by decide +kernel)) ggX11_untrue_X11_bits
set_option maxRecDepth 20000 in
theorem ggX11_untrue_X11_canBe : GoodIn wsX11_untrue wsX11_canBe := goodIn_r _ [12, 1, 13, 14, 15, 4, 16, 17, 18, 19, 20, 21, 22, 23, 24, 25, 26, 27, 28, 29, 30, 31, 32, 33, 34, 35, 36, 37, 38, 39, 40, 41, 42, 43, 44, 45, 46, 47, 48, 49, 50, 51, 52, 53, 54, 55, 56, 57, 58, 59, 60, 61, 62, 63, 64, 65, 66, 67, 68, 69, 70, 71, 72, 73, 74] (by decide +kernel) (by decide +kernel)
set_option maxRecDepth 20000 in
theorem gX11_untrue_X11_canBe : GoodIn wsX11_untrue (wsV RX11 274 RX11 yX11_canBe wsX11_canBe) := goodIn_app (goodIn_of _ (by decide +kernel)) ggX11_untrue_X11_canBe
theorem dX11_untrue_0 : decode cX11_untrue 0 = .ok (.iload_n 1, 1) := by decide +kernel
theorem dX11_untrue_1 : decode cX11_untrue 1 = .ok (.iconst 0, 1) := by decide +kernel
theorem dX11_untrue_2 : decode cX11_untrue 2 = .ok (.iconst 2, 1) := by decide +kernel
theorem dX11_untrue_3 : decode cX11_untrue 3 = .ok (.invokestatic 138, 3) := by decide +kernel
theorem dX11_untrue_6 : decode cX11_untrue 6 = .ok (.ifCond .ne 6, 3) := by decide +kernel
theorem dX11_untrue_9 : decode cX11_untrue 9 = .ok (.bipush (-2), 2) := by decide +kernel
theorem dX11_untrue_11 : decode cX11_untrue 11 = .ok (.ireturn, 1) := by decide +kernel
theorem dX11_untrue_12 : decode cX11_untrue 12 = .ok (.bipush (-6), 2) := by decide +kernel
theorem dX11_untrue_14 : decode cX11_untrue 14 = .ok (.istore_n 2, 1) := by decide +kernel
theorem dX11_untrue_15 : decode cX11_untrue 15 = .ok (.iconst 0, 1) := by decide +kernel
theorem dX11_untrue_16 : decode cX11_untrue 16 = .ok (.istore_n 3, 1) := by decide +kernel
theorem dX11_untrue_17 : decode cX11_untrue 17 = .ok (.iconst 0, 1) := by decide +kernel
theorem dX11_untrue_18 : decode cX11_untrue 18 = .ok (.istore 4, 2) := by decide +kernel
theorem dX11_untrue_20 : decode cX11_untrue 20 = .ok (.iload 4, 2) := by decide +kernel
theorem dX11_untrue_22 : decode cX11_untrue 22 = .ok (.iconst 1, 1) := by decide +kernel
theorem dX11_untrue_23 : decode cX11_untrue 23 = .ok (.aload_n 0, 1) := by decide +kernel
theorem dX11_untrue_24 : decode cX11_untrue 24 = .ok (.getfield 268, 3) := by decide +kernel
theorem dX11_untrue_27 : decode cX11_untrue 27 = .ok (.ishl, 1) := by decide +kernel
theorem dX11_untrue_28 : decode cX11_untrue 28 = .ok (.if_icmp .ge 84, 3) := by decide +kernel
theorem dX11_untrue_31 : decode cX11_untrue 31 = .ok (.iload_n 2, 1) := by decide +kernel
theorem dX11_untrue_32 : decode cX11_untrue 32 = .ok (.ifCond .lt 15, 3) := by decide +kernel
theorem dX11_untrue_35 : decode cX11_untrue 35 = .ok (.iload 4, 2) := by decide +kernel
theorem dX11_untrue_37 : decode cX11_untrue 37 = .ok (.invokestatic 247, 3) := by decide +kernel
theorem dX11_untrue_40 : decode cX11_untrue 40 = .ok (.iload_n 2, 1) := by decide +kernel
theorem dX11_untrue_41 : decode cX11_untrue 41 = .ok (.invokestatic 247, 3) := by decide +kernel
theorem dX11_untrue_44 : decode cX11_untrue 44 = .ok (.if_icmp .gt 62, 3) := by decide +kernel
theorem dX11_untrue_47 : decode cX11_untrue 47 = .ok (.aload_n 0, 1) := by decide +kernel
theorem dX11_untrue_48 : decode cX11_untrue 48 = .ok (.iload 4, 2) := by decide +kernel
theorem dX11_untrue_50 : decode cX11_untrue 50 = .ok (.invokevirtual 274, 3) := by decide +kernel
theorem dX11_untrue_53 : decode cX11_untrue 53 = .ok (.ifCond .eq 53, 3) := by decide +kernel
theorem dX11_untrue_56 : decode cX11_untrue 56 = .ok (.iload_n 2, 1) := by decide +kernel
theorem dX11_untrue_57 : decode cX11_untrue 57 = .ok (.ifCond .lt 15, 3) := by decide +kernel
theorem dX11_untrue_60 : decode cX11_untrue 60 = .ok (.iload 4, 2) := by decide +kernel
theorem dX11_untrue_62 : decode cX11_untrue 62 = .ok (.invokestatic 247, 3) := by decide +kernel
theorem dX11_untrue_65 : decode cX11_untrue 65 = .ok (.iload_n 2, 1) := by decide +kernel
theorem dX11_untrue_66 : decode cX11_untrue 66 = .ok (.invokestatic 247, 3) := by decide +kernel
theorem dX11_untrue_69 : decode cX11_untrue 69 = .ok (.if_icmp .ge 7, 3) := by decide +kernel
theorem dX11_untrue_72 : decode cX11_untrue 72 = .ok (.iconst 1, 1) := by decide +kernel
theorem dX11_untrue_73 : decode cX11_untrue 73 = .ok (.goto 4, 3) := by decide +kernel
theorem dX11_untrue_76 : decode cX11_untrue 76 = .ok (.iconst 0, 1) := by decide +kernel
theorem dX11_untrue_77 : decode cX11_untrue 77 = .ok (.istore 5, 2) := by decide +kernel
theorem dX11_untrue_79 : decode cX11_untrue 79 = .ok (.iload 5, 2) := by decide +kernel
theorem dX11_untrue_81 : decode cX11_untrue 81 = .ok (.ifCond .eq 8, 3) := by decide +kernel
theorem dX11_untrue_84 : decode cX11_untrue 84 = .ok (.iload 4, 2) := by decide +kernel
theorem dX11_untrue_86 : decode cX11_untrue 86 = .ok (.goto 7, 3) := by decide +kernel
theorem dX11_untrue_89 : decode cX11_untrue 89 = .ok (.iload_n 3, 1) := by decide +kernel
theorem dX11_untrue_90 : decode cX11_untrue 90 = .ok (.iload 4, 2) := by decide +kernel
theorem dX11_untrue_92 : decode cX11_untrue 92 = .ok (.iand, 1) := by decide +kernel
theorem dX11_untrue_93 : decode cX11_untrue 93 = .ok (.istore_n 3, 1) := by decide +kernel
theorem dX11_untrue_94 : decode cX11_untrue 94 = .ok (.iload 5, 2) := by decide +kernel
theorem dX11_untrue_96 : decode cX11_untrue 96 = .ok (.ifCond .eq 8, 3) := by decide +kernel
theorem dX11_untrue_99 : decode cX11_untrue 99 = .ok (.iload 4, 2) := by decide +kernel
theorem dX11_untrue_101 : decode cX11_untrue 101 = .ok (.goto 4, 3) := by decide +kernel
theorem dX11_untrue_104 : decode cX11_untrue 104 = .ok (.iload_n 2, 1) := by decide +kernel
theorem dX11_untrue_105 : decode cX11_untrue 105 = .ok (.istore_n 2, 1) := by decide +kernel
theorem dX11_untrue_106 : decode cX11_untrue 106 = .ok (.iinc 4 1, 3) := by decide +kernel
theorem dX11_untrue_109 : decode cX11_untrue 109 = .ok (.goto (-89), 3) := by decide +kernel
theorem dX11_untrue_112 : decode cX11_untrue 112 = .ok (.iload_n 1, 1) := by decide +kernel
theorem dX11_untrue_113 : decode cX11_untrue 113 = .ok (.ifCond .ne 7, 3) := by decide +kernel
theorem dX11_untrue_116 : decode cX11_untrue 116 = .ok (.iload_n 2, 1) := by decide +kernel
theorem dX11_untrue_117 : decode cX11_untrue 117 = .ok (.goto 16, 3) := by decide +kernel
theorem dX11_untrue_120 : decode cX11_untrue 120 = .ok (.iload_n 1, 1) := by decide +kernel
theorem dX11_untrue_121 : decode cX11_untrue 121 = .ok (.iconst 1, 1) := by decide +kernel
theorem dX11_untrue_122 : decode cX11_untrue 122 = .ok (.if_icmp .ne 10, 3) := by decide +kernel
theorem dX11_untrue_125 : decode cX11_untrue 125 = .ok (.iload_n 2, 1) := by decide +kernel
theorem dX11_untrue_126 : decode cX11_untrue 126 = .ok (.invokestatic 247, 3) := by decide +kernel
theorem dX11_untrue_129 : decode cX11_untrue 129 = .ok (.goto 4, 3) := by decide +kernel
theorem dX11_untrue_132 : decode cX11_untrue 132 = .ok (.iload_n 3, 1) := by decide +kernel
theorem dX11_untrue_133 : decode cX11_untrue 133 = .ok (.ireturn, 1) := by decide +kernel
set_option maxRecDepth 20000 in
theorem ggX11_take_X11_isSide : GoodIn wsX11_take wsX11_isSide := goodIn_r _ [5, 6, 7, 4, 8] (by decide +kernel) (by decide +kernel)
set_option maxRecDepth 20000 in
theorem gX11_take_X11_isSide : GoodIn wsX11_take (va_wsS RX11 149 yX11_isSide wsX11_isSide) := goodIn_app (goodIn_of _ (by decide +kernel)) ggX11_take_X11_isSide
set_option maxRecDepth 20000 in
theorem ggX11_take_X11_in : GoodIn wsX11_take wsX11_in := goodIn_r _ [8] (by decide +kernel) (by decide +kernel)
set_option maxRecDepth 20000 in
theorem gX11_take_X11_in : GoodIn wsX11_take (va_wsS RX11 138 yX11_in wsX11_in) := goodIn_app (goodIn_of _ (by decide +kernel)) ggX11_take_X11_in
theorem dX11_take_0 : decode cX11_take 0 = .ok (.iload_n 1, 1) := by decide +kernel
theorem dX11_take_1 : decode cX11_take 1 = .ok (.invokestatic 149, 3) := by decide +kernel
theorem dX11_take_4 : decode cX11_take 4 = .ok (.ifCond .ne 5, 3) := by decide +kernel
theorem dX11_take_7 : decode cX11_take 7 = .ok (.iconst (-1), 1) := by decide +kernel
theorem dX11_take_8 : decode cX11_take 8 = .ok (.ireturn, 1) := by decide +kernel
theorem dX11_take_9 : decode cX11_take 9 = .ok (.iload_n 2, 1) := by decide +kernel
theorem dX11_take_10 : decode cX11_take 10 = .ok (.iconst 0, 1) := by decide +kernel
theorem dX11_take_11 : decode cX11_take 11 = .ok (.bipush 99, 2) := by decide +kernel
theorem dX11_take_13 : decode cX11_take 13 = .ok (.invokestatic 138, 3) := by decide +kernel
theorem dX11_take_16 : decode cX11_take 16 = .ok (.ifCond .ne 6, 3) := by decide +kernel
theorem dX11_take_19 : decode cX11_take 19 = .ok (.bipush (-2), 2) := by decide +kernel
theorem dX11_take_21 : decode cX11_take 21 = .ok (.ireturn, 1) := by decide +kernel
theorem dX11_take_22 : decode cX11_take 22 = .ok (.aload_n 0, 1) := by decide +kernel
theorem dX11_take_23 : decode cX11_take 23 = .ok (.getfield 13, 3) := by decide +kernel
theorem dX11_take_26 : decode cX11_take 26 = .ok (.iload_n 1, 1) := by decide +kernel
theorem dX11_take_27 : decode cX11_take 27 = .ok (.iaload, 1) := by decide +kernel
theorem dX11_take_28 : decode cX11_take 28 = .ok (.istore_n 3, 1) := by decide +kernel
theorem dX11_take_29 : decode cX11_take 29 = .ok (.aload_n 0, 1) := by decide +kernel
theorem dX11_take_30 : decode cX11_take 30 = .ok (.getfield 13, 3) := by decide +kernel
theorem dX11_take_33 : decode cX11_take 33 = .ok (.iload_n 1, 1) := by decide +kernel
theorem dX11_take_34 : decode cX11_take 34 = .ok (.iload_n 2, 1) := by decide +kernel
theorem dX11_take_35 : decode cX11_take 35 = .ok (.iastore, 1) := by decide +kernel
theorem dX11_take_36 : decode cX11_take 36 = .ok (.iload_n 3, 1) := by decide +kernel
theorem dX11_take_37 : decode cX11_take 37 = .ok (.ireturn, 1) := by decide +kernel
theorem dX11_plays_0 : decode cX11_plays 0 = .ok (.iconst 0, 1) := by decide +kernel
theorem dX11_plays_1 : decode cX11_plays 1 = .ok (.istore_n 2, 1) := by decide +kernel
theorem dX11_plays_2 : decode cX11_plays 2 = .ok (.iconst 0, 1) := by decide +kernel
theorem dX11_plays_3 : decode cX11_plays 3 = .ok (.istore_n 3, 1) := by decide +kernel
theorem dX11_plays_4 : decode cX11_plays 4 = .ok (.iload_n 3, 1) := by decide +kernel
theorem dX11_plays_5 : decode cX11_plays 5 = .ok (.aload_n 0, 1) := by decide +kernel
theorem dX11_plays_6 : decode cX11_plays 6 = .ok (.getfield 142, 3) := by decide +kernel
theorem dX11_plays_9 : decode cX11_plays 9 = .ok (.if_icmp .ge 39, 3) := by decide +kernel
theorem dX11_plays_12 : decode cX11_plays 12 = .ok (.iload_n 2, 1) := by decide +kernel
theorem dX11_plays_13 : decode cX11_plays 13 = .ok (.ifCond .ne 23, 3) := by decide +kernel
theorem dX11_plays_16 : decode cX11_plays 16 = .ok (.aload_n 0, 1) := by decide +kernel
theorem dX11_plays_17 : decode cX11_plays 17 = .ok (.getfield 16, 3) := by decide +kernel
theorem dX11_plays_20 : decode cX11_plays 20 = .ok (.iload_n 3, 1) := by decide +kernel
theorem dX11_plays_21 : decode cX11_plays 21 = .ok (.iaload, 1) := by decide +kernel
theorem dX11_plays_22 : decode cX11_plays 22 = .ok (.iload_n 1, 1) := by decide +kernel
theorem dX11_plays_23 : decode cX11_plays 23 = .ok (.if_icmp .eq 13, 3) := by decide +kernel
theorem dX11_plays_26 : decode cX11_plays 26 = .ok (.aload_n 0, 1) := by decide +kernel
theorem dX11_plays_27 : decode cX11_plays 27 = .ok (.getfield 19, 3) := by decide +kernel
theorem dX11_plays_30 : decode cX11_plays 30 = .ok (.iload_n 3, 1) := by decide +kernel
theorem dX11_plays_31 : decode cX11_plays 31 = .ok (.iaload, 1) := by decide +kernel
theorem dX11_plays_32 : decode cX11_plays 32 = .ok (.iload_n 1, 1) := by decide +kernel
theorem dX11_plays_33 : decode cX11_plays 33 = .ok (.if_icmp .ne 7, 3) := by decide +kernel
theorem dX11_plays_36 : decode cX11_plays 36 = .ok (.iconst 1, 1) := by decide +kernel
theorem dX11_plays_37 : decode cX11_plays 37 = .ok (.goto 4, 3) := by decide +kernel
theorem dX11_plays_40 : decode cX11_plays 40 = .ok (.iconst 0, 1) := by decide +kernel
theorem dX11_plays_41 : decode cX11_plays 41 = .ok (.istore_n 2, 1) := by decide +kernel
theorem dX11_plays_42 : decode cX11_plays 42 = .ok (.iinc 3 1, 3) := by decide +kernel
theorem dX11_plays_45 : decode cX11_plays 45 = .ok (.goto (-41), 3) := by decide +kernel
theorem dX11_plays_48 : decode cX11_plays 48 = .ok (.iload_n 2, 1) := by decide +kernel
theorem dX11_plays_49 : decode cX11_plays 49 = .ok (.ireturn, 1) := by decide +kernel
set_option maxRecDepth 20000 in
theorem ggX11_pointsOf_X11_endOf : GoodIn wsX11_pointsOf wsX11_endOf := goodIn_r _ [9, 10, 11, 12, 8, 13, 14, 15, 16, 17, 18, 19, 20, 21, 22, 23, 24, 25, 26, 27, 28, 29, 30, 31, 32, 33, 34, 35, 36, 37, 38, 39, 40, 41, 42, 43, 44, 45, 46, 47, 48, 49, 50, 51, 52, 53, 54, 55, 56, 57, 58, 59, 60, 61, 62, 63, 64, 65, 66, 67, 68] (by decide +kernel) (by decide +kernel)
set_option maxRecDepth 20000 in
theorem gX11_pointsOf_X11_endOf : GoodIn wsX11_pointsOf (wsV RX11 160 RX11 yX11_endOf wsX11_endOf) := goodIn_app (goodIn_of _ (by decide +kernel)) ggX11_pointsOf_X11_endOf
theorem dX11_pointsOf_0 : decode cX11_pointsOf 0 = .ok (.aload_n 0, 1) := by decide +kernel
theorem dX11_pointsOf_1 : decode cX11_pointsOf 1 = .ok (.getfield 13, 3) := by decide +kernel
theorem dX11_pointsOf_4 : decode cX11_pointsOf 4 = .ok (.iload_n 1, 1) := by decide +kernel
theorem dX11_pointsOf_5 : decode cX11_pointsOf 5 = .ok (.iaload, 1) := by decide +kernel
theorem dX11_pointsOf_6 : decode cX11_pointsOf 6 = .ok (.ineg, 1) := by decide +kernel
theorem dX11_pointsOf_7 : decode cX11_pointsOf 7 = .ok (.istore_n 2, 1) := by decide +kernel
theorem dX11_pointsOf_8 : decode cX11_pointsOf 8 = .ok (.iconst 0, 1) := by decide +kernel
theorem dX11_pointsOf_9 : decode cX11_pointsOf 9 = .ok (.istore_n 3, 1) := by decide +kernel
theorem dX11_pointsOf_10 : decode cX11_pointsOf 10 = .ok (.iload_n 3, 1) := by decide +kernel
theorem dX11_pointsOf_11 : decode cX11_pointsOf 11 = .ok (.aload_n 0, 1) := by decide +kernel
theorem dX11_pointsOf_12 : decode cX11_pointsOf 12 = .ok (.getfield 142, 3) := by decide +kernel
theorem dX11_pointsOf_15 : decode cX11_pointsOf 15 = .ok (.if_icmp .ge 91, 3) := by decide +kernel
theorem dX11_pointsOf_18 : decode cX11_pointsOf 18 = .ok (.aload_n 0, 1) := by decide +kernel
theorem dX11_pointsOf_19 : decode cX11_pointsOf 19 = .ok (.iload_n 3, 1) := by decide +kernel
theorem dX11_pointsOf_20 : decode cX11_pointsOf 20 = .ok (.invokevirtual 160, 3) := by decide +kernel
theorem dX11_pointsOf_23 : decode cX11_pointsOf 23 = .ok (.istore 4, 2) := by decide +kernel
theorem dX11_pointsOf_25 : decode cX11_pointsOf 25 = .ok (.iload_n 2, 1) := by decide +kernel
theorem dX11_pointsOf_26 : decode cX11_pointsOf 26 = .ok (.aload_n 0, 1) := by decide +kernel
theorem dX11_pointsOf_27 : decode cX11_pointsOf 27 = .ok (.getfield 16, 3) := by decide +kernel
theorem dX11_pointsOf_30 : decode cX11_pointsOf 30 = .ok (.iload_n 3, 1) := by decide +kernel
theorem dX11_pointsOf_31 : decode cX11_pointsOf 31 = .ok (.iaload, 1) := by decide +kernel
theorem dX11_pointsOf_32 : decode cX11_pointsOf 32 = .ok (.iload_n 1, 1) := by decide +kernel
theorem dX11_pointsOf_33 : decode cX11_pointsOf 33 = .ok (.if_icmp .ne 26, 3) := by decide +kernel
theorem dX11_pointsOf_36 : decode cX11_pointsOf 36 = .ok (.iload 4, 2) := by decide +kernel
theorem dX11_pointsOf_38 : decode cX11_pointsOf 38 = .ok (.ifCond .ne 7, 3) := by decide +kernel
theorem dX11_pointsOf_41 : decode cX11_pointsOf 41 = .ok (.iconst 3, 1) := by decide +kernel
theorem dX11_pointsOf_42 : decode cX11_pointsOf 42 = .ok (.goto 18, 3) := by decide +kernel
theorem dX11_pointsOf_45 : decode cX11_pointsOf 45 = .ok (.iload 4, 2) := by decide +kernel
theorem dX11_pointsOf_47 : decode cX11_pointsOf 47 = .ok (.iconst 1, 1) := by decide +kernel
theorem dX11_pointsOf_48 : decode cX11_pointsOf 48 = .ok (.if_icmp .ne 7, 3) := by decide +kernel
theorem dX11_pointsOf_51 : decode cX11_pointsOf 51 = .ok (.iconst 1, 1) := by decide +kernel
theorem dX11_pointsOf_52 : decode cX11_pointsOf 52 = .ok (.goto 8, 3) := by decide +kernel
theorem dX11_pointsOf_55 : decode cX11_pointsOf 55 = .ok (.iconst 0, 1) := by decide +kernel
theorem dX11_pointsOf_56 : decode cX11_pointsOf 56 = .ok (.goto 4, 3) := by decide +kernel
theorem dX11_pointsOf_59 : decode cX11_pointsOf 59 = .ok (.iconst 0, 1) := by decide +kernel
theorem dX11_pointsOf_60 : decode cX11_pointsOf 60 = .ok (.iadd, 1) := by decide +kernel
theorem dX11_pointsOf_61 : decode cX11_pointsOf 61 = .ok (.istore_n 2, 1) := by decide +kernel
theorem dX11_pointsOf_62 : decode cX11_pointsOf 62 = .ok (.iload_n 2, 1) := by decide +kernel
theorem dX11_pointsOf_63 : decode cX11_pointsOf 63 = .ok (.aload_n 0, 1) := by decide +kernel
theorem dX11_pointsOf_64 : decode cX11_pointsOf 64 = .ok (.getfield 19, 3) := by decide +kernel
theorem dX11_pointsOf_67 : decode cX11_pointsOf 67 = .ok (.iload_n 3, 1) := by decide +kernel
theorem dX11_pointsOf_68 : decode cX11_pointsOf 68 = .ok (.iaload, 1) := by decide +kernel
theorem dX11_pointsOf_69 : decode cX11_pointsOf 69 = .ok (.iload_n 1, 1) := by decide +kernel
theorem dX11_pointsOf_70 : decode cX11_pointsOf 70 = .ok (.if_icmp .ne 27, 3) := by decide +kernel
theorem dX11_pointsOf_73 : decode cX11_pointsOf 73 = .ok (.iload 4, 2) := by decide +kernel
theorem dX11_pointsOf_75 : decode cX11_pointsOf 75 = .ok (.iconst 2, 1) := by decide +kernel
theorem dX11_pointsOf_76 : decode cX11_pointsOf 76 = .ok (.if_icmp .ne 7, 3) := by decide +kernel
theorem dX11_pointsOf_79 : decode cX11_pointsOf 79 = .ok (.iconst 3, 1) := by decide +kernel
theorem dX11_pointsOf_80 : decode cX11_pointsOf 80 = .ok (.goto 18, 3) := by decide +kernel
theorem dX11_pointsOf_83 : decode cX11_pointsOf 83 = .ok (.iload 4, 2) := by decide +kernel
theorem dX11_pointsOf_85 : decode cX11_pointsOf 85 = .ok (.iconst 1, 1) := by decide +kernel
theorem dX11_pointsOf_86 : decode cX11_pointsOf 86 = .ok (.if_icmp .ne 7, 3) := by decide +kernel
theorem dX11_pointsOf_89 : decode cX11_pointsOf 89 = .ok (.iconst 1, 1) := by decide +kernel
theorem dX11_pointsOf_90 : decode cX11_pointsOf 90 = .ok (.goto 8, 3) := by decide +kernel
theorem dX11_pointsOf_93 : decode cX11_pointsOf 93 = .ok (.iconst 0, 1) := by decide +kernel
theorem dX11_pointsOf_94 : decode cX11_pointsOf 94 = .ok (.goto 4, 3) := by decide +kernel
theorem dX11_pointsOf_97 : decode cX11_pointsOf 97 = .ok (.iconst 0, 1) := by decide +kernel
theorem dX11_pointsOf_98 : decode cX11_pointsOf 98 = .ok (.iadd, 1) := by decide +kernel
theorem dX11_pointsOf_99 : decode cX11_pointsOf 99 = .ok (.istore_n 2, 1) := by decide +kernel
theorem dX11_pointsOf_100 : decode cX11_pointsOf 100 = .ok (.iinc 3 1, 3) := by decide +kernel
theorem dX11_pointsOf_103 : decode cX11_pointsOf 103 = .ok (.goto (-93), 3) := by decide +kernel
theorem dX11_pointsOf_106 : decode cX11_pointsOf 106 = .ok (.iload_n 2, 1) := by decide +kernel
theorem dX11_pointsOf_107 : decode cX11_pointsOf 107 = .ok (.ireturn, 1) := by decide +kernel
set_option maxRecDepth 20000 in
theorem ggX11_offOf_X11_scored : GoodIn wsX11_offOf wsX11_scored := goodIn_r _ [8, 9, 10, 11, 12, 13, 14, 15, 16, 17, 18, 19, 20, 21, 22, 23, 24, 25, 26, 27, 28, 29, 30, 31, 32, 33, 34, 35, 36, 37, 38, 39, 40, 41, 42, 43, 44, 45, 46, 47, 48, 49, 50, 51, 52, 53, 54, 55, 56, 57, 58, 59, 60, 61, 62, 63] (by decide +kernel) (by decide +kernel)
set_option maxRecDepth 20000 in
theorem gX11_offOf_X11_scored : GoodIn wsX11_offOf (wsV RX11 156 RX11 yX11_scored wsX11_scored) := goodIn_app (goodIn_of _ (by decide +kernel)) ggX11_offOf_X11_scored
theorem dX11_offOf_0 : decode cX11_offOf 0 = .ok (.iconst 0, 1) := by decide +kernel
theorem dX11_offOf_1 : decode cX11_offOf 1 = .ok (.istore_n 2, 1) := by decide +kernel
theorem dX11_offOf_2 : decode cX11_offOf 2 = .ok (.iconst 0, 1) := by decide +kernel
theorem dX11_offOf_3 : decode cX11_offOf 3 = .ok (.istore_n 3, 1) := by decide +kernel
theorem dX11_offOf_4 : decode cX11_offOf 4 = .ok (.iload_n 3, 1) := by decide +kernel
theorem dX11_offOf_5 : decode cX11_offOf 5 = .ok (.aload_n 0, 1) := by decide +kernel
theorem dX11_offOf_6 : decode cX11_offOf 6 = .ok (.getfield 142, 3) := by decide +kernel
theorem dX11_offOf_9 : decode cX11_offOf 9 = .ok (.if_icmp .ge 63, 3) := by decide +kernel
theorem dX11_offOf_12 : decode cX11_offOf 12 = .ok (.aload_n 0, 1) := by decide +kernel
theorem dX11_offOf_13 : decode cX11_offOf 13 = .ok (.iload_n 3, 1) := by decide +kernel
theorem dX11_offOf_14 : decode cX11_offOf 14 = .ok (.bipush 6, 2) := by decide +kernel
theorem dX11_offOf_16 : decode cX11_offOf 16 = .ok (.iconst 1, 1) := by decide +kernel
theorem dX11_offOf_17 : decode cX11_offOf 17 = .ok (.invokevirtual 156, 3) := by decide +kernel
theorem dX11_offOf_20 : decode cX11_offOf 20 = .ok (.aload_n 0, 1) := by decide +kernel
theorem dX11_offOf_21 : decode cX11_offOf 21 = .ok (.iload_n 3, 1) := by decide +kernel
theorem dX11_offOf_22 : decode cX11_offOf 22 = .ok (.bipush 6, 2) := by decide +kernel
theorem dX11_offOf_24 : decode cX11_offOf 24 = .ok (.iconst 2, 1) := by decide +kernel
theorem dX11_offOf_25 : decode cX11_offOf 25 = .ok (.invokevirtual 156, 3) := by decide +kernel
theorem dX11_offOf_28 : decode cX11_offOf 28 = .ok (.isub, 1) := by decide +kernel
theorem dX11_offOf_29 : decode cX11_offOf 29 = .ok (.istore 4, 2) := by decide +kernel
theorem dX11_offOf_31 : decode cX11_offOf 31 = .ok (.iload_n 2, 1) := by decide +kernel
theorem dX11_offOf_32 : decode cX11_offOf 32 = .ok (.aload_n 0, 1) := by decide +kernel
theorem dX11_offOf_33 : decode cX11_offOf 33 = .ok (.getfield 16, 3) := by decide +kernel
theorem dX11_offOf_36 : decode cX11_offOf 36 = .ok (.iload_n 3, 1) := by decide +kernel
theorem dX11_offOf_37 : decode cX11_offOf 37 = .ok (.iaload, 1) := by decide +kernel
theorem dX11_offOf_38 : decode cX11_offOf 38 = .ok (.iload_n 1, 1) := by decide +kernel
theorem dX11_offOf_39 : decode cX11_offOf 39 = .ok (.if_icmp .ne 8, 3) := by decide +kernel
theorem dX11_offOf_42 : decode cX11_offOf 42 = .ok (.iload 4, 2) := by decide +kernel
theorem dX11_offOf_44 : decode cX11_offOf 44 = .ok (.goto 20, 3) := by decide +kernel
theorem dX11_offOf_47 : decode cX11_offOf 47 = .ok (.aload_n 0, 1) := by decide +kernel
theorem dX11_offOf_48 : decode cX11_offOf 48 = .ok (.getfield 19, 3) := by decide +kernel
theorem dX11_offOf_51 : decode cX11_offOf 51 = .ok (.iload_n 3, 1) := by decide +kernel
theorem dX11_offOf_52 : decode cX11_offOf 52 = .ok (.iaload, 1) := by decide +kernel
theorem dX11_offOf_53 : decode cX11_offOf 53 = .ok (.iload_n 1, 1) := by decide +kernel
theorem dX11_offOf_54 : decode cX11_offOf 54 = .ok (.if_icmp .ne 9, 3) := by decide +kernel
theorem dX11_offOf_57 : decode cX11_offOf 57 = .ok (.iload 4, 2) := by decide +kernel
theorem dX11_offOf_59 : decode cX11_offOf 59 = .ok (.ineg, 1) := by decide +kernel
theorem dX11_offOf_60 : decode cX11_offOf 60 = .ok (.goto 4, 3) := by decide +kernel
theorem dX11_offOf_63 : decode cX11_offOf 63 = .ok (.iconst 0, 1) := by decide +kernel
theorem dX11_offOf_64 : decode cX11_offOf 64 = .ok (.iadd, 1) := by decide +kernel
theorem dX11_offOf_65 : decode cX11_offOf 65 = .ok (.istore_n 2, 1) := by decide +kernel
theorem dX11_offOf_66 : decode cX11_offOf 66 = .ok (.iinc 3 1, 3) := by decide +kernel
theorem dX11_offOf_69 : decode cX11_offOf 69 = .ok (.goto (-65), 3) := by decide +kernel
theorem dX11_offOf_72 : decode cX11_offOf 72 = .ok (.iload_n 2, 1) := by decide +kernel
theorem dX11_offOf_73 : decode cX11_offOf 73 = .ok (.ireturn, 1) := by decide +kernel
