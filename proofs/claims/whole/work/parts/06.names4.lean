set_option maxRecDepth 20000 in
theorem ggX11_neededOf_X11_priceOf : GoodIn wsX11_neededOf wsX11_priceOf := goodIn_r _ [11, 12, 13, 14, 15, 16, 17, 18, 19, 20, 21, 22, 23, 24, 25, 26, 27, 28, 29, 30, 31, 32, 33, 34, 35, 36, 37, 38, 39, 40, 41, 42, 43, 44, 45, 46, 47, 48, 49, 50, 51, 52, 53, 54, 55, 56, 57, 58, 59, 60, 61, 62, 63, 64, 65, 66] (by decide +kernel) (by decide +kernel)
set_option maxRecDepth 20000 in
theorem gX11_neededOf_X11_priceOf : GoodIn wsX11_neededOf (wsV RX11 250 RX11 yX11_priceOf wsX11_priceOf) := goodIn_app (goodIn_of _ (by decide +kernel)) ggX11_neededOf_X11_priceOf
theorem dX11_neededOf_0 : decode cX11_neededOf 0 = .ok (.sipush 1023, 3) := by decide +kernel
theorem dX11_neededOf_3 : decode cX11_neededOf 3 = .ok (.istore_n 2, 1) := by decide +kernel
theorem dX11_neededOf_4 : decode cX11_neededOf 4 = .ok (.iconst 0, 1) := by decide +kernel
theorem dX11_neededOf_5 : decode cX11_neededOf 5 = .ok (.istore_n 3, 1) := by decide +kernel
theorem dX11_neededOf_6 : decode cX11_neededOf 6 = .ok (.iload_n 3, 1) := by decide +kernel
theorem dX11_neededOf_7 : decode cX11_neededOf 7 = .ok (.sipush 1024, 3) := by decide +kernel
theorem dX11_neededOf_10 : decode cX11_neededOf 10 = .ok (.if_icmp .ge 140, 3) := by decide +kernel
theorem dX11_neededOf_13 : decode cX11_neededOf 13 = .ok (.iconst 1, 1) := by decide +kernel
theorem dX11_neededOf_14 : decode cX11_neededOf 14 = .ok (.istore 4, 2) := by decide +kernel
theorem dX11_neededOf_16 : decode cX11_neededOf 16 = .ok (.iconst 0, 1) := by decide +kernel
theorem dX11_neededOf_17 : decode cX11_neededOf 17 = .ok (.istore 5, 2) := by decide +kernel
theorem dX11_neededOf_19 : decode cX11_neededOf 19 = .ok (.iload 5, 2) := by decide +kernel
theorem dX11_neededOf_21 : decode cX11_neededOf 21 = .ok (.aload_n 0, 1) := by decide +kernel
theorem dX11_neededOf_22 : decode cX11_neededOf 22 = .ok (.getfield 244, 3) := by decide +kernel
theorem dX11_neededOf_25 : decode cX11_neededOf 25 = .ok (.if_icmp .ge 44, 3) := by decide +kernel
theorem dX11_neededOf_28 : decode cX11_neededOf 28 = .ok (.iload 4, 2) := by decide +kernel
theorem dX11_neededOf_30 : decode cX11_neededOf 30 = .ok (.ifCond .eq 39, 3) := by decide +kernel
theorem dX11_neededOf_33 : decode cX11_neededOf 33 = .ok (.aload_n 0, 1) := by decide +kernel
theorem dX11_neededOf_34 : decode cX11_neededOf 34 = .ok (.getfield 80, 3) := by decide +kernel
theorem dX11_neededOf_37 : decode cX11_neededOf 37 = .ok (.iload 5, 2) := by decide +kernel
theorem dX11_neededOf_39 : decode cX11_neededOf 39 = .ok (.iaload, 1) := by decide +kernel
theorem dX11_neededOf_40 : decode cX11_neededOf 40 = .ok (.iload_n 1, 1) := by decide +kernel
theorem dX11_neededOf_41 : decode cX11_neededOf 41 = .ok (.if_icmp .ne 15, 3) := by decide +kernel
theorem dX11_neededOf_44 : decode cX11_neededOf 44 = .ok (.aload_n 0, 1) := by decide +kernel
theorem dX11_neededOf_45 : decode cX11_neededOf 45 = .ok (.getfield 83, 3) := by decide +kernel
theorem dX11_neededOf_48 : decode cX11_neededOf 48 = .ok (.iload 5, 2) := by decide +kernel
theorem dX11_neededOf_50 : decode cX11_neededOf 50 = .ok (.iaload, 1) := by decide +kernel
theorem dX11_neededOf_51 : decode cX11_neededOf 51 = .ok (.iload_n 3, 1) := by decide +kernel
theorem dX11_neededOf_52 : decode cX11_neededOf 52 = .ok (.iand, 1) := by decide +kernel
theorem dX11_neededOf_53 : decode cX11_neededOf 53 = .ok (.ifCond .eq 7, 3) := by decide +kernel
theorem dX11_neededOf_56 : decode cX11_neededOf 56 = .ok (.iconst 1, 1) := by decide +kernel
theorem dX11_neededOf_57 : decode cX11_neededOf 57 = .ok (.goto 4, 3) := by decide +kernel
theorem dX11_neededOf_60 : decode cX11_neededOf 60 = .ok (.iconst 0, 1) := by decide +kernel
theorem dX11_neededOf_61 : decode cX11_neededOf 61 = .ok (.istore 4, 2) := by decide +kernel
theorem dX11_neededOf_63 : decode cX11_neededOf 63 = .ok (.iinc 5 1, 3) := by decide +kernel
theorem dX11_neededOf_66 : decode cX11_neededOf 66 = .ok (.goto (-47), 3) := by decide +kernel
theorem dX11_neededOf_69 : decode cX11_neededOf 69 = .ok (.iload_n 3, 1) := by decide +kernel
theorem dX11_neededOf_70 : decode cX11_neededOf 70 = .ok (.invokestatic 247, 3) := by decide +kernel
theorem dX11_neededOf_73 : decode cX11_neededOf 73 = .ok (.iload_n 2, 1) := by decide +kernel
theorem dX11_neededOf_74 : decode cX11_neededOf 74 = .ok (.invokestatic 247, 3) := by decide +kernel
theorem dX11_neededOf_77 : decode cX11_neededOf 77 = .ok (.isub, 1) := by decide +kernel
theorem dX11_neededOf_78 : decode cX11_neededOf 78 = .ok (.istore 5, 2) := by decide +kernel
theorem dX11_neededOf_80 : decode cX11_neededOf 80 = .ok (.iload 5, 2) := by decide +kernel
theorem dX11_neededOf_82 : decode cX11_neededOf 82 = .ok (.ifCond .lt 39, 3) := by decide +kernel
theorem dX11_neededOf_85 : decode cX11_neededOf 85 = .ok (.iload 5, 2) := by decide +kernel
theorem dX11_neededOf_87 : decode cX11_neededOf 87 = .ok (.ifCond .ne 38, 3) := by decide +kernel
theorem dX11_neededOf_90 : decode cX11_neededOf 90 = .ok (.aload_n 0, 1) := by decide +kernel
theorem dX11_neededOf_91 : decode cX11_neededOf 91 = .ok (.iload_n 3, 1) := by decide +kernel
theorem dX11_neededOf_92 : decode cX11_neededOf 92 = .ok (.invokevirtual 250, 3) := by decide +kernel
theorem dX11_neededOf_95 : decode cX11_neededOf 95 = .ok (.aload_n 0, 1) := by decide +kernel
theorem dX11_neededOf_96 : decode cX11_neededOf 96 = .ok (.iload_n 2, 1) := by decide +kernel
theorem dX11_neededOf_97 : decode cX11_neededOf 97 = .ok (.invokevirtual 250, 3) := by decide +kernel
theorem dX11_neededOf_100 : decode cX11_neededOf 100 = .ok (.if_icmp .lt 21, 3) := by decide +kernel
theorem dX11_neededOf_103 : decode cX11_neededOf 103 = .ok (.aload_n 0, 1) := by decide +kernel
theorem dX11_neededOf_104 : decode cX11_neededOf 104 = .ok (.iload_n 3, 1) := by decide +kernel
theorem dX11_neededOf_105 : decode cX11_neededOf 105 = .ok (.invokevirtual 250, 3) := by decide +kernel
theorem dX11_neededOf_108 : decode cX11_neededOf 108 = .ok (.aload_n 0, 1) := by decide +kernel
theorem dX11_neededOf_109 : decode cX11_neededOf 109 = .ok (.iload_n 2, 1) := by decide +kernel
theorem dX11_neededOf_110 : decode cX11_neededOf 110 = .ok (.invokevirtual 250, 3) := by decide +kernel
theorem dX11_neededOf_113 : decode cX11_neededOf 113 = .ok (.if_icmp .ne 12, 3) := by decide +kernel
theorem dX11_neededOf_116 : decode cX11_neededOf 116 = .ok (.iload_n 3, 1) := by decide +kernel
theorem dX11_neededOf_117 : decode cX11_neededOf 117 = .ok (.iload_n 2, 1) := by decide +kernel
theorem dX11_neededOf_118 : decode cX11_neededOf 118 = .ok (.if_icmp .ge 7, 3) := by decide +kernel
theorem dX11_neededOf_121 : decode cX11_neededOf 121 = .ok (.iconst 1, 1) := by decide +kernel
theorem dX11_neededOf_122 : decode cX11_neededOf 122 = .ok (.goto 4, 3) := by decide +kernel
theorem dX11_neededOf_125 : decode cX11_neededOf 125 = .ok (.iconst 0, 1) := by decide +kernel
theorem dX11_neededOf_126 : decode cX11_neededOf 126 = .ok (.istore 6, 2) := by decide +kernel
theorem dX11_neededOf_128 : decode cX11_neededOf 128 = .ok (.iload 4, 2) := by decide +kernel
theorem dX11_neededOf_130 : decode cX11_neededOf 130 = .ok (.ifCond .eq 12, 3) := by decide +kernel
theorem dX11_neededOf_133 : decode cX11_neededOf 133 = .ok (.iload 6, 2) := by decide +kernel
theorem dX11_neededOf_135 : decode cX11_neededOf 135 = .ok (.ifCond .eq 7, 3) := by decide +kernel
theorem dX11_neededOf_138 : decode cX11_neededOf 138 = .ok (.iload_n 3, 1) := by decide +kernel
theorem dX11_neededOf_139 : decode cX11_neededOf 139 = .ok (.goto 4, 3) := by decide +kernel
theorem dX11_neededOf_142 : decode cX11_neededOf 142 = .ok (.iload_n 2, 1) := by decide +kernel
theorem dX11_neededOf_143 : decode cX11_neededOf 143 = .ok (.istore_n 2, 1) := by decide +kernel
theorem dX11_neededOf_144 : decode cX11_neededOf 144 = .ok (.iinc 3 1, 3) := by decide +kernel
theorem dX11_neededOf_147 : decode cX11_neededOf 147 = .ok (.goto (-141), 3) := by decide +kernel
theorem dX11_neededOf_150 : decode cX11_neededOf 150 = .ok (.iload_n 2, 1) := by decide +kernel
theorem dX11_neededOf_151 : decode cX11_neededOf 151 = .ok (.ireturn, 1) := by decide +kernel
set_option maxRecDepth 20000 in
theorem ggX11_mustOf_X11_bits : GoodIn wsX11_mustOf wsX11_bits := goodIn_r _ [7] (by decide +kernel) (by decide +kernel)
set_option maxRecDepth 20000 in
theorem gX11_mustOf_X11_bits : GoodIn wsX11_mustOf (va_wsS RX11 247 yX11_bits wsX11_bits) := goodIn_app (goodIn_of _ (by decide +kernel)) ggX11_mustOf_X11_bits
theorem dX11_mustOf_0 : decode cX11_mustOf 0 = .ok (.iconst 0, 1) := by decide +kernel
theorem dX11_mustOf_1 : decode cX11_mustOf 1 = .ok (.istore_n 2, 1) := by decide +kernel
theorem dX11_mustOf_2 : decode cX11_mustOf 2 = .ok (.iconst 0, 1) := by decide +kernel
theorem dX11_mustOf_3 : decode cX11_mustOf 3 = .ok (.istore_n 3, 1) := by decide +kernel
theorem dX11_mustOf_4 : decode cX11_mustOf 4 = .ok (.iload_n 3, 1) := by decide +kernel
theorem dX11_mustOf_5 : decode cX11_mustOf 5 = .ok (.aload_n 0, 1) := by decide +kernel
theorem dX11_mustOf_6 : decode cX11_mustOf 6 = .ok (.getfield 244, 3) := by decide +kernel
theorem dX11_mustOf_9 : decode cX11_mustOf 9 = .ok (.if_icmp .ge 45, 3) := by decide +kernel
theorem dX11_mustOf_12 : decode cX11_mustOf 12 = .ok (.iload_n 2, 1) := by decide +kernel
theorem dX11_mustOf_13 : decode cX11_mustOf 13 = .ok (.aload_n 0, 1) := by decide +kernel
theorem dX11_mustOf_14 : decode cX11_mustOf 14 = .ok (.getfield 80, 3) := by decide +kernel
theorem dX11_mustOf_17 : decode cX11_mustOf 17 = .ok (.iload_n 3, 1) := by decide +kernel
theorem dX11_mustOf_18 : decode cX11_mustOf 18 = .ok (.iaload, 1) := by decide +kernel
theorem dX11_mustOf_19 : decode cX11_mustOf 19 = .ok (.iload_n 1, 1) := by decide +kernel
theorem dX11_mustOf_20 : decode cX11_mustOf 20 = .ok (.if_icmp .ne 25, 3) := by decide +kernel
theorem dX11_mustOf_23 : decode cX11_mustOf 23 = .ok (.aload_n 0, 1) := by decide +kernel
theorem dX11_mustOf_24 : decode cX11_mustOf 24 = .ok (.getfield 83, 3) := by decide +kernel
theorem dX11_mustOf_27 : decode cX11_mustOf 27 = .ok (.iload_n 3, 1) := by decide +kernel
theorem dX11_mustOf_28 : decode cX11_mustOf 28 = .ok (.iaload, 1) := by decide +kernel
theorem dX11_mustOf_29 : decode cX11_mustOf 29 = .ok (.invokestatic 247, 3) := by decide +kernel
theorem dX11_mustOf_32 : decode cX11_mustOf 32 = .ok (.iconst 1, 1) := by decide +kernel
theorem dX11_mustOf_33 : decode cX11_mustOf 33 = .ok (.if_icmp .ne 12, 3) := by decide +kernel
theorem dX11_mustOf_36 : decode cX11_mustOf 36 = .ok (.aload_n 0, 1) := by decide +kernel
theorem dX11_mustOf_37 : decode cX11_mustOf 37 = .ok (.getfield 83, 3) := by decide +kernel
theorem dX11_mustOf_40 : decode cX11_mustOf 40 = .ok (.iload_n 3, 1) := by decide +kernel
theorem dX11_mustOf_41 : decode cX11_mustOf 41 = .ok (.iaload, 1) := by decide +kernel
theorem dX11_mustOf_42 : decode cX11_mustOf 42 = .ok (.goto 4, 3) := by decide +kernel
theorem dX11_mustOf_45 : decode cX11_mustOf 45 = .ok (.iconst 0, 1) := by decide +kernel
theorem dX11_mustOf_46 : decode cX11_mustOf 46 = .ok (.ior, 1) := by decide +kernel
theorem dX11_mustOf_47 : decode cX11_mustOf 47 = .ok (.istore_n 2, 1) := by decide +kernel
theorem dX11_mustOf_48 : decode cX11_mustOf 48 = .ok (.iinc 3 1, 3) := by decide +kernel
theorem dX11_mustOf_51 : decode cX11_mustOf 51 = .ok (.goto (-47), 3) := by decide +kernel
theorem dX11_mustOf_54 : decode cX11_mustOf 54 = .ok (.iload_n 2, 1) := by decide +kernel
theorem dX11_mustOf_55 : decode cX11_mustOf 55 = .ok (.ireturn, 1) := by decide +kernel
set_option maxRecDepth 20000 in
theorem ggX11_needed_X11_isMatch : GoodIn wsX11_needed wsX11_isMatch := goodIn_r _ [5, 6, 7, 8, 4, 9, 29, 30, 31, 32, 33, 34, 35, 36, 37, 38, 39, 40, 41, 42, 43, 44, 45, 46, 47, 48, 49, 50, 51, 52, 53, 54, 55, 56, 57, 58, 59, 60, 61, 62, 63, 64, 65, 66, 67, 68, 69, 70, 71, 72, 73, 74, 75, 76, 77, 78, 79, 80, 81, 82] (by decide +kernel) (by decide +kernel)
set_option maxRecDepth 20000 in
theorem gX11_needed_X11_isMatch : GoodIn wsX11_needed (wsV RX11 153 RX11 yX11_isMatch wsX11_isMatch) := goodIn_app (goodIn_of _ (by decide +kernel)) ggX11_needed_X11_isMatch
set_option maxRecDepth 20000 in
theorem ggX11_needed_X11_in : GoodIn wsX11_needed wsX11_in := goodIn_r _ [9] (by decide +kernel) (by decide +kernel)
set_option maxRecDepth 20000 in
theorem gX11_needed_X11_in : GoodIn wsX11_needed (va_wsS RX11 138 yX11_in wsX11_in) := goodIn_app (goodIn_of _ (by decide +kernel)) ggX11_needed_X11_in
set_option maxRecDepth 20000 in
theorem ggX11_needed_X11_mustOf : GoodIn wsX11_needed wsX11_mustOf := goodIn_r _ [13, 14, 15, 16, 17, 18, 4, 19, 29, 30, 31, 32, 33, 34, 35, 36, 37, 38, 39, 40, 41, 42, 43, 44, 45, 46, 47, 48, 49, 50, 51, 52, 53, 54, 55, 56, 57, 58, 59, 60, 61, 62, 63, 64, 65, 66, 67, 68, 69, 70, 71, 72, 73, 74, 75, 76, 77, 78, 79, 80, 81, 82] (by decide +kernel) (by decide +kernel)
set_option maxRecDepth 20000 in
theorem gX11_needed_X11_mustOf : GoodIn wsX11_needed (wsV RX11 253 RX11 yX11_mustOf wsX11_mustOf) := goodIn_app (goodIn_of _ (by decide +kernel)) ggX11_needed_X11_mustOf
set_option maxRecDepth 20000 in
theorem ggX11_needed_X11_neededOf : GoodIn wsX11_needed wsX11_neededOf := goodIn_r _ [23, 14, 15, 16, 17, 18, 4, 19, 24, 25, 26, 27, 28, 29, 30, 31, 32, 33, 34, 35, 36, 37, 38, 39, 40, 41, 42, 43, 44, 45, 46, 47, 48, 49, 50, 51, 52, 53, 54, 55, 56, 57, 58, 59, 60, 61, 62, 63, 64, 65, 66, 67, 68, 69, 70, 71, 72, 73, 74, 75, 76, 77, 78, 79, 80, 81, 82] (by decide +kernel) (by decide +kernel)
set_option maxRecDepth 20000 in
theorem gX11_needed_X11_neededOf : GoodIn wsX11_needed (wsV RX11 256 RX11 yX11_neededOf wsX11_neededOf) := goodIn_app (goodIn_of _ (by decide +kernel)) ggX11_needed_X11_neededOf
set_option maxRecDepth 20000 in
theorem ggX11_needed_X11_priceOf : GoodIn wsX11_needed wsX11_priceOf := goodIn_r _ [27, 28, 29, 30, 31, 32, 33, 34, 35, 36, 37, 38, 39, 40, 41, 42, 43, 44, 45, 46, 47, 48, 49, 50, 51, 52, 53, 54, 55, 56, 57, 58, 59, 60, 61, 62, 63, 64, 65, 66, 67, 68, 69, 70, 71, 72, 73, 74, 75, 76, 77, 78, 79, 80, 81, 82] (by decide +kernel) (by decide +kernel)
set_option maxRecDepth 20000 in
theorem gX11_needed_X11_priceOf : GoodIn wsX11_needed (wsV RX11 250 RX11 yX11_priceOf wsX11_priceOf) := goodIn_app (goodIn_of _ (by decide +kernel)) ggX11_needed_X11_priceOf
theorem dX11_needed_0 : decode cX11_needed 0 = .ok (.aload_n 0, 1) := by decide +kernel
theorem dX11_needed_1 : decode cX11_needed 1 = .ok (.iload_n 1, 1) := by decide +kernel
theorem dX11_needed_2 : decode cX11_needed 2 = .ok (.invokevirtual 153, 3) := by decide +kernel
theorem dX11_needed_5 : decode cX11_needed 5 = .ok (.ifCond .ne 5, 3) := by decide +kernel
theorem dX11_needed_8 : decode cX11_needed 8 = .ok (.iconst (-1), 1) := by decide +kernel
theorem dX11_needed_9 : decode cX11_needed 9 = .ok (.ireturn, 1) := by decide +kernel
theorem dX11_needed_10 : decode cX11_needed 10 = .ok (.iload_n 2, 1) := by decide +kernel
theorem dX11_needed_11 : decode cX11_needed 11 = .ok (.iconst 0, 1) := by decide +kernel
theorem dX11_needed_12 : decode cX11_needed 12 = .ok (.iconst 2, 1) := by decide +kernel
theorem dX11_needed_13 : decode cX11_needed 13 = .ok (.invokestatic 138, 3) := by decide +kernel
theorem dX11_needed_16 : decode cX11_needed 16 = .ok (.ifCond .ne 6, 3) := by decide +kernel
theorem dX11_needed_19 : decode cX11_needed 19 = .ok (.bipush (-2), 2) := by decide +kernel
theorem dX11_needed_21 : decode cX11_needed 21 = .ok (.ireturn, 1) := by decide +kernel
theorem dX11_needed_22 : decode cX11_needed 22 = .ok (.iload_n 2, 1) := by decide +kernel
theorem dX11_needed_23 : decode cX11_needed 23 = .ok (.iconst 2, 1) := by decide +kernel
theorem dX11_needed_24 : decode cX11_needed 24 = .ok (.if_icmp .ne 11, 3) := by decide +kernel
theorem dX11_needed_27 : decode cX11_needed 27 = .ok (.aload_n 0, 1) := by decide +kernel
theorem dX11_needed_28 : decode cX11_needed 28 = .ok (.iload_n 1, 1) := by decide +kernel
theorem dX11_needed_29 : decode cX11_needed 29 = .ok (.invokevirtual 253, 3) := by decide +kernel
theorem dX11_needed_32 : decode cX11_needed 32 = .ok (.goto 24, 3) := by decide +kernel
theorem dX11_needed_35 : decode cX11_needed 35 = .ok (.iload_n 2, 1) := by decide +kernel
theorem dX11_needed_36 : decode cX11_needed 36 = .ok (.ifCond .ne 11, 3) := by decide +kernel
theorem dX11_needed_39 : decode cX11_needed 39 = .ok (.aload_n 0, 1) := by decide +kernel
theorem dX11_needed_40 : decode cX11_needed 40 = .ok (.iload_n 1, 1) := by decide +kernel
theorem dX11_needed_41 : decode cX11_needed 41 = .ok (.invokevirtual 256, 3) := by decide +kernel
theorem dX11_needed_44 : decode cX11_needed 44 = .ok (.goto 12, 3) := by decide +kernel
theorem dX11_needed_47 : decode cX11_needed 47 = .ok (.aload_n 0, 1) := by decide +kernel
theorem dX11_needed_48 : decode cX11_needed 48 = .ok (.aload_n 0, 1) := by decide +kernel
theorem dX11_needed_49 : decode cX11_needed 49 = .ok (.iload_n 1, 1) := by decide +kernel
theorem dX11_needed_50 : decode cX11_needed 50 = .ok (.invokevirtual 256, 3) := by decide +kernel
theorem dX11_needed_53 : decode cX11_needed 53 = .ok (.invokevirtual 250, 3) := by decide +kernel
theorem dX11_needed_56 : decode cX11_needed 56 = .ok (.ireturn, 1) := by decide +kernel
set_option maxRecDepth 20000 in
theorem ggX11_layHands_X11_layOnes : GoodIn wsX11_layHands wsX11_layOnes := goodIn_r _ [11, 5, 12, 13, 14, 15, 10, 16, 3, 17, 6, 18, 19, 20, 21, 22, 23, 24, 25, 26, 27, 28, 29, 4, 30, 31, 32, 33, 34, 35, 36, 37, 38, 39, 40, 41, 42, 43, 44, 45, 46, 47, 48, 49, 50, 51, 52, 53, 54, 55, 56, 57, 58, 59, 60, 61, 62, 63, 64, 65, 66, 67, 68, 69, 70, 71, 72, 73, 74, 75, 76, 77, 78, 79, 80, 81, 82, 83, 84, 85, 86, 87, 88] (by decide +kernel) (by decide +kernel)
set_option maxRecDepth 20000 in
theorem gX11_layHands_X11_layOnes : GoodIn wsX11_layHands (wsV RX11 222 RX11 yX11_layOnes wsX11_layOnes) := goodIn_app (goodIn_of _ (by decide +kernel)) ggX11_layHands_X11_layOnes
theorem dX11_layHands_0 : decode cX11_layHands 0 = .ok (.aload_n 0, 1) := by decide +kernel
theorem dX11_layHands_1 : decode cX11_layHands 1 = .ok (.invokevirtual 222, 3) := by decide +kernel
theorem dX11_layHands_4 : decode cX11_layHands 4 = .ok (.iconst 0, 1) := by decide +kernel
theorem dX11_layHands_5 : decode cX11_layHands 5 = .ok (.istore_n 1, 1) := by decide +kernel
theorem dX11_layHands_6 : decode cX11_layHands 6 = .ok (.iload_n 1, 1) := by decide +kernel
theorem dX11_layHands_7 : decode cX11_layHands 7 = .ok (.aload_n 0, 1) := by decide +kernel
theorem dX11_layHands_8 : decode cX11_layHands 8 = .ok (.getfield 142, 3) := by decide +kernel
theorem dX11_layHands_11 : decode cX11_layHands 11 = .ok (.if_icmp .ge 16, 3) := by decide +kernel
theorem dX11_layHands_14 : decode cX11_layHands 14 = .ok (.aload_n 0, 1) := by decide +kernel
theorem dX11_layHands_15 : decode cX11_layHands 15 = .ok (.getfield 129, 3) := by decide +kernel
theorem dX11_layHands_18 : decode cX11_layHands 18 = .ok (.iload_n 1, 1) := by decide +kernel
theorem dX11_layHands_19 : decode cX11_layHands 19 = .ok (.iconst 0, 1) := by decide +kernel
theorem dX11_layHands_20 : decode cX11_layHands 20 = .ok (.iastore, 1) := by decide +kernel
theorem dX11_layHands_21 : decode cX11_layHands 21 = .ok (.iinc 1 1, 3) := by decide +kernel
theorem dX11_layHands_24 : decode cX11_layHands 24 = .ok (.goto (-18), 3) := by decide +kernel
theorem dX11_layHands_27 : decode cX11_layHands 27 = .ok (.iconst 0, 1) := by decide +kernel
theorem dX11_layHands_28 : decode cX11_layHands 28 = .ok (.istore_n 1, 1) := by decide +kernel
theorem dX11_layHands_29 : decode cX11_layHands 29 = .ok (.iload_n 1, 1) := by decide +kernel
theorem dX11_layHands_30 : decode cX11_layHands 30 = .ok (.aload_n 0, 1) := by decide +kernel
theorem dX11_layHands_31 : decode cX11_layHands 31 = .ok (.getfield 205, 3) := by decide +kernel
theorem dX11_layHands_34 : decode cX11_layHands 34 = .ok (.if_icmp .ge 34, 3) := by decide +kernel
theorem dX11_layHands_37 : decode cX11_layHands 37 = .ok (.aload_n 0, 1) := by decide +kernel
theorem dX11_layHands_38 : decode cX11_layHands 38 = .ok (.getfield 129, 3) := by decide +kernel
theorem dX11_layHands_41 : decode cX11_layHands 41 = .ok (.aload_n 0, 1) := by decide +kernel
theorem dX11_layHands_42 : decode cX11_layHands 42 = .ok (.getfield 43, 3) := by decide +kernel
theorem dX11_layHands_45 : decode cX11_layHands 45 = .ok (.iload_n 1, 1) := by decide +kernel
theorem dX11_layHands_46 : decode cX11_layHands 46 = .ok (.iaload, 1) := by decide +kernel
theorem dX11_layHands_47 : decode cX11_layHands 47 = .ok (.dup2, 1) := by decide +kernel
theorem dX11_layHands_48 : decode cX11_layHands 48 = .ok (.iaload, 1) := by decide +kernel
theorem dX11_layHands_49 : decode cX11_layHands 49 = .ok (.aload_n 0, 1) := by decide +kernel
theorem dX11_layHands_50 : decode cX11_layHands 50 = .ok (.getfield 120, 3) := by decide +kernel
theorem dX11_layHands_53 : decode cX11_layHands 53 = .ok (.aload_n 0, 1) := by decide +kernel
theorem dX11_layHands_54 : decode cX11_layHands 54 = .ok (.getfield 40, 3) := by decide +kernel
theorem dX11_layHands_57 : decode cX11_layHands 57 = .ok (.iload_n 1, 1) := by decide +kernel
theorem dX11_layHands_58 : decode cX11_layHands 58 = .ok (.iaload, 1) := by decide +kernel
theorem dX11_layHands_59 : decode cX11_layHands 59 = .ok (.iaload, 1) := by decide +kernel
theorem dX11_layHands_60 : decode cX11_layHands 60 = .ok (.ior, 1) := by decide +kernel
theorem dX11_layHands_61 : decode cX11_layHands 61 = .ok (.iastore, 1) := by decide +kernel
theorem dX11_layHands_62 : decode cX11_layHands 62 = .ok (.iinc 1 1, 3) := by decide +kernel
theorem dX11_layHands_65 : decode cX11_layHands 65 = .ok (.goto (-36), 3) := by decide +kernel
theorem dX11_layHands_68 : decode cX11_layHands 68 = .ok (.return_, 1) := by decide +kernel
theorem dX11_areJoined_0 : decode cX11_areJoined 0 = .ok (.aload_n 0, 1) := by decide +kernel
theorem dX11_areJoined_1 : decode cX11_areJoined 1 = .ok (.getfield 22, 3) := by decide +kernel
theorem dX11_areJoined_4 : decode cX11_areJoined 4 = .ok (.iload_n 1, 1) := by decide +kernel
theorem dX11_areJoined_5 : decode cX11_areJoined 5 = .ok (.iaload, 1) := by decide +kernel
theorem dX11_areJoined_6 : decode cX11_areJoined 6 = .ok (.aload_n 0, 1) := by decide +kernel
theorem dX11_areJoined_7 : decode cX11_areJoined 7 = .ok (.getfield 22, 3) := by decide +kernel
theorem dX11_areJoined_10 : decode cX11_areJoined 10 = .ok (.iload_n 2, 1) := by decide +kernel
theorem dX11_areJoined_11 : decode cX11_areJoined 11 = .ok (.iaload, 1) := by decide +kernel
theorem dX11_areJoined_12 : decode cX11_areJoined 12 = .ok (.if_icmp .eq 19, 3) := by decide +kernel
theorem dX11_areJoined_15 : decode cX11_areJoined 15 = .ok (.aload_n 0, 1) := by decide +kernel
theorem dX11_areJoined_16 : decode cX11_areJoined 16 = .ok (.getfield 129, 3) := by decide +kernel
theorem dX11_areJoined_19 : decode cX11_areJoined 19 = .ok (.iload_n 1, 1) := by decide +kernel
theorem dX11_areJoined_20 : decode cX11_areJoined 20 = .ok (.iaload, 1) := by decide +kernel
theorem dX11_areJoined_21 : decode cX11_areJoined 21 = .ok (.aload_n 0, 1) := by decide +kernel
theorem dX11_areJoined_22 : decode cX11_areJoined 22 = .ok (.getfield 129, 3) := by decide +kernel
theorem dX11_areJoined_25 : decode cX11_areJoined 25 = .ok (.iload_n 2, 1) := by decide +kernel
theorem dX11_areJoined_26 : decode cX11_areJoined 26 = .ok (.iaload, 1) := by decide +kernel
theorem dX11_areJoined_27 : decode cX11_areJoined 27 = .ok (.iand, 1) := by decide +kernel
theorem dX11_areJoined_28 : decode cX11_areJoined 28 = .ok (.ifCond .eq 7, 3) := by decide +kernel
theorem dX11_areJoined_31 : decode cX11_areJoined 31 = .ok (.iconst 1, 1) := by decide +kernel
theorem dX11_areJoined_32 : decode cX11_areJoined 32 = .ok (.goto 4, 3) := by decide +kernel
theorem dX11_areJoined_35 : decode cX11_areJoined 35 = .ok (.iconst 0, 1) := by decide +kernel
theorem dX11_areJoined_36 : decode cX11_areJoined 36 = .ok (.ireturn, 1) := by decide +kernel
set_option maxRecDepth 20000 in
theorem ggX11_joined_X11_isMatch : GoodIn wsX11_joined wsX11_isMatch := goodIn_r _ [5, 6, 7, 8, 4, 9, 51, 52, 53, 54, 55, 56, 57, 58, 59, 60, 61, 62, 63, 64, 65, 66, 67, 68, 69, 70, 71, 72, 73, 74, 75, 76, 77, 78, 79, 80, 81, 82, 83, 84, 85, 86, 87, 88, 89, 90, 91, 92, 93, 94, 95, 96, 97, 98, 99, 100, 101, 102, 103, 104] (by decide +kernel) (by decide +kernel)
set_option maxRecDepth 20000 in
theorem gX11_joined_X11_isMatch : GoodIn wsX11_joined (wsV RX11 153 RX11 yX11_isMatch wsX11_isMatch) := goodIn_app (goodIn_of _ (by decide +kernel)) ggX11_joined_X11_isMatch
set_option maxRecDepth 20000 in
theorem ggX11_joined_X11_layHands : GoodIn wsX11_joined wsX11_layHands := goodIn_r _ [13, 6, 14, 15, 16, 17, 18, 19, 20, 21, 4, 22, 23, 24, 25, 26, 27, 28, 29, 30, 31, 32, 33, 34, 35, 36, 37, 38, 39, 40, 41, 42, 43, 44, 45, 51, 52, 53, 54, 55, 56, 57, 58, 59, 60, 61, 62, 63, 64, 65, 66, 67, 68, 69, 70, 71, 72, 73, 74, 75, 76, 77, 78, 79, 80, 81, 82, 83, 84, 85, 86, 87, 88, 89, 90, 91, 92, 93, 94, 95, 96, 97, 98, 99, 100, 101, 102, 103, 104] (by decide +kernel) (by decide +kernel)
set_option maxRecDepth 20000 in
theorem gX11_joined_X11_layHands : GoodIn wsX11_joined (wsV RX11 259 RX11 yX11_layHands wsX11_layHands) := goodIn_app (goodIn_of _ (by decide +kernel)) ggX11_joined_X11_layHands
set_option maxRecDepth 20000 in
theorem ggX11_joined_X11_areJoined : GoodIn wsX11_joined wsX11_areJoined := goodIn_r _ [49, 50, 14, 51, 52, 53, 54, 55, 56, 57, 58, 59, 60, 61, 62, 63, 64, 65, 66, 67, 68, 69, 70, 71, 72, 73, 74, 75, 76, 77, 78, 79, 80, 81, 82, 83, 84, 85, 86, 87, 88, 89, 90, 91, 92, 93, 94, 95, 96, 97, 98, 99, 100, 101, 102, 103, 104] (by decide +kernel) (by decide +kernel)
set_option maxRecDepth 20000 in
theorem gX11_joined_X11_areJoined : GoodIn wsX11_joined (wsV RX11 262 RX11 yX11_areJoined wsX11_areJoined) := goodIn_app (goodIn_of _ (by decide +kernel)) ggX11_joined_X11_areJoined
theorem dX11_joined_0 : decode cX11_joined 0 = .ok (.aload_n 0, 1) := by decide +kernel
theorem dX11_joined_1 : decode cX11_joined 1 = .ok (.iload_n 1, 1) := by decide +kernel
theorem dX11_joined_2 : decode cX11_joined 2 = .ok (.invokevirtual 153, 3) := by decide +kernel
theorem dX11_joined_5 : decode cX11_joined 5 = .ok (.ifCond .eq 11, 3) := by decide +kernel
theorem dX11_joined_8 : decode cX11_joined 8 = .ok (.aload_n 0, 1) := by decide +kernel
theorem dX11_joined_9 : decode cX11_joined 9 = .ok (.iload_n 2, 1) := by decide +kernel
theorem dX11_joined_10 : decode cX11_joined 10 = .ok (.invokevirtual 153, 3) := by decide +kernel
theorem dX11_joined_13 : decode cX11_joined 13 = .ok (.ifCond .ne 5, 3) := by decide +kernel
theorem dX11_joined_16 : decode cX11_joined 16 = .ok (.iconst (-1), 1) := by decide +kernel
theorem dX11_joined_17 : decode cX11_joined 17 = .ok (.ireturn, 1) := by decide +kernel
theorem dX11_joined_18 : decode cX11_joined 18 = .ok (.aload_n 0, 1) := by decide +kernel
theorem dX11_joined_19 : decode cX11_joined 19 = .ok (.invokevirtual 259, 3) := by decide +kernel
theorem dX11_joined_22 : decode cX11_joined 22 = .ok (.aload_n 0, 1) := by decide +kernel
theorem dX11_joined_23 : decode cX11_joined 23 = .ok (.iload_n 1, 1) := by decide +kernel
theorem dX11_joined_24 : decode cX11_joined 24 = .ok (.iload_n 2, 1) := by decide +kernel
theorem dX11_joined_25 : decode cX11_joined 25 = .ok (.invokevirtual 262, 3) := by decide +kernel
theorem dX11_joined_28 : decode cX11_joined 28 = .ok (.ifCond .eq 7, 3) := by decide +kernel
theorem dX11_joined_31 : decode cX11_joined 31 = .ok (.iconst 1, 1) := by decide +kernel
theorem dX11_joined_32 : decode cX11_joined 32 = .ok (.goto 4, 3) := by decide +kernel
theorem dX11_joined_35 : decode cX11_joined 35 = .ok (.iconst 0, 1) := by decide +kernel
theorem dX11_joined_36 : decode cX11_joined 36 = .ok (.ireturn, 1) := by decide +kernel
set_option maxRecDepth 20000 in
theorem ggX11_ringOf_X11_areJoined : GoodIn wsX11_ringOf wsX11_areJoined := goodIn_r _ [6, 7, 8, 9, 10, 11, 12, 13, 14, 15, 16, 17, 18, 19, 20, 21, 22, 23, 24, 25, 26, 27, 28, 29, 30, 31, 32, 33, 34, 35, 36, 37, 38, 39, 40, 41, 42, 43, 44, 45, 46, 47, 48, 49, 50, 51, 52, 53, 54, 55, 56, 57, 58, 59, 60, 61, 62] (by decide +kernel) (by decide +kernel)
set_option maxRecDepth 20000 in
theorem gX11_ringOf_X11_areJoined : GoodIn wsX11_ringOf (wsV RX11 262 RX11 yX11_areJoined wsX11_areJoined) := goodIn_app (goodIn_of _ (by decide +kernel)) ggX11_ringOf_X11_areJoined
theorem dX11_ringOf_0 : decode cX11_ringOf 0 = .ok (.iconst 1, 1) := by decide +kernel
theorem dX11_ringOf_1 : decode cX11_ringOf 1 = .ok (.iload_n 1, 1) := by decide +kernel
theorem dX11_ringOf_2 : decode cX11_ringOf 2 = .ok (.ishl, 1) := by decide +kernel
theorem dX11_ringOf_3 : decode cX11_ringOf 3 = .ok (.istore 4, 2) := by decide +kernel
theorem dX11_ringOf_5 : decode cX11_ringOf 5 = .ok (.iconst 0, 1) := by decide +kernel
theorem dX11_ringOf_6 : decode cX11_ringOf 6 = .ok (.istore 5, 2) := by decide +kernel
theorem dX11_ringOf_8 : decode cX11_ringOf 8 = .ok (.iload 5, 2) := by decide +kernel
theorem dX11_ringOf_10 : decode cX11_ringOf 10 = .ok (.aload_n 0, 1) := by decide +kernel
theorem dX11_ringOf_11 : decode cX11_ringOf 11 = .ok (.getfield 142, 3) := by decide +kernel
theorem dX11_ringOf_14 : decode cX11_ringOf 14 = .ok (.if_icmp .ge 116, 3) := by decide +kernel
theorem dX11_ringOf_17 : decode cX11_ringOf 17 = .ok (.iconst 0, 1) := by decide +kernel
theorem dX11_ringOf_18 : decode cX11_ringOf 18 = .ok (.istore 6, 2) := by decide +kernel
theorem dX11_ringOf_20 : decode cX11_ringOf 20 = .ok (.iload 6, 2) := by decide +kernel
theorem dX11_ringOf_22 : decode cX11_ringOf 22 = .ok (.aload_n 0, 1) := by decide +kernel
theorem dX11_ringOf_23 : decode cX11_ringOf 23 = .ok (.getfield 142, 3) := by decide +kernel
theorem dX11_ringOf_26 : decode cX11_ringOf 26 = .ok (.if_icmp .ge 98, 3) := by decide +kernel
theorem dX11_ringOf_29 : decode cX11_ringOf 29 = .ok (.iconst 0, 1) := by decide +kernel
theorem dX11_ringOf_30 : decode cX11_ringOf 30 = .ok (.istore 7, 2) := by decide +kernel
theorem dX11_ringOf_32 : decode cX11_ringOf 32 = .ok (.iload 7, 2) := by decide +kernel
theorem dX11_ringOf_34 : decode cX11_ringOf 34 = .ok (.aload_n 0, 1) := by decide +kernel
theorem dX11_ringOf_35 : decode cX11_ringOf 35 = .ok (.getfield 142, 3) := by decide +kernel
theorem dX11_ringOf_38 : decode cX11_ringOf 38 = .ok (.if_icmp .ge 80, 3) := by decide +kernel
theorem dX11_ringOf_41 : decode cX11_ringOf 41 = .ok (.iload 4, 2) := by decide +kernel
theorem dX11_ringOf_43 : decode cX11_ringOf 43 = .ok (.iload 6, 2) := by decide +kernel
theorem dX11_ringOf_45 : decode cX11_ringOf 45 = .ok (.ishr, 1) := by decide +kernel
theorem dX11_ringOf_46 : decode cX11_ringOf 46 = .ok (.iconst 1, 1) := by decide +kernel
theorem dX11_ringOf_47 : decode cX11_ringOf 47 = .ok (.iand, 1) := by decide +kernel
theorem dX11_ringOf_48 : decode cX11_ringOf 48 = .ok (.iconst 1, 1) := by decide +kernel
theorem dX11_ringOf_49 : decode cX11_ringOf 49 = .ok (.if_icmp .ne 69, 3) := by decide +kernel
theorem dX11_ringOf_52 : decode cX11_ringOf 52 = .ok (.iload 6, 2) := by decide +kernel
theorem dX11_ringOf_54 : decode cX11_ringOf 54 = .ok (.iload_n 2, 1) := by decide +kernel
theorem dX11_ringOf_55 : decode cX11_ringOf 55 = .ok (.if_icmp .ne 9, 3) := by decide +kernel
theorem dX11_ringOf_58 : decode cX11_ringOf 58 = .ok (.iload 7, 2) := by decide +kernel
theorem dX11_ringOf_60 : decode cX11_ringOf 60 = .ok (.iload_n 3, 1) := by decide +kernel
theorem dX11_ringOf_61 : decode cX11_ringOf 61 = .ok (.if_icmp .eq 15, 3) := by decide +kernel
theorem dX11_ringOf_64 : decode cX11_ringOf 64 = .ok (.iload 6, 2) := by decide +kernel
theorem dX11_ringOf_66 : decode cX11_ringOf 66 = .ok (.iload_n 3, 1) := by decide +kernel
theorem dX11_ringOf_67 : decode cX11_ringOf 67 = .ok (.if_icmp .ne 13, 3) := by decide +kernel
theorem dX11_ringOf_70 : decode cX11_ringOf 70 = .ok (.iload 7, 2) := by decide +kernel
theorem dX11_ringOf_72 : decode cX11_ringOf 72 = .ok (.iload_n 2, 1) := by decide +kernel
theorem dX11_ringOf_73 : decode cX11_ringOf 73 = .ok (.if_icmp .ne 7, 3) := by decide +kernel
theorem dX11_ringOf_76 : decode cX11_ringOf 76 = .ok (.iconst 1, 1) := by decide +kernel
theorem dX11_ringOf_77 : decode cX11_ringOf 77 = .ok (.goto 4, 3) := by decide +kernel
theorem dX11_ringOf_80 : decode cX11_ringOf 80 = .ok (.iconst 0, 1) := by decide +kernel
theorem dX11_ringOf_81 : decode cX11_ringOf 81 = .ok (.istore 8, 2) := by decide +kernel
theorem dX11_ringOf_83 : decode cX11_ringOf 83 = .ok (.iload 4, 2) := by decide +kernel
theorem dX11_ringOf_85 : decode cX11_ringOf 85 = .ok (.iload 8, 2) := by decide +kernel
theorem dX11_ringOf_87 : decode cX11_ringOf 87 = .ok (.ifCond .ne 21, 3) := by decide +kernel
theorem dX11_ringOf_90 : decode cX11_ringOf 90 = .ok (.aload_n 0, 1) := by decide +kernel
theorem dX11_ringOf_91 : decode cX11_ringOf 91 = .ok (.iload 6, 2) := by decide +kernel
theorem dX11_ringOf_93 : decode cX11_ringOf 93 = .ok (.iload 7, 2) := by decide +kernel
theorem dX11_ringOf_95 : decode cX11_ringOf 95 = .ok (.invokevirtual 262, 3) := by decide +kernel
theorem dX11_ringOf_98 : decode cX11_ringOf 98 = .ok (.ifCond .eq 10, 3) := by decide +kernel
theorem dX11_ringOf_101 : decode cX11_ringOf 101 = .ok (.iconst 1, 1) := by decide +kernel
theorem dX11_ringOf_102 : decode cX11_ringOf 102 = .ok (.iload 7, 2) := by decide +kernel
theorem dX11_ringOf_104 : decode cX11_ringOf 104 = .ok (.ishl, 1) := by decide +kernel
theorem dX11_ringOf_105 : decode cX11_ringOf 105 = .ok (.goto 4, 3) := by decide +kernel
theorem dX11_ringOf_108 : decode cX11_ringOf 108 = .ok (.iconst 0, 1) := by decide +kernel
theorem dX11_ringOf_109 : decode cX11_ringOf 109 = .ok (.ior, 1) := by decide +kernel
theorem dX11_ringOf_110 : decode cX11_ringOf 110 = .ok (.istore 4, 2) := by decide +kernel
theorem dX11_ringOf_112 : decode cX11_ringOf 112 = .ok (.iinc 7 1, 3) := by decide +kernel
theorem dX11_ringOf_115 : decode cX11_ringOf 115 = .ok (.goto (-83), 3) := by decide +kernel
theorem dX11_ringOf_118 : decode cX11_ringOf 118 = .ok (.iinc 6 1, 3) := by decide +kernel
theorem dX11_ringOf_121 : decode cX11_ringOf 121 = .ok (.goto (-101), 3) := by decide +kernel
theorem dX11_ringOf_124 : decode cX11_ringOf 124 = .ok (.iinc 5 1, 3) := by decide +kernel
theorem dX11_ringOf_127 : decode cX11_ringOf 127 = .ok (.goto (-119), 3) := by decide +kernel
theorem dX11_ringOf_130 : decode cX11_ringOf 130 = .ok (.iload 4, 2) := by decide +kernel
theorem dX11_ringOf_132 : decode cX11_ringOf 132 = .ok (.ireturn, 1) := by decide +kernel
set_option maxRecDepth 20000 in
theorem ggX11_ring_X11_isMatch : GoodIn wsX11_ring wsX11_isMatch := goodIn_r _ [5, 6, 7, 8, 4, 9, 55, 56, 57, 58, 59, 60, 61, 62, 63, 64, 65, 66, 67, 68, 69, 70, 71, 72, 73, 74, 75, 76, 77, 78, 79, 80, 81, 82, 83, 84, 85, 86, 87, 88, 89, 90, 91, 92, 93, 94, 95, 96, 97, 98, 99, 100, 101, 102, 103, 104, 105, 106, 107, 108] (by decide +kernel) (by decide +kernel)
set_option maxRecDepth 20000 in
theorem gX11_ring_X11_isMatch : GoodIn wsX11_ring (wsV RX11 153 RX11 yX11_isMatch wsX11_isMatch) := goodIn_app (goodIn_of _ (by decide +kernel)) ggX11_ring_X11_isMatch
set_option maxRecDepth 20000 in
theorem ggX11_ring_X11_layHands : GoodIn wsX11_ring wsX11_layHands := goodIn_r _ [13, 6, 14, 15, 16, 17, 18, 19, 20, 21, 4, 22, 23, 24, 25, 26, 27, 28, 29, 30, 31, 32, 33, 34, 35, 36, 37, 38, 39, 40, 41, 42, 43, 44, 45, 55, 56, 57, 58, 59, 60, 61, 62, 63, 64, 65, 66, 67, 68, 69, 70, 71, 72, 73, 74, 75, 76, 77, 78, 79, 80, 81, 82, 83, 84, 85, 86, 87, 88, 89, 90, 91, 92, 93, 94, 95, 96, 97, 98, 99, 100, 101, 102, 103, 104, 105, 106, 107, 108] (by decide +kernel) (by decide +kernel)
set_option maxRecDepth 20000 in
theorem gX11_ring_X11_layHands : GoodIn wsX11_ring (wsV RX11 259 RX11 yX11_layHands wsX11_layHands) := goodIn_app (goodIn_of _ (by decide +kernel)) ggX11_ring_X11_layHands
set_option maxRecDepth 20000 in
theorem ggX11_ring_X11_ringOf : GoodIn wsX11_ring wsX11_ringOf := goodIn_r _ [49, 6, 50, 51, 52, 4, 53, 54, 14, 55, 56, 57, 58, 59, 60, 61, 62, 63, 64, 65, 66, 67, 68, 69, 70, 71, 72, 73, 74, 75, 76, 77, 78, 79, 80, 81, 82, 83, 84, 85, 86, 87, 88, 89, 90, 91, 92, 93, 94, 95, 96, 97, 98, 99, 100, 101, 102, 103, 104, 105, 106, 107, 108] (by decide +kernel) (by decide +kernel)
set_option maxRecDepth 20000 in
theorem gX11_ring_X11_ringOf : GoodIn wsX11_ring (wsV RX11 265 RX11 yX11_ringOf wsX11_ringOf) := goodIn_app (goodIn_of _ (by decide +kernel)) ggX11_ring_X11_ringOf
theorem dX11_ring_0 : decode cX11_ring 0 = .ok (.aload_n 0, 1) := by decide +kernel
theorem dX11_ring_1 : decode cX11_ring 1 = .ok (.iload_n 1, 1) := by decide +kernel
theorem dX11_ring_2 : decode cX11_ring 2 = .ok (.invokevirtual 153, 3) := by decide +kernel
theorem dX11_ring_5 : decode cX11_ring 5 = .ok (.ifCond .ne 5, 3) := by decide +kernel
theorem dX11_ring_8 : decode cX11_ring 8 = .ok (.iconst (-1), 1) := by decide +kernel
theorem dX11_ring_9 : decode cX11_ring 9 = .ok (.ireturn, 1) := by decide +kernel
theorem dX11_ring_10 : decode cX11_ring 10 = .ok (.aload_n 0, 1) := by decide +kernel
theorem dX11_ring_11 : decode cX11_ring 11 = .ok (.invokevirtual 259, 3) := by decide +kernel
theorem dX11_ring_14 : decode cX11_ring 14 = .ok (.aload_n 0, 1) := by decide +kernel
theorem dX11_ring_15 : decode cX11_ring 15 = .ok (.iload_n 1, 1) := by decide +kernel
theorem dX11_ring_16 : decode cX11_ring 16 = .ok (.bipush (-6), 2) := by decide +kernel
theorem dX11_ring_18 : decode cX11_ring 18 = .ok (.bipush (-6), 2) := by decide +kernel
theorem dX11_ring_20 : decode cX11_ring 20 = .ok (.invokevirtual 265, 3) := by decide +kernel
theorem dX11_ring_23 : decode cX11_ring 23 = .ok (.ireturn, 1) := by decide +kernel
set_option maxRecDepth 20000 in
theorem ggX11_holds_X11_isMatch : GoodIn wsX11_holds wsX11_isMatch := goodIn_r _ [5, 6, 7, 8, 4, 9, 55, 56, 57, 58, 59, 60, 61, 62, 63, 64, 65, 66, 67, 68, 69, 70, 71, 72, 73, 74, 75, 76, 77, 78, 79, 80, 81, 82, 83, 84, 85, 86, 87, 88, 89, 90, 91, 92, 93, 94, 95, 96, 97, 98, 99, 100, 101, 102, 103, 104, 105, 106, 107, 108] (by decide +kernel) (by decide +kernel)
set_option maxRecDepth 20000 in
theorem gX11_holds_X11_isMatch : GoodIn wsX11_holds (wsV RX11 153 RX11 yX11_isMatch wsX11_isMatch) := goodIn_app (goodIn_of _ (by decide +kernel)) ggX11_holds_X11_isMatch
set_option maxRecDepth 20000 in
theorem ggX11_holds_X11_layHands : GoodIn wsX11_holds wsX11_layHands := goodIn_r _ [13, 6, 14, 15, 16, 17, 18, 19, 20, 21, 4, 22, 23, 24, 25, 26, 27, 28, 29, 30, 31, 32, 33, 34, 35, 36, 37, 38, 39, 40, 41, 42, 43, 44, 45, 55, 56, 57, 58, 59, 60, 61, 62, 63, 64, 65, 66, 67, 68, 69, 70, 71, 72, 73, 74, 75, 76, 77, 78, 79, 80, 81, 82, 83, 84, 85, 86, 87, 88, 89, 90, 91, 92, 93, 94, 95, 96, 97, 98, 99, 100, 101, 102, 103, 104, 105, 106, 107, 108] (by decide +kernel) (by decide +kernel)
set_option maxRecDepth 20000 in
theorem gX11_holds_X11_layHands : GoodIn wsX11_holds (wsV RX11 259 RX11 yX11_layHands wsX11_layHands) := goodIn_app (goodIn_of _ (by decide +kernel)) ggX11_holds_X11_layHands
set_option maxRecDepth 20000 in
theorem ggX11_holds_X11_areJoined : GoodIn wsX11_holds wsX11_areJoined := goodIn_r _ [49, 50, 14, 55, 56, 57, 58, 59, 60, 61, 62, 63, 64, 65, 66, 67, 68, 69, 70, 71, 72, 73, 74, 75, 76, 77, 78, 79, 80, 81, 82, 83, 84, 85, 86, 87, 88, 89, 90, 91, 92, 93, 94, 95, 96, 97, 98, 99, 100, 101, 102, 103, 104, 105, 106, 107, 108] (by decide +kernel) (by decide +kernel)
set_option maxRecDepth 20000 in
theorem gX11_holds_X11_areJoined : GoodIn wsX11_holds (wsV RX11 262 RX11 yX11_areJoined wsX11_areJoined) := goodIn_app (goodIn_of _ (by decide +kernel)) ggX11_holds_X11_areJoined
set_option maxRecDepth 20000 in
theorem ggX11_holds_X11_ringOf : GoodIn wsX11_holds wsX11_ringOf := goodIn_r _ [54, 6, 46, 47, 48, 4, 49, 50, 14, 55, 56, 57, 58, 59, 60, 61, 62, 63, 64, 65, 66, 67, 68, 69, 70, 71, 72, 73, 74, 75, 76, 77, 78, 79, 80, 81, 82, 83, 84, 85, 86, 87, 88, 89, 90, 91, 92, 93, 94, 95, 96, 97, 98, 99, 100, 101, 102, 103, 104, 105, 106, 107, 108] (by decide +kernel) (by decide +kernel)
set_option maxRecDepth 20000 in
theorem gX11_holds_X11_ringOf : GoodIn wsX11_holds (wsV RX11 265 RX11 yX11_ringOf wsX11_ringOf) := goodIn_app (goodIn_of _ (by decide +kernel)) ggX11_holds_X11_ringOf
theorem dX11_holds_0 : decode cX11_holds 0 = .ok (.aload_n 0, 1) := by decide +kernel
theorem dX11_holds_1 : decode cX11_holds 1 = .ok (.iload_n 1, 1) := by decide +kernel
theorem dX11_holds_2 : decode cX11_holds 2 = .ok (.invokevirtual 153, 3) := by decide +kernel
theorem dX11_holds_5 : decode cX11_holds 5 = .ok (.ifCond .eq 11, 3) := by decide +kernel
theorem dX11_holds_8 : decode cX11_holds 8 = .ok (.aload_n 0, 1) := by decide +kernel
theorem dX11_holds_9 : decode cX11_holds 9 = .ok (.iload_n 2, 1) := by decide +kernel
theorem dX11_holds_10 : decode cX11_holds 10 = .ok (.invokevirtual 153, 3) := by decide +kernel
theorem dX11_holds_13 : decode cX11_holds 13 = .ok (.ifCond .ne 5, 3) := by decide +kernel
theorem dX11_holds_16 : decode cX11_holds 16 = .ok (.iconst (-1), 1) := by decide +kernel
theorem dX11_holds_17 : decode cX11_holds 17 = .ok (.ireturn, 1) := by decide +kernel
theorem dX11_holds_18 : decode cX11_holds 18 = .ok (.aload_n 0, 1) := by decide +kernel
theorem dX11_holds_19 : decode cX11_holds 19 = .ok (.invokevirtual 259, 3) := by decide +kernel
theorem dX11_holds_22 : decode cX11_holds 22 = .ok (.aload_n 0, 1) := by decide +kernel
theorem dX11_holds_23 : decode cX11_holds 23 = .ok (.iload_n 1, 1) := by decide +kernel
theorem dX11_holds_24 : decode cX11_holds 24 = .ok (.iload_n 2, 1) := by decide +kernel
theorem dX11_holds_25 : decode cX11_holds 25 = .ok (.invokevirtual 262, 3) := by decide +kernel
theorem dX11_holds_28 : decode cX11_holds 28 = .ok (.ifCond .ne 6, 3) := by decide +kernel
theorem dX11_holds_31 : decode cX11_holds 31 = .ok (.bipush (-5), 2) := by decide +kernel
theorem dX11_holds_33 : decode cX11_holds 33 = .ok (.ireturn, 1) := by decide +kernel
theorem dX11_holds_34 : decode cX11_holds 34 = .ok (.iload_n 1, 1) := by decide +kernel
theorem dX11_holds_35 : decode cX11_holds 35 = .ok (.iload_n 2, 1) := by decide +kernel
theorem dX11_holds_36 : decode cX11_holds 36 = .ok (.if_icmp .eq 21, 3) := by decide +kernel
theorem dX11_holds_39 : decode cX11_holds 39 = .ok (.aload_n 0, 1) := by decide +kernel
theorem dX11_holds_40 : decode cX11_holds 40 = .ok (.iload_n 1, 1) := by decide +kernel
theorem dX11_holds_41 : decode cX11_holds 41 = .ok (.iload_n 1, 1) := by decide +kernel
theorem dX11_holds_42 : decode cX11_holds 42 = .ok (.iload_n 2, 1) := by decide +kernel
theorem dX11_holds_43 : decode cX11_holds 43 = .ok (.invokevirtual 265, 3) := by decide +kernel
theorem dX11_holds_46 : decode cX11_holds 46 = .ok (.iload_n 2, 1) := by decide +kernel
theorem dX11_holds_47 : decode cX11_holds 47 = .ok (.ishr, 1) := by decide +kernel
theorem dX11_holds_48 : decode cX11_holds 48 = .ok (.iconst 1, 1) := by decide +kernel
theorem dX11_holds_49 : decode cX11_holds 49 = .ok (.iand, 1) := by decide +kernel
theorem dX11_holds_50 : decode cX11_holds 50 = .ok (.ifCond .ne 7, 3) := by decide +kernel
theorem dX11_holds_53 : decode cX11_holds 53 = .ok (.iconst 1, 1) := by decide +kernel
theorem dX11_holds_54 : decode cX11_holds 54 = .ok (.goto 4, 3) := by decide +kernel
theorem dX11_holds_57 : decode cX11_holds 57 = .ok (.iconst 0, 1) := by decide +kernel
theorem dX11_holds_58 : decode cX11_holds 58 = .ok (.ireturn, 1) := by decide +kernel
set_option maxRecDepth 20000 in
theorem ggX11_story_X11_isTen : GoodIn wsX11_story wsX11_isTen := goodIn_r _ [9, 10, 11, 8, 12] (by decide +kernel) (by decide +kernel)
set_option maxRecDepth 20000 in
theorem gX11_story_X11_isTen : GoodIn wsX11_story (va_wsS RX11 202 yX11_isTen wsX11_isTen) := goodIn_app (goodIn_of _ (by decide +kernel)) ggX11_story_X11_isTen
set_option maxRecDepth 20000 in
theorem ggX11_story_X11_in : GoodIn wsX11_story wsX11_in := goodIn_r _ [12] (by decide +kernel) (by decide +kernel)
set_option maxRecDepth 20000 in
theorem gX11_story_X11_in : GoodIn wsX11_story (va_wsS RX11 138 yX11_in wsX11_in) := goodIn_app (goodIn_of _ (by decide +kernel)) ggX11_story_X11_in
theorem dX11_story_0 : decode cX11_story 0 = .ok (.iload_n 1, 1) := by decide +kernel
theorem dX11_story_1 : decode cX11_story 1 = .ok (.invokestatic 202, 3) := by decide +kernel
theorem dX11_story_4 : decode cX11_story 4 = .ok (.ifCond .ne 5, 3) := by decide +kernel
theorem dX11_story_7 : decode cX11_story 7 = .ok (.iconst (-1), 1) := by decide +kernel
theorem dX11_story_8 : decode cX11_story 8 = .ok (.ireturn, 1) := by decide +kernel
theorem dX11_story_9 : decode cX11_story 9 = .ok (.iload_n 2, 1) := by decide +kernel
theorem dX11_story_10 : decode cX11_story 10 = .ok (.iconst 0, 1) := by decide +kernel
theorem dX11_story_11 : decode cX11_story 11 = .ok (.bipush 9, 2) := by decide +kernel
theorem dX11_story_13 : decode cX11_story 13 = .ok (.invokestatic 138, 3) := by decide +kernel
theorem dX11_story_16 : decode cX11_story 16 = .ok (.ifCond .eq 32, 3) := by decide +kernel
theorem dX11_story_19 : decode cX11_story 19 = .ok (.iload_n 3, 1) := by decide +kernel
theorem dX11_story_20 : decode cX11_story 20 = .ok (.iconst 0, 1) := by decide +kernel
theorem dX11_story_21 : decode cX11_story 21 = .ok (.sipush 999, 3) := by decide +kernel
theorem dX11_story_24 : decode cX11_story 24 = .ok (.invokestatic 138, 3) := by decide +kernel
theorem dX11_story_27 : decode cX11_story 27 = .ok (.ifCond .eq 21, 3) := by decide +kernel
theorem dX11_story_30 : decode cX11_story 30 = .ok (.iload 4, 2) := by decide +kernel
theorem dX11_story_32 : decode cX11_story 32 = .ok (.iconst 0, 1) := by decide +kernel
theorem dX11_story_33 : decode cX11_story 33 = .ok (.sipush 999, 3) := by decide +kernel
theorem dX11_story_36 : decode cX11_story 36 = .ok (.invokestatic 138, 3) := by decide +kernel
theorem dX11_story_39 : decode cX11_story 39 = .ok (.ifCond .eq 9, 3) := by decide +kernel
theorem dX11_story_42 : decode cX11_story 42 = .ok (.iload_n 3, 1) := by decide +kernel
theorem dX11_story_43 : decode cX11_story 43 = .ok (.iload 4, 2) := by decide +kernel
theorem dX11_story_45 : decode cX11_story 45 = .ok (.if_icmp .le 6, 3) := by decide +kernel
theorem dX11_story_48 : decode cX11_story 48 = .ok (.bipush (-2), 2) := by decide +kernel
theorem dX11_story_50 : decode cX11_story 50 = .ok (.ireturn, 1) := by decide +kernel
theorem dX11_story_51 : decode cX11_story 51 = .ok (.aload_n 0, 1) := by decide +kernel
theorem dX11_story_52 : decode cX11_story 52 = .ok (.getfield 268, 3) := by decide +kernel
theorem dX11_story_55 : decode cX11_story 55 = .ok (.bipush 10, 2) := by decide +kernel
theorem dX11_story_57 : decode cX11_story 57 = .ok (.if_icmp .ne 6, 3) := by decide +kernel
theorem dX11_story_60 : decode cX11_story 60 = .ok (.bipush (-4), 2) := by decide +kernel
theorem dX11_story_62 : decode cX11_story 62 = .ok (.ireturn, 1) := by decide +kernel
theorem dX11_story_63 : decode cX11_story 63 = .ok (.aload_n 0, 1) := by decide +kernel
theorem dX11_story_64 : decode cX11_story 64 = .ok (.getfield 86, 3) := by decide +kernel
theorem dX11_story_67 : decode cX11_story 67 = .ok (.aload_n 0, 1) := by decide +kernel
theorem dX11_story_68 : decode cX11_story 68 = .ok (.getfield 268, 3) := by decide +kernel
theorem dX11_story_71 : decode cX11_story 71 = .ok (.iload_n 1, 1) := by decide +kernel
theorem dX11_story_72 : decode cX11_story 72 = .ok (.iastore, 1) := by decide +kernel
theorem dX11_story_73 : decode cX11_story 73 = .ok (.aload_n 0, 1) := by decide +kernel
theorem dX11_story_74 : decode cX11_story 74 = .ok (.getfield 89, 3) := by decide +kernel
theorem dX11_story_77 : decode cX11_story 77 = .ok (.aload_n 0, 1) := by decide +kernel
theorem dX11_story_78 : decode cX11_story 78 = .ok (.getfield 268, 3) := by decide +kernel
theorem dX11_story_81 : decode cX11_story 81 = .ok (.iload_n 2, 1) := by decide +kernel
theorem dX11_story_82 : decode cX11_story 82 = .ok (.iastore, 1) := by decide +kernel
theorem dX11_story_83 : decode cX11_story 83 = .ok (.aload_n 0, 1) := by decide +kernel
theorem dX11_story_84 : decode cX11_story 84 = .ok (.getfield 92, 3) := by decide +kernel
theorem dX11_story_87 : decode cX11_story 87 = .ok (.aload_n 0, 1) := by decide +kernel
theorem dX11_story_88 : decode cX11_story 88 = .ok (.getfield 268, 3) := by decide +kernel
theorem dX11_story_91 : decode cX11_story 91 = .ok (.iload_n 3, 1) := by decide +kernel
theorem dX11_story_92 : decode cX11_story 92 = .ok (.iastore, 1) := by decide +kernel
theorem dX11_story_93 : decode cX11_story 93 = .ok (.aload_n 0, 1) := by decide +kernel
theorem dX11_story_94 : decode cX11_story 94 = .ok (.getfield 95, 3) := by decide +kernel
theorem dX11_story_97 : decode cX11_story 97 = .ok (.aload_n 0, 1) := by decide +kernel
theorem dX11_story_98 : decode cX11_story 98 = .ok (.getfield 268, 3) := by decide +kernel
theorem dX11_story_101 : decode cX11_story 101 = .ok (.iload 4, 2) := by decide +kernel
theorem dX11_story_103 : decode cX11_story 103 = .ok (.iastore, 1) := by decide +kernel
theorem dX11_story_104 : decode cX11_story 104 = .ok (.aload_n 0, 1) := by decide +kernel
theorem dX11_story_105 : decode cX11_story 105 = .ok (.dup, 1) := by decide +kernel
theorem dX11_story_106 : decode cX11_story 106 = .ok (.getfield 268, 3) := by decide +kernel
theorem dX11_story_109 : decode cX11_story 109 = .ok (.iconst 1, 1) := by decide +kernel
theorem dX11_story_110 : decode cX11_story 110 = .ok (.iadd, 1) := by decide +kernel
theorem dX11_story_111 : decode cX11_story 111 = .ok (.putfield 268, 3) := by decide +kernel
theorem dX11_story_114 : decode cX11_story 114 = .ok (.aload_n 0, 1) := by decide +kernel
theorem dX11_story_115 : decode cX11_story 115 = .ok (.getfield 268, 3) := by decide +kernel
theorem dX11_story_118 : decode cX11_story 118 = .ok (.iconst 1, 1) := by decide +kernel
theorem dX11_story_119 : decode cX11_story 119 = .ok (.isub, 1) := by decide +kernel
theorem dX11_story_120 : decode cX11_story 120 = .ok (.ireturn, 1) := by decide +kernel
theorem dX11_clash_0 : decode cX11_clash 0 = .ok (.aload_n 0, 1) := by decide +kernel
theorem dX11_clash_1 : decode cX11_clash 1 = .ok (.getfield 86, 3) := by decide +kernel
theorem dX11_clash_4 : decode cX11_clash 4 = .ok (.iload_n 1, 1) := by decide +kernel
theorem dX11_clash_5 : decode cX11_clash 5 = .ok (.iaload, 1) := by decide +kernel
theorem dX11_clash_6 : decode cX11_clash 6 = .ok (.aload_n 0, 1) := by decide +kernel
theorem dX11_clash_7 : decode cX11_clash 7 = .ok (.getfield 86, 3) := by decide +kernel
theorem dX11_clash_10 : decode cX11_clash 10 = .ok (.iload_n 2, 1) := by decide +kernel
theorem dX11_clash_11 : decode cX11_clash 11 = .ok (.iaload, 1) := by decide +kernel
theorem dX11_clash_12 : decode cX11_clash 12 = .ok (.if_icmp .ne 52, 3) := by decide +kernel
theorem dX11_clash_15 : decode cX11_clash 15 = .ok (.aload_n 0, 1) := by decide +kernel
theorem dX11_clash_16 : decode cX11_clash 16 = .ok (.getfield 89, 3) := by decide +kernel
theorem dX11_clash_19 : decode cX11_clash 19 = .ok (.iload_n 1, 1) := by decide +kernel
theorem dX11_clash_20 : decode cX11_clash 20 = .ok (.iaload, 1) := by decide +kernel
theorem dX11_clash_21 : decode cX11_clash 21 = .ok (.aload_n 0, 1) := by decide +kernel
theorem dX11_clash_22 : decode cX11_clash 22 = .ok (.getfield 89, 3) := by decide +kernel
theorem dX11_clash_25 : decode cX11_clash 25 = .ok (.iload_n 2, 1) := by decide +kernel
theorem dX11_clash_26 : decode cX11_clash 26 = .ok (.iaload, 1) := by decide +kernel
theorem dX11_clash_27 : decode cX11_clash 27 = .ok (.if_icmp .eq 37, 3) := by decide +kernel
theorem dX11_clash_30 : decode cX11_clash 30 = .ok (.aload_n 0, 1) := by decide +kernel
theorem dX11_clash_31 : decode cX11_clash 31 = .ok (.getfield 92, 3) := by decide +kernel
theorem dX11_clash_34 : decode cX11_clash 34 = .ok (.iload_n 1, 1) := by decide +kernel
theorem dX11_clash_35 : decode cX11_clash 35 = .ok (.iaload, 1) := by decide +kernel
theorem dX11_clash_36 : decode cX11_clash 36 = .ok (.aload_n 0, 1) := by decide +kernel
theorem dX11_clash_37 : decode cX11_clash 37 = .ok (.getfield 95, 3) := by decide +kernel
theorem dX11_clash_40 : decode cX11_clash 40 = .ok (.iload_n 2, 1) := by decide +kernel
theorem dX11_clash_41 : decode cX11_clash 41 = .ok (.iaload, 1) := by decide +kernel
theorem dX11_clash_42 : decode cX11_clash 42 = .ok (.if_icmp .gt 22, 3) := by decide +kernel
theorem dX11_clash_45 : decode cX11_clash 45 = .ok (.aload_n 0, 1) := by decide +kernel
theorem dX11_clash_46 : decode cX11_clash 46 = .ok (.getfield 92, 3) := by decide +kernel
theorem dX11_clash_49 : decode cX11_clash 49 = .ok (.iload_n 2, 1) := by decide +kernel
theorem dX11_clash_50 : decode cX11_clash 50 = .ok (.iaload, 1) := by decide +kernel
theorem dX11_clash_51 : decode cX11_clash 51 = .ok (.aload_n 0, 1) := by decide +kernel
theorem dX11_clash_52 : decode cX11_clash 52 = .ok (.getfield 95, 3) := by decide +kernel
theorem dX11_clash_55 : decode cX11_clash 55 = .ok (.iload_n 1, 1) := by decide +kernel
theorem dX11_clash_56 : decode cX11_clash 56 = .ok (.iaload, 1) := by decide +kernel
theorem dX11_clash_57 : decode cX11_clash 57 = .ok (.if_icmp .gt 7, 3) := by decide +kernel
theorem dX11_clash_60 : decode cX11_clash 60 = .ok (.iconst 1, 1) := by decide +kernel
theorem dX11_clash_61 : decode cX11_clash 61 = .ok (.goto 4, 3) := by decide +kernel
theorem dX11_clash_64 : decode cX11_clash 64 = .ok (.iconst 0, 1) := by decide +kernel
theorem dX11_clash_65 : decode cX11_clash 65 = .ok (.ireturn, 1) := by decide +kernel
set_option maxRecDepth 20000 in
theorem ggX11_canBe_X11_clash : GoodIn wsX11_canBe wsX11_clash := goodIn_r _ [6, 7, 8, 9, 10, 11, 12, 13, 14, 15, 16, 17, 18, 19, 20, 21, 22, 23, 24, 25, 26, 27, 28, 29, 30, 31, 32, 33, 34, 35, 36, 37, 38, 39, 40, 41, 42, 43, 44, 45, 46, 47, 48, 49, 50, 51, 52, 53, 54, 55, 56, 57, 58, 59, 60, 61, 62, 63, 64] (by decide +kernel) (by decide +kernel)
set_option maxRecDepth 20000 in
theorem gX11_canBe_X11_clash : GoodIn wsX11_canBe (wsV RX11 271 RX11 yX11_clash wsX11_clash) := goodIn_app (goodIn_of _ (by decide +kernel)) ggX11_canBe_X11_clash
theorem dX11_canBe_0 : decode cX11_canBe 0 = .ok (.iconst 1, 1) := by decide +kernel
theorem dX11_canBe_1 : decode cX11_canBe 1 = .ok (.istore_n 2, 1) := by decide +kernel
theorem dX11_canBe_2 : decode cX11_canBe 2 = .ok (.iconst 0, 1) := by decide +kernel
theorem dX11_canBe_3 : decode cX11_canBe 3 = .ok (.istore_n 3, 1) := by decide +kernel
theorem dX11_canBe_4 : decode cX11_canBe 4 = .ok (.iload_n 3, 1) := by decide +kernel
theorem dX11_canBe_5 : decode cX11_canBe 5 = .ok (.aload_n 0, 1) := by decide +kernel
theorem dX11_canBe_6 : decode cX11_canBe 6 = .ok (.getfield 268, 3) := by decide +kernel
theorem dX11_canBe_9 : decode cX11_canBe 9 = .ok (.if_icmp .ge 63, 3) := by decide +kernel
theorem dX11_canBe_12 : decode cX11_canBe 12 = .ok (.iconst 0, 1) := by decide +kernel
theorem dX11_canBe_13 : decode cX11_canBe 13 = .ok (.istore 4, 2) := by decide +kernel
theorem dX11_canBe_15 : decode cX11_canBe 15 = .ok (.iload 4, 2) := by decide +kernel
theorem dX11_canBe_17 : decode cX11_canBe 17 = .ok (.iload_n 3, 1) := by decide +kernel
theorem dX11_canBe_18 : decode cX11_canBe 18 = .ok (.if_icmp .ge 48, 3) := by decide +kernel
theorem dX11_canBe_21 : decode cX11_canBe 21 = .ok (.iload_n 2, 1) := by decide +kernel
theorem dX11_canBe_22 : decode cX11_canBe 22 = .ok (.ifCond .eq 36, 3) := by decide +kernel
theorem dX11_canBe_25 : decode cX11_canBe 25 = .ok (.iload_n 1, 1) := by decide +kernel
theorem dX11_canBe_26 : decode cX11_canBe 26 = .ok (.iload_n 3, 1) := by decide +kernel
theorem dX11_canBe_27 : decode cX11_canBe 27 = .ok (.ishr, 1) := by decide +kernel
theorem dX11_canBe_28 : decode cX11_canBe 28 = .ok (.iconst 1, 1) := by decide +kernel
theorem dX11_canBe_29 : decode cX11_canBe 29 = .ok (.iand, 1) := by decide +kernel
theorem dX11_canBe_30 : decode cX11_canBe 30 = .ok (.iconst 1, 1) := by decide +kernel
theorem dX11_canBe_31 : decode cX11_canBe 31 = .ok (.if_icmp .eq 23, 3) := by decide +kernel
theorem dX11_canBe_34 : decode cX11_canBe 34 = .ok (.iload_n 1, 1) := by decide +kernel
theorem dX11_canBe_35 : decode cX11_canBe 35 = .ok (.iload 4, 2) := by decide +kernel
theorem dX11_canBe_37 : decode cX11_canBe 37 = .ok (.ishr, 1) := by decide +kernel
theorem dX11_canBe_38 : decode cX11_canBe 38 = .ok (.iconst 1, 1) := by decide +kernel
theorem dX11_canBe_39 : decode cX11_canBe 39 = .ok (.iand, 1) := by decide +kernel
theorem dX11_canBe_40 : decode cX11_canBe 40 = .ok (.iconst 1, 1) := by decide +kernel
theorem dX11_canBe_41 : decode cX11_canBe 41 = .ok (.if_icmp .eq 13, 3) := by decide +kernel
theorem dX11_canBe_44 : decode cX11_canBe 44 = .ok (.aload_n 0, 1) := by decide +kernel
theorem dX11_canBe_45 : decode cX11_canBe 45 = .ok (.iload_n 3, 1) := by decide +kernel
theorem dX11_canBe_46 : decode cX11_canBe 46 = .ok (.iload 4, 2) := by decide +kernel
theorem dX11_canBe_48 : decode cX11_canBe 48 = .ok (.invokevirtual 271, 3) := by decide +kernel
theorem dX11_canBe_51 : decode cX11_canBe 51 = .ok (.ifCond .ne 7, 3) := by decide +kernel
theorem dX11_canBe_54 : decode cX11_canBe 54 = .ok (.iconst 1, 1) := by decide +kernel
theorem dX11_canBe_55 : decode cX11_canBe 55 = .ok (.goto 4, 3) := by decide +kernel
theorem dX11_canBe_58 : decode cX11_canBe 58 = .ok (.iconst 0, 1) := by decide +kernel
theorem dX11_canBe_59 : decode cX11_canBe 59 = .ok (.istore_n 2, 1) := by decide +kernel
theorem dX11_canBe_60 : decode cX11_canBe 60 = .ok (.iinc 4 1, 3) := by decide +kernel
theorem dX11_canBe_63 : decode cX11_canBe 63 = .ok (.goto (-48), 3) := by decide +kernel
theorem dX11_canBe_66 : decode cX11_canBe 66 = .ok (.iinc 3 1, 3) := by decide +kernel
theorem dX11_canBe_69 : decode cX11_canBe 69 = .ok (.goto (-65), 3) := by decide +kernel
theorem dX11_canBe_72 : decode cX11_canBe 72 = .ok (.iload_n 2, 1) := by decide +kernel
theorem dX11_canBe_73 : decode cX11_canBe 73 = .ok (.ireturn, 1) := by decide +kernel
set_option maxRecDepth 20000 in
theorem ggX11_untrue_X11_in : GoodIn wsX11_untrue wsX11_in := goodIn_r _ [5] (by decide +kernel) (by decide +kernel)
set_option maxRecDepth 20000 in
theorem gX11_untrue_X11_in : GoodIn wsX11_untrue (va_wsS RX11 138 yX11_in wsX11_in) := goodIn_app (goodIn_of _ (by decide +kernel)) ggX11_untrue_X11_in
set_option maxRecDepth 20000 in
theorem ggX11_untrue_X11_bits : GoodIn wsX11_untrue wsX11_bits := goodIn_r _ [8] (by decide +kernel) (by decide +kernel)
set_option maxRecDepth 20000 in
theorem gX11_untrue_X11_bits : GoodIn wsX11_untrue (va_wsS RX11 247 yX11_bits wsX11_bits) := goodIn_app (goodIn_of _ (by decide +kernel)) ggX11_untrue_X11_bits
set_option maxRecDepth 20000 in
theorem ggX11_untrue_X11_canBe : GoodIn wsX11_untrue wsX11_canBe := goodIn_r _ [12, 1, 13, 14, 15, 4, 16, 17, 18, 19, 20, 21, 22, 23, 24, 25, 26, 27, 28, 29, 30, 31, 32, 33, 34, 35, 36, 37, 38, 39, 40, 41, 42, 43, 44, 45, 46, 47, 48, 49, 50, 51, 52, 53, 54, 55, 56, 57, 58, 59, 60, 61, 62, 63, 64, 65, 66, 67, 68, 69, 70, 71, 72, 73, 74] (by decide +kernel) (by decide +kernel)
set_option maxRecDepth 20000 in
theorem gX11_untrue_X11_canBe : GoodIn wsX11_untrue (wsV RX11 274 RX11 yX11_canBe wsX11_canBe) := goodIn_app (goodIn_of _ (by decide +kernel)) ggX11_untrue_X11_canBe
theorem dX11_untrue_0 : decode cX11_untrue 0 = .ok (.iload_n 1, 1) := by decide +kernel
theorem dX11_untrue_1 : decode cX11_untrue 1 = .ok (.iconst 0, 1) := by decide +kernel
theorem dX11_untrue_2 : decode cX11_untrue 2 = .ok (.iconst 2, 1) := by decide +kernel
theorem dX11_untrue_3 : decode cX11_untrue 3 = .ok (.invokestatic 138, 3) := by decide +kernel
theorem dX11_untrue_6 : decode cX11_untrue 6 = .ok (.ifCond .ne 6, 3) := by decide +kernel
theorem dX11_untrue_9 : decode cX11_untrue 9 = .ok (.bipush (-2), 2) := by decide +kernel
theorem dX11_untrue_11 : decode cX11_untrue 11 = .ok (.ireturn, 1) := by decide +kernel
theorem dX11_untrue_12 : decode cX11_untrue 12 = .ok (.bipush (-6), 2) := by decide +kernel
theorem dX11_untrue_14 : decode cX11_untrue 14 = .ok (.istore_n 2, 1) := by decide +kernel
theorem dX11_untrue_15 : decode cX11_untrue 15 = .ok (.iconst 0, 1) := by decide +kernel
theorem dX11_untrue_16 : decode cX11_untrue 16 = .ok (.istore_n 3, 1) := by decide +kernel
theorem dX11_untrue_17 : decode cX11_untrue 17 = .ok (.iconst 0, 1) := by decide +kernel
theorem dX11_untrue_18 : decode cX11_untrue 18 = .ok (.istore 4, 2) := by decide +kernel
theorem dX11_untrue_20 : decode cX11_untrue 20 = .ok (.iload 4, 2) := by decide +kernel
theorem dX11_untrue_22 : decode cX11_untrue 22 = .ok (.iconst 1, 1) := by decide +kernel
theorem dX11_untrue_23 : decode cX11_untrue 23 = .ok (.aload_n 0, 1) := by decide +kernel
theorem dX11_untrue_24 : decode cX11_untrue 24 = .ok (.getfield 268, 3) := by decide +kernel
theorem dX11_untrue_27 : decode cX11_untrue 27 = .ok (.ishl, 1) := by decide +kernel
theorem dX11_untrue_28 : decode cX11_untrue 28 = .ok (.if_icmp .ge 84, 3) := by decide +kernel
theorem dX11_untrue_31 : decode cX11_untrue 31 = .ok (.iload_n 2, 1) := by decide +kernel
theorem dX11_untrue_32 : decode cX11_untrue 32 = .ok (.ifCond .lt 15, 3) := by decide +kernel
theorem dX11_untrue_35 : decode cX11_untrue 35 = .ok (.iload 4, 2) := by decide +kernel
theorem dX11_untrue_37 : decode cX11_untrue 37 = .ok (.invokestatic 247, 3) := by decide +kernel
theorem dX11_untrue_40 : decode cX11_untrue 40 = .ok (.iload_n 2, 1) := by decide +kernel
theorem dX11_untrue_41 : decode cX11_untrue 41 = .ok (.invokestatic 247, 3) := by decide +kernel
theorem dX11_untrue_44 : decode cX11_untrue 44 = .ok (.if_icmp .gt 62, 3) := by decide +kernel
theorem dX11_untrue_47 : decode cX11_untrue 47 = .ok (.aload_n 0, 1) := by decide +kernel
theorem dX11_untrue_48 : decode cX11_untrue 48 = .ok (.iload 4, 2) := by decide +kernel
theorem dX11_untrue_50 : decode cX11_untrue 50 = .ok (.invokevirtual 274, 3) := by decide +kernel
theorem dX11_untrue_53 : decode cX11_untrue 53 = .ok (.ifCond .eq 53, 3) := by decide +kernel
theorem dX11_untrue_56 : decode cX11_untrue 56 = .ok (.iload_n 2, 1) := by decide +kernel
theorem dX11_untrue_57 : decode cX11_untrue 57 = .ok (.ifCond .lt 15, 3) := by decide +kernel
theorem dX11_untrue_60 : decode cX11_untrue 60 = .ok (.iload 4, 2) := by decide +kernel
theorem dX11_untrue_62 : decode cX11_untrue 62 = .ok (.invokestatic 247, 3) := by decide +kernel
theorem dX11_untrue_65 : decode cX11_untrue 65 = .ok (.iload_n 2, 1) := by decide +kernel
theorem dX11_untrue_66 : decode cX11_untrue 66 = .ok (.invokestatic 247, 3) := by decide +kernel
theorem dX11_untrue_69 : decode cX11_untrue 69 = .ok (.if_icmp .ge 7, 3) := by decide +kernel
theorem dX11_untrue_72 : decode cX11_untrue 72 = .ok (.iconst 1, 1) := by decide +kernel
theorem dX11_untrue_73 : decode cX11_untrue 73 = .ok (.goto 4, 3) := by decide +kernel
theorem dX11_untrue_76 : decode cX11_untrue 76 = .ok (.iconst 0, 1) := by decide +kernel
theorem dX11_untrue_77 : decode cX11_untrue 77 = .ok (.istore 5, 2) := by decide +kernel
theorem dX11_untrue_79 : decode cX11_untrue 79 = .ok (.iload 5, 2) := by decide +kernel
theorem dX11_untrue_81 : decode cX11_untrue 81 = .ok (.ifCond .eq 8, 3) := by decide +kernel
theorem dX11_untrue_84 : decode cX11_untrue 84 = .ok (.iload 4, 2) := by decide +kernel
theorem dX11_untrue_86 : decode cX11_untrue 86 = .ok (.goto 7, 3) := by decide +kernel
theorem dX11_untrue_89 : decode cX11_untrue 89 = .ok (.iload_n 3, 1) := by decide +kernel
theorem dX11_untrue_90 : decode cX11_untrue 90 = .ok (.iload 4, 2) := by decide +kernel
theorem dX11_untrue_92 : decode cX11_untrue 92 = .ok (.iand, 1) := by decide +kernel
theorem dX11_untrue_93 : decode cX11_untrue 93 = .ok (.istore_n 3, 1) := by decide +kernel
theorem dX11_untrue_94 : decode cX11_untrue 94 = .ok (.iload 5, 2) := by decide +kernel
theorem dX11_untrue_96 : decode cX11_untrue 96 = .ok (.ifCond .eq 8, 3) := by decide +kernel
theorem dX11_untrue_99 : decode cX11_untrue 99 = .ok (.iload 4, 2) := by decide +kernel
theorem dX11_untrue_101 : decode cX11_untrue 101 = .ok (.goto 4, 3) := by decide +kernel
theorem dX11_untrue_104 : decode cX11_untrue 104 = .ok (.iload_n 2, 1) := by decide +kernel
theorem dX11_untrue_105 : decode cX11_untrue 105 = .ok (.istore_n 2, 1) := by decide +kernel
theorem dX11_untrue_106 : decode cX11_untrue 106 = .ok (.iinc 4 1, 3) := by decide +kernel
theorem dX11_untrue_109 : decode cX11_untrue 109 = .ok (.goto (-89), 3) := by decide +kernel
theorem dX11_untrue_112 : decode cX11_untrue 112 = .ok (.iload_n 1, 1) := by decide +kernel
theorem dX11_untrue_113 : decode cX11_untrue 113 = .ok (.ifCond .ne 7, 3) := by decide +kernel
theorem dX11_untrue_116 : decode cX11_untrue 116 = .ok (.iload_n 2, 1) := by decide +kernel
theorem dX11_untrue_117 : decode cX11_untrue 117 = .ok (.goto 16, 3) := by decide +kernel
theorem dX11_untrue_120 : decode cX11_untrue 120 = .ok (.iload_n 1, 1) := by decide +kernel
theorem dX11_untrue_121 : decode cX11_untrue 121 = .ok (.iconst 1, 1) := by decide +kernel
theorem dX11_untrue_122 : decode cX11_untrue 122 = .ok (.if_icmp .ne 10, 3) := by decide +kernel
theorem dX11_untrue_125 : decode cX11_untrue 125 = .ok (.iload_n 2, 1) := by decide +kernel
theorem dX11_untrue_126 : decode cX11_untrue 126 = .ok (.invokestatic 247, 3) := by decide +kernel
theorem dX11_untrue_129 : decode cX11_untrue 129 = .ok (.goto 4, 3) := by decide +kernel
theorem dX11_untrue_132 : decode cX11_untrue 132 = .ok (.iload_n 3, 1) := by decide +kernel
theorem dX11_untrue_133 : decode cX11_untrue 133 = .ok (.ireturn, 1) := by decide +kernel
set_option maxRecDepth 20000 in
theorem ggX11_take_X11_isSide : GoodIn wsX11_take wsX11_isSide := goodIn_r _ [5, 6, 7, 4, 8] (by decide +kernel) (by decide +kernel)
set_option maxRecDepth 20000 in
theorem gX11_take_X11_isSide : GoodIn wsX11_take (va_wsS RX11 149 yX11_isSide wsX11_isSide) := goodIn_app (goodIn_of _ (by decide +kernel)) ggX11_take_X11_isSide
set_option maxRecDepth 20000 in
theorem ggX11_take_X11_in : GoodIn wsX11_take wsX11_in := goodIn_r _ [8] (by decide +kernel) (by decide +kernel)
set_option maxRecDepth 20000 in
theorem gX11_take_X11_in : GoodIn wsX11_take (va_wsS RX11 138 yX11_in wsX11_in) := goodIn_app (goodIn_of _ (by decide +kernel)) ggX11_take_X11_in
theorem dX11_take_0 : decode cX11_take 0 = .ok (.iload_n 1, 1) := by decide +kernel
theorem dX11_take_1 : decode cX11_take 1 = .ok (.invokestatic 149, 3) := by decide +kernel
theorem dX11_take_4 : decode cX11_take 4 = .ok (.ifCond .ne 5, 3) := by decide +kernel
theorem dX11_take_7 : decode cX11_take 7 = .ok (.iconst (-1), 1) := by decide +kernel
theorem dX11_take_8 : decode cX11_take 8 = .ok (.ireturn, 1) := by decide +kernel
theorem dX11_take_9 : decode cX11_take 9 = .ok (.iload_n 2, 1) := by decide +kernel
theorem dX11_take_10 : decode cX11_take 10 = .ok (.iconst 0, 1) := by decide +kernel
theorem dX11_take_11 : decode cX11_take 11 = .ok (.bipush 99, 2) := by decide +kernel
theorem dX11_take_13 : decode cX11_take 13 = .ok (.invokestatic 138, 3) := by decide +kernel
theorem dX11_take_16 : decode cX11_take 16 = .ok (.ifCond .ne 6, 3) := by decide +kernel
theorem dX11_take_19 : decode cX11_take 19 = .ok (.bipush (-2), 2) := by decide +kernel
theorem dX11_take_21 : decode cX11_take 21 = .ok (.ireturn, 1) := by decide +kernel
theorem dX11_take_22 : decode cX11_take 22 = .ok (.aload_n 0, 1) := by decide +kernel
theorem dX11_take_23 : decode cX11_take 23 = .ok (.getfield 13, 3) := by decide +kernel
theorem dX11_take_26 : decode cX11_take 26 = .ok (.iload_n 1, 1) := by decide +kernel
theorem dX11_take_27 : decode cX11_take 27 = .ok (.iaload, 1) := by decide +kernel
theorem dX11_take_28 : decode cX11_take 28 = .ok (.istore_n 3, 1) := by decide +kernel
theorem dX11_take_29 : decode cX11_take 29 = .ok (.aload_n 0, 1) := by decide +kernel
theorem dX11_take_30 : decode cX11_take 30 = .ok (.getfield 13, 3) := by decide +kernel
theorem dX11_take_33 : decode cX11_take 33 = .ok (.iload_n 1, 1) := by decide +kernel
theorem dX11_take_34 : decode cX11_take 34 = .ok (.iload_n 2, 1) := by decide +kernel
theorem dX11_take_35 : decode cX11_take 35 = .ok (.iastore, 1) := by decide +kernel
theorem dX11_take_36 : decode cX11_take 36 = .ok (.iload_n 3, 1) := by decide +kernel
theorem dX11_take_37 : decode cX11_take 37 = .ok (.ireturn, 1) := by decide +kernel
theorem dX11_plays_0 : decode cX11_plays 0 = .ok (.iconst 0, 1) := by decide +kernel
theorem dX11_plays_1 : decode cX11_plays 1 = .ok (.istore_n 2, 1) := by decide +kernel
theorem dX11_plays_2 : decode cX11_plays 2 = .ok (.iconst 0, 1) := by decide +kernel
theorem dX11_plays_3 : decode cX11_plays 3 = .ok (.istore_n 3, 1) := by decide +kernel
theorem dX11_plays_4 : decode cX11_plays 4 = .ok (.iload_n 3, 1) := by decide +kernel
theorem dX11_plays_5 : decode cX11_plays 5 = .ok (.aload_n 0, 1) := by decide +kernel
theorem dX11_plays_6 : decode cX11_plays 6 = .ok (.getfield 142, 3) := by decide +kernel
theorem dX11_plays_9 : decode cX11_plays 9 = .ok (.if_icmp .ge 39, 3) := by decide +kernel
theorem dX11_plays_12 : decode cX11_plays 12 = .ok (.iload_n 2, 1) := by decide +kernel
theorem dX11_plays_13 : decode cX11_plays 13 = .ok (.ifCond .ne 23, 3) := by decide +kernel
theorem dX11_plays_16 : decode cX11_plays 16 = .ok (.aload_n 0, 1) := by decide +kernel
theorem dX11_plays_17 : decode cX11_plays 17 = .ok (.getfield 16, 3) := by decide +kernel
theorem dX11_plays_20 : decode cX11_plays 20 = .ok (.iload_n 3, 1) := by decide +kernel
theorem dX11_plays_21 : decode cX11_plays 21 = .ok (.iaload, 1) := by decide +kernel
theorem dX11_plays_22 : decode cX11_plays 22 = .ok (.iload_n 1, 1) := by decide +kernel
theorem dX11_plays_23 : decode cX11_plays 23 = .ok (.if_icmp .eq 13, 3) := by decide +kernel
theorem dX11_plays_26 : decode cX11_plays 26 = .ok (.aload_n 0, 1) := by decide +kernel
theorem dX11_plays_27 : decode cX11_plays 27 = .ok (.getfield 19, 3) := by decide +kernel
theorem dX11_plays_30 : decode cX11_plays 30 = .ok (.iload_n 3, 1) := by decide +kernel
theorem dX11_plays_31 : decode cX11_plays 31 = .ok (.iaload, 1) := by decide +kernel
theorem dX11_plays_32 : decode cX11_plays 32 = .ok (.iload_n 1, 1) := by decide +kernel
theorem dX11_plays_33 : decode cX11_plays 33 = .ok (.if_icmp .ne 7, 3) := by decide +kernel
theorem dX11_plays_36 : decode cX11_plays 36 = .ok (.iconst 1, 1) := by decide +kernel
theorem dX11_plays_37 : decode cX11_plays 37 = .ok (.goto 4, 3) := by decide +kernel
theorem dX11_plays_40 : decode cX11_plays 40 = .ok (.iconst 0, 1) := by decide +kernel
theorem dX11_plays_41 : decode cX11_plays 41 = .ok (.istore_n 2, 1) := by decide +kernel
theorem dX11_plays_42 : decode cX11_plays 42 = .ok (.iinc 3 1, 3) := by decide +kernel
theorem dX11_plays_45 : decode cX11_plays 45 = .ok (.goto (-41), 3) := by decide +kernel
theorem dX11_plays_48 : decode cX11_plays 48 = .ok (.iload_n 2, 1) := by decide +kernel
theorem dX11_plays_49 : decode cX11_plays 49 = .ok (.ireturn, 1) := by decide +kernel
set_option maxRecDepth 20000 in
theorem ggX11_pointsOf_X11_endOf : GoodIn wsX11_pointsOf wsX11_endOf := goodIn_r _ [9, 10, 11, 12, 8, 13, 14, 15, 16, 17, 18, 19, 20, 21, 22, 23, 24, 25, 26, 27, 28, 29, 30, 31, 32, 33, 34, 35, 36, 37, 38, 39, 40, 41, 42, 43, 44, 45, 46, 47, 48, 49, 50, 51, 52, 53, 54, 55, 56, 57, 58, 59, 60, 61, 62, 63, 64, 65, 66, 67, 68] (by decide +kernel) (by decide +kernel)
set_option maxRecDepth 20000 in
theorem gX11_pointsOf_X11_endOf : GoodIn wsX11_pointsOf (wsV RX11 160 RX11 yX11_endOf wsX11_endOf) := goodIn_app (goodIn_of _ (by decide +kernel)) ggX11_pointsOf_X11_endOf
theorem dX11_pointsOf_0 : decode cX11_pointsOf 0 = .ok (.aload_n 0, 1) := by decide +kernel
theorem dX11_pointsOf_1 : decode cX11_pointsOf 1 = .ok (.getfield 13, 3) := by decide +kernel
theorem dX11_pointsOf_4 : decode cX11_pointsOf 4 = .ok (.iload_n 1, 1) := by decide +kernel
theorem dX11_pointsOf_5 : decode cX11_pointsOf 5 = .ok (.iaload, 1) := by decide +kernel
theorem dX11_pointsOf_6 : decode cX11_pointsOf 6 = .ok (.ineg, 1) := by decide +kernel
theorem dX11_pointsOf_7 : decode cX11_pointsOf 7 = .ok (.istore_n 2, 1) := by decide +kernel
theorem dX11_pointsOf_8 : decode cX11_pointsOf 8 = .ok (.iconst 0, 1) := by decide +kernel
theorem dX11_pointsOf_9 : decode cX11_pointsOf 9 = .ok (.istore_n 3, 1) := by decide +kernel
theorem dX11_pointsOf_10 : decode cX11_pointsOf 10 = .ok (.iload_n 3, 1) := by decide +kernel
theorem dX11_pointsOf_11 : decode cX11_pointsOf 11 = .ok (.aload_n 0, 1) := by decide +kernel
theorem dX11_pointsOf_12 : decode cX11_pointsOf 12 = .ok (.getfield 142, 3) := by decide +kernel
theorem dX11_pointsOf_15 : decode cX11_pointsOf 15 = .ok (.if_icmp .ge 91, 3) := by decide +kernel
theorem dX11_pointsOf_18 : decode cX11_pointsOf 18 = .ok (.aload_n 0, 1) := by decide +kernel
theorem dX11_pointsOf_19 : decode cX11_pointsOf 19 = .ok (.iload_n 3, 1) := by decide +kernel
theorem dX11_pointsOf_20 : decode cX11_pointsOf 20 = .ok (.invokevirtual 160, 3) := by decide +kernel
theorem dX11_pointsOf_23 : decode cX11_pointsOf 23 = .ok (.istore 4, 2) := by decide +kernel
theorem dX11_pointsOf_25 : decode cX11_pointsOf 25 = .ok (.iload_n 2, 1) := by decide +kernel
theorem dX11_pointsOf_26 : decode cX11_pointsOf 26 = .ok (.aload_n 0, 1) := by decide +kernel
theorem dX11_pointsOf_27 : decode cX11_pointsOf 27 = .ok (.getfield 16, 3) := by decide +kernel
theorem dX11_pointsOf_30 : decode cX11_pointsOf 30 = .ok (.iload_n 3, 1) := by decide +kernel
theorem dX11_pointsOf_31 : decode cX11_pointsOf 31 = .ok (.iaload, 1) := by decide +kernel
theorem dX11_pointsOf_32 : decode cX11_pointsOf 32 = .ok (.iload_n 1, 1) := by decide +kernel
theorem dX11_pointsOf_33 : decode cX11_pointsOf 33 = .ok (.if_icmp .ne 26, 3) := by decide +kernel
theorem dX11_pointsOf_36 : decode cX11_pointsOf 36 = .ok (.iload 4, 2) := by decide +kernel
theorem dX11_pointsOf_38 : decode cX11_pointsOf 38 = .ok (.ifCond .ne 7, 3) := by decide +kernel
theorem dX11_pointsOf_41 : decode cX11_pointsOf 41 = .ok (.iconst 3, 1) := by decide +kernel
theorem dX11_pointsOf_42 : decode cX11_pointsOf 42 = .ok (.goto 18, 3) := by decide +kernel
theorem dX11_pointsOf_45 : decode cX11_pointsOf 45 = .ok (.iload 4, 2) := by decide +kernel
theorem dX11_pointsOf_47 : decode cX11_pointsOf 47 = .ok (.iconst 1, 1) := by decide +kernel
theorem dX11_pointsOf_48 : decode cX11_pointsOf 48 = .ok (.if_icmp .ne 7, 3) := by decide +kernel
theorem dX11_pointsOf_51 : decode cX11_pointsOf 51 = .ok (.iconst 1, 1) := by decide +kernel
theorem dX11_pointsOf_52 : decode cX11_pointsOf 52 = .ok (.goto 8, 3) := by decide +kernel
theorem dX11_pointsOf_55 : decode cX11_pointsOf 55 = .ok (.iconst 0, 1) := by decide +kernel
theorem dX11_pointsOf_56 : decode cX11_pointsOf 56 = .ok (.goto 4, 3) := by decide +kernel
theorem dX11_pointsOf_59 : decode cX11_pointsOf 59 = .ok (.iconst 0, 1) := by decide +kernel
theorem dX11_pointsOf_60 : decode cX11_pointsOf 60 = .ok (.iadd, 1) := by decide +kernel
theorem dX11_pointsOf_61 : decode cX11_pointsOf 61 = .ok (.istore_n 2, 1) := by decide +kernel
theorem dX11_pointsOf_62 : decode cX11_pointsOf 62 = .ok (.iload_n 2, 1) := by decide +kernel
theorem dX11_pointsOf_63 : decode cX11_pointsOf 63 = .ok (.aload_n 0, 1) := by decide +kernel
theorem dX11_pointsOf_64 : decode cX11_pointsOf 64 = .ok (.getfield 19, 3) := by decide +kernel
theorem dX11_pointsOf_67 : decode cX11_pointsOf 67 = .ok (.iload_n 3, 1) := by decide +kernel
theorem dX11_pointsOf_68 : decode cX11_pointsOf 68 = .ok (.iaload, 1) := by decide +kernel
theorem dX11_pointsOf_69 : decode cX11_pointsOf 69 = .ok (.iload_n 1, 1) := by decide +kernel
theorem dX11_pointsOf_70 : decode cX11_pointsOf 70 = .ok (.if_icmp .ne 27, 3) := by decide +kernel
theorem dX11_pointsOf_73 : decode cX11_pointsOf 73 = .ok (.iload 4, 2) := by decide +kernel
theorem dX11_pointsOf_75 : decode cX11_pointsOf 75 = .ok (.iconst 2, 1) := by decide +kernel
theorem dX11_pointsOf_76 : decode cX11_pointsOf 76 = .ok (.if_icmp .ne 7, 3) := by decide +kernel
theorem dX11_pointsOf_79 : decode cX11_pointsOf 79 = .ok (.iconst 3, 1) := by decide +kernel
theorem dX11_pointsOf_80 : decode cX11_pointsOf 80 = .ok (.goto 18, 3) := by decide +kernel
theorem dX11_pointsOf_83 : decode cX11_pointsOf 83 = .ok (.iload 4, 2) := by decide +kernel
theorem dX11_pointsOf_85 : decode cX11_pointsOf 85 = .ok (.iconst 1, 1) := by decide +kernel
theorem dX11_pointsOf_86 : decode cX11_pointsOf 86 = .ok (.if_icmp .ne 7, 3) := by decide +kernel
theorem dX11_pointsOf_89 : decode cX11_pointsOf 89 = .ok (.iconst 1, 1) := by decide +kernel
theorem dX11_pointsOf_90 : decode cX11_pointsOf 90 = .ok (.goto 8, 3) := by decide +kernel
theorem dX11_pointsOf_93 : decode cX11_pointsOf 93 = .ok (.iconst 0, 1) := by decide +kernel
theorem dX11_pointsOf_94 : decode cX11_pointsOf 94 = .ok (.goto 4, 3) := by decide +kernel
theorem dX11_pointsOf_97 : decode cX11_pointsOf 97 = .ok (.iconst 0, 1) := by decide +kernel
theorem dX11_pointsOf_98 : decode cX11_pointsOf 98 = .ok (.iadd, 1) := by decide +kernel
theorem dX11_pointsOf_99 : decode cX11_pointsOf 99 = .ok (.istore_n 2, 1) := by decide +kernel
theorem dX11_pointsOf_100 : decode cX11_pointsOf 100 = .ok (.iinc 3 1, 3) := by decide +kernel
theorem dX11_pointsOf_103 : decode cX11_pointsOf 103 = .ok (.goto (-93), 3) := by decide +kernel
theorem dX11_pointsOf_106 : decode cX11_pointsOf 106 = .ok (.iload_n 2, 1) := by decide +kernel
theorem dX11_pointsOf_107 : decode cX11_pointsOf 107 = .ok (.ireturn, 1) := by decide +kernel
set_option maxRecDepth 20000 in
theorem ggX11_offOf_X11_scored : GoodIn wsX11_offOf wsX11_scored := goodIn_r _ [8, 9, 10, 11, 12, 13, 14, 15, 16, 17, 18, 19, 20, 21, 22, 23, 24, 25, 26, 27, 28, 29, 30, 31, 32, 33, 34, 35, 36, 37, 38, 39, 40, 41, 42, 43, 44, 45, 46, 47, 48, 49, 50, 51, 52, 53, 54, 55, 56, 57, 58, 59, 60, 61, 62, 63] (by decide +kernel) (by decide +kernel)
set_option maxRecDepth 20000 in
theorem gX11_offOf_X11_scored : GoodIn wsX11_offOf (wsV RX11 156 RX11 yX11_scored wsX11_scored) := goodIn_app (goodIn_of _ (by decide +kernel)) ggX11_offOf_X11_scored
theorem dX11_offOf_0 : decode cX11_offOf 0 = .ok (.iconst 0, 1) := by decide +kernel
theorem dX11_offOf_1 : decode cX11_offOf 1 = .ok (.istore_n 2, 1) := by decide +kernel
theorem dX11_offOf_2 : decode cX11_offOf 2 = .ok (.iconst 0, 1) := by decide +kernel
theorem dX11_offOf_3 : decode cX11_offOf 3 = .ok (.istore_n 3, 1) := by decide +kernel
theorem dX11_offOf_4 : decode cX11_offOf 4 = .ok (.iload_n 3, 1) := by decide +kernel
theorem dX11_offOf_5 : decode cX11_offOf 5 = .ok (.aload_n 0, 1) := by decide +kernel
theorem dX11_offOf_6 : decode cX11_offOf 6 = .ok (.getfield 142, 3) := by decide +kernel
theorem dX11_offOf_9 : decode cX11_offOf 9 = .ok (.if_icmp .ge 63, 3) := by decide +kernel
theorem dX11_offOf_12 : decode cX11_offOf 12 = .ok (.aload_n 0, 1) := by decide +kernel
theorem dX11_offOf_13 : decode cX11_offOf 13 = .ok (.iload_n 3, 1) := by decide +kernel
theorem dX11_offOf_14 : decode cX11_offOf 14 = .ok (.bipush 6, 2) := by decide +kernel
theorem dX11_offOf_16 : decode cX11_offOf 16 = .ok (.iconst 1, 1) := by decide +kernel
theorem dX11_offOf_17 : decode cX11_offOf 17 = .ok (.invokevirtual 156, 3) := by decide +kernel
theorem dX11_offOf_20 : decode cX11_offOf 20 = .ok (.aload_n 0, 1) := by decide +kernel
theorem dX11_offOf_21 : decode cX11_offOf 21 = .ok (.iload_n 3, 1) := by decide +kernel
theorem dX11_offOf_22 : decode cX11_offOf 22 = .ok (.bipush 6, 2) := by decide +kernel
theorem dX11_offOf_24 : decode cX11_offOf 24 = .ok (.iconst 2, 1) := by decide +kernel
theorem dX11_offOf_25 : decode cX11_offOf 25 = .ok (.invokevirtual 156, 3) := by decide +kernel
theorem dX11_offOf_28 : decode cX11_offOf 28 = .ok (.isub, 1) := by decide +kernel
theorem dX11_offOf_29 : decode cX11_offOf 29 = .ok (.istore 4, 2) := by decide +kernel
theorem dX11_offOf_31 : decode cX11_offOf 31 = .ok (.iload_n 2, 1) := by decide +kernel
theorem dX11_offOf_32 : decode cX11_offOf 32 = .ok (.aload_n 0, 1) := by decide +kernel
theorem dX11_offOf_33 : decode cX11_offOf 33 = .ok (.getfield 16, 3) := by decide +kernel
theorem dX11_offOf_36 : decode cX11_offOf 36 = .ok (.iload_n 3, 1) := by decide +kernel
theorem dX11_offOf_37 : decode cX11_offOf 37 = .ok (.iaload, 1) := by decide +kernel
theorem dX11_offOf_38 : decode cX11_offOf 38 = .ok (.iload_n 1, 1) := by decide +kernel
theorem dX11_offOf_39 : decode cX11_offOf 39 = .ok (.if_icmp .ne 8, 3) := by decide +kernel
theorem dX11_offOf_42 : decode cX11_offOf 42 = .ok (.iload 4, 2) := by decide +kernel
theorem dX11_offOf_44 : decode cX11_offOf 44 = .ok (.goto 20, 3) := by decide +kernel
theorem dX11_offOf_47 : decode cX11_offOf 47 = .ok (.aload_n 0, 1) := by decide +kernel
theorem dX11_offOf_48 : decode cX11_offOf 48 = .ok (.getfield 19, 3) := by decide +kernel
theorem dX11_offOf_51 : decode cX11_offOf 51 = .ok (.iload_n 3, 1) := by decide +kernel
theorem dX11_offOf_52 : decode cX11_offOf 52 = .ok (.iaload, 1) := by decide +kernel
theorem dX11_offOf_53 : decode cX11_offOf 53 = .ok (.iload_n 1, 1) := by decide +kernel
theorem dX11_offOf_54 : decode cX11_offOf 54 = .ok (.if_icmp .ne 9, 3) := by decide +kernel
theorem dX11_offOf_57 : decode cX11_offOf 57 = .ok (.iload 4, 2) := by decide +kernel
theorem dX11_offOf_59 : decode cX11_offOf 59 = .ok (.ineg, 1) := by decide +kernel
theorem dX11_offOf_60 : decode cX11_offOf 60 = .ok (.goto 4, 3) := by decide +kernel
theorem dX11_offOf_63 : decode cX11_offOf 63 = .ok (.iconst 0, 1) := by decide +kernel
theorem dX11_offOf_64 : decode cX11_offOf 64 = .ok (.iadd, 1) := by decide +kernel
theorem dX11_offOf_65 : decode cX11_offOf 65 = .ok (.istore_n 2, 1) := by decide +kernel
theorem dX11_offOf_66 : decode cX11_offOf 66 = .ok (.iinc 3 1, 3) := by decide +kernel
theorem dX11_offOf_69 : decode cX11_offOf 69 = .ok (.goto (-65), 3) := by decide +kernel
theorem dX11_offOf_72 : decode cX11_offOf 72 = .ok (.iload_n 2, 1) := by decide +kernel
theorem dX11_offOf_73 : decode cX11_offOf 73 = .ok (.ireturn, 1) := by decide +kernel
set_option maxRecDepth 20000 in
theorem ggX11_layTable_X11_plays : GoodIn wsX11_layTable wsX11_plays := goodIn_r _ [7, 8, 9, 10, 29, 30, 31, 32, 33, 34, 35, 36, 37, 38, 39, 40, 41, 42, 43, 44, 45, 46, 47, 48, 49, 50, 51, 52, 53, 54, 55, 56, 57, 58, 59, 60, 61, 62, 63, 64, 65, 66, 67, 68, 69, 70, 71, 72, 73, 74, 75, 76, 77, 78, 79, 80, 81, 82] (by decide +kernel) (by decide +kernel)
set_option maxRecDepth 20000 in
theorem gX11_layTable_X11_plays : GoodIn wsX11_layTable (wsV RX11 280 RX11 yX11_plays wsX11_plays) := goodIn_app (goodIn_of _ (by decide +kernel)) ggX11_layTable_X11_plays
set_option maxRecDepth 20000 in
theorem ggX11_layTable_X11_pointsOf : GoodIn wsX11_layTable wsX11_pointsOf := goodIn_r _ [14, 15, 8, 9, 10, 16, 17, 18, 6, 19, 20, 21, 22, 23, 24, 29, 30, 31, 32, 33, 34, 35, 36, 37, 38, 39, 40, 41, 42, 43, 44, 45, 46, 47, 48, 49, 50, 51, 52, 53, 54, 55, 56, 57, 58, 59, 60, 61, 62, 63, 64, 65, 66, 67, 68, 69, 70, 71, 72, 73, 74, 75, 76, 77, 78, 79, 80, 81, 82] (by decide +kernel) (by decide +kernel)
set_option maxRecDepth 20000 in
theorem gX11_layTable_X11_pointsOf : GoodIn wsX11_layTable (wsV RX11 283 RX11 yX11_pointsOf wsX11_pointsOf) := goodIn_app (goodIn_of _ (by decide +kernel)) ggX11_layTable_X11_pointsOf
set_option maxRecDepth 20000 in
theorem ggX11_layTable_X11_offOf : GoodIn wsX11_layTable wsX11_offOf := goodIn_r _ [28, 8, 9, 10, 20, 21, 22, 6, 23, 24, 29, 30, 31, 32, 33, 34, 35, 36, 37, 38, 39, 40, 41, 42, 43, 44, 45, 46, 47, 48, 49, 50, 51, 52, 53, 54, 55, 56, 57, 58, 59, 60, 61, 62, 63, 64, 65, 66, 67, 68, 69, 70, 71, 72, 73, 74, 75, 76, 77, 78, 79, 80, 81, 82] (by decide +kernel) (by decide +kernel)
set_option maxRecDepth 20000 in
theorem gX11_layTable_X11_offOf : GoodIn wsX11_layTable (wsV RX11 286 RX11 yX11_offOf wsX11_offOf) := goodIn_app (goodIn_of _ (by decide +kernel)) ggX11_layTable_X11_offOf
theorem dX11_layTable_0 : decode cX11_layTable 0 = .ok (.aload_n 0, 1) := by decide +kernel
theorem dX11_layTable_1 : decode cX11_layTable 1 = .ok (.iconst 0, 1) := by decide +kernel
theorem dX11_layTable_2 : decode cX11_layTable 2 = .ok (.putfield 277, 3) := by decide +kernel
theorem dX11_layTable_5 : decode cX11_layTable 5 = .ok (.iconst 0, 1) := by decide +kernel
theorem dX11_layTable_6 : decode cX11_layTable 6 = .ok (.istore_n 3, 1) := by decide +kernel
theorem dX11_layTable_7 : decode cX11_layTable 7 = .ok (.iload_n 3, 1) := by decide +kernel
theorem dX11_layTable_8 : decode cX11_layTable 8 = .ok (.bipush 8, 2) := by decide +kernel
theorem dX11_layTable_10 : decode cX11_layTable 10 = .ok (.if_icmp .ge 158, 3) := by decide +kernel
theorem dX11_layTable_13 : decode cX11_layTable 13 = .ok (.aload_n 0, 1) := by decide +kernel
theorem dX11_layTable_14 : decode cX11_layTable 14 = .ok (.iload_n 3, 1) := by decide +kernel
theorem dX11_layTable_15 : decode cX11_layTable 15 = .ok (.invokevirtual 280, 3) := by decide +kernel
theorem dX11_layTable_18 : decode cX11_layTable 18 = .ok (.ifCond .eq 144, 3) := by decide +kernel
theorem dX11_layTable_21 : decode cX11_layTable 21 = .ok (.aload_n 0, 1) := by decide +kernel
theorem dX11_layTable_22 : decode cX11_layTable 22 = .ok (.getfield 277, 3) := by decide +kernel
theorem dX11_layTable_25 : decode cX11_layTable 25 = .ok (.istore 4, 2) := by decide +kernel
theorem dX11_layTable_27 : decode cX11_layTable 27 = .ok (.iconst 1, 1) := by decide +kernel
theorem dX11_layTable_28 : decode cX11_layTable 28 = .ok (.istore 5, 2) := by decide +kernel
theorem dX11_layTable_30 : decode cX11_layTable 30 = .ok (.iload 4, 2) := by decide +kernel
theorem dX11_layTable_32 : decode cX11_layTable 32 = .ok (.ifCond .le 112, 3) := by decide +kernel
theorem dX11_layTable_35 : decode cX11_layTable 35 = .ok (.iload 5, 2) := by decide +kernel
theorem dX11_layTable_37 : decode cX11_layTable 37 = .ok (.ifCond .eq 107, 3) := by decide +kernel
theorem dX11_layTable_40 : decode cX11_layTable 40 = .ok (.aload_n 0, 1) := by decide +kernel
theorem dX11_layTable_41 : decode cX11_layTable 41 = .ok (.getfield 132, 3) := by decide +kernel
theorem dX11_layTable_44 : decode cX11_layTable 44 = .ok (.iload 4, 2) := by decide +kernel
theorem dX11_layTable_46 : decode cX11_layTable 46 = .ok (.iconst 1, 1) := by decide +kernel
theorem dX11_layTable_47 : decode cX11_layTable 47 = .ok (.isub, 1) := by decide +kernel
theorem dX11_layTable_48 : decode cX11_layTable 48 = .ok (.iaload, 1) := by decide +kernel
theorem dX11_layTable_49 : decode cX11_layTable 49 = .ok (.istore 6, 2) := by decide +kernel
theorem dX11_layTable_51 : decode cX11_layTable 51 = .ok (.aload_n 0, 1) := by decide +kernel
theorem dX11_layTable_52 : decode cX11_layTable 52 = .ok (.iload_n 3, 1) := by decide +kernel
theorem dX11_layTable_53 : decode cX11_layTable 53 = .ok (.invokevirtual 283, 3) := by decide +kernel
theorem dX11_layTable_56 : decode cX11_layTable 56 = .ok (.iload_n 3, 1) := by decide +kernel
theorem dX11_layTable_57 : decode cX11_layTable 57 = .ok (.iload_n 1, 1) := by decide +kernel
theorem dX11_layTable_58 : decode cX11_layTable 58 = .ok (.if_icmp .ne 7, 3) := by decide +kernel
theorem dX11_layTable_61 : decode cX11_layTable 61 = .ok (.iload_n 2, 1) := by decide +kernel
theorem dX11_layTable_62 : decode cX11_layTable 62 = .ok (.goto 4, 3) := by decide +kernel
theorem dX11_layTable_65 : decode cX11_layTable 65 = .ok (.iconst 0, 1) := by decide +kernel
theorem dX11_layTable_66 : decode cX11_layTable 66 = .ok (.isub, 1) := by decide +kernel
theorem dX11_layTable_67 : decode cX11_layTable 67 = .ok (.istore 7, 2) := by decide +kernel
theorem dX11_layTable_69 : decode cX11_layTable 69 = .ok (.aload_n 0, 1) := by decide +kernel
theorem dX11_layTable_70 : decode cX11_layTable 70 = .ok (.iload 6, 2) := by decide +kernel
theorem dX11_layTable_72 : decode cX11_layTable 72 = .ok (.invokevirtual 283, 3) := by decide +kernel
theorem dX11_layTable_75 : decode cX11_layTable 75 = .ok (.iload 6, 2) := by decide +kernel
theorem dX11_layTable_77 : decode cX11_layTable 77 = .ok (.iload_n 1, 1) := by decide +kernel
theorem dX11_layTable_78 : decode cX11_layTable 78 = .ok (.if_icmp .ne 7, 3) := by decide +kernel
theorem dX11_layTable_81 : decode cX11_layTable 81 = .ok (.iload_n 2, 1) := by decide +kernel
theorem dX11_layTable_82 : decode cX11_layTable 82 = .ok (.goto 4, 3) := by decide +kernel
theorem dX11_layTable_85 : decode cX11_layTable 85 = .ok (.iconst 0, 1) := by decide +kernel
theorem dX11_layTable_86 : decode cX11_layTable 86 = .ok (.isub, 1) := by decide +kernel
theorem dX11_layTable_87 : decode cX11_layTable 87 = .ok (.istore 8, 2) := by decide +kernel
theorem dX11_layTable_89 : decode cX11_layTable 89 = .ok (.iload 7, 2) := by decide +kernel
theorem dX11_layTable_91 : decode cX11_layTable 91 = .ok (.iload 8, 2) := by decide +kernel
theorem dX11_layTable_93 : decode cX11_layTable 93 = .ok (.if_icmp .gt 24, 3) := by decide +kernel
theorem dX11_layTable_96 : decode cX11_layTable 96 = .ok (.iload 7, 2) := by decide +kernel
theorem dX11_layTable_98 : decode cX11_layTable 98 = .ok (.iload 8, 2) := by decide +kernel
theorem dX11_layTable_100 : decode cX11_layTable 100 = .ok (.if_icmp .ne 21, 3) := by decide +kernel
theorem dX11_layTable_103 : decode cX11_layTable 103 = .ok (.aload_n 0, 1) := by decide +kernel
theorem dX11_layTable_104 : decode cX11_layTable 104 = .ok (.iload_n 3, 1) := by decide +kernel
theorem dX11_layTable_105 : decode cX11_layTable 105 = .ok (.invokevirtual 286, 3) := by decide +kernel
theorem dX11_layTable_108 : decode cX11_layTable 108 = .ok (.aload_n 0, 1) := by decide +kernel
theorem dX11_layTable_109 : decode cX11_layTable 109 = .ok (.iload 6, 2) := by decide +kernel
theorem dX11_layTable_111 : decode cX11_layTable 111 = .ok (.invokevirtual 286, 3) := by decide +kernel
theorem dX11_layTable_114 : decode cX11_layTable 114 = .ok (.if_icmp .le 7, 3) := by decide +kernel
theorem dX11_layTable_117 : decode cX11_layTable 117 = .ok (.iconst 1, 1) := by decide +kernel
theorem dX11_layTable_118 : decode cX11_layTable 118 = .ok (.goto 4, 3) := by decide +kernel
theorem dX11_layTable_121 : decode cX11_layTable 121 = .ok (.iconst 0, 1) := by decide +kernel
theorem dX11_layTable_122 : decode cX11_layTable 122 = .ok (.istore 5, 2) := by decide +kernel
theorem dX11_layTable_124 : decode cX11_layTable 124 = .ok (.iload 5, 2) := by decide +kernel
theorem dX11_layTable_126 : decode cX11_layTable 126 = .ok (.ifCond .eq 15, 3) := by decide +kernel
theorem dX11_layTable_129 : decode cX11_layTable 129 = .ok (.aload_n 0, 1) := by decide +kernel
theorem dX11_layTable_130 : decode cX11_layTable 130 = .ok (.getfield 132, 3) := by decide +kernel
theorem dX11_layTable_133 : decode cX11_layTable 133 = .ok (.iload 4, 2) := by decide +kernel
theorem dX11_layTable_135 : decode cX11_layTable 135 = .ok (.iload 6, 2) := by decide +kernel
theorem dX11_layTable_137 : decode cX11_layTable 137 = .ok (.iastore, 1) := by decide +kernel
theorem dX11_layTable_138 : decode cX11_layTable 138 = .ok (.iinc 4 (-1), 3) := by decide +kernel
theorem dX11_layTable_141 : decode cX11_layTable 141 = .ok (.goto (-111), 3) := by decide +kernel
theorem dX11_layTable_144 : decode cX11_layTable 144 = .ok (.aload_n 0, 1) := by decide +kernel
theorem dX11_layTable_145 : decode cX11_layTable 145 = .ok (.getfield 132, 3) := by decide +kernel
theorem dX11_layTable_148 : decode cX11_layTable 148 = .ok (.iload 4, 2) := by decide +kernel
theorem dX11_layTable_150 : decode cX11_layTable 150 = .ok (.iload_n 3, 1) := by decide +kernel
theorem dX11_layTable_151 : decode cX11_layTable 151 = .ok (.iastore, 1) := by decide +kernel
theorem dX11_layTable_152 : decode cX11_layTable 152 = .ok (.aload_n 0, 1) := by decide +kernel
theorem dX11_layTable_153 : decode cX11_layTable 153 = .ok (.dup, 1) := by decide +kernel
theorem dX11_layTable_154 : decode cX11_layTable 154 = .ok (.getfield 277, 3) := by decide +kernel
theorem dX11_layTable_157 : decode cX11_layTable 157 = .ok (.iconst 1, 1) := by decide +kernel
theorem dX11_layTable_158 : decode cX11_layTable 158 = .ok (.iadd, 1) := by decide +kernel
theorem dX11_layTable_159 : decode cX11_layTable 159 = .ok (.putfield 277, 3) := by decide +kernel
theorem dX11_layTable_162 : decode cX11_layTable 162 = .ok (.iinc 3 1, 3) := by decide +kernel
theorem dX11_layTable_165 : decode cX11_layTable 165 = .ok (.goto (-158), 3) := by decide +kernel
theorem dX11_layTable_168 : decode cX11_layTable 168 = .ok (.return_, 1) := by decide +kernel
set_option maxRecDepth 20000 in
theorem ggX11_isDown_X11_layTable : GoodIn wsX11_isDown wsX11_layTable := goodIn_r _ [8, 1, 2, 9, 10, 11, 7, 12, 13, 14, 15, 16, 17, 18, 19, 20, 21, 22, 23, 24, 25, 26, 27, 28, 29, 30, 31, 32, 33, 34, 35, 36, 37, 38, 39, 40, 41, 42, 43, 44, 45, 46, 47, 48, 49, 50, 51, 52, 53, 54, 55, 56, 57, 58, 59, 60, 61, 62, 63, 64, 65, 66, 67, 68, 69, 70, 71, 72, 73, 74, 75, 76, 77, 78, 79, 80, 81, 82, 83, 84, 85, 86, 87] (by decide +kernel) (by decide +kernel)
set_option maxRecDepth 20000 in
theorem gX11_isDown_X11_layTable : GoodIn wsX11_isDown (wsV RX11 289 RX11 yX11_layTable wsX11_layTable) := goodIn_app (goodIn_of _ (by decide +kernel)) ggX11_isDown_X11_layTable
theorem dX11_isDown_0 : decode cX11_isDown 0 = .ok (.aload_n 0, 1) := by decide +kernel
theorem dX11_isDown_1 : decode cX11_isDown 1 = .ok (.iload_n 1, 1) := by decide +kernel
theorem dX11_isDown_2 : decode cX11_isDown 2 = .ok (.iload_n 2, 1) := by decide +kernel
theorem dX11_isDown_3 : decode cX11_isDown 3 = .ok (.invokevirtual 289, 3) := by decide +kernel
theorem dX11_isDown_6 : decode cX11_isDown 6 = .ok (.iconst 0, 1) := by decide +kernel
theorem dX11_isDown_7 : decode cX11_isDown 7 = .ok (.istore_n 3, 1) := by decide +kernel
theorem dX11_isDown_8 : decode cX11_isDown 8 = .ok (.iconst 0, 1) := by decide +kernel
theorem dX11_isDown_9 : decode cX11_isDown 9 = .ok (.istore 4, 2) := by decide +kernel
theorem dX11_isDown_11 : decode cX11_isDown 11 = .ok (.iload 4, 2) := by decide +kernel
theorem dX11_isDown_13 : decode cX11_isDown 13 = .ok (.aload_n 0, 1) := by decide +kernel
theorem dX11_isDown_14 : decode cX11_isDown 14 = .ok (.getfield 277, 3) := by decide +kernel
theorem dX11_isDown_17 : decode cX11_isDown 17 = .ok (.if_icmp .ge 46, 3) := by decide +kernel
theorem dX11_isDown_20 : decode cX11_isDown 20 = .ok (.iload_n 3, 1) := by decide +kernel
theorem dX11_isDown_21 : decode cX11_isDown 21 = .ok (.ifCond .ne 30, 3) := by decide +kernel
theorem dX11_isDown_24 : decode cX11_isDown 24 = .ok (.aload_n 0, 1) := by decide +kernel
theorem dX11_isDown_25 : decode cX11_isDown 25 = .ok (.getfield 132, 3) := by decide +kernel
theorem dX11_isDown_28 : decode cX11_isDown 28 = .ok (.iload 4, 2) := by decide +kernel
theorem dX11_isDown_30 : decode cX11_isDown 30 = .ok (.iaload, 1) := by decide +kernel
theorem dX11_isDown_31 : decode cX11_isDown 31 = .ok (.iload_n 1, 1) := by decide +kernel
theorem dX11_isDown_32 : decode cX11_isDown 32 = .ok (.if_icmp .ne 23, 3) := by decide +kernel
theorem dX11_isDown_35 : decode cX11_isDown 35 = .ok (.iload 4, 2) := by decide +kernel
theorem dX11_isDown_37 : decode cX11_isDown 37 = .ok (.aload_n 0, 1) := by decide +kernel
theorem dX11_isDown_38 : decode cX11_isDown 38 = .ok (.getfield 277, 3) := by decide +kernel
theorem dX11_isDown_41 : decode cX11_isDown 41 = .ok (.aload_n 0, 1) := by decide +kernel
theorem dX11_isDown_42 : decode cX11_isDown 42 = .ok (.getfield 37, 3) := by decide +kernel
theorem dX11_isDown_45 : decode cX11_isDown 45 = .ok (.iconst 4, 1) := by decide +kernel
theorem dX11_isDown_46 : decode cX11_isDown 46 = .ok (.iaload, 1) := by decide +kernel
theorem dX11_isDown_47 : decode cX11_isDown 47 = .ok (.isub, 1) := by decide +kernel
theorem dX11_isDown_48 : decode cX11_isDown 48 = .ok (.if_icmp .lt 7, 3) := by decide +kernel
theorem dX11_isDown_51 : decode cX11_isDown 51 = .ok (.iconst 1, 1) := by decide +kernel
theorem dX11_isDown_52 : decode cX11_isDown 52 = .ok (.goto 4, 3) := by decide +kernel
theorem dX11_isDown_55 : decode cX11_isDown 55 = .ok (.iconst 0, 1) := by decide +kernel
theorem dX11_isDown_56 : decode cX11_isDown 56 = .ok (.istore_n 3, 1) := by decide +kernel
theorem dX11_isDown_57 : decode cX11_isDown 57 = .ok (.iinc 4 1, 3) := by decide +kernel
theorem dX11_isDown_60 : decode cX11_isDown 60 = .ok (.goto (-49), 3) := by decide +kernel
theorem dX11_isDown_63 : decode cX11_isDown 63 = .ok (.iload_n 3, 1) := by decide +kernel
theorem dX11_isDown_64 : decode cX11_isDown 64 = .ok (.ireturn, 1) := by decide +kernel
set_option maxRecDepth 20000 in
theorem ggX11_table_X11_layTable : GoodIn wsX11_table wsX11_layTable := goodIn_r _ [7, 1, 2, 8, 9, 10, 6, 11, 12, 13, 14, 15, 16, 17, 18, 19, 20, 21, 22, 23, 24, 25, 26, 27, 28, 29, 30, 31, 32, 36, 37, 38, 39, 40, 41, 42, 43, 44, 45, 46, 47, 48, 49, 50, 51, 52, 53, 54, 55, 56, 57, 58, 59, 60, 61, 62, 63, 64, 65, 66, 67, 68, 69, 70, 71, 72, 73, 74, 75, 76, 77, 78, 79, 80, 81, 82, 83, 84, 85, 86, 87, 88, 89] (by decide +kernel) (by decide +kernel)
set_option maxRecDepth 20000 in
theorem gX11_table_X11_layTable : GoodIn wsX11_table (wsV RX11 289 RX11 yX11_layTable wsX11_layTable) := goodIn_app (goodIn_of _ (by decide +kernel)) ggX11_table_X11_layTable
set_option maxRecDepth 20000 in
theorem ggX11_table_X11_in : GoodIn wsX11_table wsX11_in := goodIn_r _ [35] (by decide +kernel) (by decide +kernel)
set_option maxRecDepth 20000 in
theorem gX11_table_X11_in : GoodIn wsX11_table (va_wsS RX11 138 yX11_in wsX11_in) := goodIn_app (goodIn_of _ (by decide +kernel)) ggX11_table_X11_in
theorem dX11_table_0 : decode cX11_table 0 = .ok (.aload_n 0, 1) := by decide +kernel
theorem dX11_table_1 : decode cX11_table 1 = .ok (.bipush (-6), 2) := by decide +kernel
theorem dX11_table_3 : decode cX11_table 3 = .ok (.iconst 0, 1) := by decide +kernel
theorem dX11_table_4 : decode cX11_table 4 = .ok (.invokevirtual 289, 3) := by decide +kernel
theorem dX11_table_7 : decode cX11_table 7 = .ok (.iload_n 1, 1) := by decide +kernel
theorem dX11_table_8 : decode cX11_table 8 = .ok (.iconst (-1), 1) := by decide +kernel
theorem dX11_table_9 : decode cX11_table 9 = .ok (.if_icmp .ne 10, 3) := by decide +kernel
theorem dX11_table_12 : decode cX11_table 12 = .ok (.aload_n 0, 1) := by decide +kernel
theorem dX11_table_13 : decode cX11_table 13 = .ok (.getfield 277, 3) := by decide +kernel
theorem dX11_table_16 : decode cX11_table 16 = .ok (.goto 28, 3) := by decide +kernel
theorem dX11_table_19 : decode cX11_table 19 = .ok (.iload_n 1, 1) := by decide +kernel
theorem dX11_table_20 : decode cX11_table 20 = .ok (.iconst 0, 1) := by decide +kernel
theorem dX11_table_21 : decode cX11_table 21 = .ok (.aload_n 0, 1) := by decide +kernel
theorem dX11_table_22 : decode cX11_table 22 = .ok (.getfield 277, 3) := by decide +kernel
theorem dX11_table_25 : decode cX11_table 25 = .ok (.iconst 1, 1) := by decide +kernel
theorem dX11_table_26 : decode cX11_table 26 = .ok (.isub, 1) := by decide +kernel
theorem dX11_table_27 : decode cX11_table 27 = .ok (.invokestatic 138, 3) := by decide +kernel
theorem dX11_table_30 : decode cX11_table 30 = .ok (.ifCond .eq 12, 3) := by decide +kernel
theorem dX11_table_33 : decode cX11_table 33 = .ok (.aload_n 0, 1) := by decide +kernel
theorem dX11_table_34 : decode cX11_table 34 = .ok (.getfield 132, 3) := by decide +kernel
theorem dX11_table_37 : decode cX11_table 37 = .ok (.iload_n 1, 1) := by decide +kernel
theorem dX11_table_38 : decode cX11_table 38 = .ok (.iaload, 1) := by decide +kernel
theorem dX11_table_39 : decode cX11_table 39 = .ok (.goto 5, 3) := by decide +kernel
theorem dX11_table_42 : decode cX11_table 42 = .ok (.bipush (-6), 2) := by decide +kernel
theorem dX11_table_44 : decode cX11_table 44 = .ok (.ireturn, 1) := by decide +kernel
set_option maxRecDepth 20000 in
theorem ggX11_byTaking_X11_isDown : GoodIn wsX11_byTaking wsX11_isDown := goodIn_r _ [5, 6, 7, 8, 9, 10, 11, 4, 12, 13, 14, 15, 16, 17, 18, 19, 20, 21, 22, 23, 24, 25, 26, 27, 28, 29, 30, 31, 32, 33, 34, 35, 36, 37, 38, 39, 40, 41, 42, 43, 44, 45, 46, 47, 48, 49, 50, 51, 52, 53, 54, 55, 56, 57, 58, 59, 60, 61, 62, 63, 64, 65, 66, 67, 68, 69, 70, 71, 72, 73, 74, 75, 76, 77, 78, 79, 80, 81, 82, 83, 84, 85, 86, 87, 88, 89, 90, 91] (by decide +kernel) (by decide +kernel)
set_option maxRecDepth 20000 in
theorem gX11_byTaking_X11_isDown : GoodIn wsX11_byTaking (wsV RX11 292 RX11 yX11_isDown wsX11_isDown) := goodIn_app (goodIn_of _ (by decide +kernel)) ggX11_byTaking_X11_isDown
theorem dX11_byTaking_0 : decode cX11_byTaking 0 = .ok (.iconst 0, 1) := by decide +kernel
theorem dX11_byTaking_1 : decode cX11_byTaking 1 = .ok (.istore_n 2, 1) := by decide +kernel
theorem dX11_byTaking_2 : decode cX11_byTaking 2 = .ok (.iload_n 2, 1) := by decide +kernel
theorem dX11_byTaking_3 : decode cX11_byTaking 3 = .ok (.sipush 200, 3) := by decide +kernel
theorem dX11_byTaking_6 : decode cX11_byTaking 6 = .ok (.if_icmp .gt 20, 3) := by decide +kernel
theorem dX11_byTaking_9 : decode cX11_byTaking 9 = .ok (.aload_n 0, 1) := by decide +kernel
theorem dX11_byTaking_10 : decode cX11_byTaking 10 = .ok (.iload_n 1, 1) := by decide +kernel
theorem dX11_byTaking_11 : decode cX11_byTaking 11 = .ok (.iload_n 2, 1) := by decide +kernel
theorem dX11_byTaking_12 : decode cX11_byTaking 12 = .ok (.invokevirtual 292, 3) := by decide +kernel
theorem dX11_byTaking_15 : decode cX11_byTaking 15 = .ok (.ifCond .eq 5, 3) := by decide +kernel
theorem dX11_byTaking_18 : decode cX11_byTaking 18 = .ok (.iload_n 2, 1) := by decide +kernel
theorem dX11_byTaking_19 : decode cX11_byTaking 19 = .ok (.ireturn, 1) := by decide +kernel
theorem dX11_byTaking_20 : decode cX11_byTaking 20 = .ok (.iinc 2 1, 3) := by decide +kernel
theorem dX11_byTaking_23 : decode cX11_byTaking 23 = .ok (.goto (-21), 3) := by decide +kernel
theorem dX11_byTaking_26 : decode cX11_byTaking 26 = .ok (.bipush (-6), 2) := by decide +kernel
theorem dX11_byTaking_28 : decode cX11_byTaking 28 = .ok (.ireturn, 1) := by decide +kernel
set_option maxRecDepth 20000 in
theorem ggX11_ofSide_X11_isSide : GoodIn wsX11_ofSide wsX11_isSide := goodIn_r _ [5, 6, 7, 4, 8] (by decide +kernel) (by decide +kernel)
set_option maxRecDepth 20000 in
theorem gX11_ofSide_X11_isSide : GoodIn wsX11_ofSide (va_wsS RX11 149 yX11_isSide wsX11_isSide) := goodIn_app (goodIn_of _ (by decide +kernel)) ggX11_ofSide_X11_isSide
set_option maxRecDepth 20000 in
theorem ggX11_ofSide_X11_plays : GoodIn wsX11_ofSide wsX11_plays := goodIn_r _ [12, 13, 14, 15, 49, 50, 51, 52, 53, 54, 55, 56, 57, 58, 59, 60, 61, 62, 63, 64, 65, 66, 67, 68, 69, 70, 71, 72, 73, 74, 75, 76, 77, 78, 79, 80, 81, 82, 83, 84, 85, 86, 87, 88, 89, 90, 91, 92, 93, 94, 95, 96, 97, 98, 99, 100, 101, 102] (by decide +kernel) (by decide +kernel)
set_option maxRecDepth 20000 in
theorem gX11_ofSide_X11_plays : GoodIn wsX11_ofSide (wsV RX11 280 RX11 yX11_plays wsX11_plays) := goodIn_app (goodIn_of _ (by decide +kernel)) ggX11_ofSide_X11_plays
set_option maxRecDepth 20000 in
theorem ggX11_ofSide_X11_in : GoodIn wsX11_ofSide wsX11_in := goodIn_r _ [8] (by decide +kernel) (by decide +kernel)
set_option maxRecDepth 20000 in
theorem gX11_ofSide_X11_in : GoodIn wsX11_ofSide (va_wsS RX11 138 yX11_in wsX11_in) := goodIn_app (goodIn_of _ (by decide +kernel)) ggX11_ofSide_X11_in
set_option maxRecDepth 20000 in
theorem ggX11_ofSide_X11_pointsOf : GoodIn wsX11_ofSide wsX11_pointsOf := goodIn_r _ [19, 20, 13, 14, 15, 21, 22, 23, 4, 24, 25, 26, 27, 28, 29, 49, 50, 51, 52, 53, 54, 55, 56, 57, 58, 59, 60, 61, 62, 63, 64, 65, 66, 67, 68, 69, 70, 71, 72, 73, 74, 75, 76, 77, 78, 79, 80, 81, 82, 83, 84, 85, 86, 87, 88, 89, 90, 91, 92, 93, 94, 95, 96, 97, 98, 99, 100, 101, 102] (by decide +kernel) (by decide +kernel)
set_option maxRecDepth 20000 in
theorem gX11_ofSide_X11_pointsOf : GoodIn wsX11_ofSide (wsV RX11 283 RX11 yX11_pointsOf wsX11_pointsOf) := goodIn_app (goodIn_of _ (by decide +kernel)) ggX11_ofSide_X11_pointsOf
set_option maxRecDepth 20000 in
theorem ggX11_ofSide_X11_offOf : GoodIn wsX11_ofSide wsX11_offOf := goodIn_r _ [33, 13, 14, 15, 25, 26, 27, 4, 28, 29, 49, 50, 51, 52, 53, 54, 55, 56, 57, 58, 59, 60, 61, 62, 63, 64, 65, 66, 67, 68, 69, 70, 71, 72, 73, 74, 75, 76, 77, 78, 79, 80, 81, 82, 83, 84, 85, 86, 87, 88, 89, 90, 91, 92, 93, 94, 95, 96, 97, 98, 99, 100, 101, 102] (by decide +kernel) (by decide +kernel)
set_option maxRecDepth 20000 in
theorem gX11_ofSide_X11_offOf : GoodIn wsX11_ofSide (wsV RX11 286 RX11 yX11_offOf wsX11_offOf) := goodIn_app (goodIn_of _ (by decide +kernel)) ggX11_ofSide_X11_offOf
set_option maxRecDepth 20000 in
theorem ggX11_ofSide_X11_isDown : GoodIn wsX11_ofSide wsX11_isDown := goodIn_r _ [37, 38, 39, 40, 41, 42, 43, 4, 44, 9, 10, 11, 12, 13, 14, 15, 16, 17, 18, 19, 20, 21, 22, 23, 24, 25, 26, 27, 28, 29, 30, 31, 32, 33, 49, 50, 51, 52, 53, 54, 55, 56, 57, 58, 59, 60, 61, 62, 63, 64, 65, 66, 67, 68, 69, 70, 71, 72, 73, 74, 75, 76, 77, 78, 79, 80, 81, 82, 83, 84, 85, 86, 87, 88, 89, 90, 91, 92, 93, 94, 95, 96, 97, 98, 99, 100, 101, 102] (by decide +kernel) (by decide +kernel)
set_option maxRecDepth 20000 in
theorem gX11_ofSide_X11_isDown : GoodIn wsX11_ofSide (wsV RX11 292 RX11 yX11_isDown wsX11_isDown) := goodIn_app (goodIn_of _ (by decide +kernel)) ggX11_ofSide_X11_isDown
set_option maxRecDepth 20000 in
theorem ggX11_ofSide_X11_byTaking : GoodIn wsX11_ofSide wsX11_byTaking := goodIn_r _ [48, 34, 35, 36, 4, 37, 38, 39, 40, 41, 42, 43, 44, 9, 10, 11, 12, 13, 14, 15, 16, 17, 18, 19, 20, 21, 22, 23, 24, 25, 26, 27, 28, 29, 30, 31, 32, 33, 49, 50, 51, 52, 53, 54, 55, 56, 57, 58, 59, 60, 61, 62, 63, 64, 65, 66, 67, 68, 69, 70, 71, 72, 73, 74, 75, 76, 77, 78, 79, 80, 81, 82, 83, 84, 85, 86, 87, 88, 89, 90, 91, 92, 93, 94, 95, 96, 97, 98, 99, 100, 101, 102] (by decide +kernel) (by decide +kernel)
set_option maxRecDepth 20000 in
theorem gX11_ofSide_X11_byTaking : GoodIn wsX11_ofSide (wsV RX11 295 RX11 yX11_byTaking wsX11_byTaking) := goodIn_app (goodIn_of _ (by decide +kernel)) ggX11_ofSide_X11_byTaking
theorem dX11_ofSide_0 : decode cX11_ofSide 0 = .ok (.iload_n 1, 1) := by decide +kernel
theorem dX11_ofSide_1 : decode cX11_ofSide 1 = .ok (.invokestatic 149, 3) := by decide +kernel
theorem dX11_ofSide_4 : decode cX11_ofSide 4 = .ok (.ifCond .eq 20, 3) := by decide +kernel
theorem dX11_ofSide_7 : decode cX11_ofSide 7 = .ok (.aload_n 0, 1) := by decide +kernel
theorem dX11_ofSide_8 : decode cX11_ofSide 8 = .ok (.iload_n 1, 1) := by decide +kernel
theorem dX11_ofSide_9 : decode cX11_ofSide 9 = .ok (.invokevirtual 280, 3) := by decide +kernel
theorem dX11_ofSide_12 : decode cX11_ofSide 12 = .ok (.ifCond .eq 12, 3) := by decide +kernel
theorem dX11_ofSide_15 : decode cX11_ofSide 15 = .ok (.iload_n 2, 1) := by decide +kernel
theorem dX11_ofSide_16 : decode cX11_ofSide 16 = .ok (.iconst 0, 1) := by decide +kernel
theorem dX11_ofSide_17 : decode cX11_ofSide 17 = .ok (.iconst 3, 1) := by decide +kernel
theorem dX11_ofSide_18 : decode cX11_ofSide 18 = .ok (.invokestatic 138, 3) := by decide +kernel
theorem dX11_ofSide_21 : decode cX11_ofSide 21 = .ok (.ifCond .ne 6, 3) := by decide +kernel
theorem dX11_ofSide_24 : decode cX11_ofSide 24 = .ok (.ldc 192, 2) := by decide +kernel
theorem dX11_ofSide_26 : decode cX11_ofSide 26 = .ok (.ireturn, 1) := by decide +kernel
theorem dX11_ofSide_27 : decode cX11_ofSide 27 = .ok (.iload_n 2, 1) := by decide +kernel
theorem dX11_ofSide_28 : decode cX11_ofSide 28 = .ok (.ifCond .ne 11, 3) := by decide +kernel
theorem dX11_ofSide_31 : decode cX11_ofSide 31 = .ok (.aload_n 0, 1) := by decide +kernel
theorem dX11_ofSide_32 : decode cX11_ofSide 32 = .ok (.iload_n 1, 1) := by decide +kernel
theorem dX11_ofSide_33 : decode cX11_ofSide 33 = .ok (.invokevirtual 283, 3) := by decide +kernel
theorem dX11_ofSide_36 : decode cX11_ofSide 36 = .ok (.goto 43, 3) := by decide +kernel
theorem dX11_ofSide_39 : decode cX11_ofSide 39 = .ok (.iload_n 2, 1) := by decide +kernel
theorem dX11_ofSide_40 : decode cX11_ofSide 40 = .ok (.iconst 1, 1) := by decide +kernel
theorem dX11_ofSide_41 : decode cX11_ofSide 41 = .ok (.if_icmp .ne 11, 3) := by decide +kernel
theorem dX11_ofSide_44 : decode cX11_ofSide 44 = .ok (.aload_n 0, 1) := by decide +kernel
theorem dX11_ofSide_45 : decode cX11_ofSide 45 = .ok (.iload_n 1, 1) := by decide +kernel
theorem dX11_ofSide_46 : decode cX11_ofSide 46 = .ok (.invokevirtual 286, 3) := by decide +kernel
theorem dX11_ofSide_49 : decode cX11_ofSide 49 = .ok (.goto 30, 3) := by decide +kernel
theorem dX11_ofSide_52 : decode cX11_ofSide 52 = .ok (.iload_n 2, 1) := by decide +kernel
theorem dX11_ofSide_53 : decode cX11_ofSide 53 = .ok (.iconst 2, 1) := by decide +kernel
theorem dX11_ofSide_54 : decode cX11_ofSide 54 = .ok (.if_icmp .ne 20, 3) := by decide +kernel
theorem dX11_ofSide_57 : decode cX11_ofSide 57 = .ok (.aload_n 0, 1) := by decide +kernel
theorem dX11_ofSide_58 : decode cX11_ofSide 58 = .ok (.iload_n 1, 1) := by decide +kernel
theorem dX11_ofSide_59 : decode cX11_ofSide 59 = .ok (.iconst 0, 1) := by decide +kernel
theorem dX11_ofSide_60 : decode cX11_ofSide 60 = .ok (.invokevirtual 292, 3) := by decide +kernel
theorem dX11_ofSide_63 : decode cX11_ofSide 63 = .ok (.ifCond .eq 7, 3) := by decide +kernel
theorem dX11_ofSide_66 : decode cX11_ofSide 66 = .ok (.iconst 1, 1) := by decide +kernel
theorem dX11_ofSide_67 : decode cX11_ofSide 67 = .ok (.goto 12, 3) := by decide +kernel
theorem dX11_ofSide_70 : decode cX11_ofSide 70 = .ok (.iconst 0, 1) := by decide +kernel
theorem dX11_ofSide_71 : decode cX11_ofSide 71 = .ok (.goto 8, 3) := by decide +kernel
theorem dX11_ofSide_74 : decode cX11_ofSide 74 = .ok (.aload_n 0, 1) := by decide +kernel
theorem dX11_ofSide_75 : decode cX11_ofSide 75 = .ok (.iload_n 1, 1) := by decide +kernel
theorem dX11_ofSide_76 : decode cX11_ofSide 76 = .ok (.invokevirtual 295, 3) := by decide +kernel
theorem dX11_ofSide_79 : decode cX11_ofSide 79 = .ok (.ireturn, 1) := by decide +kernel
set_option maxRecDepth 20000 in
theorem ggX11_say_X11_in : GoodIn wsX11_say wsX11_in := goodIn_r _ [6] (by decide +kernel) (by decide +kernel)
set_option maxRecDepth 20000 in
theorem gX11_say_X11_in : GoodIn wsX11_say (va_wsS RX11 138 yX11_in wsX11_in) := goodIn_app (goodIn_of _ (by decide +kernel)) ggX11_say_X11_in
theorem dX11_say_0 : decode cX11_say 0 = .ok (.iload_n 1, 1) := by decide +kernel
theorem dX11_say_1 : decode cX11_say 1 = .ok (.bipush 33, 2) := by decide +kernel
theorem dX11_say_3 : decode cX11_say 3 = .ok (.bipush 126, 2) := by decide +kernel
theorem dX11_say_5 : decode cX11_say 5 = .ok (.invokestatic 138, 3) := by decide +kernel
theorem dX11_say_8 : decode cX11_say 8 = .ok (.ifCond .ne 6, 3) := by decide +kernel
theorem dX11_say_11 : decode cX11_say 11 = .ok (.bipush (-2), 2) := by decide +kernel
theorem dX11_say_13 : decode cX11_say 13 = .ok (.ireturn, 1) := by decide +kernel
theorem dX11_say_14 : decode cX11_say 14 = .ok (.aload_n 0, 1) := by decide +kernel
theorem dX11_say_15 : decode cX11_say 15 = .ok (.getfield 298, 3) := by decide +kernel
theorem dX11_say_18 : decode cX11_say 18 = .ok (.bipush 40, 2) := by decide +kernel
theorem dX11_say_20 : decode cX11_say 20 = .ok (.if_icmp .ne 6, 3) := by decide +kernel
theorem dX11_say_23 : decode cX11_say 23 = .ok (.bipush (-4), 2) := by decide +kernel
theorem dX11_say_25 : decode cX11_say 25 = .ok (.ireturn, 1) := by decide +kernel
theorem dX11_say_26 : decode cX11_say 26 = .ok (.aload_n 0, 1) := by decide +kernel
theorem dX11_say_27 : decode cX11_say 27 = .ok (.getfield 98, 3) := by decide +kernel
theorem dX11_say_30 : decode cX11_say 30 = .ok (.aload_n 0, 1) := by decide +kernel
theorem dX11_say_31 : decode cX11_say 31 = .ok (.getfield 298, 3) := by decide +kernel
theorem dX11_say_34 : decode cX11_say 34 = .ok (.iload_n 1, 1) := by decide +kernel
theorem dX11_say_35 : decode cX11_say 35 = .ok (.iastore, 1) := by decide +kernel
theorem dX11_say_36 : decode cX11_say 36 = .ok (.aload_n 0, 1) := by decide +kernel
theorem dX11_say_37 : decode cX11_say 37 = .ok (.dup, 1) := by decide +kernel
theorem dX11_say_38 : decode cX11_say 38 = .ok (.getfield 298, 3) := by decide +kernel
theorem dX11_say_41 : decode cX11_say 41 = .ok (.iconst 1, 1) := by decide +kernel
theorem dX11_say_42 : decode cX11_say 42 = .ok (.iadd, 1) := by decide +kernel
theorem dX11_say_43 : decode cX11_say 43 = .ok (.putfield 298, 3) := by decide +kernel
theorem dX11_say_46 : decode cX11_say 46 = .ok (.aload_n 0, 1) := by decide +kernel
theorem dX11_say_47 : decode cX11_say 47 = .ok (.getfield 298, 3) := by decide +kernel
theorem dX11_say_50 : decode cX11_say 50 = .ok (.ireturn, 1) := by decide +kernel
theorem dX11_wipe_0 : decode cX11_wipe 0 = .ok (.aload_n 0, 1) := by decide +kernel
theorem dX11_wipe_1 : decode cX11_wipe 1 = .ok (.getfield 298, 3) := by decide +kernel
theorem dX11_wipe_4 : decode cX11_wipe 4 = .ok (.istore_n 1, 1) := by decide +kernel
theorem dX11_wipe_5 : decode cX11_wipe 5 = .ok (.aload_n 0, 1) := by decide +kernel
theorem dX11_wipe_6 : decode cX11_wipe 6 = .ok (.iconst 0, 1) := by decide +kernel
theorem dX11_wipe_7 : decode cX11_wipe 7 = .ok (.putfield 298, 3) := by decide +kernel
theorem dX11_wipe_10 : decode cX11_wipe 10 = .ok (.iload_n 1, 1) := by decide +kernel
theorem dX11_wipe_11 : decode cX11_wipe 11 = .ok (.ireturn, 1) := by decide +kernel
theorem dX11_factAt_0 : decode cX11_factAt 0 = .ok (.iload_n 0, 1) := by decide +kernel
theorem dX11_factAt_1 : decode cX11_factAt 1 = .ok (.bipush 103, 2) := by decide +kernel
theorem dX11_factAt_3 : decode cX11_factAt 3 = .ok (.if_icmp .ne 7, 3) := by decide +kernel
theorem dX11_factAt_6 : decode cX11_factAt 6 = .ok (.iconst 1, 1) := by decide +kernel
theorem dX11_factAt_7 : decode cX11_factAt 7 = .ok (.goto 45, 3) := by decide +kernel
theorem dX11_factAt_10 : decode cX11_factAt 10 = .ok (.iload_n 0, 1) := by decide +kernel
theorem dX11_factAt_11 : decode cX11_factAt 11 = .ok (.bipush 104, 2) := by decide +kernel
theorem dX11_factAt_13 : decode cX11_factAt 13 = .ok (.if_icmp .ne 7, 3) := by decide +kernel
theorem dX11_factAt_16 : decode cX11_factAt 16 = .ok (.iconst 2, 1) := by decide +kernel
theorem dX11_factAt_17 : decode cX11_factAt 17 = .ok (.goto 35, 3) := by decide +kernel
theorem dX11_factAt_20 : decode cX11_factAt 20 = .ok (.iload_n 0, 1) := by decide +kernel
theorem dX11_factAt_21 : decode cX11_factAt 21 = .ok (.bipush 120, 2) := by decide +kernel
theorem dX11_factAt_23 : decode cX11_factAt 23 = .ok (.if_icmp .ne 7, 3) := by decide +kernel
theorem dX11_factAt_26 : decode cX11_factAt 26 = .ok (.iconst 3, 1) := by decide +kernel
theorem dX11_factAt_27 : decode cX11_factAt 27 = .ok (.goto 25, 3) := by decide +kernel
theorem dX11_factAt_30 : decode cX11_factAt 30 = .ok (.iload_n 0, 1) := by decide +kernel
theorem dX11_factAt_31 : decode cX11_factAt 31 = .ok (.bipush 114, 2) := by decide +kernel
theorem dX11_factAt_33 : decode cX11_factAt 33 = .ok (.if_icmp .ne 7, 3) := by decide +kernel
theorem dX11_factAt_36 : decode cX11_factAt 36 = .ok (.iconst 4, 1) := by decide +kernel
theorem dX11_factAt_37 : decode cX11_factAt 37 = .ok (.goto 15, 3) := by decide +kernel
theorem dX11_factAt_40 : decode cX11_factAt 40 = .ok (.iload_n 0, 1) := by decide +kernel
theorem dX11_factAt_41 : decode cX11_factAt 41 = .ok (.bipush 110, 2) := by decide +kernel
theorem dX11_factAt_43 : decode cX11_factAt 43 = .ok (.if_icmp .ne 7, 3) := by decide +kernel
theorem dX11_factAt_46 : decode cX11_factAt 46 = .ok (.iconst 5, 1) := by decide +kernel
theorem dX11_factAt_47 : decode cX11_factAt 47 = .ok (.goto 5, 3) := by decide +kernel
theorem dX11_factAt_50 : decode cX11_factAt 50 = .ok (.bipush (-6), 2) := by decide +kernel
theorem dX11_factAt_52 : decode cX11_factAt 52 = .ok (.ireturn, 1) := by decide +kernel
set_option maxRecDepth 20000 in
theorem ggX11_faultOf_X11_in : GoodIn wsX11_faultOf wsX11_in := goodIn_r _ [6] (by decide +kernel) (by decide +kernel)
set_option maxRecDepth 20000 in
theorem gX11_faultOf_X11_in : GoodIn wsX11_faultOf (va_wsS RX11 138 yX11_in wsX11_in) := goodIn_app (goodIn_of _ (by decide +kernel)) ggX11_faultOf_X11_in
set_option maxRecDepth 20000 in
theorem ggX11_faultOf_X11_factAt : GoodIn wsX11_faultOf wsX11_factAt := goodIn_r _ [9] (by decide +kernel) (by decide +kernel)
set_option maxRecDepth 20000 in
theorem gX11_faultOf_X11_factAt : GoodIn wsX11_faultOf (va_wsS RX11 301 yX11_factAt wsX11_factAt) := goodIn_app (goodIn_of _ (by decide +kernel)) ggX11_faultOf_X11_factAt
theorem dX11_faultOf_0 : decode cX11_faultOf 0 = .ok (.iconst 0, 1) := by decide +kernel
theorem dX11_faultOf_1 : decode cX11_faultOf 1 = .ok (.istore_n 1, 1) := by decide +kernel
theorem dX11_faultOf_2 : decode cX11_faultOf 2 = .ok (.iconst 0, 1) := by decide +kernel
theorem dX11_faultOf_3 : decode cX11_faultOf 3 = .ok (.istore_n 2, 1) := by decide +kernel
theorem dX11_faultOf_4 : decode cX11_faultOf 4 = .ok (.iload_n 2, 1) := by decide +kernel
theorem dX11_faultOf_5 : decode cX11_faultOf 5 = .ok (.aload_n 0, 1) := by decide +kernel
theorem dX11_faultOf_6 : decode cX11_faultOf 6 = .ok (.getfield 298, 3) := by decide +kernel
theorem dX11_faultOf_9 : decode cX11_faultOf 9 = .ok (.if_icmp .ge 149, 3) := by decide +kernel
theorem dX11_faultOf_12 : decode cX11_faultOf 12 = .ok (.aload_n 0, 1) := by decide +kernel
theorem dX11_faultOf_13 : decode cX11_faultOf 13 = .ok (.getfield 98, 3) := by decide +kernel
theorem dX11_faultOf_16 : decode cX11_faultOf 16 = .ok (.iload_n 2, 1) := by decide +kernel
theorem dX11_faultOf_17 : decode cX11_faultOf 17 = .ok (.iaload, 1) := by decide +kernel
theorem dX11_faultOf_18 : decode cX11_faultOf 18 = .ok (.istore_n 3, 1) := by decide +kernel
theorem dX11_faultOf_19 : decode cX11_faultOf 19 = .ok (.iload_n 3, 1) := by decide +kernel
theorem dX11_faultOf_20 : decode cX11_faultOf 20 = .ok (.bipush 48, 2) := by decide +kernel
theorem dX11_faultOf_22 : decode cX11_faultOf 22 = .ok (.bipush 57, 2) := by decide +kernel
theorem dX11_faultOf_24 : decode cX11_faultOf 24 = .ok (.invokestatic 138, 3) := by decide +kernel
theorem dX11_faultOf_27 : decode cX11_faultOf 27 = .ok (.istore 4, 2) := by decide +kernel
theorem dX11_faultOf_29 : decode cX11_faultOf 29 = .ok (.iload_n 3, 1) := by decide +kernel
theorem dX11_faultOf_30 : decode cX11_faultOf 30 = .ok (.bipush 38, 2) := by decide +kernel
theorem dX11_faultOf_32 : decode cX11_faultOf 32 = .ok (.if_icmp .eq 9, 3) := by decide +kernel
theorem dX11_faultOf_35 : decode cX11_faultOf 35 = .ok (.iload_n 3, 1) := by decide +kernel
theorem dX11_faultOf_36 : decode cX11_faultOf 36 = .ok (.bipush 124, 2) := by decide +kernel
theorem dX11_faultOf_38 : decode cX11_faultOf 38 = .ok (.if_icmp .ne 7, 3) := by decide +kernel
theorem dX11_faultOf_41 : decode cX11_faultOf 41 = .ok (.iconst 1, 1) := by decide +kernel
theorem dX11_faultOf_42 : decode cX11_faultOf 42 = .ok (.goto 4, 3) := by decide +kernel
theorem dX11_faultOf_45 : decode cX11_faultOf 45 = .ok (.iconst 0, 1) := by decide +kernel
theorem dX11_faultOf_46 : decode cX11_faultOf 46 = .ok (.istore 5, 2) := by decide +kernel
theorem dX11_faultOf_48 : decode cX11_faultOf 48 = .ok (.iload_n 1, 1) := by decide +kernel
theorem dX11_faultOf_49 : decode cX11_faultOf 49 = .ok (.ifCond .ne 18, 3) := by decide +kernel
theorem dX11_faultOf_52 : decode cX11_faultOf 52 = .ok (.iload_n 3, 1) := by decide +kernel
theorem dX11_faultOf_53 : decode cX11_faultOf 53 = .ok (.invokestatic 301, 3) := by decide +kernel
theorem dX11_faultOf_56 : decode cX11_faultOf 56 = .ok (.ifCond .le 7, 3) := by decide +kernel
theorem dX11_faultOf_59 : decode cX11_faultOf 59 = .ok (.iconst 1, 1) := by decide +kernel
theorem dX11_faultOf_60 : decode cX11_faultOf 60 = .ok (.goto 65, 3) := by decide +kernel
theorem dX11_faultOf_63 : decode cX11_faultOf 63 = .ok (.iconst 0, 1) := by decide +kernel
theorem dX11_faultOf_64 : decode cX11_faultOf 64 = .ok (.goto 61, 3) := by decide +kernel
theorem dX11_faultOf_67 : decode cX11_faultOf 67 = .ok (.iload_n 1, 1) := by decide +kernel
theorem dX11_faultOf_68 : decode cX11_faultOf 68 = .ok (.iconst 1, 1) := by decide +kernel
theorem dX11_faultOf_69 : decode cX11_faultOf 69 = .ok (.if_icmp .ne 23, 3) := by decide +kernel
theorem dX11_faultOf_72 : decode cX11_faultOf 72 = .ok (.iload_n 3, 1) := by decide +kernel
theorem dX11_faultOf_73 : decode cX11_faultOf 73 = .ok (.bipush 60, 2) := by decide +kernel
theorem dX11_faultOf_75 : decode cX11_faultOf 75 = .ok (.if_icmp .eq 9, 3) := by decide +kernel
theorem dX11_faultOf_78 : decode cX11_faultOf 78 = .ok (.iload_n 3, 1) := by decide +kernel
theorem dX11_faultOf_79 : decode cX11_faultOf 79 = .ok (.bipush 62, 2) := by decide +kernel
theorem dX11_faultOf_81 : decode cX11_faultOf 81 = .ok (.if_icmp .ne 7, 3) := by decide +kernel
theorem dX11_faultOf_84 : decode cX11_faultOf 84 = .ok (.iconst 1, 1) := by decide +kernel
theorem dX11_faultOf_85 : decode cX11_faultOf 85 = .ok (.goto 40, 3) := by decide +kernel
theorem dX11_faultOf_88 : decode cX11_faultOf 88 = .ok (.iconst 0, 1) := by decide +kernel
theorem dX11_faultOf_89 : decode cX11_faultOf 89 = .ok (.goto 36, 3) := by decide +kernel
theorem dX11_faultOf_92 : decode cX11_faultOf 92 = .ok (.iload 4, 2) := by decide +kernel
theorem dX11_faultOf_94 : decode cX11_faultOf 94 = .ok (.ifCond .eq 16, 3) := by decide +kernel
theorem dX11_faultOf_97 : decode cX11_faultOf 97 = .ok (.iload_n 1, 1) := by decide +kernel
theorem dX11_faultOf_98 : decode cX11_faultOf 98 = .ok (.iconst 5, 1) := by decide +kernel
theorem dX11_faultOf_99 : decode cX11_faultOf 99 = .ok (.if_icmp .ge 7, 3) := by decide +kernel
theorem dX11_faultOf_102 : decode cX11_faultOf 102 = .ok (.iconst 1, 1) := by decide +kernel
theorem dX11_faultOf_103 : decode cX11_faultOf 103 = .ok (.goto 22, 3) := by decide +kernel
theorem dX11_faultOf_106 : decode cX11_faultOf 106 = .ok (.iconst 0, 1) := by decide +kernel
theorem dX11_faultOf_107 : decode cX11_faultOf 107 = .ok (.goto 18, 3) := by decide +kernel
theorem dX11_faultOf_110 : decode cX11_faultOf 110 = .ok (.iload 5, 2) := by decide +kernel
theorem dX11_faultOf_112 : decode cX11_faultOf 112 = .ok (.ifCond .eq 12, 3) := by decide +kernel
theorem dX11_faultOf_115 : decode cX11_faultOf 115 = .ok (.iload_n 1, 1) := by decide +kernel
theorem dX11_faultOf_116 : decode cX11_faultOf 116 = .ok (.iconst 2, 1) := by decide +kernel
theorem dX11_faultOf_117 : decode cX11_faultOf 117 = .ok (.if_icmp .le 7, 3) := by decide +kernel
theorem dX11_faultOf_120 : decode cX11_faultOf 120 = .ok (.iconst 1, 1) := by decide +kernel
theorem dX11_faultOf_121 : decode cX11_faultOf 121 = .ok (.goto 4, 3) := by decide +kernel
theorem dX11_faultOf_124 : decode cX11_faultOf 124 = .ok (.iconst 0, 1) := by decide +kernel
theorem dX11_faultOf_125 : decode cX11_faultOf 125 = .ok (.istore 6, 2) := by decide +kernel
theorem dX11_faultOf_127 : decode cX11_faultOf 127 = .ok (.iload 6, 2) := by decide +kernel
theorem dX11_faultOf_129 : decode cX11_faultOf 129 = .ok (.ifCond .ne 5, 3) := by decide +kernel
theorem dX11_faultOf_132 : decode cX11_faultOf 132 = .ok (.iload_n 2, 1) := by decide +kernel
theorem dX11_faultOf_133 : decode cX11_faultOf 133 = .ok (.ireturn, 1) := by decide +kernel
theorem dX11_faultOf_134 : decode cX11_faultOf 134 = .ok (.iload_n 1, 1) := by decide +kernel
theorem dX11_faultOf_135 : decode cX11_faultOf 135 = .ok (.iconst 2, 1) := by decide +kernel
theorem dX11_faultOf_136 : decode cX11_faultOf 136 = .ok (.if_icmp .le 12, 3) := by decide +kernel
theorem dX11_faultOf_139 : decode cX11_faultOf 139 = .ok (.iload 5, 2) := by decide +kernel
theorem dX11_faultOf_141 : decode cX11_faultOf 141 = .ok (.ifCond .eq 7, 3) := by decide +kernel
theorem dX11_faultOf_144 : decode cX11_faultOf 144 = .ok (.iconst 0, 1) := by decide +kernel
theorem dX11_faultOf_145 : decode cX11_faultOf 145 = .ok (.goto 6, 3) := by decide +kernel
theorem dX11_faultOf_148 : decode cX11_faultOf 148 = .ok (.iload_n 1, 1) := by decide +kernel
theorem dX11_faultOf_149 : decode cX11_faultOf 149 = .ok (.iconst 1, 1) := by decide +kernel
theorem dX11_faultOf_150 : decode cX11_faultOf 150 = .ok (.iadd, 1) := by decide +kernel
theorem dX11_faultOf_151 : decode cX11_faultOf 151 = .ok (.istore_n 1, 1) := by decide +kernel
theorem dX11_faultOf_152 : decode cX11_faultOf 152 = .ok (.iinc 2 1, 3) := by decide +kernel
theorem dX11_faultOf_155 : decode cX11_faultOf 155 = .ok (.goto (-151), 3) := by decide +kernel
theorem dX11_faultOf_158 : decode cX11_faultOf 158 = .ok (.iload_n 1, 1) := by decide +kernel
theorem dX11_faultOf_159 : decode cX11_faultOf 159 = .ok (.iconst 2, 1) := by decide +kernel
theorem dX11_faultOf_160 : decode cX11_faultOf 160 = .ok (.if_icmp .le 8, 3) := by decide +kernel
theorem dX11_faultOf_163 : decode cX11_faultOf 163 = .ok (.bipush (-6), 2) := by decide +kernel
theorem dX11_faultOf_165 : decode cX11_faultOf 165 = .ok (.goto 7, 3) := by decide +kernel
theorem dX11_faultOf_168 : decode cX11_faultOf 168 = .ok (.aload_n 0, 1) := by decide +kernel
theorem dX11_faultOf_169 : decode cX11_faultOf 169 = .ok (.getfield 298, 3) := by decide +kernel
theorem dX11_faultOf_172 : decode cX11_faultOf 172 = .ok (.ireturn, 1) := by decide +kernel
set_option maxRecDepth 20000 in
theorem ggX11_fault_X11_faultOf : GoodIn wsX11_fault wsX11_faultOf := goodIn_r _ [5, 6, 7, 8, 9, 4, 10, 11, 12, 13, 14, 15, 16, 17, 18, 19, 20, 21, 22, 23, 24, 25, 26, 27, 28, 29, 30, 31, 32, 33, 34, 35, 36, 37, 38, 39, 40, 41, 42, 43, 44, 45, 46, 47, 48, 49, 50, 51, 52, 53, 54, 55, 56, 57, 58, 59, 60, 61, 62, 63, 64, 65, 66, 67] (by decide +kernel) (by decide +kernel)
set_option maxRecDepth 20000 in
theorem gX11_fault_X11_faultOf : GoodIn wsX11_fault (wsV RX11 304 RX11 yX11_faultOf wsX11_faultOf) := goodIn_app (goodIn_of _ (by decide +kernel)) ggX11_fault_X11_faultOf
theorem dX11_fault_0 : decode cX11_fault 0 = .ok (.aload_n 0, 1) := by decide +kernel
theorem dX11_fault_1 : decode cX11_fault 1 = .ok (.invokevirtual 304, 3) := by decide +kernel
theorem dX11_fault_4 : decode cX11_fault 4 = .ok (.ireturn, 1) := by decide +kernel
set_option maxRecDepth 20000 in
theorem ggX11_rule_X11_faultOf : GoodIn wsX11_rule wsX11_faultOf := goodIn_r _ [9, 1, 4, 10, 11, 8, 12, 13, 14, 15, 16, 17, 18, 19, 20, 21, 22, 23, 24, 25, 26, 27, 28, 29, 30, 31, 32, 33, 34, 35, 36, 37, 38, 39, 40, 41, 42, 43, 44, 45, 46, 47, 48, 49, 50, 51, 52, 53, 54, 55, 56, 57, 58, 59, 60, 61, 62, 63, 64, 65, 66, 67, 68, 69] (by decide +kernel) (by decide +kernel)
set_option maxRecDepth 20000 in
theorem gX11_rule_X11_faultOf : GoodIn wsX11_rule (wsV RX11 304 RX11 yX11_faultOf wsX11_faultOf) := goodIn_app (goodIn_of _ (by decide +kernel)) ggX11_rule_X11_faultOf
theorem dX11_rule_0 : decode cX11_rule 0 = .ok (.aload_n 0, 1) := by decide +kernel
theorem dX11_rule_1 : decode cX11_rule 1 = .ok (.invokevirtual 304, 3) := by decide +kernel
theorem dX11_rule_4 : decode cX11_rule 4 = .ok (.ifCond .lt 6, 3) := by decide +kernel
theorem dX11_rule_7 : decode cX11_rule 7 = .ok (.bipush (-5), 2) := by decide +kernel
theorem dX11_rule_9 : decode cX11_rule 9 = .ok (.ireturn, 1) := by decide +kernel
theorem dX11_rule_10 : decode cX11_rule 10 = .ok (.aload_n 0, 1) := by decide +kernel
theorem dX11_rule_11 : decode cX11_rule 11 = .ok (.aload_n 0, 1) := by decide +kernel
theorem dX11_rule_12 : decode cX11_rule 12 = .ok (.getfield 298, 3) := by decide +kernel
theorem dX11_rule_15 : decode cX11_rule 15 = .ok (.putfield 308, 3) := by decide +kernel
theorem dX11_rule_18 : decode cX11_rule 18 = .ok (.iconst 0, 1) := by decide +kernel
theorem dX11_rule_19 : decode cX11_rule 19 = .ok (.istore_n 1, 1) := by decide +kernel
theorem dX11_rule_20 : decode cX11_rule 20 = .ok (.iload_n 1, 1) := by decide +kernel
theorem dX11_rule_21 : decode cX11_rule 21 = .ok (.aload_n 0, 1) := by decide +kernel
theorem dX11_rule_22 : decode cX11_rule 22 = .ok (.getfield 298, 3) := by decide +kernel
theorem dX11_rule_25 : decode cX11_rule 25 = .ok (.if_icmp .ge 21, 3) := by decide +kernel
theorem dX11_rule_28 : decode cX11_rule 28 = .ok (.aload_n 0, 1) := by decide +kernel
theorem dX11_rule_29 : decode cX11_rule 29 = .ok (.getfield 101, 3) := by decide +kernel
theorem dX11_rule_32 : decode cX11_rule 32 = .ok (.iload_n 1, 1) := by decide +kernel
theorem dX11_rule_33 : decode cX11_rule 33 = .ok (.aload_n 0, 1) := by decide +kernel
theorem dX11_rule_34 : decode cX11_rule 34 = .ok (.getfield 98, 3) := by decide +kernel
theorem dX11_rule_37 : decode cX11_rule 37 = .ok (.iload_n 1, 1) := by decide +kernel
theorem dX11_rule_38 : decode cX11_rule 38 = .ok (.iaload, 1) := by decide +kernel
theorem dX11_rule_39 : decode cX11_rule 39 = .ok (.iastore, 1) := by decide +kernel
theorem dX11_rule_40 : decode cX11_rule 40 = .ok (.iinc 1 1, 3) := by decide +kernel
theorem dX11_rule_43 : decode cX11_rule 43 = .ok (.goto (-23), 3) := by decide +kernel
theorem dX11_rule_46 : decode cX11_rule 46 = .ok (.aload_n 0, 1) := by decide +kernel
theorem dX11_rule_47 : decode cX11_rule 47 = .ok (.iconst 0, 1) := by decide +kernel
theorem dX11_rule_48 : decode cX11_rule 48 = .ok (.putfield 298, 3) := by decide +kernel
theorem dX11_rule_51 : decode cX11_rule 51 = .ok (.iconst 1, 1) := by decide +kernel
theorem dX11_rule_52 : decode cX11_rule 52 = .ok (.ireturn, 1) := by decide +kernel
set_option maxRecDepth 20000 in
theorem ggX11_factOf_X11_greatestOf : GoodIn wsX11_factOf wsX11_greatestOf := goodIn_r _ [9, 10, 11, 12, 13, 8, 14, 15, 16, 17, 18, 19, 20, 21, 22, 23, 24, 25, 26, 27, 28, 29, 30, 31, 32, 33, 34, 35, 36, 37, 38, 39, 114, 115, 116, 117, 118, 119, 120, 121, 122, 123, 124, 125, 126, 127, 128, 129, 130, 131, 132, 133, 134, 135, 136, 137, 138, 139, 140, 141, 142, 143, 144, 145, 146, 147, 148, 149, 150, 151, 152, 153, 154, 155, 156, 157, 158, 159, 160, 161, 162, 163, 164, 165, 166, 167] (by decide +kernel) (by decide +kernel)
set_option maxRecDepth 20000 in
theorem gX11_factOf_X11_greatestOf : GoodIn wsX11_factOf (wsV RX11 199 RX11 yX11_greatestOf wsX11_greatestOf) := goodIn_app (goodIn_of _ (by decide +kernel)) ggX11_factOf_X11_greatestOf
set_option maxRecDepth 20000 in
theorem ggX11_factOf_X11_layOnes : GoodIn wsX11_factOf wsX11_layOnes := goodIn_r _ [43, 3, 38, 44, 45, 46, 8, 47, 1, 48, 4, 49, 50, 51, 52, 53, 54, 55, 56, 57, 58, 59, 60, 2, 61, 62, 63, 64, 65, 114, 115, 116, 117, 118, 119, 120, 121, 122, 123, 124, 125, 126, 127, 128, 129, 130, 131, 132, 133, 134, 135, 136, 137, 138, 139, 140, 141, 142, 143, 144, 145, 146, 147, 148, 149, 150, 151, 152, 153, 154, 155, 156, 157, 158, 159, 160, 161, 162, 163, 164, 165, 166, 167] (by decide +kernel) (by decide +kernel)
set_option maxRecDepth 20000 in
theorem gX11_factOf_X11_layOnes : GoodIn wsX11_factOf (wsV RX11 222 RX11 yX11_layOnes wsX11_layOnes) := goodIn_app (goodIn_of _ (by decide +kernel)) ggX11_factOf_X11_layOnes
set_option maxRecDepth 20000 in
theorem ggX11_factOf_X11_bits : GoodIn wsX11_factOf wsX11_bits := goodIn_r _ [68] (by decide +kernel) (by decide +kernel)
set_option maxRecDepth 20000 in
theorem gX11_factOf_X11_bits : GoodIn wsX11_factOf (va_wsS RX11 247 yX11_bits wsX11_bits) := goodIn_app (goodIn_of _ (by decide +kernel)) ggX11_factOf_X11_bits
set_option maxRecDepth 20000 in
theorem ggX11_factOf_X11_explainedOf : GoodIn wsX11_factOf wsX11_explainedOf := goodIn_r _ [72, 73, 74, 1, 75, 59, 76, 77, 4, 2, 78, 79, 80, 8, 81, 82, 83, 84, 85, 86, 114, 115, 116, 117, 118, 119, 120, 121, 122, 123, 124, 125, 126, 127, 128, 129, 130, 131, 132, 133, 134, 135, 136, 137, 138, 139, 140, 141, 142, 143, 144, 145, 146, 147, 148, 149, 150, 151, 152, 153, 154, 155, 156, 157, 158, 159, 160, 161, 162, 163, 164, 165, 166, 167] (by decide +kernel) (by decide +kernel)
set_option maxRecDepth 20000 in
theorem gX11_factOf_X11_explainedOf : GoodIn wsX11_factOf (wsV RX11 234 RX11 yX11_explainedOf wsX11_explainedOf) := goodIn_app (goodIn_of _ (by decide +kernel)) ggX11_factOf_X11_explainedOf
set_option maxRecDepth 20000 in
theorem ggX11_factOf_X11_layHands : GoodIn wsX11_factOf wsX11_layHands := goodIn_r _ [90, 91, 92, 1, 2, 3, 4, 40, 41, 42, 8, 43, 38, 44, 45, 46, 47, 48, 49, 50, 51, 52, 53, 54, 55, 56, 57, 58, 59, 60, 61, 62, 63, 64, 65, 114, 115, 116, 117, 118, 119, 120, 121, 122, 123, 124, 125, 126, 127, 128, 129, 130, 131, 132, 133, 134, 135, 136, 137, 138, 139, 140, 141, 142, 143, 144, 145, 146, 147, 148, 149, 150, 151, 152, 153, 154, 155, 156, 157, 158, 159, 160, 161, 162, 163, 164, 165, 166, 167] (by decide +kernel) (by decide +kernel)
set_option maxRecDepth 20000 in
theorem gX11_factOf_X11_layHands : GoodIn wsX11_factOf (wsV RX11 259 RX11 yX11_layHands wsX11_layHands) := goodIn_app (goodIn_of _ (by decide +kernel)) ggX11_factOf_X11_layHands
set_option maxRecDepth 20000 in
theorem ggX11_factOf_X11_ringOf : GoodIn wsX11_factOf wsX11_ringOf := goodIn_r _ [96, 91, 97, 98, 99, 8, 100, 101, 92, 114, 115, 116, 117, 118, 119, 120, 121, 122, 123, 124, 125, 126, 127, 128, 129, 130, 131, 132, 133, 134, 135, 136, 137, 138, 139, 140, 141, 142, 143, 144, 145, 146, 147, 148, 149, 150, 151, 152, 153, 154, 155, 156, 157, 158, 159, 160, 161, 162, 163, 164, 165, 166, 167] (by decide +kernel) (by decide +kernel)
set_option maxRecDepth 20000 in
theorem gX11_factOf_X11_ringOf : GoodIn wsX11_factOf (wsV RX11 265 RX11 yX11_ringOf wsX11_ringOf) := goodIn_app (goodIn_of _ (by decide +kernel)) ggX11_factOf_X11_ringOf
set_option maxRecDepth 20000 in
theorem ggX11_factOf_X11_neededOf : GoodIn wsX11_factOf wsX11_neededOf := goodIn_r _ [105, 106, 107, 108, 66, 67, 8, 68, 109, 110, 111, 112, 113, 114, 115, 116, 117, 118, 119, 120, 121, 122, 123, 124, 125, 126, 127, 128, 129, 130, 131, 132, 133, 134, 135, 136, 137, 138, 139, 140, 141, 142, 143, 144, 145, 146, 147, 148, 149, 150, 151, 152, 153, 154, 155, 156, 157, 158, 159, 160, 161, 162, 163, 164, 165, 166, 167] (by decide +kernel) (by decide +kernel)
set_option maxRecDepth 20000 in
theorem gX11_factOf_X11_neededOf : GoodIn wsX11_factOf (wsV RX11 256 RX11 yX11_neededOf wsX11_neededOf) := goodIn_app (goodIn_of _ (by decide +kernel)) ggX11_factOf_X11_neededOf
theorem dX11_factOf_0 : decode cX11_factOf 0 = .ok (.iload_n 2, 1) := by decide +kernel
theorem dX11_factOf_1 : decode cX11_factOf 1 = .ok (.tableswitch 135 1 4 #[31, 37, 112, 118], 31) := by decide +kernel
theorem dX11_factOf_32 : decode cX11_factOf 32 = .ok (.aload_n 0, 1) := by decide +kernel
theorem dX11_factOf_33 : decode cX11_factOf 33 = .ok (.iload_n 1, 1) := by decide +kernel
theorem dX11_factOf_34 : decode cX11_factOf 34 = .ok (.invokevirtual 199, 3) := by decide +kernel
theorem dX11_factOf_37 : decode cX11_factOf 37 = .ok (.ireturn, 1) := by decide +kernel
theorem dX11_factOf_38 : decode cX11_factOf 38 = .ok (.aload_n 0, 1) := by decide +kernel
theorem dX11_factOf_39 : decode cX11_factOf 39 = .ok (.invokevirtual 222, 3) := by decide +kernel
theorem dX11_factOf_42 : decode cX11_factOf 42 = .ok (.iconst 0, 1) := by decide +kernel
theorem dX11_factOf_43 : decode cX11_factOf 43 = .ok (.istore_n 3, 1) := by decide +kernel
theorem dX11_factOf_44 : decode cX11_factOf 44 = .ok (.iconst 0, 1) := by decide +kernel
theorem dX11_factOf_45 : decode cX11_factOf 45 = .ok (.istore 4, 2) := by decide +kernel
theorem dX11_factOf_47 : decode cX11_factOf 47 = .ok (.iload 4, 2) := by decide +kernel
theorem dX11_factOf_49 : decode cX11_factOf 49 = .ok (.aload_n 0, 1) := by decide +kernel
theorem dX11_factOf_50 : decode cX11_factOf 50 = .ok (.getfield 205, 3) := by decide +kernel
theorem dX11_factOf_53 : decode cX11_factOf 53 = .ok (.if_icmp .ge 55, 3) := by decide +kernel
theorem dX11_factOf_56 : decode cX11_factOf 56 = .ok (.iload_n 3, 1) := by decide +kernel
theorem dX11_factOf_57 : decode cX11_factOf 57 = .ok (.aload_n 0, 1) := by decide +kernel
theorem dX11_factOf_58 : decode cX11_factOf 58 = .ok (.getfield 43, 3) := by decide +kernel
theorem dX11_factOf_61 : decode cX11_factOf 61 = .ok (.iload 4, 2) := by decide +kernel
theorem dX11_factOf_63 : decode cX11_factOf 63 = .ok (.iaload, 1) := by decide +kernel
theorem dX11_factOf_64 : decode cX11_factOf 64 = .ok (.iload_n 1, 1) := by decide +kernel
theorem dX11_factOf_65 : decode cX11_factOf 65 = .ok (.if_icmp .ne 34, 3) := by decide +kernel
theorem dX11_factOf_68 : decode cX11_factOf 68 = .ok (.aload_n 0, 1) := by decide +kernel
theorem dX11_factOf_69 : decode cX11_factOf 69 = .ok (.getfield 120, 3) := by decide +kernel
theorem dX11_factOf_72 : decode cX11_factOf 72 = .ok (.aload_n 0, 1) := by decide +kernel
theorem dX11_factOf_73 : decode cX11_factOf 73 = .ok (.getfield 40, 3) := by decide +kernel
theorem dX11_factOf_76 : decode cX11_factOf 76 = .ok (.iload 4, 2) := by decide +kernel
theorem dX11_factOf_78 : decode cX11_factOf 78 = .ok (.iaload, 1) := by decide +kernel
theorem dX11_factOf_79 : decode cX11_factOf 79 = .ok (.iaload, 1) := by decide +kernel
theorem dX11_factOf_80 : decode cX11_factOf 80 = .ok (.invokestatic 247, 3) := by decide +kernel
theorem dX11_factOf_83 : decode cX11_factOf 83 = .ok (.iconst 1, 1) := by decide +kernel
theorem dX11_factOf_84 : decode cX11_factOf 84 = .ok (.if_icmp .le 15, 3) := by decide +kernel
theorem dX11_factOf_87 : decode cX11_factOf 87 = .ok (.iconst 1, 1) := by decide +kernel
theorem dX11_factOf_88 : decode cX11_factOf 88 = .ok (.aload_n 0, 1) := by decide +kernel
theorem dX11_factOf_89 : decode cX11_factOf 89 = .ok (.getfield 40, 3) := by decide +kernel
theorem dX11_factOf_92 : decode cX11_factOf 92 = .ok (.iload 4, 2) := by decide +kernel
theorem dX11_factOf_94 : decode cX11_factOf 94 = .ok (.iaload, 1) := by decide +kernel
theorem dX11_factOf_95 : decode cX11_factOf 95 = .ok (.ishl, 1) := by decide +kernel
theorem dX11_factOf_96 : decode cX11_factOf 96 = .ok (.goto 4, 3) := by decide +kernel
theorem dX11_factOf_99 : decode cX11_factOf 99 = .ok (.iconst 0, 1) := by decide +kernel
theorem dX11_factOf_100 : decode cX11_factOf 100 = .ok (.ior, 1) := by decide +kernel
theorem dX11_factOf_101 : decode cX11_factOf 101 = .ok (.istore_n 3, 1) := by decide +kernel
theorem dX11_factOf_102 : decode cX11_factOf 102 = .ok (.iinc 4 1, 3) := by decide +kernel
theorem dX11_factOf_105 : decode cX11_factOf 105 = .ok (.goto (-58), 3) := by decide +kernel
theorem dX11_factOf_108 : decode cX11_factOf 108 = .ok (.iload_n 3, 1) := by decide +kernel
theorem dX11_factOf_109 : decode cX11_factOf 109 = .ok (.invokestatic 247, 3) := by decide +kernel
theorem dX11_factOf_112 : decode cX11_factOf 112 = .ok (.ireturn, 1) := by decide +kernel
theorem dX11_factOf_113 : decode cX11_factOf 113 = .ok (.aload_n 0, 1) := by decide +kernel
theorem dX11_factOf_114 : decode cX11_factOf 114 = .ok (.iload_n 1, 1) := by decide +kernel
theorem dX11_factOf_115 : decode cX11_factOf 115 = .ok (.invokevirtual 234, 3) := by decide +kernel
theorem dX11_factOf_118 : decode cX11_factOf 118 = .ok (.ireturn, 1) := by decide +kernel
theorem dX11_factOf_119 : decode cX11_factOf 119 = .ok (.aload_n 0, 1) := by decide +kernel
theorem dX11_factOf_120 : decode cX11_factOf 120 = .ok (.invokevirtual 259, 3) := by decide +kernel
theorem dX11_factOf_123 : decode cX11_factOf 123 = .ok (.aload_n 0, 1) := by decide +kernel
theorem dX11_factOf_124 : decode cX11_factOf 124 = .ok (.iload_n 1, 1) := by decide +kernel
theorem dX11_factOf_125 : decode cX11_factOf 125 = .ok (.bipush (-6), 2) := by decide +kernel
theorem dX11_factOf_127 : decode cX11_factOf 127 = .ok (.bipush (-6), 2) := by decide +kernel
theorem dX11_factOf_129 : decode cX11_factOf 129 = .ok (.invokevirtual 265, 3) := by decide +kernel
theorem dX11_factOf_132 : decode cX11_factOf 132 = .ok (.invokestatic 247, 3) := by decide +kernel
theorem dX11_factOf_135 : decode cX11_factOf 135 = .ok (.ireturn, 1) := by decide +kernel
theorem dX11_factOf_136 : decode cX11_factOf 136 = .ok (.aload_n 0, 1) := by decide +kernel
theorem dX11_factOf_137 : decode cX11_factOf 137 = .ok (.iload_n 1, 1) := by decide +kernel
theorem dX11_factOf_138 : decode cX11_factOf 138 = .ok (.invokevirtual 256, 3) := by decide +kernel
theorem dX11_factOf_141 : decode cX11_factOf 141 = .ok (.invokestatic 247, 3) := by decide +kernel
theorem dX11_factOf_144 : decode cX11_factOf 144 = .ok (.ireturn, 1) := by decide +kernel
set_option maxRecDepth 20000 in
theorem ggX11_isProof_X11_factAt : GoodIn wsX11_isProof wsX11_factAt := goodIn_r _ [6] (by decide +kernel) (by decide +kernel)
set_option maxRecDepth 20000 in
theorem gX11_isProof_X11_factAt : GoodIn wsX11_isProof (va_wsS RX11 301 yX11_factAt wsX11_factAt) := goodIn_app (goodIn_of _ (by decide +kernel)) ggX11_isProof_X11_factAt
set_option maxRecDepth 20000 in
theorem ggX11_isProof_X11_factOf : GoodIn wsX11_isProof wsX11_factOf := goodIn_r _ [10, 11, 12, 13, 14, 15, 16, 17, 5, 18, 19, 20, 21, 22, 23, 24, 25, 26, 27, 28, 29, 30, 31, 32, 33, 34, 35, 36, 37, 38, 39, 40, 41, 42, 43, 44, 45, 46, 47, 48, 49, 50, 51, 52, 53, 54, 55, 56, 57, 58, 59, 60, 61, 62, 63, 64, 65, 66, 67, 68, 69, 70, 71, 72, 73, 74, 75, 76, 77, 78, 79, 80, 81, 82, 83, 84, 85, 86, 87, 88, 89, 90, 91, 92, 93, 94, 95, 96, 97, 98, 99, 100, 101, 102, 103, 104, 105, 106, 107, 108, 109, 110, 111, 112, 113, 114, 115, 116, 117, 118, 119, 120, 121, 122, 126, 127, 128, 129, 130, 131, 132, 133, 134, 135, 136, 137, 138, 139, 140, 141, 142, 143, 144, 145, 146, 147, 148, 149, 150, 151, 152, 153, 154, 155, 156, 157, 158, 159, 160, 161, 162, 163, 164, 165, 166, 167, 168, 169, 170, 171, 172, 173, 174, 175, 176, 177, 178, 179] (by decide +kernel) (by decide +kernel)
set_option maxRecDepth 20000 in
theorem gX11_isProof_X11_factOf : GoodIn wsX11_isProof (wsV RX11 311 RX11 yX11_factOf wsX11_factOf) := goodIn_app (goodIn_of _ (by decide +kernel)) ggX11_isProof_X11_factOf
set_option maxRecDepth 20000 in
theorem ggX11_isProof_X11_in : GoodIn wsX11_isProof wsX11_in := goodIn_r _ [125] (by decide +kernel) (by decide +kernel)
set_option maxRecDepth 20000 in
theorem gX11_isProof_X11_in : GoodIn wsX11_isProof (va_wsS RX11 138 yX11_in wsX11_in) := goodIn_app (goodIn_of _ (by decide +kernel)) ggX11_isProof_X11_in
theorem dX11_isProof_0 : decode cX11_isProof 0 = .ok (.iconst 0, 1) := by decide +kernel
theorem dX11_isProof_1 : decode cX11_isProof 1 = .ok (.istore_n 2, 1) := by decide +kernel
theorem dX11_isProof_2 : decode cX11_isProof 2 = .ok (.iconst 1, 1) := by decide +kernel
theorem dX11_isProof_3 : decode cX11_isProof 3 = .ok (.istore_n 3, 1) := by decide +kernel
theorem dX11_isProof_4 : decode cX11_isProof 4 = .ok (.iconst 0, 1) := by decide +kernel
theorem dX11_isProof_5 : decode cX11_isProof 5 = .ok (.istore 4, 2) := by decide +kernel
theorem dX11_isProof_7 : decode cX11_isProof 7 = .ok (.iload 4, 2) := by decide +kernel
theorem dX11_isProof_9 : decode cX11_isProof 9 = .ok (.aload_n 0, 1) := by decide +kernel
theorem dX11_isProof_10 : decode cX11_isProof 10 = .ok (.getfield 308, 3) := by decide +kernel
theorem dX11_isProof_13 : decode cX11_isProof 13 = .ok (.if_icmp .ge 172, 3) := by decide +kernel
theorem dX11_isProof_16 : decode cX11_isProof 16 = .ok (.aload_n 0, 1) := by decide +kernel
theorem dX11_isProof_17 : decode cX11_isProof 17 = .ok (.iload_n 1, 1) := by decide +kernel
theorem dX11_isProof_18 : decode cX11_isProof 18 = .ok (.aload_n 0, 1) := by decide +kernel
theorem dX11_isProof_19 : decode cX11_isProof 19 = .ok (.getfield 101, 3) := by decide +kernel
theorem dX11_isProof_22 : decode cX11_isProof 22 = .ok (.iload 4, 2) := by decide +kernel
theorem dX11_isProof_24 : decode cX11_isProof 24 = .ok (.iaload, 1) := by decide +kernel
theorem dX11_isProof_25 : decode cX11_isProof 25 = .ok (.invokestatic 301, 3) := by decide +kernel
theorem dX11_isProof_28 : decode cX11_isProof 28 = .ok (.invokevirtual 311, 3) := by decide +kernel
theorem dX11_isProof_31 : decode cX11_isProof 31 = .ok (.istore 5, 2) := by decide +kernel
theorem dX11_isProof_33 : decode cX11_isProof 33 = .ok (.aload_n 0, 1) := by decide +kernel
theorem dX11_isProof_34 : decode cX11_isProof 34 = .ok (.getfield 101, 3) := by decide +kernel
theorem dX11_isProof_37 : decode cX11_isProof 37 = .ok (.iload 4, 2) := by decide +kernel
theorem dX11_isProof_39 : decode cX11_isProof 39 = .ok (.iconst 1, 1) := by decide +kernel
theorem dX11_isProof_40 : decode cX11_isProof 40 = .ok (.iadd, 1) := by decide +kernel
theorem dX11_isProof_41 : decode cX11_isProof 41 = .ok (.iaload, 1) := by decide +kernel
theorem dX11_isProof_42 : decode cX11_isProof 42 = .ok (.bipush 60, 2) := by decide +kernel
theorem dX11_isProof_44 : decode cX11_isProof 44 = .ok (.if_icmp .ne 7, 3) := by decide +kernel
theorem dX11_isProof_47 : decode cX11_isProof 47 = .ok (.iconst 1, 1) := by decide +kernel
theorem dX11_isProof_48 : decode cX11_isProof 48 = .ok (.goto 4, 3) := by decide +kernel
theorem dX11_isProof_51 : decode cX11_isProof 51 = .ok (.iconst 0, 1) := by decide +kernel
theorem dX11_isProof_52 : decode cX11_isProof 52 = .ok (.istore 6, 2) := by decide +kernel
theorem dX11_isProof_54 : decode cX11_isProof 54 = .ok (.iconst 0, 1) := by decide +kernel
theorem dX11_isProof_55 : decode cX11_isProof 55 = .ok (.istore 7, 2) := by decide +kernel
theorem dX11_isProof_57 : decode cX11_isProof 57 = .ok (.iinc 4 2, 3) := by decide +kernel
theorem dX11_isProof_60 : decode cX11_isProof 60 = .ok (.iload 4, 2) := by decide +kernel
theorem dX11_isProof_62 : decode cX11_isProof 62 = .ok (.aload_n 0, 1) := by decide +kernel
theorem dX11_isProof_63 : decode cX11_isProof 63 = .ok (.getfield 308, 3) := by decide +kernel
theorem dX11_isProof_66 : decode cX11_isProof 66 = .ok (.if_icmp .ge 44, 3) := by decide +kernel
theorem dX11_isProof_69 : decode cX11_isProof 69 = .ok (.aload_n 0, 1) := by decide +kernel
theorem dX11_isProof_70 : decode cX11_isProof 70 = .ok (.getfield 101, 3) := by decide +kernel
theorem dX11_isProof_73 : decode cX11_isProof 73 = .ok (.iload 4, 2) := by decide +kernel
theorem dX11_isProof_75 : decode cX11_isProof 75 = .ok (.iaload, 1) := by decide +kernel
theorem dX11_isProof_76 : decode cX11_isProof 76 = .ok (.bipush 48, 2) := by decide +kernel
theorem dX11_isProof_78 : decode cX11_isProof 78 = .ok (.bipush 57, 2) := by decide +kernel
theorem dX11_isProof_80 : decode cX11_isProof 80 = .ok (.invokestatic 138, 3) := by decide +kernel
theorem dX11_isProof_83 : decode cX11_isProof 83 = .ok (.ifCond .eq 27, 3) := by decide +kernel
theorem dX11_isProof_86 : decode cX11_isProof 86 = .ok (.bipush 10, 2) := by decide +kernel
theorem dX11_isProof_88 : decode cX11_isProof 88 = .ok (.iload 7, 2) := by decide +kernel
theorem dX11_isProof_90 : decode cX11_isProof 90 = .ok (.imul, 1) := by decide +kernel
theorem dX11_isProof_91 : decode cX11_isProof 91 = .ok (.aload_n 0, 1) := by decide +kernel
theorem dX11_isProof_92 : decode cX11_isProof 92 = .ok (.getfield 101, 3) := by decide +kernel
theorem dX11_isProof_95 : decode cX11_isProof 95 = .ok (.iload 4, 2) := by decide +kernel
theorem dX11_isProof_97 : decode cX11_isProof 97 = .ok (.iaload, 1) := by decide +kernel
theorem dX11_isProof_98 : decode cX11_isProof 98 = .ok (.iadd, 1) := by decide +kernel
theorem dX11_isProof_99 : decode cX11_isProof 99 = .ok (.bipush 48, 2) := by decide +kernel
theorem dX11_isProof_101 : decode cX11_isProof 101 = .ok (.isub, 1) := by decide +kernel
theorem dX11_isProof_102 : decode cX11_isProof 102 = .ok (.istore 7, 2) := by decide +kernel
theorem dX11_isProof_104 : decode cX11_isProof 104 = .ok (.iinc 4 1, 3) := by decide +kernel
theorem dX11_isProof_107 : decode cX11_isProof 107 = .ok (.goto (-47), 3) := by decide +kernel
theorem dX11_isProof_110 : decode cX11_isProof 110 = .ok (.iload_n 3, 1) := by decide +kernel
theorem dX11_isProof_111 : decode cX11_isProof 111 = .ok (.ifCond .eq 29, 3) := by decide +kernel
theorem dX11_isProof_114 : decode cX11_isProof 114 = .ok (.iload 6, 2) := by decide +kernel
theorem dX11_isProof_116 : decode cX11_isProof 116 = .ok (.ifCond .eq 13, 3) := by decide +kernel
theorem dX11_isProof_119 : decode cX11_isProof 119 = .ok (.iload 5, 2) := by decide +kernel
theorem dX11_isProof_121 : decode cX11_isProof 121 = .ok (.iload 7, 2) := by decide +kernel
theorem dX11_isProof_123 : decode cX11_isProof 123 = .ok (.if_icmp .ge 17, 3) := by decide +kernel
theorem dX11_isProof_126 : decode cX11_isProof 126 = .ok (.goto 10, 3) := by decide +kernel
theorem dX11_isProof_129 : decode cX11_isProof 129 = .ok (.iload 5, 2) := by decide +kernel
theorem dX11_isProof_131 : decode cX11_isProof 131 = .ok (.iload 7, 2) := by decide +kernel
theorem dX11_isProof_133 : decode cX11_isProof 133 = .ok (.if_icmp .le 7, 3) := by decide +kernel
theorem dX11_isProof_136 : decode cX11_isProof 136 = .ok (.iconst 1, 1) := by decide +kernel
theorem dX11_isProof_137 : decode cX11_isProof 137 = .ok (.goto 4, 3) := by decide +kernel
theorem dX11_isProof_140 : decode cX11_isProof 140 = .ok (.iconst 0, 1) := by decide +kernel
theorem dX11_isProof_141 : decode cX11_isProof 141 = .ok (.istore_n 3, 1) := by decide +kernel
theorem dX11_isProof_142 : decode cX11_isProof 142 = .ok (.iload 4, 2) := by decide +kernel
theorem dX11_isProof_144 : decode cX11_isProof 144 = .ok (.aload_n 0, 1) := by decide +kernel
theorem dX11_isProof_145 : decode cX11_isProof 145 = .ok (.getfield 308, 3) := by decide +kernel
theorem dX11_isProof_148 : decode cX11_isProof 148 = .ok (.if_icmp .eq 15, 3) := by decide +kernel
theorem dX11_isProof_151 : decode cX11_isProof 151 = .ok (.aload_n 0, 1) := by decide +kernel
theorem dX11_isProof_152 : decode cX11_isProof 152 = .ok (.getfield 101, 3) := by decide +kernel
theorem dX11_isProof_155 : decode cX11_isProof 155 = .ok (.iload 4, 2) := by decide +kernel
theorem dX11_isProof_157 : decode cX11_isProof 157 = .ok (.iaload, 1) := by decide +kernel
theorem dX11_isProof_158 : decode cX11_isProof 158 = .ok (.bipush 124, 2) := by decide +kernel
theorem dX11_isProof_160 : decode cX11_isProof 160 = .ok (.if_icmp .ne 19, 3) := by decide +kernel
theorem dX11_isProof_163 : decode cX11_isProof 163 = .ok (.iload_n 2, 1) := by decide +kernel
theorem dX11_isProof_164 : decode cX11_isProof 164 = .ok (.ifCond .ne 7, 3) := by decide +kernel
theorem dX11_isProof_167 : decode cX11_isProof 167 = .ok (.iload_n 3, 1) := by decide +kernel
theorem dX11_isProof_168 : decode cX11_isProof 168 = .ok (.ifCond .eq 7, 3) := by decide +kernel
theorem dX11_isProof_171 : decode cX11_isProof 171 = .ok (.iconst 1, 1) := by decide +kernel
theorem dX11_isProof_172 : decode cX11_isProof 172 = .ok (.goto 4, 3) := by decide +kernel
theorem dX11_isProof_175 : decode cX11_isProof 175 = .ok (.iconst 0, 1) := by decide +kernel
theorem dX11_isProof_176 : decode cX11_isProof 176 = .ok (.istore_n 2, 1) := by decide +kernel
theorem dX11_isProof_177 : decode cX11_isProof 177 = .ok (.iconst 1, 1) := by decide +kernel
theorem dX11_isProof_178 : decode cX11_isProof 178 = .ok (.istore_n 3, 1) := by decide +kernel
theorem dX11_isProof_179 : decode cX11_isProof 179 = .ok (.iinc 4 1, 3) := by decide +kernel
theorem dX11_isProof_182 : decode cX11_isProof 182 = .ok (.goto (-175), 3) := by decide +kernel
theorem dX11_isProof_185 : decode cX11_isProof 185 = .ok (.iload_n 2, 1) := by decide +kernel
theorem dX11_isProof_186 : decode cX11_isProof 186 = .ok (.ireturn, 1) := by decide +kernel
set_option maxRecDepth 20000 in
theorem ggX11_proof_X11_isMatch : GoodIn wsX11_proof wsX11_isMatch := goodIn_r _ [6, 7, 8, 9, 5, 10, 135, 136, 137, 138, 139, 140, 141, 142, 143, 144, 145, 146, 147, 148, 149, 150, 151, 152, 153, 154, 155, 156, 157, 158, 159, 160, 161, 162, 163, 164, 165, 166, 167, 168, 169, 170, 171, 172, 173, 174, 175, 176, 177, 178, 179, 180, 181, 182, 183, 184, 185, 186, 187, 188] (by decide +kernel) (by decide +kernel)
set_option maxRecDepth 20000 in
theorem gX11_proof_X11_isMatch : GoodIn wsX11_proof (wsV RX11 153 RX11 yX11_isMatch wsX11_isMatch) := goodIn_app (goodIn_of _ (by decide +kernel)) ggX11_proof_X11_isMatch
set_option maxRecDepth 20000 in
theorem ggX11_proof_X11_in : GoodIn wsX11_proof wsX11_in := goodIn_r _ [10] (by decide +kernel) (by decide +kernel)
set_option maxRecDepth 20000 in
theorem gX11_proof_X11_in : GoodIn wsX11_proof (va_wsS RX11 138 yX11_in wsX11_in) := goodIn_app (goodIn_of _ (by decide +kernel)) ggX11_proof_X11_in
set_option maxRecDepth 20000 in
theorem ggX11_proof_X11_isProof : GoodIn wsX11_proof wsX11_isProof := goodIn_r _ [14, 15, 16, 17, 18, 5, 19, 20, 21, 22, 23, 24, 25, 26, 27, 28, 29, 30, 31, 32, 33, 34, 35, 36, 37, 38, 39, 40, 41, 42, 43, 44, 45, 46, 47, 48, 49, 50, 51, 52, 53, 54, 55, 56, 57, 58, 59, 60, 61, 62, 63, 64, 65, 66, 67, 68, 69, 70, 71, 72, 73, 74, 75, 76, 77, 78, 79, 80, 81, 82, 83, 84, 85, 86, 87, 88, 89, 90, 91, 92, 93, 94, 95, 96, 97, 98, 99, 100, 101, 102, 103, 104, 105, 106, 107, 108, 109, 110, 111, 112, 7, 113, 114, 115, 116, 117, 118, 119, 120, 121, 122, 123, 124, 125, 126, 127, 128, 129, 130, 131, 132, 133, 134, 8, 9, 10, 135, 136, 137, 138, 139, 140, 141, 142, 143, 144, 145, 146, 147, 148, 149, 150, 151, 152, 153, 154, 155, 156, 157, 158, 159, 160, 161, 162, 163, 164, 165, 166, 167, 168, 169, 170, 171, 172, 173, 174, 175, 176, 177, 178, 179, 180, 181, 182, 183, 184, 185, 186, 187, 188] (by decide +kernel) (by decide +kernel)
set_option maxRecDepth 20000 in
theorem gX11_proof_X11_isProof : GoodIn wsX11_proof (wsV RX11 314 RX11 yX11_isProof wsX11_isProof) := goodIn_app (goodIn_of _ (by decide +kernel)) ggX11_proof_X11_isProof
set_option maxRecDepth 20000 in
theorem ggX11_proof_X11_factOf : GoodIn wsX11_proof wsX11_factOf := goodIn_r _ [23, 24, 25, 26, 27, 28, 29, 30, 5, 31, 32, 33, 34, 35, 36, 37, 38, 39, 40, 41, 42, 43, 44, 45, 46, 47, 48, 49, 50, 51, 52, 53, 54, 55, 56, 57, 58, 59, 60, 61, 62, 63, 64, 65, 66, 67, 68, 69, 70, 71, 72, 73, 74, 75, 76, 77, 78, 79, 80, 81, 82, 83, 84, 85, 86, 87, 88, 89, 90, 91, 92, 93, 94, 95, 96, 97, 98, 99, 100, 101, 102, 103, 104, 105, 106, 107, 108, 109, 110, 111, 112, 7, 113, 114, 115, 116, 117, 118, 119, 120, 121, 122, 123, 124, 125, 126, 127, 128, 129, 130, 131, 132, 133, 134, 135, 136, 137, 138, 139, 140, 141, 142, 143, 144, 145, 146, 147, 148, 149, 150, 151, 152, 153, 154, 155, 156, 157, 158, 159, 160, 161, 162, 163, 164, 165, 166, 167, 168, 169, 170, 171, 172, 173, 174, 175, 176, 177, 178, 179, 180, 181, 182, 183, 184, 185, 186, 187, 188] (by decide +kernel) (by decide +kernel)
set_option maxRecDepth 20000 in
theorem gX11_proof_X11_factOf : GoodIn wsX11_proof (wsV RX11 311 RX11 yX11_factOf wsX11_factOf) := goodIn_app (goodIn_of _ (by decide +kernel)) ggX11_proof_X11_factOf
theorem dX11_proof_0 : decode cX11_proof 0 = .ok (.aload_n 0, 1) := by decide +kernel
theorem dX11_proof_1 : decode cX11_proof 1 = .ok (.iload_n 1, 1) := by decide +kernel
theorem dX11_proof_2 : decode cX11_proof 2 = .ok (.invokevirtual 153, 3) := by decide +kernel
theorem dX11_proof_5 : decode cX11_proof 5 = .ok (.ifCond .eq 12, 3) := by decide +kernel
theorem dX11_proof_8 : decode cX11_proof 8 = .ok (.iload_n 2, 1) := by decide +kernel
theorem dX11_proof_9 : decode cX11_proof 9 = .ok (.iconst 0, 1) := by decide +kernel
theorem dX11_proof_10 : decode cX11_proof 10 = .ok (.iconst 5, 1) := by decide +kernel
theorem dX11_proof_11 : decode cX11_proof 11 = .ok (.invokestatic 138, 3) := by decide +kernel
theorem dX11_proof_14 : decode cX11_proof 14 = .ok (.ifCond .ne 6, 3) := by decide +kernel
theorem dX11_proof_17 : decode cX11_proof 17 = .ok (.ldc 192, 2) := by decide +kernel
theorem dX11_proof_19 : decode cX11_proof 19 = .ok (.ireturn, 1) := by decide +kernel
theorem dX11_proof_20 : decode cX11_proof 20 = .ok (.iload_n 2, 1) := by decide +kernel
theorem dX11_proof_21 : decode cX11_proof 21 = .ok (.ifCond .ne 19, 3) := by decide +kernel
theorem dX11_proof_24 : decode cX11_proof 24 = .ok (.aload_n 0, 1) := by decide +kernel
theorem dX11_proof_25 : decode cX11_proof 25 = .ok (.iload_n 1, 1) := by decide +kernel
theorem dX11_proof_26 : decode cX11_proof 26 = .ok (.invokevirtual 314, 3) := by decide +kernel
theorem dX11_proof_29 : decode cX11_proof 29 = .ok (.ifCond .eq 7, 3) := by decide +kernel
theorem dX11_proof_32 : decode cX11_proof 32 = .ok (.iconst 1, 1) := by decide +kernel
theorem dX11_proof_33 : decode cX11_proof 33 = .ok (.goto 13, 3) := by decide +kernel
theorem dX11_proof_36 : decode cX11_proof 36 = .ok (.iconst 0, 1) := by decide +kernel
theorem dX11_proof_37 : decode cX11_proof 37 = .ok (.goto 9, 3) := by decide +kernel
theorem dX11_proof_40 : decode cX11_proof 40 = .ok (.aload_n 0, 1) := by decide +kernel
theorem dX11_proof_41 : decode cX11_proof 41 = .ok (.iload_n 1, 1) := by decide +kernel
theorem dX11_proof_42 : decode cX11_proof 42 = .ok (.iload_n 2, 1) := by decide +kernel
theorem dX11_proof_43 : decode cX11_proof 43 = .ok (.invokevirtual 311, 3) := by decide +kernel
theorem dX11_proof_46 : decode cX11_proof 46 = .ok (.ireturn, 1) := by decide +kernel
set_option maxRecDepth 20000 in
theorem ggX11_cost_X11_isMatch : GoodIn wsX11_cost wsX11_isMatch := goodIn_r _ [6, 7, 8, 9, 5, 10, 11, 12, 13, 14, 15, 16, 17, 18, 19, 20, 21, 22, 23, 24, 25, 26, 27, 28, 29, 30, 31, 32, 33, 34, 35, 36, 37, 38, 39, 40, 41, 42, 43, 44, 45, 46, 47, 48, 49, 50, 51, 52, 53, 54, 55, 56, 57, 58, 59, 60, 61, 62, 63, 64] (by decide +kernel) (by decide +kernel)
set_option maxRecDepth 20000 in
theorem gX11_cost_X11_isMatch : GoodIn wsX11_cost (wsV RX11 153 RX11 yX11_isMatch wsX11_isMatch) := goodIn_app (goodIn_of _ (by decide +kernel)) ggX11_cost_X11_isMatch
set_option maxRecDepth 20000 in
theorem ggX11_cost_X11_in : GoodIn wsX11_cost wsX11_in := goodIn_r _ [10] (by decide +kernel) (by decide +kernel)
set_option maxRecDepth 20000 in
theorem gX11_cost_X11_in : GoodIn wsX11_cost (va_wsS RX11 138 yX11_in wsX11_in) := goodIn_app (goodIn_of _ (by decide +kernel)) ggX11_cost_X11_in
theorem dX11_cost_0 : decode cX11_cost 0 = .ok (.aload_n 0, 1) := by decide +kernel
theorem dX11_cost_1 : decode cX11_cost 1 = .ok (.iload_n 1, 1) := by decide +kernel
theorem dX11_cost_2 : decode cX11_cost 2 = .ok (.invokevirtual 153, 3) := by decide +kernel
theorem dX11_cost_5 : decode cX11_cost 5 = .ok (.ifCond .ne 5, 3) := by decide +kernel
theorem dX11_cost_8 : decode cX11_cost 8 = .ok (.iconst (-1), 1) := by decide +kernel
theorem dX11_cost_9 : decode cX11_cost 9 = .ok (.ireturn, 1) := by decide +kernel
theorem dX11_cost_10 : decode cX11_cost 10 = .ok (.iload_n 2, 1) := by decide +kernel
theorem dX11_cost_11 : decode cX11_cost 11 = .ok (.iconst 0, 1) := by decide +kernel
theorem dX11_cost_12 : decode cX11_cost 12 = .ok (.bipush 100, 2) := by decide +kernel
theorem dX11_cost_14 : decode cX11_cost 14 = .ok (.invokestatic 138, 3) := by decide +kernel
theorem dX11_cost_17 : decode cX11_cost 17 = .ok (.ifCond .ne 6, 3) := by decide +kernel
theorem dX11_cost_20 : decode cX11_cost 20 = .ok (.bipush (-2), 2) := by decide +kernel
theorem dX11_cost_22 : decode cX11_cost 22 = .ok (.ireturn, 1) := by decide +kernel
theorem dX11_cost_23 : decode cX11_cost 23 = .ok (.aload_n 0, 1) := by decide +kernel
theorem dX11_cost_24 : decode cX11_cost 24 = .ok (.getfield 28, 3) := by decide +kernel
theorem dX11_cost_27 : decode cX11_cost 27 = .ok (.iload_n 1, 1) := by decide +kernel
theorem dX11_cost_28 : decode cX11_cost 28 = .ok (.iaload, 1) := by decide +kernel
theorem dX11_cost_29 : decode cX11_cost 29 = .ok (.istore_n 3, 1) := by decide +kernel
theorem dX11_cost_30 : decode cX11_cost 30 = .ok (.aload_n 0, 1) := by decide +kernel
theorem dX11_cost_31 : decode cX11_cost 31 = .ok (.getfield 28, 3) := by decide +kernel
theorem dX11_cost_34 : decode cX11_cost 34 = .ok (.iload_n 1, 1) := by decide +kernel
theorem dX11_cost_35 : decode cX11_cost 35 = .ok (.iload_n 2, 1) := by decide +kernel
theorem dX11_cost_36 : decode cX11_cost 36 = .ok (.iastore, 1) := by decide +kernel
theorem dX11_cost_37 : decode cX11_cost 37 = .ok (.iload_n 3, 1) := by decide +kernel
theorem dX11_cost_38 : decode cX11_cost 38 = .ok (.ireturn, 1) := by decide +kernel
set_option maxRecDepth 20000 in
theorem ggX11_looks_X11_in : GoodIn wsX11_looks wsX11_in := goodIn_r _ [7] (by decide +kernel) (by decide +kernel)
set_option maxRecDepth 20000 in
theorem gX11_looks_X11_in : GoodIn wsX11_looks (va_wsS RX11 138 yX11_in wsX11_in) := goodIn_app (goodIn_of _ (by decide +kernel)) ggX11_looks_X11_in
set_option maxRecDepth 20000 in
theorem ggX11_looks_X11_greatestOf : GoodIn wsX11_looks wsX11_greatestOf := goodIn_r _ [11, 12, 13, 14, 15, 6, 16, 17, 18, 19, 20, 21, 22, 23, 24, 25, 26, 27, 28, 29, 30, 31, 32, 33, 34, 35, 36, 37, 38, 39, 40, 41, 42, 43, 44, 45, 46, 47, 48, 49, 50, 51, 52, 53, 54, 55, 56, 57, 58, 59, 60, 61, 62, 63, 64, 65, 66, 67, 68, 69, 70, 71, 72, 73, 74, 75, 76, 77, 78, 79, 80, 81, 82, 83, 84, 85, 86, 87, 88, 89, 90, 91, 92, 93, 94, 95] (by decide +kernel) (by decide +kernel)
set_option maxRecDepth 20000 in
theorem gX11_looks_X11_greatestOf : GoodIn wsX11_looks (wsV RX11 199 RX11 yX11_greatestOf wsX11_greatestOf) := goodIn_app (goodIn_of _ (by decide +kernel)) ggX11_looks_X11_greatestOf
theorem dX11_looks_0 : decode cX11_looks 0 = .ok (.iload_n 1, 1) := by decide +kernel
theorem dX11_looks_1 : decode cX11_looks 1 = .ok (.iconst 0, 1) := by decide +kernel
theorem dX11_looks_2 : decode cX11_looks 2 = .ok (.sipush 1000, 3) := by decide +kernel
theorem dX11_looks_5 : decode cX11_looks 5 = .ok (.invokestatic 138, 3) := by decide +kernel
theorem dX11_looks_8 : decode cX11_looks 8 = .ok (.ifCond .eq 12, 3) := by decide +kernel
theorem dX11_looks_11 : decode cX11_looks 11 = .ok (.iload_n 2, 1) := by decide +kernel
theorem dX11_looks_12 : decode cX11_looks 12 = .ok (.iconst 0, 1) := by decide +kernel
theorem dX11_looks_13 : decode cX11_looks 13 = .ok (.iconst 1, 1) := by decide +kernel
theorem dX11_looks_14 : decode cX11_looks 14 = .ok (.invokestatic 138, 3) := by decide +kernel
theorem dX11_looks_17 : decode cX11_looks 17 = .ok (.ifCond .ne 6, 3) := by decide +kernel
theorem dX11_looks_20 : decode cX11_looks 20 = .ok (.bipush (-2), 2) := by decide +kernel
theorem dX11_looks_22 : decode cX11_looks 22 = .ok (.ireturn, 1) := by decide +kernel
theorem dX11_looks_23 : decode cX11_looks 23 = .ok (.iconst 0, 1) := by decide +kernel
theorem dX11_looks_24 : decode cX11_looks 24 = .ok (.istore_n 3, 1) := by decide +kernel
theorem dX11_looks_25 : decode cX11_looks 25 = .ok (.iconst 0, 1) := by decide +kernel
theorem dX11_looks_26 : decode cX11_looks 26 = .ok (.istore 4, 2) := by decide +kernel
theorem dX11_looks_28 : decode cX11_looks 28 = .ok (.iload 4, 2) := by decide +kernel
theorem dX11_looks_30 : decode cX11_looks 30 = .ok (.aload_n 0, 1) := by decide +kernel
theorem dX11_looks_31 : decode cX11_looks 31 = .ok (.getfield 142, 3) := by decide +kernel
theorem dX11_looks_34 : decode cX11_looks 34 = .ok (.if_icmp .ge 43, 3) := by decide +kernel
theorem dX11_looks_37 : decode cX11_looks 37 = .ok (.aload_n 0, 1) := by decide +kernel
theorem dX11_looks_38 : decode cX11_looks 38 = .ok (.getfield 135, 3) := by decide +kernel
theorem dX11_looks_41 : decode cX11_looks 41 = .ok (.iload 4, 2) := by decide +kernel
theorem dX11_looks_43 : decode cX11_looks 43 = .ok (.aload_n 0, 1) := by decide +kernel
theorem dX11_looks_44 : decode cX11_looks 44 = .ok (.iload 4, 2) := by decide +kernel
theorem dX11_looks_46 : decode cX11_looks 46 = .ok (.invokevirtual 199, 3) := by decide +kernel
theorem dX11_looks_49 : decode cX11_looks 49 = .ok (.iastore, 1) := by decide +kernel
theorem dX11_looks_50 : decode cX11_looks 50 = .ok (.iload_n 3, 1) := by decide +kernel
theorem dX11_looks_51 : decode cX11_looks 51 = .ok (.aload_n 0, 1) := by decide +kernel
theorem dX11_looks_52 : decode cX11_looks 52 = .ok (.getfield 135, 3) := by decide +kernel
theorem dX11_looks_55 : decode cX11_looks 55 = .ok (.iload 4, 2) := by decide +kernel
theorem dX11_looks_57 : decode cX11_looks 57 = .ok (.iaload, 1) := by decide +kernel
theorem dX11_looks_58 : decode cX11_looks 58 = .ok (.ifCond .le 10, 3) := by decide +kernel
theorem dX11_looks_61 : decode cX11_looks 61 = .ok (.iconst 1, 1) := by decide +kernel
theorem dX11_looks_62 : decode cX11_looks 62 = .ok (.iload 4, 2) := by decide +kernel
theorem dX11_looks_64 : decode cX11_looks 64 = .ok (.ishl, 1) := by decide +kernel
theorem dX11_looks_65 : decode cX11_looks 65 = .ok (.goto 4, 3) := by decide +kernel
theorem dX11_looks_68 : decode cX11_looks 68 = .ok (.iconst 0, 1) := by decide +kernel
theorem dX11_looks_69 : decode cX11_looks 69 = .ok (.ior, 1) := by decide +kernel
theorem dX11_looks_70 : decode cX11_looks 70 = .ok (.istore_n 3, 1) := by decide +kernel
theorem dX11_looks_71 : decode cX11_looks 71 = .ok (.iinc 4 1, 3) := by decide +kernel
theorem dX11_looks_74 : decode cX11_looks 74 = .ok (.goto (-46), 3) := by decide +kernel
theorem dX11_looks_77 : decode cX11_looks 77 = .ok (.iconst 0, 1) := by decide +kernel
theorem dX11_looks_78 : decode cX11_looks 78 = .ok (.istore 4, 2) := by decide +kernel
theorem dX11_looks_80 : decode cX11_looks 80 = .ok (.iconst 0, 1) := by decide +kernel
theorem dX11_looks_81 : decode cX11_looks 81 = .ok (.istore 5, 2) := by decide +kernel
theorem dX11_looks_83 : decode cX11_looks 83 = .ok (.iconst 0, 1) := by decide +kernel
theorem dX11_looks_84 : decode cX11_looks 84 = .ok (.istore 6, 2) := by decide +kernel
theorem dX11_looks_86 : decode cX11_looks 86 = .ok (.iconst 0, 1) := by decide +kernel
theorem dX11_looks_87 : decode cX11_looks 87 = .ok (.istore 7, 2) := by decide +kernel
theorem dX11_looks_89 : decode cX11_looks 89 = .ok (.iload 7, 2) := by decide +kernel
theorem dX11_looks_91 : decode cX11_looks 91 = .ok (.iconst 1, 1) := by decide +kernel
theorem dX11_looks_92 : decode cX11_looks 92 = .ok (.aload_n 0, 1) := by decide +kernel
theorem dX11_looks_93 : decode cX11_looks 93 = .ok (.getfield 142, 3) := by decide +kernel
theorem dX11_looks_96 : decode cX11_looks 96 = .ok (.ishl, 1) := by decide +kernel
theorem dX11_looks_97 : decode cX11_looks 97 = .ok (.if_icmp .ge 121, 3) := by decide +kernel
theorem dX11_looks_100 : decode cX11_looks 100 = .ok (.iconst 0, 1) := by decide +kernel
theorem dX11_looks_101 : decode cX11_looks 101 = .ok (.istore 8, 2) := by decide +kernel
theorem dX11_looks_103 : decode cX11_looks 103 = .ok (.iconst 0, 1) := by decide +kernel
theorem dX11_looks_104 : decode cX11_looks 104 = .ok (.istore 9, 2) := by decide +kernel
theorem dX11_looks_106 : decode cX11_looks 106 = .ok (.iconst 0, 1) := by decide +kernel
theorem dX11_looks_107 : decode cX11_looks 107 = .ok (.istore 10, 2) := by decide +kernel
theorem dX11_looks_109 : decode cX11_looks 109 = .ok (.iload 10, 2) := by decide +kernel
theorem dX11_looks_111 : decode cX11_looks 111 = .ok (.aload_n 0, 1) := by decide +kernel
theorem dX11_looks_112 : decode cX11_looks 112 = .ok (.getfield 142, 3) := by decide +kernel
theorem dX11_looks_115 : decode cX11_looks 115 = .ok (.if_icmp .ge 49, 3) := by decide +kernel
theorem dX11_looks_118 : decode cX11_looks 118 = .ok (.iload 8, 2) := by decide +kernel
theorem dX11_looks_120 : decode cX11_looks 120 = .ok (.iload 7, 2) := by decide +kernel
theorem dX11_looks_122 : decode cX11_looks 122 = .ok (.iload 10, 2) := by decide +kernel
theorem dX11_looks_124 : decode cX11_looks 124 = .ok (.ishr, 1) := by decide +kernel
theorem dX11_looks_125 : decode cX11_looks 125 = .ok (.iconst 1, 1) := by decide +kernel
theorem dX11_looks_126 : decode cX11_looks 126 = .ok (.iand, 1) := by decide +kernel
theorem dX11_looks_127 : decode cX11_looks 127 = .ok (.aload_n 0, 1) := by decide +kernel
theorem dX11_looks_128 : decode cX11_looks 128 = .ok (.getfield 135, 3) := by decide +kernel
theorem dX11_looks_131 : decode cX11_looks 131 = .ok (.iload 10, 2) := by decide +kernel
theorem dX11_looks_133 : decode cX11_looks 133 = .ok (.iaload, 1) := by decide +kernel
theorem dX11_looks_134 : decode cX11_looks 134 = .ok (.imul, 1) := by decide +kernel
theorem dX11_looks_135 : decode cX11_looks 135 = .ok (.iadd, 1) := by decide +kernel
theorem dX11_looks_136 : decode cX11_looks 136 = .ok (.istore 8, 2) := by decide +kernel
theorem dX11_looks_138 : decode cX11_looks 138 = .ok (.iload 9, 2) := by decide +kernel
theorem dX11_looks_140 : decode cX11_looks 140 = .ok (.iload 7, 2) := by decide +kernel
theorem dX11_looks_142 : decode cX11_looks 142 = .ok (.iload 10, 2) := by decide +kernel
theorem dX11_looks_144 : decode cX11_looks 144 = .ok (.ishr, 1) := by decide +kernel
theorem dX11_looks_145 : decode cX11_looks 145 = .ok (.iconst 1, 1) := by decide +kernel
theorem dX11_looks_146 : decode cX11_looks 146 = .ok (.iand, 1) := by decide +kernel
theorem dX11_looks_147 : decode cX11_looks 147 = .ok (.aload_n 0, 1) := by decide +kernel
theorem dX11_looks_148 : decode cX11_looks 148 = .ok (.getfield 28, 3) := by decide +kernel
theorem dX11_looks_151 : decode cX11_looks 151 = .ok (.iload 10, 2) := by decide +kernel
theorem dX11_looks_153 : decode cX11_looks 153 = .ok (.iaload, 1) := by decide +kernel
theorem dX11_looks_154 : decode cX11_looks 154 = .ok (.imul, 1) := by decide +kernel
theorem dX11_looks_155 : decode cX11_looks 155 = .ok (.iadd, 1) := by decide +kernel
theorem dX11_looks_156 : decode cX11_looks 156 = .ok (.istore 9, 2) := by decide +kernel
theorem dX11_looks_158 : decode cX11_looks 158 = .ok (.iinc 10 1, 3) := by decide +kernel
theorem dX11_looks_161 : decode cX11_looks 161 = .ok (.goto (-52), 3) := by decide +kernel
theorem dX11_looks_164 : decode cX11_looks 164 = .ok (.iload 7, 2) := by decide +kernel
theorem dX11_looks_166 : decode cX11_looks 166 = .ok (.iload_n 3, 1) := by decide +kernel
theorem dX11_looks_167 : decode cX11_looks 167 = .ok (.iconst (-1), 1) := by decide +kernel
theorem dX11_looks_168 : decode cX11_looks 168 = .ok (.ixor, 1) := by decide +kernel
theorem dX11_looks_169 : decode cX11_looks 169 = .ok (.iand, 1) := by decide +kernel
theorem dX11_looks_170 : decode cX11_looks 170 = .ok (.ifCond .ne 42, 3) := by decide +kernel
theorem dX11_looks_173 : decode cX11_looks 173 = .ok (.iload 9, 2) := by decide +kernel
theorem dX11_looks_175 : decode cX11_looks 175 = .ok (.iload_n 1, 1) := by decide +kernel
theorem dX11_looks_176 : decode cX11_looks 176 = .ok (.if_icmp .gt 36, 3) := by decide +kernel
theorem dX11_looks_179 : decode cX11_looks 179 = .ok (.iload 8, 2) := by decide +kernel
theorem dX11_looks_181 : decode cX11_looks 181 = .ok (.iload 5, 2) := by decide +kernel
theorem dX11_looks_183 : decode cX11_looks 183 = .ok (.if_icmp .gt 17, 3) := by decide +kernel
theorem dX11_looks_186 : decode cX11_looks 186 = .ok (.iload 8, 2) := by decide +kernel
theorem dX11_looks_188 : decode cX11_looks 188 = .ok (.iload 5, 2) := by decide +kernel
theorem dX11_looks_190 : decode cX11_looks 190 = .ok (.if_icmp .ne 22, 3) := by decide +kernel
theorem dX11_looks_193 : decode cX11_looks 193 = .ok (.iload 9, 2) := by decide +kernel
theorem dX11_looks_195 : decode cX11_looks 195 = .ok (.iload 6, 2) := by decide +kernel
theorem dX11_looks_197 : decode cX11_looks 197 = .ok (.if_icmp .ge 15, 3) := by decide +kernel
theorem dX11_looks_200 : decode cX11_looks 200 = .ok (.iload 7, 2) := by decide +kernel
theorem dX11_looks_202 : decode cX11_looks 202 = .ok (.istore 4, 2) := by decide +kernel
theorem dX11_looks_204 : decode cX11_looks 204 = .ok (.iload 8, 2) := by decide +kernel
theorem dX11_looks_206 : decode cX11_looks 206 = .ok (.istore 5, 2) := by decide +kernel
theorem dX11_looks_208 : decode cX11_looks 208 = .ok (.iload 9, 2) := by decide +kernel
theorem dX11_looks_210 : decode cX11_looks 210 = .ok (.istore 6, 2) := by decide +kernel
theorem dX11_looks_212 : decode cX11_looks 212 = .ok (.iinc 7 1, 3) := by decide +kernel
theorem dX11_looks_215 : decode cX11_looks 215 = .ok (.goto (-126), 3) := by decide +kernel
theorem dX11_looks_218 : decode cX11_looks 218 = .ok (.iload_n 2, 1) := by decide +kernel
theorem dX11_looks_219 : decode cX11_looks 219 = .ok (.ifCond .ne 8, 3) := by decide +kernel
theorem dX11_looks_222 : decode cX11_looks 222 = .ok (.iload 4, 2) := by decide +kernel
theorem dX11_looks_224 : decode cX11_looks 224 = .ok (.goto 5, 3) := by decide +kernel
theorem dX11_looks_227 : decode cX11_looks 227 = .ok (.iload 5, 2) := by decide +kernel
theorem dX11_looks_229 : decode cX11_looks 229 = .ok (.ireturn, 1) := by decide +kernel
theorem dX11_told_0 : decode cX11_told 0 = .ok (.iload_n 1, 1) := by decide +kernel
theorem dX11_told_1 : decode cX11_told 1 = .ok (.tableswitch 69 0 5 #[39, 44, 49, 54, 59, 64], 39) := by decide +kernel
theorem dX11_told_40 : decode cX11_told 40 = .ok (.aload_n 0, 1) := by decide +kernel
theorem dX11_told_41 : decode cX11_told 41 = .ok (.getfield 142, 3) := by decide +kernel
theorem dX11_told_44 : decode cX11_told 44 = .ok (.ireturn, 1) := by decide +kernel
theorem dX11_told_45 : decode cX11_told 45 = .ok (.aload_n 0, 1) := by decide +kernel
theorem dX11_told_46 : decode cX11_told 46 = .ok (.getfield 205, 3) := by decide +kernel
theorem dX11_told_49 : decode cX11_told 49 = .ok (.ireturn, 1) := by decide +kernel
theorem dX11_told_50 : decode cX11_told 50 = .ok (.aload_n 0, 1) := by decide +kernel
theorem dX11_told_51 : decode cX11_told 51 = .ok (.getfield 225, 3) := by decide +kernel
theorem dX11_told_54 : decode cX11_told 54 = .ok (.ireturn, 1) := by decide +kernel
theorem dX11_told_55 : decode cX11_told 55 = .ok (.aload_n 0, 1) := by decide +kernel
theorem dX11_told_56 : decode cX11_told 56 = .ok (.getfield 244, 3) := by decide +kernel
theorem dX11_told_59 : decode cX11_told 59 = .ok (.ireturn, 1) := by decide +kernel
theorem dX11_told_60 : decode cX11_told 60 = .ok (.aload_n 0, 1) := by decide +kernel
theorem dX11_told_61 : decode cX11_told 61 = .ok (.getfield 268, 3) := by decide +kernel
theorem dX11_told_64 : decode cX11_told 64 = .ok (.ireturn, 1) := by decide +kernel
theorem dX11_told_65 : decode cX11_told 65 = .ok (.aload_n 0, 1) := by decide +kernel
theorem dX11_told_66 : decode cX11_told 66 = .ok (.getfield 298, 3) := by decide +kernel
theorem dX11_told_69 : decode cX11_told 69 = .ok (.ireturn, 1) := by decide +kernel
theorem dX11_told_70 : decode cX11_told 70 = .ok (.bipush (-2), 2) := by decide +kernel
theorem dX11_told_72 : decode cX11_told 72 = .ok (.ireturn, 1) := by decide +kernel
theorem dJ6_bitCount_0f7a4_0 : decode cJ6_bitCount_0f7a4 0 = .ok (.iload_n 0, 1) := by decide +kernel
theorem dJ6_bitCount_0f7a4_1 : decode cJ6_bitCount_0f7a4 1 = .ok (.iload_n 0, 1) := by decide +kernel
theorem dJ6_bitCount_0f7a4_2 : decode cJ6_bitCount_0f7a4 2 = .ok (.iconst 1, 1) := by decide +kernel
theorem dJ6_bitCount_0f7a4_3 : decode cJ6_bitCount_0f7a4 3 = .ok (.iushr, 1) := by decide +kernel
theorem dJ6_bitCount_0f7a4_4 : decode cJ6_bitCount_0f7a4 4 = .ok (.ldc_w 265, 3) := by decide +kernel
theorem dJ6_bitCount_0f7a4_7 : decode cJ6_bitCount_0f7a4 7 = .ok (.iand, 1) := by decide +kernel
theorem dJ6_bitCount_0f7a4_8 : decode cJ6_bitCount_0f7a4 8 = .ok (.isub, 1) := by decide +kernel
theorem dJ6_bitCount_0f7a4_9 : decode cJ6_bitCount_0f7a4 9 = .ok (.istore_n 0, 1) := by decide +kernel
theorem dJ6_bitCount_0f7a4_10 : decode cJ6_bitCount_0f7a4 10 = .ok (.iload_n 0, 1) := by decide +kernel
theorem dJ6_bitCount_0f7a4_11 : decode cJ6_bitCount_0f7a4 11 = .ok (.ldc_w 266, 3) := by decide +kernel
theorem dJ6_bitCount_0f7a4_14 : decode cJ6_bitCount_0f7a4 14 = .ok (.iand, 1) := by decide +kernel
theorem dJ6_bitCount_0f7a4_15 : decode cJ6_bitCount_0f7a4 15 = .ok (.iload_n 0, 1) := by decide +kernel
theorem dJ6_bitCount_0f7a4_16 : decode cJ6_bitCount_0f7a4 16 = .ok (.iconst 2, 1) := by decide +kernel
theorem dJ6_bitCount_0f7a4_17 : decode cJ6_bitCount_0f7a4 17 = .ok (.iushr, 1) := by decide +kernel
theorem dJ6_bitCount_0f7a4_18 : decode cJ6_bitCount_0f7a4 18 = .ok (.ldc_w 266, 3) := by decide +kernel
theorem dJ6_bitCount_0f7a4_21 : decode cJ6_bitCount_0f7a4 21 = .ok (.iand, 1) := by decide +kernel
theorem dJ6_bitCount_0f7a4_22 : decode cJ6_bitCount_0f7a4 22 = .ok (.iadd, 1) := by decide +kernel
theorem dJ6_bitCount_0f7a4_23 : decode cJ6_bitCount_0f7a4 23 = .ok (.istore_n 0, 1) := by decide +kernel
theorem dJ6_bitCount_0f7a4_24 : decode cJ6_bitCount_0f7a4 24 = .ok (.iload_n 0, 1) := by decide +kernel
theorem dJ6_bitCount_0f7a4_25 : decode cJ6_bitCount_0f7a4 25 = .ok (.iload_n 0, 1) := by decide +kernel
theorem dJ6_bitCount_0f7a4_26 : decode cJ6_bitCount_0f7a4 26 = .ok (.iconst 4, 1) := by decide +kernel
theorem dJ6_bitCount_0f7a4_27 : decode cJ6_bitCount_0f7a4 27 = .ok (.iushr, 1) := by decide +kernel
theorem dJ6_bitCount_0f7a4_28 : decode cJ6_bitCount_0f7a4 28 = .ok (.iadd, 1) := by decide +kernel
theorem dJ6_bitCount_0f7a4_29 : decode cJ6_bitCount_0f7a4 29 = .ok (.ldc_w 267, 3) := by decide +kernel
theorem dJ6_bitCount_0f7a4_32 : decode cJ6_bitCount_0f7a4 32 = .ok (.iand, 1) := by decide +kernel
theorem dJ6_bitCount_0f7a4_33 : decode cJ6_bitCount_0f7a4 33 = .ok (.istore_n 0, 1) := by decide +kernel
theorem dJ6_bitCount_0f7a4_34 : decode cJ6_bitCount_0f7a4 34 = .ok (.iload_n 0, 1) := by decide +kernel
theorem dJ6_bitCount_0f7a4_35 : decode cJ6_bitCount_0f7a4 35 = .ok (.iload_n 0, 1) := by decide +kernel
theorem dJ6_bitCount_0f7a4_36 : decode cJ6_bitCount_0f7a4 36 = .ok (.bipush 8, 2) := by decide +kernel
theorem dJ6_bitCount_0f7a4_38 : decode cJ6_bitCount_0f7a4 38 = .ok (.iushr, 1) := by decide +kernel
theorem dJ6_bitCount_0f7a4_39 : decode cJ6_bitCount_0f7a4 39 = .ok (.iadd, 1) := by decide +kernel
theorem dJ6_bitCount_0f7a4_40 : decode cJ6_bitCount_0f7a4 40 = .ok (.istore_n 0, 1) := by decide +kernel
theorem dJ6_bitCount_0f7a4_41 : decode cJ6_bitCount_0f7a4 41 = .ok (.iload_n 0, 1) := by decide +kernel
theorem dJ6_bitCount_0f7a4_42 : decode cJ6_bitCount_0f7a4 42 = .ok (.iload_n 0, 1) := by decide +kernel
theorem dJ6_bitCount_0f7a4_43 : decode cJ6_bitCount_0f7a4 43 = .ok (.bipush 16, 2) := by decide +kernel
theorem dJ6_bitCount_0f7a4_45 : decode cJ6_bitCount_0f7a4 45 = .ok (.iushr, 1) := by decide +kernel
theorem dJ6_bitCount_0f7a4_46 : decode cJ6_bitCount_0f7a4 46 = .ok (.iadd, 1) := by decide +kernel
theorem dJ6_bitCount_0f7a4_47 : decode cJ6_bitCount_0f7a4 47 = .ok (.istore_n 0, 1) := by decide +kernel
theorem dJ6_bitCount_0f7a4_48 : decode cJ6_bitCount_0f7a4 48 = .ok (.iload_n 0, 1) := by decide +kernel
theorem dJ6_bitCount_0f7a4_49 : decode cJ6_bitCount_0f7a4 49 = .ok (.bipush 63, 2) := by decide +kernel
theorem dJ6_bitCount_0f7a4_51 : decode cJ6_bitCount_0f7a4 51 = .ok (.iand, 1) := by decide +kernel
theorem dJ6_bitCount_0f7a4_52 : decode cJ6_bitCount_0f7a4 52 = .ok (.ireturn, 1) := by decide +kernel
theorem dJ9_max_7cf53_0 : decode cJ9_max_7cf53 0 = .ok (.iload_n 0, 1) := by decide +kernel
theorem dJ9_max_7cf53_1 : decode cJ9_max_7cf53 1 = .ok (.iload_n 1, 1) := by decide +kernel
theorem dJ9_max_7cf53_2 : decode cJ9_max_7cf53 2 = .ok (.if_icmp .lt 7, 3) := by decide +kernel
theorem dJ9_max_7cf53_5 : decode cJ9_max_7cf53 5 = .ok (.iload_n 0, 1) := by decide +kernel
theorem dJ9_max_7cf53_6 : decode cJ9_max_7cf53 6 = .ok (.goto 4, 3) := by decide +kernel
theorem dJ9_max_7cf53_9 : decode cJ9_max_7cf53 9 = .ok (.iload_n 1, 1) := by decide +kernel
theorem dJ9_max_7cf53_10 : decode cJ9_max_7cf53 10 = .ok (.ireturn, 1) := by decide +kernel
theorem dJ9_min_7cf53_0 : decode cJ9_min_7cf53 0 = .ok (.iload_n 0, 1) := by decide +kernel
theorem dJ9_min_7cf53_1 : decode cJ9_min_7cf53 1 = .ok (.iload_n 1, 1) := by decide +kernel
theorem dJ9_min_7cf53_2 : decode cJ9_min_7cf53 2 = .ok (.if_icmp .gt 7, 3) := by decide +kernel
theorem dJ9_min_7cf53_5 : decode cJ9_min_7cf53 5 = .ok (.iload_n 0, 1) := by decide +kernel
theorem dJ9_min_7cf53_6 : decode cJ9_min_7cf53 6 = .ok (.goto 4, 3) := by decide +kernel
theorem dJ9_min_7cf53_9 : decode cJ9_min_7cf53 9 = .ok (.iload_n 1, 1) := by decide +kernel
theorem dJ9_min_7cf53_10 : decode cJ9_min_7cf53 10 = .ok (.ireturn, 1) := by decide +kernel
theorem dJ7_fill_d0a16_0 : decode cJ7_fill_d0a16 0 = .ok (.iconst 0, 1) := by decide +kernel
theorem dJ7_fill_d0a16_1 : decode cJ7_fill_d0a16 1 = .ok (.istore_n 3, 1) := by decide +kernel
theorem dJ7_fill_d0a16_2 : decode cJ7_fill_d0a16 2 = .ok (.aload_n 0, 1) := by decide +kernel
theorem dJ7_fill_d0a16_3 : decode cJ7_fill_d0a16 3 = .ok (.arraylength, 1) := by decide +kernel
theorem dJ7_fill_d0a16_4 : decode cJ7_fill_d0a16 4 = .ok (.istore 4, 2) := by decide +kernel
theorem dJ7_fill_d0a16_6 : decode cJ7_fill_d0a16 6 = .ok (.iload_n 3, 1) := by decide +kernel
theorem dJ7_fill_d0a16_7 : decode cJ7_fill_d0a16 7 = .ok (.iload 4, 2) := by decide +kernel
theorem dJ7_fill_d0a16_9 : decode cJ7_fill_d0a16 9 = .ok (.if_icmp .ge 13, 3) := by decide +kernel
theorem dJ7_fill_d0a16_12 : decode cJ7_fill_d0a16 12 = .ok (.aload_n 0, 1) := by decide +kernel
theorem dJ7_fill_d0a16_13 : decode cJ7_fill_d0a16 13 = .ok (.iload_n 3, 1) := by decide +kernel
theorem dJ7_fill_d0a16_14 : decode cJ7_fill_d0a16 14 = .ok (.lload_n 1, 1) := by decide +kernel
theorem dJ7_fill_d0a16_15 : decode cJ7_fill_d0a16 15 = .ok (.lastore, 1) := by decide +kernel
theorem dJ7_fill_d0a16_16 : decode cJ7_fill_d0a16 16 = .ok (.iinc 3 1, 3) := by decide +kernel
theorem dJ7_fill_d0a16_19 : decode cJ7_fill_d0a16 19 = .ok (.goto (-13), 3) := by decide +kernel
theorem dJ7_fill_d0a16_22 : decode cJ7_fill_d0a16 22 = .ok (.return_, 1) := by decide +kernel
theorem dJ7_fill_53178_0 : decode cJ7_fill_53178 0 = .ok (.iconst 0, 1) := by decide +kernel
theorem dJ7_fill_53178_1 : decode cJ7_fill_53178 1 = .ok (.istore_n 2, 1) := by decide +kernel
theorem dJ7_fill_53178_2 : decode cJ7_fill_53178 2 = .ok (.aload_n 0, 1) := by decide +kernel
theorem dJ7_fill_53178_3 : decode cJ7_fill_53178 3 = .ok (.arraylength, 1) := by decide +kernel
theorem dJ7_fill_53178_4 : decode cJ7_fill_53178 4 = .ok (.istore_n 3, 1) := by decide +kernel
theorem dJ7_fill_53178_5 : decode cJ7_fill_53178 5 = .ok (.iload_n 2, 1) := by decide +kernel
theorem dJ7_fill_53178_6 : decode cJ7_fill_53178 6 = .ok (.iload_n 3, 1) := by decide +kernel
theorem dJ7_fill_53178_7 : decode cJ7_fill_53178 7 = .ok (.if_icmp .ge 13, 3) := by decide +kernel
theorem dJ7_fill_53178_10 : decode cJ7_fill_53178 10 = .ok (.aload_n 0, 1) := by decide +kernel
theorem dJ7_fill_53178_11 : decode cJ7_fill_53178 11 = .ok (.iload_n 2, 1) := by decide +kernel
theorem dJ7_fill_53178_12 : decode cJ7_fill_53178 12 = .ok (.iload_n 1, 1) := by decide +kernel
theorem dJ7_fill_53178_13 : decode cJ7_fill_53178 13 = .ok (.iastore, 1) := by decide +kernel
theorem dJ7_fill_53178_14 : decode cJ7_fill_53178 14 = .ok (.iinc 2 1, 3) := by decide +kernel
theorem dJ7_fill_53178_17 : decode cJ7_fill_53178 17 = .ok (.goto (-12), 3) := by decide +kernel
theorem dJ7_fill_53178_20 : decode cJ7_fill_53178 20 = .ok (.return_, 1) := by decide +kernel
