set_option maxRecDepth 20000 in
theorem ggX11_layTable_X11_plays : GoodIn wsX11_layTable wsX11_plays := goodIn_r _ [7, 8, 9, 10, 29, 30, 31, 32, 33, 34, 35, 36, 37, 38, 39, 40, 41, 42, 43, 44, 45, 46, 47, 48, 49, 50, 51, 52, 53, 54, 55, 56, 57, 58, 59, 60, 61, 62, 63, 64, 65, 66, 67, 68, 69, 70, 71, 72, 73, 74, 75, 76, 77, 78, 79, 80, 81, 82] (by decide +kernel) (by decide +kernel)
set_option maxRecDepth 20000 in
theorem gX11_layTable_X11_plays : GoodIn wsX11_layTable (wsV RX11 280 RX11 yX11_plays wsX11_plays) := goodIn_app (goodIn_of _ (by decide +kernel)) ggX11_layTable_X11_plays
set_option maxRecDepth 20000 in
theorem ggX11_layTable_X11_pointsOf : GoodIn wsX11_layTable wsX11_pointsOf := goodIn_r _ [14, 15, 8, 9, 10, 16, 17, 18, 6, 19, 20, 21, 22, 23, 24, 29, 30, 31, 32, 33, 34, 35, 36, 37, 38, 39, 40, 41, 42, 43, 44, 45, 46, 47, 48, 49, 50, 51, 52, 53, 54, 55, 56, 57, 58, 59, 60, 61, 62, 63, 64, 65, 66, 67, 68, 69, 70, 71, 72, 73, 74, 75, 76, 77, 78, 79, 80, 81, 82] (by decide +kernel) (by decide +kernel)
set_option maxRecDepth 20000 in
theorem gX11_layTable_X11_pointsOf : GoodIn wsX11_layTable (wsV RX11 283 RX11 yX11_pointsOf wsX11_pointsOf) := goodIn_app (goodIn_of _ (by decide +kernel)) ggX11_layTable_X11_pointsOf
set_option maxRecDepth 20000 in
theorem ggX11_layTable_X11_offOf : GoodIn wsX11_layTable wsX11_offOf := goodIn_r _ [28, 8, 9, 10, 20, 21, 22, 6, 23, 24, 29, 30, 31, 32, 33, 34, 35, 36, 37, 38, 39, 40, 41, 42, 43, 44, 45, 46, 47, 48, 49, 50, 51, 52, 53, 54, 55, 56, 57, 58, 59, 60, 61, 62, 63, 64, 65, 66, 67, 68, 69, 70, 71, 72, 73, 74, 75, 76, 77, 78, 79, 80, 81, 82] (by decide +kernel) (by decide +kernel)
set_option maxRecDepth 20000 in
theorem gX11_layTable_X11_offOf : GoodIn wsX11_layTable (wsV RX11 286 RX11 yX11_offOf wsX11_offOf) := goodIn_app (goodIn_of _ (by decide +kernel)) ggX11_layTable_X11_offOf
theorem dX11_layTable_0 : decode cX11_layTable 0 = .ok (.aload_n 0, 1) := by decide +kernel
theorem dX11_layTable_1 : decode cX11_layTable 1 = .ok (.iconst 0, 1) := by decide +kernel
theorem dX11_layTable_2 : decode cX11_layTable 2 = .ok (.putfield 277, 3) := by decide +kernel
theorem dX11_layTable_5 : decode cX11_layTable 5 = .ok (.iconst 0, 1) := by decide +kernel
theorem dX11_layTable_6 : decode cX11_layTable 6 = .ok (.istore_n 3, 1) := by decide +kernel
theorem dX11_layTable_7 : decode cX11_layTable 7 = .ok (.iload_n 3, 1) := by decide +kernel
theorem dX11_layTable_8 : decode cX11_layTable 8 = .ok (.bipush 8, 2) := by decide +kernel
theorem dX11_layTable_10 : decode cX11_layTable 10 = .ok (.if_icmp .ge 158, 3) := by decide +kernel
theorem dX11_layTable_13 : decode cX11_layTable 13 = .ok (.aload_n 0, 1) := by decide +kernel
theorem dX11_layTable_14 : decode cX11_layTable 14 = .ok (.iload_n 3, 1) := by decide +kernel
theorem dX11_layTable_15 : decode cX11_layTable 15 = .ok (.invokevirtual 280, 3) := by decide +kernel
theorem dX11_layTable_18 : decode cX11_layTable 18 = .ok (.ifCond .eq 144, 3) := by decide +kernel
theorem dX11_layTable_21 : decode cX11_layTable 21 = .ok (.aload_n 0, 1) := by decide +kernel
theorem dX11_layTable_22 : decode cX11_layTable 22 = .ok (.getfield 277, 3) := by decide +kernel
theorem dX11_layTable_25 : decode cX11_layTable 25 = .ok (.istore 4, 2) := by decide +kernel
theorem dX11_layTable_27 : decode cX11_layTable 27 = .ok (.iconst 1, 1) := by decide +kernel
theorem dX11_layTable_28 : decode cX11_layTable 28 = .ok (.istore 5, 2) := by decide +kernel
theorem dX11_layTable_30 : decode cX11_layTable 30 = .ok (.iload 4, 2) := by decide +kernel
theorem dX11_layTable_32 : decode cX11_layTable 32 = .ok (.ifCond .le 112, 3) := by decide +kernel
theorem dX11_layTable_35 : decode cX11_layTable 35 = .ok (.iload 5, 2) := by decide +kernel
theorem dX11_layTable_37 : decode cX11_layTable 37 = .ok (.ifCond .eq 107, 3) := by decide +kernel
theorem dX11_layTable_40 : decode cX11_layTable 40 = .ok (.aload_n 0, 1) := by decide +kernel
theorem dX11_layTable_41 : decode cX11_layTable 41 = .ok (.getfield 132, 3) := by decide +kernel
theorem dX11_layTable_44 : decode cX11_layTable 44 = .ok (.iload 4, 2) := by decide +kernel
theorem dX11_layTable_46 : decode cX11_layTable 46 = .ok (.iconst 1, 1) := by decide +kernel
theorem dX11_layTable_47 : decode cX11_layTable 47 = .ok (.isub, 1) := by decide +kernel
theorem dX11_layTable_48 : decode cX11_layTable 48 = .ok (.iaload, 1) := by decide +kernel
theorem dX11_layTable_49 : decode cX11_layTable 49 = .ok (.istore 6, 2) := by decide +kernel
theorem dX11_layTable_51 : decode cX11_layTable 51 = .ok (.aload_n 0, 1) := by decide +kernel
theorem dX11_layTable_52 : decode cX11_layTable 52 = .ok (.iload_n 3, 1) := by decide +kernel
theorem dX11_layTable_53 : decode cX11_layTable 53 = .ok (.invokevirtual 283, 3) := by decide +kernel
theorem dX11_layTable_56 : decode cX11_layTable 56 = .ok (.iload_n 3, 1) := by decide +kernel
theorem dX11_layTable_57 : decode cX11_layTable 57 = .ok (.iload_n 1, 1) := by decide +kernel
theorem dX11_layTable_58 : decode cX11_layTable 58 = .ok (.if_icmp .ne 7, 3) := by decide +kernel
theorem dX11_layTable_61 : decode cX11_layTable 61 = .ok (.iload_n 2, 1) := by decide +kernel
theorem dX11_layTable_62 : decode cX11_layTable 62 = .ok (.goto 4, 3) := by decide +kernel
theorem dX11_layTable_65 : decode cX11_layTable 65 = .ok (.iconst 0, 1) := by decide +kernel
theorem dX11_layTable_66 : decode cX11_layTable 66 = .ok (.isub, 1) := by decide +kernel
theorem dX11_layTable_67 : decode cX11_layTable 67 = .ok (.istore 7, 2) := by decide +kernel
theorem dX11_layTable_69 : decode cX11_layTable 69 = .ok (.aload_n 0, 1) := by decide +kernel
theorem dX11_layTable_70 : decode cX11_layTable 70 = .ok (.iload 6, 2) := by decide +kernel
theorem dX11_layTable_72 : decode cX11_layTable 72 = .ok (.invokevirtual 283, 3) := by decide +kernel
theorem dX11_layTable_75 : decode cX11_layTable 75 = .ok (.iload 6, 2) := by decide +kernel
theorem dX11_layTable_77 : decode cX11_layTable 77 = .ok (.iload_n 1, 1) := by decide +kernel
theorem dX11_layTable_78 : decode cX11_layTable 78 = .ok (.if_icmp .ne 7, 3) := by decide +kernel
theorem dX11_layTable_81 : decode cX11_layTable 81 = .ok (.iload_n 2, 1) := by decide +kernel
theorem dX11_layTable_82 : decode cX11_layTable 82 = .ok (.goto 4, 3) := by decide +kernel
theorem dX11_layTable_85 : decode cX11_layTable 85 = .ok (.iconst 0, 1) := by decide +kernel
theorem dX11_layTable_86 : decode cX11_layTable 86 = .ok (.isub, 1) := by decide +kernel
theorem dX11_layTable_87 : decode cX11_layTable 87 = .ok (.istore 8, 2) := by decide +kernel
theorem dX11_layTable_89 : decode cX11_layTable 89 = .ok (.iload 7, 2) := by decide +kernel
theorem dX11_layTable_91 : decode cX11_layTable 91 = .ok (.iload 8, 2) := by decide +kernel
theorem dX11_layTable_93 : decode cX11_layTable 93 = .ok (.if_icmp .gt 24, 3) := by decide +kernel
theorem dX11_layTable_96 : decode cX11_layTable 96 = .ok (.iload 7, 2) := by decide +kernel
theorem dX11_layTable_98 : decode cX11_layTable 98 = .ok (.iload 8, 2) := by decide +kernel
theorem dX11_layTable_100 : decode cX11_layTable 100 = .ok (.if_icmp .ne 21, 3) := by decide +kernel
theorem dX11_layTable_103 : decode cX11_layTable 103 = .ok (.aload_n 0, 1) := by decide +kernel
theorem dX11_layTable_104 : decode cX11_layTable 104 = .ok (.iload_n 3, 1) := by decide +kernel
theorem dX11_layTable_105 : decode cX11_layTable 105 = .ok (.invokevirtual 286, 3) := by decide +kernel
theorem dX11_layTable_108 : decode cX11_layTable 108 = .ok (.aload_n 0, 1) := by decide +kernel
theorem dX11_layTable_109 : decode cX11_layTable 109 = .ok (.iload 6, 2) := by decide +kernel
theorem dX11_layTable_111 : decode cX11_layTable 111 = .ok (.invokevirtual 286, 3) := by decide +kernel
theorem dX11_layTable_114 : decode cX11_layTable 114 = .ok (.if_icmp .le 7, 3) := by decide +kernel
theorem dX11_layTable_117 : decode cX11_layTable 117 = .ok (.iconst 1, 1) := by decide +kernel
theorem dX11_layTable_118 : decode cX11_layTable 118 = .ok (.goto 4, 3) := by decide +kernel
theorem dX11_layTable_121 : decode cX11_layTable 121 = .ok (.iconst 0, 1) := by decide +kernel
theorem dX11_layTable_122 : decode cX11_layTable 122 = .ok (.istore 5, 2) := by decide +kernel
theorem dX11_layTable_124 : decode cX11_layTable 124 = .ok (.iload 5, 2) := by decide +kernel
theorem dX11_layTable_126 : decode cX11_layTable 126 = .ok (.ifCond .eq 15, 3) := by decide +kernel
theorem dX11_layTable_129 : decode cX11_layTable 129 = .ok (.aload_n 0, 1) := by decide +kernel
theorem dX11_layTable_130 : decode cX11_layTable 130 = .ok (.getfield 132, 3) := by decide +kernel
theorem dX11_layTable_133 : decode cX11_layTable 133 = .ok (.iload 4, 2) := by decide +kernel
theorem dX11_layTable_135 : decode cX11_layTable 135 = .ok (.iload 6, 2) := by decide +kernel
theorem dX11_layTable_137 : decode cX11_layTable 137 = .ok (.iastore, 1) := by decide +kernel
theorem dX11_layTable_138 : decode cX11_layTable 138 = .ok (.iinc 4 (-1), 3) := by decide +kernel
theorem dX11_layTable_141 : decode cX11_layTable 141 = .ok (.goto (-111), 3) := by decide +kernel
theorem dX11_layTable_144 : decode cX11_layTable 144 = .ok (.aload_n 0, 1) := by decide +kernel
theorem dX11_layTable_145 : decode cX11_layTable 145 = .ok (.getfield 132, 3) := by decide +kernel
theorem dX11_layTable_148 : decode cX11_layTable 148 = .ok (.iload 4, 2) := by decide +kernel
theorem dX11_layTable_150 : decode cX11_layTable 150 = .ok (.iload_n 3, 1) := by decide +kernel
theorem dX11_layTable_151 : decode cX11_layTable 151 = .ok (.iastore, 1) := by decide +kernel
theorem dX11_layTable_152 : decode cX11_layTable 152 = .ok (.aload_n 0, 1) := by decide +kernel
theorem dX11_layTable_153 : decode cX11_layTable 153 = .ok (.dup, 1) := by decide +kernel
theorem dX11_layTable_154 : decode cX11_layTable 154 = .ok (.getfield 277, 3) := by decide +kernel
theorem dX11_layTable_157 : decode cX11_layTable 157 = .ok (.iconst 1, 1) := by decide +kernel
theorem dX11_layTable_158 : decode cX11_layTable 158 = .ok (.iadd, 1) := by decide +kernel
theorem dX11_layTable_159 : decode cX11_layTable 159 = .ok (.putfield 277, 3) := by decide +kernel
theorem dX11_layTable_162 : decode cX11_layTable 162 = .ok (.iinc 3 1, 3) := by decide +kernel
theorem dX11_layTable_165 : decode cX11_layTable 165 = .ok (.goto (-158), 3) := by decide +kernel
theorem dX11_layTable_168 : decode cX11_layTable 168 = .ok (.return_, 1) := by decide +kernel
set_option maxRecDepth 20000 in
theorem ggX11_isDown_X11_layTable : GoodIn wsX11_isDown wsX11_layTable := goodIn_r _ [8, 1, 2, 9, 10, 11, 7, 12, 13, 14, 15, 16, 17, 18, 19, 20, 21, 22, 23, 24, 25, 26, 27, 28, 29, 30, 31, 32, 33, 34, 35, 36, 37, 38, 39, 40, 41, 42, 43, 44, 45, 46, 47, 48, 49, 50, 51, 52, 53, 54, 55, 56, 57, 58, 59, 60, 61, 62, 63, 64, 65, 66, 67, 68, 69, 70, 71, 72, 73, 74, 75, 76, 77, 78, 79, 80, 81, 82, 83, 84, 85, 86, 87] (by decide +kernel) (by decide +kernel)
set_option maxRecDepth 20000 in
theorem gX11_isDown_X11_layTable : GoodIn wsX11_isDown (wsV RX11 289 RX11 yX11_layTable wsX11_layTable) := goodIn_app (goodIn_of _ (by decide +kernel)) ggX11_isDown_X11_layTable
theorem dX11_isDown_0 : decode cX11_isDown 0 = .ok (.aload_n 0, 1) := by decide +kernel
theorem dX11_isDown_1 : decode cX11_isDown 1 = .ok (.iload_n 1, 1) := by decide +kernel
theorem dX11_isDown_2 : decode cX11_isDown 2 = .ok (.iload_n 2, 1) := by decide +kernel
theorem dX11_isDown_3 : decode cX11_isDown 3 = .ok (.invokevirtual 289, 3) := by decide +kernel
theorem dX11_isDown_6 : decode cX11_isDown 6 = .ok (.iconst 0, 1) := by decide +kernel
theorem dX11_isDown_7 : decode cX11_isDown 7 = .ok (.istore_n 3, 1) := by decide +kernel
theorem dX11_isDown_8 : decode cX11_isDown 8 = .ok (.iconst 0, 1) := by decide +kernel
theorem dX11_isDown_9 : decode cX11_isDown 9 = .ok (.istore 4, 2) := by decide +kernel
theorem dX11_isDown_11 : decode cX11_isDown 11 = .ok (.iload 4, 2) := by decide +kernel
theorem dX11_isDown_13 : decode cX11_isDown 13 = .ok (.aload_n 0, 1) := by decide +kernel
theorem dX11_isDown_14 : decode cX11_isDown 14 = .ok (.getfield 277, 3) := by decide +kernel
theorem dX11_isDown_17 : decode cX11_isDown 17 = .ok (.if_icmp .ge 46, 3) := by decide +kernel
theorem dX11_isDown_20 : decode cX11_isDown 20 = .ok (.iload_n 3, 1) := by decide +kernel
theorem dX11_isDown_21 : decode cX11_isDown 21 = .ok (.ifCond .ne 30, 3) := by decide +kernel
theorem dX11_isDown_24 : decode cX11_isDown 24 = .ok (.aload_n 0, 1) := by decide +kernel
theorem dX11_isDown_25 : decode cX11_isDown 25 = .ok (.getfield 132, 3) := by decide +kernel
theorem dX11_isDown_28 : decode cX11_isDown 28 = .ok (.iload 4, 2) := by decide +kernel
theorem dX11_isDown_30 : decode cX11_isDown 30 = .ok (.iaload, 1) := by decide +kernel
theorem dX11_isDown_31 : decode cX11_isDown 31 = .ok (.iload_n 1, 1) := by decide +kernel
theorem dX11_isDown_32 : decode cX11_isDown 32 = .ok (.if_icmp .ne 23, 3) := by decide +kernel
theorem dX11_isDown_35 : decode cX11_isDown 35 = .ok (.iload 4, 2) := by decide +kernel
theorem dX11_isDown_37 : decode cX11_isDown 37 = .ok (.aload_n 0, 1) := by decide +kernel
theorem dX11_isDown_38 : decode cX11_isDown 38 = .ok (.getfield 277, 3) := by decide +kernel
theorem dX11_isDown_41 : decode cX11_isDown 41 = .ok (.aload_n 0, 1) := by decide +kernel
theorem dX11_isDown_42 : decode cX11_isDown 42 = .ok (.getfield 37, 3) := by decide +kernel
theorem dX11_isDown_45 : decode cX11_isDown 45 = .ok (.iconst 4, 1) := by decide +kernel
theorem dX11_isDown_46 : decode cX11_isDown 46 = .ok (.iaload, 1) := by decide +kernel
theorem dX11_isDown_47 : decode cX11_isDown 47 = .ok (.isub, 1) := by decide +kernel
theorem dX11_isDown_48 : decode cX11_isDown 48 = .ok (.if_icmp .lt 7, 3) := by decide +kernel
theorem dX11_isDown_51 : decode cX11_isDown 51 = .ok (.iconst 1, 1) := by decide +kernel
theorem dX11_isDown_52 : decode cX11_isDown 52 = .ok (.goto 4, 3) := by decide +kernel
theorem dX11_isDown_55 : decode cX11_isDown 55 = .ok (.iconst 0, 1) := by decide +kernel
theorem dX11_isDown_56 : decode cX11_isDown 56 = .ok (.istore_n 3, 1) := by decide +kernel
theorem dX11_isDown_57 : decode cX11_isDown 57 = .ok (.iinc 4 1, 3) := by decide +kernel
theorem dX11_isDown_60 : decode cX11_isDown 60 = .ok (.goto (-49), 3) := by decide +kernel
theorem dX11_isDown_63 : decode cX11_isDown 63 = .ok (.iload_n 3, 1) := by decide +kernel
theorem dX11_isDown_64 : decode cX11_isDown 64 = .ok (.ireturn, 1) := by decide +kernel
set_option maxRecDepth 20000 in
theorem ggX11_table_X11_layTable : GoodIn wsX11_table wsX11_layTable := goodIn_r _ [7, 1, 2, 8, 9, 10, 6, 11, 12, 13, 14, 15, 16, 17, 18, 19, 20, 21, 22, 23, 24, 25, 26, 27, 28, 29, 30, 31, 32, 36, 37, 38, 39, 40, 41, 42, 43, 44, 45, 46, 47, 48, 49, 50, 51, 52, 53, 54, 55, 56, 57, 58, 59, 60, 61, 62, 63, 64, 65, 66, 67, 68, 69, 70, 71, 72, 73, 74, 75, 76, 77, 78, 79, 80, 81, 82, 83, 84, 85, 86, 87, 88, 89] (by decide +kernel) (by decide +kernel)
set_option maxRecDepth 20000 in
theorem gX11_table_X11_layTable : GoodIn wsX11_table (wsV RX11 289 RX11 yX11_layTable wsX11_layTable) := goodIn_app (goodIn_of _ (by decide +kernel)) ggX11_table_X11_layTable
set_option maxRecDepth 20000 in
theorem ggX11_table_X11_in : GoodIn wsX11_table wsX11_in := goodIn_r _ [35] (by decide +kernel) (by decide +kernel)
set_option maxRecDepth 20000 in
theorem gX11_table_X11_in : GoodIn wsX11_table (va_wsS RX11 138 yX11_in wsX11_in) := goodIn_app (goodIn_of _ (by decide +kernel)) ggX11_table_X11_in
theorem dX11_table_0 : decode cX11_table 0 = .ok (.aload_n 0, 1) := by decide +kernel
theorem dX11_table_1 : decode cX11_table 1 = .ok (.bipush (-6), 2) := by decide +kernel
theorem dX11_table_3 : decode cX11_table 3 = .ok (.iconst 0, 1) := by decide +kernel
theorem dX11_table_4 : decode cX11_table 4 = .ok (.invokevirtual 289, 3) := by decide +kernel
theorem dX11_table_7 : decode cX11_table 7 = .ok (.iload_n 1, 1) := by decide +kernel
theorem dX11_table_8 : decode cX11_table 8 = .ok (.iconst (-1), 1) := by decide +kernel
theorem dX11_table_9 : decode cX11_table 9 = .ok (.if_icmp .ne 10, 3) := by decide +kernel
theorem dX11_table_12 : decode cX11_table 12 = .ok (.aload_n 0, 1) := by decide +kernel
theorem dX11_table_13 : decode cX11_table 13 = .ok (.getfield 277, 3) := by decide +kernel
theorem dX11_table_16 : decode cX11_table 16 = .ok (.goto 28, 3) := by decide +kernel
theorem dX11_table_19 : decode cX11_table 19 = .ok (.iload_n 1, 1) := by decide +kernel
theorem dX11_table_20 : decode cX11_table 20 = .ok (.iconst 0, 1) := by decide +kernel
theorem dX11_table_21 : decode cX11_table 21 = .ok (.aload_n 0, 1) := by decide +kernel
theorem dX11_table_22 : decode cX11_table 22 = .ok (.getfield 277, 3) := by decide +kernel
theorem dX11_table_25 : decode cX11_table 25 = .ok (.iconst 1, 1) := by decide +kernel
theorem dX11_table_26 : decode cX11_table 26 = .ok (.isub, 1) := by decide +kernel
theorem dX11_table_27 : decode cX11_table 27 = .ok (.invokestatic 138, 3) := by decide +kernel
theorem dX11_table_30 : decode cX11_table 30 = .ok (.ifCond .eq 12, 3) := by decide +kernel
theorem dX11_table_33 : decode cX11_table 33 = .ok (.aload_n 0, 1) := by decide +kernel
theorem dX11_table_34 : decode cX11_table 34 = .ok (.getfield 132, 3) := by decide +kernel
theorem dX11_table_37 : decode cX11_table 37 = .ok (.iload_n 1, 1) := by decide +kernel
theorem dX11_table_38 : decode cX11_table 38 = .ok (.iaload, 1) := by decide +kernel
theorem dX11_table_39 : decode cX11_table 39 = .ok (.goto 5, 3) := by decide +kernel
theorem dX11_table_42 : decode cX11_table 42 = .ok (.bipush (-6), 2) := by decide +kernel
theorem dX11_table_44 : decode cX11_table 44 = .ok (.ireturn, 1) := by decide +kernel
set_option maxRecDepth 20000 in
theorem ggX11_byTaking_X11_isDown : GoodIn wsX11_byTaking wsX11_isDown := goodIn_r _ [5, 6, 7, 8, 9, 10, 11, 4, 12, 13, 14, 15, 16, 17, 18, 19, 20, 21, 22, 23, 24, 25, 26, 27, 28, 29, 30, 31, 32, 33, 34, 35, 36, 37, 38, 39, 40, 41, 42, 43, 44, 45, 46, 47, 48, 49, 50, 51, 52, 53, 54, 55, 56, 57, 58, 59, 60, 61, 62, 63, 64, 65, 66, 67, 68, 69, 70, 71, 72, 73, 74, 75, 76, 77, 78, 79, 80, 81, 82, 83, 84, 85, 86, 87, 88, 89, 90, 91] (by decide +kernel) (by decide +kernel)
set_option maxRecDepth 20000 in
theorem gX11_byTaking_X11_isDown : GoodIn wsX11_byTaking (wsV RX11 292 RX11 yX11_isDown wsX11_isDown) := goodIn_app (goodIn_of _ (by decide +kernel)) ggX11_byTaking_X11_isDown
theorem dX11_byTaking_0 : decode cX11_byTaking 0 = .ok (.iconst 0, 1) := by decide +kernel
theorem dX11_byTaking_1 : decode cX11_byTaking 1 = .ok (.istore_n 2, 1) := by decide +kernel
theorem dX11_byTaking_2 : decode cX11_byTaking 2 = .ok (.iload_n 2, 1) := by decide +kernel
theorem dX11_byTaking_3 : decode cX11_byTaking 3 = .ok (.sipush 200, 3) := by decide +kernel
theorem dX11_byTaking_6 : decode cX11_byTaking 6 = .ok (.if_icmp .gt 20, 3) := by decide +kernel
theorem dX11_byTaking_9 : decode cX11_byTaking 9 = .ok (.aload_n 0, 1) := by decide +kernel
theorem dX11_byTaking_10 : decode cX11_byTaking 10 = .ok (.iload_n 1, 1) := by decide +kernel
theorem dX11_byTaking_11 : decode cX11_byTaking 11 = .ok (.iload_n 2, 1) := by decide +kernel
theorem dX11_byTaking_12 : decode cX11_byTaking 12 = .ok (.invokevirtual 292, 3) := by decide +kernel
theorem dX11_byTaking_15 : decode cX11_byTaking 15 = .ok (.ifCond .eq 5, 3) := by decide +kernel
theorem dX11_byTaking_18 : decode cX11_byTaking 18 = .ok (.iload_n 2, 1) := by decide +kernel
theorem dX11_byTaking_19 : decode cX11_byTaking 19 = .ok (.ireturn, 1) := by decide +kernel
theorem dX11_byTaking_20 : decode cX11_byTaking 20 = .ok (.iinc 2 1, 3) := by decide +kernel
theorem dX11_byTaking_23 : decode cX11_byTaking 23 = .ok (.goto (-21), 3) := by decide +kernel
theorem dX11_byTaking_26 : decode cX11_byTaking 26 = .ok (.bipush (-6), 2) := by decide +kernel
theorem dX11_byTaking_28 : decode cX11_byTaking 28 = .ok (.ireturn, 1) := by decide +kernel
set_option maxRecDepth 20000 in
theorem ggX11_ofSide_X11_isSide : GoodIn wsX11_ofSide wsX11_isSide := goodIn_r _ [5, 6, 7, 4, 8] (by decide +kernel) (by decide +kernel)
set_option maxRecDepth 20000 in
theorem gX11_ofSide_X11_isSide : GoodIn wsX11_ofSide (va_wsS RX11 149 yX11_isSide wsX11_isSide) := goodIn_app (goodIn_of _ (by decide +kernel)) ggX11_ofSide_X11_isSide
set_option maxRecDepth 20000 in
theorem ggX11_ofSide_X11_plays : GoodIn wsX11_ofSide wsX11_plays := goodIn_r _ [12, 13, 14, 15, 49, 50, 51, 52, 53, 54, 55, 56, 57, 58, 59, 60, 61, 62, 63, 64, 65, 66, 67, 68, 69, 70, 71, 72, 73, 74, 75, 76, 77, 78, 79, 80, 81, 82, 83, 84, 85, 86, 87, 88, 89, 90, 91, 92, 93, 94, 95, 96, 97, 98, 99, 100, 101, 102] (by decide +kernel) (by decide +kernel)
set_option maxRecDepth 20000 in
theorem gX11_ofSide_X11_plays : GoodIn wsX11_ofSide (wsV RX11 280 RX11 yX11_plays wsX11_plays) := goodIn_app (goodIn_of _ (by decide +kernel)) ggX11_ofSide_X11_plays
set_option maxRecDepth 20000 in
theorem ggX11_ofSide_X11_in : GoodIn wsX11_ofSide wsX11_in := goodIn_r _ [8] (by decide +kernel) (by decide +kernel)
set_option maxRecDepth 20000 in
theorem gX11_ofSide_X11_in : GoodIn wsX11_ofSide (va_wsS RX11 138 yX11_in wsX11_in) := goodIn_app (goodIn_of _ (by decide +kernel)) ggX11_ofSide_X11_in
set_option maxRecDepth 20000 in
theorem ggX11_ofSide_X11_pointsOf : GoodIn wsX11_ofSide wsX11_pointsOf := goodIn_r _ [19, 20, 13, 14, 15, 21, 22, 23, 4, 24, 25, 26, 27, 28, 29, 49, 50, 51, 52, 53, 54, 55, 56, 57, 58, 59, 60, 61, 62, 63, 64, 65, 66, 67, 68, 69, 70, 71, 72, 73, 74, 75, 76, 77, 78, 79, 80, 81, 82, 83, 84, 85, 86, 87, 88, 89, 90, 91, 92, 93, 94, 95, 96, 97, 98, 99, 100, 101, 102] (by decide +kernel) (by decide +kernel)
set_option maxRecDepth 20000 in
theorem gX11_ofSide_X11_pointsOf : GoodIn wsX11_ofSide (wsV RX11 283 RX11 yX11_pointsOf wsX11_pointsOf) := goodIn_app (goodIn_of _ (by decide +kernel)) ggX11_ofSide_X11_pointsOf
set_option maxRecDepth 20000 in
theorem ggX11_ofSide_X11_offOf : GoodIn wsX11_ofSide wsX11_offOf := goodIn_r _ [33, 13, 14, 15, 25, 26, 27, 4, 28, 29, 49, 50, 51, 52, 53, 54, 55, 56, 57, 58, 59, 60, 61, 62, 63, 64, 65, 66, 67, 68, 69, 70, 71, 72, 73, 74, 75, 76, 77, 78, 79, 80, 81, 82, 83, 84, 85, 86, 87, 88, 89, 90, 91, 92, 93, 94, 95, 96, 97, 98, 99, 100, 101, 102] (by decide +kernel) (by decide +kernel)
set_option maxRecDepth 20000 in
theorem gX11_ofSide_X11_offOf : GoodIn wsX11_ofSide (wsV RX11 286 RX11 yX11_offOf wsX11_offOf) := goodIn_app (goodIn_of _ (by decide +kernel)) ggX11_ofSide_X11_offOf
set_option maxRecDepth 20000 in
theorem ggX11_ofSide_X11_isDown : GoodIn wsX11_ofSide wsX11_isDown := goodIn_r _ [37, 38, 39, 40, 41, 42, 43, 4, 44, 9, 10, 11, 12, 13, 14, 15, 16, 17, 18, 19, 20, 21, 22, 23, 24, 25, 26, 27, 28, 29, 30, 31, 32, 33, 49, 50, 51, 52, 53, 54, 55, 56, 57, 58, 59, 60, 61, 62, 63, 64, 65, 66, 67, 68, 69, 70, 71, 72, 73, 74, 75, 76, 77, 78, 79, 80, 81, 82, 83, 84, 85, 86, 87, 88, 89, 90, 91, 92, 93, 94, 95, 96, 97, 98, 99, 100, 101, 102] (by decide +kernel) (by decide +kernel)
set_option maxRecDepth 20000 in
theorem gX11_ofSide_X11_isDown : GoodIn wsX11_ofSide (wsV RX11 292 RX11 yX11_isDown wsX11_isDown) := goodIn_app (goodIn_of _ (by decide +kernel)) ggX11_ofSide_X11_isDown
set_option maxRecDepth 20000 in
theorem ggX11_ofSide_X11_byTaking : GoodIn wsX11_ofSide wsX11_byTaking := goodIn_r _ [48, 34, 35, 36, 4, 37, 38, 39, 40, 41, 42, 43, 44, 9, 10, 11, 12, 13, 14, 15, 16, 17, 18, 19, 20, 21, 22, 23, 24, 25, 26, 27, 28, 29, 30, 31, 32, 33, 49, 50, 51, 52, 53, 54, 55, 56, 57, 58, 59, 60, 61, 62, 63, 64, 65, 66, 67, 68, 69, 70, 71, 72, 73, 74, 75, 76, 77, 78, 79, 80, 81, 82, 83, 84, 85, 86, 87, 88, 89, 90, 91, 92, 93, 94, 95, 96, 97, 98, 99, 100, 101, 102] (by decide +kernel) (by decide +kernel)
set_option maxRecDepth 20000 in
theorem gX11_ofSide_X11_byTaking : GoodIn wsX11_ofSide (wsV RX11 295 RX11 yX11_byTaking wsX11_byTaking) := goodIn_app (goodIn_of _ (by decide +kernel)) ggX11_ofSide_X11_byTaking
theorem dX11_ofSide_0 : decode cX11_ofSide 0 = .ok (.iload_n 1, 1) := by decide +kernel
theorem dX11_ofSide_1 : decode cX11_ofSide 1 = .ok (.invokestatic 149, 3) := by decide +kernel
theorem dX11_ofSide_4 : decode cX11_ofSide 4 = .ok (.ifCond .eq 20, 3) := by decide +kernel
theorem dX11_ofSide_7 : decode cX11_ofSide 7 = .ok (.aload_n 0, 1) := by decide +kernel
theorem dX11_ofSide_8 : decode cX11_ofSide 8 = .ok (.iload_n 1, 1) := by decide +kernel
theorem dX11_ofSide_9 : decode cX11_ofSide 9 = .ok (.invokevirtual 280, 3) := by decide +kernel
theorem dX11_ofSide_12 : decode cX11_ofSide 12 = .ok (.ifCond .eq 12, 3) := by decide +kernel
theorem dX11_ofSide_15 : decode cX11_ofSide 15 = .ok (.iload_n 2, 1) := by decide +kernel
theorem dX11_ofSide_16 : decode cX11_ofSide 16 = .ok (.iconst 0, 1) := by decide +kernel
theorem dX11_ofSide_17 : decode cX11_ofSide 17 = .ok (.iconst 3, 1) := by decide +kernel
theorem dX11_ofSide_18 : decode cX11_ofSide 18 = .ok (.invokestatic 138, 3) := by decide +kernel
theorem dX11_ofSide_21 : decode cX11_ofSide 21 = .ok (.ifCond .ne 6, 3) := by decide +kernel
theorem dX11_ofSide_24 : decode cX11_ofSide 24 = .ok (.ldc 192, 2) := by decide +kernel
theorem dX11_ofSide_26 : decode cX11_ofSide 26 = .ok (.ireturn, 1) := by decide +kernel
theorem dX11_ofSide_27 : decode cX11_ofSide 27 = .ok (.iload_n 2, 1) := by decide +kernel
theorem dX11_ofSide_28 : decode cX11_ofSide 28 = .ok (.ifCond .ne 11, 3) := by decide +kernel
theorem dX11_ofSide_31 : decode cX11_ofSide 31 = .ok (.aload_n 0, 1) := by decide +kernel
theorem dX11_ofSide_32 : decode cX11_ofSide 32 = .ok (.iload_n 1, 1) := by decide +kernel
theorem dX11_ofSide_33 : decode cX11_ofSide 33 = .ok (.invokevirtual 283, 3) := by decide +kernel
theorem dX11_ofSide_36 : decode cX11_ofSide 36 = .ok (.goto 43, 3) := by decide +kernel
theorem dX11_ofSide_39 : decode cX11_ofSide 39 = .ok (.iload_n 2, 1) := by decide +kernel
theorem dX11_ofSide_40 : decode cX11_ofSide 40 = .ok (.iconst 1, 1) := by decide +kernel
theorem dX11_ofSide_41 : decode cX11_ofSide 41 = .ok (.if_icmp .ne 11, 3) := by decide +kernel
theorem dX11_ofSide_44 : decode cX11_ofSide 44 = .ok (.aload_n 0, 1) := by decide +kernel
theorem dX11_ofSide_45 : decode cX11_ofSide 45 = .ok (.iload_n 1, 1) := by decide +kernel
theorem dX11_ofSide_46 : decode cX11_ofSide 46 = .ok (.invokevirtual 286, 3) := by decide +kernel
theorem dX11_ofSide_49 : decode cX11_ofSide 49 = .ok (.goto 30, 3) := by decide +kernel
theorem dX11_ofSide_52 : decode cX11_ofSide 52 = .ok (.iload_n 2, 1) := by decide +kernel
theorem dX11_ofSide_53 : decode cX11_ofSide 53 = .ok (.iconst 2, 1) := by decide +kernel
theorem dX11_ofSide_54 : decode cX11_ofSide 54 = .ok (.if_icmp .ne 20, 3) := by decide +kernel
theorem dX11_ofSide_57 : decode cX11_ofSide 57 = .ok (.aload_n 0, 1) := by decide +kernel
theorem dX11_ofSide_58 : decode cX11_ofSide 58 = .ok (.iload_n 1, 1) := by decide +kernel
theorem dX11_ofSide_59 : decode cX11_ofSide 59 = .ok (.iconst 0, 1) := by decide +kernel
theorem dX11_ofSide_60 : decode cX11_ofSide 60 = .ok (.invokevirtual 292, 3) := by decide +kernel
theorem dX11_ofSide_63 : decode cX11_ofSide 63 = .ok (.ifCond .eq 7, 3) := by decide +kernel
theorem dX11_ofSide_66 : decode cX11_ofSide 66 = .ok (.iconst 1, 1) := by decide +kernel
theorem dX11_ofSide_67 : decode cX11_ofSide 67 = .ok (.goto 12, 3) := by decide +kernel
theorem dX11_ofSide_70 : decode cX11_ofSide 70 = .ok (.iconst 0, 1) := by decide +kernel
theorem dX11_ofSide_71 : decode cX11_ofSide 71 = .ok (.goto 8, 3) := by decide +kernel
theorem dX11_ofSide_74 : decode cX11_ofSide 74 = .ok (.aload_n 0, 1) := by decide +kernel
theorem dX11_ofSide_75 : decode cX11_ofSide 75 = .ok (.iload_n 1, 1) := by decide +kernel
theorem dX11_ofSide_76 : decode cX11_ofSide 76 = .ok (.invokevirtual 295, 3) := by decide +kernel
theorem dX11_ofSide_79 : decode cX11_ofSide 79 = .ok (.ireturn, 1) := by decide +kernel
set_option maxRecDepth 20000 in
theorem ggX11_say_X11_in : GoodIn wsX11_say wsX11_in := goodIn_r _ [6] (by decide +kernel) (by decide +kernel)
set_option maxRecDepth 20000 in
theorem gX11_say_X11_in : GoodIn wsX11_say (va_wsS RX11 138 yX11_in wsX11_in) := goodIn_app (goodIn_of _ (by decide +kernel)) ggX11_say_X11_in
theorem dX11_say_0 : decode cX11_say 0 = .ok (.iload_n 1, 1) := by decide +kernel
theorem dX11_say_1 : decode cX11_say 1 = .ok (.bipush 33, 2) := by decide +kernel
theorem dX11_say_3 : decode cX11_say 3 = .ok (.bipush 126, 2) := by decide +kernel
theorem dX11_say_5 : decode cX11_say 5 = .ok (.invokestatic 138, 3) := by decide +kernel
theorem dX11_say_8 : decode cX11_say 8 = .ok (.ifCond .ne 6, 3) := by decide +kernel
theorem dX11_say_11 : decode cX11_say 11 = .ok (.bipush (-2), 2) := by decide +kernel
theorem dX11_say_13 : decode cX11_say 13 = .ok (.ireturn, 1) := by decide +kernel
theorem dX11_say_14 : decode cX11_say 14 = .ok (.aload_n 0, 1) := by decide +kernel
theorem dX11_say_15 : decode cX11_say 15 = .ok (.getfield 298, 3) := by decide +kernel
theorem dX11_say_18 : decode cX11_say 18 = .ok (.bipush 40, 2) := by decide +kernel
theorem dX11_say_20 : decode cX11_say 20 = .ok (.if_icmp .ne 6, 3) := by decide +kernel
theorem dX11_say_23 : decode cX11_say 23 = .ok (.bipush (-4), 2) := by decide +kernel
theorem dX11_say_25 : decode cX11_say 25 = .ok (.ireturn, 1) := by decide +kernel
theorem dX11_say_26 : decode cX11_say 26 = .ok (.aload_n 0, 1) := by decide +kernel
theorem dX11_say_27 : decode cX11_say 27 = .ok (.getfield 98, 3) := by decide +kernel
theorem dX11_say_30 : decode cX11_say 30 = .ok (.aload_n 0, 1) := by decide +kernel
theorem dX11_say_31 : decode cX11_say 31 = .ok (.getfield 298, 3) := by decide +kernel
theorem dX11_say_34 : decode cX11_say 34 = .ok (.iload_n 1, 1) := by decide +kernel
theorem dX11_say_35 : decode cX11_say 35 = .ok (.iastore, 1) := by decide +kernel
theorem dX11_say_36 : decode cX11_say 36 = .ok (.aload_n 0, 1) := by decide +kernel
theorem dX11_say_37 : decode cX11_say 37 = .ok (.dup, 1) := by decide +kernel
theorem dX11_say_38 : decode cX11_say 38 = .ok (.getfield 298, 3) := by decide +kernel
theorem dX11_say_41 : decode cX11_say 41 = .ok (.iconst 1, 1) := by decide +kernel
theorem dX11_say_42 : decode cX11_say 42 = .ok (.iadd, 1) := by decide +kernel
theorem dX11_say_43 : decode cX11_say 43 = .ok (.putfield 298, 3) := by decide +kernel
theorem dX11_say_46 : decode cX11_say 46 = .ok (.aload_n 0, 1) := by decide +kernel
theorem dX11_say_47 : decode cX11_say 47 = .ok (.getfield 298, 3) := by decide +kernel
theorem dX11_say_50 : decode cX11_say 50 = .ok (.ireturn, 1) := by decide +kernel
theorem dX11_wipe_0 : decode cX11_wipe 0 = .ok (.aload_n 0, 1) := by decide +kernel
theorem dX11_wipe_1 : decode cX11_wipe 1 = .ok (.getfield 298, 3) := by decide +kernel
theorem dX11_wipe_4 : decode cX11_wipe 4 = .ok (.istore_n 1, 1) := by decide +kernel
theorem dX11_wipe_5 : decode cX11_wipe 5 = .ok (.aload_n 0, 1) := by decide +kernel
theorem dX11_wipe_6 : decode cX11_wipe 6 = .ok (.iconst 0, 1) := by decide +kernel
theorem dX11_wipe_7 : decode cX11_wipe 7 = .ok (.putfield 298, 3) := by decide +kernel
theorem dX11_wipe_10 : decode cX11_wipe 10 = .ok (.iload_n 1, 1) := by decide +kernel
theorem dX11_wipe_11 : decode cX11_wipe 11 = .ok (.ireturn, 1) := by decide +kernel
theorem dX11_factAt_0 : decode cX11_factAt 0 = .ok (.iload_n 0, 1) := by decide +kernel
theorem dX11_factAt_1 : decode cX11_factAt 1 = .ok (.bipush 103, 2) := by decide +kernel
theorem dX11_factAt_3 : decode cX11_factAt 3 = .ok (.if_icmp .ne 7, 3) := by decide +kernel
theorem dX11_factAt_6 : decode cX11_factAt 6 = .ok (.iconst 1, 1) := by decide +kernel
theorem dX11_factAt_7 : decode cX11_factAt 7 = .ok (.goto 45, 3) := by decide +kernel
theorem dX11_factAt_10 : decode cX11_factAt 10 = .ok (.iload_n 0, 1) := by decide +kernel
theorem dX11_factAt_11 : decode cX11_factAt 11 = .ok (.bipush 104, 2) := by decide +kernel
theorem dX11_factAt_13 : decode cX11_factAt 13 = .ok (.if_icmp .ne 7, 3) := by decide +kernel
theorem dX11_factAt_16 : decode cX11_factAt 16 = .ok (.iconst 2, 1) := by decide +kernel
theorem dX11_factAt_17 : decode cX11_factAt 17 = .ok (.goto 35, 3) := by decide +kernel
theorem dX11_factAt_20 : decode cX11_factAt 20 = .ok (.iload_n 0, 1) := by decide +kernel
theorem dX11_factAt_21 : decode cX11_factAt 21 = .ok (.bipush 120, 2) := by decide +kernel
theorem dX11_factAt_23 : decode cX11_factAt 23 = .ok (.if_icmp .ne 7, 3) := by decide +kernel
theorem dX11_factAt_26 : decode cX11_factAt 26 = .ok (.iconst 3, 1) := by decide +kernel
theorem dX11_factAt_27 : decode cX11_factAt 27 = .ok (.goto 25, 3) := by decide +kernel
theorem dX11_factAt_30 : decode cX11_factAt 30 = .ok (.iload_n 0, 1) := by decide +kernel
theorem dX11_factAt_31 : decode cX11_factAt 31 = .ok (.bipush 114, 2) := by decide +kernel
theorem dX11_factAt_33 : decode cX11_factAt 33 = .ok (.if_icmp .ne 7, 3) := by decide +kernel
theorem dX11_factAt_36 : decode cX11_factAt 36 = .ok (.iconst 4, 1) := by decide +kernel
theorem dX11_factAt_37 : decode cX11_factAt 37 = .ok (.goto 15, 3) := by decide +kernel
theorem dX11_factAt_40 : decode cX11_factAt 40 = .ok (.iload_n 0, 1) := by decide +kernel
theorem dX11_factAt_41 : decode cX11_factAt 41 = .ok (.bipush 110, 2) := by decide +kernel
theorem dX11_factAt_43 : decode cX11_factAt 43 = .ok (.if_icmp .ne 7, 3) := by decide +kernel
theorem dX11_factAt_46 : decode cX11_factAt 46 = .ok (.iconst 5, 1) := by decide +kernel
theorem dX11_factAt_47 : decode cX11_factAt 47 = .ok (.goto 5, 3) := by decide +kernel
theorem dX11_factAt_50 : decode cX11_factAt 50 = .ok (.bipush (-6), 2) := by decide +kernel
theorem dX11_factAt_52 : decode cX11_factAt 52 = .ok (.ireturn, 1) := by decide +kernel
set_option maxRecDepth 20000 in
theorem ggX11_faultOf_X11_in : GoodIn wsX11_faultOf wsX11_in := goodIn_r _ [6] (by decide +kernel) (by decide +kernel)
set_option maxRecDepth 20000 in
theorem gX11_faultOf_X11_in : GoodIn wsX11_faultOf (va_wsS RX11 138 yX11_in wsX11_in) := goodIn_app (goodIn_of _ (by decide +kernel)) ggX11_faultOf_X11_in
set_option maxRecDepth 20000 in
theorem ggX11_faultOf_X11_factAt : GoodIn wsX11_faultOf wsX11_factAt := goodIn_r _ [9] (by decide +kernel) (by decide +kernel)
set_option maxRecDepth 20000 in
theorem gX11_faultOf_X11_factAt : GoodIn wsX11_faultOf (va_wsS RX11 301 yX11_factAt wsX11_factAt) := goodIn_app (goodIn_of _ (by decide +kernel)) ggX11_faultOf_X11_factAt
theorem dX11_faultOf_0 : decode cX11_faultOf 0 = .ok (.iconst 0, 1) := by decide +kernel
theorem dX11_faultOf_1 : decode cX11_faultOf 1 = .ok (.istore_n 1, 1) := by decide +kernel
theorem dX11_faultOf_2 : decode cX11_faultOf 2 = .ok (.iconst 0, 1) := by decide +kernel
theorem dX11_faultOf_3 : decode cX11_faultOf 3 = .ok (.istore_n 2, 1) := by decide +kernel
theorem dX11_faultOf_4 : decode cX11_faultOf 4 = .ok (.iload_n 2, 1) := by decide +kernel
theorem dX11_faultOf_5 : decode cX11_faultOf 5 = .ok (.aload_n 0, 1) := by decide +kernel
theorem dX11_faultOf_6 : decode cX11_faultOf 6 = .ok (.getfield 298, 3) := by decide +kernel
theorem dX11_faultOf_9 : decode cX11_faultOf 9 = .ok (.if_icmp .ge 149, 3) := by decide +kernel
theorem dX11_faultOf_12 : decode cX11_faultOf 12 = .ok (.aload_n 0, 1) := by decide +kernel
theorem dX11_faultOf_13 : decode cX11_faultOf 13 = .ok (.getfield 98, 3) := by decide +kernel
theorem dX11_faultOf_16 : decode cX11_faultOf 16 = .ok (.iload_n 2, 1) := by decide +kernel
theorem dX11_faultOf_17 : decode cX11_faultOf 17 = .ok (.iaload, 1) := by decide +kernel
theorem dX11_faultOf_18 : decode cX11_faultOf 18 = .ok (.istore_n 3, 1) := by decide +kernel
theorem dX11_faultOf_19 : decode cX11_faultOf 19 = .ok (.iload_n 3, 1) := by decide +kernel
theorem dX11_faultOf_20 : decode cX11_faultOf 20 = .ok (.bipush 48, 2) := by decide +kernel
theorem dX11_faultOf_22 : decode cX11_faultOf 22 = .ok (.bipush 57, 2) := by decide +kernel
theorem dX11_faultOf_24 : decode cX11_faultOf 24 = .ok (.invokestatic 138, 3) := by decide +kernel
theorem dX11_faultOf_27 : decode cX11_faultOf 27 = .ok (.istore 4, 2) := by decide +kernel
theorem dX11_faultOf_29 : decode cX11_faultOf 29 = .ok (.iload_n 3, 1) := by decide +kernel
theorem dX11_faultOf_30 : decode cX11_faultOf 30 = .ok (.bipush 38, 2) := by decide +kernel
theorem dX11_faultOf_32 : decode cX11_faultOf 32 = .ok (.if_icmp .eq 9, 3) := by decide +kernel
theorem dX11_faultOf_35 : decode cX11_faultOf 35 = .ok (.iload_n 3, 1) := by decide +kernel
theorem dX11_faultOf_36 : decode cX11_faultOf 36 = .ok (.bipush 124, 2) := by decide +kernel
theorem dX11_faultOf_38 : decode cX11_faultOf 38 = .ok (.if_icmp .ne 7, 3) := by decide +kernel
theorem dX11_faultOf_41 : decode cX11_faultOf 41 = .ok (.iconst 1, 1) := by decide +kernel
theorem dX11_faultOf_42 : decode cX11_faultOf 42 = .ok (.goto 4, 3) := by decide +kernel
theorem dX11_faultOf_45 : decode cX11_faultOf 45 = .ok (.iconst 0, 1) := by decide +kernel
theorem dX11_faultOf_46 : decode cX11_faultOf 46 = .ok (.istore 5, 2) := by decide +kernel
theorem dX11_faultOf_48 : decode cX11_faultOf 48 = .ok (.iload_n 1, 1) := by decide +kernel
theorem dX11_faultOf_49 : decode cX11_faultOf 49 = .ok (.ifCond .ne 18, 3) := by decide +kernel
theorem dX11_faultOf_52 : decode cX11_faultOf 52 = .ok (.iload_n 3, 1) := by decide +kernel
theorem dX11_faultOf_53 : decode cX11_faultOf 53 = .ok (.invokestatic 301, 3) := by decide +kernel
theorem dX11_faultOf_56 : decode cX11_faultOf 56 = .ok (.ifCond .le 7, 3) := by decide +kernel
theorem dX11_faultOf_59 : decode cX11_faultOf 59 = .ok (.iconst 1, 1) := by decide +kernel
theorem dX11_faultOf_60 : decode cX11_faultOf 60 = .ok (.goto 65, 3) := by decide +kernel
theorem dX11_faultOf_63 : decode cX11_faultOf 63 = .ok (.iconst 0, 1) := by decide +kernel
theorem dX11_faultOf_64 : decode cX11_faultOf 64 = .ok (.goto 61, 3) := by decide +kernel
theorem dX11_faultOf_67 : decode cX11_faultOf 67 = .ok (.iload_n 1, 1) := by decide +kernel
theorem dX11_faultOf_68 : decode cX11_faultOf 68 = .ok (.iconst 1, 1) := by decide +kernel
theorem dX11_faultOf_69 : decode cX11_faultOf 69 = .ok (.if_icmp .ne 23, 3) := by decide +kernel
theorem dX11_faultOf_72 : decode cX11_faultOf 72 = .ok (.iload_n 3, 1) := by decide +kernel
theorem dX11_faultOf_73 : decode cX11_faultOf 73 = .ok (.bipush 60, 2) := by decide +kernel
theorem dX11_faultOf_75 : decode cX11_faultOf 75 = .ok (.if_icmp .eq 9, 3) := by decide +kernel
theorem dX11_faultOf_78 : decode cX11_faultOf 78 = .ok (.iload_n 3, 1) := by decide +kernel
theorem dX11_faultOf_79 : decode cX11_faultOf 79 = .ok (.bipush 62, 2) := by decide +kernel
theorem dX11_faultOf_81 : decode cX11_faultOf 81 = .ok (.if_icmp .ne 7, 3) := by decide +kernel
theorem dX11_faultOf_84 : decode cX11_faultOf 84 = .ok (.iconst 1, 1) := by decide +kernel
theorem dX11_faultOf_85 : decode cX11_faultOf 85 = .ok (.goto 40, 3) := by decide +kernel
theorem dX11_faultOf_88 : decode cX11_faultOf 88 = .ok (.iconst 0, 1) := by decide +kernel
theorem dX11_faultOf_89 : decode cX11_faultOf 89 = .ok (.goto 36, 3) := by decide +kernel
theorem dX11_faultOf_92 : decode cX11_faultOf 92 = .ok (.iload 4, 2) := by decide +kernel
theorem dX11_faultOf_94 : decode cX11_faultOf 94 = .ok (.ifCond .eq 16, 3) := by decide +kernel
theorem dX11_faultOf_97 : decode cX11_faultOf 97 = .ok (.iload_n 1, 1) := by decide +kernel
theorem dX11_faultOf_98 : decode cX11_faultOf 98 = .ok (.iconst 5, 1) := by decide +kernel
theorem dX11_faultOf_99 : decode cX11_faultOf 99 = .ok (.if_icmp .ge 7, 3) := by decide +kernel
theorem dX11_faultOf_102 : decode cX11_faultOf 102 = .ok (.iconst 1, 1) := by decide +kernel
theorem dX11_faultOf_103 : decode cX11_faultOf 103 = .ok (.goto 22, 3) := by decide +kernel
theorem dX11_faultOf_106 : decode cX11_faultOf 106 = .ok (.iconst 0, 1) := by decide +kernel
theorem dX11_faultOf_107 : decode cX11_faultOf 107 = .ok (.goto 18, 3) := by decide +kernel
theorem dX11_faultOf_110 : decode cX11_faultOf 110 = .ok (.iload 5, 2) := by decide +kernel
theorem dX11_faultOf_112 : decode cX11_faultOf 112 = .ok (.ifCond .eq 12, 3) := by decide +kernel
theorem dX11_faultOf_115 : decode cX11_faultOf 115 = .ok (.iload_n 1, 1) := by decide +kernel
theorem dX11_faultOf_116 : decode cX11_faultOf 116 = .ok (.iconst 2, 1) := by decide +kernel
theorem dX11_faultOf_117 : decode cX11_faultOf 117 = .ok (.if_icmp .le 7, 3) := by decide +kernel
theorem dX11_faultOf_120 : decode cX11_faultOf 120 = .ok (.iconst 1, 1) := by decide +kernel
theorem dX11_faultOf_121 : decode cX11_faultOf 121 = .ok (.goto 4, 3) := by decide +kernel
theorem dX11_faultOf_124 : decode cX11_faultOf 124 = .ok (.iconst 0, 1) := by decide +kernel
theorem dX11_faultOf_125 : decode cX11_faultOf 125 = .ok (.istore 6, 2) := by decide +kernel
theorem dX11_faultOf_127 : decode cX11_faultOf 127 = .ok (.iload 6, 2) := by decide +kernel
theorem dX11_faultOf_129 : decode cX11_faultOf 129 = .ok (.ifCond .ne 5, 3) := by decide +kernel
theorem dX11_faultOf_132 : decode cX11_faultOf 132 = .ok (.iload_n 2, 1) := by decide +kernel
theorem dX11_faultOf_133 : decode cX11_faultOf 133 = .ok (.ireturn, 1) := by decide +kernel
theorem dX11_faultOf_134 : decode cX11_faultOf 134 = .ok (.iload_n 1, 1) := by decide +kernel
theorem dX11_faultOf_135 : decode cX11_faultOf 135 = .ok (.iconst 2, 1) := by decide +kernel
theorem dX11_faultOf_136 : decode cX11_faultOf 136 = .ok (.if_icmp .le 12, 3) := by decide +kernel
theorem dX11_faultOf_139 : decode cX11_faultOf 139 = .ok (.iload 5, 2) := by decide +kernel
theorem dX11_faultOf_141 : decode cX11_faultOf 141 = .ok (.ifCond .eq 7, 3) := by decide +kernel
theorem dX11_faultOf_144 : decode cX11_faultOf 144 = .ok (.iconst 0, 1) := by decide +kernel
theorem dX11_faultOf_145 : decode cX11_faultOf 145 = .ok (.goto 6, 3) := by decide +kernel
theorem dX11_faultOf_148 : decode cX11_faultOf 148 = .ok (.iload_n 1, 1) := by decide +kernel
theorem dX11_faultOf_149 : decode cX11_faultOf 149 = .ok (.iconst 1, 1) := by decide +kernel
theorem dX11_faultOf_150 : decode cX11_faultOf 150 = .ok (.iadd, 1) := by decide +kernel
theorem dX11_faultOf_151 : decode cX11_faultOf 151 = .ok (.istore_n 1, 1) := by decide +kernel
theorem dX11_faultOf_152 : decode cX11_faultOf 152 = .ok (.iinc 2 1, 3) := by decide +kernel
theorem dX11_faultOf_155 : decode cX11_faultOf 155 = .ok (.goto (-151), 3) := by decide +kernel
theorem dX11_faultOf_158 : decode cX11_faultOf 158 = .ok (.iload_n 1, 1) := by decide +kernel
theorem dX11_faultOf_159 : decode cX11_faultOf 159 = .ok (.iconst 2, 1) := by decide +kernel
theorem dX11_faultOf_160 : decode cX11_faultOf 160 = .ok (.if_icmp .le 8, 3) := by decide +kernel
theorem dX11_faultOf_163 : decode cX11_faultOf 163 = .ok (.bipush (-6), 2) := by decide +kernel
theorem dX11_faultOf_165 : decode cX11_faultOf 165 = .ok (.goto 7, 3) := by decide +kernel
theorem dX11_faultOf_168 : decode cX11_faultOf 168 = .ok (.aload_n 0, 1) := by decide +kernel
theorem dX11_faultOf_169 : decode cX11_faultOf 169 = .ok (.getfield 298, 3) := by decide +kernel
theorem dX11_faultOf_172 : decode cX11_faultOf 172 = .ok (.ireturn, 1) := by decide +kernel
set_option maxRecDepth 20000 in
theorem ggX11_fault_X11_faultOf : GoodIn wsX11_fault wsX11_faultOf := goodIn_r _ [5, 6, 7, 8, 9, 4, 10, 11, 12, 13, 14, 15, 16, 17, 18, 19, 20, 21, 22, 23, 24, 25, 26, 27, 28, 29, 30, 31, 32, 33, 34, 35, 36, 37, 38, 39, 40, 41, 42, 43, 44, 45, 46, 47, 48, 49, 50, 51, 52, 53, 54, 55, 56, 57, 58, 59, 60, 61, 62, 63, 64, 65, 66, 67] (by decide +kernel) (by decide +kernel)
set_option maxRecDepth 20000 in
theorem gX11_fault_X11_faultOf : GoodIn wsX11_fault (wsV RX11 304 RX11 yX11_faultOf wsX11_faultOf) := goodIn_app (goodIn_of _ (by decide +kernel)) ggX11_fault_X11_faultOf
theorem dX11_fault_0 : decode cX11_fault 0 = .ok (.aload_n 0, 1) := by decide +kernel
theorem dX11_fault_1 : decode cX11_fault 1 = .ok (.invokevirtual 304, 3) := by decide +kernel
theorem dX11_fault_4 : decode cX11_fault 4 = .ok (.ireturn, 1) := by decide +kernel
set_option maxRecDepth 20000 in
theorem ggX11_rule_X11_faultOf : GoodIn wsX11_rule wsX11_faultOf := goodIn_r _ [9, 1, 4, 10, 11, 8, 12, 13, 14, 15, 16, 17, 18, 19, 20, 21, 22, 23, 24, 25, 26, 27, 28, 29, 30, 31, 32, 33, 34, 35, 36, 37, 38, 39, 40, 41, 42, 43, 44, 45, 46, 47, 48, 49, 50, 51, 52, 53, 54, 55, 56, 57, 58, 59, 60, 61, 62, 63, 64, 65, 66, 67, 68, 69] (by decide +kernel) (by decide +kernel)
set_option maxRecDepth 20000 in
theorem gX11_rule_X11_faultOf : GoodIn wsX11_rule (wsV RX11 304 RX11 yX11_faultOf wsX11_faultOf) := goodIn_app (goodIn_of _ (by decide +kernel)) ggX11_rule_X11_faultOf
theorem dX11_rule_0 : decode cX11_rule 0 = .ok (.aload_n 0, 1) := by decide +kernel
theorem dX11_rule_1 : decode cX11_rule 1 = .ok (.invokevirtual 304, 3) := by decide +kernel
theorem dX11_rule_4 : decode cX11_rule 4 = .ok (.ifCond .lt 6, 3) := by decide +kernel
theorem dX11_rule_7 : decode cX11_rule 7 = .ok (.bipush (-5), 2) := by decide +kernel
theorem dX11_rule_9 : decode cX11_rule 9 = .ok (.ireturn, 1) := by decide +kernel
theorem dX11_rule_10 : decode cX11_rule 10 = .ok (.aload_n 0, 1) := by decide +kernel
theorem dX11_rule_11 : decode cX11_rule 11 = .ok (.aload_n 0, 1) := by decide +kernel
theorem dX11_rule_12 : decode cX11_rule 12 = .ok (.getfield 298, 3) := by decide +kernel
theorem dX11_rule_15 : decode cX11_rule 15 = .ok (.putfield 308, 3) := by decide +kernel
theorem dX11_rule_18 : decode cX11_rule 18 = .ok (.iconst 0, 1) := by decide +kernel
theorem dX11_rule_19 : decode cX11_rule 19 = .ok (.istore_n 1, 1) := by decide +kernel
theorem dX11_rule_20 : decode cX11_rule 20 = .ok (.iload_n 1, 1) := by decide +kernel
theorem dX11_rule_21 : decode cX11_rule 21 = .ok (.aload_n 0, 1) := by decide +kernel
theorem dX11_rule_22 : decode cX11_rule 22 = .ok (.getfield 298, 3) := by decide +kernel
theorem dX11_rule_25 : decode cX11_rule 25 = .ok (.if_icmp .ge 21, 3) := by decide +kernel
theorem dX11_rule_28 : decode cX11_rule 28 = .ok (.aload_n 0, 1) := by decide +kernel
theorem dX11_rule_29 : decode cX11_rule 29 = .ok (.getfield 101, 3) := by decide +kernel
theorem dX11_rule_32 : decode cX11_rule 32 = .ok (.iload_n 1, 1) := by decide +kernel
theorem dX11_rule_33 : decode cX11_rule 33 = .ok (.aload_n 0, 1) := by decide +kernel
theorem dX11_rule_34 : decode cX11_rule 34 = .ok (.getfield 98, 3) := by decide +kernel
theorem dX11_rule_37 : decode cX11_rule 37 = .ok (.iload_n 1, 1) := by decide +kernel
theorem dX11_rule_38 : decode cX11_rule 38 = .ok (.iaload, 1) := by decide +kernel
theorem dX11_rule_39 : decode cX11_rule 39 = .ok (.iastore, 1) := by decide +kernel
theorem dX11_rule_40 : decode cX11_rule 40 = .ok (.iinc 1 1, 3) := by decide +kernel
theorem dX11_rule_43 : decode cX11_rule 43 = .ok (.goto (-23), 3) := by decide +kernel
theorem dX11_rule_46 : decode cX11_rule 46 = .ok (.aload_n 0, 1) := by decide +kernel
theorem dX11_rule_47 : decode cX11_rule 47 = .ok (.iconst 0, 1) := by decide +kernel
theorem dX11_rule_48 : decode cX11_rule 48 = .ok (.putfield 298, 3) := by decide +kernel
theorem dX11_rule_51 : decode cX11_rule 51 = .ok (.iconst 1, 1) := by decide +kernel
theorem dX11_rule_52 : decode cX11_rule 52 = .ok (.ireturn, 1) := by decide +kernel
set_option maxRecDepth 20000 in
theorem ggX11_factOf_X11_greatestOf : GoodIn wsX11_factOf wsX11_greatestOf := goodIn_r _ [9, 10, 11, 12, 13, 8, 14, 15, 16, 17, 18, 19, 20, 21, 22, 23, 24, 25, 26, 27, 28, 29, 30, 31, 32, 33, 34, 35, 36, 37, 38, 39, 114, 115, 116, 117, 118, 119, 120, 121, 122, 123, 124, 125, 126, 127, 128, 129, 130, 131, 132, 133, 134, 135, 136, 137, 138, 139, 140, 141, 142, 143, 144, 145, 146, 147, 148, 149, 150, 151, 152, 153, 154, 155, 156, 157, 158, 159, 160, 161, 162, 163, 164, 165, 166, 167] (by decide +kernel) (by decide +kernel)
set_option maxRecDepth 20000 in
theorem gX11_factOf_X11_greatestOf : GoodIn wsX11_factOf (wsV RX11 199 RX11 yX11_greatestOf wsX11_greatestOf) := goodIn_app (goodIn_of _ (by decide +kernel)) ggX11_factOf_X11_greatestOf
set_option maxRecDepth 20000 in
theorem ggX11_factOf_X11_layOnes : GoodIn wsX11_factOf wsX11_layOnes := goodIn_r _ [43, 3, 38, 44, 45, 46, 8, 47, 1, 48, 4, 49, 50, 51, 52, 53, 54, 55, 56, 57, 58, 59, 60, 2, 61, 62, 63, 64, 65, 114, 115, 116, 117, 118, 119, 120, 121, 122, 123, 124, 125, 126, 127, 128, 129, 130, 131, 132, 133, 134, 135, 136, 137, 138, 139, 140, 141, 142, 143, 144, 145, 146, 147, 148, 149, 150, 151, 152, 153, 154, 155, 156, 157, 158, 159, 160, 161, 162, 163, 164, 165, 166, 167] (by decide +kernel) (by decide +kernel)
set_option maxRecDepth 20000 in
theorem gX11_factOf_X11_layOnes : GoodIn wsX11_factOf (wsV RX11 222 RX11 yX11_layOnes wsX11_layOnes) := goodIn_app (goodIn_of _ (by decide +kernel)) ggX11_factOf_X11_layOnes
set_option maxRecDepth 20000 in
theorem ggX11_factOf_X11_bits : GoodIn wsX11_factOf wsX11_bits := goodIn_r _ [68] (by decide +kernel) (by decide +kernel)
set_option maxRecDepth 20000 in
theorem gX11_factOf_X11_bits : GoodIn wsX11_factOf (va_wsS RX11 247 yX11_bits wsX11_bits) := goodIn_app (goodIn_of _ (by decide +kernel)) ggX11_factOf_X11_bits
set_option maxRecDepth 20000 in
theorem ggX11_factOf_X11_explainedOf : GoodIn wsX11_factOf wsX11_explainedOf := goodIn_r _ [72, 73, 74, 1, 75, 59, 76, 77, 4, 2, 78, 79, 80, 8, 81, 82, 83, 84, 85, 86, 114, 115, 116, 117, 118, 119, 120, 121, 122, 123, 124, 125, 126, 127, 128, 129, 130, 131, 132, 133, 134, 135, 136, 137, 138, 139, 140, 141, 142, 143, 144, 145, 146, 147, 148, 149, 150, 151, 152, 153, 154, 155, 156, 157, 158, 159, 160, 161, 162, 163, 164, 165, 166, 167] (by decide +kernel) (by decide +kernel)
set_option maxRecDepth 20000 in
theorem gX11_factOf_X11_explainedOf : GoodIn wsX11_factOf (wsV RX11 234 RX11 yX11_explainedOf wsX11_explainedOf) := goodIn_app (goodIn_of _ (by decide +kernel)) ggX11_factOf_X11_explainedOf
set_option maxRecDepth 20000 in
theorem ggX11_factOf_X11_layHands : GoodIn wsX11_factOf wsX11_layHands := goodIn_r _ [90, 91, 92, 1, 2, 3, 4, 40, 41, 42, 8, 43, 38, 44, 45, 46, 47, 48, 49, 50, 51, 52, 53, 54, 55, 56, 57, 58, 59, 60, 61, 62, 63, 64, 65, 114, 115, 116, 117, 118, 119, 120, 121, 122, 123, 124, 125, 126, 127, 128, 129, 130, 131, 132, 133, 134, 135, 136, 137, 138, 139, 140, 141, 142, 143, 144, 145, 146, 147, 148, 149, 150, 151, 152, 153, 154, 155, 156, 157, 158, 159, 160, 161, 162, 163, 164, 165, 166, 167] (by decide +kernel) (by decide +kernel)
set_option maxRecDepth 20000 in
theorem gX11_factOf_X11_layHands : GoodIn wsX11_factOf (wsV RX11 259 RX11 yX11_layHands wsX11_layHands) := goodIn_app (goodIn_of _ (by decide +kernel)) ggX11_factOf_X11_layHands
set_option maxRecDepth 20000 in
theorem ggX11_factOf_X11_ringOf : GoodIn wsX11_factOf wsX11_ringOf := goodIn_r _ [96, 91, 97, 98, 99, 8, 100, 101, 92, 114, 115, 116, 117, 118, 119, 120, 121, 122, 123, 124, 125, 126, 127, 128, 129, 130, 131, 132, 133, 134, 135, 136, 137, 138, 139, 140, 141, 142, 143, 144, 145, 146, 147, 148, 149, 150, 151, 152, 153, 154, 155, 156, 157, 158, 159, 160, 161, 162, 163, 164, 165, 166, 167] (by decide +kernel) (by decide +kernel)
set_option maxRecDepth 20000 in
theorem gX11_factOf_X11_ringOf : GoodIn wsX11_factOf (wsV RX11 265 RX11 yX11_ringOf wsX11_ringOf) := goodIn_app (goodIn_of _ (by decide +kernel)) ggX11_factOf_X11_ringOf
set_option maxRecDepth 20000 in
theorem ggX11_factOf_X11_neededOf : GoodIn wsX11_factOf wsX11_neededOf := goodIn_r _ [105, 106, 107, 108, 66, 67, 8, 68, 109, 110, 111, 112, 113, 114, 115, 116, 117, 118, 119, 120, 121, 122, 123, 124, 125, 126, 127, 128, 129, 130, 131, 132, 133, 134, 135, 136, 137, 138, 139, 140, 141, 142, 143, 144, 145, 146, 147, 148, 149, 150, 151, 152, 153, 154, 155, 156, 157, 158, 159, 160, 161, 162, 163, 164, 165, 166, 167] (by decide +kernel) (by decide +kernel)
set_option maxRecDepth 20000 in
theorem gX11_factOf_X11_neededOf : GoodIn wsX11_factOf (wsV RX11 256 RX11 yX11_neededOf wsX11_neededOf) := goodIn_app (goodIn_of _ (by decide +kernel)) ggX11_factOf_X11_neededOf
theorem dX11_factOf_0 : decode cX11_factOf 0 = .ok (.iload_n 2, 1) := by decide +kernel
theorem dX11_factOf_1 : decode cX11_factOf 1 = .ok (.tableswitch 135 1 4 #[31, 37, 112, 118], 31) := by decide +kernel
theorem dX11_factOf_32 : decode cX11_factOf 32 = .ok (.aload_n 0, 1) := by decide +kernel
theorem dX11_factOf_33 : decode cX11_factOf 33 = .ok (.iload_n 1, 1) := by decide +kernel
theorem dX11_factOf_34 : decode cX11_factOf 34 = .ok (.invokevirtual 199, 3) := by decide +kernel
theorem dX11_factOf_37 : decode cX11_factOf 37 = .ok (.ireturn, 1) := by decide +kernel
theorem dX11_factOf_38 : decode cX11_factOf 38 = .ok (.aload_n 0, 1) := by decide +kernel
theorem dX11_factOf_39 : decode cX11_factOf 39 = .ok (.invokevirtual 222, 3) := by decide +kernel
theorem dX11_factOf_42 : decode cX11_factOf 42 = .ok (.iconst 0, 1) := by decide +kernel
theorem dX11_factOf_43 : decode cX11_factOf 43 = .ok (.istore_n 3, 1) := by decide +kernel
theorem dX11_factOf_44 : decode cX11_factOf 44 = .ok (.iconst 0, 1) := by decide +kernel
theorem dX11_factOf_45 : decode cX11_factOf 45 = .ok (.istore 4, 2) := by decide +kernel
theorem dX11_factOf_47 : decode cX11_factOf 47 = .ok (.iload 4, 2) := by decide +kernel
theorem dX11_factOf_49 : decode cX11_factOf 49 = .ok (.aload_n 0, 1) := by decide +kernel
theorem dX11_factOf_50 : decode cX11_factOf 50 = .ok (.getfield 205, 3) := by decide +kernel
theorem dX11_factOf_53 : decode cX11_factOf 53 = .ok (.if_icmp .ge 55, 3) := by decide +kernel
theorem dX11_factOf_56 : decode cX11_factOf 56 = .ok (.iload_n 3, 1) := by decide +kernel
theorem dX11_factOf_57 : decode cX11_factOf 57 = .ok (.aload_n 0, 1) := by decide +kernel
theorem dX11_factOf_58 : decode cX11_factOf 58 = .ok (.getfield 43, 3) := by decide +kernel
theorem dX11_factOf_61 : decode cX11_factOf 61 = .ok (.iload 4, 2) := by decide +kernel
theorem dX11_factOf_63 : decode cX11_factOf 63 = .ok (.iaload, 1) := by decide +kernel
theorem dX11_factOf_64 : decode cX11_factOf 64 = .ok (.iload_n 1, 1) := by decide +kernel
theorem dX11_factOf_65 : decode cX11_factOf 65 = .ok (.if_icmp .ne 34, 3) := by decide +kernel
theorem dX11_factOf_68 : decode cX11_factOf 68 = .ok (.aload_n 0, 1) := by decide +kernel
theorem dX11_factOf_69 : decode cX11_factOf 69 = .ok (.getfield 120, 3) := by decide +kernel
theorem dX11_factOf_72 : decode cX11_factOf 72 = .ok (.aload_n 0, 1) := by decide +kernel
theorem dX11_factOf_73 : decode cX11_factOf 73 = .ok (.getfield 40, 3) := by decide +kernel
theorem dX11_factOf_76 : decode cX11_factOf 76 = .ok (.iload 4, 2) := by decide +kernel
theorem dX11_factOf_78 : decode cX11_factOf 78 = .ok (.iaload, 1) := by decide +kernel
theorem dX11_factOf_79 : decode cX11_factOf 79 = .ok (.iaload, 1) := by decide +kernel
theorem dX11_factOf_80 : decode cX11_factOf 80 = .ok (.invokestatic 247, 3) := by decide +kernel
theorem dX11_factOf_83 : decode cX11_factOf 83 = .ok (.iconst 1, 1) := by decide +kernel
theorem dX11_factOf_84 : decode cX11_factOf 84 = .ok (.if_icmp .le 15, 3) := by decide +kernel
theorem dX11_factOf_87 : decode cX11_factOf 87 = .ok (.iconst 1, 1) := by decide +kernel
theorem dX11_factOf_88 : decode cX11_factOf 88 = .ok (.aload_n 0, 1) := by decide +kernel
theorem dX11_factOf_89 : decode cX11_factOf 89 = .ok (.getfield 40, 3) := by decide +kernel
theorem dX11_factOf_92 : decode cX11_factOf 92 = .ok (.iload 4, 2) := by decide +kernel
theorem dX11_factOf_94 : decode cX11_factOf 94 = .ok (.iaload, 1) := by decide +kernel
theorem dX11_factOf_95 : decode cX11_factOf 95 = .ok (.ishl, 1) := by decide +kernel
theorem dX11_factOf_96 : decode cX11_factOf 96 = .ok (.goto 4, 3) := by decide +kernel
theorem dX11_factOf_99 : decode cX11_factOf 99 = .ok (.iconst 0, 1) := by decide +kernel
theorem dX11_factOf_100 : decode cX11_factOf 100 = .ok (.ior, 1) := by decide +kernel
theorem dX11_factOf_101 : decode cX11_factOf 101 = .ok (.istore_n 3, 1) := by decide +kernel
theorem dX11_factOf_102 : decode cX11_factOf 102 = .ok (.iinc 4 1, 3) := by decide +kernel
theorem dX11_factOf_105 : decode cX11_factOf 105 = .ok (.goto (-58), 3) := by decide +kernel
theorem dX11_factOf_108 : decode cX11_factOf 108 = .ok (.iload_n 3, 1) := by decide +kernel
theorem dX11_factOf_109 : decode cX11_factOf 109 = .ok (.invokestatic 247, 3) := by decide +kernel
theorem dX11_factOf_112 : decode cX11_factOf 112 = .ok (.ireturn, 1) := by decide +kernel
theorem dX11_factOf_113 : decode cX11_factOf 113 = .ok (.aload_n 0, 1) := by decide +kernel
theorem dX11_factOf_114 : decode cX11_factOf 114 = .ok (.iload_n 1, 1) := by decide +kernel
theorem dX11_factOf_115 : decode cX11_factOf 115 = .ok (.invokevirtual 234, 3) := by decide +kernel
theorem dX11_factOf_118 : decode cX11_factOf 118 = .ok (.ireturn, 1) := by decide +kernel
theorem dX11_factOf_119 : decode cX11_factOf 119 = .ok (.aload_n 0, 1) := by decide +kernel
theorem dX11_factOf_120 : decode cX11_factOf 120 = .ok (.invokevirtual 259, 3) := by decide +kernel
theorem dX11_factOf_123 : decode cX11_factOf 123 = .ok (.aload_n 0, 1) := by decide +kernel
theorem dX11_factOf_124 : decode cX11_factOf 124 = .ok (.iload_n 1, 1) := by decide +kernel
theorem dX11_factOf_125 : decode cX11_factOf 125 = .ok (.bipush (-6), 2) := by decide +kernel
theorem dX11_factOf_127 : decode cX11_factOf 127 = .ok (.bipush (-6), 2) := by decide +kernel
theorem dX11_factOf_129 : decode cX11_factOf 129 = .ok (.invokevirtual 265, 3) := by decide +kernel
theorem dX11_factOf_132 : decode cX11_factOf 132 = .ok (.invokestatic 247, 3) := by decide +kernel
theorem dX11_factOf_135 : decode cX11_factOf 135 = .ok (.ireturn, 1) := by decide +kernel
theorem dX11_factOf_136 : decode cX11_factOf 136 = .ok (.aload_n 0, 1) := by decide +kernel
theorem dX11_factOf_137 : decode cX11_factOf 137 = .ok (.iload_n 1, 1) := by decide +kernel
theorem dX11_factOf_138 : decode cX11_factOf 138 = .ok (.invokevirtual 256, 3) := by decide +kernel
theorem dX11_factOf_141 : decode cX11_factOf 141 = .ok (.invokestatic 247, 3) := by decide +kernel
theorem dX11_factOf_144 : decode cX11_factOf 144 = .ok (.ireturn, 1) := by decide +kernel
