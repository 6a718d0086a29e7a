set_option maxRecDepth 20000 in
theorem ggX11_isProof_X11_factAt : GoodIn wsX11_isProof wsX11_factAt := goodIn_r _ [6] (by decide +kernel) (by decide +kernel)
set_option maxRecDepth 20000 in
theorem gX11_isProof_X11_factAt : GoodIn wsX11_isProof (va_wsS RX11 301 yX11_factAt wsX11_factAt) := goodIn_app (goodIn_of _ (by decide +kernel)) ggX11_isProof_X11_factAt
set_option maxRecDepth 20000 in
theorem ggX11_isProof_X11_factOf : GoodIn wsX11_isProof wsX11_factOf := goodIn_r _ [10, 11, 12, 13, 14, 15, 16, 17, 5, 18, 19, 20, 21, 22, 23, 24, 25, 26, 27, 28, 29, 30, 31, 32, 33, 34, 35, 36, 37, 38, 39, 40, 41, 42, 43, 44, 45, 46, 47, 48, 49, 50, 51, 52, 53, 54, 55, 56, 57, 58, 59, 60, 61, 62, 63, 64, 65, 66, 67, 68, 69, 70, 71, 72, 73, 74, 75, 76, 77, 78, 79, 80, 81, 82, 83, 84, 85, 86, 87, 88, 89, 90, 91, 92, 93, 94, 95, 96, 97, 98, 99, 100, 101, 102, 103, 104, 105, 106, 107, 108, 109, 110, 111, 112, 113, 114, 115, 116, 117, 118, 119, 120, 121, 122, 126, 127, 128, 129, 130, 131, 132, 133, 134, 135, 136, 137, 138, 139, 140, 141, 142, 143, 144, 145, 146, 147, 148, 149, 150, 151, 152, 153, 154, 155, 156, 157, 158, 159, 160, 161, 162, 163, 164, 165, 166, 167, 168, 169, 170, 171, 172, 173, 174, 175, 176, 177, 178, 179] (by decide +kernel) (by decide +kernel)
set_option maxRecDepth 20000 in
theorem gX11_isProof_X11_factOf : GoodIn wsX11_isProof (wsV RX11 311 RX11 yX11_factOf wsX11_factOf) := goodIn_app (goodIn_of _ (by decide +kernel)) ggX11_isProof_X11_factOf
set_option maxRecDepth 20000 in
theorem ggX11_isProof_X11_in : GoodIn wsX11_isProof wsX11_in := goodIn_r _ [125] (by decide +kernel) (by decide +kernel)
set_option maxRecDepth 20000 in
theorem gX11_isProof_X11_in : GoodIn wsX11_isProof (va_wsS RX11 138 yX11_in wsX11_in) := goodIn_app (goodIn_of _ (by decide +kernel)) ggX11_isProof_X11_in
theorem dX11_isProof_0 : decode cX11_isProof 0 = .ok (.iconst 0, 1) := by decide +kernel
theorem dX11_isProof_1 : decode cX11_isProof 1 = .ok (.istore_n 2, 1) := by decide +kernel
theorem dX11_isProof_2 : decode cX11_isProof 2 = .ok (.iconst 1, 1) := by decide +kernel
theorem dX11_isProof_3 : decode cX11_isProof 3 = .ok (.istore_n 3, 1) := by decide +kernel
theorem dX11_isProof_4 : decode cX11_isProof 4 = .ok (.iconst 0, 1) := by decide +kernel
theorem dX11_isProof_5 : decode cX11_isProof 5 = .ok (.istore 4, 2) := by decide +kernel
theorem dX11_isProof_7 : decode cX11_isProof 7 = .ok (.iload 4, 2) := by decide +kernel
theorem dX11_isProof_9 : decode cX11_isProof 9 = .ok (.aload_n 0, 1) := by decide +kernel
theorem dX11_isProof_10 : decode cX11_isProof 10 = .ok (.getfield 308, 3) := by decide +kernel
theorem dX11_isProof_13 : decode cX11_isProof 13 = .ok (.if_icmp .ge 172, 3) := by decide +kernel
theorem dX11_isProof_16 : decode cX11_isProof 16 = .ok (.aload_n 0, 1) := by decide +kernel
theorem dX11_isProof_17 : decode cX11_isProof 17 = .ok (.iload_n 1, 1) := by decide +kernel
theorem dX11_isProof_18 : decode cX11_isProof 18 = .ok (.aload_n 0, 1) := by decide +kernel
theorem dX11_isProof_19 : decode cX11_isProof 19 = .ok (.getfield 101, 3) := by decide +kernel
theorem dX11_isProof_22 : decode cX11_isProof 22 = .ok (.iload 4, 2) := by decide +kernel
theorem dX11_isProof_24 : decode cX11_isProof 24 = .ok (.iaload, 1) := by decide +kernel
theorem dX11_isProof_25 : decode cX11_isProof 25 = .ok (.invokestatic 301, 3) := by decide +kernel
theorem dX11_isProof_28 : decode cX11_isProof 28 = .ok (.invokevirtual 311, 3) := by decide +kernel
theorem dX11_isProof_31 : decode cX11_isProof 31 = .ok (.istore 5, 2) := by decide +kernel
theorem dX11_isProof_33 : decode cX11_isProof 33 = .ok (.aload_n 0, 1) := by decide +kernel
theorem dX11_isProof_34 : decode cX11_isProof 34 = .ok (.getfield 101, 3) := by decide +kernel
theorem dX11_isProof_37 : decode cX11_isProof 37 = .ok (.iload 4, 2) := by decide +kernel
theorem dX11_isProof_39 : decode cX11_isProof 39 = .ok (.iconst 1, 1) := by decide +kernel
theorem dX11_isProof_40 : decode cX11_isProof 40 = .ok (.iadd, 1) := by decide +kernel
theorem dX11_isProof_41 : decode cX11_isProof 41 = .ok (.iaload, 1) := by decide +kernel
theorem dX11_isProof_42 : decode cX11_isProof 42 = .ok (.bipush 60, 2) := by decide +kernel
theorem dX11_isProof_44 : decode cX11_isProof 44 = .ok (.if_icmp .ne 7, 3) := by decide +kernel
theorem dX11_isProof_47 : decode cX11_isProof 47 = .ok (.iconst 1, 1) := by decide +kernel
theorem dX11_isProof_48 : decode cX11_isProof 48 = .ok (.goto 4, 3) := by decide +kernel
theorem dX11_isProof_51 : decode cX11_isProof 51 = .ok (.iconst 0, 1) := by decide +kernel
theorem dX11_isProof_52 : decode cX11_isProof 52 = .ok (.istore 6, 2) := by decide +kernel
theorem dX11_isProof_54 : decode cX11_isProof 54 = .ok (.iconst 0, 1) := by decide +kernel
theorem dX11_isProof_55 : decode cX11_isProof 55 = .ok (.istore 7, 2) := by decide +kernel
theorem dX11_isProof_57 : decode cX11_isProof 57 = .ok (.iinc 4 2, 3) := by decide +kernel
theorem dX11_isProof_60 : decode cX11_isProof 60 = .ok (.iload 4, 2) := by decide +kernel
theorem dX11_isProof_62 : decode cX11_isProof 62 = .ok (.aload_n 0, 1) := by decide +kernel
theorem dX11_isProof_63 : decode cX11_isProof 63 = .ok (.getfield 308, 3) := by decide +kernel
theorem dX11_isProof_66 : decode cX11_isProof 66 = .ok (.if_icmp .ge 44, 3) := by decide +kernel
theorem dX11_isProof_69 : decode cX11_isProof 69 = .ok (.aload_n 0, 1) := by decide +kernel
theorem dX11_isProof_70 : decode cX11_isProof 70 = .ok (.getfield 101, 3) := by decide +kernel
theorem dX11_isProof_73 : decode cX11_isProof 73 = .ok (.iload 4, 2) := by decide +kernel
theorem dX11_isProof_75 : decode cX11_isProof 75 = .ok (.iaload, 1) := by decide +kernel
theorem dX11_isProof_76 : decode cX11_isProof 76 = .ok (.bipush 48, 2) := by decide +kernel
theorem dX11_isProof_78 : decode cX11_isProof 78 = .ok (.bipush 57, 2) := by decide +kernel
theorem dX11_isProof_80 : decode cX11_isProof 80 = .ok (.invokestatic 138, 3) := by decide +kernel
theorem dX11_isProof_83 : decode cX11_isProof 83 = .ok (.ifCond .eq 27, 3) := by decide +kernel
theorem dX11_isProof_86 : decode cX11_isProof 86 = .ok (.bipush 10, 2) := by decide +kernel
theorem dX11_isProof_88 : decode cX11_isProof 88 = .ok (.iload 7, 2) := by decide +kernel
theorem dX11_isProof_90 : decode cX11_isProof 90 = .ok (.imul, 1) := by decide +kernel
theorem dX11_isProof_91 : decode cX11_isProof 91 = .ok (.aload_n 0, 1) := by decide +kernel
theorem dX11_isProof_92 : decode cX11_isProof 92 = .ok (.getfield 101, 3) := by decide +kernel
theorem dX11_isProof_95 : decode cX11_isProof 95 = .ok (.iload 4, 2) := by decide +kernel
theorem dX11_isProof_97 : decode cX11_isProof 97 = .ok (.iaload, 1) := by decide +kernel
theorem dX11_isProof_98 : decode cX11_isProof 98 = .ok (.iadd, 1) := by decide +kernel
theorem dX11_isProof_99 : decode cX11_isProof 99 = .ok (.bipush 48, 2) := by decide +kernel
theorem dX11_isProof_101 : decode cX11_isProof 101 = .ok (.isub, 1) := by decide +kernel
theorem dX11_isProof_102 : decode cX11_isProof 102 = .ok (.istore 7, 2) := by decide +kernel
theorem dX11_isProof_104 : decode cX11_isProof 104 = .ok (.iinc 4 1, 3) := by decide +kernel
theorem dX11_isProof_107 : decode cX11_isProof 107 = .ok (.goto (-47), 3) := by decide +kernel
theorem dX11_isProof_110 : decode cX11_isProof 110 = .ok (.iload_n 3, 1) := by decide +kernel
theorem dX11_isProof_111 : decode cX11_isProof 111 = .ok (.ifCond .eq 29, 3) := by decide +kernel
theorem dX11_isProof_114 : decode cX11_isProof 114 = .ok (.iload 6, 2) := by decide +kernel
theorem dX11_isProof_116 : decode cX11_isProof 116 = .ok (.ifCond .eq 13, 3) := by decide +kernel
theorem dX11_isProof_119 : decode cX11_isProof 119 = .ok (.iload 5, 2) := by decide +kernel
theorem dX11_isProof_121 : decode cX11_isProof 121 = .ok (.iload 7, 2) := by decide +kernel
theorem dX11_isProof_123 : decode cX11_isProof 123 = .ok (.if_icmp .ge 17, 3) := by decide +kernel
theorem dX11_isProof_126 : decode cX11_isProof 126 = .ok (.goto 10, 3) := by decide +kernel
theorem dX11_isProof_129 : decode cX11_isProof 129 = .ok (.iload 5, 2) := by decide +kernel
theorem dX11_isProof_131 : decode cX11_isProof 131 = .ok (.iload 7, 2) := by decide +kernel
theorem dX11_isProof_133 : decode cX11_isProof 133 = .ok (.if_icmp .le 7, 3) := by decide +kernel
theorem dX11_isProof_136 : decode cX11_isProof 136 = .ok (.iconst 1, 1) := by decide +kernel
theorem dX11_isProof_137 : decode cX11_isProof 137 = .ok (.goto 4, 3) := by decide +kernel
theorem dX11_isProof_140 : decode cX11_isProof 140 = .ok (.iconst 0, 1) := by decide +kernel
theorem dX11_isProof_141 : decode cX11_isProof 141 = .ok (.istore_n 3, 1) := by decide +kernel
theorem dX11_isProof_142 : decode cX11_isProof 142 = .ok (.iload 4, 2) := by decide +kernel
theorem dX11_isProof_144 : decode cX11_isProof 144 = .ok (.aload_n 0, 1) := by decide +kernel
theorem dX11_isProof_145 : decode cX11_isProof 145 = .ok (.getfield 308, 3) := by decide +kernel
theorem dX11_isProof_148 : decode cX11_isProof 148 = .ok (.if_icmp .eq 15, 3) := by decide +kernel
theorem dX11_isProof_151 : decode cX11_isProof 151 = .ok (.aload_n 0, 1) := by decide +kernel
theorem dX11_isProof_152 : decode cX11_isProof 152 = .ok (.getfield 101, 3) := by decide +kernel
theorem dX11_isProof_155 : decode cX11_isProof 155 = .ok (.iload 4, 2) := by decide +kernel
theorem dX11_isProof_157 : decode cX11_isProof 157 = .ok (.iaload, 1) := by decide +kernel
theorem dX11_isProof_158 : decode cX11_isProof 158 = .ok (.bipush 124, 2) := by decide +kernel
theorem dX11_isProof_160 : decode cX11_isProof 160 = .ok (.if_icmp .ne 19, 3) := by decide +kernel
theorem dX11_isProof_163 : decode cX11_isProof 163 = .ok (.iload_n 2, 1) := by decide +kernel
theorem dX11_isProof_164 : decode cX11_isProof 164 = .ok (.ifCond .ne 7, 3) := by decide +kernel
theorem dX11_isProof_167 : decode cX11_isProof 167 = .ok (.iload_n 3, 1) := by decide +kernel
theorem dX11_isProof_168 : decode cX11_isProof 168 = .ok (.ifCond .eq 7, 3) := by decide +kernel
theorem dX11_isProof_171 : decode cX11_isProof 171 = .ok (.iconst 1, 1) := by decide +kernel
theorem dX11_isProof_172 : decode cX11_isProof 172 = .ok (.goto 4, 3) := by decide +kernel
theorem dX11_isProof_175 : decode cX11_isProof 175 = .ok (.iconst 0, 1) := by decide +kernel
theorem dX11_isProof_176 : decode cX11_isProof 176 = .ok (.istore_n 2, 1) := by decide +kernel
theorem dX11_isProof_177 : decode cX11_isProof 177 = .ok (.iconst 1, 1) := by decide +kernel
theorem dX11_isProof_178 : decode cX11_isProof 178 = .ok (.istore_n 3, 1) := by decide +kernel
theorem dX11_isProof_179 : decode cX11_isProof 179 = .ok (.iinc 4 1, 3) := by decide +kernel
theorem dX11_isProof_182 : decode cX11_isProof 182 = .ok (.goto (-175), 3) := by decide +kernel
theorem dX11_isProof_185 : decode cX11_isProof 185 = .ok (.iload_n 2, 1) := by decide +kernel
theorem dX11_isProof_186 : decode cX11_isProof 186 = .ok (.ireturn, 1) := by decide +kernel
set_option maxRecDepth 20000 in
theorem ggX11_proof_X11_isMatch : GoodIn wsX11_proof wsX11_isMatch := goodIn_r _ [6, 7, 8, 9, 5, 10, 135, 136, 137, 138, 139, 140, 141, 142, 143, 144, 145, 146, 147, 148, 149, 150, 151, 152, 153, 154, 155, 156, 157, 158, 159, 160, 161, 162, 163, 164, 165, 166, 167, 168, 169, 170, 171, 172, 173, 174, 175, 176, 177, 178, 179, 180, 181, 182, 183, 184, 185, 186, 187, 188] (by decide +kernel) (by decide +kernel)
set_option maxRecDepth 20000 in
theorem gX11_proof_X11_isMatch : GoodIn wsX11_proof (wsV RX11 153 RX11 yX11_isMatch wsX11_isMatch) := goodIn_app (goodIn_of _ (by decide +kernel)) ggX11_proof_X11_isMatch
set_option maxRecDepth 20000 in
theorem ggX11_proof_X11_in : GoodIn wsX11_proof wsX11_in := goodIn_r _ [10] (by decide +kernel) (by decide +kernel)
set_option maxRecDepth 20000 in
theorem gX11_proof_X11_in : GoodIn wsX11_proof (va_wsS RX11 138 yX11_in wsX11_in) := goodIn_app (goodIn_of _ (by decide +kernel)) ggX11_proof_X11_in
set_option maxRecDepth 20000 in
theorem ggX11_proof_X11_isProof : GoodIn wsX11_proof wsX11_isProof := goodIn_r _ [14, 15, 16, 17, 18, 5, 19, 20, 21, 22, 23, 24, 25, 26, 27, 28, 29, 30, 31, 32, 33, 34, 35, 36, 37, 38, 39, 40, 41, 42, 43, 44, 45, 46, 47, 48, 49, 50, 51, 52, 53, 54, 55, 56, 57, 58, 59, 60, 61, 62, 63, 64, 65, 66, 67, 68, 69, 70, 71, 72, 73, 74, 75, 76, 77, 78, 79, 80, 81, 82, 83, 84, 85, 86, 87, 88, 89, 90, 91, 92, 93, 94, 95, 96, 97, 98, 99, 100, 101, 102, 103, 104, 105, 106, 107, 108, 109, 110, 111, 112, 7, 113, 114, 115, 116, 117, 118, 119, 120, 121, 122, 123, 124, 125, 126, 127, 128, 129, 130, 131, 132, 133, 134, 8, 9, 10, 135, 136, 137, 138, 139, 140, 141, 142, 143, 144, 145, 146, 147, 148, 149, 150, 151, 152, 153, 154, 155, 156, 157, 158, 159, 160, 161, 162, 163, 164, 165, 166, 167, 168, 169, 170, 171, 172, 173, 174, 175, 176, 177, 178, 179, 180, 181, 182, 183, 184, 185, 186, 187, 188] (by decide +kernel) (by decide +kernel)
set_option maxRecDepth 20000 in
theorem gX11_proof_X11_isProof : GoodIn wsX11_proof (wsV RX11 314 RX11 yX11_isProof wsX11_isProof) := goodIn_app (goodIn_of _ (by decide +kernel)) ggX11_proof_X11_isProof
set_option maxRecDepth 20000 in
theorem ggX11_proof_X11_factOf : GoodIn wsX11_proof wsX11_factOf := goodIn_r _ [23, 24, 25, 26, 27, 28, 29, 30, 5, 31, 32, 33, 34, 35, 36, 37, 38, 39, 40, 41, 42, 43, 44, 45, 46, 47, 48, 49, 50, 51, 52, 53, 54, 55, 56, 57, 58, 59, 60, 61, 62, 63, 64, 65, 66, 67, 68, 69, 70, 71, 72, 73, 74, 75, 76, 77, 78, 79, 80, 81, 82, 83, 84, 85, 86, 87, 88, 89, 90, 91, 92, 93, 94, 95, 96, 97, 98, 99, 100, 101, 102, 103, 104, 105, 106, 107, 108, 109, 110, 111, 112, 7, 113, 114, 115, 116, 117, 118, 119, 120, 121, 122, 123, 124, 125, 126, 127, 128, 129, 130, 131, 132, 133, 134, 135, 136, 137, 138, 139, 140, 141, 142, 143, 144, 145, 146, 147, 148, 149, 150, 151, 152, 153, 154, 155, 156, 157, 158, 159, 160, 161, 162, 163, 164, 165, 166, 167, 168, 169, 170, 171, 172, 173, 174, 175, 176, 177, 178, 179, 180, 181, 182, 183, 184, 185, 186, 187, 188] (by decide +kernel) (by decide +kernel)
set_option maxRecDepth 20000 in
theorem gX11_proof_X11_factOf : GoodIn wsX11_proof (wsV RX11 311 RX11 yX11_factOf wsX11_factOf) := goodIn_app (goodIn_of _ (by decide +kernel)) ggX11_proof_X11_factOf
theorem dX11_proof_0 : decode cX11_proof 0 = .ok (.aload_n 0, 1) := by decide +kernel
theorem dX11_proof_1 : decode cX11_proof 1 = .ok (.iload_n 1, 1) := by decide +kernel
theorem dX11_proof_2 : decode cX11_proof 2 = .ok (.invokevirtual 153, 3) := by decide +kernel
theorem dX11_proof_5 : decode cX11_proof 5 = .ok (.ifCond .eq 12, 3) := by decide +kernel
theorem dX11_proof_8 : decode cX11_proof 8 = .ok (.iload_n 2, 1) := by decide +kernel
theorem dX11_proof_9 : decode cX11_proof 9 = .ok (.iconst 0, 1) := by decide +kernel
theorem dX11_proof_10 : decode cX11_proof 10 = .ok (.iconst 5, 1) := by decide +kernel
theorem dX11_proof_11 : decode cX11_proof 11 = .ok (.invokestatic 138, 3) := by decide +kernel
theorem dX11_proof_14 : decode cX11_proof 14 = .ok (.ifCond .ne 6, 3) := by decide +kernel
theorem dX11_proof_17 : decode cX11_proof 17 = .ok (.ldc 192, 2) := by decide +kernel
theorem dX11_proof_19 : decode cX11_proof 19 = .ok (.ireturn, 1) := by decide +kernel
theorem dX11_proof_20 : decode cX11_proof 20 = .ok (.iload_n 2, 1) := by decide +kernel
theorem dX11_proof_21 : decode cX11_proof 21 = .ok (.ifCond .ne 19, 3) := by decide +kernel
theorem dX11_proof_24 : decode cX11_proof 24 = .ok (.aload_n 0, 1) := by decide +kernel
theorem dX11_proof_25 : decode cX11_proof 25 = .ok (.iload_n 1, 1) := by decide +kernel
theorem dX11_proof_26 : decode cX11_proof 26 = .ok (.invokevirtual 314, 3) := by decide +kernel
theorem dX11_proof_29 : decode cX11_proof 29 = .ok (.ifCond .eq 7, 3) := by decide +kernel
theorem dX11_proof_32 : decode cX11_proof 32 = .ok (.iconst 1, 1) := by decide +kernel
theorem dX11_proof_33 : decode cX11_proof 33 = .ok (.goto 13, 3) := by decide +kernel
theorem dX11_proof_36 : decode cX11_proof 36 = .ok (.iconst 0, 1) := by decide +kernel
theorem dX11_proof_37 : decode cX11_proof 37 = .ok (.goto 9, 3) := by decide +kernel
theorem dX11_proof_40 : decode cX11_proof 40 = .ok (.aload_n 0, 1) := by decide +kernel
theorem dX11_proof_41 : decode cX11_proof 41 = .ok (.iload_n 1, 1) := by decide +kernel
theorem dX11_proof_42 : decode cX11_proof 42 = .ok (.iload_n 2, 1) := by decide +kernel
theorem dX11_proof_43 : decode cX11_proof 43 = .ok (.invokevirtual 311, 3) := by decide +kernel
theorem dX11_proof_46 : decode cX11_proof 46 = .ok (.ireturn, 1) := by decide +kernel
set_option maxRecDepth 20000 in
theorem ggX11_cost_X11_isMatch : GoodIn wsX11_cost wsX11_isMatch := goodIn_r _ [6, 7, 8, 9, 5, 10, 11, 12, 13, 14, 15, 16, 17, 18, 19, 20, 21, 22, 23, 24, 25, 26, 27, 28, 29, 30, 31, 32, 33, 34, 35, 36, 37, 38, 39, 40, 41, 42, 43, 44, 45, 46, 47, 48, 49, 50, 51, 52, 53, 54, 55, 56, 57, 58, 59, 60, 61, 62, 63, 64] (by decide +kernel) (by decide +kernel)
set_option maxRecDepth 20000 in
theorem gX11_cost_X11_isMatch : GoodIn wsX11_cost (wsV RX11 153 RX11 yX11_isMatch wsX11_isMatch) := goodIn_app (goodIn_of _ (by decide +kernel)) ggX11_cost_X11_isMatch
set_option maxRecDepth 20000 in
theorem ggX11_cost_X11_in : GoodIn wsX11_cost wsX11_in := goodIn_r _ [10] (by decide +kernel) (by decide +kernel)
set_option maxRecDepth 20000 in
theorem gX11_cost_X11_in : GoodIn wsX11_cost (va_wsS RX11 138 yX11_in wsX11_in) := goodIn_app (goodIn_of _ (by decide +kernel)) ggX11_cost_X11_in
theorem dX11_cost_0 : decode cX11_cost 0 = .ok (.aload_n 0, 1) := by decide +kernel
theorem dX11_cost_1 : decode cX11_cost 1 = .ok (.iload_n 1, 1) := by decide +kernel
theorem dX11_cost_2 : decode cX11_cost 2 = .ok (.invokevirtual 153, 3) := by decide +kernel
theorem dX11_cost_5 : decode cX11_cost 5 = .ok (.ifCond .ne 5, 3) := by decide +kernel
theorem dX11_cost_8 : decode cX11_cost 8 = .ok (.iconst (-1), 1) := by decide +kernel
theorem dX11_cost_9 : decode cX11_cost 9 = .ok (.ireturn, 1) := by decide +kernel
theorem dX11_cost_10 : decode cX11_cost 10 = .ok (.iload_n 2, 1) := by decide +kernel
theorem dX11_cost_11 : decode cX11_cost 11 = .ok (.iconst 0, 1) := by decide +kernel
theorem dX11_cost_12 : decode cX11_cost 12 = .ok (.bipush 100, 2) := by decide +kernel
theorem dX11_cost_14 : decode cX11_cost 14 = .ok (.invokestatic 138, 3) := by decide +kernel
theorem dX11_cost_17 : decode cX11_cost 17 = .ok (.ifCond .ne 6, 3) := by decide +kernel
theorem dX11_cost_20 : decode cX11_cost 20 = .ok (.bipush (-2), 2) := by decide +kernel
theorem dX11_cost_22 : decode cX11_cost 22 = .ok (.ireturn, 1) := by decide +kernel
theorem dX11_cost_23 : decode cX11_cost 23 = .ok (.aload_n 0, 1) := by decide +kernel
theorem dX11_cost_24 : decode cX11_cost 24 = .ok (.getfield 28, 3) := by decide +kernel
theorem dX11_cost_27 : decode cX11_cost 27 = .ok (.iload_n 1, 1) := by decide +kernel
theorem dX11_cost_28 : decode cX11_cost 28 = .ok (.iaload, 1) := by decide +kernel
theorem dX11_cost_29 : decode cX11_cost 29 = .ok (.istore_n 3, 1) := by decide +kernel
theorem dX11_cost_30 : decode cX11_cost 30 = .ok (.aload_n 0, 1) := by decide +kernel
theorem dX11_cost_31 : decode cX11_cost 31 = .ok (.getfield 28, 3) := by decide +kernel
theorem dX11_cost_34 : decode cX11_cost 34 = .ok (.iload_n 1, 1) := by decide +kernel
theorem dX11_cost_35 : decode cX11_cost 35 = .ok (.iload_n 2, 1) := by decide +kernel
theorem dX11_cost_36 : decode cX11_cost 36 = .ok (.iastore, 1) := by decide +kernel
theorem dX11_cost_37 : decode cX11_cost 37 = .ok (.iload_n 3, 1) := by decide +kernel
theorem dX11_cost_38 : decode cX11_cost 38 = .ok (.ireturn, 1) := by decide +kernel
set_option maxRecDepth 20000 in
theorem ggX11_looks_X11_in : GoodIn wsX11_looks wsX11_in := goodIn_r _ [7] (by decide +kernel) (by decide +kernel)
set_option maxRecDepth 20000 in
theorem gX11_looks_X11_in : GoodIn wsX11_looks (va_wsS RX11 138 yX11_in wsX11_in) := goodIn_app (goodIn_of _ (by decide +kernel)) ggX11_looks_X11_in
set_option maxRecDepth 20000 in
theorem ggX11_looks_X11_greatestOf : GoodIn wsX11_looks wsX11_greatestOf := goodIn_r _ [11, 12, 13, 14, 15, 6, 16, 17, 18, 19, 20, 21, 22, 23, 24, 25, 26, 27, 28, 29, 30, 31, 32, 33, 34, 35, 36, 37, 38, 39, 40, 41, 42, 43, 44, 45, 46, 47, 48, 49, 50, 51, 52, 53, 54, 55, 56, 57, 58, 59, 60, 61, 62, 63, 64, 65, 66, 67, 68, 69, 70, 71, 72, 73, 74, 75, 76, 77, 78, 79, 80, 81, 82, 83, 84, 85, 86, 87, 88, 89, 90, 91, 92, 93, 94, 95] (by decide +kernel) (by decide +kernel)
set_option maxRecDepth 20000 in
theorem gX11_looks_X11_greatestOf : GoodIn wsX11_looks (wsV RX11 199 RX11 yX11_greatestOf wsX11_greatestOf) := goodIn_app (goodIn_of _ (by decide +kernel)) ggX11_looks_X11_greatestOf
theorem dX11_looks_0 : decode cX11_looks 0 = .ok (.iload_n 1, 1) := by decide +kernel
theorem dX11_looks_1 : decode cX11_looks 1 = .ok (.iconst 0, 1) := by decide +kernel
theorem dX11_looks_2 : decode cX11_looks 2 = .ok (.sipush 1000, 3) := by decide +kernel
theorem dX11_looks_5 : decode cX11_looks 5 = .ok (.invokestatic 138, 3) := by decide +kernel
theorem dX11_looks_8 : decode cX11_looks 8 = .ok (.ifCond .eq 12, 3) := by decide +kernel
theorem dX11_looks_11 : decode cX11_looks 11 = .ok (.iload_n 2, 1) := by decide +kernel
theorem dX11_looks_12 : decode cX11_looks 12 = .ok (.iconst 0, 1) := by decide +kernel
theorem dX11_looks_13 : decode cX11_looks 13 = .ok (.iconst 1, 1) := by decide +kernel
theorem dX11_looks_14 : decode cX11_looks 14 = .ok (.invokestatic 138, 3) := by decide +kernel
theorem dX11_looks_17 : decode cX11_looks 17 = .ok (.ifCond .ne 6, 3) := by decide +kernel
theorem dX11_looks_20 : decode cX11_looks 20 = .ok (.bipush (-2), 2) := by decide +kernel
theorem dX11_looks_22 : decode cX11_looks 22 = .ok (.ireturn, 1) := by decide +kernel
theorem dX11_looks_23 : decode cX11_looks 23 = .ok (.iconst 0, 1) := by decide +kernel
theorem dX11_looks_24 : decode cX11_looks 24 = .ok (.istore_n 3, 1) := by decide +kernel
theorem dX11_looks_25 : decode cX11_looks 25 = .ok (.iconst 0, 1) := by decide +kernel
theorem dX11_looks_26 : decode cX11_looks 26 = .ok (.istore 4, 2) := by decide +kernel
theorem dX11_looks_28 : decode cX11_looks 28 = .ok (.iload 4, 2) := by decide +kernel
theorem dX11_looks_30 : decode cX11_looks 30 = .ok (.aload_n 0, 1) := by decide +kernel
theorem dX11_looks_31 : decode cX11_looks 31 = .ok (.getfield 142, 3) := by decide +kernel
theorem dX11_looks_34 : decode cX11_looks 34 = .ok (.if_icmp .ge 43, 3) := by decide +kernel
theorem dX11_looks_37 : decode cX11_looks 37 = .ok (.aload_n 0, 1) := by decide +kernel
theorem dX11_looks_38 : decode cX11_looks 38 = .ok (.getfield 135, 3) := by decide +kernel
theorem dX11_looks_41 : decode cX11_looks 41 = .ok (.iload 4, 2) := by decide +kernel
theorem dX11_looks_43 : decode cX11_looks 43 = .ok (.aload_n 0, 1) := by decide +kernel
theorem dX11_looks_44 : decode cX11_looks 44 = .ok (.iload 4, 2) := by decide +kernel
theorem dX11_looks_46 : decode cX11_looks 46 = .ok (.invokevirtual 199, 3) := by decide +kernel
theorem dX11_looks_49 : decode cX11_looks 49 = .ok (.iastore, 1) := by decide +kernel
theorem dX11_looks_50 : decode cX11_looks 50 = .ok (.iload_n 3, 1) := by decide +kernel
theorem dX11_looks_51 : decode cX11_looks 51 = .ok (.aload_n 0, 1) := by decide +kernel
theorem dX11_looks_52 : decode cX11_looks 52 = .ok (.getfield 135, 3) := by decide +kernel
theorem dX11_looks_55 : decode cX11_looks 55 = .ok (.iload 4, 2) := by decide +kernel
theorem dX11_looks_57 : decode cX11_looks 57 = .ok (.iaload, 1) := by decide +kernel
theorem dX11_looks_58 : decode cX11_looks 58 = .ok (.ifCond .le 10, 3) := by decide +kernel
theorem dX11_looks_61 : decode cX11_looks 61 = .ok (.iconst 1, 1) := by decide +kernel
theorem dX11_looks_62 : decode cX11_looks 62 = .ok (.iload 4, 2) := by decide +kernel
theorem dX11_looks_64 : decode cX11_looks 64 = .ok (.ishl, 1) := by decide +kernel
theorem dX11_looks_65 : decode cX11_looks 65 = .ok (.goto 4, 3) := by decide +kernel
theorem dX11_looks_68 : decode cX11_looks 68 = .ok (.iconst 0, 1) := by decide +kernel
theorem dX11_looks_69 : decode cX11_looks 69 = .ok (.ior, 1) := by decide +kernel
theorem dX11_looks_70 : decode cX11_looks 70 = .ok (.istore_n 3, 1) := by decide +kernel
theorem dX11_looks_71 : decode cX11_looks 71 = .ok (.iinc 4 1, 3) := by decide +kernel
theorem dX11_looks_74 : decode cX11_looks 74 = .ok (.goto (-46), 3) := by decide +kernel
theorem dX11_looks_77 : decode cX11_looks 77 = .ok (.iconst 0, 1) := by decide +kernel
theorem dX11_looks_78 : decode cX11_looks 78 = .ok (.istore 4, 2) := by decide +kernel
theorem dX11_looks_80 : decode cX11_looks 80 = .ok (.iconst 0, 1) := by decide +kernel
theorem dX11_looks_81 : decode cX11_looks 81 = .ok (.istore 5, 2) := by decide +kernel
theorem dX11_looks_83 : decode cX11_looks 83 = .ok (.iconst 0, 1) := by decide +kernel
theorem dX11_looks_84 : decode cX11_looks 84 = .ok (.istore 6, 2) := by decide +kernel
theorem dX11_looks_86 : decode cX11_looks 86 = .ok (.iconst 0, 1) := by decide +kernel
theorem dX11_looks_87 : decode cX11_looks 87 = .ok (.istore 7, 2) := by decide +kernel
theorem dX11_looks_89 : decode cX11_looks 89 = .ok (.iload 7, 2) := by decide +kernel
theorem dX11_looks_91 : decode cX11_looks 91 = .ok (.iconst 1, 1) := by decide +kernel
theorem dX11_looks_92 : decode cX11_looks 92 = .ok (.aload_n 0, 1) := by decide +kernel
theorem dX11_looks_93 : decode cX11_looks 93 = .ok (.getfield 142, 3) := by decide +kernel
theorem dX11_looks_96 : decode cX11_looks 96 = .ok (.ishl, 1) := by decide +kernel
theorem dX11_looks_97 : decode cX11_looks 97 = .ok (.if_icmp .ge 121, 3) := by decide +kernel
theorem dX11_looks_100 : decode cX11_looks 100 = .ok (.iconst 0, 1) := by decide +kernel
theorem dX11_looks_101 : decode cX11_looks 101 = .ok (.istore 8, 2) := by decide +kernel
theorem dX11_looks_103 : decode cX11_looks 103 = .ok (.iconst 0, 1) := by decide +kernel
theorem dX11_looks_104 : decode cX11_looks 104 = .ok (.istore 9, 2) := by decide +kernel
theorem dX11_looks_106 : decode cX11_looks 106 = .ok (.iconst 0, 1) := by decide +kernel
theorem dX11_looks_107 : decode cX11_looks 107 = .ok (.istore 10, 2) := by decide +kernel
theorem dX11_looks_109 : decode cX11_looks 109 = .ok (.iload 10, 2) := by decide +kernel
theorem dX11_looks_111 : decode cX11_looks 111 = .ok (.aload_n 0, 1) := by decide +kernel
theorem dX11_looks_112 : decode cX11_looks 112 = .ok (.getfield 142, 3) := by decide +kernel
theorem dX11_looks_115 : decode cX11_looks 115 = .ok (.if_icmp .ge 49, 3) := by decide +kernel
theorem dX11_looks_118 : decode cX11_looks 118 = .ok (.iload 8, 2) := by decide +kernel
theorem dX11_looks_120 : decode cX11_looks 120 = .ok (.iload 7, 2) := by decide +kernel
theorem dX11_looks_122 : decode cX11_looks 122 = .ok (.iload 10, 2) := by decide +kernel
theorem dX11_looks_124 : decode cX11_looks 124 = .ok (.ishr, 1) := by decide +kernel
theorem dX11_looks_125 : decode cX11_looks 125 = .ok (.iconst 1, 1) := by decide +kernel
theorem dX11_looks_126 : decode cX11_looks 126 = .ok (.iand, 1) := by decide +kernel
theorem dX11_looks_127 : decode cX11_looks 127 = .ok (.aload_n 0, 1) := by decide +kernel
theorem dX11_looks_128 : decode cX11_looks 128 = .ok (.getfield 135, 3) := by decide +kernel
theorem dX11_looks_131 : decode cX11_looks 131 = .ok (.iload 10, 2) := by decide +kernel
theorem dX11_looks_133 : decode cX11_looks 133 = .ok (.iaload, 1) := by decide +kernel
theorem dX11_looks_134 : decode cX11_looks 134 = .ok (.imul, 1) := by decide +kernel
theorem dX11_looks_135 : decode cX11_looks 135 = .ok (.iadd, 1) := by decide +kernel
theorem dX11_looks_136 : decode cX11_looks 136 = .ok (.istore 8, 2) := by decide +kernel
theorem dX11_looks_138 : decode cX11_looks 138 = .ok (.iload 9, 2) := by decide +kernel
theorem dX11_looks_140 : decode cX11_looks 140 = .ok (.iload 7, 2) := by decide +kernel
theorem dX11_looks_142 : decode cX11_looks 142 = .ok (.iload 10, 2) := by decide +kernel
theorem dX11_looks_144 : decode cX11_looks 144 = .ok (.ishr, 1) := by decide +kernel
theorem dX11_looks_145 : decode cX11_looks 145 = .ok (.iconst 1, 1) := by decide +kernel
theorem dX11_looks_146 : decode cX11_looks 146 = .ok (.iand, 1) := by decide +kernel
theorem dX11_looks_147 : decode cX11_looks 147 = .ok (.aload_n 0, 1) := by decide +kernel
theorem dX11_looks_148 : decode cX11_looks 148 = .ok (.getfield 28, 3) := by decide +kernel
theorem dX11_looks_151 : decode cX11_looks 151 = .ok (.iload 10, 2) := by decide +kernel
theorem dX11_looks_153 : decode cX11_looks 153 = .ok (.iaload, 1) := by decide +kernel
theorem dX11_looks_154 : decode cX11_looks 154 = .ok (.imul, 1) := by decide +kernel
theorem dX11_looks_155 : decode cX11_looks 155 = .ok (.iadd, 1) := by decide +kernel
theorem dX11_looks_156 : decode cX11_looks 156 = .ok (.istore 9, 2) := by decide +kernel
theorem dX11_looks_158 : decode cX11_looks 158 = .ok (.iinc 10 1, 3) := by decide +kernel
theorem dX11_looks_161 : decode cX11_looks 161 = .ok (.goto (-52), 3) := by decide +kernel
theorem dX11_looks_164 : decode cX11_looks 164 = .ok (.iload 7, 2) := by decide +kernel
theorem dX11_looks_166 : decode cX11_looks 166 = .ok (.iload_n 3, 1) := by decide +kernel
theorem dX11_looks_167 : decode cX11_looks 167 = .ok (.iconst (-1), 1) := by decide +kernel
theorem dX11_looks_168 : decode cX11_looks 168 = .ok (.ixor, 1) := by decide +kernel
theorem dX11_looks_169 : decode cX11_looks 169 = .ok (.iand, 1) := by decide +kernel
theorem dX11_looks_170 : decode cX11_looks 170 = .ok (.ifCond .ne 42, 3) := by decide +kernel
theorem dX11_looks_173 : decode cX11_looks 173 = .ok (.iload 9, 2) := by decide +kernel
theorem dX11_looks_175 : decode cX11_looks 175 = .ok (.iload_n 1, 1) := by decide +kernel
theorem dX11_looks_176 : decode cX11_looks 176 = .ok (.if_icmp .gt 36, 3) := by decide +kernel
theorem dX11_looks_179 : decode cX11_looks 179 = .ok (.iload 8, 2) := by decide +kernel
theorem dX11_looks_181 : decode cX11_looks 181 = .ok (.iload 5, 2) := by decide +kernel
theorem dX11_looks_183 : decode cX11_looks 183 = .ok (.if_icmp .gt 17, 3) := by decide +kernel
theorem dX11_looks_186 : decode cX11_looks 186 = .ok (.iload 8, 2) := by decide +kernel
theorem dX11_looks_188 : decode cX11_looks 188 = .ok (.iload 5, 2) := by decide +kernel
theorem dX11_looks_190 : decode cX11_looks 190 = .ok (.if_icmp .ne 22, 3) := by decide +kernel
theorem dX11_looks_193 : decode cX11_looks 193 = .ok (.iload 9, 2) := by decide +kernel
theorem dX11_looks_195 : decode cX11_looks 195 = .ok (.iload 6, 2) := by decide +kernel
theorem dX11_looks_197 : decode cX11_looks 197 = .ok (.if_icmp .ge 15, 3) := by decide +kernel
theorem dX11_looks_200 : decode cX11_looks 200 = .ok (.iload 7, 2) := by decide +kernel
theorem dX11_looks_202 : decode cX11_looks 202 = .ok (.istore 4, 2) := by decide +kernel
theorem dX11_looks_204 : decode cX11_looks 204 = .ok (.iload 8, 2) := by decide +kernel
theorem dX11_looks_206 : decode cX11_looks 206 = .ok (.istore 5, 2) := by decide +kernel
theorem dX11_looks_208 : decode cX11_looks 208 = .ok (.iload 9, 2) := by decide +kernel
theorem dX11_looks_210 : decode cX11_looks 210 = .ok (.istore 6, 2) := by decide +kernel
theorem dX11_looks_212 : decode cX11_looks 212 = .ok (.iinc 7 1, 3) := by decide +kernel
theorem dX11_looks_215 : decode cX11_looks 215 = .ok (.goto (-126), 3) := by decide +kernel
theorem dX11_looks_218 : decode cX11_looks 218 = .ok (.iload_n 2, 1) := by decide +kernel
theorem dX11_looks_219 : decode cX11_looks 219 = .ok (.ifCond .ne 8, 3) := by decide +kernel
theorem dX11_looks_222 : decode cX11_looks 222 = .ok (.iload 4, 2) := by decide +kernel
theorem dX11_looks_224 : decode cX11_looks 224 = .ok (.goto 5, 3) := by decide +kernel
theorem dX11_looks_227 : decode cX11_looks 227 = .ok (.iload 5, 2) := by decide +kernel
theorem dX11_looks_229 : decode cX11_looks 229 = .ok (.ireturn, 1) := by decide +kernel
theorem dX11_told_0 : decode cX11_told 0 = .ok (.iload_n 1, 1) := by decide +kernel
theorem dX11_told_1 : decode cX11_told 1 = .ok (.tableswitch 69 0 5 #[39, 44, 49, 54, 59, 64], 39) := by decide +kernel
theorem dX11_told_40 : decode cX11_told 40 = .ok (.aload_n 0, 1) := by decide +kernel
theorem dX11_told_41 : decode cX11_told 41 = .ok (.getfield 142, 3) := by decide +kernel
theorem dX11_told_44 : decode cX11_told 44 = .ok (.ireturn, 1) := by decide +kernel
theorem dX11_told_45 : decode cX11_told 45 = .ok (.aload_n 0, 1) := by decide +kernel
theorem dX11_told_46 : decode cX11_told 46 = .ok (.getfield 205, 3) := by decide +kernel
theorem dX11_told_49 : decode cX11_told 49 = .ok (.ireturn, 1) := by decide +kernel
theorem dX11_told_50 : decode cX11_told 50 = .ok (.aload_n 0, 1) := by decide +kernel
theorem dX11_told_51 : decode cX11_told 51 = .ok (.getfield 225, 3) := by decide +kernel
theorem dX11_told_54 : decode cX11_told 54 = .ok (.ireturn, 1) := by decide +kernel
theorem dX11_told_55 : decode cX11_told 55 = .ok (.aload_n 0, 1) := by decide +kernel
theorem dX11_told_56 : decode cX11_told 56 = .ok (.getfield 244, 3) := by decide +kernel
theorem dX11_told_59 : decode cX11_told 59 = .ok (.ireturn, 1) := by decide +kernel
theorem dX11_told_60 : decode cX11_told 60 = .ok (.aload_n 0, 1) := by decide +kernel
theorem dX11_told_61 : decode cX11_told 61 = .ok (.getfield 268, 3) := by decide +kernel
theorem dX11_told_64 : decode cX11_told 64 = .ok (.ireturn, 1) := by decide +kernel
theorem dX11_told_65 : decode cX11_told 65 = .ok (.aload_n 0, 1) := by decide +kernel
theorem dX11_told_66 : decode cX11_told 66 = .ok (.getfield 298, 3) := by decide +kernel
theorem dX11_told_69 : decode cX11_told 69 = .ok (.ireturn, 1) := by decide +kernel
theorem dX11_told_70 : decode cX11_told 70 = .ok (.bipush (-2), 2) := by decide +kernel
theorem dX11_told_72 : decode cX11_told 72 = .ok (.ireturn, 1) := by decide +kernel
theorem dJ6_bitCount_0f7a4_0 : decode cJ6_bitCount_0f7a4 0 = .ok (.iload_n 0, 1) := by decide +kernel
theorem dJ6_bitCount_0f7a4_1 : decode cJ6_bitCount_0f7a4 1 = .ok (.iload_n 0, 1) := by decide +kernel
theorem dJ6_bitCount_0f7a4_2 : decode cJ6_bitCount_0f7a4 2 = .ok (.iconst 1, 1) := by decide +kernel
theorem dJ6_bitCount_0f7a4_3 : decode cJ6_bitCount_0f7a4 3 = .ok (.iushr, 1) := by decide +kernel
theorem dJ6_bitCount_0f7a4_4 : decode cJ6_bitCount_0f7a4 4 = .ok (.ldc_w 265, 3) := by decide +kernel
theorem dJ6_bitCount_0f7a4_7 : decode cJ6_bitCount_0f7a4 7 = .ok (.iand, 1) := by decide +kernel
theorem dJ6_bitCount_0f7a4_8 : decode cJ6_bitCount_0f7a4 8 = .ok (.isub, 1) := by decide +kernel
theorem dJ6_bitCount_0f7a4_9 : decode cJ6_bitCount_0f7a4 9 = .ok (.istore_n 0, 1) := by decide +kernel
theorem dJ6_bitCount_0f7a4_10 : decode cJ6_bitCount_0f7a4 10 = .ok (.iload_n 0, 1) := by decide +kernel
theorem dJ6_bitCount_0f7a4_11 : decode cJ6_bitCount_0f7a4 11 = .ok (.ldc_w 266, 3) := by decide +kernel
theorem dJ6_bitCount_0f7a4_14 : decode cJ6_bitCount_0f7a4 14 = .ok (.iand, 1) := by decide +kernel
theorem dJ6_bitCount_0f7a4_15 : decode cJ6_bitCount_0f7a4 15 = .ok (.iload_n 0, 1) := by decide +kernel
theorem dJ6_bitCount_0f7a4_16 : decode cJ6_bitCount_0f7a4 16 = .ok (.iconst 2, 1) := by decide +kernel
theorem dJ6_bitCount_0f7a4_17 : decode cJ6_bitCount_0f7a4 17 = .ok (.iushr, 1) := by decide +kernel
theorem dJ6_bitCount_0f7a4_18 : decode cJ6_bitCount_0f7a4 18 = .ok (.ldc_w 266, 3) := by decide +kernel
theorem dJ6_bitCount_0f7a4_21 : decode cJ6_bitCount_0f7a4 21 = .ok (.iand, 1) := by decide +kernel
theorem dJ6_bitCount_0f7a4_22 : decode cJ6_bitCount_0f7a4 22 = .ok (.iadd, 1) := by decide +kernel
theorem dJ6_bitCount_0f7a4_23 : decode cJ6_bitCount_0f7a4 23 = .ok (.istore_n 0, 1) := by decide +kernel
theorem dJ6_bitCount_0f7a4_24 : decode cJ6_bitCount_0f7a4 24 = .ok (.iload_n 0, 1) := by decide +kernel
theorem dJ6_bitCount_0f7a4_25 : decode cJ6_bitCount_0f7a4 25 = .ok (.iload_n 0, 1) := by decide +kernel
theorem dJ6_bitCount_0f7a4_26 : decode cJ6_bitCount_0f7a4 26 = .ok (.iconst 4, 1) := by decide +kernel
theorem dJ6_bitCount_0f7a4_27 : decode cJ6_bitCount_0f7a4 27 = .ok (.iushr, 1) := by decide +kernel
theorem dJ6_bitCount_0f7a4_28 : decode cJ6_bitCount_0f7a4 28 = .ok (.iadd, 1) := by decide +kernel
theorem dJ6_bitCount_0f7a4_29 : decode cJ6_bitCount_0f7a4 29 = .ok (.ldc_w 267, 3) := by decide +kernel
theorem dJ6_bitCount_0f7a4_32 : decode cJ6_bitCount_0f7a4 32 = .ok (.iand, 1) := by decide +kernel
theorem dJ6_bitCount_0f7a4_33 : decode cJ6_bitCount_0f7a4 33 = .ok (.istore_n 0, 1) := by decide +kernel
theorem dJ6_bitCount_0f7a4_34 : decode cJ6_bitCount_0f7a4 34 = .ok (.iload_n 0, 1) := by decide +kernel
theorem dJ6_bitCount_0f7a4_35 : decode cJ6_bitCount_0f7a4 35 = .ok (.iload_n 0, 1) := by decide +kernel
theorem dJ6_bitCount_0f7a4_36 : decode cJ6_bitCount_0f7a4 36 = .ok (.bipush 8, 2) := by decide +kernel
theorem dJ6_bitCount_0f7a4_38 : decode cJ6_bitCount_0f7a4 38 = .ok (.iushr, 1) := by decide +kernel
theorem dJ6_bitCount_0f7a4_39 : decode cJ6_bitCount_0f7a4 39 = .ok (.iadd, 1) := by decide +kernel
theorem dJ6_bitCount_0f7a4_40 : decode cJ6_bitCount_0f7a4 40 = .ok (.istore_n 0, 1) := by decide +kernel
theorem dJ6_bitCount_0f7a4_41 : decode cJ6_bitCount_0f7a4 41 = .ok (.iload_n 0, 1) := by decide +kernel
theorem dJ6_bitCount_0f7a4_42 : decode cJ6_bitCount_0f7a4 42 = .ok (.iload_n 0, 1) := by decide +kernel
theorem dJ6_bitCount_0f7a4_43 : decode cJ6_bitCount_0f7a4 43 = .ok (.bipush 16, 2) := by decide +kernel
theorem dJ6_bitCount_0f7a4_45 : decode cJ6_bitCount_0f7a4 45 = .ok (.iushr, 1) := by decide +kernel
theorem dJ6_bitCount_0f7a4_46 : decode cJ6_bitCount_0f7a4 46 = .ok (.iadd, 1) := by decide +kernel
theorem dJ6_bitCount_0f7a4_47 : decode cJ6_bitCount_0f7a4 47 = .ok (.istore_n 0, 1) := by decide +kernel
theorem dJ6_bitCount_0f7a4_48 : decode cJ6_bitCount_0f7a4 48 = .ok (.iload_n 0, 1) := by decide +kernel
theorem dJ6_bitCount_0f7a4_49 : decode cJ6_bitCount_0f7a4 49 = .ok (.bipush 63, 2) := by decide +kernel
theorem dJ6_bitCount_0f7a4_51 : decode cJ6_bitCount_0f7a4 51 = .ok (.iand, 1) := by decide +kernel
theorem dJ6_bitCount_0f7a4_52 : decode cJ6_bitCount_0f7a4 52 = .ok (.ireturn, 1) := by decide +kernel
theorem dJ9_max_7cf53_0 : decode cJ9_max_7cf53 0 = .ok (.iload_n 0, 1) := by decide +kernel
theorem dJ9_max_7cf53_1 : decode cJ9_max_7cf53 1 = .ok (.iload_n 1, 1) := by decide +kernel
theorem dJ9_max_7cf53_2 : decode cJ9_max_7cf53 2 = .ok (.if_icmp .lt 7, 3) := by decide +kernel
theorem dJ9_max_7cf53_5 : decode cJ9_max_7cf53 5 = .ok (.iload_n 0, 1) := by decide +kernel
theorem dJ9_max_7cf53_6 : decode cJ9_max_7cf53 6 = .ok (.goto 4, 3) := by decide +kernel
theorem dJ9_max_7cf53_9 : decode cJ9_max_7cf53 9 = .ok (.iload_n 1, 1) := by decide +kernel
theorem dJ9_max_7cf53_10 : decode cJ9_max_7cf53 10 = .ok (.ireturn, 1) := by decide +kernel
theorem dJ9_min_7cf53_0 : decode cJ9_min_7cf53 0 = .ok (.iload_n 0, 1) := by decide +kernel
theorem dJ9_min_7cf53_1 : decode cJ9_min_7cf53 1 = .ok (.iload_n 1, 1) := by decide +kernel
theorem dJ9_min_7cf53_2 : decode cJ9_min_7cf53 2 = .ok (.if_icmp .gt 7, 3) := by decide +kernel
theorem dJ9_min_7cf53_5 : decode cJ9_min_7cf53 5 = .ok (.iload_n 0, 1) := by decide +kernel
theorem dJ9_min_7cf53_6 : decode cJ9_min_7cf53 6 = .ok (.goto 4, 3) := by decide +kernel
theorem dJ9_min_7cf53_9 : decode cJ9_min_7cf53 9 = .ok (.iload_n 1, 1) := by decide +kernel
theorem dJ9_min_7cf53_10 : decode cJ9_min_7cf53 10 = .ok (.ireturn, 1) := by decide +kernel
theorem dJ7_fill_d0a16_0 : decode cJ7_fill_d0a16 0 = .ok (.iconst 0, 1) := by decide +kernel
theorem dJ7_fill_d0a16_1 : decode cJ7_fill_d0a16 1 = .ok (.istore_n 3, 1) := by decide +kernel
theorem dJ7_fill_d0a16_2 : decode cJ7_fill_d0a16 2 = .ok (.aload_n 0, 1) := by decide +kernel
theorem dJ7_fill_d0a16_3 : decode cJ7_fill_d0a16 3 = .ok (.arraylength, 1) := by decide +kernel
theorem dJ7_fill_d0a16_4 : decode cJ7_fill_d0a16 4 = .ok (.istore 4, 2) := by decide +kernel
theorem dJ7_fill_d0a16_6 : decode cJ7_fill_d0a16 6 = .ok (.iload_n 3, 1) := by decide +kernel
theorem dJ7_fill_d0a16_7 : decode cJ7_fill_d0a16 7 = .ok (.iload 4, 2) := by decide +kernel
theorem dJ7_fill_d0a16_9 : decode cJ7_fill_d0a16 9 = .ok (.if_icmp .ge 13, 3) := by decide +kernel
theorem dJ7_fill_d0a16_12 : decode cJ7_fill_d0a16 12 = .ok (.aload_n 0, 1) := by decide +kernel
theorem dJ7_fill_d0a16_13 : decode cJ7_fill_d0a16 13 = .ok (.iload_n 3, 1) := by decide +kernel
theorem dJ7_fill_d0a16_14 : decode cJ7_fill_d0a16 14 = .ok (.lload_n 1, 1) := by decide +kernel
theorem dJ7_fill_d0a16_15 : decode cJ7_fill_d0a16 15 = .ok (.lastore, 1) := by decide +kernel
theorem dJ7_fill_d0a16_16 : decode cJ7_fill_d0a16 16 = .ok (.iinc 3 1, 3) := by decide +kernel
theorem dJ7_fill_d0a16_19 : decode cJ7_fill_d0a16 19 = .ok (.goto (-13), 3) := by decide +kernel
theorem dJ7_fill_d0a16_22 : decode cJ7_fill_d0a16 22 = .ok (.return_, 1) := by decide +kernel
theorem dJ7_fill_53178_0 : decode cJ7_fill_53178 0 = .ok (.iconst 0, 1) := by decide +kernel
theorem dJ7_fill_53178_1 : decode cJ7_fill_53178 1 = .ok (.istore_n 2, 1) := by decide +kernel
theorem dJ7_fill_53178_2 : decode cJ7_fill_53178 2 = .ok (.aload_n 0, 1) := by decide +kernel
theorem dJ7_fill_53178_3 : decode cJ7_fill_53178 3 = .ok (.arraylength, 1) := by decide +kernel
theorem dJ7_fill_53178_4 : decode cJ7_fill_53178 4 = .ok (.istore_n 3, 1) := by decide +kernel
theorem dJ7_fill_53178_5 : decode cJ7_fill_53178 5 = .ok (.iload_n 2, 1) := by decide +kernel
theorem dJ7_fill_53178_6 : decode cJ7_fill_53178 6 = .ok (.iload_n 3, 1) := by decide +kernel
theorem dJ7_fill_53178_7 : decode cJ7_fill_53178 7 = .ok (.if_icmp .ge 13, 3) := by decide +kernel
theorem dJ7_fill_53178_10 : decode cJ7_fill_53178 10 = .ok (.aload_n 0, 1) := by decide +kernel
theorem dJ7_fill_53178_11 : decode cJ7_fill_53178 11 = .ok (.iload_n 2, 1) := by decide +kernel
theorem dJ7_fill_53178_12 : decode cJ7_fill_53178 12 = .ok (.iload_n 1, 1) := by decide +kernel
theorem dJ7_fill_53178_13 : decode cJ7_fill_53178 13 = .ok (.iastore, 1) := by decide +kernel
theorem dJ7_fill_53178_14 : decode cJ7_fill_53178 14 = .ok (.iinc 2 1, 3) := by decide +kernel
theorem dJ7_fill_53178_17 : decode cJ7_fill_53178 17 = .ok (.goto (-12), 3) := by decide +kernel
theorem dJ7_fill_53178_20 : decode cJ7_fill_53178 20 = .ok (.return_, 1) := by decide +kernel
