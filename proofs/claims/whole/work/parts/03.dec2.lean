theorem dX3_cheapestLoan_61 : decode cX3_cheapestLoan 61 = .ok (.iload_n 3, 1) := by decide +kernel
theorem dX3_cheapestLoan_62 : decode cX3_cheapestLoan 62 = .ok (.istore_n 1, 1) := by decide +kernel
theorem dX3_cheapestLoan_63 : decode cX3_cheapestLoan 63 = .ok (.iload 4, 2) := by decide +kernel
theorem dX3_cheapestLoan_65 : decode cX3_cheapestLoan 65 = .ok (.istore_n 2, 1) := by decide +kernel
theorem dX3_cheapestLoan_66 : decode cX3_cheapestLoan 66 = .ok (.iinc 3 1, 3) := by decide +kernel
theorem dX3_cheapestLoan_69 : decode cX3_cheapestLoan 69 = .ok (.goto (-63), 3) := by decide +kernel
theorem dX3_cheapestLoan_72 : decode cX3_cheapestLoan 72 = .ok (.iload_n 1, 1) := by decide +kernel
theorem dX3_cheapestLoan_73 : decode cX3_cheapestLoan 73 = .ok (.ireturn, 1) := by decide +kernel
set_option maxRecDepth 20000 in
theorem ggX3_looseness_X0_reach : GoodIn wsX3_looseness wsX0_reach := goodIn_r _ [7, 8, 9, 10, 6, 11, 12, 13, 14, 15, 16, 17, 18, 19, 20, 21, 22, 23, 24, 25, 26, 27, 31, 32, 33, 34, 35, 36, 37] (by decide +kernel) (by decide +kernel)
set_option maxRecDepth 20000 in
theorem gX3_looseness_X0_reach : GoodIn wsX3_looseness (wsV RX3 139 RX0 yX0_reach wsX0_reach) := goodIn_app (goodIn_of _ (by decide +kernel)) ggX3_looseness_X0_reach
theorem dX3_looseness_0 : decode cX3_looseness 0 = .ok (.iconst 0, 1) := by decide +kernel
theorem dX3_looseness_1 : decode cX3_looseness 1 = .ok (.istore_n 1, 1) := by decide +kernel
theorem dX3_looseness_2 : decode cX3_looseness 2 = .ok (.iconst 0, 1) := by decide +kernel
theorem dX3_looseness_3 : decode cX3_looseness 3 = .ok (.istore_n 2, 1) := by decide +kernel
theorem dX3_looseness_4 : decode cX3_looseness 4 = .ok (.iload_n 2, 1) := by decide +kernel
theorem dX3_looseness_5 : decode cX3_looseness 5 = .ok (.bipush 9, 2) := by decide +kernel
theorem dX3_looseness_7 : decode cX3_looseness 7 = .ok (.if_icmp .ge 20, 3) := by decide +kernel
theorem dX3_looseness_10 : decode cX3_looseness 10 = .ok (.iload_n 1, 1) := by decide +kernel
theorem dX3_looseness_11 : decode cX3_looseness 11 = .ok (.aload_n 0, 1) := by decide +kernel
theorem dX3_looseness_12 : decode cX3_looseness 12 = .ok (.getfield 12, 3) := by decide +kernel
theorem dX3_looseness_15 : decode cX3_looseness 15 = .ok (.iload_n 2, 1) := by decide +kernel
theorem dX3_looseness_16 : decode cX3_looseness 16 = .ok (.invokevirtual 139, 3) := by decide +kernel
theorem dX3_looseness_19 : decode cX3_looseness 19 = .ok (.iadd, 1) := by decide +kernel
theorem dX3_looseness_20 : decode cX3_looseness 20 = .ok (.istore_n 1, 1) := by decide +kernel
theorem dX3_looseness_21 : decode cX3_looseness 21 = .ok (.iinc 2 1, 3) := by decide +kernel
theorem dX3_looseness_24 : decode cX3_looseness 24 = .ok (.goto (-20), 3) := by decide +kernel
theorem dX3_looseness_27 : decode cX3_looseness 27 = .ok (.iload_n 1, 1) := by decide +kernel
theorem dX3_looseness_28 : decode cX3_looseness 28 = .ok (.i2d, 1) := by decide +kernel
theorem dX3_looseness_29 : decode cX3_looseness 29 = .ok (.ldc2_w 171, 3) := by decide +kernel
theorem dX3_looseness_32 : decode cX3_looseness 32 = .ok (.ddiv, 1) := by decide +kernel
theorem dX3_looseness_33 : decode cX3_looseness 33 = .ok (.dreturn, 1) := by decide +kernel
set_option maxRecDepth 20000 in
theorem ggX3_digest_X3_count : GoodIn wsX3_digest wsX3_count := goodIn_ca (goodIn_r _ [10, 11, 12, 13, 14, 15, 16, 9, 17, 18, 19, 20, 21, 22, 23, 24, 25, 26, 27, 28, 29, 30, 31, 32, 33, 34, 35, 36, 37, 38, 39, 40, 41, 42, 43, 44, 45, 46, 47, 48, 49, 50, 51, 52, 53, 54, 55, 56, 57, 146, 147, 148, 151, 152, 153, 154, 155, 156, 157, 158, 159, 160] (by decide +kernel) (by decide +kernel)) (goodIn_sub (fun _ h => List.mem_cons_of_mem _ (List.mem_append_left _ (List.mem_append_right _ h))) (by decide +kernel))
set_option maxRecDepth 20000 in
theorem gX3_digest_X3_count : GoodIn wsX3_digest (wsV RX3 175 RX3 yX3_count wsX3_count) := goodIn_app (goodIn_of _ (by decide +kernel)) ggX3_digest_X3_count
set_option maxRecDepth 20000 in
theorem ggX3_digest_X3_mixed : GoodIn wsX3_digest wsX3_mixed := goodIn_r _ [60, 61] (by decide +kernel) (by decide +kernel)
set_option maxRecDepth 20000 in
theorem gX3_digest_X3_mixed : GoodIn wsX3_digest (va_wsS RX3 178 yX3_mixed wsX3_mixed) := goodIn_app (goodIn_of _ (by decide +kernel)) ggX3_digest_X3_mixed
set_option maxRecDepth 20000 in
theorem ggX3_digest_X3_whole : GoodIn wsX3_digest wsX3_whole := goodIn_r _ [65, 11, 66, 67, 68, 40, 41, 23, 42, 43, 44, 146, 147, 148, 151, 152, 153, 154, 155, 156, 157] (by decide +kernel) (by decide +kernel)
set_option maxRecDepth 20000 in
theorem gX3_digest_X3_whole : GoodIn wsX3_digest (wsV RX3 182 RX3 yX3_whole wsX3_whole) := goodIn_app (goodIn_of _ (by decide +kernel)) ggX3_digest_X3_whole
set_option maxRecDepth 20000 in
theorem ggX3_digest_X3_rod : GoodIn wsX3_digest wsX3_rod := goodIn_ca (goodIn_ca (goodIn_r _ [72, 11, 73, 74, 66, 75, 76, 77, 78, 79, 9, 80, 81, 82, 15, 16, 17, 18, 19, 68, 40, 41, 23, 42, 43, 44, 83, 84, 85, 86, 87, 88, 89, 90, 91, 92, 93, 94, 95, 96, 97, 98, 57, 99, 100, 101, 102, 25, 146, 147, 148, 151, 152, 153, 154, 155, 156, 157] (by decide +kernel) (by decide +kernel)) (goodIn_sub (fun _ h => List.mem_cons_of_mem _ (List.mem_append_right _ h)) (by decide +kernel))) (goodIn_sub (fun _ h => List.mem_cons_of_mem _ (List.mem_append_left _ (List.mem_append_right _ h))) (by decide +kernel))
set_option maxRecDepth 20000 in
theorem gX3_digest_X3_rod : GoodIn wsX3_digest (wsV RX3 186 RX3 yX3_rod wsX3_rod) := goodIn_app (goodIn_of _ (by decide +kernel)) ggX3_digest_X3_rod
set_option maxRecDepth 20000 in
theorem ggX3_digest_X3_moves : GoodIn wsX3_digest wsX3_moves := goodIn_ca (goodIn_ca (goodIn_r _ [106, 11, 78, 79, 9, 80, 81, 82, 15, 16, 17, 18, 19, 107, 88, 89, 23, 90, 91, 92, 93, 94, 43, 95, 96, 97, 98, 44, 57, 99, 100, 101, 102, 25, 146, 147, 148, 151, 152, 153, 154, 155, 156, 157] (by decide +kernel) (by decide +kernel)) (goodIn_sub (fun _ h => List.mem_cons_of_mem _ (List.mem_append_right _ h)) (by decide +kernel))) (goodIn_sub (fun _ h => List.mem_cons_of_mem _ (List.mem_append_left _ (List.mem_append_right _ h))) (by decide +kernel))
set_option maxRecDepth 20000 in
theorem gX3_digest_X3_moves : GoodIn wsX3_digest (wsV RX3 189 RX3 yX3_moves wsX3_moves) := goodIn_app (goodIn_of _ (by decide +kernel)) ggX3_digest_X3_moves
set_option maxRecDepth 20000 in
theorem ggX3_digest_X3_ifAdded : GoodIn wsX3_digest wsX3_ifAdded := goodIn_ca (goodIn_ca (goodIn_r _ [111, 11, 78, 79, 9, 80, 81, 82, 15, 16, 17, 18, 19, 112, 113, 114, 23, 115, 39, 40, 41, 42, 43, 44, 87, 88, 89, 90, 91, 92, 93, 94, 95, 96, 97, 98, 57, 99, 100, 101, 102, 25, 116, 117, 118, 119, 120, 121, 122, 123, 30, 124, 125, 146, 147, 148, 151, 152, 153, 154, 155, 156, 157] (by decide +kernel) (by decide +kernel)) (goodIn_sub (fun _ h => List.mem_cons_of_mem _ (List.mem_append_right _ h)) (by decide +kernel))) (goodIn_sub (fun _ h => List.mem_cons_of_mem _ (List.mem_append_left _ (List.mem_append_right _ h))) (by decide +kernel))
set_option maxRecDepth 20000 in
theorem gX3_digest_X3_ifAdded : GoodIn wsX3_digest (wsV RX3 192 RX3 yX3_ifAdded wsX3_ifAdded) := goodIn_app (goodIn_of _ (by decide +kernel)) ggX3_digest_X3_ifAdded
set_option maxRecDepth 20000 in
theorem ggX3_digest_X3_toShow : GoodIn wsX3_digest wsX3_toShow := goodIn_ca (goodIn_r _ [129, 130, 11, 15, 16, 9, 17, 18, 19, 107, 88, 89, 23, 90, 91, 92, 93, 94, 43, 95, 96, 97, 98, 44, 57, 99, 100, 101, 102, 25, 146, 147, 148, 151, 152, 153, 154, 155, 156, 157] (by decide +kernel) (by decide +kernel)) (goodIn_sub (fun _ h => List.mem_cons_of_mem _ (List.mem_append_left _ (List.mem_append_right _ h))) (by decide +kernel))
set_option maxRecDepth 20000 in
theorem gX3_digest_X3_toShow : GoodIn wsX3_digest (wsV RX3 195 RX3 yX3_toShow wsX3_toShow) := goodIn_app (goodIn_of _ (by decide +kernel)) ggX3_digest_X3_toShow
set_option maxRecDepth 20000 in
theorem ggX3_digest_X3_cheapestLoan : GoodIn wsX3_digest wsX3_cheapestLoan := goodIn_r _ [134, 11, 66, 112, 113, 114, 23, 115, 39, 40, 41, 42, 43, 44, 87, 88, 89, 90, 91, 92, 93, 94, 95, 96, 97, 98, 57, 99, 100, 101, 102, 25, 116, 117, 118, 119, 120, 121, 122, 123, 30, 124, 125, 146, 147, 148, 151, 152, 153, 154, 155, 156, 157] (by decide +kernel) (by decide +kernel)
set_option maxRecDepth 20000 in
theorem gX3_digest_X3_cheapestLoan : GoodIn wsX3_digest (wsV RX3 199 RX3 yX3_cheapestLoan wsX3_cheapestLoan) := goodIn_app (goodIn_of _ (by decide +kernel)) ggX3_digest_X3_cheapestLoan
set_option maxRecDepth 20000 in
theorem ggX3_digest_X3_looseness : GoodIn wsX3_digest wsX3_looseness := goodIn_r _ [138, 11, 139, 83, 84, 85, 23, 86, 87, 88, 89, 90, 91, 92, 93, 94, 43, 95, 96, 97, 98, 44, 57, 99, 100, 101, 102, 25, 146, 147, 148, 151, 152, 153, 154, 155, 156, 157] (by decide +kernel) (by decide +kernel)
set_option maxRecDepth 20000 in
theorem gX3_digest_X3_looseness : GoodIn wsX3_digest (wsV RX3 202 RX3 yX3_looseness wsX3_looseness) := goodIn_app (goodIn_of _ (by decide +kernel)) ggX3_digest_X3_looseness
set_option maxRecDepth 20000 in
theorem ggX3_digest_X3_bitsOf : GoodIn wsX3_digest wsX3_bitsOf := goodIn_r _ [142, 143, 144, 145] (by decide +kernel) (by decide +kernel)
set_option maxRecDepth 20000 in
theorem gX3_digest_X3_bitsOf : GoodIn wsX3_digest (va_wsS RX3 206 yX3_bitsOf wsX3_bitsOf) := goodIn_app (goodIn_of _ (by decide +kernel)) ggX3_digest_X3_bitsOf
theorem dX3_digest_0 : decode cX3_digest 0 = .ok (.ldc2_w 173, 3) := by decide +kernel
theorem dX3_digest_3 : decode cX3_digest 3 = .ok (.lstore_n 1, 1) := by decide +kernel
theorem dX3_digest_4 : decode cX3_digest 4 = .ok (.iconst 0, 1) := by decide +kernel
theorem dX3_digest_5 : decode cX3_digest 5 = .ok (.istore_n 3, 1) := by decide +kernel
theorem dX3_digest_6 : decode cX3_digest 6 = .ok (.iload_n 3, 1) := by decide +kernel
theorem dX3_digest_7 : decode cX3_digest 7 = .ok (.bipush 7, 2) := by decide +kernel
theorem dX3_digest_9 : decode cX3_digest 9 = .ok (.if_icmp .gt 20, 3) := by decide +kernel
theorem dX3_digest_12 : decode cX3_digest 12 = .ok (.lload_n 1, 1) := by decide +kernel
theorem dX3_digest_13 : decode cX3_digest 13 = .ok (.aload_n 0, 1) := by decide +kernel
theorem dX3_digest_14 : decode cX3_digest 14 = .ok (.iload_n 3, 1) := by decide +kernel
theorem dX3_digest_15 : decode cX3_digest 15 = .ok (.invokevirtual 175, 3) := by decide +kernel
theorem dX3_digest_18 : decode cX3_digest 18 = .ok (.i2l, 1) := by decide +kernel
theorem dX3_digest_19 : decode cX3_digest 19 = .ok (.invokestatic 178, 3) := by decide +kernel
theorem dX3_digest_22 : decode cX3_digest 22 = .ok (.lstore_n 1, 1) := by decide +kernel
theorem dX3_digest_23 : decode cX3_digest 23 = .ok (.iinc 3 1, 3) := by decide +kernel
theorem dX3_digest_26 : decode cX3_digest 26 = .ok (.goto (-20), 3) := by decide +kernel
theorem dX3_digest_29 : decode cX3_digest 29 = .ok (.lload_n 1, 1) := by decide +kernel
theorem dX3_digest_30 : decode cX3_digest 30 = .ok (.aload_n 0, 1) := by decide +kernel
theorem dX3_digest_31 : decode cX3_digest 31 = .ok (.invokevirtual 182, 3) := by decide +kernel
theorem dX3_digest_34 : decode cX3_digest 34 = .ok (.invokestatic 178, 3) := by decide +kernel
theorem dX3_digest_37 : decode cX3_digest 37 = .ok (.lstore_n 1, 1) := by decide +kernel
theorem dX3_digest_38 : decode cX3_digest 38 = .ok (.iconst 0, 1) := by decide +kernel
theorem dX3_digest_39 : decode cX3_digest 39 = .ok (.istore_n 3, 1) := by decide +kernel
theorem dX3_digest_40 : decode cX3_digest 40 = .ok (.iload_n 3, 1) := by decide +kernel
theorem dX3_digest_41 : decode cX3_digest 41 = .ok (.bipush 9, 2) := by decide +kernel
theorem dX3_digest_43 : decode cX3_digest 43 = .ok (.if_icmp .ge 126, 3) := by decide +kernel
theorem dX3_digest_46 : decode cX3_digest 46 = .ok (.iconst 0, 1) := by decide +kernel
theorem dX3_digest_47 : decode cX3_digest 47 = .ok (.istore 4, 2) := by decide +kernel
theorem dX3_digest_49 : decode cX3_digest 49 = .ok (.iload 4, 2) := by decide +kernel
theorem dX3_digest_51 : decode cX3_digest 51 = .ok (.bipush 7, 2) := by decide +kernel
theorem dX3_digest_53 : decode cX3_digest 53 = .ok (.if_icmp .gt 22, 3) := by decide +kernel
theorem dX3_digest_56 : decode cX3_digest 56 = .ok (.lload_n 1, 1) := by decide +kernel
theorem dX3_digest_57 : decode cX3_digest 57 = .ok (.aload_n 0, 1) := by decide +kernel
theorem dX3_digest_58 : decode cX3_digest 58 = .ok (.iload_n 3, 1) := by decide +kernel
theorem dX3_digest_59 : decode cX3_digest 59 = .ok (.iload 4, 2) := by decide +kernel
theorem dX3_digest_61 : decode cX3_digest 61 = .ok (.invokevirtual 186, 3) := by decide +kernel
theorem dX3_digest_64 : decode cX3_digest 64 = .ok (.i2l, 1) := by decide +kernel
theorem dX3_digest_65 : decode cX3_digest 65 = .ok (.invokestatic 178, 3) := by decide +kernel
theorem dX3_digest_68 : decode cX3_digest 68 = .ok (.lstore_n 1, 1) := by decide +kernel
theorem dX3_digest_69 : decode cX3_digest 69 = .ok (.iinc 4 1, 3) := by decide +kernel
theorem dX3_digest_72 : decode cX3_digest 72 = .ok (.goto (-23), 3) := by decide +kernel
theorem dX3_digest_75 : decode cX3_digest 75 = .ok (.lload_n 1, 1) := by decide +kernel
theorem dX3_digest_76 : decode cX3_digest 76 = .ok (.aload_n 0, 1) := by decide +kernel
theorem dX3_digest_77 : decode cX3_digest 77 = .ok (.iload_n 3, 1) := by decide +kernel
theorem dX3_digest_78 : decode cX3_digest 78 = .ok (.iconst 0, 1) := by decide +kernel
theorem dX3_digest_79 : decode cX3_digest 79 = .ok (.invokevirtual 189, 3) := by decide +kernel
theorem dX3_digest_82 : decode cX3_digest 82 = .ok (.i2l, 1) := by decide +kernel
theorem dX3_digest_83 : decode cX3_digest 83 = .ok (.invokestatic 178, 3) := by decide +kernel
theorem dX3_digest_86 : decode cX3_digest 86 = .ok (.lstore_n 1, 1) := by decide +kernel
theorem dX3_digest_87 : decode cX3_digest 87 = .ok (.lload_n 1, 1) := by decide +kernel
theorem dX3_digest_88 : decode cX3_digest 88 = .ok (.aload_n 0, 1) := by decide +kernel
theorem dX3_digest_89 : decode cX3_digest 89 = .ok (.iload_n 3, 1) := by decide +kernel
theorem dX3_digest_90 : decode cX3_digest 90 = .ok (.bipush 7, 2) := by decide +kernel
theorem dX3_digest_92 : decode cX3_digest 92 = .ok (.invokevirtual 189, 3) := by decide +kernel
theorem dX3_digest_95 : decode cX3_digest 95 = .ok (.i2l, 1) := by decide +kernel
theorem dX3_digest_96 : decode cX3_digest 96 = .ok (.invokestatic 178, 3) := by decide +kernel
theorem dX3_digest_99 : decode cX3_digest 99 = .ok (.lstore_n 1, 1) := by decide +kernel
theorem dX3_digest_100 : decode cX3_digest 100 = .ok (.lload_n 1, 1) := by decide +kernel
theorem dX3_digest_101 : decode cX3_digest 101 = .ok (.aload_n 0, 1) := by decide +kernel
theorem dX3_digest_102 : decode cX3_digest 102 = .ok (.iload_n 3, 1) := by decide +kernel
theorem dX3_digest_103 : decode cX3_digest 103 = .ok (.bipush 15, 2) := by decide +kernel
theorem dX3_digest_105 : decode cX3_digest 105 = .ok (.invokevirtual 189, 3) := by decide +kernel
theorem dX3_digest_108 : decode cX3_digest 108 = .ok (.i2l, 1) := by decide +kernel
theorem dX3_digest_109 : decode cX3_digest 109 = .ok (.invokestatic 178, 3) := by decide +kernel
theorem dX3_digest_112 : decode cX3_digest 112 = .ok (.lstore_n 1, 1) := by decide +kernel
theorem dX3_digest_113 : decode cX3_digest 113 = .ok (.lload_n 1, 1) := by decide +kernel
theorem dX3_digest_114 : decode cX3_digest 114 = .ok (.aload_n 0, 1) := by decide +kernel
theorem dX3_digest_115 : decode cX3_digest 115 = .ok (.iload_n 3, 1) := by decide +kernel
theorem dX3_digest_116 : decode cX3_digest 116 = .ok (.iconst 1, 1) := by decide +kernel
theorem dX3_digest_117 : decode cX3_digest 117 = .ok (.invokevirtual 192, 3) := by decide +kernel
theorem dX3_digest_120 : decode cX3_digest 120 = .ok (.i2l, 1) := by decide +kernel
theorem dX3_digest_121 : decode cX3_digest 121 = .ok (.invokestatic 178, 3) := by decide +kernel
theorem dX3_digest_124 : decode cX3_digest 124 = .ok (.lstore_n 1, 1) := by decide +kernel
theorem dX3_digest_125 : decode cX3_digest 125 = .ok (.lload_n 1, 1) := by decide +kernel
theorem dX3_digest_126 : decode cX3_digest 126 = .ok (.aload_n 0, 1) := by decide +kernel
theorem dX3_digest_127 : decode cX3_digest 127 = .ok (.iload_n 3, 1) := by decide +kernel
theorem dX3_digest_128 : decode cX3_digest 128 = .ok (.bipush 6, 2) := by decide +kernel
theorem dX3_digest_130 : decode cX3_digest 130 = .ok (.invokevirtual 192, 3) := by decide +kernel
theorem dX3_digest_133 : decode cX3_digest 133 = .ok (.i2l, 1) := by decide +kernel
theorem dX3_digest_134 : decode cX3_digest 134 = .ok (.invokestatic 178, 3) := by decide +kernel
theorem dX3_digest_137 : decode cX3_digest 137 = .ok (.lstore_n 1, 1) := by decide +kernel
theorem dX3_digest_138 : decode cX3_digest 138 = .ok (.lload_n 1, 1) := by decide +kernel
theorem dX3_digest_139 : decode cX3_digest 139 = .ok (.aload_n 0, 1) := by decide +kernel
theorem dX3_digest_140 : decode cX3_digest 140 = .ok (.iload_n 3, 1) := by decide +kernel
theorem dX3_digest_141 : decode cX3_digest 141 = .ok (.iconst (-1), 1) := by decide +kernel
theorem dX3_digest_142 : decode cX3_digest 142 = .ok (.invokevirtual 192, 3) := by decide +kernel
theorem dX3_digest_145 : decode cX3_digest 145 = .ok (.i2l, 1) := by decide +kernel
theorem dX3_digest_146 : decode cX3_digest 146 = .ok (.invokestatic 178, 3) := by decide +kernel
theorem dX3_digest_149 : decode cX3_digest 149 = .ok (.lstore_n 1, 1) := by decide +kernel
theorem dX3_digest_150 : decode cX3_digest 150 = .ok (.lload_n 1, 1) := by decide +kernel
theorem dX3_digest_151 : decode cX3_digest 151 = .ok (.aload_n 0, 1) := by decide +kernel
theorem dX3_digest_152 : decode cX3_digest 152 = .ok (.iload_n 3, 1) := by decide +kernel
theorem dX3_digest_153 : decode cX3_digest 153 = .ok (.bipush (-6), 2) := by decide +kernel
theorem dX3_digest_155 : decode cX3_digest 155 = .ok (.invokevirtual 192, 3) := by decide +kernel
theorem dX3_digest_158 : decode cX3_digest 158 = .ok (.i2l, 1) := by decide +kernel
theorem dX3_digest_159 : decode cX3_digest 159 = .ok (.invokestatic 178, 3) := by decide +kernel
theorem dX3_digest_162 : decode cX3_digest 162 = .ok (.lstore_n 1, 1) := by decide +kernel
theorem dX3_digest_163 : decode cX3_digest 163 = .ok (.iinc 3 1, 3) := by decide +kernel
theorem dX3_digest_166 : decode cX3_digest 166 = .ok (.goto (-126), 3) := by decide +kernel
theorem dX3_digest_169 : decode cX3_digest 169 = .ok (.lload_n 1, 1) := by decide +kernel
theorem dX3_digest_170 : decode cX3_digest 170 = .ok (.aload_n 0, 1) := by decide +kernel
theorem dX3_digest_171 : decode cX3_digest 171 = .ok (.iconst 0, 1) := by decide +kernel
theorem dX3_digest_172 : decode cX3_digest 172 = .ok (.invokevirtual 195, 3) := by decide +kernel
theorem dX3_digest_175 : decode cX3_digest 175 = .ok (.i2l, 1) := by decide +kernel
theorem dX3_digest_176 : decode cX3_digest 176 = .ok (.invokestatic 178, 3) := by decide +kernel
theorem dX3_digest_179 : decode cX3_digest 179 = .ok (.lstore_n 1, 1) := by decide +kernel
theorem dX3_digest_180 : decode cX3_digest 180 = .ok (.lload_n 1, 1) := by decide +kernel
theorem dX3_digest_181 : decode cX3_digest 181 = .ok (.aload_n 0, 1) := by decide +kernel
theorem dX3_digest_182 : decode cX3_digest 182 = .ok (.ldc 198, 2) := by decide +kernel
theorem dX3_digest_184 : decode cX3_digest 184 = .ok (.invokevirtual 195, 3) := by decide +kernel
theorem dX3_digest_187 : decode cX3_digest 187 = .ok (.i2l, 1) := by decide +kernel
theorem dX3_digest_188 : decode cX3_digest 188 = .ok (.invokestatic 178, 3) := by decide +kernel
theorem dX3_digest_191 : decode cX3_digest 191 = .ok (.lstore_n 1, 1) := by decide +kernel
theorem dX3_digest_192 : decode cX3_digest 192 = .ok (.lload_n 1, 1) := by decide +kernel
theorem dX3_digest_193 : decode cX3_digest 193 = .ok (.aload_n 0, 1) := by decide +kernel
theorem dX3_digest_194 : decode cX3_digest 194 = .ok (.invokevirtual 199, 3) := by decide +kernel
theorem dX3_digest_197 : decode cX3_digest 197 = .ok (.i2l, 1) := by decide +kernel
theorem dX3_digest_198 : decode cX3_digest 198 = .ok (.invokestatic 178, 3) := by decide +kernel
theorem dX3_digest_201 : decode cX3_digest 201 = .ok (.lstore_n 1, 1) := by decide +kernel
theorem dX3_digest_202 : decode cX3_digest 202 = .ok (.lload_n 1, 1) := by decide +kernel
theorem dX3_digest_203 : decode cX3_digest 203 = .ok (.aload_n 0, 1) := by decide +kernel
theorem dX3_digest_204 : decode cX3_digest 204 = .ok (.invokevirtual 202, 3) := by decide +kernel
theorem dX3_digest_207 : decode cX3_digest 207 = .ok (.invokestatic 206, 3) := by decide +kernel
theorem dX3_digest_210 : decode cX3_digest 210 = .ok (.invokestatic 178, 3) := by decide +kernel
theorem dX3_digest_213 : decode cX3_digest 213 = .ok (.lstore_n 1, 1) := by decide +kernel
theorem dX3_digest_214 : decode cX3_digest 214 = .ok (.lload_n 1, 1) := by decide +kernel
theorem dX3_digest_215 : decode cX3_digest 215 = .ok (.aload_n 0, 1) := by decide +kernel
theorem dX3_digest_216 : decode cX3_digest 216 = .ok (.getfield 26, 3) := by decide +kernel
theorem dX3_digest_219 : decode cX3_digest 219 = .ok (.getfield 85, 3) := by decide +kernel
theorem dX3_digest_222 : decode cX3_digest 222 = .ok (.i2l, 1) := by decide +kernel
theorem dX3_digest_223 : decode cX3_digest 223 = .ok (.invokestatic 178, 3) := by decide +kernel
theorem dX3_digest_226 : decode cX3_digest 226 = .ok (.lstore_n 1, 1) := by decide +kernel
theorem dX3_digest_227 : decode cX3_digest 227 = .ok (.iconst 0, 1) := by decide +kernel
theorem dX3_digest_228 : decode cX3_digest 228 = .ok (.istore_n 3, 1) := by decide +kernel
theorem dX3_digest_229 : decode cX3_digest 229 = .ok (.iload_n 3, 1) := by decide +kernel
theorem dX3_digest_230 : decode cX3_digest 230 = .ok (.aload_n 0, 1) := by decide +kernel
theorem dX3_digest_231 : decode cX3_digest 231 = .ok (.getfield 26, 3) := by decide +kernel
theorem dX3_digest_234 : decode cX3_digest 234 = .ok (.getfield 85, 3) := by decide +kernel
theorem dX3_digest_237 : decode cX3_digest 237 = .ok (.if_icmp .ge 30, 3) := by decide +kernel
theorem dX3_digest_240 : decode cX3_digest 240 = .ok (.iload_n 3, 1) := by decide +kernel
theorem dX3_digest_241 : decode cX3_digest 241 = .ok (.bipush 60, 2) := by decide +kernel
theorem dX3_digest_243 : decode cX3_digest 243 = .ok (.if_icmp .ge 24, 3) := by decide +kernel
theorem dX3_digest_246 : decode cX3_digest 246 = .ok (.lload_n 1, 1) := by decide +kernel
theorem dX3_digest_247 : decode cX3_digest 247 = .ok (.aload_n 0, 1) := by decide +kernel
theorem dX3_digest_248 : decode cX3_digest 248 = .ok (.getfield 26, 3) := by decide +kernel
theorem dX3_digest_251 : decode cX3_digest 251 = .ok (.getfield 90, 3) := by decide +kernel
theorem dX3_digest_254 : decode cX3_digest 254 = .ok (.iload_n 3, 1) := by decide +kernel
theorem dX3_digest_255 : decode cX3_digest 255 = .ok (.iaload, 1) := by decide +kernel
theorem dX3_digest_256 : decode cX3_digest 256 = .ok (.i2l, 1) := by decide +kernel
theorem dX3_digest_257 : decode cX3_digest 257 = .ok (.invokestatic 178, 3) := by decide +kernel
theorem dX3_digest_260 : decode cX3_digest 260 = .ok (.lstore_n 1, 1) := by decide +kernel
theorem dX3_digest_261 : decode cX3_digest 261 = .ok (.iinc 3 1, 3) := by decide +kernel
theorem dX3_digest_264 : decode cX3_digest 264 = .ok (.goto (-35), 3) := by decide +kernel
theorem dX3_digest_267 : decode cX3_digest 267 = .ok (.lload_n 1, 1) := by decide +kernel
theorem dX3_digest_268 : decode cX3_digest 268 = .ok (.lreturn, 1) := by decide +kernel
theorem dX3_checkRod_0 : decode cX3_checkRod 0 = .ok (.iload_n 0, 1) := by decide +kernel
theorem dX3_checkRod_1 : decode cX3_checkRod 1 = .ok (.ifCond .lt 9, 3) := by decide +kernel
theorem dX3_checkRod_4 : decode cX3_checkRod 4 = .ok (.iload_n 0, 1) := by decide +kernel
theorem dX3_checkRod_5 : decode cX3_checkRod 5 = .ok (.bipush 9, 2) := by decide +kernel
theorem dX3_checkRod_7 : decode cX3_checkRod 7 = .ok (.if_icmp .lt 13, 3) := by decide +kernel
theorem dX3_checkRod_10 : decode cX3_checkRod 10 = .ok (.new 210, 3) := by decide +kernel
theorem dX3_checkRod_13 : decode cX3_checkRod 13 = .ok (.dup, 1) := by decide +kernel
theorem dX3_checkRod_14 : decode cX3_checkRod 14 = .ok (.ldc 212, 2) := by decide +kernel
theorem dX3_checkRod_16 : decode cX3_checkRod 16 = .ok (.invokespecial 214, 3) := by decide +kernel
theorem dX3_checkRod_19 : decode cX3_checkRod 19 = .ok (.athrow, 1) := by decide +kernel
theorem dX3_checkRod_20 : decode cX3_checkRod 20 = .ok (.return_, 1) := by decide +kernel
theorem dX3_checkRange_0 : decode cX3_checkRange 0 = .ok (.iload_n 0, 1) := by decide +kernel
theorem dX3_checkRange_1 : decode cX3_checkRange 1 = .ok (.iload_n 1, 1) := by decide +kernel
theorem dX3_checkRange_2 : decode cX3_checkRange 2 = .ok (.if_icmp .lt 8, 3) := by decide +kernel
theorem dX3_checkRange_5 : decode cX3_checkRange 5 = .ok (.iload_n 0, 1) := by decide +kernel
theorem dX3_checkRange_6 : decode cX3_checkRange 6 = .ok (.iload_n 2, 1) := by decide +kernel
theorem dX3_checkRange_7 : decode cX3_checkRange 7 = .ok (.if_icmp .le 13, 3) := by decide +kernel
theorem dX3_checkRange_10 : decode cX3_checkRange 10 = .ok (.new 101, 3) := by decide +kernel
theorem dX3_checkRange_13 : decode cX3_checkRange 13 = .ok (.dup, 1) := by decide +kernel
theorem dX3_checkRange_14 : decode cX3_checkRange 14 = .ok (.ldc 215, 2) := by decide +kernel
theorem dX3_checkRange_16 : decode cX3_checkRange 16 = .ok (.invokespecial 105, 3) := by decide +kernel
theorem dX3_checkRange_19 : decode cX3_checkRange 19 = .ok (.athrow, 1) := by decide +kernel
theorem dX3_checkRange_20 : decode cX3_checkRange 20 = .ok (.return_, 1) := by decide +kernel
set_option maxRecDepth 20000 in
theorem ggX3_changeOrThrow_X0_change : GoodIn wsX3_changeOrThrow wsX0_change := goodIn_r _ [9, 10, 11, 12, 8, 13, 14, 15, 16, 17, 18, 19, 20, 21, 22, 23, 24, 25, 26, 27, 28, 29, 30, 31, 32, 33, 34, 35, 36, 37, 38, 39, 40, 41, 42, 43, 44, 60, 61, 62, 63, 64, 65, 66] (by decide +kernel) (by decide +kernel)
set_option maxRecDepth 20000 in
theorem gX3_changeOrThrow_X0_change : GoodIn wsX3_changeOrThrow (wsV RX3 72 RX0 yX0_change wsX0_change) := goodIn_app (goodIn_of _ (by decide +kernel)) ggX3_changeOrThrow_X0_change
set_option maxRecDepth 20000 in
theorem ggX3_changeOrThrow_X1_keep : GoodIn wsX3_changeOrThrow wsX1_keep := goodIn_r _ [49, 50, 51, 52, 53, 54, 55, 8, 56, 14, 15, 28, 42, 33, 44, 43, 67, 68, 69, 60, 61, 62, 63, 64, 65, 66] (by decide +kernel) (by decide +kernel)
set_option maxRecDepth 20000 in
theorem gX3_changeOrThrow_X1_keep : GoodIn wsX3_changeOrThrow (wsV RX3 49 RX1 yX1_keep wsX1_keep) := goodIn_app (goodIn_of _ (by decide +kernel)) ggX3_changeOrThrow_X1_keep
theorem dX3_changeOrThrow_0 : decode cX3_changeOrThrow 0 = .ok (.aload_n 0, 1) := by decide +kernel
theorem dX3_changeOrThrow_1 : decode cX3_changeOrThrow 1 = .ok (.getfield 12, 3) := by decide +kernel
theorem dX3_changeOrThrow_4 : decode cX3_changeOrThrow 4 = .ok (.iload_n 1, 1) := by decide +kernel
theorem dX3_changeOrThrow_5 : decode cX3_changeOrThrow 5 = .ok (.iload_n 2, 1) := by decide +kernel
theorem dX3_changeOrThrow_6 : decode cX3_changeOrThrow 6 = .ok (.iconst 0, 1) := by decide +kernel
theorem dX3_changeOrThrow_7 : decode cX3_changeOrThrow 7 = .ok (.invokevirtual 72, 3) := by decide +kernel
theorem dX3_changeOrThrow_10 : decode cX3_changeOrThrow 10 = .ok (.iconst (-1), 1) := by decide +kernel
theorem dX3_changeOrThrow_11 : decode cX3_changeOrThrow 11 = .ok (.if_icmp .ne 13, 3) := by decide +kernel
theorem dX3_changeOrThrow_14 : decode cX3_changeOrThrow 14 = .ok (.new 42, 3) := by decide +kernel
theorem dX3_changeOrThrow_17 : decode cX3_changeOrThrow 17 = .ok (.dup, 1) := by decide +kernel
theorem dX3_changeOrThrow_18 : decode cX3_changeOrThrow 18 = .ok (.ldc 217, 2) := by decide +kernel
theorem dX3_changeOrThrow_20 : decode cX3_changeOrThrow 20 = .ok (.invokespecial 46, 3) := by decide +kernel
theorem dX3_changeOrThrow_23 : decode cX3_changeOrThrow 23 = .ok (.athrow, 1) := by decide +kernel
theorem dX3_changeOrThrow_24 : decode cX3_changeOrThrow 24 = .ok (.aload_n 0, 1) := by decide +kernel
theorem dX3_changeOrThrow_25 : decode cX3_changeOrThrow 25 = .ok (.getfield 19, 3) := by decide +kernel
theorem dX3_changeOrThrow_28 : decode cX3_changeOrThrow 28 = .ok (.aload_n 0, 1) := by decide +kernel
theorem dX3_changeOrThrow_29 : decode cX3_changeOrThrow 29 = .ok (.getfield 12, 3) := by decide +kernel
theorem dX3_changeOrThrow_32 : decode cX3_changeOrThrow 32 = .ok (.invokevirtual 49, 3) := by decide +kernel
theorem dX3_changeOrThrow_35 : decode cX3_changeOrThrow 35 = .ok (.aload_n 0, 1) := by decide +kernel
theorem dX3_changeOrThrow_36 : decode cX3_changeOrThrow 36 = .ok (.getfield 12, 3) := by decide +kernel
theorem dX3_changeOrThrow_39 : decode cX3_changeOrThrow 39 = .ok (.iload_n 1, 1) := by decide +kernel
theorem dX3_changeOrThrow_40 : decode cX3_changeOrThrow 40 = .ok (.iload_n 2, 1) := by decide +kernel
theorem dX3_changeOrThrow_41 : decode cX3_changeOrThrow 41 = .ok (.iconst 1, 1) := by decide +kernel
theorem dX3_changeOrThrow_42 : decode cX3_changeOrThrow 42 = .ok (.invokevirtual 72, 3) := by decide +kernel
theorem dX3_changeOrThrow_45 : decode cX3_changeOrThrow 45 = .ok (.ireturn, 1) := by decide +kernel
set_option maxRecDepth 20000 in
theorem ggX3_reckonTerm_X0_change : GoodIn wsX3_reckonTerm wsX0_change := goodIn_r _ [8, 9, 10, 11, 7, 12, 13, 14, 15, 16, 17, 18, 19, 20, 21, 22, 23, 24, 25, 26, 27, 28, 29, 30, 31, 32, 33, 34, 35, 36, 37, 38, 39, 40, 41, 42, 43, 49, 50, 51, 52, 53, 54, 55] (by decide +kernel) (by decide +kernel)
set_option maxRecDepth 20000 in
theorem gX3_reckonTerm_X0_change : GoodIn wsX3_reckonTerm (wsV RX3 72 RX0 yX0_change wsX0_change) := goodIn_app (goodIn_of _ (by decide +kernel)) ggX3_reckonTerm_X0_change
theorem dX3_reckonTerm_0 : decode cX3_reckonTerm 0 = .ok (.aload_n 0, 1) := by decide +kernel
theorem dX3_reckonTerm_1 : decode cX3_reckonTerm 1 = .ok (.getfield 26, 3) := by decide +kernel
theorem dX3_reckonTerm_4 : decode cX3_reckonTerm 4 = .ok (.getfield 90, 3) := by decide +kernel
theorem dX3_reckonTerm_7 : decode cX3_reckonTerm 7 = .ok (.iload_n 1, 1) := by decide +kernel
theorem dX3_reckonTerm_8 : decode cX3_reckonTerm 8 = .ok (.iaload, 1) := by decide +kernel
theorem dX3_reckonTerm_9 : decode cX3_reckonTerm 9 = .ok (.bipush 45, 2) := by decide +kernel
theorem dX3_reckonTerm_11 : decode cX3_reckonTerm 11 = .ok (.if_icmp .ne 7, 3) := by decide +kernel
theorem dX3_reckonTerm_14 : decode cX3_reckonTerm 14 = .ok (.iconst (-1), 1) := by decide +kernel
theorem dX3_reckonTerm_15 : decode cX3_reckonTerm 15 = .ok (.goto 4, 3) := by decide +kernel
theorem dX3_reckonTerm_18 : decode cX3_reckonTerm 18 = .ok (.iconst 1, 1) := by decide +kernel
theorem dX3_reckonTerm_19 : decode cX3_reckonTerm 19 = .ok (.istore_n 3, 1) := by decide +kernel
theorem dX3_reckonTerm_20 : decode cX3_reckonTerm 20 = .ok (.iconst 0, 1) := by decide +kernel
theorem dX3_reckonTerm_21 : decode cX3_reckonTerm 21 = .ok (.istore 4, 2) := by decide +kernel
theorem dX3_reckonTerm_23 : decode cX3_reckonTerm 23 = .ok (.iload 4, 2) := by decide +kernel
theorem dX3_reckonTerm_25 : decode cX3_reckonTerm 25 = .ok (.iload_n 2, 1) := by decide +kernel
theorem dX3_reckonTerm_26 : decode cX3_reckonTerm 26 = .ok (.if_icmp .ge 69, 3) := by decide +kernel
theorem dX3_reckonTerm_29 : decode cX3_reckonTerm 29 = .ok (.iload 4, 2) := by decide +kernel
theorem dX3_reckonTerm_31 : decode cX3_reckonTerm 31 = .ok (.bipush 9, 2) := by decide +kernel
theorem dX3_reckonTerm_33 : decode cX3_reckonTerm 33 = .ok (.if_icmp .ge 62, 3) := by decide +kernel
theorem dX3_reckonTerm_36 : decode cX3_reckonTerm 36 = .ok (.iload_n 3, 1) := by decide +kernel
theorem dX3_reckonTerm_37 : decode cX3_reckonTerm 37 = .ok (.aload_n 0, 1) := by decide +kernel
theorem dX3_reckonTerm_38 : decode cX3_reckonTerm 38 = .ok (.getfield 26, 3) := by decide +kernel
theorem dX3_reckonTerm_41 : decode cX3_reckonTerm 41 = .ok (.getfield 90, 3) := by decide +kernel
theorem dX3_reckonTerm_44 : decode cX3_reckonTerm 44 = .ok (.iload_n 1, 1) := by decide +kernel
theorem dX3_reckonTerm_45 : decode cX3_reckonTerm 45 = .ok (.iload_n 2, 1) := by decide +kernel
theorem dX3_reckonTerm_46 : decode cX3_reckonTerm 46 = .ok (.iadd, 1) := by decide +kernel
theorem dX3_reckonTerm_47 : decode cX3_reckonTerm 47 = .ok (.iload 4, 2) := by decide +kernel
theorem dX3_reckonTerm_49 : decode cX3_reckonTerm 49 = .ok (.isub, 1) := by decide +kernel
theorem dX3_reckonTerm_50 : decode cX3_reckonTerm 50 = .ok (.iaload, 1) := by decide +kernel
theorem dX3_reckonTerm_51 : decode cX3_reckonTerm 51 = .ok (.bipush 48, 2) := by decide +kernel
theorem dX3_reckonTerm_53 : decode cX3_reckonTerm 53 = .ok (.isub, 1) := by decide +kernel
theorem dX3_reckonTerm_54 : decode cX3_reckonTerm 54 = .ok (.imul, 1) := by decide +kernel
theorem dX3_reckonTerm_55 : decode cX3_reckonTerm 55 = .ok (.istore 5, 2) := by decide +kernel
theorem dX3_reckonTerm_57 : decode cX3_reckonTerm 57 = .ok (.aload_n 0, 1) := by decide +kernel
theorem dX3_reckonTerm_58 : decode cX3_reckonTerm 58 = .ok (.getfield 12, 3) := by decide +kernel
theorem dX3_reckonTerm_61 : decode cX3_reckonTerm 61 = .ok (.iload 4, 2) := by decide +kernel
theorem dX3_reckonTerm_63 : decode cX3_reckonTerm 63 = .ok (.iload 5, 2) := by decide +kernel
theorem dX3_reckonTerm_65 : decode cX3_reckonTerm 65 = .ok (.iconst 0, 1) := by decide +kernel
theorem dX3_reckonTerm_66 : decode cX3_reckonTerm 66 = .ok (.invokevirtual 72, 3) := by decide +kernel
theorem dX3_reckonTerm_69 : decode cX3_reckonTerm 69 = .ok (.iconst (-1), 1) := by decide +kernel
theorem dX3_reckonTerm_70 : decode cX3_reckonTerm 70 = .ok (.if_icmp .ne 6, 3) := by decide +kernel
theorem dX3_reckonTerm_73 : decode cX3_reckonTerm 73 = .ok (.iload 4, 2) := by decide +kernel
theorem dX3_reckonTerm_75 : decode cX3_reckonTerm 75 = .ok (.ireturn, 1) := by decide +kernel
theorem dX3_reckonTerm_76 : decode cX3_reckonTerm 76 = .ok (.aload_n 0, 1) := by decide +kernel
theorem dX3_reckonTerm_77 : decode cX3_reckonTerm 77 = .ok (.getfield 12, 3) := by decide +kernel
theorem dX3_reckonTerm_80 : decode cX3_reckonTerm 80 = .ok (.iload 4, 2) := by decide +kernel
theorem dX3_reckonTerm_82 : decode cX3_reckonTerm 82 = .ok (.iload 5, 2) := by decide +kernel
theorem dX3_reckonTerm_84 : decode cX3_reckonTerm 84 = .ok (.iconst 1, 1) := by decide +kernel
theorem dX3_reckonTerm_85 : decode cX3_reckonTerm 85 = .ok (.invokevirtual 72, 3) := by decide +kernel
theorem dX3_reckonTerm_88 : decode cX3_reckonTerm 88 = .ok (.pop, 1) := by decide +kernel
theorem dX3_reckonTerm_89 : decode cX3_reckonTerm 89 = .ok (.iinc 4 1, 3) := by decide +kernel
theorem dX3_reckonTerm_92 : decode cX3_reckonTerm 92 = .ok (.goto (-69), 3) := by decide +kernel
theorem dX3_reckonTerm_95 : decode cX3_reckonTerm 95 = .ok (.iload_n 2, 1) := by decide +kernel
theorem dX3_reckonTerm_96 : decode cX3_reckonTerm 96 = .ok (.ireturn, 1) := by decide +kernel
theorem dX3_isSign_0 : decode cX3_isSign 0 = .ok (.iload_n 0, 1) := by decide +kernel
theorem dX3_isSign_1 : decode cX3_isSign 1 = .ok (.bipush 43, 2) := by decide +kernel
theorem dX3_isSign_3 : decode cX3_isSign 3 = .ok (.if_icmp .eq 9, 3) := by decide +kernel
theorem dX3_isSign_6 : decode cX3_isSign 6 = .ok (.iload_n 0, 1) := by decide +kernel
theorem dX3_isSign_7 : decode cX3_isSign 7 = .ok (.bipush 45, 2) := by decide +kernel
theorem dX3_isSign_9 : decode cX3_isSign 9 = .ok (.if_icmp .ne 7, 3) := by decide +kernel
theorem dX3_isSign_12 : decode cX3_isSign 12 = .ok (.iconst 1, 1) := by decide +kernel
theorem dX3_isSign_13 : decode cX3_isSign 13 = .ok (.goto 4, 3) := by decide +kernel
theorem dX3_isSign_16 : decode cX3_isSign 16 = .ok (.iconst 0, 1) := by decide +kernel
theorem dX3_isSign_17 : decode cX3_isSign 17 = .ok (.ireturn, 1) := by decide +kernel
theorem dX3_isDigit_0 : decode cX3_isDigit 0 = .ok (.iload_n 0, 1) := by decide +kernel
theorem dX3_isDigit_1 : decode cX3_isDigit 1 = .ok (.bipush 48, 2) := by decide +kernel
theorem dX3_isDigit_3 : decode cX3_isDigit 3 = .ok (.if_icmp .lt 13, 3) := by decide +kernel
theorem dX3_isDigit_6 : decode cX3_isDigit 6 = .ok (.iload_n 0, 1) := by decide +kernel
theorem dX3_isDigit_7 : decode cX3_isDigit 7 = .ok (.bipush 57, 2) := by decide +kernel
theorem dX3_isDigit_9 : decode cX3_isDigit 9 = .ok (.if_icmp .gt 7, 3) := by decide +kernel
theorem dX3_isDigit_12 : decode cX3_isDigit 12 = .ok (.iconst 1, 1) := by decide +kernel
theorem dX3_isDigit_13 : decode cX3_isDigit 13 = .ok (.goto 4, 3) := by decide +kernel
theorem dX3_isDigit_16 : decode cX3_isDigit 16 = .ok (.iconst 0, 1) := by decide +kernel
theorem dX3_isDigit_17 : decode cX3_isDigit 17 = .ok (.ireturn, 1) := by decide +kernel
theorem dX3_mixed_0 : decode cX3_mixed 0 = .ok (.ldc2_w 219, 3) := by decide +kernel
theorem dX3_mixed_3 : decode cX3_mixed 3 = .ok (.lload_n 0, 1) := by decide +kernel
theorem dX3_mixed_4 : decode cX3_mixed 4 = .ok (.lmul, 1) := by decide +kernel
theorem dX3_mixed_5 : decode cX3_mixed 5 = .ok (.lload_n 2, 1) := by decide +kernel
theorem dX3_mixed_6 : decode cX3_mixed 6 = .ok (.ladd, 1) := by decide +kernel
theorem dX3_mixed_7 : decode cX3_mixed 7 = .ok (.lreturn, 1) := by decide +kernel
theorem dX3_bitsOf_0 : decode cX3_bitsOf 0 = .ok (.dload_n 0, 1) := by decide +kernel
theorem dX3_bitsOf_1 : decode cX3_bitsOf 1 = .ok (.dstore_n 2, 1) := by decide +kernel
theorem dX3_bitsOf_2 : decode cX3_bitsOf 2 = .ok (.ldc2_w 221, 3) := by decide +kernel
theorem dX3_bitsOf_5 : decode cX3_bitsOf 5 = .ok (.lstore 4, 2) := by decide +kernel
theorem dX3_bitsOf_7 : decode cX3_bitsOf 7 = .ok (.dload_n 2, 1) := by decide +kernel
theorem dX3_bitsOf_8 : decode cX3_bitsOf 8 = .ok (.dconst 1, 1) := by decide +kernel
theorem dX3_bitsOf_9 : decode cX3_bitsOf 9 = .ok (.dcmp .g, 1) := by decide +kernel
theorem dX3_bitsOf_10 : decode cX3_bitsOf 10 = .ok (.ifCond .ge 25, 3) := by decide +kernel
theorem dX3_bitsOf_13 : decode cX3_bitsOf 13 = .ok (.lload 4, 2) := by decide +kernel
theorem dX3_bitsOf_15 : decode cX3_bitsOf 15 = .ok (.lconst 0, 1) := by decide +kernel
theorem dX3_bitsOf_16 : decode cX3_bitsOf 16 = .ok (.lcmp, 1) := by decide +kernel
theorem dX3_bitsOf_17 : decode cX3_bitsOf 17 = .ok (.ifCond .le 18, 3) := by decide +kernel
theorem dX3_bitsOf_20 : decode cX3_bitsOf 20 = .ok (.dload_n 2, 1) := by decide +kernel
theorem dX3_bitsOf_21 : decode cX3_bitsOf 21 = .ok (.ldc2_w 223, 3) := by decide +kernel
theorem dX3_bitsOf_24 : decode cX3_bitsOf 24 = .ok (.dmul, 1) := by decide +kernel
theorem dX3_bitsOf_25 : decode cX3_bitsOf 25 = .ok (.dstore_n 2, 1) := by decide +kernel
theorem dX3_bitsOf_26 : decode cX3_bitsOf 26 = .ok (.lload 4, 2) := by decide +kernel
theorem dX3_bitsOf_28 : decode cX3_bitsOf 28 = .ok (.lconst 1, 1) := by decide +kernel
theorem dX3_bitsOf_29 : decode cX3_bitsOf 29 = .ok (.lsub, 1) := by decide +kernel
theorem dX3_bitsOf_30 : decode cX3_bitsOf 30 = .ok (.lstore 4, 2) := by decide +kernel
theorem dX3_bitsOf_32 : decode cX3_bitsOf 32 = .ok (.goto (-25), 3) := by decide +kernel
theorem dX3_bitsOf_35 : decode cX3_bitsOf 35 = .ok (.lload 4, 2) := by decide +kernel
theorem dX3_bitsOf_37 : decode cX3_bitsOf 37 = .ok (.bipush 52, 2) := by decide +kernel
theorem dX3_bitsOf_39 : decode cX3_bitsOf 39 = .ok (.lshl, 1) := by decide +kernel
theorem dX3_bitsOf_40 : decode cX3_bitsOf 40 = .ok (.dload_n 2, 1) := by decide +kernel
theorem dX3_bitsOf_41 : decode cX3_bitsOf 41 = .ok (.dconst 1, 1) := by decide +kernel
theorem dX3_bitsOf_42 : decode cX3_bitsOf 42 = .ok (.dsub, 1) := by decide +kernel
theorem dX3_bitsOf_43 : decode cX3_bitsOf 43 = .ok (.ldc2_w 225, 3) := by decide +kernel
theorem dX3_bitsOf_46 : decode cX3_bitsOf 46 = .ok (.dmul, 1) := by decide +kernel
theorem dX3_bitsOf_47 : decode cX3_bitsOf 47 = .ok (.d2l, 1) := by decide +kernel
theorem dX3_bitsOf_48 : decode cX3_bitsOf 48 = .ok (.ladd, 1) := by decide +kernel
theorem dX3_bitsOf_49 : decode cX3_bitsOf 49 = .ok (.lreturn, 1) := by decide +kernel
theorem dX4_init_0 : decode cX4_init 0 = .ok (.aload_n 0, 1) := by decide +kernel
theorem dX4_init_1 : decode cX4_init 1 = .ok (.invokespecial 1, 3) := by decide +kernel
theorem dX4_init_4 : decode cX4_init 4 = .ok (.aload_n 0, 1) := by decide +kernel
theorem dX4_init_5 : decode cX4_init 5 = .ok (.bipush 55, 2) := by decide +kernel
theorem dX4_init_7 : decode cX4_init 7 = .ok (.newarray .int, 2) := by decide +kernel
theorem dX4_init_9 : decode cX4_init 9 = .ok (.putfield 7, 3) := by decide +kernel
theorem dX4_init_12 : decode cX4_init 12 = .ok (.aload_n 0, 1) := by decide +kernel
theorem dX4_init_13 : decode cX4_init 13 = .ok (.bipush 55, 2) := by decide +kernel
theorem dX4_init_15 : decode cX4_init 15 = .ok (.newarray .int, 2) := by decide +kernel
theorem dX4_init_17 : decode cX4_init 17 = .ok (.putfield 13, 3) := by decide +kernel
theorem dX4_init_20 : decode cX4_init 20 = .ok (.aload_n 0, 1) := by decide +kernel
theorem dX4_init_21 : decode cX4_init 21 = .ok (.sipush 330, 3) := by decide +kernel
theorem dX4_init_24 : decode cX4_init 24 = .ok (.newarray .int, 2) := by decide +kernel
theorem dX4_init_26 : decode cX4_init 26 = .ok (.putfield 16, 3) := by decide +kernel
theorem dX4_init_29 : decode cX4_init 29 = .ok (.aload_n 0, 1) := by decide +kernel
theorem dX4_init_30 : decode cX4_init 30 = .ok (.bipush 60, 2) := by decide +kernel
theorem dX4_init_32 : decode cX4_init 32 = .ok (.newarray .int, 2) := by decide +kernel
theorem dX4_init_34 : decode cX4_init 34 = .ok (.putfield 19, 3) := by decide +kernel
theorem dX4_init_37 : decode cX4_init 37 = .ok (.aload_n 0, 1) := by decide +kernel
theorem dX4_init_38 : decode cX4_init 38 = .ok (.getfield 7, 3) := by decide +kernel
theorem dX4_init_41 : decode cX4_init 41 = .ok (.iconst 0, 1) := by decide +kernel
theorem dX4_init_42 : decode cX4_init 42 = .ok (.iconst 3, 1) := by decide +kernel
theorem dX4_init_43 : decode cX4_init 43 = .ok (.iastore, 1) := by decide +kernel
theorem dX4_init_44 : decode cX4_init 44 = .ok (.return_, 1) := by decide +kernel
theorem dX4_thrown_0 : decode cX4_thrown 0 = .ok (.aload_n 0, 1) := by decide +kernel
theorem dX4_thrown_1 : decode cX4_thrown 1 = .ok (.getfield 22, 3) := by decide +kernel
theorem dX4_thrown_4 : decode cX4_thrown 4 = .ok (.ireturn, 1) := by decide +kernel
theorem dX4_in_0 : decode cX4_in 0 = .ok (.iload_n 0, 1) := by decide +kernel
theorem dX4_in_1 : decode cX4_in 1 = .ok (.iload_n 1, 1) := by decide +kernel
theorem dX4_in_2 : decode cX4_in 2 = .ok (.if_icmp .lt 12, 3) := by decide +kernel
theorem dX4_in_5 : decode cX4_in 5 = .ok (.iload_n 0, 1) := by decide +kernel
theorem dX4_in_6 : decode cX4_in 6 = .ok (.iload_n 2, 1) := by decide +kernel
theorem dX4_in_7 : decode cX4_in 7 = .ok (.if_icmp .gt 7, 3) := by decide +kernel
theorem dX4_in_10 : decode cX4_in 10 = .ok (.iconst 1, 1) := by decide +kernel
theorem dX4_in_11 : decode cX4_in 11 = .ok (.goto 4, 3) := by decide +kernel
theorem dX4_in_14 : decode cX4_in 14 = .ok (.iconst 0, 1) := by decide +kernel
theorem dX4_in_15 : decode cX4_in 15 = .ok (.ireturn, 1) := by decide +kernel
theorem dX4_holds_0 : decode cX4_holds 0 = .ok (.aload_n 0, 1) := by decide +kernel
theorem dX4_holds_1 : decode cX4_holds 1 = .ok (.iload_n 1, 1) := by decide +kernel
theorem dX4_holds_2 : decode cX4_holds 2 = .ok (.putfield 22, 3) := by decide +kernel
theorem dX4_holds_5 : decode cX4_holds 5 = .ok (.iload_n 1, 1) := by decide +kernel
theorem dX4_holds_6 : decode cX4_holds 6 = .ok (.ifCond .ne 7, 3) := by decide +kernel
theorem dX4_holds_9 : decode cX4_holds 9 = .ok (.iconst 1, 1) := by decide +kernel
theorem dX4_holds_10 : decode cX4_holds 10 = .ok (.goto 4, 3) := by decide +kernel
theorem dX4_holds_13 : decode cX4_holds 13 = .ok (.iconst 0, 1) := by decide +kernel
theorem dX4_holds_14 : decode cX4_holds 14 = .ok (.ireturn, 1) := by decide +kernel
theorem dX4_of_0 : decode cX4_of 0 = .ok (.iconst 1, 1) := by decide +kernel
theorem dX4_of_1 : decode cX4_of 1 = .ok (.bipush 6, 2) := by decide +kernel
theorem dX4_of_3 : decode cX4_of 3 = .ok (.iload_n 0, 1) := by decide +kernel
theorem dX4_of_4 : decode cX4_of 4 = .ok (.imul, 1) := by decide +kernel
theorem dX4_of_5 : decode cX4_of 5 = .ok (.iadd, 1) := by decide +kernel
theorem dX4_of_6 : decode cX4_of 6 = .ok (.iload_n 1, 1) := by decide +kernel
theorem dX4_of_7 : decode cX4_of 7 = .ok (.iadd, 1) := by decide +kernel
theorem dX4_of_8 : decode cX4_of 8 = .ok (.ireturn, 1) := by decide +kernel
set_option maxRecDepth 20000 in
theorem ggX4_isRod_X4_in : GoodIn wsX4_isRod wsX4_in := goodIn_r _ [4] (by decide +kernel) (by decide +kernel)
set_option maxRecDepth 20000 in
theorem gX4_isRod_X4_in : GoodIn wsX4_isRod (va_wsS RX4 26 yX4_in wsX4_in) := goodIn_app (goodIn_of _ (by decide +kernel)) ggX4_isRod_X4_in
theorem dX4_isRod_0 : decode cX4_isRod 0 = .ok (.iload_n 0, 1) := by decide +kernel
theorem dX4_isRod_1 : decode cX4_isRod 1 = .ok (.iconst 0, 1) := by decide +kernel
theorem dX4_isRod_2 : decode cX4_isRod 2 = .ok (.bipush 8, 2) := by decide +kernel
theorem dX4_isRod_4 : decode cX4_isRod 4 = .ok (.invokestatic 26, 3) := by decide +kernel
theorem dX4_isRod_7 : decode cX4_isRod 7 = .ok (.ireturn, 1) := by decide +kernel
theorem dX4_size_0 : decode cX4_size 0 = .ok (.iload_n 0, 1) := by decide +kernel
theorem dX4_size_1 : decode cX4_size 1 = .ok (.ifCond .ge 8, 3) := by decide +kernel
theorem dX4_size_4 : decode cX4_size 4 = .ok (.iload_n 0, 1) := by decide +kernel
theorem dX4_size_5 : decode cX4_size 5 = .ok (.ineg, 1) := by decide +kernel
theorem dX4_size_6 : decode cX4_size 6 = .ok (.goto 4, 3) := by decide +kernel
theorem dX4_size_9 : decode cX4_size 9 = .ok (.iload_n 0, 1) := by decide +kernel
theorem dX4_size_10 : decode cX4_size 10 = .ok (.ireturn, 1) := by decide +kernel
theorem dX4_save_0 : decode cX4_save 0 = .ok (.aload_n 0, 1) := by decide +kernel
theorem dX4_save_1 : decode cX4_save 1 = .ok (.getfield 30, 3) := by decide +kernel
theorem dX4_save_4 : decode cX4_save 4 = .ok (.bipush 6, 2) := by decide +kernel
theorem dX4_save_6 : decode cX4_save 6 = .ok (.if_icmp .ne 43, 3) := by decide +kernel
theorem dX4_save_9 : decode cX4_save 9 = .ok (.iconst 0, 1) := by decide +kernel
theorem dX4_save_10 : decode cX4_save 10 = .ok (.istore_n 1, 1) := by decide +kernel
theorem dX4_save_11 : decode cX4_save 11 = .ok (.iload_n 1, 1) := by decide +kernel
theorem dX4_save_12 : decode cX4_save 12 = .ok (.sipush 275, 3) := by decide +kernel
theorem dX4_save_15 : decode cX4_save 15 = .ok (.if_icmp .ge 24, 3) := by decide +kernel
theorem dX4_save_18 : decode cX4_save 18 = .ok (.aload_n 0, 1) := by decide +kernel
theorem dX4_save_19 : decode cX4_save 19 = .ok (.getfield 16, 3) := by decide +kernel
theorem dX4_save_22 : decode cX4_save 22 = .ok (.iload_n 1, 1) := by decide +kernel
theorem dX4_save_23 : decode cX4_save 23 = .ok (.aload_n 0, 1) := by decide +kernel
theorem dX4_save_24 : decode cX4_save 24 = .ok (.getfield 16, 3) := by decide +kernel
theorem dX4_save_27 : decode cX4_save 27 = .ok (.bipush 55, 2) := by decide +kernel
theorem dX4_save_29 : decode cX4_save 29 = .ok (.iload_n 1, 1) := by decide +kernel
theorem dX4_save_30 : decode cX4_save 30 = .ok (.iadd, 1) := by decide +kernel
theorem dX4_save_31 : decode cX4_save 31 = .ok (.iaload, 1) := by decide +kernel
theorem dX4_save_32 : decode cX4_save 32 = .ok (.iastore, 1) := by decide +kernel
theorem dX4_save_33 : decode cX4_save 33 = .ok (.iinc 1 1, 3) := by decide +kernel
theorem dX4_save_36 : decode cX4_save 36 = .ok (.goto (-25), 3) := by decide +kernel
theorem dX4_save_39 : decode cX4_save 39 = .ok (.aload_n 0, 1) := by decide +kernel
theorem dX4_save_40 : decode cX4_save 40 = .ok (.dup, 1) := by decide +kernel
theorem dX4_save_41 : decode cX4_save 41 = .ok (.getfield 30, 3) := by decide +kernel
theorem dX4_save_44 : decode cX4_save 44 = .ok (.iconst 1, 1) := by decide +kernel
theorem dX4_save_45 : decode cX4_save 45 = .ok (.isub, 1) := by decide +kernel
theorem dX4_save_46 : decode cX4_save 46 = .ok (.putfield 30, 3) := by decide +kernel
theorem dX4_save_49 : decode cX4_save 49 = .ok (.iconst 0, 1) := by decide +kernel
theorem dX4_save_50 : decode cX4_save 50 = .ok (.istore_n 1, 1) := by decide +kernel
theorem dX4_save_51 : decode cX4_save 51 = .ok (.iload_n 1, 1) := by decide +kernel
theorem dX4_save_52 : decode cX4_save 52 = .ok (.bipush 55, 2) := by decide +kernel
theorem dX4_save_54 : decode cX4_save 54 = .ok (.if_icmp .ge 29, 3) := by decide +kernel
theorem dX4_save_57 : decode cX4_save 57 = .ok (.aload_n 0, 1) := by decide +kernel
theorem dX4_save_58 : decode cX4_save 58 = .ok (.getfield 16, 3) := by decide +kernel
theorem dX4_save_61 : decode cX4_save 61 = .ok (.bipush 55, 2) := by decide +kernel
theorem dX4_save_63 : decode cX4_save 63 = .ok (.aload_n 0, 1) := by decide +kernel
theorem dX4_save_64 : decode cX4_save 64 = .ok (.getfield 30, 3) := by decide +kernel
theorem dX4_save_67 : decode cX4_save 67 = .ok (.imul, 1) := by decide +kernel
theorem dX4_save_68 : decode cX4_save 68 = .ok (.iload_n 1, 1) := by decide +kernel
theorem dX4_save_69 : decode cX4_save 69 = .ok (.iadd, 1) := by decide +kernel
theorem dX4_save_70 : decode cX4_save 70 = .ok (.aload_n 0, 1) := by decide +kernel
theorem dX4_save_71 : decode cX4_save 71 = .ok (.getfield 7, 3) := by decide +kernel
theorem dX4_save_74 : decode cX4_save 74 = .ok (.iload_n 1, 1) := by decide +kernel
theorem dX4_save_75 : decode cX4_save 75 = .ok (.iaload, 1) := by decide +kernel
theorem dX4_save_76 : decode cX4_save 76 = .ok (.iastore, 1) := by decide +kernel
theorem dX4_save_77 : decode cX4_save 77 = .ok (.iinc 1 1, 3) := by decide +kernel
theorem dX4_save_80 : decode cX4_save 80 = .ok (.goto (-29), 3) := by decide +kernel
theorem dX4_save_83 : decode cX4_save 83 = .ok (.aload_n 0, 1) := by decide +kernel
theorem dX4_save_84 : decode cX4_save 84 = .ok (.dup, 1) := by decide +kernel
theorem dX4_save_85 : decode cX4_save 85 = .ok (.getfield 30, 3) := by decide +kernel
theorem dX4_save_88 : decode cX4_save 88 = .ok (.iconst 1, 1) := by decide +kernel
theorem dX4_save_89 : decode cX4_save 89 = .ok (.iadd, 1) := by decide +kernel
theorem dX4_save_90 : decode cX4_save 90 = .ok (.putfield 30, 3) := by decide +kernel
theorem dX4_save_93 : decode cX4_save 93 = .ok (.return_, 1) := by decide +kernel
theorem dX4_putAside_0 : decode cX4_putAside 0 = .ok (.iconst 0, 1) := by decide +kernel
theorem dX4_putAside_1 : decode cX4_putAside 1 = .ok (.istore_n 1, 1) := by decide +kernel
theorem dX4_putAside_2 : decode cX4_putAside 2 = .ok (.iload_n 1, 1) := by decide +kernel
theorem dX4_putAside_3 : decode cX4_putAside 3 = .ok (.bipush 55, 2) := by decide +kernel
theorem dX4_putAside_5 : decode cX4_putAside 5 = .ok (.if_icmp .ge 21, 3) := by decide +kernel
theorem dX4_putAside_8 : decode cX4_putAside 8 = .ok (.aload_n 0, 1) := by decide +kernel
theorem dX4_putAside_9 : decode cX4_putAside 9 = .ok (.getfield 13, 3) := by decide +kernel
theorem dX4_putAside_12 : decode cX4_putAside 12 = .ok (.iload_n 1, 1) := by decide +kernel
theorem dX4_putAside_13 : decode cX4_putAside 13 = .ok (.aload_n 0, 1) := by decide +kernel
theorem dX4_putAside_14 : decode cX4_putAside 14 = .ok (.getfield 7, 3) := by decide +kernel
theorem dX4_putAside_17 : decode cX4_putAside 17 = .ok (.iload_n 1, 1) := by decide +kernel
theorem dX4_putAside_18 : decode cX4_putAside 18 = .ok (.iaload, 1) := by decide +kernel
theorem dX4_putAside_19 : decode cX4_putAside 19 = .ok (.iastore, 1) := by decide +kernel
theorem dX4_putAside_20 : decode cX4_putAside 20 = .ok (.iinc 1 1, 3) := by decide +kernel
theorem dX4_putAside_23 : decode cX4_putAside 23 = .ok (.goto (-21), 3) := by decide +kernel
theorem dX4_putAside_26 : decode cX4_putAside 26 = .ok (.return_, 1) := by decide +kernel
theorem dX4_putBack_0 : decode cX4_putBack 0 = .ok (.iconst 0, 1) := by decide +kernel
theorem dX4_putBack_1 : decode cX4_putBack 1 = .ok (.istore_n 1, 1) := by decide +kernel
theorem dX4_putBack_2 : decode cX4_putBack 2 = .ok (.iload_n 1, 1) := by decide +kernel
theorem dX4_putBack_3 : decode cX4_putBack 3 = .ok (.bipush 55, 2) := by decide +kernel
theorem dX4_putBack_5 : decode cX4_putBack 5 = .ok (.if_icmp .ge 21, 3) := by decide +kernel
theorem dX4_putBack_8 : decode cX4_putBack 8 = .ok (.aload_n 0, 1) := by decide +kernel
theorem dX4_putBack_9 : decode cX4_putBack 9 = .ok (.getfield 7, 3) := by decide +kernel
theorem dX4_putBack_12 : decode cX4_putBack 12 = .ok (.iload_n 1, 1) := by decide +kernel
theorem dX4_putBack_13 : decode cX4_putBack 13 = .ok (.aload_n 0, 1) := by decide +kernel
theorem dX4_putBack_14 : decode cX4_putBack 14 = .ok (.getfield 13, 3) := by decide +kernel
theorem dX4_putBack_17 : decode cX4_putBack 17 = .ok (.iload_n 1, 1) := by decide +kernel
theorem dX4_putBack_18 : decode cX4_putBack 18 = .ok (.iaload, 1) := by decide +kernel
theorem dX4_putBack_19 : decode cX4_putBack 19 = .ok (.iastore, 1) := by decide +kernel
theorem dX4_putBack_20 : decode cX4_putBack 20 = .ok (.iinc 1 1, 3) := by decide +kernel
theorem dX4_putBack_23 : decode cX4_putBack 23 = .ok (.goto (-21), 3) := by decide +kernel
theorem dX4_putBack_26 : decode cX4_putBack 26 = .ok (.return_, 1) := by decide +kernel
set_option maxRecDepth 20000 in
theorem ggX4_shows_X4_of : GoodIn wsX4_shows wsX4_of := goodIn_r _ [5] (by decide +kernel) (by decide +kernel)
set_option maxRecDepth 20000 in
theorem gX4_shows_X4_of : GoodIn wsX4_shows (va_wsS RX4 33 yX4_of wsX4_of) := goodIn_app (goodIn_of _ (by decide +kernel)) ggX4_shows_X4_of
theorem dX4_shows_0 : decode cX4_shows 0 = .ok (.iconst 5, 1) := by decide +kernel
theorem dX4_shows_1 : decode cX4_shows 1 = .ok (.aload_n 0, 1) := by decide +kernel
theorem dX4_shows_2 : decode cX4_shows 2 = .ok (.getfield 7, 3) := by decide +kernel
theorem dX4_shows_5 : decode cX4_shows 5 = .ok (.iload_n 1, 1) := by decide +kernel
theorem dX4_shows_6 : decode cX4_shows 6 = .ok (.iconst 0, 1) := by decide +kernel
theorem dX4_shows_7 : decode cX4_shows 7 = .ok (.invokestatic 33, 3) := by decide +kernel
theorem dX4_shows_10 : decode cX4_shows 10 = .ok (.iaload, 1) := by decide +kernel
theorem dX4_shows_11 : decode cX4_shows 11 = .ok (.imul, 1) := by decide +kernel
theorem dX4_shows_12 : decode cX4_shows 12 = .ok (.aload_n 0, 1) := by decide +kernel
theorem dX4_shows_13 : decode cX4_shows 13 = .ok (.getfield 7, 3) := by decide +kernel
theorem dX4_shows_16 : decode cX4_shows 16 = .ok (.iload_n 1, 1) := by decide +kernel
theorem dX4_shows_17 : decode cX4_shows 17 = .ok (.iconst 1, 1) := by decide +kernel
theorem dX4_shows_18 : decode cX4_shows 18 = .ok (.invokestatic 33, 3) := by decide +kernel
theorem dX4_shows_21 : decode cX4_shows 21 = .ok (.iaload, 1) := by decide +kernel
theorem dX4_shows_22 : decode cX4_shows 22 = .ok (.iadd, 1) := by decide +kernel
theorem dX4_shows_23 : decode cX4_shows 23 = .ok (.ireturn, 1) := by decide +kernel
set_option maxRecDepth 20000 in
theorem ggX4_movesTo_X4_of : GoodIn wsX4_movesTo wsX4_of := goodIn_r _ [5] (by decide +kernel) (by decide +kernel)
set_option maxRecDepth 20000 in
theorem gX4_movesTo_X4_of : GoodIn wsX4_movesTo (va_wsS RX4 33 yX4_of wsX4_of) := goodIn_app (goodIn_of _ (by decide +kernel)) ggX4_movesTo_X4_of
set_option maxRecDepth 20000 in
theorem ggX4_movesTo_X4_size : GoodIn wsX4_movesTo wsX4_size := goodIn_r _ [8] (by decide +kernel) (by decide +kernel)
set_option maxRecDepth 20000 in
theorem gX4_movesTo_X4_size : GoodIn wsX4_movesTo (va_wsS RX4 37 yX4_size wsX4_size) := goodIn_app (goodIn_of _ (by decide +kernel)) ggX4_movesTo_X4_size
theorem dX4_movesTo_0 : decode cX4_movesTo 0 = .ok (.iload_n 2, 1) := by decide +kernel
theorem dX4_movesTo_1 : decode cX4_movesTo 1 = .ok (.aload_n 0, 1) := by decide +kernel
theorem dX4_movesTo_2 : decode cX4_movesTo 2 = .ok (.getfield 7, 3) := by decide +kernel
theorem dX4_movesTo_5 : decode cX4_movesTo 5 = .ok (.iload_n 1, 1) := by decide +kernel
theorem dX4_movesTo_6 : decode cX4_movesTo 6 = .ok (.iconst 0, 1) := by decide +kernel
theorem dX4_movesTo_7 : decode cX4_movesTo 7 = .ok (.invokestatic 33, 3) := by decide +kernel
theorem dX4_movesTo_10 : decode cX4_movesTo 10 = .ok (.iaload, 1) := by decide +kernel
theorem dX4_movesTo_11 : decode cX4_movesTo 11 = .ok (.isub, 1) := by decide +kernel
theorem dX4_movesTo_12 : decode cX4_movesTo 12 = .ok (.invokestatic 37, 3) := by decide +kernel
theorem dX4_movesTo_15 : decode cX4_movesTo 15 = .ok (.iload_n 3, 1) := by decide +kernel
theorem dX4_movesTo_16 : decode cX4_movesTo 16 = .ok (.aload_n 0, 1) := by decide +kernel
theorem dX4_movesTo_17 : decode cX4_movesTo 17 = .ok (.getfield 7, 3) := by decide +kernel
theorem dX4_movesTo_20 : decode cX4_movesTo 20 = .ok (.iload_n 1, 1) := by decide +kernel
theorem dX4_movesTo_21 : decode cX4_movesTo 21 = .ok (.iconst 1, 1) := by decide +kernel
theorem dX4_movesTo_22 : decode cX4_movesTo 22 = .ok (.invokestatic 33, 3) := by decide +kernel
theorem dX4_movesTo_25 : decode cX4_movesTo 25 = .ok (.iaload, 1) := by decide +kernel
theorem dX4_movesTo_26 : decode cX4_movesTo 26 = .ok (.isub, 1) := by decide +kernel
theorem dX4_movesTo_27 : decode cX4_movesTo 27 = .ok (.invokestatic 37, 3) := by decide +kernel
theorem dX4_movesTo_30 : decode cX4_movesTo 30 = .ok (.iadd, 1) := by decide +kernel
theorem dX4_movesTo_31 : decode cX4_movesTo 31 = .ok (.ireturn, 1) := by decide +kernel
set_option maxRecDepth 20000 in
theorem ggX4_isLoose_X4_of : GoodIn wsX4_isLoose wsX4_of := goodIn_r _ [5] (by decide +kernel) (by decide +kernel)
set_option maxRecDepth 20000 in
theorem gX4_isLoose_X4_of : GoodIn wsX4_isLoose (va_wsS RX4 33 yX4_of wsX4_of) := goodIn_app (goodIn_of _ (by decide +kernel)) ggX4_isLoose_X4_of
theorem dX4_isLoose_0 : decode cX4_isLoose 0 = .ok (.aload_n 0, 1) := by decide +kernel
theorem dX4_isLoose_1 : decode cX4_isLoose 1 = .ok (.getfield 7, 3) := by decide +kernel
theorem dX4_isLoose_4 : decode cX4_isLoose 4 = .ok (.iload_n 1, 1) := by decide +kernel
theorem dX4_isLoose_5 : decode cX4_isLoose 5 = .ok (.iconst 3, 1) := by decide +kernel
theorem dX4_isLoose_6 : decode cX4_isLoose 6 = .ok (.invokestatic 33, 3) := by decide +kernel
theorem dX4_isLoose_9 : decode cX4_isLoose 9 = .ok (.iaload, 1) := by decide +kernel
theorem dX4_isLoose_10 : decode cX4_isLoose 10 = .ok (.istore 4, 2) := by decide +kernel
theorem dX4_isLoose_12 : decode cX4_isLoose 12 = .ok (.iload 4, 2) := by decide +kernel
theorem dX4_isLoose_14 : decode cX4_isLoose 14 = .ok (.iconst 1, 1) := by decide +kernel
theorem dX4_isLoose_15 : decode cX4_isLoose 15 = .ok (.iand, 1) := by decide +kernel
theorem dX4_isLoose_16 : decode cX4_isLoose 16 = .ok (.ifCond .eq 17, 3) := by decide +kernel
theorem dX4_isLoose_19 : decode cX4_isLoose 19 = .ok (.iload_n 2, 1) := by decide +kernel
theorem dX4_isLoose_20 : decode cX4_isLoose 20 = .ok (.aload_n 0, 1) := by decide +kernel
theorem dX4_isLoose_21 : decode cX4_isLoose 21 = .ok (.getfield 7, 3) := by decide +kernel
theorem dX4_isLoose_24 : decode cX4_isLoose 24 = .ok (.iload_n 1, 1) := by decide +kernel
theorem dX4_isLoose_25 : decode cX4_isLoose 25 = .ok (.iconst 0, 1) := by decide +kernel
theorem dX4_isLoose_26 : decode cX4_isLoose 26 = .ok (.invokestatic 33, 3) := by decide +kernel
theorem dX4_isLoose_29 : decode cX4_isLoose 29 = .ok (.iaload, 1) := by decide +kernel
theorem dX4_isLoose_30 : decode cX4_isLoose 30 = .ok (.if_icmp .ne 28, 3) := by decide +kernel
theorem dX4_isLoose_33 : decode cX4_isLoose 33 = .ok (.iload 4, 2) := by decide +kernel
theorem dX4_isLoose_35 : decode cX4_isLoose 35 = .ok (.iconst 2, 1) := by decide +kernel
theorem dX4_isLoose_36 : decode cX4_isLoose 36 = .ok (.iand, 1) := by decide +kernel
theorem dX4_isLoose_37 : decode cX4_isLoose 37 = .ok (.ifCond .eq 17, 3) := by decide +kernel
theorem dX4_isLoose_40 : decode cX4_isLoose 40 = .ok (.iload_n 3, 1) := by decide +kernel
theorem dX4_isLoose_41 : decode cX4_isLoose 41 = .ok (.aload_n 0, 1) := by decide +kernel
theorem dX4_isLoose_42 : decode cX4_isLoose 42 = .ok (.getfield 7, 3) := by decide +kernel
theorem dX4_isLoose_45 : decode cX4_isLoose 45 = .ok (.iload_n 1, 1) := by decide +kernel
theorem dX4_isLoose_46 : decode cX4_isLoose 46 = .ok (.iconst 1, 1) := by decide +kernel
theorem dX4_isLoose_47 : decode cX4_isLoose 47 = .ok (.invokestatic 33, 3) := by decide +kernel
theorem dX4_isLoose_50 : decode cX4_isLoose 50 = .ok (.iaload, 1) := by decide +kernel
theorem dX4_isLoose_51 : decode cX4_isLoose 51 = .ok (.if_icmp .ne 7, 3) := by decide +kernel
theorem dX4_isLoose_54 : decode cX4_isLoose 54 = .ok (.iconst 1, 1) := by decide +kernel
theorem dX4_isLoose_55 : decode cX4_isLoose 55 = .ok (.goto 4, 3) := by decide +kernel
theorem dX4_isLoose_58 : decode cX4_isLoose 58 = .ok (.iconst 0, 1) := by decide +kernel
theorem dX4_isLoose_59 : decode cX4_isLoose 59 = .ok (.ireturn, 1) := by decide +kernel
set_option maxRecDepth 20000 in
theorem ggX4_fivesFor_X4_in : GoodIn wsX4_fivesFor wsX4_in := goodIn_r _ [4] (by decide +kernel) (by decide +kernel)
set_option maxRecDepth 20000 in
theorem gX4_fivesFor_X4_in : GoodIn wsX4_fivesFor (va_wsS RX4 26 yX4_in wsX4_in) := goodIn_app (goodIn_of _ (by decide +kernel)) ggX4_fivesFor_X4_in
set_option maxRecDepth 20000 in
theorem ggX4_fivesFor_X4_isLoose : GoodIn wsX4_fivesFor wsX4_isLoose := goodIn_r _ [8, 9, 10, 11, 3, 12, 20, 21, 22, 23, 24, 25, 26, 27] (by decide +kernel) (by decide +kernel)
set_option maxRecDepth 20000 in
theorem gX4_fivesFor_X4_isLoose : GoodIn wsX4_fivesFor (wsV RX4 41 RX4 yX4_isLoose wsX4_isLoose) := goodIn_app (goodIn_of _ (by decide +kernel)) ggX4_fivesFor_X4_isLoose
set_option maxRecDepth 20000 in
theorem ggX4_fivesFor_X4_movesTo : GoodIn wsX4_fivesFor wsX4_movesTo := goodIn_r _ [16, 9, 10, 11, 3, 12, 17, 18, 19, 20, 21, 22, 23, 24, 25, 26, 27] (by decide +kernel) (by decide +kernel)
set_option maxRecDepth 20000 in
theorem gX4_fivesFor_X4_movesTo : GoodIn wsX4_fivesFor (wsV RX4 44 RX4 yX4_movesTo wsX4_movesTo) := goodIn_app (goodIn_of _ (by decide +kernel)) ggX4_fivesFor_X4_movesTo
theorem dX4_fivesFor_0 : decode cX4_fivesFor 0 = .ok (.iconst (-1), 1) := by decide +kernel
theorem dX4_fivesFor_1 : decode cX4_fivesFor 1 = .ok (.istore_n 3, 1) := by decide +kernel
theorem dX4_fivesFor_2 : decode cX4_fivesFor 2 = .ok (.iconst 2, 1) := by decide +kernel
theorem dX4_fivesFor_3 : decode cX4_fivesFor 3 = .ok (.istore 4, 2) := by decide +kernel
theorem dX4_fivesFor_5 : decode cX4_fivesFor 5 = .ok (.iload 4, 2) := by decide +kernel
theorem dX4_fivesFor_7 : decode cX4_fivesFor 7 = .ok (.ifCond .lt 86, 3) := by decide +kernel
theorem dX4_fivesFor_10 : decode cX4_fivesFor 10 = .ok (.iload_n 2, 1) := by decide +kernel
theorem dX4_fivesFor_11 : decode cX4_fivesFor 11 = .ok (.iconst 5, 1) := by decide +kernel
theorem dX4_fivesFor_12 : decode cX4_fivesFor 12 = .ok (.iload 4, 2) := by decide +kernel
theorem dX4_fivesFor_14 : decode cX4_fivesFor 14 = .ok (.imul, 1) := by decide +kernel
theorem dX4_fivesFor_15 : decode cX4_fivesFor 15 = .ok (.isub, 1) := by decide +kernel
theorem dX4_fivesFor_16 : decode cX4_fivesFor 16 = .ok (.istore 5, 2) := by decide +kernel
theorem dX4_fivesFor_18 : decode cX4_fivesFor 18 = .ok (.iload 5, 2) := by decide +kernel
theorem dX4_fivesFor_20 : decode cX4_fivesFor 20 = .ok (.iconst 0, 1) := by decide +kernel
theorem dX4_fivesFor_21 : decode cX4_fivesFor 21 = .ok (.iconst 5, 1) := by decide +kernel
theorem dX4_fivesFor_22 : decode cX4_fivesFor 22 = .ok (.invokestatic 26, 3) := by decide +kernel
theorem dX4_fivesFor_25 : decode cX4_fivesFor 25 = .ok (.ifCond .eq 19, 3) := by decide +kernel
theorem dX4_fivesFor_28 : decode cX4_fivesFor 28 = .ok (.aload_n 0, 1) := by decide +kernel
theorem dX4_fivesFor_29 : decode cX4_fivesFor 29 = .ok (.iload_n 1, 1) := by decide +kernel
theorem dX4_fivesFor_30 : decode cX4_fivesFor 30 = .ok (.iload 4, 2) := by decide +kernel
theorem dX4_fivesFor_32 : decode cX4_fivesFor 32 = .ok (.iload 5, 2) := by decide +kernel
theorem dX4_fivesFor_34 : decode cX4_fivesFor 34 = .ok (.invokevirtual 41, 3) := by decide +kernel
theorem dX4_fivesFor_37 : decode cX4_fivesFor 37 = .ok (.ifCond .eq 7, 3) := by decide +kernel
theorem dX4_fivesFor_40 : decode cX4_fivesFor 40 = .ok (.iconst 1, 1) := by decide +kernel
theorem dX4_fivesFor_41 : decode cX4_fivesFor 41 = .ok (.goto 4, 3) := by decide +kernel
theorem dX4_fivesFor_44 : decode cX4_fivesFor 44 = .ok (.iconst 0, 1) := by decide +kernel
theorem dX4_fivesFor_45 : decode cX4_fivesFor 45 = .ok (.istore 6, 2) := by decide +kernel
theorem dX4_fivesFor_47 : decode cX4_fivesFor 47 = .ok (.iload 6, 2) := by decide +kernel
theorem dX4_fivesFor_49 : decode cX4_fivesFor 49 = .ok (.ifCond .eq 36, 3) := by decide +kernel
theorem dX4_fivesFor_52 : decode cX4_fivesFor 52 = .ok (.iload_n 3, 1) := by decide +kernel
theorem dX4_fivesFor_53 : decode cX4_fivesFor 53 = .ok (.iconst (-1), 1) := by decide +kernel
theorem dX4_fivesFor_54 : decode cX4_fivesFor 54 = .ok (.if_icmp .eq 26, 3) := by decide +kernel
theorem dX4_fivesFor_57 : decode cX4_fivesFor 57 = .ok (.aload_n 0, 1) := by decide +kernel
theorem dX4_fivesFor_58 : decode cX4_fivesFor 58 = .ok (.iload_n 1, 1) := by decide +kernel
theorem dX4_fivesFor_59 : decode cX4_fivesFor 59 = .ok (.iload 4, 2) := by decide +kernel
theorem dX4_fivesFor_61 : decode cX4_fivesFor 61 = .ok (.iload 5, 2) := by decide +kernel
theorem dX4_fivesFor_63 : decode cX4_fivesFor 63 = .ok (.invokevirtual 44, 3) := by decide +kernel
theorem dX4_fivesFor_66 : decode cX4_fivesFor 66 = .ok (.aload_n 0, 1) := by decide +kernel
theorem dX4_fivesFor_67 : decode cX4_fivesFor 67 = .ok (.iload_n 1, 1) := by decide +kernel
theorem dX4_fivesFor_68 : decode cX4_fivesFor 68 = .ok (.iload_n 3, 1) := by decide +kernel
theorem dX4_fivesFor_69 : decode cX4_fivesFor 69 = .ok (.iload_n 2, 1) := by decide +kernel
theorem dX4_fivesFor_70 : decode cX4_fivesFor 70 = .ok (.iconst 5, 1) := by decide +kernel
theorem dX4_fivesFor_71 : decode cX4_fivesFor 71 = .ok (.iload_n 3, 1) := by decide +kernel
theorem dX4_fivesFor_72 : decode cX4_fivesFor 72 = .ok (.imul, 1) := by decide +kernel
theorem dX4_fivesFor_73 : decode cX4_fivesFor 73 = .ok (.isub, 1) := by decide +kernel
theorem dX4_fivesFor_74 : decode cX4_fivesFor 74 = .ok (.invokevirtual 44, 3) := by decide +kernel
theorem dX4_fivesFor_77 : decode cX4_fivesFor 77 = .ok (.if_icmp .ge 8, 3) := by decide +kernel
theorem dX4_fivesFor_80 : decode cX4_fivesFor 80 = .ok (.iload 4, 2) := by decide +kernel
theorem dX4_fivesFor_82 : decode cX4_fivesFor 82 = .ok (.goto 4, 3) := by decide +kernel
theorem dX4_fivesFor_85 : decode cX4_fivesFor 85 = .ok (.iload_n 3, 1) := by decide +kernel
theorem dX4_fivesFor_86 : decode cX4_fivesFor 86 = .ok (.istore_n 3, 1) := by decide +kernel
theorem dX4_fivesFor_87 : decode cX4_fivesFor 87 = .ok (.iinc 4 (-1), 3) := by decide +kernel
theorem dX4_fivesFor_90 : decode cX4_fivesFor 90 = .ok (.goto (-85), 3) := by decide +kernel
theorem dX4_fivesFor_93 : decode cX4_fivesFor 93 = .ok (.iload_n 3, 1) := by decide +kernel
theorem dX4_fivesFor_94 : decode cX4_fivesFor 94 = .ok (.ireturn, 1) := by decide +kernel
set_option maxRecDepth 20000 in
theorem ggX4_can_X4_fivesFor : GoodIn wsX4_can wsX4_fivesFor := goodIn_r _ [5, 6, 7, 4, 8, 9, 10, 11, 12, 13, 14, 15, 16, 17, 18, 19, 20, 21, 22, 23, 24, 25, 26, 27, 28, 29, 30, 31] (by decide +kernel) (by decide +kernel)
set_option maxRecDepth 20000 in
theorem gX4_can_X4_fivesFor : GoodIn wsX4_can (wsV RX4 48 RX4 yX4_fivesFor wsX4_fivesFor) := goodIn_app (goodIn_of _ (by decide +kernel)) ggX4_can_X4_fivesFor
theorem dX4_can_0 : decode cX4_can 0 = .ok (.aload_n 0, 1) := by decide +kernel
theorem dX4_can_1 : decode cX4_can 1 = .ok (.iload_n 1, 1) := by decide +kernel
theorem dX4_can_2 : decode cX4_can 2 = .ok (.iload_n 2, 1) := by decide +kernel
theorem dX4_can_3 : decode cX4_can 3 = .ok (.invokevirtual 48, 3) := by decide +kernel
theorem dX4_can_6 : decode cX4_can 6 = .ok (.iconst (-1), 1) := by decide +kernel
theorem dX4_can_7 : decode cX4_can 7 = .ok (.if_icmp .eq 7, 3) := by decide +kernel
theorem dX4_can_10 : decode cX4_can 10 = .ok (.iconst 1, 1) := by decide +kernel
theorem dX4_can_11 : decode cX4_can 11 = .ok (.goto 4, 3) := by decide +kernel
theorem dX4_can_14 : decode cX4_can 14 = .ok (.iconst 0, 1) := by decide +kernel
theorem dX4_can_15 : decode cX4_can 15 = .ok (.ireturn, 1) := by decide +kernel
set_option maxRecDepth 20000 in
theorem ggX4_movesBeads_X4_movesTo : GoodIn wsX4_movesBeads wsX4_movesTo := goodIn_r _ [6, 1, 7, 8, 5, 9, 10, 11, 12, 13, 14, 15, 16, 17, 18, 19, 20] (by decide +kernel) (by decide +kernel)
set_option maxRecDepth 20000 in
theorem gX4_movesBeads_X4_movesTo : GoodIn wsX4_movesBeads (wsV RX4 44 RX4 yX4_movesTo wsX4_movesTo) := goodIn_app (goodIn_of _ (by decide +kernel)) ggX4_movesBeads_X4_movesTo
set_option maxRecDepth 20000 in
theorem ggX4_movesBeads_X4_of : GoodIn wsX4_movesBeads wsX4_of := goodIn_r _ [9] (by decide +kernel) (by decide +kernel)
set_option maxRecDepth 20000 in
theorem gX4_movesBeads_X4_of : GoodIn wsX4_movesBeads (va_wsS RX4 33 yX4_of wsX4_of) := goodIn_app (goodIn_of _ (by decide +kernel)) ggX4_movesBeads_X4_of
theorem dX4_movesBeads_0 : decode cX4_movesBeads 0 = .ok (.aload_n 0, 1) := by decide +kernel
theorem dX4_movesBeads_1 : decode cX4_movesBeads 1 = .ok (.iload_n 1, 1) := by decide +kernel
theorem dX4_movesBeads_2 : decode cX4_movesBeads 2 = .ok (.iload_n 2, 1) := by decide +kernel
theorem dX4_movesBeads_3 : decode cX4_movesBeads 3 = .ok (.iload_n 3, 1) := by decide +kernel
theorem dX4_movesBeads_4 : decode cX4_movesBeads 4 = .ok (.invokevirtual 44, 3) := by decide +kernel
theorem dX4_movesBeads_7 : decode cX4_movesBeads 7 = .ok (.istore 4, 2) := by decide +kernel
theorem dX4_movesBeads_9 : decode cX4_movesBeads 9 = .ok (.aload_n 0, 1) := by decide +kernel
theorem dX4_movesBeads_10 : decode cX4_movesBeads 10 = .ok (.getfield 7, 3) := by decide +kernel
theorem dX4_movesBeads_13 : decode cX4_movesBeads 13 = .ok (.iload_n 1, 1) := by decide +kernel
theorem dX4_movesBeads_14 : decode cX4_movesBeads 14 = .ok (.iconst 0, 1) := by decide +kernel
theorem dX4_movesBeads_15 : decode cX4_movesBeads 15 = .ok (.invokestatic 33, 3) := by decide +kernel
theorem dX4_movesBeads_18 : decode cX4_movesBeads 18 = .ok (.iload_n 2, 1) := by decide +kernel
theorem dX4_movesBeads_19 : decode cX4_movesBeads 19 = .ok (.iastore, 1) := by decide +kernel
theorem dX4_movesBeads_20 : decode cX4_movesBeads 20 = .ok (.aload_n 0, 1) := by decide +kernel
theorem dX4_movesBeads_21 : decode cX4_movesBeads 21 = .ok (.getfield 7, 3) := by decide +kernel
theorem dX4_movesBeads_24 : decode cX4_movesBeads 24 = .ok (.iload_n 1, 1) := by decide +kernel
theorem dX4_movesBeads_25 : decode cX4_movesBeads 25 = .ok (.iconst 1, 1) := by decide +kernel
theorem dX4_movesBeads_26 : decode cX4_movesBeads 26 = .ok (.invokestatic 33, 3) := by decide +kernel
theorem dX4_movesBeads_29 : decode cX4_movesBeads 29 = .ok (.iload_n 3, 1) := by decide +kernel
theorem dX4_movesBeads_30 : decode cX4_movesBeads 30 = .ok (.iastore, 1) := by decide +kernel
theorem dX4_movesBeads_31 : decode cX4_movesBeads 31 = .ok (.aload_n 0, 1) := by decide +kernel
theorem dX4_movesBeads_32 : decode cX4_movesBeads 32 = .ok (.getfield 7, 3) := by decide +kernel
theorem dX4_movesBeads_35 : decode cX4_movesBeads 35 = .ok (.iload_n 1, 1) := by decide +kernel
theorem dX4_movesBeads_36 : decode cX4_movesBeads 36 = .ok (.iconst 4, 1) := by decide +kernel
theorem dX4_movesBeads_37 : decode cX4_movesBeads 37 = .ok (.invokestatic 33, 3) := by decide +kernel
theorem dX4_movesBeads_40 : decode cX4_movesBeads 40 = .ok (.dup2, 1) := by decide +kernel
theorem dX4_movesBeads_41 : decode cX4_movesBeads 41 = .ok (.iaload, 1) := by decide +kernel
theorem dX4_movesBeads_42 : decode cX4_movesBeads 42 = .ok (.iload 4, 2) := by decide +kernel
theorem dX4_movesBeads_44 : decode cX4_movesBeads 44 = .ok (.iadd, 1) := by decide +kernel
theorem dX4_movesBeads_45 : decode cX4_movesBeads 45 = .ok (.iastore, 1) := by decide +kernel
theorem dX4_movesBeads_46 : decode cX4_movesBeads 46 = .ok (.iload 4, 2) := by decide +kernel
theorem dX4_movesBeads_48 : decode cX4_movesBeads 48 = .ok (.ireturn, 1) := by decide +kernel
set_option maxRecDepth 20000 in
theorem ggX4_comes_X4_fivesFor : GoodIn wsX4_comes wsX4_fivesFor := goodIn_r _ [5, 6, 7, 4, 8, 9, 10, 11, 12, 13, 14, 15, 16, 17, 18, 19, 20, 21, 22, 23, 28, 29, 30, 31, 32, 33, 34, 35] (by decide +kernel) (by decide +kernel)
set_option maxRecDepth 20000 in
theorem gX4_comes_X4_fivesFor : GoodIn wsX4_comes (wsV RX4 48 RX4 yX4_fivesFor wsX4_fivesFor) := goodIn_app (goodIn_of _ (by decide +kernel)) ggX4_comes_X4_fivesFor
set_option maxRecDepth 20000 in
theorem ggX4_comes_X4_movesBeads : GoodIn wsX4_comes wsX4_movesBeads := goodIn_r _ [27, 13, 17, 18, 19, 4, 20, 14, 15, 16, 21, 22, 23, 28, 29, 30, 31, 32, 33, 34, 35] (by decide +kernel) (by decide +kernel)
set_option maxRecDepth 20000 in
theorem gX4_comes_X4_movesBeads : GoodIn wsX4_comes (wsV RX4 51 RX4 yX4_movesBeads wsX4_movesBeads) := goodIn_app (goodIn_of _ (by decide +kernel)) ggX4_comes_X4_movesBeads
theorem dX4_comes_0 : decode cX4_comes 0 = .ok (.aload_n 0, 1) := by decide +kernel
theorem dX4_comes_1 : decode cX4_comes 1 = .ok (.iload_n 1, 1) := by decide +kernel
theorem dX4_comes_2 : decode cX4_comes 2 = .ok (.iload_n 2, 1) := by decide +kernel
theorem dX4_comes_3 : decode cX4_comes 3 = .ok (.invokevirtual 48, 3) := by decide +kernel
theorem dX4_comes_6 : decode cX4_comes 6 = .ok (.istore_n 3, 1) := by decide +kernel
theorem dX4_comes_7 : decode cX4_comes 7 = .ok (.aload_n 0, 1) := by decide +kernel
theorem dX4_comes_8 : decode cX4_comes 8 = .ok (.iload_n 1, 1) := by decide +kernel
theorem dX4_comes_9 : decode cX4_comes 9 = .ok (.iload_n 3, 1) := by decide +kernel
theorem dX4_comes_10 : decode cX4_comes 10 = .ok (.iload_n 2, 1) := by decide +kernel
theorem dX4_comes_11 : decode cX4_comes 11 = .ok (.iconst 5, 1) := by decide +kernel
theorem dX4_comes_12 : decode cX4_comes 12 = .ok (.iload_n 3, 1) := by decide +kernel
theorem dX4_comes_13 : decode cX4_comes 13 = .ok (.imul, 1) := by decide +kernel
theorem dX4_comes_14 : decode cX4_comes 14 = .ok (.isub, 1) := by decide +kernel
theorem dX4_comes_15 : decode cX4_comes 15 = .ok (.invokevirtual 51, 3) := by decide +kernel
theorem dX4_comes_18 : decode cX4_comes 18 = .ok (.istore 4, 2) := by decide +kernel
theorem dX4_comes_20 : decode cX4_comes 20 = .ok (.return_, 1) := by decide +kernel
set_option maxRecDepth 20000 in
theorem ggX4_allMoves_X4_of : GoodIn wsX4_allMoves wsX4_of := goodIn_r _ [5] (by decide +kernel) (by decide +kernel)
set_option maxRecDepth 20000 in
theorem gX4_allMoves_X4_of : GoodIn wsX4_allMoves (va_wsS RX4 33 yX4_of wsX4_of) := goodIn_app (goodIn_of _ (by decide +kernel)) ggX4_allMoves_X4_of
theorem dX4_allMoves_0 : decode cX4_allMoves 0 = .ok (.iconst 0, 1) := by decide +kernel
theorem dX4_allMoves_1 : decode cX4_allMoves 1 = .ok (.istore_n 1, 1) := by decide +kernel
theorem dX4_allMoves_2 : decode cX4_allMoves 2 = .ok (.iconst 0, 1) := by decide +kernel
theorem dX4_allMoves_3 : decode cX4_allMoves 3 = .ok (.istore_n 2, 1) := by decide +kernel
theorem dX4_allMoves_4 : decode cX4_allMoves 4 = .ok (.iload_n 2, 1) := by decide +kernel
theorem dX4_allMoves_5 : decode cX4_allMoves 5 = .ok (.bipush 9, 2) := by decide +kernel
theorem dX4_allMoves_7 : decode cX4_allMoves 7 = .ok (.if_icmp .ge 22, 3) := by decide +kernel
theorem dX4_allMoves_10 : decode cX4_allMoves 10 = .ok (.iload_n 1, 1) := by decide +kernel
