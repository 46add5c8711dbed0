theorem dX4_allMoves_11 : decode cX4_allMoves 11 = .ok (.aload_n 0, 1) := by decide +kernel
theorem dX4_allMoves_12 : decode cX4_allMoves 12 = .ok (.getfield 7, 3) := by decide +kernel
theorem dX4_allMoves_15 : decode cX4_allMoves 15 = .ok (.iload_n 2, 1) := by decide +kernel
theorem dX4_allMoves_16 : decode cX4_allMoves 16 = .ok (.iconst 4, 1) := by decide +kernel
theorem dX4_allMoves_17 : decode cX4_allMoves 17 = .ok (.invokestatic 33, 3) := by decide +kernel
theorem dX4_allMoves_20 : decode cX4_allMoves 20 = .ok (.iaload, 1) := by decide +kernel
theorem dX4_allMoves_21 : decode cX4_allMoves 21 = .ok (.iadd, 1) := by decide +kernel
theorem dX4_allMoves_22 : decode cX4_allMoves 22 = .ok (.istore_n 1, 1) := by decide +kernel
theorem dX4_allMoves_23 : decode cX4_allMoves 23 = .ok (.iinc 2 1, 3) := by decide +kernel
theorem dX4_allMoves_26 : decode cX4_allMoves 26 = .ok (.goto (-22), 3) := by decide +kernel
theorem dX4_allMoves_29 : decode cX4_allMoves 29 = .ok (.iload_n 1, 1) := by decide +kernel
theorem dX4_allMoves_30 : decode cX4_allMoves 30 = .ok (.ireturn, 1) := by decide +kernel
set_option maxRecDepth 20000 in
theorem ggX4_carries_X4_shows : GoodIn wsX4_carries wsX4_shows := goodIn_r _ [6, 1, 7, 8, 5, 9, 40, 41, 42, 43, 44, 45, 46, 47] (by decide +kernel) (by decide +kernel)
set_option maxRecDepth 20000 in
theorem gX4_carries_X4_shows : GoodIn wsX4_carries (wsV RX4 54 RX4 yX4_shows wsX4_shows) := goodIn_app (goodIn_of _ (by decide +kernel)) ggX4_carries_X4_shows
set_option maxRecDepth 20000 in
theorem ggX4_carries_X4_can : GoodIn wsX4_carries wsX4_can := goodIn_r _ [13, 14, 15, 16, 5, 17, 18, 19, 20, 21, 22, 23, 24, 1, 7, 8, 9, 25, 26, 27, 28, 29, 30, 31, 40, 41, 42, 43, 44, 45, 46, 47] (by decide +kernel) (by decide +kernel)
set_option maxRecDepth 20000 in
theorem gX4_carries_X4_can : GoodIn wsX4_carries (wsV RX4 57 RX4 yX4_can wsX4_can) := goodIn_app (goodIn_of _ (by decide +kernel)) ggX4_carries_X4_can
set_option maxRecDepth 20000 in
theorem ggX4_carries_X4_comes : GoodIn wsX4_carries wsX4_comes := goodIn_r _ [35, 14, 15, 16, 5, 17, 18, 19, 20, 21, 22, 23, 24, 1, 7, 8, 9, 25, 26, 27, 28, 29, 30, 31, 36, 37, 38, 39, 40, 41, 42, 43, 44, 45, 46, 47] (by decide +kernel) (by decide +kernel)
set_option maxRecDepth 20000 in
theorem gX4_carries_X4_comes : GoodIn wsX4_carries (wsV RX4 61 RX4 yX4_comes wsX4_comes) := goodIn_app (goodIn_of _ (by decide +kernel)) ggX4_carries_X4_comes
set_option maxRecDepth 20000 in
theorem ggX4_carries_X4_of : GoodIn wsX4_carries wsX4_of := goodIn_r _ [9] (by decide +kernel) (by decide +kernel)
set_option maxRecDepth 20000 in
theorem gX4_carries_X4_of : GoodIn wsX4_carries (va_wsS RX4 33 yX4_of wsX4_of) := goodIn_app (goodIn_of _ (by decide +kernel)) ggX4_carries_X4_of
theorem dX4_carries_0 : decode cX4_carries 0 = .ok (.iload_n 1, 1) := by decide +kernel
theorem dX4_carries_1 : decode cX4_carries 1 = .ok (.istore_n 3, 1) := by decide +kernel
theorem dX4_carries_2 : decode cX4_carries 2 = .ok (.iload_n 3, 1) := by decide +kernel
theorem dX4_carries_3 : decode cX4_carries 3 = .ok (.bipush 9, 2) := by decide +kernel
theorem dX4_carries_5 : decode cX4_carries 5 = .ok (.if_icmp .ge 57, 3) := by decide +kernel
theorem dX4_carries_8 : decode cX4_carries 8 = .ok (.aload_n 0, 1) := by decide +kernel
theorem dX4_carries_9 : decode cX4_carries 9 = .ok (.iload_n 3, 1) := by decide +kernel
theorem dX4_carries_10 : decode cX4_carries 10 = .ok (.aload_n 0, 1) := by decide +kernel
theorem dX4_carries_11 : decode cX4_carries 11 = .ok (.iload_n 3, 1) := by decide +kernel
theorem dX4_carries_12 : decode cX4_carries 12 = .ok (.invokevirtual 54, 3) := by decide +kernel
theorem dX4_carries_15 : decode cX4_carries 15 = .ok (.iload_n 2, 1) := by decide +kernel
theorem dX4_carries_16 : decode cX4_carries 16 = .ok (.iadd, 1) := by decide +kernel
theorem dX4_carries_17 : decode cX4_carries 17 = .ok (.invokevirtual 57, 3) := by decide +kernel
theorem dX4_carries_20 : decode cX4_carries 20 = .ok (.ifCond .ne 42, 3) := by decide +kernel
theorem dX4_carries_23 : decode cX4_carries 23 = .ok (.aload_n 0, 1) := by decide +kernel
theorem dX4_carries_24 : decode cX4_carries 24 = .ok (.iload_n 3, 1) := by decide +kernel
theorem dX4_carries_25 : decode cX4_carries 25 = .ok (.aload_n 0, 1) := by decide +kernel
theorem dX4_carries_26 : decode cX4_carries 26 = .ok (.iload_n 3, 1) := by decide +kernel
theorem dX4_carries_27 : decode cX4_carries 27 = .ok (.invokevirtual 54, 3) := by decide +kernel
theorem dX4_carries_30 : decode cX4_carries 30 = .ok (.bipush 9, 2) := by decide +kernel
theorem dX4_carries_32 : decode cX4_carries 32 = .ok (.iload_n 2, 1) := by decide +kernel
theorem dX4_carries_33 : decode cX4_carries 33 = .ok (.imul, 1) := by decide +kernel
theorem dX4_carries_34 : decode cX4_carries 34 = .ok (.isub, 1) := by decide +kernel
theorem dX4_carries_35 : decode cX4_carries 35 = .ok (.invokevirtual 57, 3) := by decide +kernel
theorem dX4_carries_38 : decode cX4_carries 38 = .ok (.ifCond .eq 24, 3) := by decide +kernel
theorem dX4_carries_41 : decode cX4_carries 41 = .ok (.aload_n 0, 1) := by decide +kernel
theorem dX4_carries_42 : decode cX4_carries 42 = .ok (.iload_n 3, 1) := by decide +kernel
theorem dX4_carries_43 : decode cX4_carries 43 = .ok (.aload_n 0, 1) := by decide +kernel
theorem dX4_carries_44 : decode cX4_carries 44 = .ok (.iload_n 3, 1) := by decide +kernel
theorem dX4_carries_45 : decode cX4_carries 45 = .ok (.invokevirtual 54, 3) := by decide +kernel
theorem dX4_carries_48 : decode cX4_carries 48 = .ok (.bipush 9, 2) := by decide +kernel
theorem dX4_carries_50 : decode cX4_carries 50 = .ok (.iload_n 2, 1) := by decide +kernel
theorem dX4_carries_51 : decode cX4_carries 51 = .ok (.imul, 1) := by decide +kernel
theorem dX4_carries_52 : decode cX4_carries 52 = .ok (.isub, 1) := by decide +kernel
theorem dX4_carries_53 : decode cX4_carries 53 = .ok (.invokevirtual 61, 3) := by decide +kernel
theorem dX4_carries_56 : decode cX4_carries 56 = .ok (.iinc 3 1, 3) := by decide +kernel
theorem dX4_carries_59 : decode cX4_carries 59 = .ok (.goto (-57), 3) := by decide +kernel
theorem dX4_carries_62 : decode cX4_carries 62 = .ok (.iload_n 3, 1) := by decide +kernel
theorem dX4_carries_63 : decode cX4_carries 63 = .ok (.bipush 9, 2) := by decide +kernel
theorem dX4_carries_65 : decode cX4_carries 65 = .ok (.if_icmp .ne 5, 3) := by decide +kernel
theorem dX4_carries_68 : decode cX4_carries 68 = .ok (.iconst 0, 1) := by decide +kernel
theorem dX4_carries_69 : decode cX4_carries 69 = .ok (.ireturn, 1) := by decide +kernel
theorem dX4_carries_70 : decode cX4_carries 70 = .ok (.aload_n 0, 1) := by decide +kernel
theorem dX4_carries_71 : decode cX4_carries 71 = .ok (.iload_n 3, 1) := by decide +kernel
theorem dX4_carries_72 : decode cX4_carries 72 = .ok (.aload_n 0, 1) := by decide +kernel
theorem dX4_carries_73 : decode cX4_carries 73 = .ok (.iload_n 3, 1) := by decide +kernel
theorem dX4_carries_74 : decode cX4_carries 74 = .ok (.invokevirtual 54, 3) := by decide +kernel
theorem dX4_carries_77 : decode cX4_carries 77 = .ok (.iload_n 2, 1) := by decide +kernel
theorem dX4_carries_78 : decode cX4_carries 78 = .ok (.iadd, 1) := by decide +kernel
theorem dX4_carries_79 : decode cX4_carries 79 = .ok (.invokevirtual 57, 3) := by decide +kernel
theorem dX4_carries_82 : decode cX4_carries 82 = .ok (.ifCond .eq 17, 3) := by decide +kernel
theorem dX4_carries_85 : decode cX4_carries 85 = .ok (.aload_n 0, 1) := by decide +kernel
theorem dX4_carries_86 : decode cX4_carries 86 = .ok (.iload_n 3, 1) := by decide +kernel
theorem dX4_carries_87 : decode cX4_carries 87 = .ok (.aload_n 0, 1) := by decide +kernel
theorem dX4_carries_88 : decode cX4_carries 88 = .ok (.iload_n 3, 1) := by decide +kernel
theorem dX4_carries_89 : decode cX4_carries 89 = .ok (.invokevirtual 54, 3) := by decide +kernel
theorem dX4_carries_92 : decode cX4_carries 92 = .ok (.iload_n 2, 1) := by decide +kernel
theorem dX4_carries_93 : decode cX4_carries 93 = .ok (.iadd, 1) := by decide +kernel
theorem dX4_carries_94 : decode cX4_carries 94 = .ok (.invokevirtual 61, 3) := by decide +kernel
theorem dX4_carries_97 : decode cX4_carries 97 = .ok (.iconst 1, 1) := by decide +kernel
theorem dX4_carries_98 : decode cX4_carries 98 = .ok (.ireturn, 1) := by decide +kernel
theorem dX4_carries_99 : decode cX4_carries 99 = .ok (.aload_n 0, 1) := by decide +kernel
theorem dX4_carries_100 : decode cX4_carries 100 = .ok (.getfield 7, 3) := by decide +kernel
theorem dX4_carries_103 : decode cX4_carries 103 = .ok (.iload_n 3, 1) := by decide +kernel
theorem dX4_carries_104 : decode cX4_carries 104 = .ok (.iconst 2, 1) := by decide +kernel
theorem dX4_carries_105 : decode cX4_carries 105 = .ok (.invokestatic 33, 3) := by decide +kernel
theorem dX4_carries_108 : decode cX4_carries 108 = .ok (.dup2, 1) := by decide +kernel
theorem dX4_carries_109 : decode cX4_carries 109 = .ok (.iaload, 1) := by decide +kernel
theorem dX4_carries_110 : decode cX4_carries 110 = .ok (.iload_n 2, 1) := by decide +kernel
theorem dX4_carries_111 : decode cX4_carries 111 = .ok (.iadd, 1) := by decide +kernel
theorem dX4_carries_112 : decode cX4_carries 112 = .ok (.iastore, 1) := by decide +kernel
theorem dX4_carries_113 : decode cX4_carries 113 = .ok (.aload_n 0, 1) := by decide +kernel
theorem dX4_carries_114 : decode cX4_carries 114 = .ok (.getfield 7, 3) := by decide +kernel
theorem dX4_carries_117 : decode cX4_carries 117 = .ok (.iload_n 3, 1) := by decide +kernel
theorem dX4_carries_118 : decode cX4_carries 118 = .ok (.iconst 5, 1) := by decide +kernel
theorem dX4_carries_119 : decode cX4_carries 119 = .ok (.invokestatic 33, 3) := by decide +kernel
theorem dX4_carries_122 : decode cX4_carries 122 = .ok (.dup2, 1) := by decide +kernel
theorem dX4_carries_123 : decode cX4_carries 123 = .ok (.iaload, 1) := by decide +kernel
theorem dX4_carries_124 : decode cX4_carries 124 = .ok (.iconst 1, 1) := by decide +kernel
theorem dX4_carries_125 : decode cX4_carries 125 = .ok (.iadd, 1) := by decide +kernel
theorem dX4_carries_126 : decode cX4_carries 126 = .ok (.iastore, 1) := by decide +kernel
theorem dX4_carries_127 : decode cX4_carries 127 = .ok (.iload_n 2, 1) := by decide +kernel
theorem dX4_carries_128 : decode cX4_carries 128 = .ok (.ifCond .le 30, 3) := by decide +kernel
theorem dX4_carries_131 : decode cX4_carries 131 = .ok (.aload_n 0, 1) := by decide +kernel
theorem dX4_carries_132 : decode cX4_carries 132 = .ok (.getfield 7, 3) := by decide +kernel
theorem dX4_carries_135 : decode cX4_carries 135 = .ok (.iload_n 3, 1) := by decide +kernel
theorem dX4_carries_136 : decode cX4_carries 136 = .ok (.iconst 2, 1) := by decide +kernel
theorem dX4_carries_137 : decode cX4_carries 137 = .ok (.invokestatic 33, 3) := by decide +kernel
theorem dX4_carries_140 : decode cX4_carries 140 = .ok (.iaload, 1) := by decide +kernel
theorem dX4_carries_141 : decode cX4_carries 141 = .ok (.aload_n 0, 1) := by decide +kernel
theorem dX4_carries_142 : decode cX4_carries 142 = .ok (.getfield 7, 3) := by decide +kernel
theorem dX4_carries_145 : decode cX4_carries 145 = .ok (.iconst 0, 1) := by decide +kernel
theorem dX4_carries_146 : decode cX4_carries 146 = .ok (.iaload, 1) := by decide +kernel
theorem dX4_carries_147 : decode cX4_carries 147 = .ok (.if_icmp .gt 7, 3) := by decide +kernel
theorem dX4_carries_150 : decode cX4_carries 150 = .ok (.iconst 1, 1) := by decide +kernel
theorem dX4_carries_151 : decode cX4_carries 151 = .ok (.goto 32, 3) := by decide +kernel
theorem dX4_carries_154 : decode cX4_carries 154 = .ok (.iconst 0, 1) := by decide +kernel
theorem dX4_carries_155 : decode cX4_carries 155 = .ok (.goto 28, 3) := by decide +kernel
theorem dX4_carries_158 : decode cX4_carries 158 = .ok (.aload_n 0, 1) := by decide +kernel
theorem dX4_carries_159 : decode cX4_carries 159 = .ok (.getfield 7, 3) := by decide +kernel
theorem dX4_carries_162 : decode cX4_carries 162 = .ok (.iload_n 3, 1) := by decide +kernel
theorem dX4_carries_163 : decode cX4_carries 163 = .ok (.iconst 2, 1) := by decide +kernel
theorem dX4_carries_164 : decode cX4_carries 164 = .ok (.invokestatic 33, 3) := by decide +kernel
theorem dX4_carries_167 : decode cX4_carries 167 = .ok (.iaload, 1) := by decide +kernel
theorem dX4_carries_168 : decode cX4_carries 168 = .ok (.aload_n 0, 1) := by decide +kernel
theorem dX4_carries_169 : decode cX4_carries 169 = .ok (.getfield 7, 3) := by decide +kernel
theorem dX4_carries_172 : decode cX4_carries 172 = .ok (.iconst 0, 1) := by decide +kernel
theorem dX4_carries_173 : decode cX4_carries 173 = .ok (.iaload, 1) := by decide +kernel
theorem dX4_carries_174 : decode cX4_carries 174 = .ok (.ineg, 1) := by decide +kernel
theorem dX4_carries_175 : decode cX4_carries 175 = .ok (.if_icmp .lt 7, 3) := by decide +kernel
theorem dX4_carries_178 : decode cX4_carries 178 = .ok (.iconst 1, 1) := by decide +kernel
theorem dX4_carries_179 : decode cX4_carries 179 = .ok (.goto 4, 3) := by decide +kernel
theorem dX4_carries_182 : decode cX4_carries 182 = .ok (.iconst 0, 1) := by decide +kernel
theorem dX4_carries_183 : decode cX4_carries 183 = .ok (.ireturn, 1) := by decide +kernel
set_option maxRecDepth 20000 in
theorem ggX4_adds_X4_shows : GoodIn wsX4_adds wsX4_shows := goodIn_r _ [5, 6, 7, 8, 4, 9, 44, 45, 46, 47, 48, 49, 50, 51] (by decide +kernel) (by decide +kernel)
set_option maxRecDepth 20000 in
theorem gX4_adds_X4_shows : GoodIn wsX4_adds (wsV RX4 54 RX4 yX4_shows wsX4_shows) := goodIn_app (goodIn_of _ (by decide +kernel)) ggX4_adds_X4_shows
set_option maxRecDepth 20000 in
theorem ggX4_adds_X4_can : GoodIn wsX4_adds wsX4_can := goodIn_r _ [13, 14, 15, 16, 4, 17, 18, 19, 20, 21, 22, 23, 24, 6, 7, 8, 9, 25, 26, 27, 28, 29, 30, 31, 44, 45, 46, 47, 48, 49, 50, 51] (by decide +kernel) (by decide +kernel)
set_option maxRecDepth 20000 in
theorem gX4_adds_X4_can : GoodIn wsX4_adds (wsV RX4 57 RX4 yX4_can wsX4_can) := goodIn_app (goodIn_of _ (by decide +kernel)) ggX4_adds_X4_can
set_option maxRecDepth 20000 in
theorem ggX4_adds_X4_comes : GoodIn wsX4_adds wsX4_comes := goodIn_r _ [35, 14, 15, 16, 4, 17, 18, 19, 20, 21, 22, 23, 24, 6, 7, 8, 9, 25, 26, 27, 28, 29, 30, 31, 36, 37, 38, 39, 44, 45, 46, 47, 48, 49, 50, 51] (by decide +kernel) (by decide +kernel)
set_option maxRecDepth 20000 in
theorem gX4_adds_X4_comes : GoodIn wsX4_adds (wsV RX4 61 RX4 yX4_comes wsX4_comes) := goodIn_app (goodIn_of _ (by decide +kernel)) ggX4_adds_X4_comes
set_option maxRecDepth 20000 in
theorem ggX4_adds_X4_carries : GoodIn wsX4_adds wsX4_carries := goodIn_r _ [43, 6, 1, 2, 3, 4, 5, 7, 8, 9, 10, 11, 12, 13, 14, 15, 16, 17, 18, 19, 20, 21, 22, 23, 24, 25, 26, 27, 28, 29, 30, 31, 32, 33, 34, 35, 36, 37, 38, 39, 44, 45, 46, 47, 48, 49, 50, 51] (by decide +kernel) (by decide +kernel)
set_option maxRecDepth 20000 in
theorem gX4_adds_X4_carries : GoodIn wsX4_adds (wsV RX4 65 RX4 yX4_carries wsX4_carries) := goodIn_app (goodIn_of _ (by decide +kernel)) ggX4_adds_X4_carries
theorem dX4_adds_0 : decode cX4_adds 0 = .ok (.iload_n 2, 1) := by decide +kernel
theorem dX4_adds_1 : decode cX4_adds 1 = .ok (.ifCond .le 7, 3) := by decide +kernel
theorem dX4_adds_4 : decode cX4_adds 4 = .ok (.iconst 1, 1) := by decide +kernel
theorem dX4_adds_5 : decode cX4_adds 5 = .ok (.goto 4, 3) := by decide +kernel
theorem dX4_adds_8 : decode cX4_adds 8 = .ok (.iconst (-1), 1) := by decide +kernel
theorem dX4_adds_9 : decode cX4_adds 9 = .ok (.istore_n 3, 1) := by decide +kernel
theorem dX4_adds_10 : decode cX4_adds 10 = .ok (.iload_n 2, 1) := by decide +kernel
theorem dX4_adds_11 : decode cX4_adds 11 = .ok (.ifCond .ne 5, 3) := by decide +kernel
theorem dX4_adds_14 : decode cX4_adds 14 = .ok (.iconst 1, 1) := by decide +kernel
theorem dX4_adds_15 : decode cX4_adds 15 = .ok (.ireturn, 1) := by decide +kernel
theorem dX4_adds_16 : decode cX4_adds 16 = .ok (.aload_n 0, 1) := by decide +kernel
theorem dX4_adds_17 : decode cX4_adds 17 = .ok (.iload_n 1, 1) := by decide +kernel
theorem dX4_adds_18 : decode cX4_adds 18 = .ok (.aload_n 0, 1) := by decide +kernel
theorem dX4_adds_19 : decode cX4_adds 19 = .ok (.iload_n 1, 1) := by decide +kernel
theorem dX4_adds_20 : decode cX4_adds 20 = .ok (.invokevirtual 54, 3) := by decide +kernel
theorem dX4_adds_23 : decode cX4_adds 23 = .ok (.iload_n 2, 1) := by decide +kernel
theorem dX4_adds_24 : decode cX4_adds 24 = .ok (.iadd, 1) := by decide +kernel
theorem dX4_adds_25 : decode cX4_adds 25 = .ok (.invokevirtual 57, 3) := by decide +kernel
theorem dX4_adds_28 : decode cX4_adds 28 = .ok (.ifCond .eq 17, 3) := by decide +kernel
theorem dX4_adds_31 : decode cX4_adds 31 = .ok (.aload_n 0, 1) := by decide +kernel
theorem dX4_adds_32 : decode cX4_adds 32 = .ok (.iload_n 1, 1) := by decide +kernel
theorem dX4_adds_33 : decode cX4_adds 33 = .ok (.aload_n 0, 1) := by decide +kernel
theorem dX4_adds_34 : decode cX4_adds 34 = .ok (.iload_n 1, 1) := by decide +kernel
theorem dX4_adds_35 : decode cX4_adds 35 = .ok (.invokevirtual 54, 3) := by decide +kernel
theorem dX4_adds_38 : decode cX4_adds 38 = .ok (.iload_n 2, 1) := by decide +kernel
theorem dX4_adds_39 : decode cX4_adds 39 = .ok (.iadd, 1) := by decide +kernel
theorem dX4_adds_40 : decode cX4_adds 40 = .ok (.invokevirtual 61, 3) := by decide +kernel
theorem dX4_adds_43 : decode cX4_adds 43 = .ok (.iconst 1, 1) := by decide +kernel
theorem dX4_adds_44 : decode cX4_adds 44 = .ok (.ireturn, 1) := by decide +kernel
theorem dX4_adds_45 : decode cX4_adds 45 = .ok (.aload_n 0, 1) := by decide +kernel
theorem dX4_adds_46 : decode cX4_adds 46 = .ok (.iload_n 1, 1) := by decide +kernel
theorem dX4_adds_47 : decode cX4_adds 47 = .ok (.aload_n 0, 1) := by decide +kernel
theorem dX4_adds_48 : decode cX4_adds 48 = .ok (.iload_n 1, 1) := by decide +kernel
theorem dX4_adds_49 : decode cX4_adds 49 = .ok (.invokevirtual 54, 3) := by decide +kernel
theorem dX4_adds_52 : decode cX4_adds 52 = .ok (.iload_n 2, 1) := by decide +kernel
theorem dX4_adds_53 : decode cX4_adds 53 = .ok (.iadd, 1) := by decide +kernel
theorem dX4_adds_54 : decode cX4_adds 54 = .ok (.bipush 10, 2) := by decide +kernel
theorem dX4_adds_56 : decode cX4_adds 56 = .ok (.iload_n 3, 1) := by decide +kernel
theorem dX4_adds_57 : decode cX4_adds 57 = .ok (.imul, 1) := by decide +kernel
theorem dX4_adds_58 : decode cX4_adds 58 = .ok (.isub, 1) := by decide +kernel
theorem dX4_adds_59 : decode cX4_adds 59 = .ok (.invokevirtual 57, 3) := by decide +kernel
theorem dX4_adds_62 : decode cX4_adds 62 = .ok (.ifCond .ne 5, 3) := by decide +kernel
theorem dX4_adds_65 : decode cX4_adds 65 = .ok (.iconst 0, 1) := by decide +kernel
theorem dX4_adds_66 : decode cX4_adds 66 = .ok (.ireturn, 1) := by decide +kernel
theorem dX4_adds_67 : decode cX4_adds 67 = .ok (.aload_n 0, 1) := by decide +kernel
theorem dX4_adds_68 : decode cX4_adds 68 = .ok (.iload_n 1, 1) := by decide +kernel
theorem dX4_adds_69 : decode cX4_adds 69 = .ok (.aload_n 0, 1) := by decide +kernel
theorem dX4_adds_70 : decode cX4_adds 70 = .ok (.iload_n 1, 1) := by decide +kernel
theorem dX4_adds_71 : decode cX4_adds 71 = .ok (.invokevirtual 54, 3) := by decide +kernel
theorem dX4_adds_74 : decode cX4_adds 74 = .ok (.iload_n 2, 1) := by decide +kernel
theorem dX4_adds_75 : decode cX4_adds 75 = .ok (.iadd, 1) := by decide +kernel
theorem dX4_adds_76 : decode cX4_adds 76 = .ok (.bipush 10, 2) := by decide +kernel
theorem dX4_adds_78 : decode cX4_adds 78 = .ok (.iload_n 3, 1) := by decide +kernel
theorem dX4_adds_79 : decode cX4_adds 79 = .ok (.imul, 1) := by decide +kernel
theorem dX4_adds_80 : decode cX4_adds 80 = .ok (.isub, 1) := by decide +kernel
theorem dX4_adds_81 : decode cX4_adds 81 = .ok (.invokevirtual 61, 3) := by decide +kernel
theorem dX4_adds_84 : decode cX4_adds 84 = .ok (.aload_n 0, 1) := by decide +kernel
theorem dX4_adds_85 : decode cX4_adds 85 = .ok (.iload_n 1, 1) := by decide +kernel
theorem dX4_adds_86 : decode cX4_adds 86 = .ok (.iconst 1, 1) := by decide +kernel
theorem dX4_adds_87 : decode cX4_adds 87 = .ok (.iadd, 1) := by decide +kernel
theorem dX4_adds_88 : decode cX4_adds 88 = .ok (.iload_n 3, 1) := by decide +kernel
theorem dX4_adds_89 : decode cX4_adds 89 = .ok (.invokevirtual 65, 3) := by decide +kernel
theorem dX4_adds_92 : decode cX4_adds 92 = .ok (.ireturn, 1) := by decide +kernel
set_option maxRecDepth 20000 in
theorem ggX4_pays_X4_of : GoodIn wsX4_pays wsX4_of := goodIn_r _ [5] (by decide +kernel) (by decide +kernel)
set_option maxRecDepth 20000 in
theorem gX4_pays_X4_of : GoodIn wsX4_pays (va_wsS RX4 33 yX4_of wsX4_of) := goodIn_app (goodIn_of _ (by decide +kernel)) ggX4_pays_X4_of
set_option maxRecDepth 20000 in
theorem ggX4_pays_X4_adds : GoodIn wsX4_pays wsX4_adds := goodIn_r _ [9, 10, 11, 12, 4, 13, 1, 2, 3, 5, 14, 15, 16, 17, 18, 19, 20, 21, 22, 23, 24, 25, 26, 27, 28, 29, 30, 31, 32, 33, 34, 35, 36, 37, 38, 39, 40, 41, 42, 43, 44, 45, 46, 47, 48, 49, 50, 51, 52, 53, 54, 55] (by decide +kernel) (by decide +kernel)
set_option maxRecDepth 20000 in
theorem gX4_pays_X4_adds : GoodIn wsX4_pays (wsV RX4 68 RX4 yX4_adds wsX4_adds) := goodIn_app (goodIn_of _ (by decide +kernel)) ggX4_pays_X4_adds
theorem dX4_pays_0 : decode cX4_pays 0 = .ok (.aload_n 0, 1) := by decide +kernel
theorem dX4_pays_1 : decode cX4_pays 1 = .ok (.iload_n 1, 1) := by decide +kernel
theorem dX4_pays_2 : decode cX4_pays 2 = .ok (.aload_n 0, 1) := by decide +kernel
theorem dX4_pays_3 : decode cX4_pays 3 = .ok (.getfield 7, 3) := by decide +kernel
theorem dX4_pays_6 : decode cX4_pays 6 = .ok (.iload_n 1, 1) := by decide +kernel
theorem dX4_pays_7 : decode cX4_pays 7 = .ok (.iconst 2, 1) := by decide +kernel
theorem dX4_pays_8 : decode cX4_pays 8 = .ok (.invokestatic 33, 3) := by decide +kernel
theorem dX4_pays_11 : decode cX4_pays 11 = .ok (.iaload, 1) := by decide +kernel
theorem dX4_pays_12 : decode cX4_pays 12 = .ok (.invokevirtual 68, 3) := by decide +kernel
theorem dX4_pays_15 : decode cX4_pays 15 = .ok (.istore_n 2, 1) := by decide +kernel
theorem dX4_pays_16 : decode cX4_pays 16 = .ok (.aload_n 0, 1) := by decide +kernel
theorem dX4_pays_17 : decode cX4_pays 17 = .ok (.getfield 7, 3) := by decide +kernel
theorem dX4_pays_20 : decode cX4_pays 20 = .ok (.iload_n 1, 1) := by decide +kernel
theorem dX4_pays_21 : decode cX4_pays 21 = .ok (.iconst 2, 1) := by decide +kernel
theorem dX4_pays_22 : decode cX4_pays 22 = .ok (.invokestatic 33, 3) := by decide +kernel
theorem dX4_pays_25 : decode cX4_pays 25 = .ok (.iconst 0, 1) := by decide +kernel
theorem dX4_pays_26 : decode cX4_pays 26 = .ok (.iastore, 1) := by decide +kernel
theorem dX4_pays_27 : decode cX4_pays 27 = .ok (.iload_n 2, 1) := by decide +kernel
theorem dX4_pays_28 : decode cX4_pays 28 = .ok (.ireturn, 1) := by decide +kernel
set_option maxRecDepth 20000 in
theorem ggX4_orders_X4_shows : GoodIn wsX4_orders wsX4_shows := goodIn_r _ [5, 6, 7, 8, 4, 9, 44, 45, 46, 47, 48, 49, 50, 51] (by decide +kernel) (by decide +kernel)
set_option maxRecDepth 20000 in
theorem gX4_orders_X4_shows : GoodIn wsX4_orders (wsV RX4 54 RX4 yX4_shows wsX4_shows) := goodIn_app (goodIn_of _ (by decide +kernel)) ggX4_orders_X4_shows
set_option maxRecDepth 20000 in
theorem ggX4_orders_X4_can : GoodIn wsX4_orders wsX4_can := goodIn_r _ [13, 14, 15, 16, 4, 17, 18, 19, 20, 21, 22, 23, 24, 6, 7, 8, 9, 25, 26, 27, 28, 29, 30, 31, 44, 45, 46, 47, 48, 49, 50, 51] (by decide +kernel) (by decide +kernel)
set_option maxRecDepth 20000 in
theorem gX4_orders_X4_can : GoodIn wsX4_orders (wsV RX4 57 RX4 yX4_can wsX4_can) := goodIn_app (goodIn_of _ (by decide +kernel)) ggX4_orders_X4_can
set_option maxRecDepth 20000 in
theorem ggX4_orders_X4_comes : GoodIn wsX4_orders wsX4_comes := goodIn_r _ [35, 14, 15, 16, 4, 17, 18, 19, 20, 21, 22, 23, 24, 6, 7, 8, 9, 25, 26, 27, 28, 29, 30, 31, 36, 37, 38, 39, 44, 45, 46, 47, 48, 49, 50, 51] (by decide +kernel) (by decide +kernel)
set_option maxRecDepth 20000 in
theorem gX4_orders_X4_comes : GoodIn wsX4_orders (wsV RX4 61 RX4 yX4_comes wsX4_comes) := goodIn_app (goodIn_of _ (by decide +kernel)) ggX4_orders_X4_comes
set_option maxRecDepth 20000 in
theorem ggX4_orders_X4_carries : GoodIn wsX4_orders wsX4_carries := goodIn_r _ [43, 6, 1, 2, 3, 4, 5, 7, 8, 9, 10, 11, 12, 13, 14, 15, 16, 17, 18, 19, 20, 21, 22, 23, 24, 25, 26, 27, 28, 29, 30, 31, 32, 33, 34, 35, 36, 37, 38, 39, 44, 45, 46, 47, 48, 49, 50, 51] (by decide +kernel) (by decide +kernel)
set_option maxRecDepth 20000 in
theorem gX4_orders_X4_carries : GoodIn wsX4_orders (wsV RX4 65 RX4 yX4_carries wsX4_carries) := goodIn_app (goodIn_of _ (by decide +kernel)) ggX4_orders_X4_carries
theorem dX4_orders_0 : decode cX4_orders 0 = .ok (.aload_n 0, 1) := by decide +kernel
theorem dX4_orders_1 : decode cX4_orders 1 = .ok (.iload_n 1, 1) := by decide +kernel
theorem dX4_orders_2 : decode cX4_orders 2 = .ok (.invokevirtual 54, 3) := by decide +kernel
theorem dX4_orders_5 : decode cX4_orders 5 = .ok (.bipush 10, 2) := by decide +kernel
theorem dX4_orders_7 : decode cX4_orders 7 = .ok (.if_icmp .lt 19, 3) := by decide +kernel
theorem dX4_orders_10 : decode cX4_orders 10 = .ok (.aload_n 0, 1) := by decide +kernel
theorem dX4_orders_11 : decode cX4_orders 11 = .ok (.iload_n 1, 1) := by decide +kernel
theorem dX4_orders_12 : decode cX4_orders 12 = .ok (.aload_n 0, 1) := by decide +kernel
theorem dX4_orders_13 : decode cX4_orders 13 = .ok (.iload_n 1, 1) := by decide +kernel
theorem dX4_orders_14 : decode cX4_orders 14 = .ok (.invokevirtual 54, 3) := by decide +kernel
theorem dX4_orders_17 : decode cX4_orders 17 = .ok (.bipush 10, 2) := by decide +kernel
theorem dX4_orders_19 : decode cX4_orders 19 = .ok (.isub, 1) := by decide +kernel
theorem dX4_orders_20 : decode cX4_orders 20 = .ok (.invokevirtual 57, 3) := by decide +kernel
theorem dX4_orders_23 : decode cX4_orders 23 = .ok (.ifCond .ne 5, 3) := by decide +kernel
theorem dX4_orders_26 : decode cX4_orders 26 = .ok (.iconst 0, 1) := by decide +kernel
theorem dX4_orders_27 : decode cX4_orders 27 = .ok (.ireturn, 1) := by decide +kernel
theorem dX4_orders_28 : decode cX4_orders 28 = .ok (.aload_n 0, 1) := by decide +kernel
theorem dX4_orders_29 : decode cX4_orders 29 = .ok (.iload_n 1, 1) := by decide +kernel
theorem dX4_orders_30 : decode cX4_orders 30 = .ok (.aload_n 0, 1) := by decide +kernel
theorem dX4_orders_31 : decode cX4_orders 31 = .ok (.iload_n 1, 1) := by decide +kernel
theorem dX4_orders_32 : decode cX4_orders 32 = .ok (.invokevirtual 54, 3) := by decide +kernel
theorem dX4_orders_35 : decode cX4_orders 35 = .ok (.bipush 10, 2) := by decide +kernel
theorem dX4_orders_37 : decode cX4_orders 37 = .ok (.isub, 1) := by decide +kernel
theorem dX4_orders_38 : decode cX4_orders 38 = .ok (.invokevirtual 61, 3) := by decide +kernel
theorem dX4_orders_41 : decode cX4_orders 41 = .ok (.aload_n 0, 1) := by decide +kernel
theorem dX4_orders_42 : decode cX4_orders 42 = .ok (.iload_n 1, 1) := by decide +kernel
theorem dX4_orders_43 : decode cX4_orders 43 = .ok (.iconst 1, 1) := by decide +kernel
theorem dX4_orders_44 : decode cX4_orders 44 = .ok (.iadd, 1) := by decide +kernel
theorem dX4_orders_45 : decode cX4_orders 45 = .ok (.iconst 1, 1) := by decide +kernel
theorem dX4_orders_46 : decode cX4_orders 46 = .ok (.invokevirtual 65, 3) := by decide +kernel
theorem dX4_orders_49 : decode cX4_orders 49 = .ok (.ireturn, 1) := by decide +kernel
set_option maxRecDepth 20000 in
theorem ggX4_tries_X4_putAside : GoodIn wsX4_tries wsX4_putAside := goodIn_r _ [5, 6, 7, 65, 66, 67, 68, 69, 70, 71, 72] (by decide +kernel) (by decide +kernel)
set_option maxRecDepth 20000 in
theorem gX4_tries_X4_putAside : GoodIn wsX4_tries (wsV RX4 71 RX4 yX4_putAside wsX4_putAside) := goodIn_app (goodIn_of _ (by decide +kernel)) ggX4_tries_X4_putAside
set_option maxRecDepth 20000 in
theorem ggX4_tries_X4_adds : GoodIn wsX4_tries wsX4_adds := goodIn_r _ [11, 12, 13, 14, 4, 15, 7, 16, 17, 18, 19, 20, 21, 22, 23, 24, 25, 26, 27, 28, 29, 30, 31, 32, 33, 34, 35, 36, 37, 38, 39, 40, 41, 42, 43, 44, 45, 46, 47, 48, 49, 50, 51, 52, 65, 66, 67, 68, 69, 70, 71, 72] (by decide +kernel) (by decide +kernel)
set_option maxRecDepth 20000 in
theorem gX4_tries_X4_adds : GoodIn wsX4_tries (wsV RX4 68 RX4 yX4_adds wsX4_adds) := goodIn_app (goodIn_of _ (by decide +kernel)) ggX4_tries_X4_adds
set_option maxRecDepth 20000 in
theorem ggX4_tries_X4_pays : GoodIn wsX4_tries wsX4_pays := goodIn_r _ [56, 7, 16, 17, 4, 18, 8, 9, 10, 11, 12, 13, 14, 15, 19, 20, 21, 22, 23, 24, 25, 26, 27, 28, 29, 30, 31, 32, 33, 34, 35, 36, 37, 38, 39, 40, 41, 42, 43, 44, 45, 46, 47, 48, 49, 50, 51, 52, 65, 66, 67, 68, 69, 70, 71, 72] (by decide +kernel) (by decide +kernel)
set_option maxRecDepth 20000 in
theorem gX4_tries_X4_pays : GoodIn wsX4_tries (wsV RX4 74 RX4 yX4_pays wsX4_pays) := goodIn_app (goodIn_of _ (by decide +kernel)) ggX4_tries_X4_pays
set_option maxRecDepth 20000 in
theorem ggX4_tries_X4_orders : GoodIn wsX4_tries wsX4_orders := goodIn_r _ [60, 12, 13, 14, 4, 15, 7, 16, 17, 18, 19, 20, 21, 22, 23, 24, 25, 26, 27, 28, 29, 30, 31, 32, 33, 34, 35, 36, 37, 38, 39, 40, 41, 42, 43, 44, 45, 46, 47, 48, 49, 50, 51, 52, 65, 66, 67, 68, 69, 70, 71, 72] (by decide +kernel) (by decide +kernel)
set_option maxRecDepth 20000 in
theorem gX4_tries_X4_orders : GoodIn wsX4_tries (wsV RX4 78 RX4 yX4_orders wsX4_orders) := goodIn_app (goodIn_of _ (by decide +kernel)) ggX4_tries_X4_orders
set_option maxRecDepth 20000 in
theorem ggX4_tries_X4_putBack : GoodIn wsX4_tries wsX4_putBack := goodIn_r _ [64, 7, 6, 65, 66, 67, 68, 69, 70, 71, 72] (by decide +kernel) (by decide +kernel)
set_option maxRecDepth 20000 in
theorem gX4_tries_X4_putBack : GoodIn wsX4_tries (wsV RX4 81 RX4 yX4_putBack wsX4_putBack) := goodIn_app (goodIn_of _ (by decide +kernel)) ggX4_tries_X4_putBack
theorem dX4_tries_0 : decode cX4_tries 0 = .ok (.aload_n 0, 1) := by decide +kernel
theorem dX4_tries_1 : decode cX4_tries 1 = .ok (.invokevirtual 71, 3) := by decide +kernel
theorem dX4_tries_4 : decode cX4_tries 4 = .ok (.iload_n 1, 1) := by decide +kernel
theorem dX4_tries_5 : decode cX4_tries 5 = .ok (.ifCond .ne 12, 3) := by decide +kernel
theorem dX4_tries_8 : decode cX4_tries 8 = .ok (.aload_n 0, 1) := by decide +kernel
theorem dX4_tries_9 : decode cX4_tries 9 = .ok (.iload_n 2, 1) := by decide +kernel
theorem dX4_tries_10 : decode cX4_tries 10 = .ok (.iload_n 3, 1) := by decide +kernel
theorem dX4_tries_11 : decode cX4_tries 11 = .ok (.invokevirtual 68, 3) := by decide +kernel
theorem dX4_tries_14 : decode cX4_tries 14 = .ok (.goto 21, 3) := by decide +kernel
theorem dX4_tries_17 : decode cX4_tries 17 = .ok (.iload_n 1, 1) := by decide +kernel
theorem dX4_tries_18 : decode cX4_tries 18 = .ok (.iconst 1, 1) := by decide +kernel
theorem dX4_tries_19 : decode cX4_tries 19 = .ok (.if_icmp .ne 11, 3) := by decide +kernel
theorem dX4_tries_22 : decode cX4_tries 22 = .ok (.aload_n 0, 1) := by decide +kernel
theorem dX4_tries_23 : decode cX4_tries 23 = .ok (.iload_n 2, 1) := by decide +kernel
theorem dX4_tries_24 : decode cX4_tries 24 = .ok (.invokevirtual 74, 3) := by decide +kernel
theorem dX4_tries_27 : decode cX4_tries 27 = .ok (.goto 8, 3) := by decide +kernel
theorem dX4_tries_30 : decode cX4_tries 30 = .ok (.aload_n 0, 1) := by decide +kernel
theorem dX4_tries_31 : decode cX4_tries 31 = .ok (.iload_n 2, 1) := by decide +kernel
theorem dX4_tries_32 : decode cX4_tries 32 = .ok (.invokevirtual 78, 3) := by decide +kernel
theorem dX4_tries_35 : decode cX4_tries 35 = .ok (.istore 4, 2) := by decide +kernel
theorem dX4_tries_37 : decode cX4_tries 37 = .ok (.iload 4, 2) := by decide +kernel
theorem dX4_tries_39 : decode cX4_tries 39 = .ok (.ifCond .ne 7, 3) := by decide +kernel
theorem dX4_tries_42 : decode cX4_tries 42 = .ok (.aload_n 0, 1) := by decide +kernel
theorem dX4_tries_43 : decode cX4_tries 43 = .ok (.invokevirtual 81, 3) := by decide +kernel
theorem dX4_tries_46 : decode cX4_tries 46 = .ok (.iload 4, 2) := by decide +kernel
theorem dX4_tries_48 : decode cX4_tries 48 = .ok (.ireturn, 1) := by decide +kernel
set_option maxRecDepth 20000 in
theorem ggX4_move_X4_isRod : GoodIn wsX4_move wsX4_isRod := goodIn_r _ [4, 5, 6, 3, 7] (by decide +kernel) (by decide +kernel)
set_option maxRecDepth 20000 in
theorem gX4_move_X4_isRod : GoodIn wsX4_move (va_wsS RX4 84 yX4_isRod wsX4_isRod) := goodIn_app (goodIn_of _ (by decide +kernel)) ggX4_move_X4_isRod
set_option maxRecDepth 20000 in
theorem ggX4_move_X4_in : GoodIn wsX4_move wsX4_in := goodIn_r _ [7] (by decide +kernel) (by decide +kernel)
set_option maxRecDepth 20000 in
theorem gX4_move_X4_in : GoodIn wsX4_move (va_wsS RX4 26 yX4_in wsX4_in) := goodIn_app (goodIn_of _ (by decide +kernel)) ggX4_move_X4_in
set_option maxRecDepth 20000 in
theorem ggX4_move_X4_isLoose : GoodIn wsX4_move wsX4_isLoose := goodIn_r _ [11, 12, 13, 14, 3, 15, 38, 39, 40, 41, 42, 43, 44, 45] (by decide +kernel) (by decide +kernel)
set_option maxRecDepth 20000 in
theorem gX4_move_X4_isLoose : GoodIn wsX4_move (wsV RX4 41 RX4 yX4_isLoose wsX4_isLoose) := goodIn_app (goodIn_of _ (by decide +kernel)) ggX4_move_X4_isLoose
set_option maxRecDepth 20000 in
theorem ggX4_move_X4_holds : GoodIn wsX4_move wsX4_holds := goodIn_r _ [19, 20, 38, 39, 40, 41, 42, 43, 44, 45] (by decide +kernel) (by decide +kernel)
set_option maxRecDepth 20000 in
theorem gX4_move_X4_holds : GoodIn wsX4_move (wsV RX4 87 RX4 yX4_holds wsX4_holds) := goodIn_app (goodIn_of _ (by decide +kernel)) ggX4_move_X4_holds
set_option maxRecDepth 20000 in
theorem ggX4_move_X4_save : GoodIn wsX4_move wsX4_save := goodIn_r _ [24, 25, 26, 12, 38, 39, 40, 41, 42, 43, 44, 45] (by decide +kernel) (by decide +kernel)
set_option maxRecDepth 20000 in
theorem gX4_move_X4_save : GoodIn wsX4_move (wsV RX4 90 RX4 yX4_save wsX4_save) := goodIn_app (goodIn_of _ (by decide +kernel)) ggX4_move_X4_save
set_option maxRecDepth 20000 in
theorem ggX4_move_X4_movesBeads : GoodIn wsX4_move wsX4_movesBeads := goodIn_r _ [30, 12, 31, 32, 33, 3, 34, 13, 14, 15, 35, 36, 37, 38, 39, 40, 41, 42, 43, 44, 45] (by decide +kernel) (by decide +kernel)
set_option maxRecDepth 20000 in
theorem gX4_move_X4_movesBeads : GoodIn wsX4_move (wsV RX4 51 RX4 yX4_movesBeads wsX4_movesBeads) := goodIn_app (goodIn_of _ (by decide +kernel)) ggX4_move_X4_movesBeads
theorem dX4_move_0 : decode cX4_move 0 = .ok (.aload_n 0, 1) := by decide +kernel
theorem dX4_move_1 : decode cX4_move 1 = .ok (.iload_n 1, 1) := by decide +kernel
theorem dX4_move_2 : decode cX4_move 2 = .ok (.invokestatic 84, 3) := by decide +kernel
theorem dX4_move_5 : decode cX4_move 5 = .ok (.ifCond .ne 7, 3) := by decide +kernel
theorem dX4_move_8 : decode cX4_move 8 = .ok (.iconst 1, 1) := by decide +kernel
theorem dX4_move_9 : decode cX4_move 9 = .ok (.goto 40, 3) := by decide +kernel
theorem dX4_move_12 : decode cX4_move 12 = .ok (.iload_n 2, 1) := by decide +kernel
theorem dX4_move_13 : decode cX4_move 13 = .ok (.iconst 0, 1) := by decide +kernel
theorem dX4_move_14 : decode cX4_move 14 = .ok (.iconst 2, 1) := by decide +kernel
theorem dX4_move_15 : decode cX4_move 15 = .ok (.invokestatic 26, 3) := by decide +kernel
theorem dX4_move_18 : decode cX4_move 18 = .ok (.ifCond .eq 12, 3) := by decide +kernel
theorem dX4_move_21 : decode cX4_move 21 = .ok (.iload_n 3, 1) := by decide +kernel
theorem dX4_move_22 : decode cX4_move 22 = .ok (.iconst 0, 1) := by decide +kernel
theorem dX4_move_23 : decode cX4_move 23 = .ok (.iconst 5, 1) := by decide +kernel
theorem dX4_move_24 : decode cX4_move 24 = .ok (.invokestatic 26, 3) := by decide +kernel
theorem dX4_move_27 : decode cX4_move 27 = .ok (.ifCond .ne 7, 3) := by decide +kernel
theorem dX4_move_30 : decode cX4_move 30 = .ok (.iconst 2, 1) := by decide +kernel
theorem dX4_move_31 : decode cX4_move 31 = .ok (.goto 18, 3) := by decide +kernel
theorem dX4_move_34 : decode cX4_move 34 = .ok (.aload_n 0, 1) := by decide +kernel
theorem dX4_move_35 : decode cX4_move 35 = .ok (.iload_n 1, 1) := by decide +kernel
theorem dX4_move_36 : decode cX4_move 36 = .ok (.iload_n 2, 1) := by decide +kernel
theorem dX4_move_37 : decode cX4_move 37 = .ok (.iload_n 3, 1) := by decide +kernel
theorem dX4_move_38 : decode cX4_move 38 = .ok (.invokevirtual 41, 3) := by decide +kernel
theorem dX4_move_41 : decode cX4_move 41 = .ok (.ifCond .ne 7, 3) := by decide +kernel
theorem dX4_move_44 : decode cX4_move 44 = .ok (.iconst 3, 1) := by decide +kernel
theorem dX4_move_45 : decode cX4_move 45 = .ok (.goto 4, 3) := by decide +kernel
theorem dX4_move_48 : decode cX4_move 48 = .ok (.iconst 0, 1) := by decide +kernel
theorem dX4_move_49 : decode cX4_move 49 = .ok (.invokevirtual 87, 3) := by decide +kernel
theorem dX4_move_52 : decode cX4_move 52 = .ok (.ifCond .ne 5, 3) := by decide +kernel
theorem dX4_move_55 : decode cX4_move 55 = .ok (.iconst 0, 1) := by decide +kernel
theorem dX4_move_56 : decode cX4_move 56 = .ok (.ireturn, 1) := by decide +kernel
theorem dX4_move_57 : decode cX4_move 57 = .ok (.aload_n 0, 1) := by decide +kernel
theorem dX4_move_58 : decode cX4_move 58 = .ok (.invokevirtual 90, 3) := by decide +kernel
theorem dX4_move_61 : decode cX4_move 61 = .ok (.aload_n 0, 1) := by decide +kernel
theorem dX4_move_62 : decode cX4_move 62 = .ok (.iload_n 1, 1) := by decide +kernel
theorem dX4_move_63 : decode cX4_move 63 = .ok (.iload_n 2, 1) := by decide +kernel
theorem dX4_move_64 : decode cX4_move 64 = .ok (.iload_n 3, 1) := by decide +kernel
theorem dX4_move_65 : decode cX4_move 65 = .ok (.invokevirtual 51, 3) := by decide +kernel
theorem dX4_move_68 : decode cX4_move 68 = .ok (.ireturn, 1) := by decide +kernel
set_option maxRecDepth 20000 in
theorem ggX4_puts_X4_save : GoodIn wsX4_puts wsX4_save := goodIn_r _ [6, 7, 8, 1, 9, 10, 11, 12, 13, 14, 15, 16] (by decide +kernel) (by decide +kernel)
set_option maxRecDepth 20000 in
theorem gX4_puts_X4_save : GoodIn wsX4_puts (wsV RX4 90 RX4 yX4_save wsX4_save) := goodIn_app (goodIn_of _ (by decide +kernel)) ggX4_puts_X4_save
theorem dX4_puts_0 : decode cX4_puts 0 = .ok (.aload_n 0, 1) := by decide +kernel
theorem dX4_puts_1 : decode cX4_puts 1 = .ok (.invokevirtual 90, 3) := by decide +kernel
theorem dX4_puts_4 : decode cX4_puts 4 = .ok (.aload_n 0, 1) := by decide +kernel
theorem dX4_puts_5 : decode cX4_puts 5 = .ok (.getfield 7, 3) := by decide +kernel
theorem dX4_puts_8 : decode cX4_puts 8 = .ok (.iload_n 1, 1) := by decide +kernel
theorem dX4_puts_9 : decode cX4_puts 9 = .ok (.iaload, 1) := by decide +kernel
theorem dX4_puts_10 : decode cX4_puts 10 = .ok (.istore_n 3, 1) := by decide +kernel
theorem dX4_puts_11 : decode cX4_puts 11 = .ok (.aload_n 0, 1) := by decide +kernel
theorem dX4_puts_12 : decode cX4_puts 12 = .ok (.getfield 7, 3) := by decide +kernel
theorem dX4_puts_15 : decode cX4_puts 15 = .ok (.iload_n 1, 1) := by decide +kernel
theorem dX4_puts_16 : decode cX4_puts 16 = .ok (.iload_n 2, 1) := by decide +kernel
theorem dX4_puts_17 : decode cX4_puts 17 = .ok (.iastore, 1) := by decide +kernel
theorem dX4_puts_18 : decode cX4_puts 18 = .ok (.iload_n 3, 1) := by decide +kernel
theorem dX4_puts_19 : decode cX4_puts 19 = .ok (.ireturn, 1) := by decide +kernel
set_option maxRecDepth 20000 in
theorem ggX4_stick_X4_isRod : GoodIn wsX4_stick wsX4_isRod := goodIn_r _ [4, 5, 6, 3, 7] (by decide +kernel) (by decide +kernel)
set_option maxRecDepth 20000 in
theorem gX4_stick_X4_isRod : GoodIn wsX4_stick (va_wsS RX4 84 yX4_isRod wsX4_isRod) := goodIn_app (goodIn_of _ (by decide +kernel)) ggX4_stick_X4_isRod
set_option maxRecDepth 20000 in
theorem ggX4_stick_X4_in : GoodIn wsX4_stick wsX4_in := goodIn_r _ [7] (by decide +kernel) (by decide +kernel)
set_option maxRecDepth 20000 in
theorem gX4_stick_X4_in : GoodIn wsX4_stick (va_wsS RX4 26 yX4_in wsX4_in) := goodIn_app (goodIn_of _ (by decide +kernel)) ggX4_stick_X4_in
set_option maxRecDepth 20000 in
theorem ggX4_stick_X4_holds : GoodIn wsX4_stick wsX4_holds := goodIn_r _ [11, 12, 27, 28, 29, 30, 31, 32, 33, 34] (by decide +kernel) (by decide +kernel)
set_option maxRecDepth 20000 in
theorem gX4_stick_X4_holds : GoodIn wsX4_stick (wsV RX4 87 RX4 yX4_holds wsX4_holds) := goodIn_app (goodIn_of _ (by decide +kernel)) ggX4_stick_X4_holds
set_option maxRecDepth 20000 in
theorem ggX4_stick_X4_of : GoodIn wsX4_stick wsX4_of := goodIn_r _ [15] (by decide +kernel) (by decide +kernel)
set_option maxRecDepth 20000 in
theorem gX4_stick_X4_of : GoodIn wsX4_stick (va_wsS RX4 33 yX4_of wsX4_of) := goodIn_app (goodIn_of _ (by decide +kernel)) ggX4_stick_X4_of
set_option maxRecDepth 20000 in
theorem ggX4_stick_X4_puts : GoodIn wsX4_stick wsX4_puts := goodIn_r _ [19, 20, 21, 22, 23, 3, 24, 25, 26, 27, 28, 29, 30, 31, 32, 33, 34] (by decide +kernel) (by decide +kernel)
set_option maxRecDepth 20000 in
theorem gX4_stick_X4_puts : GoodIn wsX4_stick (wsV RX4 93 RX4 yX4_puts wsX4_puts) := goodIn_app (goodIn_of _ (by decide +kernel)) ggX4_stick_X4_puts
theorem dX4_stick_0 : decode cX4_stick 0 = .ok (.aload_n 0, 1) := by decide +kernel
theorem dX4_stick_1 : decode cX4_stick 1 = .ok (.iload_n 1, 1) := by decide +kernel
theorem dX4_stick_2 : decode cX4_stick 2 = .ok (.invokestatic 84, 3) := by decide +kernel
theorem dX4_stick_5 : decode cX4_stick 5 = .ok (.ifCond .ne 7, 3) := by decide +kernel
theorem dX4_stick_8 : decode cX4_stick 8 = .ok (.iconst 1, 1) := by decide +kernel
theorem dX4_stick_9 : decode cX4_stick 9 = .ok (.goto 17, 3) := by decide +kernel
theorem dX4_stick_12 : decode cX4_stick 12 = .ok (.iload_n 2, 1) := by decide +kernel
theorem dX4_stick_13 : decode cX4_stick 13 = .ok (.iconst 0, 1) := by decide +kernel
theorem dX4_stick_14 : decode cX4_stick 14 = .ok (.iconst 3, 1) := by decide +kernel
theorem dX4_stick_15 : decode cX4_stick 15 = .ok (.invokestatic 26, 3) := by decide +kernel
theorem dX4_stick_18 : decode cX4_stick 18 = .ok (.ifCond .ne 7, 3) := by decide +kernel
theorem dX4_stick_21 : decode cX4_stick 21 = .ok (.iconst 2, 1) := by decide +kernel
theorem dX4_stick_22 : decode cX4_stick 22 = .ok (.goto 4, 3) := by decide +kernel
theorem dX4_stick_25 : decode cX4_stick 25 = .ok (.iconst 0, 1) := by decide +kernel
theorem dX4_stick_26 : decode cX4_stick 26 = .ok (.invokevirtual 87, 3) := by decide +kernel
theorem dX4_stick_29 : decode cX4_stick 29 = .ok (.ifCond .eq 16, 3) := by decide +kernel
theorem dX4_stick_32 : decode cX4_stick 32 = .ok (.aload_n 0, 1) := by decide +kernel
theorem dX4_stick_33 : decode cX4_stick 33 = .ok (.iload_n 1, 1) := by decide +kernel
theorem dX4_stick_34 : decode cX4_stick 34 = .ok (.iconst 3, 1) := by decide +kernel
theorem dX4_stick_35 : decode cX4_stick 35 = .ok (.invokestatic 33, 3) := by decide +kernel
theorem dX4_stick_38 : decode cX4_stick 38 = .ok (.iload_n 2, 1) := by decide +kernel
theorem dX4_stick_39 : decode cX4_stick 39 = .ok (.invokevirtual 93, 3) := by decide +kernel
theorem dX4_stick_42 : decode cX4_stick 42 = .ok (.goto 4, 3) := by decide +kernel
theorem dX4_stick_45 : decode cX4_stick 45 = .ok (.iconst 0, 1) := by decide +kernel
theorem dX4_stick_46 : decode cX4_stick 46 = .ok (.ireturn, 1) := by decide +kernel
set_option maxRecDepth 20000 in
theorem ggX4_set_X4_in : GoodIn wsX4_set wsX4_in := goodIn_r _ [4] (by decide +kernel) (by decide +kernel)
set_option maxRecDepth 20000 in
theorem gX4_set_X4_in : GoodIn wsX4_set (va_wsS RX4 26 yX4_in wsX4_in) := goodIn_app (goodIn_of _ (by decide +kernel)) ggX4_set_X4_in
set_option maxRecDepth 20000 in
theorem ggX4_set_X4_holds : GoodIn wsX4_set wsX4_holds := goodIn_r _ [8, 9, 21, 22, 23, 24, 25, 26, 27, 28] (by decide +kernel) (by decide +kernel)
set_option maxRecDepth 20000 in
theorem gX4_set_X4_holds : GoodIn wsX4_set (wsV RX4 87 RX4 yX4_holds wsX4_holds) := goodIn_app (goodIn_of _ (by decide +kernel)) ggX4_set_X4_holds
set_option maxRecDepth 20000 in
theorem ggX4_set_X4_puts : GoodIn wsX4_set wsX4_puts := goodIn_r _ [13, 14, 15, 16, 17, 3, 18, 19, 20, 21, 22, 23, 24, 25, 26, 27, 28] (by decide +kernel) (by decide +kernel)
set_option maxRecDepth 20000 in
theorem gX4_set_X4_puts : GoodIn wsX4_set (wsV RX4 93 RX4 yX4_puts wsX4_puts) := goodIn_app (goodIn_of _ (by decide +kernel)) ggX4_set_X4_puts
theorem dX4_set_0 : decode cX4_set 0 = .ok (.aload_n 0, 1) := by decide +kernel
theorem dX4_set_1 : decode cX4_set 1 = .ok (.iload_n 1, 1) := by decide +kernel
theorem dX4_set_2 : decode cX4_set 2 = .ok (.iconst 0, 1) := by decide +kernel
theorem dX4_set_3 : decode cX4_set 3 = .ok (.bipush 9, 2) := by decide +kernel
theorem dX4_set_5 : decode cX4_set 5 = .ok (.invokestatic 26, 3) := by decide +kernel
theorem dX4_set_8 : decode cX4_set 8 = .ok (.ifCond .eq 7, 3) := by decide +kernel
theorem dX4_set_11 : decode cX4_set 11 = .ok (.iconst 0, 1) := by decide +kernel
theorem dX4_set_12 : decode cX4_set 12 = .ok (.goto 4, 3) := by decide +kernel
theorem dX4_set_15 : decode cX4_set 15 = .ok (.iconst 1, 1) := by decide +kernel
theorem dX4_set_16 : decode cX4_set 16 = .ok (.invokevirtual 87, 3) := by decide +kernel
theorem dX4_set_19 : decode cX4_set 19 = .ok (.ifCond .eq 12, 3) := by decide +kernel
theorem dX4_set_22 : decode cX4_set 22 = .ok (.aload_n 0, 1) := by decide +kernel
theorem dX4_set_23 : decode cX4_set 23 = .ok (.iconst 0, 1) := by decide +kernel
theorem dX4_set_24 : decode cX4_set 24 = .ok (.iload_n 1, 1) := by decide +kernel
theorem dX4_set_25 : decode cX4_set 25 = .ok (.invokevirtual 93, 3) := by decide +kernel
theorem dX4_set_28 : decode cX4_set 28 = .ok (.goto 4, 3) := by decide +kernel
theorem dX4_set_31 : decode cX4_set 31 = .ok (.iconst 0, 1) := by decide +kernel
theorem dX4_set_32 : decode cX4_set 32 = .ok (.ireturn, 1) := by decide +kernel
set_option maxRecDepth 20000 in
theorem ggX4_takes_X4_allMoves : GoodIn wsX4_takes wsX4_allMoves := goodIn_r _ [5, 6, 7, 8, 4, 9, 73, 74, 75, 76, 77, 78, 79, 80] (by decide +kernel) (by decide +kernel)
set_option maxRecDepth 20000 in
theorem gX4_takes_X4_allMoves : GoodIn wsX4_takes (wsV RX4 96 RX4 yX4_allMoves wsX4_allMoves) := goodIn_app (goodIn_of _ (by decide +kernel)) ggX4_takes_X4_allMoves
set_option maxRecDepth 20000 in
theorem ggX4_takes_X4_tries : GoodIn wsX4_takes wsX4_tries := goodIn_r _ [13, 14, 15, 16, 4, 17, 18, 6, 19, 20, 21, 22, 23, 24, 25, 26, 7, 8, 9, 27, 28, 29, 30, 31, 32, 33, 34, 35, 36, 37, 38, 39, 40, 41, 42, 43, 44, 45, 46, 47, 48, 49, 50, 51, 52, 53, 54, 55, 56, 57, 58, 59, 60, 61, 62, 63, 64, 65, 66, 67, 68, 69, 70, 71, 72, 73, 74, 75, 76, 77, 78, 79, 80] (by decide +kernel) (by decide +kernel)
set_option maxRecDepth 20000 in
theorem gX4_takes_X4_tries : GoodIn wsX4_takes (wsV RX4 100 RX4 yX4_tries wsX4_tries) := goodIn_app (goodIn_of _ (by decide +kernel)) ggX4_takes_X4_tries
set_option maxRecDepth 20000 in
theorem ggX4_takes_X4_putBack : GoodIn wsX4_takes wsX4_putBack := goodIn_r _ [72, 6, 18, 73, 74, 75, 76, 77, 78, 79, 80] (by decide +kernel) (by decide +kernel)
set_option maxRecDepth 20000 in
theorem gX4_takes_X4_putBack : GoodIn wsX4_takes (wsV RX4 81 RX4 yX4_putBack wsX4_putBack) := goodIn_app (goodIn_of _ (by decide +kernel)) ggX4_takes_X4_putBack
theorem dX4_takes_0 : decode cX4_takes 0 = .ok (.aload_n 0, 1) := by decide +kernel
theorem dX4_takes_1 : decode cX4_takes 1 = .ok (.invokevirtual 96, 3) := by decide +kernel
theorem dX4_takes_4 : decode cX4_takes 4 = .ok (.istore 4, 2) := by decide +kernel
theorem dX4_takes_6 : decode cX4_takes 6 = .ok (.aload_n 0, 1) := by decide +kernel
theorem dX4_takes_7 : decode cX4_takes 7 = .ok (.iload_n 1, 1) := by decide +kernel
theorem dX4_takes_8 : decode cX4_takes 8 = .ok (.iload_n 2, 1) := by decide +kernel
theorem dX4_takes_9 : decode cX4_takes 9 = .ok (.iload_n 3, 1) := by decide +kernel
theorem dX4_takes_10 : decode cX4_takes 10 = .ok (.invokevirtual 100, 3) := by decide +kernel
theorem dX4_takes_13 : decode cX4_takes 13 = .ok (.istore 5, 2) := by decide +kernel
theorem dX4_takes_15 : decode cX4_takes 15 = .ok (.aload_n 0, 1) := by decide +kernel
theorem dX4_takes_16 : decode cX4_takes 16 = .ok (.invokevirtual 96, 3) := by decide +kernel
theorem dX4_takes_19 : decode cX4_takes 19 = .ok (.iload 4, 2) := by decide +kernel
theorem dX4_takes_21 : decode cX4_takes 21 = .ok (.isub, 1) := by decide +kernel
theorem dX4_takes_22 : decode cX4_takes 22 = .ok (.istore 6, 2) := by decide +kernel
theorem dX4_takes_24 : decode cX4_takes 24 = .ok (.aload_n 0, 1) := by decide +kernel
theorem dX4_takes_25 : decode cX4_takes 25 = .ok (.invokevirtual 81, 3) := by decide +kernel
theorem dX4_takes_28 : decode cX4_takes 28 = .ok (.iload 5, 2) := by decide +kernel
theorem dX4_takes_30 : decode cX4_takes 30 = .ok (.ifCond .eq 8, 3) := by decide +kernel
theorem dX4_takes_33 : decode cX4_takes 33 = .ok (.iload 6, 2) := by decide +kernel
theorem dX4_takes_35 : decode cX4_takes 35 = .ok (.goto 4, 3) := by decide +kernel
theorem dX4_takes_38 : decode cX4_takes 38 = .ok (.iconst (-1), 1) := by decide +kernel
theorem dX4_takes_39 : decode cX4_takes 39 = .ok (.ireturn, 1) := by decide +kernel
set_option maxRecDepth 20000 in
theorem ggX4_does_X4_save : GoodIn wsX4_does wsX4_save := goodIn_r _ [5, 6, 7, 8, 79, 80, 81, 82, 83, 84, 85, 86] (by decide +kernel) (by decide +kernel)
set_option maxRecDepth 20000 in
theorem gX4_does_X4_save : GoodIn wsX4_does (wsV RX4 90 RX4 yX4_save wsX4_save) := goodIn_app (goodIn_of _ (by decide +kernel)) ggX4_does_X4_save
set_option maxRecDepth 20000 in
theorem ggX4_does_X4_allMoves : GoodIn wsX4_does wsX4_allMoves := goodIn_r _ [12, 8, 13, 14, 4, 15, 79, 80, 81, 82, 83, 84, 85, 86] (by decide +kernel) (by decide +kernel)
set_option maxRecDepth 20000 in
theorem gX4_does_X4_allMoves : GoodIn wsX4_does (wsV RX4 96 RX4 yX4_allMoves wsX4_allMoves) := goodIn_app (goodIn_of _ (by decide +kernel)) ggX4_does_X4_allMoves
set_option maxRecDepth 20000 in
theorem ggX4_does_X4_tries : GoodIn wsX4_does wsX4_tries := goodIn_r _ [19, 20, 21, 22, 4, 23, 24, 8, 25, 26, 27, 28, 29, 30, 31, 32, 13, 14, 15, 33, 34, 35, 36, 37, 38, 39, 40, 41, 42, 43, 44, 45, 46, 47, 48, 49, 50, 51, 52, 53, 54, 55, 56, 57, 58, 59, 60, 61, 62, 63, 64, 65, 66, 67, 68, 69, 70, 71, 72, 73, 74, 75, 76, 77, 78, 79, 80, 81, 82, 83, 84, 85, 86] (by decide +kernel) (by decide +kernel)
set_option maxRecDepth 20000 in
theorem gX4_does_X4_tries : GoodIn wsX4_does (wsV RX4 100 RX4 yX4_tries wsX4_tries) := goodIn_app (goodIn_of _ (by decide +kernel)) ggX4_does_X4_tries
theorem dX4_does_0 : decode cX4_does 0 = .ok (.aload_n 0, 1) := by decide +kernel
theorem dX4_does_1 : decode cX4_does 1 = .ok (.invokevirtual 90, 3) := by decide +kernel
theorem dX4_does_4 : decode cX4_does 4 = .ok (.aload_n 0, 1) := by decide +kernel
theorem dX4_does_5 : decode cX4_does 5 = .ok (.invokevirtual 96, 3) := by decide +kernel
theorem dX4_does_8 : decode cX4_does 8 = .ok (.istore 4, 2) := by decide +kernel
theorem dX4_does_10 : decode cX4_does 10 = .ok (.aload_n 0, 1) := by decide +kernel
theorem dX4_does_11 : decode cX4_does 11 = .ok (.iload_n 1, 1) := by decide +kernel
theorem dX4_does_12 : decode cX4_does 12 = .ok (.iload_n 2, 1) := by decide +kernel
theorem dX4_does_13 : decode cX4_does 13 = .ok (.iload_n 3, 1) := by decide +kernel
theorem dX4_does_14 : decode cX4_does 14 = .ok (.invokevirtual 100, 3) := by decide +kernel
theorem dX4_does_17 : decode cX4_does 17 = .ok (.istore 5, 2) := by decide +kernel
theorem dX4_does_19 : decode cX4_does 19 = .ok (.aload_n 0, 1) := by decide +kernel
theorem dX4_does_20 : decode cX4_does 20 = .ok (.invokevirtual 96, 3) := by decide +kernel
theorem dX4_does_23 : decode cX4_does 23 = .ok (.iload 4, 2) := by decide +kernel
theorem dX4_does_25 : decode cX4_does 25 = .ok (.isub, 1) := by decide +kernel
theorem dX4_does_26 : decode cX4_does 26 = .ok (.ireturn, 1) := by decide +kernel
set_option maxRecDepth 20000 in
theorem ggX4_add_X4_isRod : GoodIn wsX4_add wsX4_isRod := goodIn_r _ [4, 5, 6, 3, 7] (by decide +kernel) (by decide +kernel)
set_option maxRecDepth 20000 in
theorem gX4_add_X4_isRod : GoodIn wsX4_add (va_wsS RX4 84 yX4_isRod wsX4_isRod) := goodIn_app (goodIn_of _ (by decide +kernel)) ggX4_add_X4_isRod
set_option maxRecDepth 20000 in
theorem ggX4_add_X4_in : GoodIn wsX4_add wsX4_in := goodIn_r _ [7] (by decide +kernel) (by decide +kernel)
set_option maxRecDepth 20000 in
theorem gX4_add_X4_in : GoodIn wsX4_add (va_wsS RX4 26 yX4_in wsX4_in) := goodIn_app (goodIn_of _ (by decide +kernel)) ggX4_add_X4_in
set_option maxRecDepth 20000 in
theorem ggX4_add_X4_takes : GoodIn wsX4_add wsX4_takes := goodIn_r _ [11, 12, 13, 14, 3, 15, 16, 17, 18, 19, 20, 21, 22, 23, 24, 25, 26, 27, 28, 29, 30, 31, 32, 33, 34, 35, 36, 37, 38, 39, 40, 41, 42, 43, 44, 5, 6, 7, 45, 46, 47, 48, 49, 50, 51, 52, 53, 54, 55, 56, 57, 58, 59, 60, 61, 62, 63, 64, 65, 66, 67, 68, 69, 70, 71, 72, 73, 74, 75, 76, 77, 78, 79, 95, 96, 97, 98, 99, 100, 101, 102] (by decide +kernel) (by decide +kernel)
set_option maxRecDepth 20000 in
theorem gX4_add_X4_takes : GoodIn wsX4_add (wsV RX4 103 RX4 yX4_takes wsX4_takes) := goodIn_app (goodIn_of _ (by decide +kernel)) ggX4_add_X4_takes
set_option maxRecDepth 20000 in
theorem ggX4_add_X4_holds : GoodIn wsX4_add wsX4_holds := goodIn_r _ [83, 84, 95, 96, 97, 98, 99, 100, 101, 102] (by decide +kernel) (by decide +kernel)
set_option maxRecDepth 20000 in
theorem gX4_add_X4_holds : GoodIn wsX4_add (wsV RX4 87 RX4 yX4_holds wsX4_holds) := goodIn_app (goodIn_of _ (by decide +kernel)) ggX4_add_X4_holds
set_option maxRecDepth 20000 in
theorem ggX4_add_X4_does : GoodIn wsX4_add wsX4_does := goodIn_r _ [88, 89, 90, 91, 3, 92, 93, 94, 16, 12, 13, 14, 15, 17, 18, 19, 20, 21, 22, 23, 24, 25, 26, 27, 28, 29, 30, 31, 32, 33, 34, 35, 36, 37, 38, 39, 40, 41, 42, 43, 44, 5, 6, 7, 45, 46, 47, 48, 49, 50, 51, 52, 53, 54, 55, 56, 57, 58, 59, 60, 61, 62, 63, 64, 65, 66, 67, 68, 69, 70, 71, 72, 73, 74, 75, 76, 77, 78, 79, 95, 96, 97, 98, 99, 100, 101, 102] (by decide +kernel) (by decide +kernel)
set_option maxRecDepth 20000 in
theorem gX4_add_X4_does : GoodIn wsX4_add (wsV RX4 106 RX4 yX4_does wsX4_does) := goodIn_app (goodIn_of _ (by decide +kernel)) ggX4_add_X4_does
theorem dX4_add_0 : decode cX4_add 0 = .ok (.aload_n 0, 1) := by decide +kernel
theorem dX4_add_1 : decode cX4_add 1 = .ok (.iload_n 1, 1) := by decide +kernel
theorem dX4_add_2 : decode cX4_add 2 = .ok (.invokestatic 84, 3) := by decide +kernel
theorem dX4_add_5 : decode cX4_add 5 = .ok (.ifCond .ne 7, 3) := by decide +kernel
theorem dX4_add_8 : decode cX4_add 8 = .ok (.iconst 1, 1) := by decide +kernel
theorem dX4_add_9 : decode cX4_add 9 = .ok (.goto 33, 3) := by decide +kernel
theorem dX4_add_12 : decode cX4_add 12 = .ok (.iload_n 2, 1) := by decide +kernel
theorem dX4_add_13 : decode cX4_add 13 = .ok (.iconst 1, 1) := by decide +kernel
theorem dX4_add_14 : decode cX4_add 14 = .ok (.bipush 9, 2) := by decide +kernel
theorem dX4_add_16 : decode cX4_add 16 = .ok (.invokestatic 26, 3) := by decide +kernel
theorem dX4_add_19 : decode cX4_add 19 = .ok (.ifCond .ne 7, 3) := by decide +kernel
theorem dX4_add_22 : decode cX4_add 22 = .ok (.iconst 2, 1) := by decide +kernel
theorem dX4_add_23 : decode cX4_add 23 = .ok (.goto 19, 3) := by decide +kernel
theorem dX4_add_26 : decode cX4_add 26 = .ok (.aload_n 0, 1) := by decide +kernel
theorem dX4_add_27 : decode cX4_add 27 = .ok (.iconst 0, 1) := by decide +kernel
theorem dX4_add_28 : decode cX4_add 28 = .ok (.iload_n 1, 1) := by decide +kernel
theorem dX4_add_29 : decode cX4_add 29 = .ok (.iload_n 2, 1) := by decide +kernel
theorem dX4_add_30 : decode cX4_add 30 = .ok (.invokevirtual 103, 3) := by decide +kernel
theorem dX4_add_33 : decode cX4_add 33 = .ok (.iconst (-1), 1) := by decide +kernel
theorem dX4_add_34 : decode cX4_add 34 = .ok (.if_icmp .ne 7, 3) := by decide +kernel
theorem dX4_add_37 : decode cX4_add 37 = .ok (.iconst 3, 1) := by decide +kernel
theorem dX4_add_38 : decode cX4_add 38 = .ok (.goto 4, 3) := by decide +kernel
theorem dX4_add_41 : decode cX4_add 41 = .ok (.iconst 0, 1) := by decide +kernel
theorem dX4_add_42 : decode cX4_add 42 = .ok (.invokevirtual 87, 3) := by decide +kernel
theorem dX4_add_45 : decode cX4_add 45 = .ok (.ifCond .eq 13, 3) := by decide +kernel
theorem dX4_add_48 : decode cX4_add 48 = .ok (.aload_n 0, 1) := by decide +kernel
theorem dX4_add_49 : decode cX4_add 49 = .ok (.iconst 0, 1) := by decide +kernel
theorem dX4_add_50 : decode cX4_add 50 = .ok (.iload_n 1, 1) := by decide +kernel
theorem dX4_add_51 : decode cX4_add 51 = .ok (.iload_n 2, 1) := by decide +kernel
theorem dX4_add_52 : decode cX4_add 52 = .ok (.invokevirtual 106, 3) := by decide +kernel
theorem dX4_add_55 : decode cX4_add 55 = .ok (.goto 4, 3) := by decide +kernel
theorem dX4_add_58 : decode cX4_add 58 = .ok (.iconst 0, 1) := by decide +kernel
theorem dX4_add_59 : decode cX4_add 59 = .ok (.ireturn, 1) := by decide +kernel
set_option maxRecDepth 20000 in
theorem ggX4_less_X4_isRod : GoodIn wsX4_less wsX4_isRod := goodIn_r _ [4, 5, 6, 3, 7] (by decide +kernel) (by decide +kernel)
set_option maxRecDepth 20000 in
theorem gX4_less_X4_isRod : GoodIn wsX4_less (va_wsS RX4 84 yX4_isRod wsX4_isRod) := goodIn_app (goodIn_of _ (by decide +kernel)) ggX4_less_X4_isRod
set_option maxRecDepth 20000 in
theorem ggX4_less_X4_in : GoodIn wsX4_less wsX4_in := goodIn_r _ [7] (by decide +kernel) (by decide +kernel)
set_option maxRecDepth 20000 in
theorem gX4_less_X4_in : GoodIn wsX4_less (va_wsS RX4 26 yX4_in wsX4_in) := goodIn_app (goodIn_of _ (by decide +kernel)) ggX4_less_X4_in
set_option maxRecDepth 20000 in
theorem ggX4_less_X4_takes : GoodIn wsX4_less wsX4_takes := goodIn_r _ [11, 12, 13, 14, 3, 15, 16, 17, 18, 19, 20, 21, 22, 23, 24, 25, 26, 27, 28, 29, 30, 31, 32, 33, 34, 35, 36, 37, 38, 39, 40, 41, 42, 43, 44, 5, 6, 7, 45, 46, 47, 48, 49, 50, 51, 52, 53, 54, 55, 56, 57, 58, 59, 60, 61, 62, 63, 64, 65, 66, 67, 68, 69, 70, 71, 72, 73, 74, 75, 76, 77, 78, 79, 95, 96, 97, 98, 99, 100, 101, 102] (by decide +kernel) (by decide +kernel)
set_option maxRecDepth 20000 in
theorem gX4_less_X4_takes : GoodIn wsX4_less (wsV RX4 103 RX4 yX4_takes wsX4_takes) := goodIn_app (goodIn_of _ (by decide +kernel)) ggX4_less_X4_takes
set_option maxRecDepth 20000 in
theorem ggX4_less_X4_holds : GoodIn wsX4_less wsX4_holds := goodIn_r _ [83, 84, 95, 96, 97, 98, 99, 100, 101, 102] (by decide +kernel) (by decide +kernel)
set_option maxRecDepth 20000 in
theorem gX4_less_X4_holds : GoodIn wsX4_less (wsV RX4 87 RX4 yX4_holds wsX4_holds) := goodIn_app (goodIn_of _ (by decide +kernel)) ggX4_less_X4_holds
set_option maxRecDepth 20000 in
theorem ggX4_less_X4_does : GoodIn wsX4_less wsX4_does := goodIn_r _ [88, 89, 90, 91, 3, 92, 93, 94, 16, 12, 13, 14, 15, 17, 18, 19, 20, 21, 22, 23, 24, 25, 26, 27, 28, 29, 30, 31, 32, 33, 34, 35, 36, 37, 38, 39, 40, 41, 42, 43, 44, 5, 6, 7, 45, 46, 47, 48, 49, 50, 51, 52, 53, 54, 55, 56, 57, 58, 59, 60, 61, 62, 63, 64, 65, 66, 67, 68, 69, 70, 71, 72, 73, 74, 75, 76, 77, 78, 79, 95, 96, 97, 98, 99, 100, 101, 102] (by decide +kernel) (by decide +kernel)
set_option maxRecDepth 20000 in
theorem gX4_less_X4_does : GoodIn wsX4_less (wsV RX4 106 RX4 yX4_does wsX4_does) := goodIn_app (goodIn_of _ (by decide +kernel)) ggX4_less_X4_does
theorem dX4_less_0 : decode cX4_less 0 = .ok (.aload_n 0, 1) := by decide +kernel
theorem dX4_less_1 : decode cX4_less 1 = .ok (.iload_n 1, 1) := by decide +kernel
theorem dX4_less_2 : decode cX4_less 2 = .ok (.invokestatic 84, 3) := by decide +kernel
theorem dX4_less_5 : decode cX4_less 5 = .ok (.ifCond .ne 7, 3) := by decide +kernel
theorem dX4_less_8 : decode cX4_less 8 = .ok (.iconst 1, 1) := by decide +kernel
theorem dX4_less_9 : decode cX4_less 9 = .ok (.goto 34, 3) := by decide +kernel
theorem dX4_less_12 : decode cX4_less 12 = .ok (.iload_n 2, 1) := by decide +kernel
theorem dX4_less_13 : decode cX4_less 13 = .ok (.iconst 1, 1) := by decide +kernel
theorem dX4_less_14 : decode cX4_less 14 = .ok (.bipush 9, 2) := by decide +kernel
theorem dX4_less_16 : decode cX4_less 16 = .ok (.invokestatic 26, 3) := by decide +kernel
theorem dX4_less_19 : decode cX4_less 19 = .ok (.ifCond .ne 7, 3) := by decide +kernel
theorem dX4_less_22 : decode cX4_less 22 = .ok (.iconst 2, 1) := by decide +kernel
theorem dX4_less_23 : decode cX4_less 23 = .ok (.goto 20, 3) := by decide +kernel
theorem dX4_less_26 : decode cX4_less 26 = .ok (.aload_n 0, 1) := by decide +kernel
theorem dX4_less_27 : decode cX4_less 27 = .ok (.iconst 0, 1) := by decide +kernel
theorem dX4_less_28 : decode cX4_less 28 = .ok (.iload_n 1, 1) := by decide +kernel
theorem dX4_less_29 : decode cX4_less 29 = .ok (.iload_n 2, 1) := by decide +kernel
theorem dX4_less_30 : decode cX4_less 30 = .ok (.ineg, 1) := by decide +kernel
theorem dX4_less_31 : decode cX4_less 31 = .ok (.invokevirtual 103, 3) := by decide +kernel
theorem dX4_less_34 : decode cX4_less 34 = .ok (.iconst (-1), 1) := by decide +kernel
theorem dX4_less_35 : decode cX4_less 35 = .ok (.if_icmp .ne 7, 3) := by decide +kernel
theorem dX4_less_38 : decode cX4_less 38 = .ok (.iconst 3, 1) := by decide +kernel
theorem dX4_less_39 : decode cX4_less 39 = .ok (.goto 4, 3) := by decide +kernel
theorem dX4_less_42 : decode cX4_less 42 = .ok (.iconst 0, 1) := by decide +kernel
theorem dX4_less_43 : decode cX4_less 43 = .ok (.invokevirtual 87, 3) := by decide +kernel
theorem dX4_less_46 : decode cX4_less 46 = .ok (.ifCond .eq 14, 3) := by decide +kernel
theorem dX4_less_49 : decode cX4_less 49 = .ok (.aload_n 0, 1) := by decide +kernel
theorem dX4_less_50 : decode cX4_less 50 = .ok (.iconst 0, 1) := by decide +kernel
theorem dX4_less_51 : decode cX4_less 51 = .ok (.iload_n 1, 1) := by decide +kernel
theorem dX4_less_52 : decode cX4_less 52 = .ok (.iload_n 2, 1) := by decide +kernel
theorem dX4_less_53 : decode cX4_less 53 = .ok (.ineg, 1) := by decide +kernel
theorem dX4_less_54 : decode cX4_less 54 = .ok (.invokevirtual 106, 3) := by decide +kernel
theorem dX4_less_57 : decode cX4_less 57 = .ok (.goto 4, 3) := by decide +kernel
theorem dX4_less_60 : decode cX4_less 60 = .ok (.iconst 0, 1) := by decide +kernel
theorem dX4_less_61 : decode cX4_less 61 = .ok (.ireturn, 1) := by decide +kernel
set_option maxRecDepth 20000 in
theorem ggX4_pay_X4_isRod : GoodIn wsX4_pay wsX4_isRod := goodIn_r _ [4, 5, 6, 3, 7] (by decide +kernel) (by decide +kernel)
set_option maxRecDepth 20000 in
theorem gX4_pay_X4_isRod : GoodIn wsX4_pay (va_wsS RX4 84 yX4_isRod wsX4_isRod) := goodIn_app (goodIn_of _ (by decide +kernel)) ggX4_pay_X4_isRod
set_option maxRecDepth 20000 in
theorem ggX4_pay_X4_takes : GoodIn wsX4_pay wsX4_takes := goodIn_r _ [11, 12, 13, 14, 3, 15, 16, 17, 18, 19, 20, 21, 22, 23, 24, 25, 26, 27, 28, 29, 30, 31, 32, 33, 34, 35, 36, 37, 38, 39, 40, 41, 42, 43, 44, 5, 6, 7, 45, 46, 47, 48, 49, 50, 51, 52, 53, 54, 55, 56, 57, 58, 59, 60, 61, 62, 63, 64, 65, 66, 67, 68, 69, 70, 71, 72, 73, 74, 75, 76, 77, 78, 79, 95, 96, 97, 98, 99, 100, 101, 102] (by decide +kernel) (by decide +kernel)
set_option maxRecDepth 20000 in
theorem gX4_pay_X4_takes : GoodIn wsX4_pay (wsV RX4 103 RX4 yX4_takes wsX4_takes) := goodIn_app (goodIn_of _ (by decide +kernel)) ggX4_pay_X4_takes
set_option maxRecDepth 20000 in
theorem ggX4_pay_X4_holds : GoodIn wsX4_pay wsX4_holds := goodIn_r _ [83, 84, 95, 96, 97, 98, 99, 100, 101, 102] (by decide +kernel) (by decide +kernel)
set_option maxRecDepth 20000 in
theorem gX4_pay_X4_holds : GoodIn wsX4_pay (wsV RX4 87 RX4 yX4_holds wsX4_holds) := goodIn_app (goodIn_of _ (by decide +kernel)) ggX4_pay_X4_holds
set_option maxRecDepth 20000 in
theorem ggX4_pay_X4_does : GoodIn wsX4_pay wsX4_does := goodIn_r _ [88, 89, 90, 91, 3, 92, 93, 94, 16, 12, 13, 14, 15, 17, 18, 19, 20, 21, 22, 23, 24, 25, 26, 27, 28, 29, 30, 31, 32, 33, 34, 35, 36, 37, 38, 39, 40, 41, 42, 43, 44, 5, 6, 7, 45, 46, 47, 48, 49, 50, 51, 52, 53, 54, 55, 56, 57, 58, 59, 60, 61, 62, 63, 64, 65, 66, 67, 68, 69, 70, 71, 72, 73, 74, 75, 76, 77, 78, 79, 95, 96, 97, 98, 99, 100, 101, 102] (by decide +kernel) (by decide +kernel)
set_option maxRecDepth 20000 in
theorem gX4_pay_X4_does : GoodIn wsX4_pay (wsV RX4 106 RX4 yX4_does wsX4_does) := goodIn_app (goodIn_of _ (by decide +kernel)) ggX4_pay_X4_does
theorem dX4_pay_0 : decode cX4_pay 0 = .ok (.aload_n 0, 1) := by decide +kernel
theorem dX4_pay_1 : decode cX4_pay 1 = .ok (.iload_n 1, 1) := by decide +kernel
theorem dX4_pay_2 : decode cX4_pay 2 = .ok (.invokestatic 84, 3) := by decide +kernel
theorem dX4_pay_5 : decode cX4_pay 5 = .ok (.ifCond .ne 7, 3) := by decide +kernel
theorem dX4_pay_8 : decode cX4_pay 8 = .ok (.iconst 1, 1) := by decide +kernel
theorem dX4_pay_9 : decode cX4_pay 9 = .ok (.goto 19, 3) := by decide +kernel
theorem dX4_pay_12 : decode cX4_pay 12 = .ok (.aload_n 0, 1) := by decide +kernel
theorem dX4_pay_13 : decode cX4_pay 13 = .ok (.iconst 1, 1) := by decide +kernel
theorem dX4_pay_14 : decode cX4_pay 14 = .ok (.iload_n 1, 1) := by decide +kernel
theorem dX4_pay_15 : decode cX4_pay 15 = .ok (.iconst 0, 1) := by decide +kernel
theorem dX4_pay_16 : decode cX4_pay 16 = .ok (.invokevirtual 103, 3) := by decide +kernel
theorem dX4_pay_19 : decode cX4_pay 19 = .ok (.iconst (-1), 1) := by decide +kernel
theorem dX4_pay_20 : decode cX4_pay 20 = .ok (.if_icmp .ne 7, 3) := by decide +kernel
theorem dX4_pay_23 : decode cX4_pay 23 = .ok (.iconst 2, 1) := by decide +kernel
theorem dX4_pay_24 : decode cX4_pay 24 = .ok (.goto 4, 3) := by decide +kernel
theorem dX4_pay_27 : decode cX4_pay 27 = .ok (.iconst 0, 1) := by decide +kernel
theorem dX4_pay_28 : decode cX4_pay 28 = .ok (.invokevirtual 87, 3) := by decide +kernel
theorem dX4_pay_31 : decode cX4_pay 31 = .ok (.ifCond .eq 13, 3) := by decide +kernel
theorem dX4_pay_34 : decode cX4_pay 34 = .ok (.aload_n 0, 1) := by decide +kernel
theorem dX4_pay_35 : decode cX4_pay 35 = .ok (.iconst 1, 1) := by decide +kernel
theorem dX4_pay_36 : decode cX4_pay 36 = .ok (.iload_n 1, 1) := by decide +kernel
theorem dX4_pay_37 : decode cX4_pay 37 = .ok (.iconst 0, 1) := by decide +kernel
theorem dX4_pay_38 : decode cX4_pay 38 = .ok (.invokevirtual 106, 3) := by decide +kernel
theorem dX4_pay_41 : decode cX4_pay 41 = .ok (.goto 4, 3) := by decide +kernel
theorem dX4_pay_44 : decode cX4_pay 44 = .ok (.iconst 0, 1) := by decide +kernel
theorem dX4_pay_45 : decode cX4_pay 45 = .ok (.ireturn, 1) := by decide +kernel
set_option maxRecDepth 20000 in
theorem ggX4_tidy_X4_save : GoodIn wsX4_tidy wsX4_save := goodIn_r _ [6, 7, 8, 9, 80, 81, 82, 83, 84, 85, 86, 87] (by decide +kernel) (by decide +kernel)
set_option maxRecDepth 20000 in
theorem gX4_tidy_X4_save : GoodIn wsX4_tidy (wsV RX4 90 RX4 yX4_save wsX4_save) := goodIn_app (goodIn_of _ (by decide +kernel)) ggX4_tidy_X4_save
set_option maxRecDepth 20000 in
theorem ggX4_tidy_X4_allMoves : GoodIn wsX4_tidy wsX4_allMoves := goodIn_r _ [13, 9, 14, 15, 5, 16, 80, 81, 82, 83, 84, 85, 86, 87] (by decide +kernel) (by decide +kernel)
set_option maxRecDepth 20000 in
theorem gX4_tidy_X4_allMoves : GoodIn wsX4_tidy (wsV RX4 96 RX4 yX4_allMoves wsX4_allMoves) := goodIn_app (goodIn_of _ (by decide +kernel)) ggX4_tidy_X4_allMoves
set_option maxRecDepth 20000 in
theorem ggX4_tidy_X4_tries : GoodIn wsX4_tidy wsX4_tries := goodIn_r _ [20, 21, 22, 23, 5, 24, 25, 9, 26, 27, 28, 29, 30, 31, 32, 33, 14, 15, 16, 34, 35, 36, 37, 38, 39, 40, 41, 42, 43, 44, 45, 46, 47, 48, 49, 50, 51, 52, 53, 54, 55, 56, 57, 58, 59, 60, 61, 62, 63, 64, 65, 66, 67, 68, 69, 70, 71, 72, 73, 74, 75, 76, 77, 78, 79, 80, 81, 82, 83, 84, 85, 86, 87] (by decide +kernel) (by decide +kernel)
set_option maxRecDepth 20000 in
theorem gX4_tidy_X4_tries : GoodIn wsX4_tidy (wsV RX4 100 RX4 yX4_tries wsX4_tries) := goodIn_app (goodIn_of _ (by decide +kernel)) ggX4_tidy_X4_tries
theorem dX4_tidy_0 : decode cX4_tidy 0 = .ok (.aload_n 0, 1) := by decide +kernel
theorem dX4_tidy_1 : decode cX4_tidy 1 = .ok (.iconst 0, 1) := by decide +kernel
theorem dX4_tidy_2 : decode cX4_tidy 2 = .ok (.putfield 22, 3) := by decide +kernel
theorem dX4_tidy_5 : decode cX4_tidy 5 = .ok (.aload_n 0, 1) := by decide +kernel
theorem dX4_tidy_6 : decode cX4_tidy 6 = .ok (.invokevirtual 90, 3) := by decide +kernel
theorem dX4_tidy_9 : decode cX4_tidy 9 = .ok (.aload_n 0, 1) := by decide +kernel
theorem dX4_tidy_10 : decode cX4_tidy 10 = .ok (.invokevirtual 96, 3) := by decide +kernel
theorem dX4_tidy_13 : decode cX4_tidy 13 = .ok (.istore_n 1, 1) := by decide +kernel
theorem dX4_tidy_14 : decode cX4_tidy 14 = .ok (.iconst 0, 1) := by decide +kernel
theorem dX4_tidy_15 : decode cX4_tidy 15 = .ok (.istore_n 2, 1) := by decide +kernel
theorem dX4_tidy_16 : decode cX4_tidy 16 = .ok (.iload_n 2, 1) := by decide +kernel
theorem dX4_tidy_17 : decode cX4_tidy 17 = .ok (.bipush 9, 2) := by decide +kernel
theorem dX4_tidy_19 : decode cX4_tidy 19 = .ok (.if_icmp .ge 26, 3) := by decide +kernel
theorem dX4_tidy_22 : decode cX4_tidy 22 = .ok (.aload_n 0, 1) := by decide +kernel
theorem dX4_tidy_23 : decode cX4_tidy 23 = .ok (.iconst 1, 1) := by decide +kernel
theorem dX4_tidy_24 : decode cX4_tidy 24 = .ok (.iload_n 2, 1) := by decide +kernel
theorem dX4_tidy_25 : decode cX4_tidy 25 = .ok (.iconst 0, 1) := by decide +kernel
theorem dX4_tidy_26 : decode cX4_tidy 26 = .ok (.invokevirtual 100, 3) := by decide +kernel
theorem dX4_tidy_29 : decode cX4_tidy 29 = .ok (.istore_n 3, 1) := by decide +kernel
theorem dX4_tidy_30 : decode cX4_tidy 30 = .ok (.aload_n 0, 1) := by decide +kernel
theorem dX4_tidy_31 : decode cX4_tidy 31 = .ok (.iconst 2, 1) := by decide +kernel
theorem dX4_tidy_32 : decode cX4_tidy 32 = .ok (.iload_n 2, 1) := by decide +kernel
theorem dX4_tidy_33 : decode cX4_tidy 33 = .ok (.iconst 0, 1) := by decide +kernel
theorem dX4_tidy_34 : decode cX4_tidy 34 = .ok (.invokevirtual 100, 3) := by decide +kernel
theorem dX4_tidy_37 : decode cX4_tidy 37 = .ok (.istore 4, 2) := by decide +kernel
theorem dX4_tidy_39 : decode cX4_tidy 39 = .ok (.iinc 2 1, 3) := by decide +kernel
theorem dX4_tidy_42 : decode cX4_tidy 42 = .ok (.goto (-26), 3) := by decide +kernel
theorem dX4_tidy_45 : decode cX4_tidy 45 = .ok (.aload_n 0, 1) := by decide +kernel
theorem dX4_tidy_46 : decode cX4_tidy 46 = .ok (.invokevirtual 96, 3) := by decide +kernel
theorem dX4_tidy_49 : decode cX4_tidy 49 = .ok (.iload_n 1, 1) := by decide +kernel
theorem dX4_tidy_50 : decode cX4_tidy 50 = .ok (.isub, 1) := by decide +kernel
theorem dX4_tidy_51 : decode cX4_tidy 51 = .ok (.ireturn, 1) := by decide +kernel
set_option maxRecDepth 20000 in
theorem ggX4_append_X4_in : GoodIn wsX4_append wsX4_in := goodIn_r _ [6] (by decide +kernel) (by decide +kernel)
set_option maxRecDepth 20000 in
theorem gX4_append_X4_in : GoodIn wsX4_append (va_wsS RX4 26 yX4_in wsX4_in) := goodIn_app (goodIn_of _ (by decide +kernel)) ggX4_append_X4_in
set_option maxRecDepth 20000 in
theorem ggX4_append_X4_holds : GoodIn wsX4_append wsX4_holds := goodIn_r _ [10, 11, 12, 13, 14, 15, 16, 17, 18, 19] (by decide +kernel) (by decide +kernel)
set_option maxRecDepth 20000 in
theorem gX4_append_X4_holds : GoodIn wsX4_append (wsV RX4 87 RX4 yX4_holds wsX4_holds) := goodIn_app (goodIn_of _ (by decide +kernel)) ggX4_append_X4_holds
theorem dX4_append_0 : decode cX4_append 0 = .ok (.aload_n 0, 1) := by decide +kernel
theorem dX4_append_1 : decode cX4_append 1 = .ok (.iload_n 1, 1) := by decide +kernel
theorem dX4_append_2 : decode cX4_append 2 = .ok (.bipush 33, 2) := by decide +kernel
theorem dX4_append_4 : decode cX4_append 4 = .ok (.bipush 126, 2) := by decide +kernel
theorem dX4_append_6 : decode cX4_append 6 = .ok (.invokestatic 26, 3) := by decide +kernel
theorem dX4_append_9 : decode cX4_append 9 = .ok (.ifCond .ne 7, 3) := by decide +kernel
theorem dX4_append_12 : decode cX4_append 12 = .ok (.iconst 1, 1) := by decide +kernel
theorem dX4_append_13 : decode cX4_append 13 = .ok (.goto 17, 3) := by decide +kernel
theorem dX4_append_16 : decode cX4_append 16 = .ok (.aload_n 0, 1) := by decide +kernel
theorem dX4_append_17 : decode cX4_append 17 = .ok (.getfield 109, 3) := by decide +kernel
theorem dX4_append_20 : decode cX4_append 20 = .ok (.bipush 60, 2) := by decide +kernel
theorem dX4_append_22 : decode cX4_append 22 = .ok (.if_icmp .ne 7, 3) := by decide +kernel
theorem dX4_append_25 : decode cX4_append 25 = .ok (.iconst 2, 1) := by decide +kernel
theorem dX4_append_26 : decode cX4_append 26 = .ok (.goto 4, 3) := by decide +kernel
theorem dX4_append_29 : decode cX4_append 29 = .ok (.iconst 0, 1) := by decide +kernel
theorem dX4_append_30 : decode cX4_append 30 = .ok (.invokevirtual 87, 3) := by decide +kernel
theorem dX4_append_33 : decode cX4_append 33 = .ok (.ifCond .ne 5, 3) := by decide +kernel
theorem dX4_append_36 : decode cX4_append 36 = .ok (.iconst 0, 1) := by decide +kernel
theorem dX4_append_37 : decode cX4_append 37 = .ok (.ireturn, 1) := by decide +kernel
theorem dX4_append_38 : decode cX4_append 38 = .ok (.aload_n 0, 1) := by decide +kernel
theorem dX4_append_39 : decode cX4_append 39 = .ok (.getfield 19, 3) := by decide +kernel
theorem dX4_append_42 : decode cX4_append 42 = .ok (.aload_n 0, 1) := by decide +kernel
theorem dX4_append_43 : decode cX4_append 43 = .ok (.getfield 109, 3) := by decide +kernel
theorem dX4_append_46 : decode cX4_append 46 = .ok (.iload_n 1, 1) := by decide +kernel
theorem dX4_append_47 : decode cX4_append 47 = .ok (.iastore, 1) := by decide +kernel
theorem dX4_append_48 : decode cX4_append 48 = .ok (.aload_n 0, 1) := by decide +kernel
theorem dX4_append_49 : decode cX4_append 49 = .ok (.dup, 1) := by decide +kernel
theorem dX4_append_50 : decode cX4_append 50 = .ok (.getfield 109, 3) := by decide +kernel
theorem dX4_append_53 : decode cX4_append 53 = .ok (.iconst 1, 1) := by decide +kernel
theorem dX4_append_54 : decode cX4_append 54 = .ok (.iadd, 1) := by decide +kernel
theorem dX4_append_55 : decode cX4_append 55 = .ok (.putfield 109, 3) := by decide +kernel
theorem dX4_append_58 : decode cX4_append 58 = .ok (.aload_n 0, 1) := by decide +kernel
theorem dX4_append_59 : decode cX4_append 59 = .ok (.getfield 109, 3) := by decide +kernel
theorem dX4_append_62 : decode cX4_append 62 = .ok (.ireturn, 1) := by decide +kernel
theorem dX4_clearBuffer_0 : decode cX4_clearBuffer 0 = .ok (.aload_n 0, 1) := by decide +kernel
theorem dX4_clearBuffer_1 : decode cX4_clearBuffer 1 = .ok (.iconst 0, 1) := by decide +kernel
theorem dX4_clearBuffer_2 : decode cX4_clearBuffer 2 = .ok (.putfield 22, 3) := by decide +kernel
theorem dX4_clearBuffer_5 : decode cX4_clearBuffer 5 = .ok (.aload_n 0, 1) := by decide +kernel
theorem dX4_clearBuffer_6 : decode cX4_clearBuffer 6 = .ok (.getfield 109, 3) := by decide +kernel
