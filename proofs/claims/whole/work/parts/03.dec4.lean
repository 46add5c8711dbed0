theorem dX4_clearBuffer_9 : decode cX4_clearBuffer 9 = .ok (.istore_n 1, 1) := by decide +kernel
theorem dX4_clearBuffer_10 : decode cX4_clearBuffer 10 = .ok (.aload_n 0, 1) := by decide +kernel
theorem dX4_clearBuffer_11 : decode cX4_clearBuffer 11 = .ok (.iconst 0, 1) := by decide +kernel
theorem dX4_clearBuffer_12 : decode cX4_clearBuffer 12 = .ok (.putfield 109, 3) := by decide +kernel
theorem dX4_clearBuffer_15 : decode cX4_clearBuffer 15 = .ok (.iload_n 1, 1) := by decide +kernel
theorem dX4_clearBuffer_16 : decode cX4_clearBuffer 16 = .ok (.ireturn, 1) := by decide +kernel
set_option maxRecDepth 20000 in
theorem ggX4_wrong_X4_in : GoodIn wsX4_wrong wsX4_in := goodIn_r _ [6] (by decide +kernel) (by decide +kernel)
set_option maxRecDepth 20000 in
theorem gX4_wrong_X4_in : GoodIn wsX4_wrong (va_wsS RX4 26 yX4_in wsX4_in) := goodIn_app (goodIn_of _ (by decide +kernel)) ggX4_wrong_X4_in
theorem dX4_wrong_0 : decode cX4_wrong 0 = .ok (.iconst 0, 1) := by decide +kernel
theorem dX4_wrong_1 : decode cX4_wrong 1 = .ok (.istore_n 1, 1) := by decide +kernel
theorem dX4_wrong_2 : decode cX4_wrong 2 = .ok (.iconst 0, 1) := by decide +kernel
theorem dX4_wrong_3 : decode cX4_wrong 3 = .ok (.istore_n 2, 1) := by decide +kernel
theorem dX4_wrong_4 : decode cX4_wrong 4 = .ok (.iconst 0, 1) := by decide +kernel
theorem dX4_wrong_5 : decode cX4_wrong 5 = .ok (.istore_n 3, 1) := by decide +kernel
theorem dX4_wrong_6 : decode cX4_wrong 6 = .ok (.iload_n 3, 1) := by decide +kernel
theorem dX4_wrong_7 : decode cX4_wrong 7 = .ok (.aload_n 0, 1) := by decide +kernel
theorem dX4_wrong_8 : decode cX4_wrong 8 = .ok (.getfield 109, 3) := by decide +kernel
theorem dX4_wrong_11 : decode cX4_wrong 11 = .ok (.if_icmp .ge 138, 3) := by decide +kernel
theorem dX4_wrong_14 : decode cX4_wrong 14 = .ok (.aload_n 0, 1) := by decide +kernel
theorem dX4_wrong_15 : decode cX4_wrong 15 = .ok (.getfield 19, 3) := by decide +kernel
theorem dX4_wrong_18 : decode cX4_wrong 18 = .ok (.iload_n 3, 1) := by decide +kernel
theorem dX4_wrong_19 : decode cX4_wrong 19 = .ok (.iaload, 1) := by decide +kernel
theorem dX4_wrong_20 : decode cX4_wrong 20 = .ok (.istore 4, 2) := by decide +kernel
theorem dX4_wrong_22 : decode cX4_wrong 22 = .ok (.iload 4, 2) := by decide +kernel
theorem dX4_wrong_24 : decode cX4_wrong 24 = .ok (.bipush 43, 2) := by decide +kernel
theorem dX4_wrong_26 : decode cX4_wrong 26 = .ok (.if_icmp .eq 10, 3) := by decide +kernel
theorem dX4_wrong_29 : decode cX4_wrong 29 = .ok (.iload 4, 2) := by decide +kernel
theorem dX4_wrong_31 : decode cX4_wrong 31 = .ok (.bipush 45, 2) := by decide +kernel
theorem dX4_wrong_33 : decode cX4_wrong 33 = .ok (.if_icmp .ne 7, 3) := by decide +kernel
theorem dX4_wrong_36 : decode cX4_wrong 36 = .ok (.iconst 1, 1) := by decide +kernel
theorem dX4_wrong_37 : decode cX4_wrong 37 = .ok (.goto 4, 3) := by decide +kernel
theorem dX4_wrong_40 : decode cX4_wrong 40 = .ok (.iconst 0, 1) := by decide +kernel
theorem dX4_wrong_41 : decode cX4_wrong 41 = .ok (.istore 5, 2) := by decide +kernel
theorem dX4_wrong_43 : decode cX4_wrong 43 = .ok (.iload 5, 2) := by decide +kernel
theorem dX4_wrong_45 : decode cX4_wrong 45 = .ok (.ifCond .eq 19, 3) := by decide +kernel
theorem dX4_wrong_48 : decode cX4_wrong 48 = .ok (.iload_n 3, 1) := by decide +kernel
theorem dX4_wrong_49 : decode cX4_wrong 49 = .ok (.ifCond .eq 7, 3) := by decide +kernel
theorem dX4_wrong_52 : decode cX4_wrong 52 = .ok (.iload_n 1, 1) := by decide +kernel
theorem dX4_wrong_53 : decode cX4_wrong 53 = .ok (.ifCond .le 7, 3) := by decide +kernel
theorem dX4_wrong_56 : decode cX4_wrong 56 = .ok (.iconst 1, 1) := by decide +kernel
theorem dX4_wrong_57 : decode cX4_wrong 57 = .ok (.goto 38, 3) := by decide +kernel
theorem dX4_wrong_60 : decode cX4_wrong 60 = .ok (.iconst 0, 1) := by decide +kernel
theorem dX4_wrong_61 : decode cX4_wrong 61 = .ok (.goto 34, 3) := by decide +kernel
theorem dX4_wrong_64 : decode cX4_wrong 64 = .ok (.iload 4, 2) := by decide +kernel
theorem dX4_wrong_66 : decode cX4_wrong 66 = .ok (.bipush 48, 2) := by decide +kernel
theorem dX4_wrong_68 : decode cX4_wrong 68 = .ok (.bipush 57, 2) := by decide +kernel
theorem dX4_wrong_70 : decode cX4_wrong 70 = .ok (.invokestatic 26, 3) := by decide +kernel
theorem dX4_wrong_73 : decode cX4_wrong 73 = .ok (.ifCond .eq 21, 3) := by decide +kernel
theorem dX4_wrong_76 : decode cX4_wrong 76 = .ok (.iload_n 3, 1) := by decide +kernel
theorem dX4_wrong_77 : decode cX4_wrong 77 = .ok (.ifCond .le 17, 3) := by decide +kernel
theorem dX4_wrong_80 : decode cX4_wrong 80 = .ok (.iload_n 1, 1) := by decide +kernel
theorem dX4_wrong_81 : decode cX4_wrong 81 = .ok (.bipush 6, 2) := by decide +kernel
theorem dX4_wrong_83 : decode cX4_wrong 83 = .ok (.if_icmp .ge 11, 3) := by decide +kernel
theorem dX4_wrong_86 : decode cX4_wrong 86 = .ok (.iload_n 2, 1) := by decide +kernel
theorem dX4_wrong_87 : decode cX4_wrong 87 = .ok (.ifCond .ne 7, 3) := by decide +kernel
theorem dX4_wrong_90 : decode cX4_wrong 90 = .ok (.iconst 1, 1) := by decide +kernel
theorem dX4_wrong_91 : decode cX4_wrong 91 = .ok (.goto 4, 3) := by decide +kernel
theorem dX4_wrong_94 : decode cX4_wrong 94 = .ok (.iconst 0, 1) := by decide +kernel
theorem dX4_wrong_95 : decode cX4_wrong 95 = .ok (.istore 6, 2) := by decide +kernel
theorem dX4_wrong_97 : decode cX4_wrong 97 = .ok (.iload 6, 2) := by decide +kernel
theorem dX4_wrong_99 : decode cX4_wrong 99 = .ok (.ifCond .ne 5, 3) := by decide +kernel
theorem dX4_wrong_102 : decode cX4_wrong 102 = .ok (.iload_n 3, 1) := by decide +kernel
theorem dX4_wrong_103 : decode cX4_wrong 103 = .ok (.ireturn, 1) := by decide +kernel
theorem dX4_wrong_104 : decode cX4_wrong 104 = .ok (.iload 5, 2) := by decide +kernel
theorem dX4_wrong_106 : decode cX4_wrong 106 = .ok (.ifCond .ne 22, 3) := by decide +kernel
theorem dX4_wrong_109 : decode cX4_wrong 109 = .ok (.iload_n 2, 1) := by decide +kernel
theorem dX4_wrong_110 : decode cX4_wrong 110 = .ok (.ifCond .ne 14, 3) := by decide +kernel
theorem dX4_wrong_113 : decode cX4_wrong 113 = .ok (.iload_n 1, 1) := by decide +kernel
theorem dX4_wrong_114 : decode cX4_wrong 114 = .ok (.ifCond .ne 14, 3) := by decide +kernel
theorem dX4_wrong_117 : decode cX4_wrong 117 = .ok (.iload 4, 2) := by decide +kernel
theorem dX4_wrong_119 : decode cX4_wrong 119 = .ok (.bipush 48, 2) := by decide +kernel
theorem dX4_wrong_121 : decode cX4_wrong 121 = .ok (.if_icmp .ne 7, 3) := by decide +kernel
theorem dX4_wrong_124 : decode cX4_wrong 124 = .ok (.iconst 1, 1) := by decide +kernel
theorem dX4_wrong_125 : decode cX4_wrong 125 = .ok (.goto 4, 3) := by decide +kernel
theorem dX4_wrong_128 : decode cX4_wrong 128 = .ok (.iconst 0, 1) := by decide +kernel
theorem dX4_wrong_129 : decode cX4_wrong 129 = .ok (.istore_n 2, 1) := by decide +kernel
theorem dX4_wrong_130 : decode cX4_wrong 130 = .ok (.iload 5, 2) := by decide +kernel
theorem dX4_wrong_132 : decode cX4_wrong 132 = .ok (.ifCond .eq 7, 3) := by decide +kernel
theorem dX4_wrong_135 : decode cX4_wrong 135 = .ok (.iconst 0, 1) := by decide +kernel
theorem dX4_wrong_136 : decode cX4_wrong 136 = .ok (.goto 6, 3) := by decide +kernel
theorem dX4_wrong_139 : decode cX4_wrong 139 = .ok (.iload_n 1, 1) := by decide +kernel
theorem dX4_wrong_140 : decode cX4_wrong 140 = .ok (.iconst 1, 1) := by decide +kernel
theorem dX4_wrong_141 : decode cX4_wrong 141 = .ok (.iadd, 1) := by decide +kernel
theorem dX4_wrong_142 : decode cX4_wrong 142 = .ok (.istore_n 1, 1) := by decide +kernel
theorem dX4_wrong_143 : decode cX4_wrong 143 = .ok (.iinc 3 1, 3) := by decide +kernel
theorem dX4_wrong_146 : decode cX4_wrong 146 = .ok (.goto (-140), 3) := by decide +kernel
theorem dX4_wrong_149 : decode cX4_wrong 149 = .ok (.aload_n 0, 1) := by decide +kernel
theorem dX4_wrong_150 : decode cX4_wrong 150 = .ok (.getfield 109, 3) := by decide +kernel
theorem dX4_wrong_153 : decode cX4_wrong 153 = .ok (.ireturn, 1) := by decide +kernel
set_option maxRecDepth 20000 in
theorem ggX4_firstError_X4_wrong : GoodIn wsX4_firstError wsX4_wrong := goodIn_r _ [6, 7, 8, 9, 10, 5, 11, 12, 13, 14, 15, 16, 17, 18, 19] (by decide +kernel) (by decide +kernel)
set_option maxRecDepth 20000 in
theorem gX4_firstError_X4_wrong : GoodIn wsX4_firstError (wsV RX4 112 RX4 yX4_wrong wsX4_wrong) := goodIn_app (goodIn_of _ (by decide +kernel)) ggX4_firstError_X4_wrong
theorem dX4_firstError_0 : decode cX4_firstError 0 = .ok (.aload_n 0, 1) := by decide +kernel
theorem dX4_firstError_1 : decode cX4_firstError 1 = .ok (.iconst 0, 1) := by decide +kernel
theorem dX4_firstError_2 : decode cX4_firstError 2 = .ok (.putfield 22, 3) := by decide +kernel
theorem dX4_firstError_5 : decode cX4_firstError 5 = .ok (.aload_n 0, 1) := by decide +kernel
theorem dX4_firstError_6 : decode cX4_firstError 6 = .ok (.invokevirtual 112, 3) := by decide +kernel
theorem dX4_firstError_9 : decode cX4_firstError 9 = .ok (.ireturn, 1) := by decide +kernel
set_option maxRecDepth 20000 in
theorem ggX4_term_X4_tries : GoodIn wsX4_term wsX4_tries := goodIn_r _ [6, 7, 8, 9, 5, 10, 11, 12, 13, 14, 15, 16, 17, 18, 19, 20, 21, 22, 23, 24, 25, 26, 27, 28, 29, 30, 31, 32, 33, 34, 35, 36, 37, 38, 39, 40, 41, 42, 43, 44, 45, 46, 47, 48, 49, 50, 51, 52, 53, 54, 55, 56, 57, 58, 59, 60, 61, 62, 63, 64, 65, 66, 67, 68, 69, 70, 71, 72, 73, 74, 75, 76, 77] (by decide +kernel) (by decide +kernel)
set_option maxRecDepth 20000 in
theorem gX4_term_X4_tries : GoodIn wsX4_term (wsV RX4 100 RX4 yX4_tries wsX4_tries) := goodIn_app (goodIn_of _ (by decide +kernel)) ggX4_term_X4_tries
theorem dX4_term_0 : decode cX4_term 0 = .ok (.iconst 0, 1) := by decide +kernel
theorem dX4_term_1 : decode cX4_term 1 = .ok (.istore_n 3, 1) := by decide +kernel
theorem dX4_term_2 : decode cX4_term 2 = .ok (.iload_n 2, 1) := by decide +kernel
theorem dX4_term_3 : decode cX4_term 3 = .ok (.iconst 1, 1) := by decide +kernel
theorem dX4_term_4 : decode cX4_term 4 = .ok (.isub, 1) := by decide +kernel
theorem dX4_term_5 : decode cX4_term 5 = .ok (.istore 4, 2) := by decide +kernel
theorem dX4_term_7 : decode cX4_term 7 = .ok (.iload 4, 2) := by decide +kernel
theorem dX4_term_9 : decode cX4_term 9 = .ok (.iload_n 1, 1) := by decide +kernel
theorem dX4_term_10 : decode cX4_term 10 = .ok (.if_icmp .le 56, 3) := by decide +kernel
theorem dX4_term_13 : decode cX4_term 13 = .ok (.aload_n 0, 1) := by decide +kernel
theorem dX4_term_14 : decode cX4_term 14 = .ok (.getfield 19, 3) := by decide +kernel
theorem dX4_term_17 : decode cX4_term 17 = .ok (.iload 4, 2) := by decide +kernel
theorem dX4_term_19 : decode cX4_term 19 = .ok (.iaload, 1) := by decide +kernel
theorem dX4_term_20 : decode cX4_term 20 = .ok (.bipush 48, 2) := by decide +kernel
theorem dX4_term_22 : decode cX4_term 22 = .ok (.isub, 1) := by decide +kernel
theorem dX4_term_23 : decode cX4_term 23 = .ok (.istore 5, 2) := by decide +kernel
theorem dX4_term_25 : decode cX4_term 25 = .ok (.aload_n 0, 1) := by decide +kernel
theorem dX4_term_26 : decode cX4_term 26 = .ok (.iconst 0, 1) := by decide +kernel
theorem dX4_term_27 : decode cX4_term 27 = .ok (.iload_n 3, 1) := by decide +kernel
theorem dX4_term_28 : decode cX4_term 28 = .ok (.aload_n 0, 1) := by decide +kernel
theorem dX4_term_29 : decode cX4_term 29 = .ok (.getfield 19, 3) := by decide +kernel
theorem dX4_term_32 : decode cX4_term 32 = .ok (.iload_n 1, 1) := by decide +kernel
theorem dX4_term_33 : decode cX4_term 33 = .ok (.iaload, 1) := by decide +kernel
theorem dX4_term_34 : decode cX4_term 34 = .ok (.bipush 43, 2) := by decide +kernel
theorem dX4_term_36 : decode cX4_term 36 = .ok (.if_icmp .ne 8, 3) := by decide +kernel
theorem dX4_term_39 : decode cX4_term 39 = .ok (.iload 5, 2) := by decide +kernel
theorem dX4_term_41 : decode cX4_term 41 = .ok (.goto 6, 3) := by decide +kernel
theorem dX4_term_44 : decode cX4_term 44 = .ok (.iload 5, 2) := by decide +kernel
theorem dX4_term_46 : decode cX4_term 46 = .ok (.ineg, 1) := by decide +kernel
theorem dX4_term_47 : decode cX4_term 47 = .ok (.invokevirtual 100, 3) := by decide +kernel
theorem dX4_term_50 : decode cX4_term 50 = .ok (.ifCond .ne 7, 3) := by decide +kernel
theorem dX4_term_53 : decode cX4_term 53 = .ok (.iconst (-1), 1) := by decide +kernel
theorem dX4_term_54 : decode cX4_term 54 = .ok (.iload_n 3, 1) := by decide +kernel
theorem dX4_term_55 : decode cX4_term 55 = .ok (.isub, 1) := by decide +kernel
theorem dX4_term_56 : decode cX4_term 56 = .ok (.ireturn, 1) := by decide +kernel
theorem dX4_term_57 : decode cX4_term 57 = .ok (.iinc 3 1, 3) := by decide +kernel
theorem dX4_term_60 : decode cX4_term 60 = .ok (.iinc 4 (-1), 3) := by decide +kernel
theorem dX4_term_63 : decode cX4_term 63 = .ok (.goto (-56), 3) := by decide +kernel
theorem dX4_term_66 : decode cX4_term 66 = .ok (.iload_n 3, 1) := by decide +kernel
theorem dX4_term_67 : decode cX4_term 67 = .ok (.ireturn, 1) := by decide +kernel
set_option maxRecDepth 20000 in
theorem ggX4_reckons_X4_in : GoodIn wsX4_reckons wsX4_in := goodIn_r _ [6] (by decide +kernel) (by decide +kernel)
set_option maxRecDepth 20000 in
theorem gX4_reckons_X4_in : GoodIn wsX4_reckons (va_wsS RX4 26 yX4_in wsX4_in) := goodIn_app (goodIn_of _ (by decide +kernel)) ggX4_reckons_X4_in
set_option maxRecDepth 20000 in
theorem ggX4_reckons_X4_term : GoodIn wsX4_reckons wsX4_term := goodIn_r _ [10, 2, 11, 12, 13, 5, 14, 15, 16, 17, 18, 19, 20, 21, 22, 23, 24, 25, 26, 27, 28, 29, 30, 31, 32, 33, 34, 35, 36, 37, 38, 39, 3, 4, 6, 40, 41, 42, 43, 44, 45, 46, 47, 48, 49, 50, 51, 52, 53, 54, 55, 56, 57, 58, 59, 60, 61, 62, 63, 64, 65, 66, 67, 68, 69, 70, 71, 72, 73, 74, 75, 76, 77, 78, 79, 80, 81, 82] (by decide +kernel) (by decide +kernel)
set_option maxRecDepth 20000 in
theorem gX4_reckons_X4_term : GoodIn wsX4_reckons (wsV RX4 115 RX4 yX4_term wsX4_term) := goodIn_app (goodIn_of _ (by decide +kernel)) ggX4_reckons_X4_term
theorem dX4_reckons_0 : decode cX4_reckons 0 = .ok (.iconst 0, 1) := by decide +kernel
theorem dX4_reckons_1 : decode cX4_reckons 1 = .ok (.istore_n 1, 1) := by decide +kernel
theorem dX4_reckons_2 : decode cX4_reckons 2 = .ok (.iconst 0, 1) := by decide +kernel
theorem dX4_reckons_3 : decode cX4_reckons 3 = .ok (.istore_n 2, 1) := by decide +kernel
theorem dX4_reckons_4 : decode cX4_reckons 4 = .ok (.iload_n 2, 1) := by decide +kernel
theorem dX4_reckons_5 : decode cX4_reckons 5 = .ok (.aload_n 0, 1) := by decide +kernel
theorem dX4_reckons_6 : decode cX4_reckons 6 = .ok (.getfield 109, 3) := by decide +kernel
theorem dX4_reckons_9 : decode cX4_reckons 9 = .ok (.if_icmp .ge 79, 3) := by decide +kernel
theorem dX4_reckons_12 : decode cX4_reckons 12 = .ok (.iload_n 2, 1) := by decide +kernel
theorem dX4_reckons_13 : decode cX4_reckons 13 = .ok (.iconst 1, 1) := by decide +kernel
theorem dX4_reckons_14 : decode cX4_reckons 14 = .ok (.iadd, 1) := by decide +kernel
theorem dX4_reckons_15 : decode cX4_reckons 15 = .ok (.istore_n 3, 1) := by decide +kernel
theorem dX4_reckons_16 : decode cX4_reckons 16 = .ok (.iload_n 3, 1) := by decide +kernel
theorem dX4_reckons_17 : decode cX4_reckons 17 = .ok (.aload_n 0, 1) := by decide +kernel
theorem dX4_reckons_18 : decode cX4_reckons 18 = .ok (.getfield 109, 3) := by decide +kernel
theorem dX4_reckons_21 : decode cX4_reckons 21 = .ok (.if_icmp .ge 25, 3) := by decide +kernel
theorem dX4_reckons_24 : decode cX4_reckons 24 = .ok (.aload_n 0, 1) := by decide +kernel
theorem dX4_reckons_25 : decode cX4_reckons 25 = .ok (.getfield 19, 3) := by decide +kernel
theorem dX4_reckons_28 : decode cX4_reckons 28 = .ok (.iload_n 3, 1) := by decide +kernel
theorem dX4_reckons_29 : decode cX4_reckons 29 = .ok (.iaload, 1) := by decide +kernel
theorem dX4_reckons_30 : decode cX4_reckons 30 = .ok (.bipush 48, 2) := by decide +kernel
theorem dX4_reckons_32 : decode cX4_reckons 32 = .ok (.bipush 57, 2) := by decide +kernel
theorem dX4_reckons_34 : decode cX4_reckons 34 = .ok (.invokestatic 26, 3) := by decide +kernel
theorem dX4_reckons_37 : decode cX4_reckons 37 = .ok (.ifCond .eq 9, 3) := by decide +kernel
theorem dX4_reckons_40 : decode cX4_reckons 40 = .ok (.iinc 3 1, 3) := by decide +kernel
theorem dX4_reckons_43 : decode cX4_reckons 43 = .ok (.goto (-27), 3) := by decide +kernel
theorem dX4_reckons_46 : decode cX4_reckons 46 = .ok (.aload_n 0, 1) := by decide +kernel
theorem dX4_reckons_47 : decode cX4_reckons 47 = .ok (.iload_n 2, 1) := by decide +kernel
theorem dX4_reckons_48 : decode cX4_reckons 48 = .ok (.iload_n 3, 1) := by decide +kernel
theorem dX4_reckons_49 : decode cX4_reckons 49 = .ok (.invokevirtual 115, 3) := by decide +kernel
theorem dX4_reckons_52 : decode cX4_reckons 52 = .ok (.istore 4, 2) := by decide +kernel
theorem dX4_reckons_54 : decode cX4_reckons 54 = .ok (.iload_n 1, 1) := by decide +kernel
theorem dX4_reckons_55 : decode cX4_reckons 55 = .ok (.iload 4, 2) := by decide +kernel
theorem dX4_reckons_57 : decode cX4_reckons 57 = .ok (.ifCond .ge 10, 3) := by decide +kernel
theorem dX4_reckons_60 : decode cX4_reckons 60 = .ok (.iconst (-1), 1) := by decide +kernel
theorem dX4_reckons_61 : decode cX4_reckons 61 = .ok (.iload 4, 2) := by decide +kernel
theorem dX4_reckons_63 : decode cX4_reckons 63 = .ok (.isub, 1) := by decide +kernel
theorem dX4_reckons_64 : decode cX4_reckons 64 = .ok (.goto 5, 3) := by decide +kernel
theorem dX4_reckons_67 : decode cX4_reckons 67 = .ok (.iload 4, 2) := by decide +kernel
theorem dX4_reckons_69 : decode cX4_reckons 69 = .ok (.iadd, 1) := by decide +kernel
theorem dX4_reckons_70 : decode cX4_reckons 70 = .ok (.istore_n 1, 1) := by decide +kernel
theorem dX4_reckons_71 : decode cX4_reckons 71 = .ok (.iload 4, 2) := by decide +kernel
theorem dX4_reckons_73 : decode cX4_reckons 73 = .ok (.ifCond .ge 10, 3) := by decide +kernel
theorem dX4_reckons_76 : decode cX4_reckons 76 = .ok (.aload_n 0, 1) := by decide +kernel
theorem dX4_reckons_77 : decode cX4_reckons 77 = .ok (.getfield 109, 3) := by decide +kernel
theorem dX4_reckons_80 : decode cX4_reckons 80 = .ok (.goto 4, 3) := by decide +kernel
theorem dX4_reckons_83 : decode cX4_reckons 83 = .ok (.iload_n 3, 1) := by decide +kernel
theorem dX4_reckons_84 : decode cX4_reckons 84 = .ok (.istore_n 2, 1) := by decide +kernel
theorem dX4_reckons_85 : decode cX4_reckons 85 = .ok (.goto (-81), 3) := by decide +kernel
theorem dX4_reckons_88 : decode cX4_reckons 88 = .ok (.iload_n 1, 1) := by decide +kernel
theorem dX4_reckons_89 : decode cX4_reckons 89 = .ok (.ireturn, 1) := by decide +kernel
set_option maxRecDepth 20000 in
theorem ggX4_reckon_X4_wrong : GoodIn wsX4_reckon wsX4_wrong := goodIn_r _ [7, 1, 2, 8, 9, 6, 10, 94, 95, 96, 97, 98, 99, 100, 101] (by decide +kernel) (by decide +kernel)
set_option maxRecDepth 20000 in
theorem gX4_reckon_X4_wrong : GoodIn wsX4_reckon (wsV RX4 112 RX4 yX4_wrong wsX4_wrong) := goodIn_app (goodIn_of _ (by decide +kernel)) ggX4_reckon_X4_wrong
set_option maxRecDepth 20000 in
theorem ggX4_reckon_X4_in : GoodIn wsX4_reckon wsX4_in := goodIn_r _ [10] (by decide +kernel) (by decide +kernel)
set_option maxRecDepth 20000 in
theorem gX4_reckon_X4_in : GoodIn wsX4_reckon (va_wsS RX4 26 yX4_in wsX4_in) := goodIn_app (goodIn_of _ (by decide +kernel)) ggX4_reckon_X4_in
set_option maxRecDepth 20000 in
theorem ggX4_reckon_X4_holds : GoodIn wsX4_reckon wsX4_holds := goodIn_r _ [14, 15, 94, 95, 96, 97, 98, 99, 100, 101] (by decide +kernel) (by decide +kernel)
set_option maxRecDepth 20000 in
theorem gX4_reckon_X4_holds : GoodIn wsX4_reckon (wsV RX4 87 RX4 yX4_holds wsX4_holds) := goodIn_app (goodIn_of _ (by decide +kernel)) ggX4_reckon_X4_holds
set_option maxRecDepth 20000 in
theorem ggX4_reckon_X4_save : GoodIn wsX4_reckon wsX4_save := goodIn_r _ [19, 20, 21, 22, 94, 95, 96, 97, 98, 99, 100, 101] (by decide +kernel) (by decide +kernel)
set_option maxRecDepth 20000 in
theorem gX4_reckon_X4_save : GoodIn wsX4_reckon (wsV RX4 90 RX4 yX4_save wsX4_save) := goodIn_app (goodIn_of _ (by decide +kernel)) ggX4_reckon_X4_save
set_option maxRecDepth 20000 in
theorem ggX4_reckon_X4_reckons : GoodIn wsX4_reckon wsX4_reckons := goodIn_r _ [26, 1, 2, 8, 9, 6, 10, 27, 28, 29, 30, 31, 32, 33, 34, 35, 36, 37, 38, 39, 22, 40, 41, 42, 43, 44, 45, 46, 47, 48, 49, 50, 51, 52, 53, 54, 55, 56, 57, 58, 59, 60, 61, 62, 63, 64, 65, 66, 67, 68, 69, 70, 71, 72, 73, 74, 75, 76, 77, 78, 79, 80, 81, 82, 83, 84, 85, 86, 87, 88, 89, 90, 91, 92, 93, 94, 95, 96, 97, 98, 99, 100, 101] (by decide +kernel) (by decide +kernel)
set_option maxRecDepth 20000 in
theorem gX4_reckon_X4_reckons : GoodIn wsX4_reckon (wsV RX4 118 RX4 yX4_reckons wsX4_reckons) := goodIn_app (goodIn_of _ (by decide +kernel)) ggX4_reckon_X4_reckons
theorem dX4_reckon_0 : decode cX4_reckon 0 = .ok (.aload_n 0, 1) := by decide +kernel
theorem dX4_reckon_1 : decode cX4_reckon 1 = .ok (.getfield 109, 3) := by decide +kernel
theorem dX4_reckon_4 : decode cX4_reckon 4 = .ok (.ifCond .le 39, 3) := by decide +kernel
theorem dX4_reckon_7 : decode cX4_reckon 7 = .ok (.aload_n 0, 1) := by decide +kernel
theorem dX4_reckon_8 : decode cX4_reckon 8 = .ok (.invokevirtual 112, 3) := by decide +kernel
theorem dX4_reckon_11 : decode cX4_reckon 11 = .ok (.aload_n 0, 1) := by decide +kernel
theorem dX4_reckon_12 : decode cX4_reckon 12 = .ok (.getfield 109, 3) := by decide +kernel
theorem dX4_reckon_15 : decode cX4_reckon 15 = .ok (.if_icmp .ne 28, 3) := by decide +kernel
theorem dX4_reckon_18 : decode cX4_reckon 18 = .ok (.aload_n 0, 1) := by decide +kernel
theorem dX4_reckon_19 : decode cX4_reckon 19 = .ok (.getfield 19, 3) := by decide +kernel
theorem dX4_reckon_22 : decode cX4_reckon 22 = .ok (.aload_n 0, 1) := by decide +kernel
theorem dX4_reckon_23 : decode cX4_reckon 23 = .ok (.getfield 109, 3) := by decide +kernel
theorem dX4_reckon_26 : decode cX4_reckon 26 = .ok (.iconst 1, 1) := by decide +kernel
theorem dX4_reckon_27 : decode cX4_reckon 27 = .ok (.isub, 1) := by decide +kernel
theorem dX4_reckon_28 : decode cX4_reckon 28 = .ok (.iaload, 1) := by decide +kernel
theorem dX4_reckon_29 : decode cX4_reckon 29 = .ok (.bipush 48, 2) := by decide +kernel
theorem dX4_reckon_31 : decode cX4_reckon 31 = .ok (.bipush 57, 2) := by decide +kernel
theorem dX4_reckon_33 : decode cX4_reckon 33 = .ok (.invokestatic 26, 3) := by decide +kernel
theorem dX4_reckon_36 : decode cX4_reckon 36 = .ok (.ifCond .eq 7, 3) := by decide +kernel
theorem dX4_reckon_39 : decode cX4_reckon 39 = .ok (.iconst 1, 1) := by decide +kernel
theorem dX4_reckon_40 : decode cX4_reckon 40 = .ok (.goto 4, 3) := by decide +kernel
theorem dX4_reckon_43 : decode cX4_reckon 43 = .ok (.iconst 0, 1) := by decide +kernel
theorem dX4_reckon_44 : decode cX4_reckon 44 = .ok (.istore_n 1, 1) := by decide +kernel
theorem dX4_reckon_45 : decode cX4_reckon 45 = .ok (.aload_n 0, 1) := by decide +kernel
theorem dX4_reckon_46 : decode cX4_reckon 46 = .ok (.iload_n 1, 1) := by decide +kernel
theorem dX4_reckon_47 : decode cX4_reckon 47 = .ok (.ifCond .eq 7, 3) := by decide +kernel
theorem dX4_reckon_50 : decode cX4_reckon 50 = .ok (.iconst 0, 1) := by decide +kernel
theorem dX4_reckon_51 : decode cX4_reckon 51 = .ok (.goto 4, 3) := by decide +kernel
theorem dX4_reckon_54 : decode cX4_reckon 54 = .ok (.iconst 1, 1) := by decide +kernel
theorem dX4_reckon_55 : decode cX4_reckon 55 = .ok (.invokevirtual 87, 3) := by decide +kernel
theorem dX4_reckon_58 : decode cX4_reckon 58 = .ok (.ifCond .ne 5, 3) := by decide +kernel
theorem dX4_reckon_61 : decode cX4_reckon 61 = .ok (.iconst 0, 1) := by decide +kernel
theorem dX4_reckon_62 : decode cX4_reckon 62 = .ok (.ireturn, 1) := by decide +kernel
theorem dX4_reckon_63 : decode cX4_reckon 63 = .ok (.aload_n 0, 1) := by decide +kernel
theorem dX4_reckon_64 : decode cX4_reckon 64 = .ok (.invokevirtual 90, 3) := by decide +kernel
theorem dX4_reckon_67 : decode cX4_reckon 67 = .ok (.aload_n 0, 1) := by decide +kernel
theorem dX4_reckon_68 : decode cX4_reckon 68 = .ok (.invokevirtual 118, 3) := by decide +kernel
theorem dX4_reckon_71 : decode cX4_reckon 71 = .ok (.istore_n 2, 1) := by decide +kernel
theorem dX4_reckon_72 : decode cX4_reckon 72 = .ok (.aload_n 0, 1) := by decide +kernel
theorem dX4_reckon_73 : decode cX4_reckon 73 = .ok (.iconst 0, 1) := by decide +kernel
theorem dX4_reckon_74 : decode cX4_reckon 74 = .ok (.putfield 109, 3) := by decide +kernel
theorem dX4_reckon_77 : decode cX4_reckon 77 = .ok (.iload_n 2, 1) := by decide +kernel
theorem dX4_reckon_78 : decode cX4_reckon 78 = .ok (.ireturn, 1) := by decide +kernel
set_option maxRecDepth 20000 in
theorem ggX4_undo_X4_holds : GoodIn wsX4_undo wsX4_holds := goodIn_r _ [8, 9, 10, 11, 12, 13, 14, 15, 16, 17] (by decide +kernel) (by decide +kernel)
set_option maxRecDepth 20000 in
theorem gX4_undo_X4_holds : GoodIn wsX4_undo (wsV RX4 87 RX4 yX4_holds wsX4_holds) := goodIn_app (goodIn_of _ (by decide +kernel)) ggX4_undo_X4_holds
theorem dX4_undo_0 : decode cX4_undo 0 = .ok (.aload_n 0, 1) := by decide +kernel
theorem dX4_undo_1 : decode cX4_undo 1 = .ok (.aload_n 0, 1) := by decide +kernel
theorem dX4_undo_2 : decode cX4_undo 2 = .ok (.getfield 30, 3) := by decide +kernel
theorem dX4_undo_5 : decode cX4_undo 5 = .ok (.ifCond .le 7, 3) := by decide +kernel
theorem dX4_undo_8 : decode cX4_undo 8 = .ok (.iconst 0, 1) := by decide +kernel
theorem dX4_undo_9 : decode cX4_undo 9 = .ok (.goto 4, 3) := by decide +kernel
theorem dX4_undo_12 : decode cX4_undo 12 = .ok (.iconst 1, 1) := by decide +kernel
theorem dX4_undo_13 : decode cX4_undo 13 = .ok (.invokevirtual 87, 3) := by decide +kernel
theorem dX4_undo_16 : decode cX4_undo 16 = .ok (.ifCond .ne 5, 3) := by decide +kernel
theorem dX4_undo_19 : decode cX4_undo 19 = .ok (.iconst 0, 1) := by decide +kernel
theorem dX4_undo_20 : decode cX4_undo 20 = .ok (.ireturn, 1) := by decide +kernel
theorem dX4_undo_21 : decode cX4_undo 21 = .ok (.aload_n 0, 1) := by decide +kernel
theorem dX4_undo_22 : decode cX4_undo 22 = .ok (.dup, 1) := by decide +kernel
theorem dX4_undo_23 : decode cX4_undo 23 = .ok (.getfield 30, 3) := by decide +kernel
theorem dX4_undo_26 : decode cX4_undo 26 = .ok (.iconst 1, 1) := by decide +kernel
theorem dX4_undo_27 : decode cX4_undo 27 = .ok (.isub, 1) := by decide +kernel
theorem dX4_undo_28 : decode cX4_undo 28 = .ok (.putfield 30, 3) := by decide +kernel
theorem dX4_undo_31 : decode cX4_undo 31 = .ok (.iconst 0, 1) := by decide +kernel
theorem dX4_undo_32 : decode cX4_undo 32 = .ok (.istore_n 1, 1) := by decide +kernel
theorem dX4_undo_33 : decode cX4_undo 33 = .ok (.iload_n 1, 1) := by decide +kernel
theorem dX4_undo_34 : decode cX4_undo 34 = .ok (.bipush 55, 2) := by decide +kernel
theorem dX4_undo_36 : decode cX4_undo 36 = .ok (.if_icmp .ge 29, 3) := by decide +kernel
theorem dX4_undo_39 : decode cX4_undo 39 = .ok (.aload_n 0, 1) := by decide +kernel
theorem dX4_undo_40 : decode cX4_undo 40 = .ok (.getfield 7, 3) := by decide +kernel
theorem dX4_undo_43 : decode cX4_undo 43 = .ok (.iload_n 1, 1) := by decide +kernel
theorem dX4_undo_44 : decode cX4_undo 44 = .ok (.aload_n 0, 1) := by decide +kernel
theorem dX4_undo_45 : decode cX4_undo 45 = .ok (.getfield 16, 3) := by decide +kernel
theorem dX4_undo_48 : decode cX4_undo 48 = .ok (.bipush 55, 2) := by decide +kernel
theorem dX4_undo_50 : decode cX4_undo 50 = .ok (.aload_n 0, 1) := by decide +kernel
theorem dX4_undo_51 : decode cX4_undo 51 = .ok (.getfield 30, 3) := by decide +kernel
theorem dX4_undo_54 : decode cX4_undo 54 = .ok (.imul, 1) := by decide +kernel
theorem dX4_undo_55 : decode cX4_undo 55 = .ok (.iload_n 1, 1) := by decide +kernel
theorem dX4_undo_56 : decode cX4_undo 56 = .ok (.iadd, 1) := by decide +kernel
theorem dX4_undo_57 : decode cX4_undo 57 = .ok (.iaload, 1) := by decide +kernel
theorem dX4_undo_58 : decode cX4_undo 58 = .ok (.iastore, 1) := by decide +kernel
theorem dX4_undo_59 : decode cX4_undo 59 = .ok (.iinc 1 1, 3) := by decide +kernel
theorem dX4_undo_62 : decode cX4_undo 62 = .ok (.goto (-29), 3) := by decide +kernel
theorem dX4_undo_65 : decode cX4_undo 65 = .ok (.aload_n 0, 1) := by decide +kernel
theorem dX4_undo_66 : decode cX4_undo 66 = .ok (.getfield 30, 3) := by decide +kernel
theorem dX4_undo_69 : decode cX4_undo 69 = .ok (.ireturn, 1) := by decide +kernel
set_option maxRecDepth 20000 in
theorem ggX4_numbers_X4_can : GoodIn wsX4_numbers wsX4_can := goodIn_r _ [5, 6, 7, 8, 4, 9, 10, 11, 12, 13, 14, 15, 16, 17, 18, 19, 20, 21, 22, 23, 24, 25, 26, 27, 28, 29, 30, 31, 32, 33, 34, 35] (by decide +kernel) (by decide +kernel)
set_option maxRecDepth 20000 in
theorem gX4_numbers_X4_can : GoodIn wsX4_numbers (wsV RX4 57 RX4 yX4_can wsX4_can) := goodIn_app (goodIn_of _ (by decide +kernel)) ggX4_numbers_X4_can
theorem dX4_numbers_0 : decode cX4_numbers 0 = .ok (.iconst 0, 1) := by decide +kernel
theorem dX4_numbers_1 : decode cX4_numbers 1 = .ok (.istore_n 2, 1) := by decide +kernel
theorem dX4_numbers_2 : decode cX4_numbers 2 = .ok (.iconst 0, 1) := by decide +kernel
theorem dX4_numbers_3 : decode cX4_numbers 3 = .ok (.istore_n 3, 1) := by decide +kernel
theorem dX4_numbers_4 : decode cX4_numbers 4 = .ok (.iload_n 3, 1) := by decide +kernel
theorem dX4_numbers_5 : decode cX4_numbers 5 = .ok (.bipush 15, 2) := by decide +kernel
theorem dX4_numbers_7 : decode cX4_numbers 7 = .ok (.if_icmp .gt 26, 3) := by decide +kernel
theorem dX4_numbers_10 : decode cX4_numbers 10 = .ok (.iload_n 2, 1) := by decide +kernel
theorem dX4_numbers_11 : decode cX4_numbers 11 = .ok (.aload_n 0, 1) := by decide +kernel
theorem dX4_numbers_12 : decode cX4_numbers 12 = .ok (.iload_n 1, 1) := by decide +kernel
theorem dX4_numbers_13 : decode cX4_numbers 13 = .ok (.iload_n 3, 1) := by decide +kernel
theorem dX4_numbers_14 : decode cX4_numbers 14 = .ok (.invokevirtual 57, 3) := by decide +kernel
theorem dX4_numbers_17 : decode cX4_numbers 17 = .ok (.ifCond .eq 7, 3) := by decide +kernel
theorem dX4_numbers_20 : decode cX4_numbers 20 = .ok (.iconst 1, 1) := by decide +kernel
theorem dX4_numbers_21 : decode cX4_numbers 21 = .ok (.goto 4, 3) := by decide +kernel
theorem dX4_numbers_24 : decode cX4_numbers 24 = .ok (.iconst 0, 1) := by decide +kernel
theorem dX4_numbers_25 : decode cX4_numbers 25 = .ok (.iadd, 1) := by decide +kernel
theorem dX4_numbers_26 : decode cX4_numbers 26 = .ok (.istore_n 2, 1) := by decide +kernel
theorem dX4_numbers_27 : decode cX4_numbers 27 = .ok (.iinc 3 1, 3) := by decide +kernel
theorem dX4_numbers_30 : decode cX4_numbers 30 = .ok (.goto (-26), 3) := by decide +kernel
theorem dX4_numbers_33 : decode cX4_numbers 33 = .ok (.iload_n 2, 1) := by decide +kernel
theorem dX4_numbers_34 : decode cX4_numbers 34 = .ok (.ireturn, 1) := by decide +kernel
set_option maxRecDepth 20000 in
theorem ggX4_told_X4_of : GoodIn wsX4_told wsX4_of := goodIn_r _ [5] (by decide +kernel) (by decide +kernel)
set_option maxRecDepth 20000 in
theorem gX4_told_X4_of : GoodIn wsX4_told (va_wsS RX4 33 yX4_of wsX4_of) := goodIn_app (goodIn_of _ (by decide +kernel)) ggX4_told_X4_of
set_option maxRecDepth 20000 in
theorem ggX4_told_X4_shows : GoodIn wsX4_told wsX4_shows := goodIn_r _ [9, 1, 2, 3, 4, 5, 36, 37, 38, 39, 40, 41, 42, 43] (by decide +kernel) (by decide +kernel)
set_option maxRecDepth 20000 in
theorem gX4_told_X4_shows : GoodIn wsX4_told (wsV RX4 54 RX4 yX4_shows wsX4_shows) := goodIn_app (goodIn_of _ (by decide +kernel)) ggX4_told_X4_shows
set_option maxRecDepth 20000 in
theorem ggX4_told_X4_numbers : GoodIn wsX4_told wsX4_numbers := goodIn_r _ [13, 14, 15, 16, 4, 17, 18, 19, 20, 21, 22, 23, 24, 25, 26, 27, 28, 1, 2, 3, 5, 29, 30, 31, 32, 33, 34, 35, 36, 37, 38, 39, 40, 41, 42, 43] (by decide +kernel) (by decide +kernel)
set_option maxRecDepth 20000 in
theorem gX4_told_X4_numbers : GoodIn wsX4_told (wsV RX4 121 RX4 yX4_numbers wsX4_numbers) := goodIn_app (goodIn_of _ (by decide +kernel)) ggX4_told_X4_numbers
theorem dX4_told_0 : decode cX4_told 0 = .ok (.iload_n 2, 1) := by decide +kernel
theorem dX4_told_1 : decode cX4_told 1 = .ok (.tableswitch 89 0 6 #[43, 43, 54, 60, 74, 74, 74], 43) := by decide +kernel
theorem dX4_told_44 : decode cX4_told 44 = .ok (.aload_n 0, 1) := by decide +kernel
theorem dX4_told_45 : decode cX4_told 45 = .ok (.getfield 7, 3) := by decide +kernel
theorem dX4_told_48 : decode cX4_told 48 = .ok (.iload_n 1, 1) := by decide +kernel
theorem dX4_told_49 : decode cX4_told 49 = .ok (.iload_n 2, 1) := by decide +kernel
theorem dX4_told_50 : decode cX4_told 50 = .ok (.invokestatic 33, 3) := by decide +kernel
theorem dX4_told_53 : decode cX4_told 53 = .ok (.iaload, 1) := by decide +kernel
theorem dX4_told_54 : decode cX4_told 54 = .ok (.ireturn, 1) := by decide +kernel
theorem dX4_told_55 : decode cX4_told 55 = .ok (.aload_n 0, 1) := by decide +kernel
theorem dX4_told_56 : decode cX4_told 56 = .ok (.iload_n 1, 1) := by decide +kernel
theorem dX4_told_57 : decode cX4_told 57 = .ok (.invokevirtual 54, 3) := by decide +kernel
theorem dX4_told_60 : decode cX4_told 60 = .ok (.ireturn, 1) := by decide +kernel
theorem dX4_told_61 : decode cX4_told 61 = .ok (.aload_n 0, 1) := by decide +kernel
theorem dX4_told_62 : decode cX4_told 62 = .ok (.getfield 7, 3) := by decide +kernel
theorem dX4_told_65 : decode cX4_told 65 = .ok (.iload_n 1, 1) := by decide +kernel
theorem dX4_told_66 : decode cX4_told 66 = .ok (.iconst 2, 1) := by decide +kernel
theorem dX4_told_67 : decode cX4_told 67 = .ok (.invokestatic 33, 3) := by decide +kernel
theorem dX4_told_70 : decode cX4_told 70 = .ok (.iaload, 1) := by decide +kernel
theorem dX4_told_71 : decode cX4_told 71 = .ok (.bipush 100, 2) := by decide +kernel
theorem dX4_told_73 : decode cX4_told 73 = .ok (.iadd, 1) := by decide +kernel
theorem dX4_told_74 : decode cX4_told 74 = .ok (.ireturn, 1) := by decide +kernel
theorem dX4_told_75 : decode cX4_told 75 = .ok (.aload_n 0, 1) := by decide +kernel
theorem dX4_told_76 : decode cX4_told 76 = .ok (.getfield 7, 3) := by decide +kernel
theorem dX4_told_79 : decode cX4_told 79 = .ok (.iload_n 1, 1) := by decide +kernel
theorem dX4_told_80 : decode cX4_told 80 = .ok (.iconst 3, 1) := by decide +kernel
theorem dX4_told_81 : decode cX4_told 81 = .ok (.iload_n 2, 1) := by decide +kernel
theorem dX4_told_82 : decode cX4_told 82 = .ok (.iadd, 1) := by decide +kernel
theorem dX4_told_83 : decode cX4_told 83 = .ok (.iconst 4, 1) := by decide +kernel
theorem dX4_told_84 : decode cX4_told 84 = .ok (.isub, 1) := by decide +kernel
theorem dX4_told_85 : decode cX4_told 85 = .ok (.invokestatic 33, 3) := by decide +kernel
theorem dX4_told_88 : decode cX4_told 88 = .ok (.iaload, 1) := by decide +kernel
theorem dX4_told_89 : decode cX4_told 89 = .ok (.ireturn, 1) := by decide +kernel
theorem dX4_told_90 : decode cX4_told 90 = .ok (.aload_n 0, 1) := by decide +kernel
theorem dX4_told_91 : decode cX4_told 91 = .ok (.iload_n 1, 1) := by decide +kernel
theorem dX4_told_92 : decode cX4_told 92 = .ok (.invokevirtual 121, 3) := by decide +kernel
theorem dX4_told_95 : decode cX4_told 95 = .ok (.ireturn, 1) := by decide +kernel
set_option maxRecDepth 20000 in
theorem ggX4_rod_X4_isRod : GoodIn wsX4_rod wsX4_isRod := goodIn_r _ [4, 5, 6, 3, 7] (by decide +kernel) (by decide +kernel)
set_option maxRecDepth 20000 in
theorem gX4_rod_X4_isRod : GoodIn wsX4_rod (va_wsS RX4 84 yX4_isRod wsX4_isRod) := goodIn_app (goodIn_of _ (by decide +kernel)) ggX4_rod_X4_isRod
set_option maxRecDepth 20000 in
theorem ggX4_rod_X4_in : GoodIn wsX4_rod wsX4_in := goodIn_r _ [7] (by decide +kernel) (by decide +kernel)
set_option maxRecDepth 20000 in
theorem gX4_rod_X4_in : GoodIn wsX4_rod (va_wsS RX4 26 yX4_in wsX4_in) := goodIn_app (goodIn_of _ (by decide +kernel)) ggX4_rod_X4_in
set_option maxRecDepth 20000 in
theorem ggX4_rod_X4_holds : GoodIn wsX4_rod wsX4_holds := goodIn_r _ [11, 12, 48, 49, 50, 51, 52, 53, 54, 55] (by decide +kernel) (by decide +kernel)
set_option maxRecDepth 20000 in
theorem gX4_rod_X4_holds : GoodIn wsX4_rod (wsV RX4 87 RX4 yX4_holds wsX4_holds) := goodIn_app (goodIn_of _ (by decide +kernel)) ggX4_rod_X4_holds
set_option maxRecDepth 20000 in
theorem ggX4_rod_X4_told : GoodIn wsX4_rod wsX4_told := goodIn_r _ [16, 17, 18, 19, 3, 20, 21, 22, 23, 24, 25, 26, 27, 28, 29, 30, 31, 32, 33, 34, 35, 36, 5, 6, 7, 37, 38, 39, 40, 41, 42, 43, 44, 45, 46, 47, 48, 49, 50, 51, 52, 53, 54, 55] (by decide +kernel) (by decide +kernel)
set_option maxRecDepth 20000 in
theorem gX4_rod_X4_told : GoodIn wsX4_rod (wsV RX4 124 RX4 yX4_told wsX4_told) := goodIn_app (goodIn_of _ (by decide +kernel)) ggX4_rod_X4_told
theorem dX4_rod_0 : decode cX4_rod 0 = .ok (.aload_n 0, 1) := by decide +kernel
theorem dX4_rod_1 : decode cX4_rod 1 = .ok (.iload_n 1, 1) := by decide +kernel
theorem dX4_rod_2 : decode cX4_rod 2 = .ok (.invokestatic 84, 3) := by decide +kernel
theorem dX4_rod_5 : decode cX4_rod 5 = .ok (.ifCond .ne 7, 3) := by decide +kernel
theorem dX4_rod_8 : decode cX4_rod 8 = .ok (.iconst 1, 1) := by decide +kernel
theorem dX4_rod_9 : decode cX4_rod 9 = .ok (.goto 18, 3) := by decide +kernel
theorem dX4_rod_12 : decode cX4_rod 12 = .ok (.iload_n 2, 1) := by decide +kernel
theorem dX4_rod_13 : decode cX4_rod 13 = .ok (.iconst 0, 1) := by decide +kernel
theorem dX4_rod_14 : decode cX4_rod 14 = .ok (.bipush 7, 2) := by decide +kernel
theorem dX4_rod_16 : decode cX4_rod 16 = .ok (.invokestatic 26, 3) := by decide +kernel
theorem dX4_rod_19 : decode cX4_rod 19 = .ok (.ifCond .ne 7, 3) := by decide +kernel
theorem dX4_rod_22 : decode cX4_rod 22 = .ok (.iconst 2, 1) := by decide +kernel
theorem dX4_rod_23 : decode cX4_rod 23 = .ok (.goto 4, 3) := by decide +kernel
theorem dX4_rod_26 : decode cX4_rod 26 = .ok (.iconst 0, 1) := by decide +kernel
theorem dX4_rod_27 : decode cX4_rod 27 = .ok (.invokevirtual 87, 3) := by decide +kernel
theorem dX4_rod_30 : decode cX4_rod 30 = .ok (.ifCond .eq 12, 3) := by decide +kernel
theorem dX4_rod_33 : decode cX4_rod 33 = .ok (.aload_n 0, 1) := by decide +kernel
theorem dX4_rod_34 : decode cX4_rod 34 = .ok (.iload_n 1, 1) := by decide +kernel
theorem dX4_rod_35 : decode cX4_rod 35 = .ok (.iload_n 2, 1) := by decide +kernel
theorem dX4_rod_36 : decode cX4_rod 36 = .ok (.invokevirtual 124, 3) := by decide +kernel
theorem dX4_rod_39 : decode cX4_rod 39 = .ok (.goto 4, 3) := by decide +kernel
theorem dX4_rod_42 : decode cX4_rod 42 = .ok (.iconst 0, 1) := by decide +kernel
theorem dX4_rod_43 : decode cX4_rod 43 = .ok (.ireturn, 1) := by decide +kernel
set_option maxRecDepth 20000 in
theorem ggX4_all_X4_shows : GoodIn wsX4_all wsX4_shows := goodIn_r _ [7, 2, 8, 9, 6, 10, 11, 12, 13, 14, 15, 16, 17, 18] (by decide +kernel) (by decide +kernel)
set_option maxRecDepth 20000 in
theorem gX4_all_X4_shows : GoodIn wsX4_all (wsV RX4 54 RX4 yX4_shows wsX4_shows) := goodIn_app (goodIn_of _ (by decide +kernel)) ggX4_all_X4_shows
set_option maxRecDepth 20000 in
theorem ggX4_all_X4_of : GoodIn wsX4_all wsX4_of := goodIn_r _ [10] (by decide +kernel) (by decide +kernel)
set_option maxRecDepth 20000 in
theorem gX4_all_X4_of : GoodIn wsX4_all (va_wsS RX4 33 yX4_of wsX4_of) := goodIn_app (goodIn_of _ (by decide +kernel)) ggX4_all_X4_of
theorem dX4_all_0 : decode cX4_all 0 = .ok (.lconst 0, 1) := by decide +kernel
theorem dX4_all_1 : decode cX4_all 1 = .ok (.lstore_n 1, 1) := by decide +kernel
theorem dX4_all_2 : decode cX4_all 2 = .ok (.bipush 8, 2) := by decide +kernel
theorem dX4_all_4 : decode cX4_all 4 = .ok (.istore_n 3, 1) := by decide +kernel
theorem dX4_all_5 : decode cX4_all 5 = .ok (.iload_n 3, 1) := by decide +kernel
theorem dX4_all_6 : decode cX4_all 6 = .ok (.ifCond .lt 34, 3) := by decide +kernel
theorem dX4_all_9 : decode cX4_all 9 = .ok (.ldc2_w 127, 3) := by decide +kernel
theorem dX4_all_12 : decode cX4_all 12 = .ok (.lload_n 1, 1) := by decide +kernel
theorem dX4_all_13 : decode cX4_all 13 = .ok (.lmul, 1) := by decide +kernel
theorem dX4_all_14 : decode cX4_all 14 = .ok (.aload_n 0, 1) := by decide +kernel
theorem dX4_all_15 : decode cX4_all 15 = .ok (.iload_n 3, 1) := by decide +kernel
theorem dX4_all_16 : decode cX4_all 16 = .ok (.invokevirtual 54, 3) := by decide +kernel
theorem dX4_all_19 : decode cX4_all 19 = .ok (.i2l, 1) := by decide +kernel
theorem dX4_all_20 : decode cX4_all 20 = .ok (.ladd, 1) := by decide +kernel
theorem dX4_all_21 : decode cX4_all 21 = .ok (.aload_n 0, 1) := by decide +kernel
theorem dX4_all_22 : decode cX4_all 22 = .ok (.getfield 7, 3) := by decide +kernel
theorem dX4_all_25 : decode cX4_all 25 = .ok (.iload_n 3, 1) := by decide +kernel
theorem dX4_all_26 : decode cX4_all 26 = .ok (.iconst 2, 1) := by decide +kernel
theorem dX4_all_27 : decode cX4_all 27 = .ok (.invokestatic 33, 3) := by decide +kernel
theorem dX4_all_30 : decode cX4_all 30 = .ok (.iaload, 1) := by decide +kernel
theorem dX4_all_31 : decode cX4_all 31 = .ok (.i2l, 1) := by decide +kernel
theorem dX4_all_32 : decode cX4_all 32 = .ok (.ladd, 1) := by decide +kernel
theorem dX4_all_33 : decode cX4_all 33 = .ok (.lstore_n 1, 1) := by decide +kernel
theorem dX4_all_34 : decode cX4_all 34 = .ok (.iinc 3 (-1), 3) := by decide +kernel
theorem dX4_all_37 : decode cX4_all 37 = .ok (.goto (-32), 3) := by decide +kernel
theorem dX4_all_40 : decode cX4_all 40 = .ok (.lload_n 1, 1) := by decide +kernel
theorem dX4_all_41 : decode cX4_all 41 = .ok (.lreturn, 1) := by decide +kernel
set_option maxRecDepth 20000 in
theorem ggX4_whole_X4_all : GoodIn wsX4_whole wsX4_all := goodIn_r _ [6, 7, 8, 9, 10, 11, 5, 12, 13, 14, 15, 16, 17, 18, 19, 20, 21, 22, 23] (by decide +kernel) (by decide +kernel)
set_option maxRecDepth 20000 in
theorem gX4_whole_X4_all : GoodIn wsX4_whole (wsV RX4 129 RX4 yX4_all wsX4_all) := goodIn_app (goodIn_of _ (by decide +kernel)) ggX4_whole_X4_all
theorem dX4_whole_0 : decode cX4_whole 0 = .ok (.aload_n 0, 1) := by decide +kernel
theorem dX4_whole_1 : decode cX4_whole 1 = .ok (.iconst 0, 1) := by decide +kernel
theorem dX4_whole_2 : decode cX4_whole 2 = .ok (.putfield 22, 3) := by decide +kernel
theorem dX4_whole_5 : decode cX4_whole 5 = .ok (.aload_n 0, 1) := by decide +kernel
theorem dX4_whole_6 : decode cX4_whole 6 = .ok (.invokevirtual 129, 3) := by decide +kernel
theorem dX4_whole_9 : decode cX4_whole 9 = .ok (.lreturn, 1) := by decide +kernel
set_option maxRecDepth 20000 in
theorem ggX4_sum_X4_of : GoodIn wsX4_sum wsX4_of := goodIn_r _ [5] (by decide +kernel) (by decide +kernel)
set_option maxRecDepth 20000 in
theorem gX4_sum_X4_of : GoodIn wsX4_sum (va_wsS RX4 33 yX4_of wsX4_of) := goodIn_app (goodIn_of _ (by decide +kernel)) ggX4_sum_X4_of
set_option maxRecDepth 20000 in
theorem ggX4_sum_X4_shows : GoodIn wsX4_sum wsX4_shows := goodIn_r _ [9, 1, 2, 3, 4, 5, 10, 11, 12, 13, 14, 15, 16, 17] (by decide +kernel) (by decide +kernel)
set_option maxRecDepth 20000 in
theorem gX4_sum_X4_shows : GoodIn wsX4_sum (wsV RX4 54 RX4 yX4_shows wsX4_shows) := goodIn_app (goodIn_of _ (by decide +kernel)) ggX4_sum_X4_shows
theorem dX4_sum_0 : decode cX4_sum 0 = .ok (.iconst 0, 1) := by decide +kernel
theorem dX4_sum_1 : decode cX4_sum 1 = .ok (.istore_n 2, 1) := by decide +kernel
theorem dX4_sum_2 : decode cX4_sum 2 = .ok (.iconst 0, 1) := by decide +kernel
theorem dX4_sum_3 : decode cX4_sum 3 = .ok (.istore_n 3, 1) := by decide +kernel
theorem dX4_sum_4 : decode cX4_sum 4 = .ok (.iload_n 3, 1) := by decide +kernel
theorem dX4_sum_5 : decode cX4_sum 5 = .ok (.bipush 9, 2) := by decide +kernel
theorem dX4_sum_7 : decode cX4_sum 7 = .ok (.if_icmp .ge 99, 3) := by decide +kernel
theorem dX4_sum_10 : decode cX4_sum 10 = .ok (.aload_n 0, 1) := by decide +kernel
theorem dX4_sum_11 : decode cX4_sum 11 = .ok (.getfield 7, 3) := by decide +kernel
theorem dX4_sum_14 : decode cX4_sum 14 = .ok (.iload_n 3, 1) := by decide +kernel
theorem dX4_sum_15 : decode cX4_sum 15 = .ok (.iconst 2, 1) := by decide +kernel
theorem dX4_sum_16 : decode cX4_sum 16 = .ok (.invokestatic 33, 3) := by decide +kernel
theorem dX4_sum_19 : decode cX4_sum 19 = .ok (.iaload, 1) := by decide +kernel
theorem dX4_sum_20 : decode cX4_sum 20 = .ok (.istore 4, 2) := by decide +kernel
theorem dX4_sum_22 : decode cX4_sum 22 = .ok (.iload_n 2, 1) := by decide +kernel
theorem dX4_sum_23 : decode cX4_sum 23 = .ok (.iload_n 1, 1) := by decide +kernel
theorem dX4_sum_24 : decode cX4_sum 24 = .ok (.iconst 2, 1) := by decide +kernel
theorem dX4_sum_25 : decode cX4_sum 25 = .ok (.if_icmp .ne 8, 3) := by decide +kernel
theorem dX4_sum_28 : decode cX4_sum 28 = .ok (.iload 4, 2) := by decide +kernel
theorem dX4_sum_30 : decode cX4_sum 30 = .ok (.goto 68, 3) := by decide +kernel
theorem dX4_sum_33 : decode cX4_sum 33 = .ok (.iload_n 1, 1) := by decide +kernel
theorem dX4_sum_34 : decode cX4_sum 34 = .ok (.iconst 3, 1) := by decide +kernel
theorem dX4_sum_35 : decode cX4_sum 35 = .ok (.if_icmp .ne 14, 3) := by decide +kernel
theorem dX4_sum_38 : decode cX4_sum 38 = .ok (.aload_n 0, 1) := by decide +kernel
theorem dX4_sum_39 : decode cX4_sum 39 = .ok (.iload_n 3, 1) := by decide +kernel
theorem dX4_sum_40 : decode cX4_sum 40 = .ok (.invokevirtual 54, 3) := by decide +kernel
theorem dX4_sum_43 : decode cX4_sum 43 = .ok (.iload 4, 2) := by decide +kernel
theorem dX4_sum_45 : decode cX4_sum 45 = .ok (.iadd, 1) := by decide +kernel
theorem dX4_sum_46 : decode cX4_sum 46 = .ok (.goto 52, 3) := by decide +kernel
theorem dX4_sum_49 : decode cX4_sum 49 = .ok (.iload_n 1, 1) := by decide +kernel
theorem dX4_sum_50 : decode cX4_sum 50 = .ok (.iconst 1, 1) := by decide +kernel
theorem dX4_sum_51 : decode cX4_sum 51 = .ok (.if_icmp .ne 11, 3) := by decide +kernel
theorem dX4_sum_54 : decode cX4_sum 54 = .ok (.iload 4, 2) := by decide +kernel
theorem dX4_sum_56 : decode cX4_sum 56 = .ok (.ifCond .eq 41, 3) := by decide +kernel
theorem dX4_sum_59 : decode cX4_sum 59 = .ok (.goto 34, 3) := by decide +kernel
theorem dX4_sum_62 : decode cX4_sum 62 = .ok (.iload_n 1, 1) := by decide +kernel
theorem dX4_sum_63 : decode cX4_sum 63 = .ok (.iconst 4, 1) := by decide +kernel
theorem dX4_sum_64 : decode cX4_sum 64 = .ok (.if_icmp .ne 16, 3) := by decide +kernel
theorem dX4_sum_67 : decode cX4_sum 67 = .ok (.aload_n 0, 1) := by decide +kernel
theorem dX4_sum_68 : decode cX4_sum 68 = .ok (.iload_n 3, 1) := by decide +kernel
theorem dX4_sum_69 : decode cX4_sum 69 = .ok (.invokevirtual 54, 3) := by decide +kernel
theorem dX4_sum_72 : decode cX4_sum 72 = .ok (.bipush 10, 2) := by decide +kernel
theorem dX4_sum_74 : decode cX4_sum 74 = .ok (.if_icmp .lt 23, 3) := by decide +kernel
theorem dX4_sum_77 : decode cX4_sum 77 = .ok (.goto 16, 3) := by decide +kernel
theorem dX4_sum_80 : decode cX4_sum 80 = .ok (.aload_n 0, 1) := by decide +kernel
theorem dX4_sum_81 : decode cX4_sum 81 = .ok (.getfield 7, 3) := by decide +kernel
theorem dX4_sum_84 : decode cX4_sum 84 = .ok (.iload_n 3, 1) := by decide +kernel
theorem dX4_sum_85 : decode cX4_sum 85 = .ok (.iconst 3, 1) := by decide +kernel
theorem dX4_sum_86 : decode cX4_sum 86 = .ok (.invokestatic 33, 3) := by decide +kernel
theorem dX4_sum_89 : decode cX4_sum 89 = .ok (.iaload, 1) := by decide +kernel
theorem dX4_sum_90 : decode cX4_sum 90 = .ok (.ifCond .le 7, 3) := by decide +kernel
theorem dX4_sum_93 : decode cX4_sum 93 = .ok (.iconst 1, 1) := by decide +kernel
theorem dX4_sum_94 : decode cX4_sum 94 = .ok (.goto 4, 3) := by decide +kernel
theorem dX4_sum_97 : decode cX4_sum 97 = .ok (.iconst 0, 1) := by decide +kernel
theorem dX4_sum_98 : decode cX4_sum 98 = .ok (.iadd, 1) := by decide +kernel
theorem dX4_sum_99 : decode cX4_sum 99 = .ok (.istore_n 2, 1) := by decide +kernel
theorem dX4_sum_100 : decode cX4_sum 100 = .ok (.iinc 3 1, 3) := by decide +kernel
theorem dX4_sum_103 : decode cX4_sum 103 = .ok (.goto (-99), 3) := by decide +kernel
theorem dX4_sum_106 : decode cX4_sum 106 = .ok (.iload_n 2, 1) := by decide +kernel
theorem dX4_sum_107 : decode cX4_sum 107 = .ok (.ireturn, 1) := by decide +kernel
set_option maxRecDepth 20000 in
theorem ggX4_counted_X4_allMoves : GoodIn wsX4_counted wsX4_allMoves := goodIn_r _ [7, 1, 8, 9, 6, 10, 19, 20, 21, 22, 23, 24, 25, 26] (by decide +kernel) (by decide +kernel)
set_option maxRecDepth 20000 in
theorem gX4_counted_X4_allMoves : GoodIn wsX4_counted (wsV RX4 96 RX4 yX4_allMoves wsX4_allMoves) := goodIn_app (goodIn_of _ (by decide +kernel)) ggX4_counted_X4_allMoves
set_option maxRecDepth 20000 in
theorem ggX4_counted_X4_sum : GoodIn wsX4_counted wsX4_sum := goodIn_r _ [14, 1, 8, 9, 6, 10, 15, 16, 17, 18, 19, 20, 21, 22, 23, 24, 25, 26] (by decide +kernel) (by decide +kernel)
set_option maxRecDepth 20000 in
theorem gX4_counted_X4_sum : GoodIn wsX4_counted (wsV RX4 133 RX4 yX4_sum wsX4_sum) := goodIn_app (goodIn_of _ (by decide +kernel)) ggX4_counted_X4_sum
theorem dX4_counted_0 : decode cX4_counted 0 = .ok (.iload_n 1, 1) := by decide +kernel
theorem dX4_counted_1 : decode cX4_counted 1 = .ok (.tableswitch 82 0 6 #[43, 48, 54, 63, 48, 48, 75], 43) := by decide +kernel
theorem dX4_counted_44 : decode cX4_counted 44 = .ok (.aload_n 0, 1) := by decide +kernel
theorem dX4_counted_45 : decode cX4_counted 45 = .ok (.invokevirtual 96, 3) := by decide +kernel
theorem dX4_counted_48 : decode cX4_counted 48 = .ok (.ireturn, 1) := by decide +kernel
theorem dX4_counted_49 : decode cX4_counted 49 = .ok (.aload_n 0, 1) := by decide +kernel
theorem dX4_counted_50 : decode cX4_counted 50 = .ok (.iload_n 1, 1) := by decide +kernel
theorem dX4_counted_51 : decode cX4_counted 51 = .ok (.invokevirtual 133, 3) := by decide +kernel
theorem dX4_counted_54 : decode cX4_counted 54 = .ok (.ireturn, 1) := by decide +kernel
theorem dX4_counted_55 : decode cX4_counted 55 = .ok (.aload_n 0, 1) := by decide +kernel
theorem dX4_counted_56 : decode cX4_counted 56 = .ok (.iconst 2, 1) := by decide +kernel
theorem dX4_counted_57 : decode cX4_counted 57 = .ok (.invokevirtual 133, 3) := by decide +kernel
theorem dX4_counted_60 : decode cX4_counted 60 = .ok (.bipush 100, 2) := by decide +kernel
theorem dX4_counted_62 : decode cX4_counted 62 = .ok (.iadd, 1) := by decide +kernel
theorem dX4_counted_63 : decode cX4_counted 63 = .ok (.ireturn, 1) := by decide +kernel
theorem dX4_counted_64 : decode cX4_counted 64 = .ok (.aload_n 0, 1) := by decide +kernel
theorem dX4_counted_65 : decode cX4_counted 65 = .ok (.iconst 3, 1) := by decide +kernel
theorem dX4_counted_66 : decode cX4_counted 66 = .ok (.invokevirtual 133, 3) := by decide +kernel
theorem dX4_counted_69 : decode cX4_counted 69 = .ok (.bipush 90, 2) := by decide +kernel
theorem dX4_counted_71 : decode cX4_counted 71 = .ok (.iadd, 1) := by decide +kernel
theorem dX4_counted_72 : decode cX4_counted 72 = .ok (.bipush 9, 2) := by decide +kernel
theorem dX4_counted_74 : decode cX4_counted 74 = .ok (.irem, 1) := by decide +kernel
theorem dX4_counted_75 : decode cX4_counted 75 = .ok (.ireturn, 1) := by decide +kernel
theorem dX4_counted_76 : decode cX4_counted 76 = .ok (.aload_n 0, 1) := by decide +kernel
theorem dX4_counted_77 : decode cX4_counted 77 = .ok (.getfield 7, 3) := by decide +kernel
theorem dX4_counted_80 : decode cX4_counted 80 = .ok (.iconst 0, 1) := by decide +kernel
theorem dX4_counted_81 : decode cX4_counted 81 = .ok (.iaload, 1) := by decide +kernel
theorem dX4_counted_82 : decode cX4_counted 82 = .ok (.ireturn, 1) := by decide +kernel
theorem dX4_counted_83 : decode cX4_counted 83 = .ok (.aload_n 0, 1) := by decide +kernel
theorem dX4_counted_84 : decode cX4_counted 84 = .ok (.getfield 30, 3) := by decide +kernel
theorem dX4_counted_87 : decode cX4_counted 87 = .ok (.ireturn, 1) := by decide +kernel
set_option maxRecDepth 20000 in
theorem ggX4_count_X4_in : GoodIn wsX4_count wsX4_in := goodIn_r _ [4] (by decide +kernel) (by decide +kernel)
set_option maxRecDepth 20000 in
theorem gX4_count_X4_in : GoodIn wsX4_count (va_wsS RX4 26 yX4_in wsX4_in) := goodIn_app (goodIn_of _ (by decide +kernel)) ggX4_count_X4_in
set_option maxRecDepth 20000 in
theorem ggX4_count_X4_holds : GoodIn wsX4_count wsX4_holds := goodIn_r _ [8, 9, 31, 32, 33, 34, 35, 36, 37, 38] (by decide +kernel) (by decide +kernel)
set_option maxRecDepth 20000 in
theorem gX4_count_X4_holds : GoodIn wsX4_count (wsV RX4 87 RX4 yX4_holds wsX4_holds) := goodIn_app (goodIn_of _ (by decide +kernel)) ggX4_count_X4_holds
set_option maxRecDepth 20000 in
theorem ggX4_count_X4_counted : GoodIn wsX4_count wsX4_counted := goodIn_r _ [13, 14, 15, 16, 17, 18, 3, 19, 20, 21, 22, 23, 24, 25, 26, 27, 28, 29, 30, 31, 32, 33, 34, 35, 36, 37, 38] (by decide +kernel) (by decide +kernel)
set_option maxRecDepth 20000 in
theorem gX4_count_X4_counted : GoodIn wsX4_count (wsV RX4 136 RX4 yX4_counted wsX4_counted) := goodIn_app (goodIn_of _ (by decide +kernel)) ggX4_count_X4_counted
theorem dX4_count_0 : decode cX4_count 0 = .ok (.aload_n 0, 1) := by decide +kernel
theorem dX4_count_1 : decode cX4_count 1 = .ok (.iload_n 1, 1) := by decide +kernel
theorem dX4_count_2 : decode cX4_count 2 = .ok (.iconst 0, 1) := by decide +kernel
theorem dX4_count_3 : decode cX4_count 3 = .ok (.bipush 7, 2) := by decide +kernel
theorem dX4_count_5 : decode cX4_count 5 = .ok (.invokestatic 26, 3) := by decide +kernel
theorem dX4_count_8 : decode cX4_count 8 = .ok (.ifCond .eq 7, 3) := by decide +kernel
theorem dX4_count_11 : decode cX4_count 11 = .ok (.iconst 0, 1) := by decide +kernel
theorem dX4_count_12 : decode cX4_count 12 = .ok (.goto 4, 3) := by decide +kernel
theorem dX4_count_15 : decode cX4_count 15 = .ok (.iconst 1, 1) := by decide +kernel
theorem dX4_count_16 : decode cX4_count 16 = .ok (.invokevirtual 87, 3) := by decide +kernel
theorem dX4_count_19 : decode cX4_count 19 = .ok (.ifCond .eq 11, 3) := by decide +kernel
theorem dX4_count_22 : decode cX4_count 22 = .ok (.aload_n 0, 1) := by decide +kernel
theorem dX4_count_23 : decode cX4_count 23 = .ok (.iload_n 1, 1) := by decide +kernel
theorem dX4_count_24 : decode cX4_count 24 = .ok (.invokevirtual 136, 3) := by decide +kernel
theorem dX4_count_27 : decode cX4_count 27 = .ok (.goto 4, 3) := by decide +kernel
theorem dX4_count_30 : decode cX4_count 30 = .ok (.iconst 0, 1) := by decide +kernel
theorem dX4_count_31 : decode cX4_count 31 = .ok (.ireturn, 1) := by decide +kernel
set_option maxRecDepth 20000 in
theorem ggX4_movesFor_X4_fivesFor : GoodIn wsX4_movesFor wsX4_fivesFor := goodIn_r _ [5, 6, 7, 4, 8, 9, 10, 11, 12, 13, 14, 15, 16, 17, 18, 19, 20, 21, 22, 23, 24, 25, 26, 27, 28, 29, 30, 31] (by decide +kernel) (by decide +kernel)
set_option maxRecDepth 20000 in
theorem gX4_movesFor_X4_fivesFor : GoodIn wsX4_movesFor (wsV RX4 48 RX4 yX4_fivesFor wsX4_fivesFor) := goodIn_app (goodIn_of _ (by decide +kernel)) ggX4_movesFor_X4_fivesFor
set_option maxRecDepth 20000 in
theorem ggX4_movesFor_X4_movesTo : GoodIn wsX4_movesFor wsX4_movesTo := goodIn_r _ [20, 13, 14, 15, 4, 16, 21, 22, 23, 24, 25, 26, 27, 28, 29, 30, 31] (by decide +kernel) (by decide +kernel)
set_option maxRecDepth 20000 in
theorem gX4_movesFor_X4_movesTo : GoodIn wsX4_movesFor (wsV RX4 44 RX4 yX4_movesTo wsX4_movesTo) := goodIn_app (goodIn_of _ (by decide +kernel)) ggX4_movesFor_X4_movesTo
theorem dX4_movesFor_0 : decode cX4_movesFor 0 = .ok (.aload_n 0, 1) := by decide +kernel
theorem dX4_movesFor_1 : decode cX4_movesFor 1 = .ok (.iload_n 1, 1) := by decide +kernel
theorem dX4_movesFor_2 : decode cX4_movesFor 2 = .ok (.iload_n 2, 1) := by decide +kernel
theorem dX4_movesFor_3 : decode cX4_movesFor 3 = .ok (.invokevirtual 48, 3) := by decide +kernel
theorem dX4_movesFor_6 : decode cX4_movesFor 6 = .ok (.istore_n 3, 1) := by decide +kernel
theorem dX4_movesFor_7 : decode cX4_movesFor 7 = .ok (.iload_n 3, 1) := by decide +kernel
theorem dX4_movesFor_8 : decode cX4_movesFor 8 = .ok (.iconst (-1), 1) := by decide +kernel
theorem dX4_movesFor_9 : decode cX4_movesFor 9 = .ok (.if_icmp .ne 7, 3) := by decide +kernel
theorem dX4_movesFor_12 : decode cX4_movesFor 12 = .ok (.iconst (-1), 1) := by decide +kernel
theorem dX4_movesFor_13 : decode cX4_movesFor 13 = .ok (.goto 14, 3) := by decide +kernel
theorem dX4_movesFor_16 : decode cX4_movesFor 16 = .ok (.aload_n 0, 1) := by decide +kernel
theorem dX4_movesFor_17 : decode cX4_movesFor 17 = .ok (.iload_n 1, 1) := by decide +kernel
theorem dX4_movesFor_18 : decode cX4_movesFor 18 = .ok (.iload_n 3, 1) := by decide +kernel
theorem dX4_movesFor_19 : decode cX4_movesFor 19 = .ok (.iload_n 2, 1) := by decide +kernel
theorem dX4_movesFor_20 : decode cX4_movesFor 20 = .ok (.iconst 5, 1) := by decide +kernel
theorem dX4_movesFor_21 : decode cX4_movesFor 21 = .ok (.iload_n 3, 1) := by decide +kernel
theorem dX4_movesFor_22 : decode cX4_movesFor 22 = .ok (.imul, 1) := by decide +kernel
theorem dX4_movesFor_23 : decode cX4_movesFor 23 = .ok (.isub, 1) := by decide +kernel
theorem dX4_movesFor_24 : decode cX4_movesFor 24 = .ok (.invokevirtual 44, 3) := by decide +kernel
theorem dX4_movesFor_27 : decode cX4_movesFor 27 = .ok (.ireturn, 1) := by decide +kernel
set_option maxRecDepth 20000 in
theorem ggX4_moves_X4_isRod : GoodIn wsX4_moves wsX4_isRod := goodIn_r _ [4, 5, 6, 3, 7] (by decide +kernel) (by decide +kernel)
set_option maxRecDepth 20000 in
theorem gX4_moves_X4_isRod : GoodIn wsX4_moves (va_wsS RX4 84 yX4_isRod wsX4_isRod) := goodIn_app (goodIn_of _ (by decide +kernel)) ggX4_moves_X4_isRod
set_option maxRecDepth 20000 in
theorem ggX4_moves_X4_in : GoodIn wsX4_moves wsX4_in := goodIn_r _ [7] (by decide +kernel) (by decide +kernel)
set_option maxRecDepth 20000 in
theorem gX4_moves_X4_in : GoodIn wsX4_moves (va_wsS RX4 26 yX4_in wsX4_in) := goodIn_app (goodIn_of _ (by decide +kernel)) ggX4_moves_X4_in
set_option maxRecDepth 20000 in
theorem ggX4_moves_X4_holds : GoodIn wsX4_moves wsX4_holds := goodIn_r _ [11, 12, 36, 37, 38, 39, 40, 41, 42, 43] (by decide +kernel) (by decide +kernel)
set_option maxRecDepth 20000 in
theorem gX4_moves_X4_holds : GoodIn wsX4_moves (wsV RX4 87 RX4 yX4_holds wsX4_holds) := goodIn_app (goodIn_of _ (by decide +kernel)) ggX4_moves_X4_holds
set_option maxRecDepth 20000 in
theorem ggX4_moves_X4_movesFor : GoodIn wsX4_moves wsX4_movesFor := goodIn_r _ [16, 17, 18, 19, 3, 20, 5, 6, 7, 21, 22, 23, 24, 25, 26, 27, 28, 29, 30, 31, 32, 33, 34, 35, 36, 37, 38, 39, 40, 41, 42, 43] (by decide +kernel) (by decide +kernel)
set_option maxRecDepth 20000 in
theorem gX4_moves_X4_movesFor : GoodIn wsX4_moves (wsV RX4 139 RX4 yX4_movesFor wsX4_movesFor) := goodIn_app (goodIn_of _ (by decide +kernel)) ggX4_moves_X4_movesFor
theorem dX4_moves_0 : decode cX4_moves 0 = .ok (.aload_n 0, 1) := by decide +kernel
theorem dX4_moves_1 : decode cX4_moves 1 = .ok (.iload_n 1, 1) := by decide +kernel
theorem dX4_moves_2 : decode cX4_moves 2 = .ok (.invokestatic 84, 3) := by decide +kernel
theorem dX4_moves_5 : decode cX4_moves 5 = .ok (.ifCond .ne 7, 3) := by decide +kernel
theorem dX4_moves_8 : decode cX4_moves 8 = .ok (.iconst 1, 1) := by decide +kernel
theorem dX4_moves_9 : decode cX4_moves 9 = .ok (.goto 18, 3) := by decide +kernel
theorem dX4_moves_12 : decode cX4_moves 12 = .ok (.iload_n 2, 1) := by decide +kernel
theorem dX4_moves_13 : decode cX4_moves 13 = .ok (.iconst 0, 1) := by decide +kernel
theorem dX4_moves_14 : decode cX4_moves 14 = .ok (.bipush 15, 2) := by decide +kernel
theorem dX4_moves_16 : decode cX4_moves 16 = .ok (.invokestatic 26, 3) := by decide +kernel
theorem dX4_moves_19 : decode cX4_moves 19 = .ok (.ifCond .ne 7, 3) := by decide +kernel
theorem dX4_moves_22 : decode cX4_moves 22 = .ok (.iconst 2, 1) := by decide +kernel
theorem dX4_moves_23 : decode cX4_moves 23 = .ok (.goto 4, 3) := by decide +kernel
theorem dX4_moves_26 : decode cX4_moves 26 = .ok (.iconst 0, 1) := by decide +kernel
theorem dX4_moves_27 : decode cX4_moves 27 = .ok (.invokevirtual 87, 3) := by decide +kernel
theorem dX4_moves_30 : decode cX4_moves 30 = .ok (.ifCond .eq 12, 3) := by decide +kernel
theorem dX4_moves_33 : decode cX4_moves 33 = .ok (.aload_n 0, 1) := by decide +kernel
theorem dX4_moves_34 : decode cX4_moves 34 = .ok (.iload_n 1, 1) := by decide +kernel
theorem dX4_moves_35 : decode cX4_moves 35 = .ok (.iload_n 2, 1) := by decide +kernel
theorem dX4_moves_36 : decode cX4_moves 36 = .ok (.invokevirtual 139, 3) := by decide +kernel
theorem dX4_moves_39 : decode cX4_moves 39 = .ok (.goto 4, 3) := by decide +kernel
theorem dX4_moves_42 : decode cX4_moves 42 = .ok (.iconst 0, 1) := by decide +kernel
theorem dX4_moves_43 : decode cX4_moves 43 = .ok (.ireturn, 1) := by decide +kernel
set_option maxRecDepth 20000 in
theorem ggX4_ifAdded_X4_isRod : GoodIn wsX4_ifAdded wsX4_isRod := goodIn_r _ [4, 5, 6, 3, 7] (by decide +kernel) (by decide +kernel)
set_option maxRecDepth 20000 in
theorem gX4_ifAdded_X4_isRod : GoodIn wsX4_ifAdded (va_wsS RX4 84 yX4_isRod wsX4_isRod) := goodIn_app (goodIn_of _ (by decide +kernel)) ggX4_ifAdded_X4_isRod
set_option maxRecDepth 20000 in
theorem ggX4_ifAdded_X4_in : GoodIn wsX4_ifAdded wsX4_in := goodIn_r _ [7] (by decide +kernel) (by decide +kernel)
set_option maxRecDepth 20000 in
theorem gX4_ifAdded_X4_in : GoodIn wsX4_ifAdded (va_wsS RX4 26 yX4_in wsX4_in) := goodIn_app (goodIn_of _ (by decide +kernel)) ggX4_ifAdded_X4_in
set_option maxRecDepth 20000 in
theorem ggX4_ifAdded_X4_holds : GoodIn wsX4_ifAdded wsX4_holds := goodIn_r _ [11, 12, 85, 86, 87, 88, 89, 90, 91, 92] (by decide +kernel) (by decide +kernel)
set_option maxRecDepth 20000 in
theorem gX4_ifAdded_X4_holds : GoodIn wsX4_ifAdded (wsV RX4 87 RX4 yX4_holds wsX4_holds) := goodIn_app (goodIn_of _ (by decide +kernel)) ggX4_ifAdded_X4_holds
set_option maxRecDepth 20000 in
theorem ggX4_ifAdded_X4_takes : GoodIn wsX4_ifAdded wsX4_takes := goodIn_r _ [16, 17, 18, 19, 3, 20, 21, 22, 23, 24, 25, 26, 27, 28, 29, 30, 31, 32, 33, 34, 35, 36, 37, 38, 39, 40, 41, 42, 43, 44, 45, 46, 47, 48, 49, 5, 6, 7, 50, 51, 52, 53, 54, 55, 56, 57, 58, 59, 60, 61, 62, 63, 64, 65, 66, 67, 68, 69, 70, 71, 72, 73, 74, 75, 76, 77, 78, 79, 80, 81, 82, 83, 84, 85, 86, 87, 88, 89, 90, 91, 92] (by decide +kernel) (by decide +kernel)
set_option maxRecDepth 20000 in
theorem gX4_ifAdded_X4_takes : GoodIn wsX4_ifAdded (wsV RX4 103 RX4 yX4_takes wsX4_takes) := goodIn_app (goodIn_of _ (by decide +kernel)) ggX4_ifAdded_X4_takes
theorem dX4_ifAdded_0 : decode cX4_ifAdded 0 = .ok (.aload_n 0, 1) := by decide +kernel
theorem dX4_ifAdded_1 : decode cX4_ifAdded 1 = .ok (.iload_n 1, 1) := by decide +kernel
theorem dX4_ifAdded_2 : decode cX4_ifAdded 2 = .ok (.invokestatic 84, 3) := by decide +kernel
theorem dX4_ifAdded_5 : decode cX4_ifAdded 5 = .ok (.ifCond .ne 7, 3) := by decide +kernel
theorem dX4_ifAdded_8 : decode cX4_ifAdded 8 = .ok (.iconst 1, 1) := by decide +kernel
theorem dX4_ifAdded_9 : decode cX4_ifAdded 9 = .ok (.goto 19, 3) := by decide +kernel
theorem dX4_ifAdded_12 : decode cX4_ifAdded 12 = .ok (.iload_n 2, 1) := by decide +kernel
theorem dX4_ifAdded_13 : decode cX4_ifAdded 13 = .ok (.bipush (-9), 2) := by decide +kernel
theorem dX4_ifAdded_15 : decode cX4_ifAdded 15 = .ok (.bipush 9, 2) := by decide +kernel
theorem dX4_ifAdded_17 : decode cX4_ifAdded 17 = .ok (.invokestatic 26, 3) := by decide +kernel
theorem dX4_ifAdded_20 : decode cX4_ifAdded 20 = .ok (.ifCond .ne 7, 3) := by decide +kernel
theorem dX4_ifAdded_23 : decode cX4_ifAdded 23 = .ok (.iconst 2, 1) := by decide +kernel
theorem dX4_ifAdded_24 : decode cX4_ifAdded 24 = .ok (.goto 4, 3) := by decide +kernel
theorem dX4_ifAdded_27 : decode cX4_ifAdded 27 = .ok (.iconst 0, 1) := by decide +kernel
theorem dX4_ifAdded_28 : decode cX4_ifAdded 28 = .ok (.invokevirtual 87, 3) := by decide +kernel
theorem dX4_ifAdded_31 : decode cX4_ifAdded 31 = .ok (.ifCond .eq 13, 3) := by decide +kernel
theorem dX4_ifAdded_34 : decode cX4_ifAdded 34 = .ok (.aload_n 0, 1) := by decide +kernel
theorem dX4_ifAdded_35 : decode cX4_ifAdded 35 = .ok (.iconst 0, 1) := by decide +kernel
theorem dX4_ifAdded_36 : decode cX4_ifAdded 36 = .ok (.iload_n 1, 1) := by decide +kernel
theorem dX4_ifAdded_37 : decode cX4_ifAdded 37 = .ok (.iload_n 2, 1) := by decide +kernel
theorem dX4_ifAdded_38 : decode cX4_ifAdded 38 = .ok (.invokevirtual 103, 3) := by decide +kernel
theorem dX4_ifAdded_41 : decode cX4_ifAdded 41 = .ok (.goto 4, 3) := by decide +kernel
theorem dX4_ifAdded_44 : decode cX4_ifAdded 44 = .ok (.iconst 0, 1) := by decide +kernel
theorem dX4_ifAdded_45 : decode cX4_ifAdded 45 = .ok (.ireturn, 1) := by decide +kernel
set_option maxRecDepth 20000 in
theorem ggX4_showing_X4_movesFor : GoodIn wsX4_showing wsX4_movesFor := goodIn_r _ [5, 6, 7, 8, 4, 9, 10, 11, 12, 13, 14, 15, 16, 17, 18, 19, 20, 21, 22, 23, 24, 25, 26, 27, 28, 29, 30, 31, 32, 33, 34, 35] (by decide +kernel) (by decide +kernel)
set_option maxRecDepth 20000 in
theorem gX4_showing_X4_movesFor : GoodIn wsX4_showing (wsV RX4 139 RX4 yX4_movesFor wsX4_movesFor) := goodIn_app (goodIn_of _ (by decide +kernel)) ggX4_showing_X4_movesFor
theorem dX4_showing_0 : decode cX4_showing 0 = .ok (.iconst 0, 1) := by decide +kernel
theorem dX4_showing_1 : decode cX4_showing 1 = .ok (.istore_n 2, 1) := by decide +kernel
theorem dX4_showing_2 : decode cX4_showing 2 = .ok (.iload_n 1, 1) := by decide +kernel
theorem dX4_showing_3 : decode cX4_showing 3 = .ok (.istore_n 3, 1) := by decide +kernel
theorem dX4_showing_4 : decode cX4_showing 4 = .ok (.iconst 1, 1) := by decide +kernel
theorem dX4_showing_5 : decode cX4_showing 5 = .ok (.istore 4, 2) := by decide +kernel
theorem dX4_showing_7 : decode cX4_showing 7 = .ok (.iconst 0, 1) := by decide +kernel
theorem dX4_showing_8 : decode cX4_showing 8 = .ok (.istore 5, 2) := by decide +kernel
theorem dX4_showing_10 : decode cX4_showing 10 = .ok (.iload 5, 2) := by decide +kernel
theorem dX4_showing_12 : decode cX4_showing 12 = .ok (.bipush 9, 2) := by decide +kernel
theorem dX4_showing_14 : decode cX4_showing 14 = .ok (.if_icmp .ge 49, 3) := by decide +kernel
theorem dX4_showing_17 : decode cX4_showing 17 = .ok (.aload_n 0, 1) := by decide +kernel
theorem dX4_showing_18 : decode cX4_showing 18 = .ok (.iload 5, 2) := by decide +kernel
theorem dX4_showing_20 : decode cX4_showing 20 = .ok (.iload_n 3, 1) := by decide +kernel
theorem dX4_showing_21 : decode cX4_showing 21 = .ok (.bipush 10, 2) := by decide +kernel
theorem dX4_showing_23 : decode cX4_showing 23 = .ok (.irem, 1) := by decide +kernel
theorem dX4_showing_24 : decode cX4_showing 24 = .ok (.invokevirtual 139, 3) := by decide +kernel
theorem dX4_showing_27 : decode cX4_showing 27 = .ok (.istore 6, 2) := by decide +kernel
theorem dX4_showing_29 : decode cX4_showing 29 = .ok (.iload 4, 2) := by decide +kernel
theorem dX4_showing_31 : decode cX4_showing 31 = .ok (.ifCond .eq 13, 3) := by decide +kernel
theorem dX4_showing_34 : decode cX4_showing 34 = .ok (.iload 6, 2) := by decide +kernel
theorem dX4_showing_36 : decode cX4_showing 36 = .ok (.iconst (-1), 1) := by decide +kernel
theorem dX4_showing_37 : decode cX4_showing 37 = .ok (.if_icmp .eq 7, 3) := by decide +kernel
theorem dX4_showing_40 : decode cX4_showing 40 = .ok (.iconst 1, 1) := by decide +kernel
theorem dX4_showing_41 : decode cX4_showing 41 = .ok (.goto 4, 3) := by decide +kernel
theorem dX4_showing_44 : decode cX4_showing 44 = .ok (.iconst 0, 1) := by decide +kernel
theorem dX4_showing_45 : decode cX4_showing 45 = .ok (.istore 4, 2) := by decide +kernel
theorem dX4_showing_47 : decode cX4_showing 47 = .ok (.iload_n 2, 1) := by decide +kernel
theorem dX4_showing_48 : decode cX4_showing 48 = .ok (.iload 6, 2) := by decide +kernel
theorem dX4_showing_50 : decode cX4_showing 50 = .ok (.iadd, 1) := by decide +kernel
theorem dX4_showing_51 : decode cX4_showing 51 = .ok (.istore_n 2, 1) := by decide +kernel
theorem dX4_showing_52 : decode cX4_showing 52 = .ok (.iload_n 3, 1) := by decide +kernel
theorem dX4_showing_53 : decode cX4_showing 53 = .ok (.bipush 10, 2) := by decide +kernel
theorem dX4_showing_55 : decode cX4_showing 55 = .ok (.idiv, 1) := by decide +kernel
theorem dX4_showing_56 : decode cX4_showing 56 = .ok (.istore_n 3, 1) := by decide +kernel
theorem dX4_showing_57 : decode cX4_showing 57 = .ok (.iinc 5 1, 3) := by decide +kernel
theorem dX4_showing_60 : decode cX4_showing 60 = .ok (.goto (-50), 3) := by decide +kernel
theorem dX4_showing_63 : decode cX4_showing 63 = .ok (.iload 4, 2) := by decide +kernel
theorem dX4_showing_65 : decode cX4_showing 65 = .ok (.ifCond .eq 7, 3) := by decide +kernel
theorem dX4_showing_68 : decode cX4_showing 68 = .ok (.iload_n 2, 1) := by decide +kernel
theorem dX4_showing_69 : decode cX4_showing 69 = .ok (.goto 4, 3) := by decide +kernel
theorem dX4_showing_72 : decode cX4_showing 72 = .ok (.iconst (-1), 1) := by decide +kernel
theorem dX4_showing_73 : decode cX4_showing 73 = .ok (.ireturn, 1) := by decide +kernel
set_option maxRecDepth 20000 in
theorem ggX4_toShow_X4_in : GoodIn wsX4_toShow wsX4_in := goodIn_r _ [5] (by decide +kernel) (by decide +kernel)
set_option maxRecDepth 20000 in
theorem gX4_toShow_X4_in : GoodIn wsX4_toShow (va_wsS RX4 26 yX4_in wsX4_in) := goodIn_app (goodIn_of _ (by decide +kernel)) ggX4_toShow_X4_in
set_option maxRecDepth 20000 in
theorem ggX4_toShow_X4_holds : GoodIn wsX4_toShow wsX4_holds := goodIn_r _ [9, 10, 38, 39, 40, 41, 42, 43, 44, 45] (by decide +kernel) (by decide +kernel)
set_option maxRecDepth 20000 in
theorem gX4_toShow_X4_holds : GoodIn wsX4_toShow (wsV RX4 87 RX4 yX4_holds wsX4_holds) := goodIn_app (goodIn_of _ (by decide +kernel)) ggX4_toShow_X4_holds
set_option maxRecDepth 20000 in
theorem ggX4_toShow_X4_showing : GoodIn wsX4_toShow wsX4_showing := goodIn_r _ [14, 15, 16, 17, 4, 18, 19, 20, 21, 22, 2, 3, 5, 23, 24, 25, 26, 27, 28, 29, 30, 31, 32, 33, 34, 35, 36, 37, 38, 39, 40, 41, 42, 43, 44, 45] (by decide +kernel) (by decide +kernel)
set_option maxRecDepth 20000 in
theorem gX4_toShow_X4_showing : GoodIn wsX4_toShow (wsV RX4 143 RX4 yX4_showing wsX4_showing) := goodIn_app (goodIn_of _ (by decide +kernel)) ggX4_toShow_X4_showing
theorem dX4_toShow_0 : decode cX4_toShow 0 = .ok (.aload_n 0, 1) := by decide +kernel
theorem dX4_toShow_1 : decode cX4_toShow 1 = .ok (.iload_n 1, 1) := by decide +kernel
theorem dX4_toShow_2 : decode cX4_toShow 2 = .ok (.iconst 0, 1) := by decide +kernel
theorem dX4_toShow_3 : decode cX4_toShow 3 = .ok (.ldc 142, 2) := by decide +kernel
theorem dX4_toShow_5 : decode cX4_toShow 5 = .ok (.invokestatic 26, 3) := by decide +kernel
theorem dX4_toShow_8 : decode cX4_toShow 8 = .ok (.ifCond .eq 7, 3) := by decide +kernel
theorem dX4_toShow_11 : decode cX4_toShow 11 = .ok (.iconst 0, 1) := by decide +kernel
theorem dX4_toShow_12 : decode cX4_toShow 12 = .ok (.goto 4, 3) := by decide +kernel
theorem dX4_toShow_15 : decode cX4_toShow 15 = .ok (.iconst 1, 1) := by decide +kernel
theorem dX4_toShow_16 : decode cX4_toShow 16 = .ok (.invokevirtual 87, 3) := by decide +kernel
theorem dX4_toShow_19 : decode cX4_toShow 19 = .ok (.ifCond .eq 11, 3) := by decide +kernel
theorem dX4_toShow_22 : decode cX4_toShow 22 = .ok (.aload_n 0, 1) := by decide +kernel
theorem dX4_toShow_23 : decode cX4_toShow 23 = .ok (.iload_n 1, 1) := by decide +kernel
theorem dX4_toShow_24 : decode cX4_toShow 24 = .ok (.invokevirtual 143, 3) := by decide +kernel
theorem dX4_toShow_27 : decode cX4_toShow 27 = .ok (.goto 4, 3) := by decide +kernel
theorem dX4_toShow_30 : decode cX4_toShow 30 = .ok (.iconst 0, 1) := by decide +kernel
theorem dX4_toShow_31 : decode cX4_toShow 31 = .ok (.ireturn, 1) := by decide +kernel
set_option maxRecDepth 20000 in
theorem ggX4_cheapest_X4_of : GoodIn wsX4_cheapest wsX4_of := goodIn_r _ [5] (by decide +kernel) (by decide +kernel)
set_option maxRecDepth 20000 in
theorem gX4_cheapest_X4_of : GoodIn wsX4_cheapest (va_wsS RX4 33 yX4_of wsX4_of) := goodIn_app (goodIn_of _ (by decide +kernel)) ggX4_cheapest_X4_of
set_option maxRecDepth 20000 in
theorem ggX4_cheapest_X4_takes : GoodIn wsX4_cheapest wsX4_takes := goodIn_r _ [9, 10, 11, 12, 4, 13, 1, 2, 3, 5, 14, 15, 16, 17, 18, 19, 20, 21, 22, 23, 24, 25, 26, 27, 28, 29, 30, 31, 32, 33, 34, 35, 36, 37, 38, 39, 40, 41, 42, 43, 44, 45, 46, 47, 48, 49, 50, 51, 52, 53, 54, 55, 56, 57, 58, 59, 60, 61, 62, 63, 64, 65, 66, 67, 68, 69, 70, 71, 72, 73, 74, 75, 76, 77, 78, 79, 80, 81, 82, 83, 84] (by decide +kernel) (by decide +kernel)
set_option maxRecDepth 20000 in
theorem gX4_cheapest_X4_takes : GoodIn wsX4_cheapest (wsV RX4 103 RX4 yX4_takes wsX4_takes) := goodIn_app (goodIn_of _ (by decide +kernel)) ggX4_cheapest_X4_takes
theorem dX4_cheapest_0 : decode cX4_cheapest 0 = .ok (.iconst (-1), 1) := by decide +kernel
theorem dX4_cheapest_1 : decode cX4_cheapest 1 = .ok (.istore_n 1, 1) := by decide +kernel
theorem dX4_cheapest_2 : decode cX4_cheapest 2 = .ok (.iconst 0, 1) := by decide +kernel
