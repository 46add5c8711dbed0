theorem dX4_cheapest_3 : decode cX4_cheapest 3 = .ok (.istore_n 2, 1) := by decide +kernel
theorem dX4_cheapest_4 : decode cX4_cheapest 4 = .ok (.iconst 0, 1) := by decide +kernel
theorem dX4_cheapest_5 : decode cX4_cheapest 5 = .ok (.istore_n 3, 1) := by decide +kernel
theorem dX4_cheapest_6 : decode cX4_cheapest 6 = .ok (.iload_n 3, 1) := by decide +kernel
theorem dX4_cheapest_7 : decode cX4_cheapest 7 = .ok (.bipush 9, 2) := by decide +kernel
theorem dX4_cheapest_9 : decode cX4_cheapest 9 = .ok (.if_icmp .ge 82, 3) := by decide +kernel
theorem dX4_cheapest_12 : decode cX4_cheapest 12 = .ok (.aload_n 0, 1) := by decide +kernel
theorem dX4_cheapest_13 : decode cX4_cheapest 13 = .ok (.getfield 7, 3) := by decide +kernel
theorem dX4_cheapest_16 : decode cX4_cheapest 16 = .ok (.iload_n 3, 1) := by decide +kernel
theorem dX4_cheapest_17 : decode cX4_cheapest 17 = .ok (.iconst 2, 1) := by decide +kernel
theorem dX4_cheapest_18 : decode cX4_cheapest 18 = .ok (.invokestatic 33, 3) := by decide +kernel
theorem dX4_cheapest_21 : decode cX4_cheapest 21 = .ok (.iaload, 1) := by decide +kernel
theorem dX4_cheapest_22 : decode cX4_cheapest 22 = .ok (.ifCond .ne 7, 3) := by decide +kernel
theorem dX4_cheapest_25 : decode cX4_cheapest 25 = .ok (.iconst (-1), 1) := by decide +kernel
theorem dX4_cheapest_26 : decode cX4_cheapest 26 = .ok (.goto 10, 3) := by decide +kernel
theorem dX4_cheapest_29 : decode cX4_cheapest 29 = .ok (.aload_n 0, 1) := by decide +kernel
theorem dX4_cheapest_30 : decode cX4_cheapest 30 = .ok (.iconst 1, 1) := by decide +kernel
theorem dX4_cheapest_31 : decode cX4_cheapest 31 = .ok (.iload_n 3, 1) := by decide +kernel
theorem dX4_cheapest_32 : decode cX4_cheapest 32 = .ok (.iconst 0, 1) := by decide +kernel
theorem dX4_cheapest_33 : decode cX4_cheapest 33 = .ok (.invokevirtual 103, 3) := by decide +kernel
theorem dX4_cheapest_36 : decode cX4_cheapest 36 = .ok (.istore 4, 2) := by decide +kernel
theorem dX4_cheapest_38 : decode cX4_cheapest 38 = .ok (.iload 4, 2) := by decide +kernel
theorem dX4_cheapest_40 : decode cX4_cheapest 40 = .ok (.iconst (-1), 1) := by decide +kernel
theorem dX4_cheapest_41 : decode cX4_cheapest 41 = .ok (.if_icmp .eq 18, 3) := by decide +kernel
theorem dX4_cheapest_44 : decode cX4_cheapest 44 = .ok (.iload_n 1, 1) := by decide +kernel
theorem dX4_cheapest_45 : decode cX4_cheapest 45 = .ok (.iconst (-1), 1) := by decide +kernel
theorem dX4_cheapest_46 : decode cX4_cheapest 46 = .ok (.if_icmp .eq 9, 3) := by decide +kernel
theorem dX4_cheapest_49 : decode cX4_cheapest 49 = .ok (.iload 4, 2) := by decide +kernel
theorem dX4_cheapest_51 : decode cX4_cheapest 51 = .ok (.iload_n 2, 1) := by decide +kernel
theorem dX4_cheapest_52 : decode cX4_cheapest 52 = .ok (.if_icmp .ge 7, 3) := by decide +kernel
theorem dX4_cheapest_55 : decode cX4_cheapest 55 = .ok (.iconst 1, 1) := by decide +kernel
theorem dX4_cheapest_56 : decode cX4_cheapest 56 = .ok (.goto 4, 3) := by decide +kernel
theorem dX4_cheapest_59 : decode cX4_cheapest 59 = .ok (.iconst 0, 1) := by decide +kernel
theorem dX4_cheapest_60 : decode cX4_cheapest 60 = .ok (.istore 5, 2) := by decide +kernel
theorem dX4_cheapest_62 : decode cX4_cheapest 62 = .ok (.iload 5, 2) := by decide +kernel
theorem dX4_cheapest_64 : decode cX4_cheapest 64 = .ok (.ifCond .eq 7, 3) := by decide +kernel
theorem dX4_cheapest_67 : decode cX4_cheapest 67 = .ok (.iload_n 3, 1) := by decide +kernel
theorem dX4_cheapest_68 : decode cX4_cheapest 68 = .ok (.goto 4, 3) := by decide +kernel
theorem dX4_cheapest_71 : decode cX4_cheapest 71 = .ok (.iload_n 1, 1) := by decide +kernel
theorem dX4_cheapest_72 : decode cX4_cheapest 72 = .ok (.istore_n 1, 1) := by decide +kernel
theorem dX4_cheapest_73 : decode cX4_cheapest 73 = .ok (.iload 5, 2) := by decide +kernel
theorem dX4_cheapest_75 : decode cX4_cheapest 75 = .ok (.ifCond .eq 8, 3) := by decide +kernel
theorem dX4_cheapest_78 : decode cX4_cheapest 78 = .ok (.iload 4, 2) := by decide +kernel
theorem dX4_cheapest_80 : decode cX4_cheapest 80 = .ok (.goto 4, 3) := by decide +kernel
theorem dX4_cheapest_83 : decode cX4_cheapest 83 = .ok (.iload_n 2, 1) := by decide +kernel
theorem dX4_cheapest_84 : decode cX4_cheapest 84 = .ok (.istore_n 2, 1) := by decide +kernel
theorem dX4_cheapest_85 : decode cX4_cheapest 85 = .ok (.iinc 3 1, 3) := by decide +kernel
theorem dX4_cheapest_88 : decode cX4_cheapest 88 = .ok (.goto (-82), 3) := by decide +kernel
theorem dX4_cheapest_91 : decode cX4_cheapest 91 = .ok (.iload_n 1, 1) := by decide +kernel
theorem dX4_cheapest_92 : decode cX4_cheapest 92 = .ok (.ireturn, 1) := by decide +kernel
set_option maxRecDepth 20000 in
theorem ggX4_cheapestLoan_X4_cheapest : GoodIn wsX4_cheapestLoan wsX4_cheapest := goodIn_r _ [6, 7, 8, 9, 5, 10, 11, 12, 13, 14, 15, 16, 17, 18, 19, 20, 21, 22, 23, 24, 25, 26, 27, 28, 29, 30, 31, 32, 33, 34, 35, 36, 37, 38, 39, 40, 41, 42, 43, 44, 45, 46, 47, 48, 49, 50, 51, 52, 53, 54, 55, 56, 57, 58, 59, 60, 61, 62, 63, 64, 65, 66, 67, 68, 69, 70, 71, 72, 73, 74, 75, 76, 77, 78, 79, 80, 81, 82, 83, 84, 85, 86, 87, 88, 89] (by decide +kernel) (by decide +kernel)
set_option maxRecDepth 20000 in
theorem gX4_cheapestLoan_X4_cheapest : GoodIn wsX4_cheapestLoan (wsV RX4 146 RX4 yX4_cheapest wsX4_cheapest) := goodIn_app (goodIn_of _ (by decide +kernel)) ggX4_cheapestLoan_X4_cheapest
theorem dX4_cheapestLoan_0 : decode cX4_cheapestLoan 0 = .ok (.aload_n 0, 1) := by decide +kernel
theorem dX4_cheapestLoan_1 : decode cX4_cheapestLoan 1 = .ok (.iconst 0, 1) := by decide +kernel
theorem dX4_cheapestLoan_2 : decode cX4_cheapestLoan 2 = .ok (.putfield 22, 3) := by decide +kernel
theorem dX4_cheapestLoan_5 : decode cX4_cheapestLoan 5 = .ok (.aload_n 0, 1) := by decide +kernel
theorem dX4_cheapestLoan_6 : decode cX4_cheapestLoan 6 = .ok (.invokevirtual 146, 3) := by decide +kernel
theorem dX4_cheapestLoan_9 : decode cX4_cheapestLoan 9 = .ok (.ireturn, 1) := by decide +kernel
set_option maxRecDepth 20000 in
theorem ggX4_loose_X4_numbers : GoodIn wsX4_loose wsX4_numbers := goodIn_r _ [6, 7, 8, 9, 5, 10, 11, 12, 13, 14, 15, 16, 17, 18, 19, 20, 21, 22, 23, 24, 25, 26, 27, 28, 29, 30, 31, 32, 33, 34, 35, 36, 37, 38, 39, 40] (by decide +kernel) (by decide +kernel)
set_option maxRecDepth 20000 in
theorem gX4_loose_X4_numbers : GoodIn wsX4_loose (wsV RX4 121 RX4 yX4_numbers wsX4_numbers) := goodIn_app (goodIn_of _ (by decide +kernel)) ggX4_loose_X4_numbers
theorem dX4_loose_0 : decode cX4_loose 0 = .ok (.iconst 0, 1) := by decide +kernel
theorem dX4_loose_1 : decode cX4_loose 1 = .ok (.istore_n 1, 1) := by decide +kernel
theorem dX4_loose_2 : decode cX4_loose 2 = .ok (.iconst 0, 1) := by decide +kernel
theorem dX4_loose_3 : decode cX4_loose 3 = .ok (.istore_n 2, 1) := by decide +kernel
theorem dX4_loose_4 : decode cX4_loose 4 = .ok (.iload_n 2, 1) := by decide +kernel
theorem dX4_loose_5 : decode cX4_loose 5 = .ok (.bipush 9, 2) := by decide +kernel
theorem dX4_loose_7 : decode cX4_loose 7 = .ok (.if_icmp .ge 17, 3) := by decide +kernel
theorem dX4_loose_10 : decode cX4_loose 10 = .ok (.iload_n 1, 1) := by decide +kernel
theorem dX4_loose_11 : decode cX4_loose 11 = .ok (.aload_n 0, 1) := by decide +kernel
theorem dX4_loose_12 : decode cX4_loose 12 = .ok (.iload_n 2, 1) := by decide +kernel
theorem dX4_loose_13 : decode cX4_loose 13 = .ok (.invokevirtual 121, 3) := by decide +kernel
theorem dX4_loose_16 : decode cX4_loose 16 = .ok (.iadd, 1) := by decide +kernel
theorem dX4_loose_17 : decode cX4_loose 17 = .ok (.istore_n 1, 1) := by decide +kernel
theorem dX4_loose_18 : decode cX4_loose 18 = .ok (.iinc 2 1, 3) := by decide +kernel
theorem dX4_loose_21 : decode cX4_loose 21 = .ok (.goto (-17), 3) := by decide +kernel
theorem dX4_loose_24 : decode cX4_loose 24 = .ok (.iload_n 1, 1) := by decide +kernel
theorem dX4_loose_25 : decode cX4_loose 25 = .ok (.i2d, 1) := by decide +kernel
theorem dX4_loose_26 : decode cX4_loose 26 = .ok (.ldc2_w 149, 3) := by decide +kernel
theorem dX4_loose_29 : decode cX4_loose 29 = .ok (.ddiv, 1) := by decide +kernel
theorem dX4_loose_30 : decode cX4_loose 30 = .ok (.dreturn, 1) := by decide +kernel
set_option maxRecDepth 20000 in
theorem ggX4_looseness_X4_loose : GoodIn wsX4_looseness wsX4_loose := goodIn_r _ [6, 7, 8, 9, 10, 5, 11, 12, 13, 14, 15, 16, 17, 18, 19, 20, 21, 22, 23, 24, 25, 26, 27, 28, 29, 30, 31, 32, 33, 34, 35, 36, 37, 38, 39, 40, 41, 42, 43, 44, 45] (by decide +kernel) (by decide +kernel)
set_option maxRecDepth 20000 in
theorem gX4_looseness_X4_loose : GoodIn wsX4_looseness (wsV RX4 151 RX4 yX4_loose wsX4_loose) := goodIn_app (goodIn_of _ (by decide +kernel)) ggX4_looseness_X4_loose
theorem dX4_looseness_0 : decode cX4_looseness 0 = .ok (.aload_n 0, 1) := by decide +kernel
theorem dX4_looseness_1 : decode cX4_looseness 1 = .ok (.iconst 0, 1) := by decide +kernel
theorem dX4_looseness_2 : decode cX4_looseness 2 = .ok (.putfield 22, 3) := by decide +kernel
theorem dX4_looseness_5 : decode cX4_looseness 5 = .ok (.aload_n 0, 1) := by decide +kernel
theorem dX4_looseness_6 : decode cX4_looseness 6 = .ok (.invokevirtual 151, 3) := by decide +kernel
theorem dX4_looseness_9 : decode cX4_looseness 9 = .ok (.dreturn, 1) := by decide +kernel
theorem dX4_bitsOf_0 : decode cX4_bitsOf 0 = .ok (.dload_n 0, 1) := by decide +kernel
theorem dX4_bitsOf_1 : decode cX4_bitsOf 1 = .ok (.dconst 0, 1) := by decide +kernel
theorem dX4_bitsOf_2 : decode cX4_bitsOf 2 = .ok (.dcmp .l, 1) := by decide +kernel
theorem dX4_bitsOf_3 : decode cX4_bitsOf 3 = .ok (.ifCond .ne 5, 3) := by decide +kernel
theorem dX4_bitsOf_6 : decode cX4_bitsOf 6 = .ok (.lconst 0, 1) := by decide +kernel
theorem dX4_bitsOf_7 : decode cX4_bitsOf 7 = .ok (.lreturn, 1) := by decide +kernel
theorem dX4_bitsOf_8 : decode cX4_bitsOf 8 = .ok (.ldc2_w 155, 3) := by decide +kernel
theorem dX4_bitsOf_11 : decode cX4_bitsOf 11 = .ok (.lstore_n 2, 1) := by decide +kernel
theorem dX4_bitsOf_12 : decode cX4_bitsOf 12 = .ok (.dload_n 0, 1) := by decide +kernel
theorem dX4_bitsOf_13 : decode cX4_bitsOf 13 = .ok (.dstore 4, 2) := by decide +kernel
theorem dX4_bitsOf_15 : decode cX4_bitsOf 15 = .ok (.dload 4, 2) := by decide +kernel
theorem dX4_bitsOf_17 : decode cX4_bitsOf 17 = .ok (.dconst 1, 1) := by decide +kernel
theorem dX4_bitsOf_18 : decode cX4_bitsOf 18 = .ok (.dcmp .g, 1) := by decide +kernel
theorem dX4_bitsOf_19 : decode cX4_bitsOf 19 = .ok (.ifCond .ge 18, 3) := by decide +kernel
theorem dX4_bitsOf_22 : decode cX4_bitsOf 22 = .ok (.dload 4, 2) := by decide +kernel
theorem dX4_bitsOf_24 : decode cX4_bitsOf 24 = .ok (.ldc2_w 157, 3) := by decide +kernel
theorem dX4_bitsOf_27 : decode cX4_bitsOf 27 = .ok (.dmul, 1) := by decide +kernel
theorem dX4_bitsOf_28 : decode cX4_bitsOf 28 = .ok (.dstore 4, 2) := by decide +kernel
theorem dX4_bitsOf_30 : decode cX4_bitsOf 30 = .ok (.lload_n 2, 1) := by decide +kernel
theorem dX4_bitsOf_31 : decode cX4_bitsOf 31 = .ok (.lconst 1, 1) := by decide +kernel
theorem dX4_bitsOf_32 : decode cX4_bitsOf 32 = .ok (.lsub, 1) := by decide +kernel
theorem dX4_bitsOf_33 : decode cX4_bitsOf 33 = .ok (.lstore_n 2, 1) := by decide +kernel
theorem dX4_bitsOf_34 : decode cX4_bitsOf 34 = .ok (.goto (-19), 3) := by decide +kernel
theorem dX4_bitsOf_37 : decode cX4_bitsOf 37 = .ok (.lload_n 2, 1) := by decide +kernel
theorem dX4_bitsOf_38 : decode cX4_bitsOf 38 = .ok (.ldc2_w 159, 3) := by decide +kernel
theorem dX4_bitsOf_41 : decode cX4_bitsOf 41 = .ok (.lmul, 1) := by decide +kernel
theorem dX4_bitsOf_42 : decode cX4_bitsOf 42 = .ok (.dload 4, 2) := by decide +kernel
theorem dX4_bitsOf_44 : decode cX4_bitsOf 44 = .ok (.dconst 1, 1) := by decide +kernel
theorem dX4_bitsOf_45 : decode cX4_bitsOf 45 = .ok (.dsub, 1) := by decide +kernel
theorem dX4_bitsOf_46 : decode cX4_bitsOf 46 = .ok (.ldc2_w 161, 3) := by decide +kernel
theorem dX4_bitsOf_49 : decode cX4_bitsOf 49 = .ok (.dmul, 1) := by decide +kernel
theorem dX4_bitsOf_50 : decode cX4_bitsOf 50 = .ok (.d2l, 1) := by decide +kernel
theorem dX4_bitsOf_51 : decode cX4_bitsOf 51 = .ok (.ladd, 1) := by decide +kernel
theorem dX4_bitsOf_52 : decode cX4_bitsOf 52 = .ok (.lreturn, 1) := by decide +kernel
theorem dX4_digestOne_0 : decode cX4_digestOne 0 = .ok (.aload_n 0, 1) := by decide +kernel
theorem dX4_digestOne_1 : decode cX4_digestOne 1 = .ok (.ldc2_w 163, 3) := by decide +kernel
theorem dX4_digestOne_4 : decode cX4_digestOne 4 = .ok (.aload_n 0, 1) := by decide +kernel
theorem dX4_digestOne_5 : decode cX4_digestOne 5 = .ok (.getfield 165, 3) := by decide +kernel
theorem dX4_digestOne_8 : decode cX4_digestOne 8 = .ok (.lmul, 1) := by decide +kernel
theorem dX4_digestOne_9 : decode cX4_digestOne 9 = .ok (.lload_n 1, 1) := by decide +kernel
theorem dX4_digestOne_10 : decode cX4_digestOne 10 = .ok (.ladd, 1) := by decide +kernel
theorem dX4_digestOne_11 : decode cX4_digestOne 11 = .ok (.putfield 165, 3) := by decide +kernel
theorem dX4_digestOne_14 : decode cX4_digestOne 14 = .ok (.return_, 1) := by decide +kernel
set_option maxRecDepth 20000 in
theorem ggX4_digestRod_X4_told : GoodIn wsX4_digestRod wsX4_told := goodIn_r _ [5, 6, 7, 8, 4, 9, 10, 11, 12, 13, 14, 15, 16, 17, 18, 19, 20, 21, 22, 23, 24, 25, 26, 27, 28, 29, 30, 31, 32, 33, 34, 35, 36, 37, 38, 39, 95, 96, 97, 98, 99, 100, 101, 102] (by decide +kernel) (by decide +kernel)
set_option maxRecDepth 20000 in
theorem gX4_digestRod_X4_told : GoodIn wsX4_digestRod (wsV RX4 124 RX4 yX4_told wsX4_told) := goodIn_app (goodIn_of _ (by decide +kernel)) ggX4_digestRod_X4_told
set_option maxRecDepth 20000 in
theorem ggX4_digestRod_X4_digestOne : GoodIn wsX4_digestRod wsX4_digestOne := goodIn_r _ [43, 44, 45, 95, 96, 97, 98, 99, 100, 101, 102] (by decide +kernel) (by decide +kernel)
set_option maxRecDepth 20000 in
theorem gX4_digestRod_X4_digestOne : GoodIn wsX4_digestRod (wsV RX4 169 RX4 yX4_digestOne wsX4_digestOne) := goodIn_app (goodIn_of _ (by decide +kernel)) ggX4_digestRod_X4_digestOne
set_option maxRecDepth 20000 in
theorem ggX4_digestRod_X4_movesFor : GoodIn wsX4_digestRod wsX4_movesFor := goodIn_r _ [49, 22, 23, 24, 4, 25, 26, 27, 28, 29, 30, 31, 32, 6, 7, 8, 9, 33, 34, 35, 36, 37, 38, 39, 95, 96, 97, 98, 99, 100, 101, 102] (by decide +kernel) (by decide +kernel)
set_option maxRecDepth 20000 in
theorem gX4_digestRod_X4_movesFor : GoodIn wsX4_digestRod (wsV RX4 139 RX4 yX4_movesFor wsX4_movesFor) := goodIn_app (goodIn_of _ (by decide +kernel)) ggX4_digestRod_X4_movesFor
set_option maxRecDepth 20000 in
theorem ggX4_digestRod_X4_takes : GoodIn wsX4_digestRod wsX4_takes := goodIn_r _ [53, 54, 55, 56, 4, 57, 6, 7, 8, 9, 58, 59, 60, 61, 62, 63, 64, 65, 66, 67, 68, 69, 70, 10, 11, 12, 13, 18, 19, 20, 21, 22, 23, 24, 25, 26, 27, 28, 29, 30, 31, 32, 33, 34, 35, 36, 37, 38, 39, 71, 72, 73, 74, 75, 76, 77, 78, 79, 80, 81, 82, 83, 84, 85, 86, 87, 88, 89, 90, 91, 92, 93, 94, 95, 96, 97, 98, 99, 100, 101, 102] (by decide +kernel) (by decide +kernel)
set_option maxRecDepth 20000 in
theorem gX4_digestRod_X4_takes : GoodIn wsX4_digestRod (wsV RX4 103 RX4 yX4_takes wsX4_takes) := goodIn_app (goodIn_of _ (by decide +kernel)) ggX4_digestRod_X4_takes
theorem dX4_digestRod_0 : decode cX4_digestRod 0 = .ok (.iconst 0, 1) := by decide +kernel
theorem dX4_digestRod_1 : decode cX4_digestRod 1 = .ok (.istore_n 2, 1) := by decide +kernel
theorem dX4_digestRod_2 : decode cX4_digestRod 2 = .ok (.iload_n 2, 1) := by decide +kernel
theorem dX4_digestRod_3 : decode cX4_digestRod 3 = .ok (.bipush 8, 2) := by decide +kernel
theorem dX4_digestRod_5 : decode cX4_digestRod 5 = .ok (.if_icmp .ge 20, 3) := by decide +kernel
theorem dX4_digestRod_8 : decode cX4_digestRod 8 = .ok (.aload_n 0, 1) := by decide +kernel
theorem dX4_digestRod_9 : decode cX4_digestRod 9 = .ok (.aload_n 0, 1) := by decide +kernel
theorem dX4_digestRod_10 : decode cX4_digestRod 10 = .ok (.iload_n 1, 1) := by decide +kernel
theorem dX4_digestRod_11 : decode cX4_digestRod 11 = .ok (.iload_n 2, 1) := by decide +kernel
theorem dX4_digestRod_12 : decode cX4_digestRod 12 = .ok (.invokevirtual 124, 3) := by decide +kernel
theorem dX4_digestRod_15 : decode cX4_digestRod 15 = .ok (.i2l, 1) := by decide +kernel
theorem dX4_digestRod_16 : decode cX4_digestRod 16 = .ok (.invokevirtual 169, 3) := by decide +kernel
theorem dX4_digestRod_19 : decode cX4_digestRod 19 = .ok (.iinc 2 1, 3) := by decide +kernel
theorem dX4_digestRod_22 : decode cX4_digestRod 22 = .ok (.goto (-20), 3) := by decide +kernel
theorem dX4_digestRod_25 : decode cX4_digestRod 25 = .ok (.aload_n 0, 1) := by decide +kernel
theorem dX4_digestRod_26 : decode cX4_digestRod 26 = .ok (.aload_n 0, 1) := by decide +kernel
theorem dX4_digestRod_27 : decode cX4_digestRod 27 = .ok (.iload_n 1, 1) := by decide +kernel
theorem dX4_digestRod_28 : decode cX4_digestRod 28 = .ok (.iconst 0, 1) := by decide +kernel
theorem dX4_digestRod_29 : decode cX4_digestRod 29 = .ok (.invokevirtual 139, 3) := by decide +kernel
theorem dX4_digestRod_32 : decode cX4_digestRod 32 = .ok (.i2l, 1) := by decide +kernel
theorem dX4_digestRod_33 : decode cX4_digestRod 33 = .ok (.invokevirtual 169, 3) := by decide +kernel
theorem dX4_digestRod_36 : decode cX4_digestRod 36 = .ok (.aload_n 0, 1) := by decide +kernel
theorem dX4_digestRod_37 : decode cX4_digestRod 37 = .ok (.aload_n 0, 1) := by decide +kernel
theorem dX4_digestRod_38 : decode cX4_digestRod 38 = .ok (.iload_n 1, 1) := by decide +kernel
theorem dX4_digestRod_39 : decode cX4_digestRod 39 = .ok (.bipush 7, 2) := by decide +kernel
theorem dX4_digestRod_41 : decode cX4_digestRod 41 = .ok (.invokevirtual 139, 3) := by decide +kernel
theorem dX4_digestRod_44 : decode cX4_digestRod 44 = .ok (.i2l, 1) := by decide +kernel
theorem dX4_digestRod_45 : decode cX4_digestRod 45 = .ok (.invokevirtual 169, 3) := by decide +kernel
theorem dX4_digestRod_48 : decode cX4_digestRod 48 = .ok (.aload_n 0, 1) := by decide +kernel
theorem dX4_digestRod_49 : decode cX4_digestRod 49 = .ok (.aload_n 0, 1) := by decide +kernel
theorem dX4_digestRod_50 : decode cX4_digestRod 50 = .ok (.iload_n 1, 1) := by decide +kernel
theorem dX4_digestRod_51 : decode cX4_digestRod 51 = .ok (.bipush 15, 2) := by decide +kernel
theorem dX4_digestRod_53 : decode cX4_digestRod 53 = .ok (.invokevirtual 139, 3) := by decide +kernel
theorem dX4_digestRod_56 : decode cX4_digestRod 56 = .ok (.i2l, 1) := by decide +kernel
theorem dX4_digestRod_57 : decode cX4_digestRod 57 = .ok (.invokevirtual 169, 3) := by decide +kernel
theorem dX4_digestRod_60 : decode cX4_digestRod 60 = .ok (.aload_n 0, 1) := by decide +kernel
theorem dX4_digestRod_61 : decode cX4_digestRod 61 = .ok (.aload_n 0, 1) := by decide +kernel
theorem dX4_digestRod_62 : decode cX4_digestRod 62 = .ok (.iconst 0, 1) := by decide +kernel
theorem dX4_digestRod_63 : decode cX4_digestRod 63 = .ok (.iload_n 1, 1) := by decide +kernel
theorem dX4_digestRod_64 : decode cX4_digestRod 64 = .ok (.iconst 1, 1) := by decide +kernel
theorem dX4_digestRod_65 : decode cX4_digestRod 65 = .ok (.invokevirtual 103, 3) := by decide +kernel
theorem dX4_digestRod_68 : decode cX4_digestRod 68 = .ok (.i2l, 1) := by decide +kernel
theorem dX4_digestRod_69 : decode cX4_digestRod 69 = .ok (.invokevirtual 169, 3) := by decide +kernel
theorem dX4_digestRod_72 : decode cX4_digestRod 72 = .ok (.aload_n 0, 1) := by decide +kernel
theorem dX4_digestRod_73 : decode cX4_digestRod 73 = .ok (.aload_n 0, 1) := by decide +kernel
theorem dX4_digestRod_74 : decode cX4_digestRod 74 = .ok (.iconst 0, 1) := by decide +kernel
theorem dX4_digestRod_75 : decode cX4_digestRod 75 = .ok (.iload_n 1, 1) := by decide +kernel
theorem dX4_digestRod_76 : decode cX4_digestRod 76 = .ok (.bipush 6, 2) := by decide +kernel
theorem dX4_digestRod_78 : decode cX4_digestRod 78 = .ok (.invokevirtual 103, 3) := by decide +kernel
theorem dX4_digestRod_81 : decode cX4_digestRod 81 = .ok (.i2l, 1) := by decide +kernel
theorem dX4_digestRod_82 : decode cX4_digestRod 82 = .ok (.invokevirtual 169, 3) := by decide +kernel
theorem dX4_digestRod_85 : decode cX4_digestRod 85 = .ok (.aload_n 0, 1) := by decide +kernel
theorem dX4_digestRod_86 : decode cX4_digestRod 86 = .ok (.aload_n 0, 1) := by decide +kernel
theorem dX4_digestRod_87 : decode cX4_digestRod 87 = .ok (.iconst 0, 1) := by decide +kernel
theorem dX4_digestRod_88 : decode cX4_digestRod 88 = .ok (.iload_n 1, 1) := by decide +kernel
theorem dX4_digestRod_89 : decode cX4_digestRod 89 = .ok (.iconst (-1), 1) := by decide +kernel
theorem dX4_digestRod_90 : decode cX4_digestRod 90 = .ok (.invokevirtual 103, 3) := by decide +kernel
theorem dX4_digestRod_93 : decode cX4_digestRod 93 = .ok (.i2l, 1) := by decide +kernel
theorem dX4_digestRod_94 : decode cX4_digestRod 94 = .ok (.invokevirtual 169, 3) := by decide +kernel
theorem dX4_digestRod_97 : decode cX4_digestRod 97 = .ok (.aload_n 0, 1) := by decide +kernel
theorem dX4_digestRod_98 : decode cX4_digestRod 98 = .ok (.aload_n 0, 1) := by decide +kernel
theorem dX4_digestRod_99 : decode cX4_digestRod 99 = .ok (.iconst 0, 1) := by decide +kernel
theorem dX4_digestRod_100 : decode cX4_digestRod 100 = .ok (.iload_n 1, 1) := by decide +kernel
theorem dX4_digestRod_101 : decode cX4_digestRod 101 = .ok (.bipush (-6), 2) := by decide +kernel
theorem dX4_digestRod_103 : decode cX4_digestRod 103 = .ok (.invokevirtual 103, 3) := by decide +kernel
theorem dX4_digestRod_106 : decode cX4_digestRod 106 = .ok (.i2l, 1) := by decide +kernel
theorem dX4_digestRod_107 : decode cX4_digestRod 107 = .ok (.invokevirtual 169, 3) := by decide +kernel
theorem dX4_digestRod_110 : decode cX4_digestRod 110 = .ok (.return_, 1) := by decide +kernel
set_option maxRecDepth 20000 in
theorem ggX4_digest_X4_counted : GoodIn wsX4_digest wsX4_counted := goodIn_r _ [11, 12, 13, 14, 15, 16, 10, 17, 18, 19, 20, 21, 22, 23, 24, 25, 26, 27, 28, 138, 139, 140, 141, 142, 143, 144, 145] (by decide +kernel) (by decide +kernel)
set_option maxRecDepth 20000 in
theorem gX4_digest_X4_counted : GoodIn wsX4_digest (wsV RX4 136 RX4 yX4_counted wsX4_counted) := goodIn_app (goodIn_of _ (by decide +kernel)) ggX4_digest_X4_counted
set_option maxRecDepth 20000 in
theorem ggX4_digest_X4_digestOne : GoodIn wsX4_digest wsX4_digestOne := goodIn_r _ [32, 33, 3, 138, 139, 140, 141, 142, 143, 144, 145] (by decide +kernel) (by decide +kernel)
set_option maxRecDepth 20000 in
theorem gX4_digest_X4_digestOne : GoodIn wsX4_digest (wsV RX4 169 RX4 yX4_digestOne wsX4_digestOne) := goodIn_app (goodIn_of _ (by decide +kernel)) ggX4_digest_X4_digestOne
set_option maxRecDepth 20000 in
theorem ggX4_digest_X4_all : GoodIn wsX4_digest wsX4_all := goodIn_r _ [37, 38, 12, 25, 26, 27, 10, 28, 18, 19, 20, 138, 139, 140, 141, 142, 143, 144, 145] (by decide +kernel) (by decide +kernel)
set_option maxRecDepth 20000 in
theorem gX4_digest_X4_all : GoodIn wsX4_digest (wsV RX4 129 RX4 yX4_all wsX4_all) := goodIn_app (goodIn_of _ (by decide +kernel)) ggX4_digest_X4_all
set_option maxRecDepth 20000 in
theorem ggX4_digest_X4_digestRod : GoodIn wsX4_digest wsX4_digestRod := goodIn_r _ [42, 43, 44, 45, 10, 46, 12, 18, 19, 20, 25, 26, 27, 28, 47, 48, 49, 50, 51, 52, 53, 54, 55, 56, 57, 58, 59, 60, 61, 62, 63, 64, 65, 66, 67, 68, 69, 70, 71, 72, 29, 30, 31, 32, 33, 3, 73, 74, 75, 76, 77, 78, 79, 80, 14, 15, 16, 17, 81, 82, 83, 84, 85, 86, 87, 88, 89, 90, 91, 92, 93, 94, 95, 96, 97, 98, 99, 100, 101, 102, 103, 104, 105, 106, 107, 108, 109, 110, 111, 112, 113, 114, 115, 116, 117, 138, 139, 140, 141, 142, 143, 144, 145] (by decide +kernel) (by decide +kernel)
set_option maxRecDepth 20000 in
theorem gX4_digest_X4_digestRod : GoodIn wsX4_digest (wsV RX4 175 RX4 yX4_digestRod wsX4_digestRod) := goodIn_app (goodIn_of _ (by decide +kernel)) ggX4_digest_X4_digestRod
set_option maxRecDepth 20000 in
theorem ggX4_digest_X4_showing : GoodIn wsX4_digest wsX4_showing := goodIn_r _ [121, 73, 74, 75, 10, 76, 55, 56, 57, 58, 59, 60, 61, 62, 63, 64, 65, 12, 18, 19, 20, 66, 67, 68, 69, 70, 71, 72, 138, 139, 140, 141, 142, 143, 144, 145] (by decide +kernel) (by decide +kernel)
set_option maxRecDepth 20000 in
theorem gX4_digest_X4_showing : GoodIn wsX4_digest (wsV RX4 143 RX4 yX4_showing wsX4_showing) := goodIn_app (goodIn_of _ (by decide +kernel)) ggX4_digest_X4_showing
set_option maxRecDepth 20000 in
theorem ggX4_digest_X4_cheapest : GoodIn wsX4_digest wsX4_cheapest := goodIn_r _ [125, 12, 18, 19, 10, 20, 77, 78, 79, 80, 14, 15, 16, 17, 81, 82, 83, 84, 85, 86, 87, 88, 89, 90, 91, 92, 93, 25, 26, 27, 28, 51, 52, 53, 54, 55, 56, 57, 58, 59, 60, 61, 62, 63, 64, 65, 66, 67, 68, 69, 70, 71, 72, 94, 95, 96, 97, 98, 99, 100, 101, 102, 103, 104, 105, 106, 107, 108, 109, 110, 111, 112, 113, 114, 115, 116, 117, 138, 139, 140, 141, 142, 143, 144, 145] (by decide +kernel) (by decide +kernel)
set_option maxRecDepth 20000 in
theorem gX4_digest_X4_cheapest : GoodIn wsX4_digest (wsV RX4 146 RX4 yX4_cheapest wsX4_cheapest) := goodIn_app (goodIn_of _ (by decide +kernel)) ggX4_digest_X4_cheapest
set_option maxRecDepth 20000 in
theorem ggX4_digest_X4_loose : GoodIn wsX4_digest wsX4_loose := goodIn_r _ [129, 130, 47, 48, 49, 10, 50, 51, 52, 53, 54, 55, 56, 57, 58, 59, 60, 61, 62, 63, 64, 65, 12, 18, 19, 20, 66, 67, 68, 69, 70, 71, 72, 138, 139, 140, 141, 142, 143, 144, 145] (by decide +kernel) (by decide +kernel)
set_option maxRecDepth 20000 in
theorem gX4_digest_X4_loose : GoodIn wsX4_digest (wsV RX4 151 RX4 yX4_loose wsX4_loose) := goodIn_app (goodIn_of _ (by decide +kernel)) ggX4_digest_X4_loose
set_option maxRecDepth 20000 in
theorem ggX4_digest_X4_bitsOf : GoodIn wsX4_digest wsX4_bitsOf := goodIn_r _ [133, 134, 135, 136, 137] (by decide +kernel) (by decide +kernel)
set_option maxRecDepth 20000 in
theorem gX4_digest_X4_bitsOf : GoodIn wsX4_digest (va_wsS RX4 180 yX4_bitsOf wsX4_bitsOf) := goodIn_app (goodIn_of _ (by decide +kernel)) ggX4_digest_X4_bitsOf
theorem dX4_digest_0 : decode cX4_digest 0 = .ok (.aload_n 0, 1) := by decide +kernel
theorem dX4_digest_1 : decode cX4_digest 1 = .ok (.iconst 0, 1) := by decide +kernel
theorem dX4_digest_2 : decode cX4_digest 2 = .ok (.putfield 22, 3) := by decide +kernel
theorem dX4_digest_5 : decode cX4_digest 5 = .ok (.aload_n 0, 1) := by decide +kernel
theorem dX4_digest_6 : decode cX4_digest 6 = .ok (.ldc2_w 173, 3) := by decide +kernel
theorem dX4_digest_9 : decode cX4_digest 9 = .ok (.putfield 165, 3) := by decide +kernel
theorem dX4_digest_12 : decode cX4_digest 12 = .ok (.iconst 0, 1) := by decide +kernel
theorem dX4_digest_13 : decode cX4_digest 13 = .ok (.istore_n 1, 1) := by decide +kernel
theorem dX4_digest_14 : decode cX4_digest 14 = .ok (.iload_n 1, 1) := by decide +kernel
theorem dX4_digest_15 : decode cX4_digest 15 = .ok (.bipush 8, 2) := by decide +kernel
theorem dX4_digest_17 : decode cX4_digest 17 = .ok (.if_icmp .ge 19, 3) := by decide +kernel
theorem dX4_digest_20 : decode cX4_digest 20 = .ok (.aload_n 0, 1) := by decide +kernel
theorem dX4_digest_21 : decode cX4_digest 21 = .ok (.aload_n 0, 1) := by decide +kernel
theorem dX4_digest_22 : decode cX4_digest 22 = .ok (.iload_n 1, 1) := by decide +kernel
theorem dX4_digest_23 : decode cX4_digest 23 = .ok (.invokevirtual 136, 3) := by decide +kernel
theorem dX4_digest_26 : decode cX4_digest 26 = .ok (.i2l, 1) := by decide +kernel
theorem dX4_digest_27 : decode cX4_digest 27 = .ok (.invokevirtual 169, 3) := by decide +kernel
theorem dX4_digest_30 : decode cX4_digest 30 = .ok (.iinc 1 1, 3) := by decide +kernel
theorem dX4_digest_33 : decode cX4_digest 33 = .ok (.goto (-19), 3) := by decide +kernel
theorem dX4_digest_36 : decode cX4_digest 36 = .ok (.aload_n 0, 1) := by decide +kernel
theorem dX4_digest_37 : decode cX4_digest 37 = .ok (.aload_n 0, 1) := by decide +kernel
theorem dX4_digest_38 : decode cX4_digest 38 = .ok (.invokevirtual 129, 3) := by decide +kernel
theorem dX4_digest_41 : decode cX4_digest 41 = .ok (.invokevirtual 169, 3) := by decide +kernel
theorem dX4_digest_44 : decode cX4_digest 44 = .ok (.iconst 0, 1) := by decide +kernel
theorem dX4_digest_45 : decode cX4_digest 45 = .ok (.istore_n 1, 1) := by decide +kernel
theorem dX4_digest_46 : decode cX4_digest 46 = .ok (.iload_n 1, 1) := by decide +kernel
theorem dX4_digest_47 : decode cX4_digest 47 = .ok (.bipush 9, 2) := by decide +kernel
theorem dX4_digest_49 : decode cX4_digest 49 = .ok (.if_icmp .ge 14, 3) := by decide +kernel
theorem dX4_digest_52 : decode cX4_digest 52 = .ok (.aload_n 0, 1) := by decide +kernel
theorem dX4_digest_53 : decode cX4_digest 53 = .ok (.iload_n 1, 1) := by decide +kernel
theorem dX4_digest_54 : decode cX4_digest 54 = .ok (.invokevirtual 175, 3) := by decide +kernel
theorem dX4_digest_57 : decode cX4_digest 57 = .ok (.iinc 1 1, 3) := by decide +kernel
theorem dX4_digest_60 : decode cX4_digest 60 = .ok (.goto (-14), 3) := by decide +kernel
theorem dX4_digest_63 : decode cX4_digest 63 = .ok (.aload_n 0, 1) := by decide +kernel
theorem dX4_digest_64 : decode cX4_digest 64 = .ok (.aload_n 0, 1) := by decide +kernel
theorem dX4_digest_65 : decode cX4_digest 65 = .ok (.iconst 0, 1) := by decide +kernel
theorem dX4_digest_66 : decode cX4_digest 66 = .ok (.invokevirtual 143, 3) := by decide +kernel
theorem dX4_digest_69 : decode cX4_digest 69 = .ok (.i2l, 1) := by decide +kernel
theorem dX4_digest_70 : decode cX4_digest 70 = .ok (.invokevirtual 169, 3) := by decide +kernel
theorem dX4_digest_73 : decode cX4_digest 73 = .ok (.aload_n 0, 1) := by decide +kernel
theorem dX4_digest_74 : decode cX4_digest 74 = .ok (.aload_n 0, 1) := by decide +kernel
theorem dX4_digest_75 : decode cX4_digest 75 = .ok (.ldc 179, 2) := by decide +kernel
theorem dX4_digest_77 : decode cX4_digest 77 = .ok (.invokevirtual 143, 3) := by decide +kernel
theorem dX4_digest_80 : decode cX4_digest 80 = .ok (.i2l, 1) := by decide +kernel
theorem dX4_digest_81 : decode cX4_digest 81 = .ok (.invokevirtual 169, 3) := by decide +kernel
theorem dX4_digest_84 : decode cX4_digest 84 = .ok (.aload_n 0, 1) := by decide +kernel
theorem dX4_digest_85 : decode cX4_digest 85 = .ok (.aload_n 0, 1) := by decide +kernel
theorem dX4_digest_86 : decode cX4_digest 86 = .ok (.invokevirtual 146, 3) := by decide +kernel
theorem dX4_digest_89 : decode cX4_digest 89 = .ok (.i2l, 1) := by decide +kernel
theorem dX4_digest_90 : decode cX4_digest 90 = .ok (.invokevirtual 169, 3) := by decide +kernel
theorem dX4_digest_93 : decode cX4_digest 93 = .ok (.aload_n 0, 1) := by decide +kernel
theorem dX4_digest_94 : decode cX4_digest 94 = .ok (.aload_n 0, 1) := by decide +kernel
theorem dX4_digest_95 : decode cX4_digest 95 = .ok (.invokevirtual 151, 3) := by decide +kernel
theorem dX4_digest_98 : decode cX4_digest 98 = .ok (.invokestatic 180, 3) := by decide +kernel
theorem dX4_digest_101 : decode cX4_digest 101 = .ok (.invokevirtual 169, 3) := by decide +kernel
theorem dX4_digest_104 : decode cX4_digest 104 = .ok (.aload_n 0, 1) := by decide +kernel
theorem dX4_digest_105 : decode cX4_digest 105 = .ok (.aload_n 0, 1) := by decide +kernel
theorem dX4_digest_106 : decode cX4_digest 106 = .ok (.getfield 109, 3) := by decide +kernel
theorem dX4_digest_109 : decode cX4_digest 109 = .ok (.i2l, 1) := by decide +kernel
theorem dX4_digest_110 : decode cX4_digest 110 = .ok (.invokevirtual 169, 3) := by decide +kernel
theorem dX4_digest_113 : decode cX4_digest 113 = .ok (.iconst 0, 1) := by decide +kernel
theorem dX4_digest_114 : decode cX4_digest 114 = .ok (.istore_n 1, 1) := by decide +kernel
theorem dX4_digest_115 : decode cX4_digest 115 = .ok (.iload_n 1, 1) := by decide +kernel
theorem dX4_digest_116 : decode cX4_digest 116 = .ok (.aload_n 0, 1) := by decide +kernel
theorem dX4_digest_117 : decode cX4_digest 117 = .ok (.getfield 109, 3) := by decide +kernel
theorem dX4_digest_120 : decode cX4_digest 120 = .ok (.if_icmp .ge 20, 3) := by decide +kernel
theorem dX4_digest_123 : decode cX4_digest 123 = .ok (.aload_n 0, 1) := by decide +kernel
theorem dX4_digest_124 : decode cX4_digest 124 = .ok (.aload_n 0, 1) := by decide +kernel
theorem dX4_digest_125 : decode cX4_digest 125 = .ok (.getfield 19, 3) := by decide +kernel
theorem dX4_digest_128 : decode cX4_digest 128 = .ok (.iload_n 1, 1) := by decide +kernel
theorem dX4_digest_129 : decode cX4_digest 129 = .ok (.iaload, 1) := by decide +kernel
theorem dX4_digest_130 : decode cX4_digest 130 = .ok (.i2l, 1) := by decide +kernel
theorem dX4_digest_131 : decode cX4_digest 131 = .ok (.invokevirtual 169, 3) := by decide +kernel
theorem dX4_digest_134 : decode cX4_digest 134 = .ok (.iinc 1 1, 3) := by decide +kernel
theorem dX4_digest_137 : decode cX4_digest 137 = .ok (.goto (-22), 3) := by decide +kernel
theorem dX4_digest_140 : decode cX4_digest 140 = .ok (.aload_n 0, 1) := by decide +kernel
theorem dX4_digest_141 : decode cX4_digest 141 = .ok (.getfield 165, 3) := by decide +kernel
theorem dX4_digest_144 : decode cX4_digest 144 = .ok (.lreturn, 1) := by decide +kernel
theorem dJ9_floorMod_7cf53_0 : decode cJ9_floorMod_7cf53 0 = .ok (.iload_n 0, 1) := by decide +kernel
theorem dJ9_floorMod_7cf53_1 : decode cJ9_floorMod_7cf53 1 = .ok (.iload_n 1, 1) := by decide +kernel
theorem dJ9_floorMod_7cf53_2 : decode cJ9_floorMod_7cf53 2 = .ok (.irem, 1) := by decide +kernel
theorem dJ9_floorMod_7cf53_3 : decode cJ9_floorMod_7cf53 3 = .ok (.istore_n 2, 1) := by decide +kernel
theorem dJ9_floorMod_7cf53_4 : decode cJ9_floorMod_7cf53 4 = .ok (.iload_n 0, 1) := by decide +kernel
theorem dJ9_floorMod_7cf53_5 : decode cJ9_floorMod_7cf53 5 = .ok (.iload_n 1, 1) := by decide +kernel
theorem dJ9_floorMod_7cf53_6 : decode cJ9_floorMod_7cf53 6 = .ok (.ixor, 1) := by decide +kernel
theorem dJ9_floorMod_7cf53_7 : decode cJ9_floorMod_7cf53 7 = .ok (.ifCond .ge 11, 3) := by decide +kernel
theorem dJ9_floorMod_7cf53_10 : decode cJ9_floorMod_7cf53 10 = .ok (.iload_n 2, 1) := by decide +kernel
theorem dJ9_floorMod_7cf53_11 : decode cJ9_floorMod_7cf53 11 = .ok (.ifCond .eq 7, 3) := by decide +kernel
theorem dJ9_floorMod_7cf53_14 : decode cJ9_floorMod_7cf53 14 = .ok (.iload_n 2, 1) := by decide +kernel
theorem dJ9_floorMod_7cf53_15 : decode cJ9_floorMod_7cf53 15 = .ok (.iload_n 1, 1) := by decide +kernel
theorem dJ9_floorMod_7cf53_16 : decode cJ9_floorMod_7cf53 16 = .ok (.iadd, 1) := by decide +kernel
theorem dJ9_floorMod_7cf53_17 : decode cJ9_floorMod_7cf53 17 = .ok (.ireturn, 1) := by decide +kernel
theorem dJ9_floorMod_7cf53_18 : decode cJ9_floorMod_7cf53 18 = .ok (.iload_n 2, 1) := by decide +kernel
theorem dJ9_floorMod_7cf53_19 : decode cJ9_floorMod_7cf53 19 = .ok (.ireturn, 1) := by decide +kernel
theorem dJ9_abs_0f7a4_0 : decode cJ9_abs_0f7a4 0 = .ok (.iload_n 0, 1) := by decide +kernel
theorem dJ9_abs_0f7a4_1 : decode cJ9_abs_0f7a4 1 = .ok (.ifCond .ge 8, 3) := by decide +kernel
theorem dJ9_abs_0f7a4_4 : decode cJ9_abs_0f7a4 4 = .ok (.iload_n 0, 1) := by decide +kernel
theorem dJ9_abs_0f7a4_5 : decode cJ9_abs_0f7a4 5 = .ok (.ineg, 1) := by decide +kernel
theorem dJ9_abs_0f7a4_6 : decode cJ9_abs_0f7a4 6 = .ok (.goto 4, 3) := by decide +kernel
theorem dJ9_abs_0f7a4_9 : decode cJ9_abs_0f7a4 9 = .ok (.iload_n 0, 1) := by decide +kernel
theorem dJ9_abs_0f7a4_10 : decode cJ9_abs_0f7a4 10 = .ok (.ireturn, 1) := by decide +kernel
set_option maxRecDepth 20000 in
theorem ggL_move_X3_move : GoodIn wsL_move wsX3_move := goodIn_ca (goodIn_ca (goodIn_ca (goodIn_r _ [8, 9, 10, 11, 12, 13, 14, 7, 15, 16, 17, 18, 19, 20, 21, 22, 23, 24, 25, 26, 27, 28, 29, 30, 31, 32, 33, 34, 35, 36, 37, 38, 39, 40, 41, 42, 43, 44, 45, 46, 47, 48, 49, 50, 51, 52, 53, 54, 55, 56, 57, 58, 59, 60, 61, 62, 63, 64, 65, 66, 67] (by decide +kernel) (by decide +kernel)) (goodIn_sub (fun _ h => List.mem_cons_of_mem _ (List.mem_append_left _ (List.mem_append_left _ (List.mem_append_right _ h)))) (by decide +kernel))) (goodIn_sub (fun _ h => List.mem_cons_of_mem _ (List.mem_append_left _ (List.mem_append_right _ h))) (by decide +kernel))) (goodIn_sub (fun _ h => List.mem_cons_of_mem _ (List.mem_append_right _ h)) (by decide +kernel))
set_option maxRecDepth 20000 in
theorem gL_move_X3_move : GoodIn wsL_move (wsV RL 7 RX3 yX3_move wsX3_move) := goodIn_app (goodIn_of _ (by decide +kernel)) ggL_move_X3_move
theorem dL_move_0 : decode cL_move 0 = .ok (.aload 4, 2) := by decide +kernel
theorem dL_move_2 : decode cL_move 2 = .ok (.iconst 0, 1) := by decide +kernel
theorem dL_move_3 : decode cL_move 3 = .ok (.aload_n 0, 1) := by decide +kernel
theorem dL_move_4 : decode cL_move 4 = .ok (.iload_n 1, 1) := by decide +kernel
theorem dL_move_5 : decode cL_move 5 = .ok (.iload_n 2, 1) := by decide +kernel
theorem dL_move_6 : decode cL_move 6 = .ok (.iload_n 3, 1) := by decide +kernel
theorem dL_move_7 : decode cL_move 7 = .ok (.invokevirtual 7, 3) := by decide +kernel
theorem dL_move_10 : decode cL_move 10 = .ok (.i2l, 1) := by decide +kernel
theorem dL_move_11 : decode cL_move 11 = .ok (.lastore, 1) := by decide +kernel
theorem dL_move_12 : decode cL_move 12 = .ok (.goto 15, 3) := by decide +kernel
theorem dL_move_15 : decode cL_move 15 = .ok (.astore 5, 2) := by decide +kernel
theorem dL_move_17 : decode cL_move 17 = .ok (.iconst 1, 1) := by decide +kernel
theorem dL_move_18 : decode cL_move 18 = .ok (.ireturn, 1) := by decide +kernel
theorem dL_move_19 : decode cL_move 19 = .ok (.astore 5, 2) := by decide +kernel
theorem dL_move_21 : decode cL_move 21 = .ok (.iconst 2, 1) := by decide +kernel
theorem dL_move_22 : decode cL_move 22 = .ok (.ireturn, 1) := by decide +kernel
theorem dL_move_23 : decode cL_move 23 = .ok (.astore 5, 2) := by decide +kernel
theorem dL_move_25 : decode cL_move 25 = .ok (.iconst 3, 1) := by decide +kernel
theorem dL_move_26 : decode cL_move 26 = .ok (.ireturn, 1) := by decide +kernel
theorem dL_move_27 : decode cL_move 27 = .ok (.iconst 0, 1) := by decide +kernel
theorem dL_move_28 : decode cL_move 28 = .ok (.ireturn, 1) := by decide +kernel
set_option maxRecDepth 20000 in
theorem ggL_stick_X3_stick : GoodIn wsL_stick wsX3_stick := goodIn_ca (goodIn_ca (goodIn_r _ [7, 8, 9, 10, 11, 12, 6, 13, 14, 15, 16, 17, 18, 19, 20, 21, 22, 23, 24, 25, 26, 27, 28, 29, 30, 31, 32, 33, 34, 35, 36, 37, 38, 39, 40, 41, 42, 43, 44, 45, 46, 47, 48, 49, 50, 51, 52, 53] (by decide +kernel) (by decide +kernel)) (goodIn_sub (fun _ h => List.mem_cons_of_mem _ (List.mem_append_left _ (List.mem_append_right _ h))) (by decide +kernel))) (goodIn_sub (fun _ h => List.mem_cons_of_mem _ (List.mem_append_right _ h)) (by decide +kernel))
set_option maxRecDepth 20000 in
theorem gL_stick_X3_stick : GoodIn wsL_stick (wsV RL 19 RX3 yX3_stick wsX3_stick) := goodIn_app (goodIn_of _ (by decide +kernel)) ggL_stick_X3_stick
theorem dL_stick_0 : decode cL_stick 0 = .ok (.aload_n 3, 1) := by decide +kernel
theorem dL_stick_1 : decode cL_stick 1 = .ok (.iconst 0, 1) := by decide +kernel
theorem dL_stick_2 : decode cL_stick 2 = .ok (.aload_n 0, 1) := by decide +kernel
theorem dL_stick_3 : decode cL_stick 3 = .ok (.iload_n 1, 1) := by decide +kernel
theorem dL_stick_4 : decode cL_stick 4 = .ok (.iload_n 2, 1) := by decide +kernel
theorem dL_stick_5 : decode cL_stick 5 = .ok (.invokevirtual 19, 3) := by decide +kernel
theorem dL_stick_8 : decode cL_stick 8 = .ok (.i2l, 1) := by decide +kernel
theorem dL_stick_9 : decode cL_stick 9 = .ok (.lastore, 1) := by decide +kernel
theorem dL_stick_10 : decode cL_stick 10 = .ok (.goto 11, 3) := by decide +kernel
theorem dL_stick_13 : decode cL_stick 13 = .ok (.astore 4, 2) := by decide +kernel
theorem dL_stick_15 : decode cL_stick 15 = .ok (.iconst 1, 1) := by decide +kernel
theorem dL_stick_16 : decode cL_stick 16 = .ok (.ireturn, 1) := by decide +kernel
theorem dL_stick_17 : decode cL_stick 17 = .ok (.astore 4, 2) := by decide +kernel
theorem dL_stick_19 : decode cL_stick 19 = .ok (.iconst 2, 1) := by decide +kernel
theorem dL_stick_20 : decode cL_stick 20 = .ok (.ireturn, 1) := by decide +kernel
theorem dL_stick_21 : decode cL_stick 21 = .ok (.iconst 0, 1) := by decide +kernel
theorem dL_stick_22 : decode cL_stick 22 = .ok (.ireturn, 1) := by decide +kernel
set_option maxRecDepth 20000 in
theorem ggL_set_X3_set : GoodIn wsL_set wsX3_set := goodIn_ca (goodIn_r _ [6, 7, 8, 9, 10, 11, 5, 12, 13, 14, 15, 16, 17, 18, 19, 20, 21, 22, 23, 24, 25, 26, 27, 28, 29, 30, 31, 32, 33, 34, 35, 36, 37, 38, 39, 40, 41, 42, 43, 44, 45, 46, 47] (by decide +kernel) (by decide +kernel)) (goodIn_sub (fun _ h => List.mem_cons_of_mem _ (List.mem_append_right _ h)) (by decide +kernel))
set_option maxRecDepth 20000 in
theorem gL_set_X3_set : GoodIn wsL_set (wsV RL 23 RX3 yX3_set wsX3_set) := goodIn_app (goodIn_of _ (by decide +kernel)) ggL_set_X3_set
theorem dL_set_0 : decode cL_set 0 = .ok (.aload_n 2, 1) := by decide +kernel
theorem dL_set_1 : decode cL_set 1 = .ok (.iconst 0, 1) := by decide +kernel
theorem dL_set_2 : decode cL_set 2 = .ok (.aload_n 0, 1) := by decide +kernel
theorem dL_set_3 : decode cL_set 3 = .ok (.iload_n 1, 1) := by decide +kernel
theorem dL_set_4 : decode cL_set 4 = .ok (.invokevirtual 23, 3) := by decide +kernel
theorem dL_set_7 : decode cL_set 7 = .ok (.i2l, 1) := by decide +kernel
theorem dL_set_8 : decode cL_set 8 = .ok (.lastore, 1) := by decide +kernel
theorem dL_set_9 : decode cL_set 9 = .ok (.goto 6, 3) := by decide +kernel
theorem dL_set_12 : decode cL_set 12 = .ok (.astore_n 3, 1) := by decide +kernel
theorem dL_set_13 : decode cL_set 13 = .ok (.iconst 1, 1) := by decide +kernel
theorem dL_set_14 : decode cL_set 14 = .ok (.ireturn, 1) := by decide +kernel
theorem dL_set_15 : decode cL_set 15 = .ok (.iconst 0, 1) := by decide +kernel
theorem dL_set_16 : decode cL_set 16 = .ok (.ireturn, 1) := by decide +kernel
set_option maxRecDepth 20000 in
theorem ggL_add_X3_add : GoodIn wsL_add wsX3_add := goodIn_ca (goodIn_ca (goodIn_ca (goodIn_r _ [8, 9, 10, 7, 11, 12, 13, 14, 15, 16, 17, 18, 19, 20, 21, 22, 23, 24, 25, 26, 27, 28, 29, 30, 31, 32, 33, 34, 35, 36, 37, 38, 39, 40, 41, 42, 43, 44, 45, 46, 47, 48, 49, 50, 51, 52, 53, 54, 55, 56, 57, 58, 59, 60, 61, 62, 63, 64, 65, 66, 67, 68, 69, 70, 71, 72, 73, 74, 75, 76, 77, 78, 79, 80, 81, 82, 83, 84, 85, 86, 87, 88, 89, 90, 91] (by decide +kernel) (by decide +kernel)) (goodIn_sub (fun _ h => List.mem_cons_of_mem _ (List.mem_append_left _ (List.mem_append_left _ (List.mem_append_right _ h)))) (by decide +kernel))) (goodIn_sub (fun _ h => List.mem_cons_of_mem _ (List.mem_append_left _ (List.mem_append_right _ h))) (by decide +kernel))) (goodIn_sub (fun _ h => List.mem_cons_of_mem _ (List.mem_append_right _ h)) (by decide +kernel))
set_option maxRecDepth 20000 in
theorem gL_add_X3_add : GoodIn wsL_add (wsV RL 27 RX3 yX3_add wsX3_add) := goodIn_app (goodIn_of _ (by decide +kernel)) ggL_add_X3_add
theorem dL_add_0 : decode cL_add 0 = .ok (.aload_n 3, 1) := by decide +kernel
theorem dL_add_1 : decode cL_add 1 = .ok (.iconst 0, 1) := by decide +kernel
theorem dL_add_2 : decode cL_add 2 = .ok (.aload_n 0, 1) := by decide +kernel
theorem dL_add_3 : decode cL_add 3 = .ok (.iload_n 1, 1) := by decide +kernel
theorem dL_add_4 : decode cL_add 4 = .ok (.iload_n 2, 1) := by decide +kernel
theorem dL_add_5 : decode cL_add 5 = .ok (.invokevirtual 27, 3) := by decide +kernel
theorem dL_add_8 : decode cL_add 8 = .ok (.i2l, 1) := by decide +kernel
theorem dL_add_9 : decode cL_add 9 = .ok (.lastore, 1) := by decide +kernel
theorem dL_add_10 : decode cL_add 10 = .ok (.goto 15, 3) := by decide +kernel
theorem dL_add_13 : decode cL_add 13 = .ok (.astore 4, 2) := by decide +kernel
theorem dL_add_15 : decode cL_add 15 = .ok (.iconst 1, 1) := by decide +kernel
theorem dL_add_16 : decode cL_add 16 = .ok (.ireturn, 1) := by decide +kernel
theorem dL_add_17 : decode cL_add 17 = .ok (.astore 4, 2) := by decide +kernel
theorem dL_add_19 : decode cL_add 19 = .ok (.iconst 2, 1) := by decide +kernel
theorem dL_add_20 : decode cL_add 20 = .ok (.ireturn, 1) := by decide +kernel
theorem dL_add_21 : decode cL_add 21 = .ok (.astore 4, 2) := by decide +kernel
theorem dL_add_23 : decode cL_add 23 = .ok (.iconst 3, 1) := by decide +kernel
theorem dL_add_24 : decode cL_add 24 = .ok (.ireturn, 1) := by decide +kernel
theorem dL_add_25 : decode cL_add 25 = .ok (.iconst 0, 1) := by decide +kernel
theorem dL_add_26 : decode cL_add 26 = .ok (.ireturn, 1) := by decide +kernel
set_option maxRecDepth 20000 in
theorem ggL_less_X3_less : GoodIn wsL_less wsX3_less := goodIn_ca (goodIn_ca (goodIn_ca (goodIn_r _ [8, 9, 10, 7, 11, 12, 13, 14, 15, 16, 17, 18, 19, 20, 21, 22, 23, 24, 25, 26, 27, 28, 29, 30, 31, 32, 33, 34, 35, 36, 37, 38, 39, 40, 41, 42, 43, 44, 45, 46, 47, 48, 49, 50, 51, 52, 53, 54, 55, 56, 57, 58, 59, 60, 61, 62, 63, 64, 65, 66, 67, 68, 69, 70, 71, 72, 73, 74, 75, 76, 77, 78, 79, 80, 81, 82, 83, 84, 85, 86, 87, 88, 89, 90, 91] (by decide +kernel) (by decide +kernel)) (goodIn_sub (fun _ h => List.mem_cons_of_mem _ (List.mem_append_left _ (List.mem_append_left _ (List.mem_append_right _ h)))) (by decide +kernel))) (goodIn_sub (fun _ h => List.mem_cons_of_mem _ (List.mem_append_left _ (List.mem_append_right _ h))) (by decide +kernel))) (goodIn_sub (fun _ h => List.mem_cons_of_mem _ (List.mem_append_right _ h)) (by decide +kernel))
set_option maxRecDepth 20000 in
theorem gL_less_X3_less : GoodIn wsL_less (wsV RL 30 RX3 yX3_less wsX3_less) := goodIn_app (goodIn_of _ (by decide +kernel)) ggL_less_X3_less
theorem dL_less_0 : decode cL_less 0 = .ok (.aload_n 3, 1) := by decide +kernel
theorem dL_less_1 : decode cL_less 1 = .ok (.iconst 0, 1) := by decide +kernel
theorem dL_less_2 : decode cL_less 2 = .ok (.aload_n 0, 1) := by decide +kernel
theorem dL_less_3 : decode cL_less 3 = .ok (.iload_n 1, 1) := by decide +kernel
theorem dL_less_4 : decode cL_less 4 = .ok (.iload_n 2, 1) := by decide +kernel
theorem dL_less_5 : decode cL_less 5 = .ok (.invokevirtual 30, 3) := by decide +kernel
theorem dL_less_8 : decode cL_less 8 = .ok (.i2l, 1) := by decide +kernel
theorem dL_less_9 : decode cL_less 9 = .ok (.lastore, 1) := by decide +kernel
theorem dL_less_10 : decode cL_less 10 = .ok (.goto 15, 3) := by decide +kernel
theorem dL_less_13 : decode cL_less 13 = .ok (.astore 4, 2) := by decide +kernel
theorem dL_less_15 : decode cL_less 15 = .ok (.iconst 1, 1) := by decide +kernel
theorem dL_less_16 : decode cL_less 16 = .ok (.ireturn, 1) := by decide +kernel
theorem dL_less_17 : decode cL_less 17 = .ok (.astore 4, 2) := by decide +kernel
theorem dL_less_19 : decode cL_less 19 = .ok (.iconst 2, 1) := by decide +kernel
theorem dL_less_20 : decode cL_less 20 = .ok (.ireturn, 1) := by decide +kernel
theorem dL_less_21 : decode cL_less 21 = .ok (.astore 4, 2) := by decide +kernel
theorem dL_less_23 : decode cL_less 23 = .ok (.iconst 3, 1) := by decide +kernel
theorem dL_less_24 : decode cL_less 24 = .ok (.ireturn, 1) := by decide +kernel
theorem dL_less_25 : decode cL_less 25 = .ok (.iconst 0, 1) := by decide +kernel
theorem dL_less_26 : decode cL_less 26 = .ok (.ireturn, 1) := by decide +kernel
set_option maxRecDepth 20000 in
theorem ggL_pay_X3_pay : GoodIn wsL_pay wsX3_pay := goodIn_ca (goodIn_ca (goodIn_r _ [7, 8, 9, 10, 11, 12, 13, 14, 6, 15, 16, 17, 18, 19, 20, 21, 22, 23, 24, 25, 26, 27, 28, 29, 30, 31, 32, 33, 34, 35, 36, 37, 38, 39, 40, 41, 42, 43, 44, 45, 46, 47, 48, 49, 50, 51, 52, 53, 54, 55, 56, 57, 58, 59, 60, 61, 62, 63, 64, 65, 66, 67, 68, 69, 70, 71, 72, 73, 74, 75, 76, 77, 78, 79, 80, 81, 82, 83, 84, 85, 86, 87] (by decide +kernel) (by decide +kernel)) (goodIn_sub (fun _ h => List.mem_cons_of_mem _ (List.mem_append_left _ (List.mem_append_right _ h))) (by decide +kernel))) (goodIn_sub (fun _ h => List.mem_cons_of_mem _ (List.mem_append_right _ h)) (by decide +kernel))
set_option maxRecDepth 20000 in
theorem gL_pay_X3_pay : GoodIn wsL_pay (wsV RL 33 RX3 yX3_pay wsX3_pay) := goodIn_app (goodIn_of _ (by decide +kernel)) ggL_pay_X3_pay
theorem dL_pay_0 : decode cL_pay 0 = .ok (.aload_n 2, 1) := by decide +kernel
theorem dL_pay_1 : decode cL_pay 1 = .ok (.iconst 0, 1) := by decide +kernel
theorem dL_pay_2 : decode cL_pay 2 = .ok (.aload_n 0, 1) := by decide +kernel
theorem dL_pay_3 : decode cL_pay 3 = .ok (.iload_n 1, 1) := by decide +kernel
theorem dL_pay_4 : decode cL_pay 4 = .ok (.invokevirtual 33, 3) := by decide +kernel
theorem dL_pay_7 : decode cL_pay 7 = .ok (.i2l, 1) := by decide +kernel
theorem dL_pay_8 : decode cL_pay 8 = .ok (.lastore, 1) := by decide +kernel
theorem dL_pay_9 : decode cL_pay 9 = .ok (.goto 9, 3) := by decide +kernel
theorem dL_pay_12 : decode cL_pay 12 = .ok (.astore_n 3, 1) := by decide +kernel
theorem dL_pay_13 : decode cL_pay 13 = .ok (.iconst 1, 1) := by decide +kernel
theorem dL_pay_14 : decode cL_pay 14 = .ok (.ireturn, 1) := by decide +kernel
theorem dL_pay_15 : decode cL_pay 15 = .ok (.astore_n 3, 1) := by decide +kernel
theorem dL_pay_16 : decode cL_pay 16 = .ok (.iconst 2, 1) := by decide +kernel
theorem dL_pay_17 : decode cL_pay 17 = .ok (.ireturn, 1) := by decide +kernel
theorem dL_pay_18 : decode cL_pay 18 = .ok (.iconst 0, 1) := by decide +kernel
theorem dL_pay_19 : decode cL_pay 19 = .ok (.ireturn, 1) := by decide +kernel
set_option maxRecDepth 20000 in
theorem ggL_append_X3_append : GoodIn wsL_append wsX3_append := goodIn_ca (goodIn_ca (goodIn_r _ [7, 8, 9, 10, 11, 12, 13, 14, 6, 15, 16, 17, 18, 19, 20, 21, 22] (by decide +kernel) (by decide +kernel)) (goodIn_sub (fun _ h => List.mem_cons_of_mem _ (List.mem_append_left _ (List.mem_append_right _ h))) (by decide +kernel))) (goodIn_sub (fun _ h => List.mem_cons_of_mem _ (List.mem_append_right _ h)) (by decide +kernel))
set_option maxRecDepth 20000 in
theorem gL_append_X3_append : GoodIn wsL_append (wsV RL 36 RX3 yX3_append wsX3_append) := goodIn_app (goodIn_of _ (by decide +kernel)) ggL_append_X3_append
theorem dL_append_0 : decode cL_append 0 = .ok (.aload_n 2, 1) := by decide +kernel
theorem dL_append_1 : decode cL_append 1 = .ok (.iconst 0, 1) := by decide +kernel
theorem dL_append_2 : decode cL_append 2 = .ok (.aload_n 0, 1) := by decide +kernel
theorem dL_append_3 : decode cL_append 3 = .ok (.iload_n 1, 1) := by decide +kernel
theorem dL_append_4 : decode cL_append 4 = .ok (.invokevirtual 36, 3) := by decide +kernel
theorem dL_append_7 : decode cL_append 7 = .ok (.i2l, 1) := by decide +kernel
theorem dL_append_8 : decode cL_append 8 = .ok (.lastore, 1) := by decide +kernel
theorem dL_append_9 : decode cL_append 9 = .ok (.goto 9, 3) := by decide +kernel
theorem dL_append_12 : decode cL_append 12 = .ok (.astore_n 3, 1) := by decide +kernel
theorem dL_append_13 : decode cL_append 13 = .ok (.iconst 1, 1) := by decide +kernel
theorem dL_append_14 : decode cL_append 14 = .ok (.ireturn, 1) := by decide +kernel
theorem dL_append_15 : decode cL_append 15 = .ok (.astore_n 3, 1) := by decide +kernel
theorem dL_append_16 : decode cL_append 16 = .ok (.iconst 2, 1) := by decide +kernel
theorem dL_append_17 : decode cL_append 17 = .ok (.ireturn, 1) := by decide +kernel
theorem dL_append_18 : decode cL_append 18 = .ok (.iconst 0, 1) := by decide +kernel
theorem dL_append_19 : decode cL_append 19 = .ok (.ireturn, 1) := by decide +kernel
set_option maxRecDepth 20000 in
theorem ggL_reckon_X3_reckon : GoodIn wsL_reckon wsX3_reckon := goodIn_ca (goodIn_r _ [6, 7, 8, 9, 10, 11, 12, 13, 14, 15, 16, 17, 18, 19, 20, 21, 22, 23, 24, 25, 5, 26, 27, 28, 29, 30, 31, 32, 33, 34, 35, 36, 37, 38, 39, 40, 41, 42, 43, 44, 45, 46, 47, 48, 49, 50, 51, 52, 53, 54, 55, 56, 57, 58, 59, 60, 61, 62, 63, 64, 65, 66, 67, 68, 69, 70, 71, 72, 73, 74, 75, 76, 77, 78, 79, 80, 81, 82, 83, 84, 85, 86, 87, 88, 89, 90, 91, 92, 93, 94, 95, 96, 97, 98, 99, 100, 101, 102, 103, 104] (by decide +kernel) (by decide +kernel)) (goodIn_sub (fun _ h => List.mem_cons_of_mem _ (List.mem_append_right _ h)) (by decide +kernel))
set_option maxRecDepth 20000 in
theorem gL_reckon_X3_reckon : GoodIn wsL_reckon (wsV RL 39 RX3 yX3_reckon wsX3_reckon) := goodIn_app (goodIn_of _ (by decide +kernel)) ggL_reckon_X3_reckon
theorem dL_reckon_0 : decode cL_reckon 0 = .ok (.aload_n 1, 1) := by decide +kernel
theorem dL_reckon_1 : decode cL_reckon 1 = .ok (.iconst 0, 1) := by decide +kernel
theorem dL_reckon_2 : decode cL_reckon 2 = .ok (.aload_n 0, 1) := by decide +kernel
theorem dL_reckon_3 : decode cL_reckon 3 = .ok (.invokevirtual 39, 3) := by decide +kernel
theorem dL_reckon_6 : decode cL_reckon 6 = .ok (.i2l, 1) := by decide +kernel
theorem dL_reckon_7 : decode cL_reckon 7 = .ok (.lastore, 1) := by decide +kernel
theorem dL_reckon_8 : decode cL_reckon 8 = .ok (.goto 6, 3) := by decide +kernel
theorem dL_reckon_11 : decode cL_reckon 11 = .ok (.astore_n 2, 1) := by decide +kernel
theorem dL_reckon_12 : decode cL_reckon 12 = .ok (.iconst 1, 1) := by decide +kernel
theorem dL_reckon_13 : decode cL_reckon 13 = .ok (.ireturn, 1) := by decide +kernel
theorem dL_reckon_14 : decode cL_reckon 14 = .ok (.iconst 0, 1) := by decide +kernel
theorem dL_reckon_15 : decode cL_reckon 15 = .ok (.ireturn, 1) := by decide +kernel
set_option maxRecDepth 20000 in
theorem ggL_undo_X3_undo : GoodIn wsL_undo wsX3_undo := goodIn_ca (goodIn_r _ [6, 7, 8, 9, 10, 11, 12, 13, 14, 15, 16, 17, 18, 19, 20, 21, 22, 23, 24, 25, 26, 27, 28, 29, 30, 31, 32, 33, 34, 35, 36, 37, 38, 39, 40, 41, 42, 43, 44] (by decide +kernel) (by decide +kernel)) (goodIn_sub (fun _ h => List.mem_cons_of_mem _ (List.mem_append_right _ h)) (by decide +kernel))
set_option maxRecDepth 20000 in
theorem gL_undo_X3_undo : GoodIn wsL_undo (wsV RL 43 RX3 yX3_undo wsX3_undo) := goodIn_app (goodIn_of _ (by decide +kernel)) ggL_undo_X3_undo
theorem dL_undo_0 : decode cL_undo 0 = .ok (.aload_n 1, 1) := by decide +kernel
theorem dL_undo_1 : decode cL_undo 1 = .ok (.iconst 0, 1) := by decide +kernel
theorem dL_undo_2 : decode cL_undo 2 = .ok (.aload_n 0, 1) := by decide +kernel
theorem dL_undo_3 : decode cL_undo 3 = .ok (.invokevirtual 43, 3) := by decide +kernel
theorem dL_undo_6 : decode cL_undo 6 = .ok (.i2l, 1) := by decide +kernel
theorem dL_undo_7 : decode cL_undo 7 = .ok (.lastore, 1) := by decide +kernel
theorem dL_undo_8 : decode cL_undo 8 = .ok (.goto 6, 3) := by decide +kernel
theorem dL_undo_11 : decode cL_undo 11 = .ok (.astore_n 2, 1) := by decide +kernel
theorem dL_undo_12 : decode cL_undo 12 = .ok (.iconst 1, 1) := by decide +kernel
theorem dL_undo_13 : decode cL_undo 13 = .ok (.ireturn, 1) := by decide +kernel
theorem dL_undo_14 : decode cL_undo 14 = .ok (.iconst 0, 1) := by decide +kernel
theorem dL_undo_15 : decode cL_undo 15 = .ok (.ireturn, 1) := by decide +kernel
set_option maxRecDepth 20000 in
theorem ggL_rod_X3_rod : GoodIn wsL_rod wsX3_rod := goodIn_ca (goodIn_ca (goodIn_r _ [7, 8, 9, 10, 11, 12, 13, 14, 15, 16, 6, 17, 18, 19, 20, 21, 22, 23, 24, 25, 26, 27, 28, 29, 30, 31, 32, 33, 34, 35, 36, 37, 38, 39, 40, 41, 42, 43, 44, 45, 46, 47, 48, 49, 50, 51, 52, 53, 54, 55, 56, 57, 58, 59, 60, 61, 62, 63] (by decide +kernel) (by decide +kernel)) (goodIn_sub (fun _ h => List.mem_cons_of_mem _ (List.mem_append_left _ (List.mem_append_right _ h))) (by decide +kernel))) (goodIn_sub (fun _ h => List.mem_cons_of_mem _ (List.mem_append_right _ h)) (by decide +kernel))
set_option maxRecDepth 20000 in
theorem gL_rod_X3_rod : GoodIn wsL_rod (wsV RL 46 RX3 yX3_rod wsX3_rod) := goodIn_app (goodIn_of _ (by decide +kernel)) ggL_rod_X3_rod
theorem dL_rod_0 : decode cL_rod 0 = .ok (.aload_n 3, 1) := by decide +kernel
theorem dL_rod_1 : decode cL_rod 1 = .ok (.iconst 0, 1) := by decide +kernel
theorem dL_rod_2 : decode cL_rod 2 = .ok (.aload_n 0, 1) := by decide +kernel
theorem dL_rod_3 : decode cL_rod 3 = .ok (.iload_n 1, 1) := by decide +kernel
theorem dL_rod_4 : decode cL_rod 4 = .ok (.iload_n 2, 1) := by decide +kernel
theorem dL_rod_5 : decode cL_rod 5 = .ok (.invokevirtual 46, 3) := by decide +kernel
theorem dL_rod_8 : decode cL_rod 8 = .ok (.i2l, 1) := by decide +kernel
theorem dL_rod_9 : decode cL_rod 9 = .ok (.lastore, 1) := by decide +kernel
theorem dL_rod_10 : decode cL_rod 10 = .ok (.goto 11, 3) := by decide +kernel
theorem dL_rod_13 : decode cL_rod 13 = .ok (.astore 4, 2) := by decide +kernel
theorem dL_rod_15 : decode cL_rod 15 = .ok (.iconst 1, 1) := by decide +kernel
theorem dL_rod_16 : decode cL_rod 16 = .ok (.ireturn, 1) := by decide +kernel
theorem dL_rod_17 : decode cL_rod 17 = .ok (.astore 4, 2) := by decide +kernel
theorem dL_rod_19 : decode cL_rod 19 = .ok (.iconst 2, 1) := by decide +kernel
theorem dL_rod_20 : decode cL_rod 20 = .ok (.ireturn, 1) := by decide +kernel
theorem dL_rod_21 : decode cL_rod 21 = .ok (.iconst 0, 1) := by decide +kernel
theorem dL_rod_22 : decode cL_rod 22 = .ok (.ireturn, 1) := by decide +kernel
set_option maxRecDepth 20000 in
theorem ggL_count_X3_count : GoodIn wsL_count wsX3_count := goodIn_ca (goodIn_r _ [6, 7, 8, 9, 10, 11, 12, 5, 13, 14, 15, 16, 17, 18, 19, 20, 21, 22, 23, 24, 25, 26, 27, 28, 29, 30, 31, 32, 33, 34, 35, 36, 37, 38, 39, 40, 41, 42, 43, 44, 45, 46, 47, 48, 49, 50, 51, 52, 53, 54, 55, 56, 57, 58, 59, 60, 61, 62, 63, 64, 65, 66] (by decide +kernel) (by decide +kernel)) (goodIn_sub (fun _ h => List.mem_cons_of_mem _ (List.mem_append_right _ h)) (by decide +kernel))
set_option maxRecDepth 20000 in
theorem gL_count_X3_count : GoodIn wsL_count (wsV RL 49 RX3 yX3_count wsX3_count) := goodIn_app (goodIn_of _ (by decide +kernel)) ggL_count_X3_count
theorem dL_count_0 : decode cL_count 0 = .ok (.aload_n 2, 1) := by decide +kernel
theorem dL_count_1 : decode cL_count 1 = .ok (.iconst 0, 1) := by decide +kernel
theorem dL_count_2 : decode cL_count 2 = .ok (.aload_n 0, 1) := by decide +kernel
theorem dL_count_3 : decode cL_count 3 = .ok (.iload_n 1, 1) := by decide +kernel
theorem dL_count_4 : decode cL_count 4 = .ok (.invokevirtual 49, 3) := by decide +kernel
theorem dL_count_7 : decode cL_count 7 = .ok (.i2l, 1) := by decide +kernel
theorem dL_count_8 : decode cL_count 8 = .ok (.lastore, 1) := by decide +kernel
theorem dL_count_9 : decode cL_count 9 = .ok (.goto 6, 3) := by decide +kernel
theorem dL_count_12 : decode cL_count 12 = .ok (.astore_n 3, 1) := by decide +kernel
theorem dL_count_13 : decode cL_count 13 = .ok (.iconst 1, 1) := by decide +kernel
theorem dL_count_14 : decode cL_count 14 = .ok (.ireturn, 1) := by decide +kernel
theorem dL_count_15 : decode cL_count 15 = .ok (.iconst 0, 1) := by decide +kernel
theorem dL_count_16 : decode cL_count 16 = .ok (.ireturn, 1) := by decide +kernel
set_option maxRecDepth 20000 in
theorem ggL_moves_X3_moves : GoodIn wsL_moves wsX3_moves := goodIn_ca (goodIn_ca (goodIn_r _ [7, 8, 9, 10, 6, 11, 12, 13, 14, 15, 16, 17, 18, 19, 20, 21, 22, 23, 24, 25, 26, 27, 28, 29, 30, 31, 32, 33, 34, 35, 36, 37, 38, 39, 40, 41, 42, 43, 44, 45, 46, 47, 48, 49] (by decide +kernel) (by decide +kernel)) (goodIn_sub (fun _ h => List.mem_cons_of_mem _ (List.mem_append_left _ (List.mem_append_right _ h))) (by decide +kernel))) (goodIn_sub (fun _ h => List.mem_cons_of_mem _ (List.mem_append_right _ h)) (by decide +kernel))
set_option maxRecDepth 20000 in
theorem gL_moves_X3_moves : GoodIn wsL_moves (wsV RL 52 RX3 yX3_moves wsX3_moves) := goodIn_app (goodIn_of _ (by decide +kernel)) ggL_moves_X3_moves
theorem dL_moves_0 : decode cL_moves 0 = .ok (.aload_n 3, 1) := by decide +kernel
theorem dL_moves_1 : decode cL_moves 1 = .ok (.iconst 0, 1) := by decide +kernel
theorem dL_moves_2 : decode cL_moves 2 = .ok (.aload_n 0, 1) := by decide +kernel
theorem dL_moves_3 : decode cL_moves 3 = .ok (.iload_n 1, 1) := by decide +kernel
theorem dL_moves_4 : decode cL_moves 4 = .ok (.iload_n 2, 1) := by decide +kernel
theorem dL_moves_5 : decode cL_moves 5 = .ok (.invokevirtual 52, 3) := by decide +kernel
theorem dL_moves_8 : decode cL_moves 8 = .ok (.i2l, 1) := by decide +kernel
theorem dL_moves_9 : decode cL_moves 9 = .ok (.lastore, 1) := by decide +kernel
theorem dL_moves_10 : decode cL_moves 10 = .ok (.goto 11, 3) := by decide +kernel
theorem dL_moves_13 : decode cL_moves 13 = .ok (.astore 4, 2) := by decide +kernel
theorem dL_moves_15 : decode cL_moves 15 = .ok (.iconst 1, 1) := by decide +kernel
theorem dL_moves_16 : decode cL_moves 16 = .ok (.ireturn, 1) := by decide +kernel
theorem dL_moves_17 : decode cL_moves 17 = .ok (.astore 4, 2) := by decide +kernel
theorem dL_moves_19 : decode cL_moves 19 = .ok (.iconst 2, 1) := by decide +kernel
theorem dL_moves_20 : decode cL_moves 20 = .ok (.ireturn, 1) := by decide +kernel
theorem dL_moves_21 : decode cL_moves 21 = .ok (.iconst 0, 1) := by decide +kernel
theorem dL_moves_22 : decode cL_moves 22 = .ok (.ireturn, 1) := by decide +kernel
set_option maxRecDepth 20000 in
theorem ggL_ifAdded_X3_ifAdded : GoodIn wsL_ifAdded wsX3_ifAdded := goodIn_ca (goodIn_ca (goodIn_r _ [7, 8, 9, 10, 6, 11, 12, 13, 14, 15, 16, 17, 18, 19, 20, 21, 22, 23, 24, 25, 26, 27, 28, 29, 30, 31, 32, 33, 34, 35, 36, 37, 38, 39, 40, 41, 42, 43, 44, 45, 46, 47, 48, 49, 50, 51, 52, 53, 54, 55, 56, 57, 58, 59, 60, 61, 62, 63, 64, 65, 66, 67, 68] (by decide +kernel) (by decide +kernel)) (goodIn_sub (fun _ h => List.mem_cons_of_mem _ (List.mem_append_left _ (List.mem_append_right _ h))) (by decide +kernel))) (goodIn_sub (fun _ h => List.mem_cons_of_mem _ (List.mem_append_right _ h)) (by decide +kernel))
set_option maxRecDepth 20000 in
theorem gL_ifAdded_X3_ifAdded : GoodIn wsL_ifAdded (wsV RL 55 RX3 yX3_ifAdded wsX3_ifAdded) := goodIn_app (goodIn_of _ (by decide +kernel)) ggL_ifAdded_X3_ifAdded
theorem dL_ifAdded_0 : decode cL_ifAdded 0 = .ok (.aload_n 3, 1) := by decide +kernel
theorem dL_ifAdded_1 : decode cL_ifAdded 1 = .ok (.iconst 0, 1) := by decide +kernel
theorem dL_ifAdded_2 : decode cL_ifAdded 2 = .ok (.aload_n 0, 1) := by decide +kernel
theorem dL_ifAdded_3 : decode cL_ifAdded 3 = .ok (.iload_n 1, 1) := by decide +kernel
theorem dL_ifAdded_4 : decode cL_ifAdded 4 = .ok (.iload_n 2, 1) := by decide +kernel
theorem dL_ifAdded_5 : decode cL_ifAdded 5 = .ok (.invokevirtual 55, 3) := by decide +kernel
theorem dL_ifAdded_8 : decode cL_ifAdded 8 = .ok (.i2l, 1) := by decide +kernel
theorem dL_ifAdded_9 : decode cL_ifAdded 9 = .ok (.lastore, 1) := by decide +kernel
theorem dL_ifAdded_10 : decode cL_ifAdded 10 = .ok (.goto 11, 3) := by decide +kernel
theorem dL_ifAdded_13 : decode cL_ifAdded 13 = .ok (.astore 4, 2) := by decide +kernel
theorem dL_ifAdded_15 : decode cL_ifAdded 15 = .ok (.iconst 1, 1) := by decide +kernel
theorem dL_ifAdded_16 : decode cL_ifAdded 16 = .ok (.ireturn, 1) := by decide +kernel
theorem dL_ifAdded_17 : decode cL_ifAdded 17 = .ok (.astore 4, 2) := by decide +kernel
theorem dL_ifAdded_19 : decode cL_ifAdded 19 = .ok (.iconst 2, 1) := by decide +kernel
theorem dL_ifAdded_20 : decode cL_ifAdded 20 = .ok (.ireturn, 1) := by decide +kernel
theorem dL_ifAdded_21 : decode cL_ifAdded 21 = .ok (.iconst 0, 1) := by decide +kernel
theorem dL_ifAdded_22 : decode cL_ifAdded 22 = .ok (.ireturn, 1) := by decide +kernel
set_option maxRecDepth 20000 in
theorem ggL_toShow_X3_toShow : GoodIn wsL_toShow wsX3_toShow := goodIn_ca (goodIn_r _ [6, 7, 8, 9, 10, 5, 11, 12, 13, 14, 15, 16, 17, 18, 19, 20, 21, 22, 23, 24, 25, 26, 27, 28, 29, 30, 31, 32, 33, 34, 35, 36, 37, 38, 39, 40, 41, 42, 43, 44] (by decide +kernel) (by decide +kernel)) (goodIn_sub (fun _ h => List.mem_cons_of_mem _ (List.mem_append_right _ h)) (by decide +kernel))
set_option maxRecDepth 20000 in
theorem gL_toShow_X3_toShow : GoodIn wsL_toShow (wsV RL 58 RX3 yX3_toShow wsX3_toShow) := goodIn_app (goodIn_of _ (by decide +kernel)) ggL_toShow_X3_toShow
theorem dL_toShow_0 : decode cL_toShow 0 = .ok (.aload_n 2, 1) := by decide +kernel
theorem dL_toShow_1 : decode cL_toShow 1 = .ok (.iconst 0, 1) := by decide +kernel
theorem dL_toShow_2 : decode cL_toShow 2 = .ok (.aload_n 0, 1) := by decide +kernel
theorem dL_toShow_3 : decode cL_toShow 3 = .ok (.iload_n 1, 1) := by decide +kernel
theorem dL_toShow_4 : decode cL_toShow 4 = .ok (.invokevirtual 58, 3) := by decide +kernel
theorem dL_toShow_7 : decode cL_toShow 7 = .ok (.i2l, 1) := by decide +kernel
theorem dL_toShow_8 : decode cL_toShow 8 = .ok (.lastore, 1) := by decide +kernel
theorem dL_toShow_9 : decode cL_toShow 9 = .ok (.goto 6, 3) := by decide +kernel
theorem dL_toShow_12 : decode cL_toShow 12 = .ok (.astore_n 3, 1) := by decide +kernel
theorem dL_toShow_13 : decode cL_toShow 13 = .ok (.iconst 1, 1) := by decide +kernel
theorem dL_toShow_14 : decode cL_toShow 14 = .ok (.ireturn, 1) := by decide +kernel
theorem dL_toShow_15 : decode cL_toShow 15 = .ok (.iconst 0, 1) := by decide +kernel
theorem dL_toShow_16 : decode cL_toShow 16 = .ok (.ireturn, 1) := by decide +kernel
set_option maxRecDepth 20000 in
theorem ggL_law_X3_init : GoodIn wsL_law wsX3_init := goodIn_r _ [9, 10, 11, 12, 13, 14, 15, 16, 17, 18, 19, 20, 21, 22, 23, 24, 25, 26, 27, 28, 29, 30, 31, 32, 33, 34, 35, 36, 37, 38, 39, 40, 41, 42, 43, 44, 45, 46, 47, 48, 49, 50, 51, 614, 615, 616, 617, 618, 619, 620, 603, 604, 605, 621, 622, 623, 624, 625] (by decide +kernel) (by decide +kernel)
set_option maxRecDepth 20000 in
theorem gL_law_X3_init : GoodIn wsL_law (wsX3_init) := ggL_law_X3_init
set_option maxRecDepth 20000 in
theorem ggL_law_X4_init : GoodIn wsL_law wsX4_init := goodIn_r _ [54, 55, 11, 12, 29, 56, 57, 58, 59, 606, 607, 608, 609, 610, 611, 612, 613] (by decide +kernel) (by decide +kernel)
set_option maxRecDepth 20000 in
theorem gL_law_X4_init : GoodIn wsL_law (wsX4_init) := ggL_law_X4_init
set_option maxRecDepth 20000 in
theorem ggL_law_L_move : GoodIn wsL_law wsL_move := goodIn_ca (goodIn_ca (goodIn_ca (goodIn_r _ [63, 64, 65, 66, 67, 68, 69, 2, 70, 71, 72, 16, 20, 73, 74, 75, 76, 77, 78, 79, 80, 81, 82, 83, 84, 85, 15, 86, 30, 87, 88, 89, 90, 31, 32, 91, 92, 93, 19, 94, 44, 43, 42, 95, 96, 97, 98, 33, 34, 35, 36, 99, 100, 101, 102, 603, 604, 605, 614, 615, 616, 617, 618, 619, 620, 621, 622, 623] (by decide +kernel) (by decide +kernel)) (goodIn_sub (fun _ h => List.mem_append_left _ (List.mem_append_left _ (List.mem_append_right _ h))) (by decide +kernel))) (goodIn_sub (fun _ h => List.mem_append_left _ (List.mem_append_right _ h)) (by decide +kernel))) (goodIn_sub (fun _ h => List.mem_append_right _ h) (by decide +kernel))
set_option maxRecDepth 20000 in
theorem gL_law_L_move : GoodIn wsL_law (va_wsS RL 65 yL_move wsL_move) := goodIn_app (goodIn_of _ (by decide +kernel)) ggL_law_L_move
set_option maxRecDepth 20000 in
theorem ggL_law_X4_move : GoodIn wsL_law wsX4_move := goodIn_r _ [106, 107, 108, 5, 109, 110, 111, 112, 113, 114, 115, 116, 56, 117, 118, 119, 120, 121, 122, 123, 124, 125, 126, 127, 128, 129, 58, 130, 131, 132, 133, 134, 135, 136, 137, 138, 139, 140, 606, 607, 608, 609, 610, 611, 612, 613] (by decide +kernel) (by decide +kernel)
set_option maxRecDepth 20000 in
theorem gL_law_X4_move : GoodIn wsL_law (wsV RL 70 RX4 yX4_move wsX4_move) := goodIn_app (goodIn_of _ (by decide +kernel)) ggL_law_X4_move
set_option maxRecDepth 20000 in
theorem ggL_law_X4_thrown : GoodIn wsL_law wsX4_thrown := goodIn_r _ [144, 124, 606, 607, 608, 609, 610, 611, 612, 613] (by decide +kernel) (by decide +kernel)
set_option maxRecDepth 20000 in
theorem gL_law_X4_thrown : GoodIn wsL_law (wsV RL 71 RX4 yX4_thrown wsX4_thrown) := goodIn_app (goodIn_of _ (by decide +kernel)) ggL_law_X4_thrown
set_option maxRecDepth 20000 in
theorem ggL_law_L_stick : GoodIn wsL_law wsL_stick := goodIn_ca (goodIn_ca (goodIn_r _ [147, 64, 65, 148, 149, 150, 2, 151, 20, 16, 152, 73, 74, 75, 76, 77, 78, 79, 80, 81, 82, 91, 92, 93, 19, 94, 44, 43, 42, 95, 96, 97, 15, 98, 30, 31, 32, 33, 34, 35, 36, 603, 604, 605, 614, 615, 616, 617, 618, 619, 620, 621, 622, 623] (by decide +kernel) (by decide +kernel)) (goodIn_sub (fun _ h => List.mem_append_left _ (List.mem_append_right _ h)) (by decide +kernel))) (goodIn_sub (fun _ h => List.mem_append_right _ h) (by decide +kernel))
set_option maxRecDepth 20000 in
theorem gL_law_L_stick : GoodIn wsL_law (va_wsS RL 74 yL_stick wsL_stick) := goodIn_app (goodIn_of _ (by decide +kernel)) ggL_law_L_stick
set_option maxRecDepth 20000 in
theorem ggL_law_X4_stick : GoodIn wsL_law wsX4_stick := goodIn_r _ [156, 107, 108, 5, 109, 110, 111, 112, 120, 121, 122, 123, 124, 117, 118, 119, 157, 158, 159, 160, 56, 125, 126, 127, 128, 129, 58, 606, 607, 608, 609, 610, 611, 612, 613] (by decide +kernel) (by decide +kernel)
set_option maxRecDepth 20000 in
theorem gL_law_X4_stick : GoodIn wsL_law (wsV RL 77 RX4 yX4_stick wsX4_stick) := goodIn_app (goodIn_of _ (by decide +kernel)) ggL_law_X4_stick
set_option maxRecDepth 20000 in
theorem ggL_law_L_set : GoodIn wsL_law wsL_set := goodIn_ca (goodIn_r _ [163, 65, 164, 165, 166, 2, 167, 20, 16, 168, 78, 79, 80, 81, 82, 91, 92, 93, 19, 94, 44, 43, 42, 95, 96, 97, 15, 98, 30, 31, 32, 33, 34, 35, 36, 603, 604, 605, 614, 615, 616, 617, 618, 619, 620, 621, 622, 623] (by decide +kernel) (by decide +kernel)) (goodIn_sub (fun _ h => List.mem_append_right _ h) (by decide +kernel))
set_option maxRecDepth 20000 in
theorem gL_law_L_set : GoodIn wsL_law (va_wsS RL 78 yL_set wsL_set) := goodIn_app (goodIn_of _ (by decide +kernel)) ggL_law_L_set
set_option maxRecDepth 20000 in
theorem ggL_law_X4_set : GoodIn wsL_law wsX4_set := goodIn_r _ [172, 110, 111, 5, 112, 120, 121, 122, 123, 124, 157, 158, 159, 160, 56, 125, 126, 127, 128, 129, 58, 606, 607, 608, 609, 610, 611, 612, 613] (by decide +kernel) (by decide +kernel)
set_option maxRecDepth 20000 in
theorem gL_law_X4_set : GoodIn wsL_law (wsV RL 81 RX4 yX4_set wsX4_set) := goodIn_app (goodIn_of _ (by decide +kernel)) ggL_law_X4_set
set_option maxRecDepth 20000 in
theorem ggL_law_L_add : GoodIn wsL_law wsL_add := goodIn_ca (goodIn_ca (goodIn_ca (goodIn_r _ [175, 64, 65, 66, 176, 177, 178, 2, 179, 73, 74, 75, 76, 77, 78, 79, 80, 81, 82, 180, 181, 182, 183, 71, 72, 16, 20, 184, 185, 186, 15, 187, 188, 189, 190, 191, 30, 31, 192, 193, 194, 195, 196, 84, 85, 86, 87, 88, 89, 90, 32, 197, 100, 101, 102, 34, 198, 199, 200, 201, 202, 203, 204, 205, 33, 36, 35, 91, 92, 93, 19, 94, 44, 43, 42, 95, 96, 97, 98, 603, 604, 605, 614, 615, 616, 617, 618, 619, 620, 621, 622, 623] (by decide +kernel) (by decide +kernel)) (goodIn_sub (fun _ h => List.mem_append_left _ (List.mem_append_right _ h)) (by decide +kernel))) (goodIn_sub (fun _ h => List.mem_append_right _ h) (by decide +kernel))) (goodIn_sub (fun _ h => List.mem_append_left _ (List.mem_append_left _ (List.mem_append_right _ h))) (by decide +kernel))
set_option maxRecDepth 20000 in
theorem gL_law_L_add : GoodIn wsL_law (va_wsS RL 82 yL_add wsL_add) := goodIn_app (goodIn_of _ (by decide +kernel)) ggL_law_L_add
set_option maxRecDepth 20000 in
theorem ggL_law_X4_add : GoodIn wsL_law wsX4_add := goodIn_r _ [209, 107, 108, 5, 109, 110, 111, 112, 210, 211, 212, 213, 214, 215, 216, 217, 56, 117, 118, 119, 218, 219, 220, 221, 222, 223, 224, 225, 57, 226, 227, 228, 229, 230, 231, 232, 233, 234, 235, 236, 237, 238, 239, 240, 241, 113, 114, 115, 116, 134, 135, 136, 137, 138, 139, 140, 242, 243, 244, 245, 130, 131, 132, 133, 246, 247, 248, 249, 250, 251, 252, 253, 254, 255, 256, 257, 258, 259, 260, 261, 120, 121, 122, 123, 124, 262, 263, 264, 265, 125, 126, 127, 128, 129, 58, 606, 607, 608, 609, 610, 611, 612, 613] (by decide +kernel) (by decide +kernel)
set_option maxRecDepth 20000 in
theorem gL_law_X4_add : GoodIn wsL_law (wsV RL 84 RX4 yX4_add wsX4_add) := goodIn_app (goodIn_of _ (by decide +kernel)) ggL_law_X4_add
set_option maxRecDepth 20000 in
theorem ggL_law_L_less : GoodIn wsL_law wsL_less := goodIn_ca (goodIn_ca (goodIn_ca (goodIn_r _ [268, 64, 65, 66, 269, 270, 271, 2, 272, 73, 74, 75, 76, 77, 78, 79, 80, 81, 82, 180, 181, 182, 183, 71, 72, 16, 20, 184, 185, 186, 15, 187, 188, 189, 190, 191, 30, 31, 192, 193, 194, 195, 196, 84, 85, 86, 87, 88, 89, 90, 32, 197, 100, 101, 102, 34, 198, 199, 200, 201, 202, 203, 204, 205, 33, 36, 35, 91, 92, 93, 19, 94, 44, 43, 42, 95, 96, 97, 98, 603, 604, 605, 614, 615, 616, 617, 618, 619, 620, 621, 622, 623] (by decide +kernel) (by decide +kernel)) (goodIn_sub (fun _ h => List.mem_append_left _ (List.mem_append_right _ h)) (by decide +kernel))) (goodIn_sub (fun _ h => List.mem_append_right _ h) (by decide +kernel))) (goodIn_sub (fun _ h => List.mem_append_left _ (List.mem_append_left _ (List.mem_append_right _ h))) (by decide +kernel))
set_option maxRecDepth 20000 in
theorem gL_law_L_less : GoodIn wsL_law (va_wsS RL 85 yL_less wsL_less) := goodIn_app (goodIn_of _ (by decide +kernel)) ggL_law_L_less
set_option maxRecDepth 20000 in
theorem ggL_law_X4_less : GoodIn wsL_law wsX4_less := goodIn_r _ [276, 107, 108, 5, 109, 110, 111, 112, 210, 211, 212, 213, 214, 215, 216, 217, 56, 117, 118, 119, 218, 219, 220, 221, 222, 223, 224, 225, 57, 226, 227, 228, 229, 230, 231, 232, 233, 234, 235, 236, 237, 238, 239, 240, 241, 113, 114, 115, 116, 134, 135, 136, 137, 138, 139, 140, 242, 243, 244, 245, 130, 131, 132, 133, 246, 247, 248, 249, 250, 251, 252, 253, 254, 255, 256, 257, 258, 259, 260, 261, 120, 121, 122, 123, 124, 262, 263, 264, 265, 125, 126, 127, 128, 129, 58, 606, 607, 608, 609, 610, 611, 612, 613] (by decide +kernel) (by decide +kernel)
set_option maxRecDepth 20000 in
theorem gL_law_X4_less : GoodIn wsL_law (wsV RL 87 RX4 yX4_less wsX4_less) := goodIn_app (goodIn_of _ (by decide +kernel)) ggL_law_X4_less
set_option maxRecDepth 20000 in
theorem ggL_law_L_pay : GoodIn wsL_law wsL_pay := goodIn_ca (goodIn_ca (goodIn_r _ [279, 64, 66, 280, 281, 282, 2, 283, 71, 72, 16, 284, 20, 73, 74, 75, 76, 77, 184, 185, 186, 15, 187, 188, 189, 190, 191, 30, 31, 192, 193, 194, 195, 196, 84, 85, 86, 87, 88, 89, 90, 32, 197, 100, 101, 102, 34, 198, 199, 200, 201, 202, 203, 204, 205, 33, 36, 35, 91, 92, 93, 19, 94, 44, 43, 42, 95, 96, 97, 98, 285, 286, 287, 288, 289, 603, 604, 605, 614, 615, 616, 617, 618, 619, 620, 621, 622, 623] (by decide +kernel) (by decide +kernel)) (goodIn_sub (fun _ h => List.mem_append_left _ (List.mem_append_left _ (List.mem_append_right _ h))) (by decide +kernel))) (goodIn_sub (fun _ h => List.mem_append_left _ (List.mem_append_right _ h)) (by decide +kernel))
set_option maxRecDepth 20000 in
theorem gL_law_L_pay : GoodIn wsL_law (va_wsS RL 88 yL_pay wsL_pay) := goodIn_app (goodIn_of _ (by decide +kernel)) ggL_law_L_pay
set_option maxRecDepth 20000 in
theorem ggL_law_X4_pay : GoodIn wsL_law wsX4_pay := goodIn_r _ [293, 107, 108, 5, 109, 110, 111, 112, 210, 211, 212, 213, 214, 215, 216, 217, 56, 117, 118, 119, 218, 219, 220, 221, 222, 223, 224, 225, 57, 226, 227, 228, 229, 230, 231, 232, 233, 234, 235, 236, 237, 238, 239, 240, 241, 113, 114, 115, 116, 134, 135, 136, 137, 138, 139, 140, 242, 243, 244, 245, 130, 131, 132, 133, 246, 247, 248, 249, 250, 251, 252, 253, 254, 255, 256, 257, 258, 259, 260, 261, 120, 121, 122, 123, 124, 262, 263, 264, 265, 125, 126, 127, 128, 129, 58, 606, 607, 608, 609, 610, 611, 612, 613] (by decide +kernel) (by decide +kernel)
set_option maxRecDepth 20000 in
theorem gL_law_X4_pay : GoodIn wsL_law (wsV RL 90 RX4 yX4_pay wsX4_pay) := goodIn_app (goodIn_of _ (by decide +kernel)) ggL_law_X4_pay
set_option maxRecDepth 20000 in
theorem ggL_law_X3_tidy : GoodIn wsL_law wsX3_tidy := goodIn_r _ [297, 20, 16, 91, 92, 93, 19, 94, 44, 43, 42, 95, 96, 97, 15, 98, 30, 31, 32, 33, 34, 35, 36, 285, 286, 287, 288, 289, 185, 186, 187, 188, 189, 190, 191, 192, 193, 194, 195, 196, 84, 85, 86, 87, 88, 89, 90, 197, 100, 101, 102, 198, 199, 200, 201, 202, 203, 204, 205, 298, 299, 300, 301, 603, 604, 605, 621, 622, 623, 614, 615, 616, 617, 618, 619, 620] (by decide +kernel) (by decide +kernel)
set_option maxRecDepth 20000 in
theorem gL_law_X3_tidy : GoodIn wsL_law (wsV RL 91 RX3 yX3_tidy wsX3_tidy) := goodIn_app (goodIn_of _ (by decide +kernel)) ggL_law_X3_tidy
set_option maxRecDepth 20000 in
theorem ggL_law_X4_tidy : GoodIn wsL_law wsX4_tidy := goodIn_r _ [305, 124, 125, 126, 127, 5, 128, 129, 58, 56, 214, 215, 216, 217, 117, 118, 119, 218, 219, 220, 221, 222, 223, 224, 225, 57, 226, 227, 228, 229, 230, 231, 232, 233, 234, 235, 236, 237, 238, 239, 240, 241, 110, 111, 112, 113, 114, 115, 116, 134, 135, 136, 137, 138, 139, 140, 242, 243, 244, 245, 130, 131, 132, 133, 246, 247, 248, 249, 250, 251, 252, 253, 254, 255, 256, 257, 258, 259, 260, 261, 606, 607, 608, 609, 610, 611, 612, 613] (by decide +kernel) (by decide +kernel)
set_option maxRecDepth 20000 in
theorem gL_law_X4_tidy : GoodIn wsL_law (wsV RL 94 RX4 yX4_tidy wsX4_tidy) := goodIn_app (goodIn_of _ (by decide +kernel)) ggL_law_X4_tidy
set_option maxRecDepth 20000 in
theorem ggL_law_L_append : GoodIn wsL_law wsL_append := goodIn_ca (goodIn_ca (goodIn_r _ [308, 65, 66, 309, 310, 311, 2, 312, 71, 72, 24, 313, 314, 78, 79, 80, 81, 82, 603, 604, 605, 624, 625] (by decide +kernel) (by decide +kernel)) (goodIn_sub (fun _ h => List.mem_append_left _ (List.mem_append_left _ (List.mem_append_right _ h))) (by decide +kernel))) (goodIn_sub (fun _ h => List.mem_append_right _ h) (by decide +kernel))
set_option maxRecDepth 20000 in
theorem gL_law_L_append : GoodIn wsL_law (va_wsS RL 95 yL_append wsL_append) := goodIn_app (goodIn_of _ (by decide +kernel)) ggL_law_L_append
set_option maxRecDepth 20000 in
theorem ggL_law_X4_append : GoodIn wsL_law wsX4_append := goodIn_r _ [318, 319, 59, 110, 111, 5, 112, 120, 121, 122, 123, 124, 606, 607, 608, 609, 610, 611, 612, 613] (by decide +kernel) (by decide +kernel)
set_option maxRecDepth 20000 in
theorem gL_law_X4_append : GoodIn wsL_law (wsV RL 97 RX4 yX4_append wsX4_append) := goodIn_app (goodIn_of _ (by decide +kernel)) ggL_law_X4_append
set_option maxRecDepth 20000 in
theorem ggL_law_X3_clearBuffer : GoodIn wsL_law wsX3_clearBuffer := goodIn_r _ [323, 24, 313, 603, 604, 605, 624, 625] (by decide +kernel) (by decide +kernel)
set_option maxRecDepth 20000 in
theorem gL_law_X3_clearBuffer : GoodIn wsL_law (wsV RL 98 RX3 yX3_clearBuffer wsX3_clearBuffer) := goodIn_app (goodIn_of _ (by decide +kernel)) ggL_law_X3_clearBuffer
set_option maxRecDepth 20000 in
theorem ggL_law_X4_clearBuffer : GoodIn wsL_law wsX4_clearBuffer := goodIn_r _ [327, 124, 319, 606, 607, 608, 609, 610, 611, 612, 613] (by decide +kernel) (by decide +kernel)
set_option maxRecDepth 20000 in
theorem gL_law_X4_clearBuffer : GoodIn wsL_law (wsV RL 101 RX4 yX4_clearBuffer wsX4_clearBuffer) := goodIn_app (goodIn_of _ (by decide +kernel)) ggL_law_X4_clearBuffer
set_option maxRecDepth 20000 in
theorem ggL_law_X3_firstError : GoodIn wsL_law wsX3_firstError := goodIn_r _ [331, 24, 332, 333, 334, 23, 335, 51, 50, 336, 2, 337, 338, 339, 603, 604, 605, 624, 625] (by decide +kernel) (by decide +kernel)
set_option maxRecDepth 20000 in
theorem gL_law_X3_firstError : GoodIn wsL_law (wsV RL 102 RX3 yX3_firstError wsX3_firstError) := goodIn_app (goodIn_of _ (by decide +kernel)) ggL_law_X3_firstError
set_option maxRecDepth 20000 in
theorem ggL_law_X4_firstError : GoodIn wsL_law wsX4_firstError := goodIn_r _ [343, 124, 344, 345, 346, 5, 347, 319, 59, 110, 111, 112, 606, 607, 608, 609, 610, 611, 612, 613] (by decide +kernel) (by decide +kernel)
set_option maxRecDepth 20000 in
theorem gL_law_X4_firstError : GoodIn wsL_law (wsV RL 105 RX4 yX4_firstError wsX4_firstError) := goodIn_app (goodIn_of _ (by decide +kernel)) ggL_law_X4_firstError
set_option maxRecDepth 20000 in
theorem ggL_law_L_reckon : GoodIn wsL_law wsL_reckon := goodIn_ca (goodIn_r _ [350, 65, 351, 352, 353, 2, 354, 81, 82, 24, 20, 16, 313, 314, 355, 356, 357, 23, 358, 51, 50, 359, 333, 334, 335, 336, 337, 338, 339, 91, 92, 93, 19, 94, 44, 43, 42, 95, 96, 97, 15, 98, 30, 31, 32, 33, 34, 35, 36, 360, 361, 362, 363, 364, 365, 366, 367, 368, 184, 185, 186, 187, 188, 189, 190, 191, 192, 193, 194, 195, 196, 84, 85, 86, 87, 88, 89, 90, 197, 100, 101, 102, 198, 199, 200, 201, 202, 203, 204, 205, 603, 604, 605, 624, 625, 621, 622, 623, 614, 615, 616, 617, 618, 619, 620] (by decide +kernel) (by decide +kernel)) (goodIn_sub (fun _ h => List.mem_append_right _ h) (by decide +kernel))
set_option maxRecDepth 20000 in
theorem gL_law_L_reckon : GoodIn wsL_law (va_wsS RL 106 yL_reckon wsL_reckon) := goodIn_app (goodIn_of _ (by decide +kernel)) ggL_law_L_reckon
set_option maxRecDepth 20000 in
theorem ggL_law_X4_reckon : GoodIn wsL_law wsX4_reckon := goodIn_r _ [372, 319, 59, 344, 345, 346, 5, 347, 110, 111, 112, 120, 121, 122, 123, 124, 125, 126, 127, 128, 129, 58, 56, 373, 374, 375, 376, 377, 378, 379, 380, 218, 219, 220, 221, 222, 223, 224, 225, 57, 226, 227, 228, 229, 230, 231, 232, 233, 117, 118, 119, 234, 235, 236, 237, 238, 239, 240, 241, 113, 114, 115, 116, 134, 135, 136, 137, 138, 139, 140, 242, 243, 244, 245, 130, 131, 132, 133, 246, 247, 248, 249, 250, 251, 252, 253, 254, 255, 256, 257, 258, 259, 260, 261, 606, 607, 608, 609, 610, 611, 612, 613] (by decide +kernel) (by decide +kernel)
set_option maxRecDepth 20000 in
theorem gL_law_X4_reckon : GoodIn wsL_law (wsV RL 109 RX4 yX4_reckon wsX4_reckon) := goodIn_app (goodIn_of _ (by decide +kernel)) ggL_law_X4_reckon
set_option maxRecDepth 20000 in
theorem ggL_law_L_undo : GoodIn wsL_law wsL_undo := goodIn_ca (goodIn_r _ [383, 66, 384, 385, 386, 2, 387, 71, 72, 20, 388, 16, 389, 390, 391, 19, 392, 44, 42, 43, 95, 96, 97, 15, 98, 30, 31, 32, 33, 34, 35, 36, 603, 604, 605, 621, 622, 623, 614, 615, 616, 617, 618, 619, 620] (by decide +kernel) (by decide +kernel)) (goodIn_sub (fun _ h => List.mem_append_left _ (List.mem_append_left _ (List.mem_append_right _ h))) (by decide +kernel))
set_option maxRecDepth 20000 in
theorem gL_law_L_undo : GoodIn wsL_law (va_wsS RL 110 yL_undo wsL_undo) := goodIn_app (goodIn_of _ (by decide +kernel)) ggL_law_L_undo
set_option maxRecDepth 20000 in
theorem ggL_law_X4_undo : GoodIn wsL_law wsX4_undo := goodIn_r _ [396, 129, 56, 58, 120, 121, 122, 5, 123, 124, 606, 607, 608, 609, 610, 611, 612, 613] (by decide +kernel) (by decide +kernel)
set_option maxRecDepth 20000 in
theorem gL_law_X4_undo : GoodIn wsL_law (wsV RL 112 RX4 yX4_undo wsX4_undo) := goodIn_app (goodIn_of _ (by decide +kernel)) ggL_law_X4_undo
set_option maxRecDepth 20000 in
theorem ggL_law_L_rod : GoodIn wsL_law wsL_rod := goodIn_ca (goodIn_ca (goodIn_r _ [399, 64, 65, 400, 401, 402, 2, 403, 16, 404, 405, 284, 152, 406, 407, 73, 74, 75, 76, 77, 78, 79, 80, 81, 82, 408, 189, 190, 15, 191, 30, 31, 409, 410, 411, 412, 192, 193, 194, 195, 196, 84, 85, 86, 87, 88, 89, 90, 32, 197, 100, 101, 102, 34, 603, 604, 605, 614, 615, 616, 617, 618, 619, 620] (by decide +kernel) (by decide +kernel)) (goodIn_sub (fun _ h => List.mem_append_left _ (List.mem_append_right _ h)) (by decide +kernel))) (goodIn_sub (fun _ h => List.mem_append_right _ h) (by decide +kernel))
set_option maxRecDepth 20000 in
theorem gL_law_L_rod : GoodIn wsL_law (va_wsS RL 113 yL_rod wsL_rod) := goodIn_app (goodIn_of _ (by decide +kernel)) ggL_law_L_rod
set_option maxRecDepth 20000 in
theorem ggL_law_X4_rod : GoodIn wsL_law wsX4_rod := goodIn_r _ [416, 107, 108, 5, 109, 110, 111, 112, 120, 121, 122, 123, 124, 417, 418, 419, 420, 56, 117, 118, 119, 230, 231, 232, 233, 421, 422, 423, 424, 234, 235, 236, 237, 238, 239, 240, 241, 113, 114, 115, 116, 134, 135, 136, 137, 138, 139, 140, 606, 607, 608, 609, 610, 611, 612, 613] (by decide +kernel) (by decide +kernel)
set_option maxRecDepth 20000 in
theorem gL_law_X4_rod : GoodIn wsL_law (wsV RL 115 RX4 yX4_rod wsX4_rod) := goodIn_app (goodIn_of _ (by decide +kernel)) ggL_law_X4_rod
set_option maxRecDepth 20000 in
theorem ggL_law_X3_whole : GoodIn wsL_law wsX3_whole := goodIn_r _ [428, 16, 284, 429, 408, 189, 190, 15, 191, 30, 31, 603, 604, 605, 614, 615, 616, 617, 618, 619, 620] (by decide +kernel) (by decide +kernel)
set_option maxRecDepth 20000 in
theorem gL_law_X3_whole : GoodIn wsL_law (wsV RL 116 RX3 yX3_whole wsX3_whole) := goodIn_app (goodIn_of _ (by decide +kernel)) ggL_law_X3_whole
set_option maxRecDepth 20000 in
theorem ggL_law_X4_whole : GoodIn wsL_law wsX4_whole := goodIn_r _ [433, 124, 434, 435, 436, 5, 437, 438, 56, 230, 231, 232, 233, 117, 118, 119, 606, 607, 608, 609, 610, 611, 612, 613] (by decide +kernel) (by decide +kernel)
set_option maxRecDepth 20000 in
theorem gL_law_X4_whole : GoodIn wsL_law (wsV RL 120 RX4 yX4_whole wsX4_whole) := goodIn_app (goodIn_of _ (by decide +kernel)) ggL_law_X4_whole
set_option maxRecDepth 20000 in
theorem ggL_law_L_count : GoodIn wsL_law wsL_count := goodIn_ca (goodIn_r _ [441, 65, 442, 443, 444, 2, 445, 16, 168, 20, 388, 78, 79, 80, 81, 82, 446, 447, 448, 15, 449, 34, 450, 451, 452, 453, 33, 454, 455, 456, 457, 458, 459, 460, 461, 188, 189, 190, 191, 30, 31, 462, 463, 464, 465, 466, 467, 468, 469, 470, 471, 472, 473, 32, 603, 604, 605, 614, 615, 616, 617, 618, 619, 620, 621, 622, 623] (by decide +kernel) (by decide +kernel)) (goodIn_sub (fun _ h => List.mem_append_right _ h) (by decide +kernel))
set_option maxRecDepth 20000 in
theorem gL_law_L_count : GoodIn wsL_law (va_wsS RL 121 yL_count wsL_count) := goodIn_app (goodIn_of _ (by decide +kernel)) ggL_law_L_count
set_option maxRecDepth 20000 in
theorem ggL_law_X4_count : GoodIn wsL_law wsX4_count := goodIn_r _ [477, 110, 111, 5, 112, 120, 121, 122, 123, 124, 478, 479, 480, 481, 56, 129, 214, 215, 216, 217, 117, 118, 119, 482, 483, 484, 485, 230, 231, 232, 233, 606, 607, 608, 609, 610, 611, 612, 613] (by decide +kernel) (by decide +kernel)
set_option maxRecDepth 20000 in
theorem gL_law_X4_count : GoodIn wsL_law (wsV RL 123 RX4 yX4_count wsX4_count) := goodIn_app (goodIn_of _ (by decide +kernel)) ggL_law_X4_count
set_option maxRecDepth 20000 in
theorem ggL_law_L_moves : GoodIn wsL_law wsL_moves := goodIn_ca (goodIn_ca (goodIn_r _ [488, 64, 65, 489, 490, 491, 2, 492, 16, 73, 74, 75, 76, 77, 78, 79, 80, 81, 82, 493, 193, 194, 15, 195, 196, 84, 85, 86, 30, 87, 88, 89, 90, 31, 32, 197, 100, 101, 102, 34, 603, 604, 605, 614, 615, 616, 617, 618, 619, 620] (by decide +kernel) (by decide +kernel)) (goodIn_sub (fun _ h => List.mem_append_left _ (List.mem_append_right _ h)) (by decide +kernel))) (goodIn_sub (fun _ h => List.mem_append_right _ h) (by decide +kernel))
set_option maxRecDepth 20000 in
theorem gL_law_L_moves : GoodIn wsL_law (va_wsS RL 124 yL_moves wsL_moves) := goodIn_app (goodIn_of _ (by decide +kernel)) ggL_law_L_moves
set_option maxRecDepth 20000 in
theorem ggL_law_X4_moves : GoodIn wsL_law wsX4_moves := goodIn_r _ [497, 107, 108, 5, 109, 110, 111, 112, 120, 121, 122, 123, 124, 498, 499, 500, 501, 238, 239, 240, 241, 113, 114, 115, 116, 56, 117, 118, 119, 134, 135, 136, 137, 138, 139, 140, 606, 607, 608, 609, 610, 611, 612, 613] (by decide +kernel) (by decide +kernel)
set_option maxRecDepth 20000 in
theorem gL_law_X4_moves : GoodIn wsL_law (wsV RL 126 RX4 yX4_moves wsX4_moves) := goodIn_app (goodIn_of _ (by decide +kernel)) ggL_law_X4_moves
set_option maxRecDepth 20000 in
theorem ggL_law_L_ifAdded : GoodIn wsL_law wsL_ifAdded := goodIn_ca (goodIn_ca (goodIn_r _ [504, 64, 65, 505, 506, 507, 2, 508, 16, 73, 74, 75, 76, 77, 78, 79, 80, 81, 82, 184, 185, 186, 15, 187, 188, 189, 190, 191, 30, 31, 192, 193, 194, 195, 196, 84, 85, 86, 87, 88, 89, 90, 32, 197, 100, 101, 102, 34, 198, 199, 200, 201, 202, 203, 204, 205, 33, 36, 35, 603, 604, 605, 614, 615, 616, 617, 618, 619, 620] (by decide +kernel) (by decide +kernel)) (goodIn_sub (fun _ h => List.mem_append_left _ (List.mem_append_right _ h)) (by decide +kernel))) (goodIn_sub (fun _ h => List.mem_append_right _ h) (by decide +kernel))
set_option maxRecDepth 20000 in
theorem gL_law_L_ifAdded : GoodIn wsL_law (va_wsS RL 127 yL_ifAdded wsL_ifAdded) := goodIn_app (goodIn_of _ (by decide +kernel)) ggL_law_L_ifAdded
set_option maxRecDepth 20000 in
theorem ggL_law_X4_ifAdded : GoodIn wsL_law wsX4_ifAdded := goodIn_r _ [512, 107, 108, 5, 109, 110, 111, 112, 120, 121, 122, 123, 124, 210, 211, 212, 213, 214, 215, 216, 217, 56, 117, 118, 119, 218, 219, 220, 221, 222, 223, 224, 225, 57, 226, 227, 228, 229, 230, 231, 232, 233, 234, 235, 236, 237, 238, 239, 240, 241, 113, 114, 115, 116, 134, 135, 136, 137, 138, 139, 140, 242, 243, 244, 245, 130, 131, 132, 133, 246, 247, 248, 249, 250, 251, 252, 253, 254, 255, 256, 257, 258, 259, 260, 261, 606, 607, 608, 609, 610, 611, 612, 613] (by decide +kernel) (by decide +kernel)
set_option maxRecDepth 20000 in
theorem gL_law_X4_ifAdded : GoodIn wsL_law (wsV RL 129 RX4 yX4_ifAdded wsX4_ifAdded) := goodIn_app (goodIn_of _ (by decide +kernel)) ggL_law_X4_ifAdded
set_option maxRecDepth 20000 in
theorem ggL_law_L_toShow : GoodIn wsL_law wsL_toShow := goodIn_ca (goodIn_r _ [515, 65, 516, 517, 518, 2, 519, 520, 16, 78, 79, 80, 81, 82, 493, 193, 194, 15, 195, 196, 84, 85, 86, 30, 87, 88, 89, 90, 31, 32, 197, 100, 101, 102, 34, 603, 604, 605, 614, 615, 616, 617, 618, 619, 620] (by decide +kernel) (by decide +kernel)) (goodIn_sub (fun _ h => List.mem_append_right _ h) (by decide +kernel))
set_option maxRecDepth 20000 in
theorem gL_law_L_toShow : GoodIn wsL_law (va_wsS RL 130 yL_toShow wsL_toShow) := goodIn_app (goodIn_of _ (by decide +kernel)) ggL_law_L_toShow
set_option maxRecDepth 20000 in
theorem ggL_law_X4_toShow : GoodIn wsL_law wsX4_toShow := goodIn_r _ [524, 525, 110, 111, 5, 112, 120, 121, 122, 123, 124, 526, 527, 528, 529, 498, 499, 500, 501, 238, 239, 240, 241, 113, 114, 115, 116, 56, 117, 118, 119, 134, 135, 136, 137, 138, 139, 140, 606, 607, 608, 609, 610, 611, 612, 613] (by decide +kernel) (by decide +kernel)
set_option maxRecDepth 20000 in
theorem gL_law_X4_toShow : GoodIn wsL_law (wsV RL 132 RX4 yX4_toShow wsX4_toShow) := goodIn_app (goodIn_of _ (by decide +kernel)) ggL_law_X4_toShow
set_option maxRecDepth 20000 in
theorem ggL_law_X3_cheapestLoan : GoodIn wsL_law wsX3_cheapestLoan := goodIn_r _ [533, 16, 284, 184, 185, 186, 15, 187, 188, 189, 190, 191, 30, 31, 192, 193, 194, 195, 196, 84, 85, 86, 87, 88, 89, 90, 32, 197, 100, 101, 102, 34, 198, 199, 200, 201, 202, 203, 204, 205, 33, 36, 35, 603, 604, 605, 614, 615, 616, 617, 618, 619, 620] (by decide +kernel) (by decide +kernel)
set_option maxRecDepth 20000 in
theorem gL_law_X3_cheapestLoan : GoodIn wsL_law (wsV RL 133 RX3 yX3_cheapestLoan wsX3_cheapestLoan) := goodIn_app (goodIn_of _ (by decide +kernel)) ggL_law_X3_cheapestLoan
set_option maxRecDepth 20000 in
theorem ggL_law_X4_cheapestLoan : GoodIn wsL_law wsX4_cheapestLoan := goodIn_r _ [537, 124, 538, 539, 540, 5, 541, 56, 117, 118, 119, 210, 211, 212, 213, 214, 215, 216, 217, 218, 219, 220, 221, 222, 223, 224, 225, 57, 226, 227, 228, 229, 230, 231, 232, 233, 234, 235, 236, 237, 238, 239, 240, 241, 110, 111, 112, 113, 114, 115, 116, 134, 135, 136, 137, 138, 139, 140, 242, 243, 244, 245, 130, 131, 132, 133, 246, 247, 248, 249, 250, 251, 252, 253, 254, 255, 256, 257, 258, 259, 260, 261, 606, 607, 608, 609, 610, 611, 612, 613] (by decide +kernel) (by decide +kernel)
set_option maxRecDepth 20000 in
theorem gL_law_X4_cheapestLoan : GoodIn wsL_law (wsV RL 136 RX4 yX4_cheapestLoan wsX4_cheapestLoan) := goodIn_app (goodIn_of _ (by decide +kernel)) ggL_law_X4_cheapestLoan
set_option maxRecDepth 20000 in
theorem ggL_law_X3_looseness : GoodIn wsL_law wsX3_looseness := goodIn_r _ [545, 16, 546, 409, 410, 411, 15, 412, 192, 193, 194, 195, 196, 84, 85, 86, 30, 87, 88, 89, 90, 31, 32, 197, 100, 101, 102, 34, 603, 604, 605, 614, 615, 616, 617, 618, 619, 620] (by decide +kernel) (by decide +kernel)
