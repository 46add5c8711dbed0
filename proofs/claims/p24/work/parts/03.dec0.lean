theorem dX0_init_0 : decode cX0_init 0 = .ok (.aload_n 0, 1) := by decide +kernel
theorem dX0_init_1 : decode cX0_init 1 = .ok (.invokespecial 3, 3) := by decide +kernel
theorem dX0_init_4 : decode cX0_init 4 = .ok (.aload_n 0, 1) := by decide +kernel
theorem dX0_init_5 : decode cX0_init 5 = .ok (.bipush 9, 2) := by decide +kernel
theorem dX0_init_7 : decode cX0_init 7 = .ok (.newarray .int, 2) := by decide +kernel
theorem dX0_init_9 : decode cX0_init 9 = .ok (.putfield 9, 3) := by decide +kernel
theorem dX0_init_12 : decode cX0_init 12 = .ok (.aload_n 0, 1) := by decide +kernel
theorem dX0_init_13 : decode cX0_init 13 = .ok (.bipush 9, 2) := by decide +kernel
theorem dX0_init_15 : decode cX0_init 15 = .ok (.newarray .int, 2) := by decide +kernel
theorem dX0_init_17 : decode cX0_init 17 = .ok (.putfield 15, 3) := by decide +kernel
theorem dX0_init_20 : decode cX0_init 20 = .ok (.aload_n 0, 1) := by decide +kernel
theorem dX0_init_21 : decode cX0_init 21 = .ok (.bipush 9, 2) := by decide +kernel
theorem dX0_init_23 : decode cX0_init 23 = .ok (.newarray .int, 2) := by decide +kernel
theorem dX0_init_25 : decode cX0_init 25 = .ok (.putfield 18, 3) := by decide +kernel
theorem dX0_init_28 : decode cX0_init 28 = .ok (.aload_n 0, 1) := by decide +kernel
theorem dX0_init_29 : decode cX0_init 29 = .ok (.bipush 9, 2) := by decide +kernel
theorem dX0_init_31 : decode cX0_init 31 = .ok (.newarray .int, 2) := by decide +kernel
theorem dX0_init_33 : decode cX0_init 33 = .ok (.putfield 21, 3) := by decide +kernel
theorem dX0_init_36 : decode cX0_init 36 = .ok (.aload_n 0, 1) := by decide +kernel
theorem dX0_init_37 : decode cX0_init 37 = .ok (.bipush 9, 2) := by decide +kernel
theorem dX0_init_39 : decode cX0_init 39 = .ok (.newarray .int, 2) := by decide +kernel
theorem dX0_init_41 : decode cX0_init 41 = .ok (.putfield 24, 3) := by decide +kernel
theorem dX0_init_44 : decode cX0_init 44 = .ok (.aload_n 0, 1) := by decide +kernel
theorem dX0_init_45 : decode cX0_init 45 = .ok (.bipush 9, 2) := by decide +kernel
theorem dX0_init_47 : decode cX0_init 47 = .ok (.newarray .int, 2) := by decide +kernel
theorem dX0_init_49 : decode cX0_init 49 = .ok (.putfield 27, 3) := by decide +kernel
theorem dX0_init_52 : decode cX0_init 52 = .ok (.aload_n 0, 1) := by decide +kernel
theorem dX0_init_53 : decode cX0_init 53 = .ok (.iconst 3, 1) := by decide +kernel
theorem dX0_init_54 : decode cX0_init 54 = .ok (.putfield 30, 3) := by decide +kernel
theorem dX0_init_57 : decode cX0_init 57 = .ok (.return_, 1) := by decide +kernel
theorem dX0_copyFrom_0 : decode cX0_copyFrom 0 = .ok (.iconst 0, 1) := by decide +kernel
theorem dX0_copyFrom_1 : decode cX0_copyFrom 1 = .ok (.istore_n 2, 1) := by decide +kernel
theorem dX0_copyFrom_2 : decode cX0_copyFrom 2 = .ok (.iload_n 2, 1) := by decide +kernel
theorem dX0_copyFrom_3 : decode cX0_copyFrom 3 = .ok (.bipush 9, 2) := by decide +kernel
theorem dX0_copyFrom_5 : decode cX0_copyFrom 5 = .ok (.if_icmp .ge 81, 3) := by decide +kernel
theorem dX0_copyFrom_8 : decode cX0_copyFrom 8 = .ok (.aload_n 0, 1) := by decide +kernel
theorem dX0_copyFrom_9 : decode cX0_copyFrom 9 = .ok (.getfield 9, 3) := by decide +kernel
theorem dX0_copyFrom_12 : decode cX0_copyFrom 12 = .ok (.iload_n 2, 1) := by decide +kernel
theorem dX0_copyFrom_13 : decode cX0_copyFrom 13 = .ok (.aload_n 1, 1) := by decide +kernel
theorem dX0_copyFrom_14 : decode cX0_copyFrom 14 = .ok (.getfield 9, 3) := by decide +kernel
theorem dX0_copyFrom_17 : decode cX0_copyFrom 17 = .ok (.iload_n 2, 1) := by decide +kernel
theorem dX0_copyFrom_18 : decode cX0_copyFrom 18 = .ok (.iaload, 1) := by decide +kernel
theorem dX0_copyFrom_19 : decode cX0_copyFrom 19 = .ok (.iastore, 1) := by decide +kernel
theorem dX0_copyFrom_20 : decode cX0_copyFrom 20 = .ok (.aload_n 0, 1) := by decide +kernel
theorem dX0_copyFrom_21 : decode cX0_copyFrom 21 = .ok (.getfield 15, 3) := by decide +kernel
theorem dX0_copyFrom_24 : decode cX0_copyFrom 24 = .ok (.iload_n 2, 1) := by decide +kernel
theorem dX0_copyFrom_25 : decode cX0_copyFrom 25 = .ok (.aload_n 1, 1) := by decide +kernel
theorem dX0_copyFrom_26 : decode cX0_copyFrom 26 = .ok (.getfield 15, 3) := by decide +kernel
theorem dX0_copyFrom_29 : decode cX0_copyFrom 29 = .ok (.iload_n 2, 1) := by decide +kernel
theorem dX0_copyFrom_30 : decode cX0_copyFrom 30 = .ok (.iaload, 1) := by decide +kernel
theorem dX0_copyFrom_31 : decode cX0_copyFrom 31 = .ok (.iastore, 1) := by decide +kernel
theorem dX0_copyFrom_32 : decode cX0_copyFrom 32 = .ok (.aload_n 0, 1) := by decide +kernel
theorem dX0_copyFrom_33 : decode cX0_copyFrom 33 = .ok (.getfield 18, 3) := by decide +kernel
theorem dX0_copyFrom_36 : decode cX0_copyFrom 36 = .ok (.iload_n 2, 1) := by decide +kernel
theorem dX0_copyFrom_37 : decode cX0_copyFrom 37 = .ok (.aload_n 1, 1) := by decide +kernel
theorem dX0_copyFrom_38 : decode cX0_copyFrom 38 = .ok (.getfield 18, 3) := by decide +kernel
theorem dX0_copyFrom_41 : decode cX0_copyFrom 41 = .ok (.iload_n 2, 1) := by decide +kernel
theorem dX0_copyFrom_42 : decode cX0_copyFrom 42 = .ok (.iaload, 1) := by decide +kernel
theorem dX0_copyFrom_43 : decode cX0_copyFrom 43 = .ok (.iastore, 1) := by decide +kernel
theorem dX0_copyFrom_44 : decode cX0_copyFrom 44 = .ok (.aload_n 0, 1) := by decide +kernel
theorem dX0_copyFrom_45 : decode cX0_copyFrom 45 = .ok (.getfield 21, 3) := by decide +kernel
theorem dX0_copyFrom_48 : decode cX0_copyFrom 48 = .ok (.iload_n 2, 1) := by decide +kernel
theorem dX0_copyFrom_49 : decode cX0_copyFrom 49 = .ok (.aload_n 1, 1) := by decide +kernel
theorem dX0_copyFrom_50 : decode cX0_copyFrom 50 = .ok (.getfield 21, 3) := by decide +kernel
theorem dX0_copyFrom_53 : decode cX0_copyFrom 53 = .ok (.iload_n 2, 1) := by decide +kernel
theorem dX0_copyFrom_54 : decode cX0_copyFrom 54 = .ok (.iaload, 1) := by decide +kernel
theorem dX0_copyFrom_55 : decode cX0_copyFrom 55 = .ok (.iastore, 1) := by decide +kernel
theorem dX0_copyFrom_56 : decode cX0_copyFrom 56 = .ok (.aload_n 0, 1) := by decide +kernel
theorem dX0_copyFrom_57 : decode cX0_copyFrom 57 = .ok (.getfield 24, 3) := by decide +kernel
theorem dX0_copyFrom_60 : decode cX0_copyFrom 60 = .ok (.iload_n 2, 1) := by decide +kernel
theorem dX0_copyFrom_61 : decode cX0_copyFrom 61 = .ok (.aload_n 1, 1) := by decide +kernel
theorem dX0_copyFrom_62 : decode cX0_copyFrom 62 = .ok (.getfield 24, 3) := by decide +kernel
theorem dX0_copyFrom_65 : decode cX0_copyFrom 65 = .ok (.iload_n 2, 1) := by decide +kernel
theorem dX0_copyFrom_66 : decode cX0_copyFrom 66 = .ok (.iaload, 1) := by decide +kernel
theorem dX0_copyFrom_67 : decode cX0_copyFrom 67 = .ok (.iastore, 1) := by decide +kernel
theorem dX0_copyFrom_68 : decode cX0_copyFrom 68 = .ok (.aload_n 0, 1) := by decide +kernel
theorem dX0_copyFrom_69 : decode cX0_copyFrom 69 = .ok (.getfield 27, 3) := by decide +kernel
theorem dX0_copyFrom_72 : decode cX0_copyFrom 72 = .ok (.iload_n 2, 1) := by decide +kernel
theorem dX0_copyFrom_73 : decode cX0_copyFrom 73 = .ok (.aload_n 1, 1) := by decide +kernel
theorem dX0_copyFrom_74 : decode cX0_copyFrom 74 = .ok (.getfield 27, 3) := by decide +kernel
theorem dX0_copyFrom_77 : decode cX0_copyFrom 77 = .ok (.iload_n 2, 1) := by decide +kernel
theorem dX0_copyFrom_78 : decode cX0_copyFrom 78 = .ok (.iaload, 1) := by decide +kernel
theorem dX0_copyFrom_79 : decode cX0_copyFrom 79 = .ok (.iastore, 1) := by decide +kernel
theorem dX0_copyFrom_80 : decode cX0_copyFrom 80 = .ok (.iinc 2 1, 3) := by decide +kernel
theorem dX0_copyFrom_83 : decode cX0_copyFrom 83 = .ok (.goto (-81), 3) := by decide +kernel
theorem dX0_copyFrom_86 : decode cX0_copyFrom 86 = .ok (.aload_n 0, 1) := by decide +kernel
theorem dX0_copyFrom_87 : decode cX0_copyFrom 87 = .ok (.aload_n 1, 1) := by decide +kernel
theorem dX0_copyFrom_88 : decode cX0_copyFrom 88 = .ok (.getfield 30, 3) := by decide +kernel
theorem dX0_copyFrom_91 : decode cX0_copyFrom 91 = .ok (.putfield 30, 3) := by decide +kernel
theorem dX0_copyFrom_94 : decode cX0_copyFrom 94 = .ok (.return_, 1) := by decide +kernel
theorem dX0_shown_0 : decode cX0_shown 0 = .ok (.iconst 5, 1) := by decide +kernel
theorem dX0_shown_1 : decode cX0_shown 1 = .ok (.aload_n 0, 1) := by decide +kernel
theorem dX0_shown_2 : decode cX0_shown 2 = .ok (.getfield 9, 3) := by decide +kernel
theorem dX0_shown_5 : decode cX0_shown 5 = .ok (.iload_n 1, 1) := by decide +kernel
theorem dX0_shown_6 : decode cX0_shown 6 = .ok (.iaload, 1) := by decide +kernel
theorem dX0_shown_7 : decode cX0_shown 7 = .ok (.imul, 1) := by decide +kernel
theorem dX0_shown_8 : decode cX0_shown 8 = .ok (.aload_n 0, 1) := by decide +kernel
theorem dX0_shown_9 : decode cX0_shown 9 = .ok (.getfield 15, 3) := by decide +kernel
theorem dX0_shown_12 : decode cX0_shown 12 = .ok (.iload_n 1, 1) := by decide +kernel
theorem dX0_shown_13 : decode cX0_shown 13 = .ok (.iaload, 1) := by decide +kernel
theorem dX0_shown_14 : decode cX0_shown 14 = .ok (.iadd, 1) := by decide +kernel
theorem dX0_shown_15 : decode cX0_shown 15 = .ok (.ireturn, 1) := by decide +kernel
theorem dX0_movesBy_0 : decode cX0_movesBy 0 = .ok (.iload_n 3, 1) := by decide +kernel
theorem dX0_movesBy_1 : decode cX0_movesBy 1 = .ok (.ifCond .lt 8, 3) := by decide +kernel
theorem dX0_movesBy_4 : decode cX0_movesBy 4 = .ok (.iload_n 3, 1) := by decide +kernel
theorem dX0_movesBy_5 : decode cX0_movesBy 5 = .ok (.iconst 5, 1) := by decide +kernel
theorem dX0_movesBy_6 : decode cX0_movesBy 6 = .ok (.if_icmp .le 5, 3) := by decide +kernel
theorem dX0_movesBy_9 : decode cX0_movesBy 9 = .ok (.iconst (-1), 1) := by decide +kernel
theorem dX0_movesBy_10 : decode cX0_movesBy 10 = .ok (.ireturn, 1) := by decide +kernel
theorem dX0_movesBy_11 : decode cX0_movesBy 11 = .ok (.iload_n 2, 1) := by decide +kernel
theorem dX0_movesBy_12 : decode cX0_movesBy 12 = .ok (.aload_n 0, 1) := by decide +kernel
theorem dX0_movesBy_13 : decode cX0_movesBy 13 = .ok (.getfield 9, 3) := by decide +kernel
theorem dX0_movesBy_16 : decode cX0_movesBy 16 = .ok (.iload_n 1, 1) := by decide +kernel
theorem dX0_movesBy_17 : decode cX0_movesBy 17 = .ok (.iaload, 1) := by decide +kernel
theorem dX0_movesBy_18 : decode cX0_movesBy 18 = .ok (.isub, 1) := by decide +kernel
theorem dX0_movesBy_19 : decode cX0_movesBy 19 = .ok (.invokestatic 34, 3) := by decide +kernel
theorem dX0_movesBy_22 : decode cX0_movesBy 22 = .ok (.istore 4, 2) := by decide +kernel
theorem dX0_movesBy_24 : decode cX0_movesBy 24 = .ok (.iload_n 3, 1) := by decide +kernel
theorem dX0_movesBy_25 : decode cX0_movesBy 25 = .ok (.aload_n 0, 1) := by decide +kernel
theorem dX0_movesBy_26 : decode cX0_movesBy 26 = .ok (.getfield 15, 3) := by decide +kernel
theorem dX0_movesBy_29 : decode cX0_movesBy 29 = .ok (.iload_n 1, 1) := by decide +kernel
theorem dX0_movesBy_30 : decode cX0_movesBy 30 = .ok (.iaload, 1) := by decide +kernel
theorem dX0_movesBy_31 : decode cX0_movesBy 31 = .ok (.isub, 1) := by decide +kernel
theorem dX0_movesBy_32 : decode cX0_movesBy 32 = .ok (.invokestatic 34, 3) := by decide +kernel
theorem dX0_movesBy_35 : decode cX0_movesBy 35 = .ok (.istore 5, 2) := by decide +kernel
theorem dX0_movesBy_37 : decode cX0_movesBy 37 = .ok (.iload 4, 2) := by decide +kernel
theorem dX0_movesBy_39 : decode cX0_movesBy 39 = .ok (.ifCond .le 16, 3) := by decide +kernel
theorem dX0_movesBy_42 : decode cX0_movesBy 42 = .ok (.aload_n 0, 1) := by decide +kernel
theorem dX0_movesBy_43 : decode cX0_movesBy 43 = .ok (.getfield 18, 3) := by decide +kernel
theorem dX0_movesBy_46 : decode cX0_movesBy 46 = .ok (.iload_n 1, 1) := by decide +kernel
theorem dX0_movesBy_47 : decode cX0_movesBy 47 = .ok (.iaload, 1) := by decide +kernel
theorem dX0_movesBy_48 : decode cX0_movesBy 48 = .ok (.iconst 1, 1) := by decide +kernel
theorem dX0_movesBy_49 : decode cX0_movesBy 49 = .ok (.iand, 1) := by decide +kernel
theorem dX0_movesBy_50 : decode cX0_movesBy 50 = .ok (.ifCond .eq 5, 3) := by decide +kernel
theorem dX0_movesBy_53 : decode cX0_movesBy 53 = .ok (.iconst (-1), 1) := by decide +kernel
theorem dX0_movesBy_54 : decode cX0_movesBy 54 = .ok (.ireturn, 1) := by decide +kernel
theorem dX0_movesBy_55 : decode cX0_movesBy 55 = .ok (.iload 5, 2) := by decide +kernel
theorem dX0_movesBy_57 : decode cX0_movesBy 57 = .ok (.ifCond .le 16, 3) := by decide +kernel
theorem dX0_movesBy_60 : decode cX0_movesBy 60 = .ok (.aload_n 0, 1) := by decide +kernel
theorem dX0_movesBy_61 : decode cX0_movesBy 61 = .ok (.getfield 18, 3) := by decide +kernel
theorem dX0_movesBy_64 : decode cX0_movesBy 64 = .ok (.iload_n 1, 1) := by decide +kernel
theorem dX0_movesBy_65 : decode cX0_movesBy 65 = .ok (.iaload, 1) := by decide +kernel
theorem dX0_movesBy_66 : decode cX0_movesBy 66 = .ok (.iconst 2, 1) := by decide +kernel
theorem dX0_movesBy_67 : decode cX0_movesBy 67 = .ok (.iand, 1) := by decide +kernel
theorem dX0_movesBy_68 : decode cX0_movesBy 68 = .ok (.ifCond .eq 5, 3) := by decide +kernel
theorem dX0_movesBy_71 : decode cX0_movesBy 71 = .ok (.iconst (-1), 1) := by decide +kernel
theorem dX0_movesBy_72 : decode cX0_movesBy 72 = .ok (.ireturn, 1) := by decide +kernel
theorem dX0_movesBy_73 : decode cX0_movesBy 73 = .ok (.iload 4, 2) := by decide +kernel
theorem dX0_movesBy_75 : decode cX0_movesBy 75 = .ok (.iload 5, 2) := by decide +kernel
theorem dX0_movesBy_77 : decode cX0_movesBy 77 = .ok (.iadd, 1) := by decide +kernel
theorem dX0_movesBy_78 : decode cX0_movesBy 78 = .ok (.ireturn, 1) := by decide +kernel
theorem dX0_place_0 : decode cX0_place 0 = .ok (.aload_n 0, 1) := by decide +kernel
theorem dX0_place_1 : decode cX0_place 1 = .ok (.getfield 9, 3) := by decide +kernel
theorem dX0_place_4 : decode cX0_place 4 = .ok (.iload_n 1, 1) := by decide +kernel
theorem dX0_place_5 : decode cX0_place 5 = .ok (.iload_n 2, 1) := by decide +kernel
theorem dX0_place_6 : decode cX0_place 6 = .ok (.iastore, 1) := by decide +kernel
theorem dX0_place_7 : decode cX0_place 7 = .ok (.aload_n 0, 1) := by decide +kernel
theorem dX0_place_8 : decode cX0_place 8 = .ok (.getfield 15, 3) := by decide +kernel
theorem dX0_place_11 : decode cX0_place 11 = .ok (.iload_n 1, 1) := by decide +kernel
theorem dX0_place_12 : decode cX0_place 12 = .ok (.iload_n 3, 1) := by decide +kernel
theorem dX0_place_13 : decode cX0_place 13 = .ok (.iastore, 1) := by decide +kernel
theorem dX0_place_14 : decode cX0_place 14 = .ok (.aload_n 0, 1) := by decide +kernel
theorem dX0_place_15 : decode cX0_place 15 = .ok (.getfield 24, 3) := by decide +kernel
theorem dX0_place_18 : decode cX0_place 18 = .ok (.iload_n 1, 1) := by decide +kernel
theorem dX0_place_19 : decode cX0_place 19 = .ok (.dup2, 1) := by decide +kernel
theorem dX0_place_20 : decode cX0_place 20 = .ok (.iaload, 1) := by decide +kernel
theorem dX0_place_21 : decode cX0_place 21 = .ok (.iload 4, 2) := by decide +kernel
theorem dX0_place_23 : decode cX0_place 23 = .ok (.iadd, 1) := by decide +kernel
theorem dX0_place_24 : decode cX0_place 24 = .ok (.iastore, 1) := by decide +kernel
theorem dX0_place_25 : decode cX0_place 25 = .ok (.return_, 1) := by decide +kernel
set_option maxRecDepth 20000 in
theorem ggX0_turn_X0_movesBy : GoodIn wsX0_turn wsX0_movesBy := goodIn_r _ [5, 6, 7, 8, 9, 10, 11, 12, 18, 19, 20, 21, 22, 23, 24] (by decide +kernel) (by decide +kernel)
set_option maxRecDepth 20000 in
theorem gX0_turn_X0_movesBy : GoodIn wsX0_turn (wsV RX0 40 RX0 yX0_movesBy wsX0_movesBy) := goodIn_app (goodIn_of _ (by decide +kernel)) ggX0_turn_X0_movesBy
set_option maxRecDepth 20000 in
theorem ggX0_turn_X0_place : GoodIn wsX0_turn wsX0_place := goodIn_r _ [16, 6, 11, 17, 18, 19, 20, 21, 22, 23, 24] (by decide +kernel) (by decide +kernel)
set_option maxRecDepth 20000 in
theorem gX0_turn_X0_place : GoodIn wsX0_turn (wsV RX0 44 RX0 yX0_place wsX0_place) := goodIn_app (goodIn_of _ (by decide +kernel)) ggX0_turn_X0_place
theorem dX0_turn_0 : decode cX0_turn 0 = .ok (.iconst (-1), 1) := by decide +kernel
theorem dX0_turn_1 : decode cX0_turn 1 = .ok (.istore 4, 2) := by decide +kernel
theorem dX0_turn_3 : decode cX0_turn 3 = .ok (.iconst 0, 1) := by decide +kernel
theorem dX0_turn_4 : decode cX0_turn 4 = .ok (.istore 5, 2) := by decide +kernel
theorem dX0_turn_6 : decode cX0_turn 6 = .ok (.iconst 2, 1) := by decide +kernel
theorem dX0_turn_7 : decode cX0_turn 7 = .ok (.istore 6, 2) := by decide +kernel
theorem dX0_turn_9 : decode cX0_turn 9 = .ok (.iload 6, 2) := by decide +kernel
theorem dX0_turn_11 : decode cX0_turn 11 = .ok (.ifCond .lt 51, 3) := by decide +kernel
theorem dX0_turn_14 : decode cX0_turn 14 = .ok (.aload_n 0, 1) := by decide +kernel
theorem dX0_turn_15 : decode cX0_turn 15 = .ok (.iload_n 1, 1) := by decide +kernel
theorem dX0_turn_16 : decode cX0_turn 16 = .ok (.iload 6, 2) := by decide +kernel
theorem dX0_turn_18 : decode cX0_turn 18 = .ok (.iload_n 2, 1) := by decide +kernel
theorem dX0_turn_19 : decode cX0_turn 19 = .ok (.iconst 5, 1) := by decide +kernel
theorem dX0_turn_20 : decode cX0_turn 20 = .ok (.iload 6, 2) := by decide +kernel
theorem dX0_turn_22 : decode cX0_turn 22 = .ok (.imul, 1) := by decide +kernel
theorem dX0_turn_23 : decode cX0_turn 23 = .ok (.isub, 1) := by decide +kernel
theorem dX0_turn_24 : decode cX0_turn 24 = .ok (.invokevirtual 40, 3) := by decide +kernel
theorem dX0_turn_27 : decode cX0_turn 27 = .ok (.istore 7, 2) := by decide +kernel
theorem dX0_turn_29 : decode cX0_turn 29 = .ok (.iload 7, 2) := by decide +kernel
theorem dX0_turn_31 : decode cX0_turn 31 = .ok (.iconst (-1), 1) := by decide +kernel
theorem dX0_turn_32 : decode cX0_turn 32 = .ok (.if_icmp .eq 24, 3) := by decide +kernel
theorem dX0_turn_35 : decode cX0_turn 35 = .ok (.iload 4, 2) := by decide +kernel
theorem dX0_turn_37 : decode cX0_turn 37 = .ok (.iconst (-1), 1) := by decide +kernel
theorem dX0_turn_38 : decode cX0_turn 38 = .ok (.if_icmp .eq 10, 3) := by decide +kernel
theorem dX0_turn_41 : decode cX0_turn 41 = .ok (.iload 7, 2) := by decide +kernel
theorem dX0_turn_43 : decode cX0_turn 43 = .ok (.iload 4, 2) := by decide +kernel
theorem dX0_turn_45 : decode cX0_turn 45 = .ok (.if_icmp .ge 11, 3) := by decide +kernel
theorem dX0_turn_48 : decode cX0_turn 48 = .ok (.iload 7, 2) := by decide +kernel
theorem dX0_turn_50 : decode cX0_turn 50 = .ok (.istore 4, 2) := by decide +kernel
theorem dX0_turn_52 : decode cX0_turn 52 = .ok (.iload 6, 2) := by decide +kernel
theorem dX0_turn_54 : decode cX0_turn 54 = .ok (.istore 5, 2) := by decide +kernel
theorem dX0_turn_56 : decode cX0_turn 56 = .ok (.iinc 6 (-1), 3) := by decide +kernel
theorem dX0_turn_59 : decode cX0_turn 59 = .ok (.goto (-50), 3) := by decide +kernel
theorem dX0_turn_62 : decode cX0_turn 62 = .ok (.iload_n 3, 1) := by decide +kernel
theorem dX0_turn_63 : decode cX0_turn 63 = .ok (.ifCond .eq 24, 3) := by decide +kernel
theorem dX0_turn_66 : decode cX0_turn 66 = .ok (.iload 4, 2) := by decide +kernel
theorem dX0_turn_68 : decode cX0_turn 68 = .ok (.iconst (-1), 1) := by decide +kernel
theorem dX0_turn_69 : decode cX0_turn 69 = .ok (.if_icmp .eq 18, 3) := by decide +kernel
theorem dX0_turn_72 : decode cX0_turn 72 = .ok (.aload_n 0, 1) := by decide +kernel
theorem dX0_turn_73 : decode cX0_turn 73 = .ok (.iload_n 1, 1) := by decide +kernel
theorem dX0_turn_74 : decode cX0_turn 74 = .ok (.iload 5, 2) := by decide +kernel
theorem dX0_turn_76 : decode cX0_turn 76 = .ok (.iload_n 2, 1) := by decide +kernel
theorem dX0_turn_77 : decode cX0_turn 77 = .ok (.iconst 5, 1) := by decide +kernel
theorem dX0_turn_78 : decode cX0_turn 78 = .ok (.iload 5, 2) := by decide +kernel
theorem dX0_turn_80 : decode cX0_turn 80 = .ok (.imul, 1) := by decide +kernel
theorem dX0_turn_81 : decode cX0_turn 81 = .ok (.isub, 1) := by decide +kernel
theorem dX0_turn_82 : decode cX0_turn 82 = .ok (.iload 4, 2) := by decide +kernel
theorem dX0_turn_84 : decode cX0_turn 84 = .ok (.invokevirtual 44, 3) := by decide +kernel
theorem dX0_turn_87 : decode cX0_turn 87 = .ok (.iload 4, 2) := by decide +kernel
theorem dX0_turn_89 : decode cX0_turn 89 = .ok (.ireturn, 1) := by decide +kernel
set_option maxRecDepth 20000 in
theorem ggX0_change_X0_shown : GoodIn wsX0_change wsX0_shown := goodIn_r _ [5, 6, 7, 37, 38, 39, 40, 41, 42, 43] (by decide +kernel) (by decide +kernel)
set_option maxRecDepth 20000 in
theorem gX0_change_X0_shown : GoodIn wsX0_change (wsV RX0 48 RX0 yX0_shown wsX0_shown) := goodIn_app (goodIn_of _ (by decide +kernel)) ggX0_change_X0_shown
set_option maxRecDepth 20000 in
theorem ggX0_change_X0_turn : GoodIn wsX0_change wsX0_turn := goodIn_r _ [11, 12, 13, 14, 4, 15, 6, 16, 17, 18, 19, 7, 20, 21, 22, 23, 24, 25, 37, 38, 39, 40, 41, 42, 43] (by decide +kernel) (by decide +kernel)
set_option maxRecDepth 20000 in
theorem gX0_change_X0_turn : GoodIn wsX0_change (wsV RX0 51 RX0 yX0_turn wsX0_turn) := goodIn_app (goodIn_of _ (by decide +kernel)) ggX0_change_X0_turn
set_option maxRecDepth 20000 in
theorem ggX0_change_X0_turnAndCarry : GoodIn wsX0_change wsX0_turnAndCarry := goodIn_r _ [29, 8, 9, 10, 4, 11, 12, 13, 14, 15, 6, 16, 17, 18, 19, 7, 20, 21, 22, 23, 24, 25, 1, 2, 3, 5, 30, 31, 32, 33, 34, 35, 36, 37, 38, 39, 40, 41, 42, 43] (by decide +kernel) (by decide +kernel)
set_option maxRecDepth 20000 in
theorem gX0_change_X0_turnAndCarry : GoodIn wsX0_change (wsV RX0 55 RX0 yX0_turnAndCarry wsX0_turnAndCarry) := goodIn_app (goodIn_of _ (by decide +kernel)) ggX0_change_X0_turnAndCarry
theorem dX0_change_0 : decode cX0_change 0 = .ok (.iload_n 2, 1) := by decide +kernel
theorem dX0_change_1 : decode cX0_change 1 = .ok (.ifCond .ge 7, 3) := by decide +kernel
theorem dX0_change_4 : decode cX0_change 4 = .ok (.iconst (-1), 1) := by decide +kernel
theorem dX0_change_5 : decode cX0_change 5 = .ok (.goto 4, 3) := by decide +kernel
theorem dX0_change_8 : decode cX0_change 8 = .ok (.iconst 1, 1) := by decide +kernel
theorem dX0_change_9 : decode cX0_change 9 = .ok (.istore 4, 2) := by decide +kernel
theorem dX0_change_11 : decode cX0_change 11 = .ok (.aload_n 0, 1) := by decide +kernel
theorem dX0_change_12 : decode cX0_change 12 = .ok (.iload_n 1, 1) := by decide +kernel
theorem dX0_change_13 : decode cX0_change 13 = .ok (.aload_n 0, 1) := by decide +kernel
theorem dX0_change_14 : decode cX0_change 14 = .ok (.iload_n 1, 1) := by decide +kernel
theorem dX0_change_15 : decode cX0_change 15 = .ok (.invokevirtual 48, 3) := by decide +kernel
theorem dX0_change_18 : decode cX0_change 18 = .ok (.iload_n 2, 1) := by decide +kernel
theorem dX0_change_19 : decode cX0_change 19 = .ok (.iadd, 1) := by decide +kernel
theorem dX0_change_20 : decode cX0_change 20 = .ok (.iload_n 3, 1) := by decide +kernel
theorem dX0_change_21 : decode cX0_change 21 = .ok (.invokevirtual 51, 3) := by decide +kernel
theorem dX0_change_24 : decode cX0_change 24 = .ok (.istore 5, 2) := by decide +kernel
theorem dX0_change_26 : decode cX0_change 26 = .ok (.iload 5, 2) := by decide +kernel
theorem dX0_change_28 : decode cX0_change 28 = .ok (.iconst (-1), 1) := by decide +kernel
theorem dX0_change_29 : decode cX0_change 29 = .ok (.if_icmp .eq 6, 3) := by decide +kernel
theorem dX0_change_32 : decode cX0_change 32 = .ok (.iload 5, 2) := by decide +kernel
theorem dX0_change_34 : decode cX0_change 34 = .ok (.ireturn, 1) := by decide +kernel
theorem dX0_change_35 : decode cX0_change 35 = .ok (.aload_n 0, 1) := by decide +kernel
theorem dX0_change_36 : decode cX0_change 36 = .ok (.iload_n 1, 1) := by decide +kernel
theorem dX0_change_37 : decode cX0_change 37 = .ok (.aload_n 0, 1) := by decide +kernel
theorem dX0_change_38 : decode cX0_change 38 = .ok (.iload_n 1, 1) := by decide +kernel
theorem dX0_change_39 : decode cX0_change 39 = .ok (.invokevirtual 48, 3) := by decide +kernel
theorem dX0_change_42 : decode cX0_change 42 = .ok (.iload_n 2, 1) := by decide +kernel
theorem dX0_change_43 : decode cX0_change 43 = .ok (.iadd, 1) := by decide +kernel
theorem dX0_change_44 : decode cX0_change 44 = .ok (.bipush 10, 2) := by decide +kernel
theorem dX0_change_46 : decode cX0_change 46 = .ok (.iload 4, 2) := by decide +kernel
theorem dX0_change_48 : decode cX0_change 48 = .ok (.imul, 1) := by decide +kernel
theorem dX0_change_49 : decode cX0_change 49 = .ok (.isub, 1) := by decide +kernel
theorem dX0_change_50 : decode cX0_change 50 = .ok (.iload 4, 2) := by decide +kernel
theorem dX0_change_52 : decode cX0_change 52 = .ok (.iload_n 3, 1) := by decide +kernel
theorem dX0_change_53 : decode cX0_change 53 = .ok (.invokevirtual 55, 3) := by decide +kernel
theorem dX0_change_56 : decode cX0_change 56 = .ok (.ireturn, 1) := by decide +kernel
set_option maxRecDepth 20000 in
theorem ggX0_turnAndCarry_X0_turn : GoodIn wsX0_turnAndCarry wsX0_turn := goodIn_r _ [5, 6, 7, 8, 4, 9, 10, 11, 12, 13, 14, 15, 16, 17, 18, 19, 20, 21, 33, 34, 35, 36, 37, 38, 39] (by decide +kernel) (by decide +kernel)
set_option maxRecDepth 20000 in
theorem gX0_turnAndCarry_X0_turn : GoodIn wsX0_turnAndCarry (wsV RX0 51 RX0 yX0_turn wsX0_turn) := goodIn_app (goodIn_of _ (by decide +kernel)) ggX0_turnAndCarry_X0_turn
set_option maxRecDepth 20000 in
theorem ggX0_turnAndCarry_X0_shown : GoodIn wsX0_turnAndCarry wsX0_shown := goodIn_r _ [25, 10, 15, 33, 34, 35, 36, 37, 38, 39] (by decide +kernel) (by decide +kernel)
set_option maxRecDepth 20000 in
theorem gX0_turnAndCarry_X0_shown : GoodIn wsX0_turnAndCarry (wsV RX0 48 RX0 yX0_shown wsX0_shown) := goodIn_app (goodIn_of _ (by decide +kernel)) ggX0_turnAndCarry_X0_shown
set_option maxRecDepth 20000 in
theorem ggX0_turnAndCarry_X0_borrow : GoodIn wsX0_turnAndCarry wsX0_borrow := goodIn_r _ [29, 30, 31, 32, 33, 34, 35, 36, 37, 38, 39] (by decide +kernel) (by decide +kernel)
set_option maxRecDepth 20000 in
theorem gX0_turnAndCarry_X0_borrow : GoodIn wsX0_turnAndCarry (wsV RX0 59 RX0 yX0_borrow wsX0_borrow) := goodIn_app (goodIn_of _ (by decide +kernel)) ggX0_turnAndCarry_X0_borrow
theorem dX0_turnAndCarry_0 : decode cX0_turnAndCarry 0 = .ok (.aload_n 0, 1) := by decide +kernel
theorem dX0_turnAndCarry_1 : decode cX0_turnAndCarry 1 = .ok (.iload_n 1, 1) := by decide +kernel
theorem dX0_turnAndCarry_2 : decode cX0_turnAndCarry 2 = .ok (.iload_n 2, 1) := by decide +kernel
theorem dX0_turnAndCarry_3 : decode cX0_turnAndCarry 3 = .ok (.iload 4, 2) := by decide +kernel
theorem dX0_turnAndCarry_5 : decode cX0_turnAndCarry 5 = .ok (.invokevirtual 51, 3) := by decide +kernel
theorem dX0_turnAndCarry_8 : decode cX0_turnAndCarry 8 = .ok (.istore 5, 2) := by decide +kernel
theorem dX0_turnAndCarry_10 : decode cX0_turnAndCarry 10 = .ok (.iload 5, 2) := by decide +kernel
theorem dX0_turnAndCarry_12 : decode cX0_turnAndCarry 12 = .ok (.iconst (-1), 1) := by decide +kernel
theorem dX0_turnAndCarry_13 : decode cX0_turnAndCarry 13 = .ok (.if_icmp .ne 5, 3) := by decide +kernel
theorem dX0_turnAndCarry_16 : decode cX0_turnAndCarry 16 = .ok (.iconst (-1), 1) := by decide +kernel
theorem dX0_turnAndCarry_17 : decode cX0_turnAndCarry 17 = .ok (.ireturn, 1) := by decide +kernel
theorem dX0_turnAndCarry_18 : decode cX0_turnAndCarry 18 = .ok (.iload_n 1, 1) := by decide +kernel
theorem dX0_turnAndCarry_19 : decode cX0_turnAndCarry 19 = .ok (.iconst 1, 1) := by decide +kernel
theorem dX0_turnAndCarry_20 : decode cX0_turnAndCarry 20 = .ok (.iadd, 1) := by decide +kernel
theorem dX0_turnAndCarry_21 : decode cX0_turnAndCarry 21 = .ok (.istore 6, 2) := by decide +kernel
theorem dX0_turnAndCarry_23 : decode cX0_turnAndCarry 23 = .ok (.iload 6, 2) := by decide +kernel
theorem dX0_turnAndCarry_25 : decode cX0_turnAndCarry 25 = .ok (.bipush 9, 2) := by decide +kernel
theorem dX0_turnAndCarry_27 : decode cX0_turnAndCarry 27 = .ok (.if_icmp .ge 92, 3) := by decide +kernel
theorem dX0_turnAndCarry_30 : decode cX0_turnAndCarry 30 = .ok (.aload_n 0, 1) := by decide +kernel
theorem dX0_turnAndCarry_31 : decode cX0_turnAndCarry 31 = .ok (.iload 6, 2) := by decide +kernel
theorem dX0_turnAndCarry_33 : decode cX0_turnAndCarry 33 = .ok (.aload_n 0, 1) := by decide +kernel
theorem dX0_turnAndCarry_34 : decode cX0_turnAndCarry 34 = .ok (.iload 6, 2) := by decide +kernel
theorem dX0_turnAndCarry_36 : decode cX0_turnAndCarry 36 = .ok (.invokevirtual 48, 3) := by decide +kernel
theorem dX0_turnAndCarry_39 : decode cX0_turnAndCarry 39 = .ok (.iload_n 3, 1) := by decide +kernel
theorem dX0_turnAndCarry_40 : decode cX0_turnAndCarry 40 = .ok (.iadd, 1) := by decide +kernel
theorem dX0_turnAndCarry_41 : decode cX0_turnAndCarry 41 = .ok (.iload 4, 2) := by decide +kernel
theorem dX0_turnAndCarry_43 : decode cX0_turnAndCarry 43 = .ok (.invokevirtual 51, 3) := by decide +kernel
theorem dX0_turnAndCarry_46 : decode cX0_turnAndCarry 46 = .ok (.istore 7, 2) := by decide +kernel
theorem dX0_turnAndCarry_48 : decode cX0_turnAndCarry 48 = .ok (.iload 7, 2) := by decide +kernel
theorem dX0_turnAndCarry_50 : decode cX0_turnAndCarry 50 = .ok (.iconst (-1), 1) := by decide +kernel
theorem dX0_turnAndCarry_51 : decode cX0_turnAndCarry 51 = .ok (.if_icmp .eq 9, 3) := by decide +kernel
theorem dX0_turnAndCarry_54 : decode cX0_turnAndCarry 54 = .ok (.iload 5, 2) := by decide +kernel
theorem dX0_turnAndCarry_56 : decode cX0_turnAndCarry 56 = .ok (.iload 7, 2) := by decide +kernel
theorem dX0_turnAndCarry_58 : decode cX0_turnAndCarry 58 = .ok (.iadd, 1) := by decide +kernel
theorem dX0_turnAndCarry_59 : decode cX0_turnAndCarry 59 = .ok (.ireturn, 1) := by decide +kernel
theorem dX0_turnAndCarry_60 : decode cX0_turnAndCarry 60 = .ok (.aload_n 0, 1) := by decide +kernel
theorem dX0_turnAndCarry_61 : decode cX0_turnAndCarry 61 = .ok (.iload 6, 2) := by decide +kernel
theorem dX0_turnAndCarry_63 : decode cX0_turnAndCarry 63 = .ok (.aload_n 0, 1) := by decide +kernel
theorem dX0_turnAndCarry_64 : decode cX0_turnAndCarry 64 = .ok (.iload 6, 2) := by decide +kernel
theorem dX0_turnAndCarry_66 : decode cX0_turnAndCarry 66 = .ok (.invokevirtual 48, 3) := by decide +kernel
theorem dX0_turnAndCarry_69 : decode cX0_turnAndCarry 69 = .ok (.bipush 9, 2) := by decide +kernel
theorem dX0_turnAndCarry_71 : decode cX0_turnAndCarry 71 = .ok (.iload_n 3, 1) := by decide +kernel
theorem dX0_turnAndCarry_72 : decode cX0_turnAndCarry 72 = .ok (.imul, 1) := by decide +kernel
theorem dX0_turnAndCarry_73 : decode cX0_turnAndCarry 73 = .ok (.isub, 1) := by decide +kernel
theorem dX0_turnAndCarry_74 : decode cX0_turnAndCarry 74 = .ok (.iload 4, 2) := by decide +kernel
theorem dX0_turnAndCarry_76 : decode cX0_turnAndCarry 76 = .ok (.invokevirtual 51, 3) := by decide +kernel
theorem dX0_turnAndCarry_79 : decode cX0_turnAndCarry 79 = .ok (.istore 7, 2) := by decide +kernel
theorem dX0_turnAndCarry_81 : decode cX0_turnAndCarry 81 = .ok (.iload 7, 2) := by decide +kernel
theorem dX0_turnAndCarry_83 : decode cX0_turnAndCarry 83 = .ok (.iconst (-1), 1) := by decide +kernel
theorem dX0_turnAndCarry_84 : decode cX0_turnAndCarry 84 = .ok (.if_icmp .ne 22, 3) := by decide +kernel
theorem dX0_turnAndCarry_87 : decode cX0_turnAndCarry 87 = .ok (.aload_n 0, 1) := by decide +kernel
theorem dX0_turnAndCarry_88 : decode cX0_turnAndCarry 88 = .ok (.iload 6, 2) := by decide +kernel
theorem dX0_turnAndCarry_90 : decode cX0_turnAndCarry 90 = .ok (.iload_n 3, 1) := by decide +kernel
theorem dX0_turnAndCarry_91 : decode cX0_turnAndCarry 91 = .ok (.iload 4, 2) := by decide +kernel
theorem dX0_turnAndCarry_93 : decode cX0_turnAndCarry 93 = .ok (.invokevirtual 59, 3) := by decide +kernel
theorem dX0_turnAndCarry_96 : decode cX0_turnAndCarry 96 = .ok (.ifCond .eq 8, 3) := by decide +kernel
theorem dX0_turnAndCarry_99 : decode cX0_turnAndCarry 99 = .ok (.iload 5, 2) := by decide +kernel
theorem dX0_turnAndCarry_101 : decode cX0_turnAndCarry 101 = .ok (.goto 4, 3) := by decide +kernel
theorem dX0_turnAndCarry_104 : decode cX0_turnAndCarry 104 = .ok (.iconst (-1), 1) := by decide +kernel
theorem dX0_turnAndCarry_105 : decode cX0_turnAndCarry 105 = .ok (.ireturn, 1) := by decide +kernel
theorem dX0_turnAndCarry_106 : decode cX0_turnAndCarry 106 = .ok (.iload 5, 2) := by decide +kernel
theorem dX0_turnAndCarry_108 : decode cX0_turnAndCarry 108 = .ok (.iload 7, 2) := by decide +kernel
theorem dX0_turnAndCarry_110 : decode cX0_turnAndCarry 110 = .ok (.iadd, 1) := by decide +kernel
theorem dX0_turnAndCarry_111 : decode cX0_turnAndCarry 111 = .ok (.istore 5, 2) := by decide +kernel
theorem dX0_turnAndCarry_113 : decode cX0_turnAndCarry 113 = .ok (.iinc 6 1, 3) := by decide +kernel
theorem dX0_turnAndCarry_116 : decode cX0_turnAndCarry 116 = .ok (.goto (-93), 3) := by decide +kernel
theorem dX0_turnAndCarry_119 : decode cX0_turnAndCarry 119 = .ok (.iconst (-1), 1) := by decide +kernel
theorem dX0_turnAndCarry_120 : decode cX0_turnAndCarry 120 = .ok (.ireturn, 1) := by decide +kernel
theorem dX0_borrow_0 : decode cX0_borrow 0 = .ok (.aload_n 0, 1) := by decide +kernel
theorem dX0_borrow_1 : decode cX0_borrow 1 = .ok (.getfield 21, 3) := by decide +kernel
theorem dX0_borrow_4 : decode cX0_borrow 4 = .ok (.iload_n 1, 1) := by decide +kernel
theorem dX0_borrow_5 : decode cX0_borrow 5 = .ok (.iaload, 1) := by decide +kernel
theorem dX0_borrow_6 : decode cX0_borrow 6 = .ok (.iload_n 2, 1) := by decide +kernel
theorem dX0_borrow_7 : decode cX0_borrow 7 = .ok (.iadd, 1) := by decide +kernel
theorem dX0_borrow_8 : decode cX0_borrow 8 = .ok (.istore 4, 2) := by decide +kernel
theorem dX0_borrow_10 : decode cX0_borrow 10 = .ok (.iload 4, 2) := by decide +kernel
theorem dX0_borrow_12 : decode cX0_borrow 12 = .ok (.iload_n 2, 1) := by decide +kernel
theorem dX0_borrow_13 : decode cX0_borrow 13 = .ok (.imul, 1) := by decide +kernel
theorem dX0_borrow_14 : decode cX0_borrow 14 = .ok (.aload_n 0, 1) := by decide +kernel
theorem dX0_borrow_15 : decode cX0_borrow 15 = .ok (.getfield 30, 3) := by decide +kernel
theorem dX0_borrow_18 : decode cX0_borrow 18 = .ok (.if_icmp .le 5, 3) := by decide +kernel
theorem dX0_borrow_21 : decode cX0_borrow 21 = .ok (.iconst 0, 1) := by decide +kernel
theorem dX0_borrow_22 : decode cX0_borrow 22 = .ok (.ireturn, 1) := by decide +kernel
theorem dX0_borrow_23 : decode cX0_borrow 23 = .ok (.iload_n 3, 1) := by decide +kernel
theorem dX0_borrow_24 : decode cX0_borrow 24 = .ok (.ifCond .eq 21, 3) := by decide +kernel
theorem dX0_borrow_27 : decode cX0_borrow 27 = .ok (.aload_n 0, 1) := by decide +kernel
theorem dX0_borrow_28 : decode cX0_borrow 28 = .ok (.getfield 21, 3) := by decide +kernel
theorem dX0_borrow_31 : decode cX0_borrow 31 = .ok (.iload_n 1, 1) := by decide +kernel
theorem dX0_borrow_32 : decode cX0_borrow 32 = .ok (.iload 4, 2) := by decide +kernel
theorem dX0_borrow_34 : decode cX0_borrow 34 = .ok (.iastore, 1) := by decide +kernel
theorem dX0_borrow_35 : decode cX0_borrow 35 = .ok (.aload_n 0, 1) := by decide +kernel
theorem dX0_borrow_36 : decode cX0_borrow 36 = .ok (.getfield 27, 3) := by decide +kernel
theorem dX0_borrow_39 : decode cX0_borrow 39 = .ok (.iload_n 1, 1) := by decide +kernel
theorem dX0_borrow_40 : decode cX0_borrow 40 = .ok (.dup2, 1) := by decide +kernel
theorem dX0_borrow_41 : decode cX0_borrow 41 = .ok (.iaload, 1) := by decide +kernel
theorem dX0_borrow_42 : decode cX0_borrow 42 = .ok (.iconst 1, 1) := by decide +kernel
theorem dX0_borrow_43 : decode cX0_borrow 43 = .ok (.iadd, 1) := by decide +kernel
theorem dX0_borrow_44 : decode cX0_borrow 44 = .ok (.iastore, 1) := by decide +kernel
theorem dX0_borrow_45 : decode cX0_borrow 45 = .ok (.iconst 1, 1) := by decide +kernel
theorem dX0_borrow_46 : decode cX0_borrow 46 = .ok (.ireturn, 1) := by decide +kernel
set_option maxRecDepth 20000 in
theorem ggX0_payIfPossible_X0_change : GoodIn wsX0_payIfPossible wsX0_change := goodIn_r _ [6, 7, 8, 9, 5, 10, 11, 12, 13, 14, 15, 16, 17, 18, 19, 20, 21, 22, 23, 24, 25, 26, 27, 28, 29, 30, 31, 32, 33, 34, 35, 36, 37, 38, 1, 39, 40, 41, 42, 43, 44, 45, 46, 47] (by decide +kernel) (by decide +kernel)
set_option maxRecDepth 20000 in
theorem gX0_payIfPossible_X0_change : GoodIn wsX0_payIfPossible (wsV RX0 63 RX0 yX0_change wsX0_change) := goodIn_app (goodIn_of _ (by decide +kernel)) ggX0_payIfPossible_X0_change
theorem dX0_payIfPossible_0 : decode cX0_payIfPossible 0 = .ok (.aload_n 0, 1) := by decide +kernel
theorem dX0_payIfPossible_1 : decode cX0_payIfPossible 1 = .ok (.iload_n 1, 1) := by decide +kernel
theorem dX0_payIfPossible_2 : decode cX0_payIfPossible 2 = .ok (.aload_n 0, 1) := by decide +kernel
theorem dX0_payIfPossible_3 : decode cX0_payIfPossible 3 = .ok (.getfield 21, 3) := by decide +kernel
theorem dX0_payIfPossible_6 : decode cX0_payIfPossible 6 = .ok (.iload_n 1, 1) := by decide +kernel
theorem dX0_payIfPossible_7 : decode cX0_payIfPossible 7 = .ok (.iaload, 1) := by decide +kernel
theorem dX0_payIfPossible_8 : decode cX0_payIfPossible 8 = .ok (.iconst 0, 1) := by decide +kernel
theorem dX0_payIfPossible_9 : decode cX0_payIfPossible 9 = .ok (.invokevirtual 63, 3) := by decide +kernel
theorem dX0_payIfPossible_12 : decode cX0_payIfPossible 12 = .ok (.iconst (-1), 1) := by decide +kernel
theorem dX0_payIfPossible_13 : decode cX0_payIfPossible 13 = .ok (.if_icmp .ne 5, 3) := by decide +kernel
theorem dX0_payIfPossible_16 : decode cX0_payIfPossible 16 = .ok (.iconst 0, 1) := by decide +kernel
theorem dX0_payIfPossible_17 : decode cX0_payIfPossible 17 = .ok (.ireturn, 1) := by decide +kernel
theorem dX0_payIfPossible_18 : decode cX0_payIfPossible 18 = .ok (.aload_n 0, 1) := by decide +kernel
theorem dX0_payIfPossible_19 : decode cX0_payIfPossible 19 = .ok (.iload_n 1, 1) := by decide +kernel
theorem dX0_payIfPossible_20 : decode cX0_payIfPossible 20 = .ok (.aload_n 0, 1) := by decide +kernel
theorem dX0_payIfPossible_21 : decode cX0_payIfPossible 21 = .ok (.getfield 21, 3) := by decide +kernel
theorem dX0_payIfPossible_24 : decode cX0_payIfPossible 24 = .ok (.iload_n 1, 1) := by decide +kernel
theorem dX0_payIfPossible_25 : decode cX0_payIfPossible 25 = .ok (.iaload, 1) := by decide +kernel
theorem dX0_payIfPossible_26 : decode cX0_payIfPossible 26 = .ok (.iconst 1, 1) := by decide +kernel
theorem dX0_payIfPossible_27 : decode cX0_payIfPossible 27 = .ok (.invokevirtual 63, 3) := by decide +kernel
theorem dX0_payIfPossible_30 : decode cX0_payIfPossible 30 = .ok (.istore_n 2, 1) := by decide +kernel
theorem dX0_payIfPossible_31 : decode cX0_payIfPossible 31 = .ok (.aload_n 0, 1) := by decide +kernel
theorem dX0_payIfPossible_32 : decode cX0_payIfPossible 32 = .ok (.getfield 21, 3) := by decide +kernel
theorem dX0_payIfPossible_35 : decode cX0_payIfPossible 35 = .ok (.iload_n 1, 1) := by decide +kernel
theorem dX0_payIfPossible_36 : decode cX0_payIfPossible 36 = .ok (.iconst 0, 1) := by decide +kernel
theorem dX0_payIfPossible_37 : decode cX0_payIfPossible 37 = .ok (.iastore, 1) := by decide +kernel
theorem dX0_payIfPossible_38 : decode cX0_payIfPossible 38 = .ok (.iload_n 2, 1) := by decide +kernel
theorem dX0_payIfPossible_39 : decode cX0_payIfPossible 39 = .ok (.ireturn, 1) := by decide +kernel
set_option maxRecDepth 20000 in
theorem ggX0_orderIfPossible_X0_shown : GoodIn wsX0_orderIfPossible wsX0_shown := goodIn_r _ [5, 6, 7, 37, 38, 39, 40, 41, 42, 43] (by decide +kernel) (by decide +kernel)
set_option maxRecDepth 20000 in
theorem gX0_orderIfPossible_X0_shown : GoodIn wsX0_orderIfPossible (wsV RX0 48 RX0 yX0_shown wsX0_shown) := goodIn_app (goodIn_of _ (by decide +kernel)) ggX0_orderIfPossible_X0_shown
set_option maxRecDepth 20000 in
theorem ggX0_orderIfPossible_X0_turnAndCarry : GoodIn wsX0_orderIfPossible wsX0_turnAndCarry := goodIn_r _ [11, 12, 13, 14, 4, 15, 16, 17, 18, 19, 6, 20, 21, 22, 23, 7, 24, 25, 26, 27, 28, 29, 1, 2, 3, 5, 30, 31, 32, 33, 34, 35, 36, 37, 38, 39, 40, 41, 42, 43] (by decide +kernel) (by decide +kernel)
set_option maxRecDepth 20000 in
theorem gX0_orderIfPossible_X0_turnAndCarry : GoodIn wsX0_orderIfPossible (wsV RX0 55 RX0 yX0_turnAndCarry wsX0_turnAndCarry) := goodIn_app (goodIn_of _ (by decide +kernel)) ggX0_orderIfPossible_X0_turnAndCarry
theorem dX0_orderIfPossible_0 : decode cX0_orderIfPossible 0 = .ok (.aload_n 0, 1) := by decide +kernel
theorem dX0_orderIfPossible_1 : decode cX0_orderIfPossible 1 = .ok (.iload_n 1, 1) := by decide +kernel
theorem dX0_orderIfPossible_2 : decode cX0_orderIfPossible 2 = .ok (.invokevirtual 48, 3) := by decide +kernel
theorem dX0_orderIfPossible_5 : decode cX0_orderIfPossible 5 = .ok (.bipush 10, 2) := by decide +kernel
theorem dX0_orderIfPossible_7 : decode cX0_orderIfPossible 7 = .ok (.isub, 1) := by decide +kernel
theorem dX0_orderIfPossible_8 : decode cX0_orderIfPossible 8 = .ok (.istore_n 2, 1) := by decide +kernel
theorem dX0_orderIfPossible_9 : decode cX0_orderIfPossible 9 = .ok (.iload_n 2, 1) := by decide +kernel
theorem dX0_orderIfPossible_10 : decode cX0_orderIfPossible 10 = .ok (.ifCond .lt 15, 3) := by decide +kernel
theorem dX0_orderIfPossible_13 : decode cX0_orderIfPossible 13 = .ok (.aload_n 0, 1) := by decide +kernel
theorem dX0_orderIfPossible_14 : decode cX0_orderIfPossible 14 = .ok (.iload_n 1, 1) := by decide +kernel
theorem dX0_orderIfPossible_15 : decode cX0_orderIfPossible 15 = .ok (.iload_n 2, 1) := by decide +kernel
theorem dX0_orderIfPossible_16 : decode cX0_orderIfPossible 16 = .ok (.iconst 1, 1) := by decide +kernel
theorem dX0_orderIfPossible_17 : decode cX0_orderIfPossible 17 = .ok (.iconst 0, 1) := by decide +kernel
theorem dX0_orderIfPossible_18 : decode cX0_orderIfPossible 18 = .ok (.invokevirtual 55, 3) := by decide +kernel
theorem dX0_orderIfPossible_21 : decode cX0_orderIfPossible 21 = .ok (.iconst (-1), 1) := by decide +kernel
theorem dX0_orderIfPossible_22 : decode cX0_orderIfPossible 22 = .ok (.if_icmp .ne 5, 3) := by decide +kernel
theorem dX0_orderIfPossible_25 : decode cX0_orderIfPossible 25 = .ok (.iconst 0, 1) := by decide +kernel
theorem dX0_orderIfPossible_26 : decode cX0_orderIfPossible 26 = .ok (.ireturn, 1) := by decide +kernel
theorem dX0_orderIfPossible_27 : decode cX0_orderIfPossible 27 = .ok (.aload_n 0, 1) := by decide +kernel
theorem dX0_orderIfPossible_28 : decode cX0_orderIfPossible 28 = .ok (.iload_n 1, 1) := by decide +kernel
theorem dX0_orderIfPossible_29 : decode cX0_orderIfPossible 29 = .ok (.iload_n 2, 1) := by decide +kernel
theorem dX0_orderIfPossible_30 : decode cX0_orderIfPossible 30 = .ok (.iconst 1, 1) := by decide +kernel
theorem dX0_orderIfPossible_31 : decode cX0_orderIfPossible 31 = .ok (.iconst 1, 1) := by decide +kernel
theorem dX0_orderIfPossible_32 : decode cX0_orderIfPossible 32 = .ok (.invokevirtual 55, 3) := by decide +kernel
theorem dX0_orderIfPossible_35 : decode cX0_orderIfPossible 35 = .ok (.ireturn, 1) := by decide +kernel
set_option maxRecDepth 20000 in
theorem ggX0_reach_X0_turn : GoodIn wsX0_reach wsX0_turn := goodIn_r _ [5, 6, 7, 8, 4, 9, 10, 11, 12, 13, 14, 15, 16, 17, 18, 19, 20, 21, 22, 23, 24, 25, 26, 27, 28] (by decide +kernel) (by decide +kernel)
set_option maxRecDepth 20000 in
theorem gX0_reach_X0_turn : GoodIn wsX0_reach (wsV RX0 51 RX0 yX0_turn wsX0_turn) := goodIn_app (goodIn_of _ (by decide +kernel)) ggX0_reach_X0_turn
theorem dX0_reach_0 : decode cX0_reach 0 = .ok (.iconst 0, 1) := by decide +kernel
theorem dX0_reach_1 : decode cX0_reach 1 = .ok (.istore_n 2, 1) := by decide +kernel
theorem dX0_reach_2 : decode cX0_reach 2 = .ok (.iconst 0, 1) := by decide +kernel
theorem dX0_reach_3 : decode cX0_reach 3 = .ok (.istore_n 3, 1) := by decide +kernel
theorem dX0_reach_4 : decode cX0_reach 4 = .ok (.iload_n 3, 1) := by decide +kernel
theorem dX0_reach_5 : decode cX0_reach 5 = .ok (.bipush 15, 2) := by decide +kernel
theorem dX0_reach_7 : decode cX0_reach 7 = .ok (.if_icmp .gt 23, 3) := by decide +kernel
theorem dX0_reach_10 : decode cX0_reach 10 = .ok (.aload_n 0, 1) := by decide +kernel
theorem dX0_reach_11 : decode cX0_reach 11 = .ok (.iload_n 1, 1) := by decide +kernel
theorem dX0_reach_12 : decode cX0_reach 12 = .ok (.iload_n 3, 1) := by decide +kernel
theorem dX0_reach_13 : decode cX0_reach 13 = .ok (.iconst 0, 1) := by decide +kernel
theorem dX0_reach_14 : decode cX0_reach 14 = .ok (.invokevirtual 51, 3) := by decide +kernel
theorem dX0_reach_17 : decode cX0_reach 17 = .ok (.iconst (-1), 1) := by decide +kernel
theorem dX0_reach_18 : decode cX0_reach 18 = .ok (.if_icmp .eq 6, 3) := by decide +kernel
theorem dX0_reach_21 : decode cX0_reach 21 = .ok (.iinc 2 1, 3) := by decide +kernel
theorem dX0_reach_24 : decode cX0_reach 24 = .ok (.iinc 3 1, 3) := by decide +kernel
theorem dX0_reach_27 : decode cX0_reach 27 = .ok (.goto (-23), 3) := by decide +kernel
theorem dX0_reach_30 : decode cX0_reach 30 = .ok (.iload_n 2, 1) := by decide +kernel
theorem dX0_reach_31 : decode cX0_reach 31 = .ok (.ireturn, 1) := by decide +kernel
theorem dX0_allMoved_0 : decode cX0_allMoved 0 = .ok (.iconst 0, 1) := by decide +kernel
theorem dX0_allMoved_1 : decode cX0_allMoved 1 = .ok (.istore_n 1, 1) := by decide +kernel
theorem dX0_allMoved_2 : decode cX0_allMoved 2 = .ok (.iconst 0, 1) := by decide +kernel
theorem dX0_allMoved_3 : decode cX0_allMoved 3 = .ok (.istore_n 2, 1) := by decide +kernel
theorem dX0_allMoved_4 : decode cX0_allMoved 4 = .ok (.iload_n 2, 1) := by decide +kernel
theorem dX0_allMoved_5 : decode cX0_allMoved 5 = .ok (.bipush 9, 2) := by decide +kernel
theorem dX0_allMoved_7 : decode cX0_allMoved 7 = .ok (.if_icmp .ge 18, 3) := by decide +kernel
theorem dX0_allMoved_10 : decode cX0_allMoved 10 = .ok (.iload_n 1, 1) := by decide +kernel
theorem dX0_allMoved_11 : decode cX0_allMoved 11 = .ok (.aload_n 0, 1) := by decide +kernel
theorem dX0_allMoved_12 : decode cX0_allMoved 12 = .ok (.getfield 24, 3) := by decide +kernel
theorem dX0_allMoved_15 : decode cX0_allMoved 15 = .ok (.iload_n 2, 1) := by decide +kernel
theorem dX0_allMoved_16 : decode cX0_allMoved 16 = .ok (.iaload, 1) := by decide +kernel
theorem dX0_allMoved_17 : decode cX0_allMoved 17 = .ok (.iadd, 1) := by decide +kernel
theorem dX0_allMoved_18 : decode cX0_allMoved 18 = .ok (.istore_n 1, 1) := by decide +kernel
theorem dX0_allMoved_19 : decode cX0_allMoved 19 = .ok (.iinc 2 1, 3) := by decide +kernel
theorem dX0_allMoved_22 : decode cX0_allMoved 22 = .ok (.goto (-18), 3) := by decide +kernel
theorem dX0_allMoved_25 : decode cX0_allMoved 25 = .ok (.iload_n 1, 1) := by decide +kernel
theorem dX0_allMoved_26 : decode cX0_allMoved 26 = .ok (.ireturn, 1) := by decide +kernel
theorem dX0_allLoans_0 : decode cX0_allLoans 0 = .ok (.iconst 0, 1) := by decide +kernel
theorem dX0_allLoans_1 : decode cX0_allLoans 1 = .ok (.istore_n 1, 1) := by decide +kernel
theorem dX0_allLoans_2 : decode cX0_allLoans 2 = .ok (.iconst 0, 1) := by decide +kernel
theorem dX0_allLoans_3 : decode cX0_allLoans 3 = .ok (.istore_n 2, 1) := by decide +kernel
theorem dX0_allLoans_4 : decode cX0_allLoans 4 = .ok (.iload_n 2, 1) := by decide +kernel
theorem dX0_allLoans_5 : decode cX0_allLoans 5 = .ok (.bipush 9, 2) := by decide +kernel
theorem dX0_allLoans_7 : decode cX0_allLoans 7 = .ok (.if_icmp .ge 18, 3) := by decide +kernel
theorem dX0_allLoans_10 : decode cX0_allLoans 10 = .ok (.iload_n 1, 1) := by decide +kernel
theorem dX0_allLoans_11 : decode cX0_allLoans 11 = .ok (.aload_n 0, 1) := by decide +kernel
theorem dX0_allLoans_12 : decode cX0_allLoans 12 = .ok (.getfield 21, 3) := by decide +kernel
theorem dX0_allLoans_15 : decode cX0_allLoans 15 = .ok (.iload_n 2, 1) := by decide +kernel
theorem dX0_allLoans_16 : decode cX0_allLoans 16 = .ok (.iaload, 1) := by decide +kernel
theorem dX0_allLoans_17 : decode cX0_allLoans 17 = .ok (.iadd, 1) := by decide +kernel
theorem dX0_allLoans_18 : decode cX0_allLoans 18 = .ok (.istore_n 1, 1) := by decide +kernel
theorem dX0_allLoans_19 : decode cX0_allLoans 19 = .ok (.iinc 2 1, 3) := by decide +kernel
theorem dX0_allLoans_22 : decode cX0_allLoans 22 = .ok (.goto (-18), 3) := by decide +kernel
theorem dX0_allLoans_25 : decode cX0_allLoans 25 = .ok (.iload_n 1, 1) := by decide +kernel
theorem dX0_allLoans_26 : decode cX0_allLoans 26 = .ok (.ireturn, 1) := by decide +kernel
set_option maxRecDepth 20000 in
theorem ggX0_allShown_X0_shown : GoodIn wsX0_allShown wsX0_shown := goodIn_r _ [5, 6, 7, 8, 9, 10, 11, 12, 13, 14] (by decide +kernel) (by decide +kernel)
set_option maxRecDepth 20000 in
theorem gX0_allShown_X0_shown : GoodIn wsX0_allShown (wsV RX0 48 RX0 yX0_shown wsX0_shown) := goodIn_app (goodIn_of _ (by decide +kernel)) ggX0_allShown_X0_shown
theorem dX0_allShown_0 : decode cX0_allShown 0 = .ok (.iconst 0, 1) := by decide +kernel
theorem dX0_allShown_1 : decode cX0_allShown 1 = .ok (.istore_n 1, 1) := by decide +kernel
theorem dX0_allShown_2 : decode cX0_allShown 2 = .ok (.iconst 0, 1) := by decide +kernel
theorem dX0_allShown_3 : decode cX0_allShown 3 = .ok (.istore_n 2, 1) := by decide +kernel
theorem dX0_allShown_4 : decode cX0_allShown 4 = .ok (.iload_n 2, 1) := by decide +kernel
theorem dX0_allShown_5 : decode cX0_allShown 5 = .ok (.bipush 9, 2) := by decide +kernel
theorem dX0_allShown_7 : decode cX0_allShown 7 = .ok (.if_icmp .ge 17, 3) := by decide +kernel
theorem dX0_allShown_10 : decode cX0_allShown 10 = .ok (.iload_n 1, 1) := by decide +kernel
theorem dX0_allShown_11 : decode cX0_allShown 11 = .ok (.aload_n 0, 1) := by decide +kernel
theorem dX0_allShown_12 : decode cX0_allShown 12 = .ok (.iload_n 2, 1) := by decide +kernel
theorem dX0_allShown_13 : decode cX0_allShown 13 = .ok (.invokevirtual 48, 3) := by decide +kernel
theorem dX0_allShown_16 : decode cX0_allShown 16 = .ok (.iadd, 1) := by decide +kernel
theorem dX0_allShown_17 : decode cX0_allShown 17 = .ok (.istore_n 1, 1) := by decide +kernel
theorem dX0_allShown_18 : decode cX0_allShown 18 = .ok (.iinc 2 1, 3) := by decide +kernel
theorem dX0_allShown_21 : decode cX0_allShown 21 = .ok (.goto (-17), 3) := by decide +kernel
theorem dX0_allShown_24 : decode cX0_allShown 24 = .ok (.iload_n 1, 1) := by decide +kernel
theorem dX0_allShown_25 : decode cX0_allShown 25 = .ok (.ireturn, 1) := by decide +kernel
theorem dX0_rodsWithLoan_0 : decode cX0_rodsWithLoan 0 = .ok (.iconst 0, 1) := by decide +kernel
theorem dX0_rodsWithLoan_1 : decode cX0_rodsWithLoan 1 = .ok (.istore_n 1, 1) := by decide +kernel
theorem dX0_rodsWithLoan_2 : decode cX0_rodsWithLoan 2 = .ok (.iconst 0, 1) := by decide +kernel
theorem dX0_rodsWithLoan_3 : decode cX0_rodsWithLoan 3 = .ok (.istore_n 2, 1) := by decide +kernel
theorem dX0_rodsWithLoan_4 : decode cX0_rodsWithLoan 4 = .ok (.iload_n 2, 1) := by decide +kernel
theorem dX0_rodsWithLoan_5 : decode cX0_rodsWithLoan 5 = .ok (.bipush 9, 2) := by decide +kernel
theorem dX0_rodsWithLoan_7 : decode cX0_rodsWithLoan 7 = .ok (.if_icmp .ge 21, 3) := by decide +kernel
theorem dX0_rodsWithLoan_10 : decode cX0_rodsWithLoan 10 = .ok (.aload_n 0, 1) := by decide +kernel
theorem dX0_rodsWithLoan_11 : decode cX0_rodsWithLoan 11 = .ok (.getfield 21, 3) := by decide +kernel
theorem dX0_rodsWithLoan_14 : decode cX0_rodsWithLoan 14 = .ok (.iload_n 2, 1) := by decide +kernel
theorem dX0_rodsWithLoan_15 : decode cX0_rodsWithLoan 15 = .ok (.iaload, 1) := by decide +kernel
theorem dX0_rodsWithLoan_16 : decode cX0_rodsWithLoan 16 = .ok (.ifCond .eq 6, 3) := by decide +kernel
theorem dX0_rodsWithLoan_19 : decode cX0_rodsWithLoan 19 = .ok (.iinc 1 1, 3) := by decide +kernel
theorem dX0_rodsWithLoan_22 : decode cX0_rodsWithLoan 22 = .ok (.iinc 2 1, 3) := by decide +kernel
theorem dX0_rodsWithLoan_25 : decode cX0_rodsWithLoan 25 = .ok (.goto (-21), 3) := by decide +kernel
theorem dX0_rodsWithLoan_28 : decode cX0_rodsWithLoan 28 = .ok (.iload_n 1, 1) := by decide +kernel
theorem dX0_rodsWithLoan_29 : decode cX0_rodsWithLoan 29 = .ok (.ireturn, 1) := by decide +kernel
set_option maxRecDepth 20000 in
theorem ggX0_rodsOutOfOrder_X0_shown : GoodIn wsX0_rodsOutOfOrder wsX0_shown := goodIn_r _ [5, 6, 7, 8, 9, 10, 11, 12, 13, 14] (by decide +kernel) (by decide +kernel)
set_option maxRecDepth 20000 in
theorem gX0_rodsOutOfOrder_X0_shown : GoodIn wsX0_rodsOutOfOrder (wsV RX0 48 RX0 yX0_shown wsX0_shown) := goodIn_app (goodIn_of _ (by decide +kernel)) ggX0_rodsOutOfOrder_X0_shown
theorem dX0_rodsOutOfOrder_0 : decode cX0_rodsOutOfOrder 0 = .ok (.iconst 0, 1) := by decide +kernel
theorem dX0_rodsOutOfOrder_1 : decode cX0_rodsOutOfOrder 1 = .ok (.istore_n 1, 1) := by decide +kernel
theorem dX0_rodsOutOfOrder_2 : decode cX0_rodsOutOfOrder 2 = .ok (.iconst 0, 1) := by decide +kernel
theorem dX0_rodsOutOfOrder_3 : decode cX0_rodsOutOfOrder 3 = .ok (.istore_n 2, 1) := by decide +kernel
theorem dX0_rodsOutOfOrder_4 : decode cX0_rodsOutOfOrder 4 = .ok (.iload_n 2, 1) := by decide +kernel
theorem dX0_rodsOutOfOrder_5 : decode cX0_rodsOutOfOrder 5 = .ok (.bipush 9, 2) := by decide +kernel
theorem dX0_rodsOutOfOrder_7 : decode cX0_rodsOutOfOrder 7 = .ok (.if_icmp .ge 22, 3) := by decide +kernel
theorem dX0_rodsOutOfOrder_10 : decode cX0_rodsOutOfOrder 10 = .ok (.aload_n 0, 1) := by decide +kernel
theorem dX0_rodsOutOfOrder_11 : decode cX0_rodsOutOfOrder 11 = .ok (.iload_n 2, 1) := by decide +kernel
theorem dX0_rodsOutOfOrder_12 : decode cX0_rodsOutOfOrder 12 = .ok (.invokevirtual 48, 3) := by decide +kernel
theorem dX0_rodsOutOfOrder_15 : decode cX0_rodsOutOfOrder 15 = .ok (.bipush 10, 2) := by decide +kernel
theorem dX0_rodsOutOfOrder_17 : decode cX0_rodsOutOfOrder 17 = .ok (.if_icmp .lt 6, 3) := by decide +kernel
theorem dX0_rodsOutOfOrder_20 : decode cX0_rodsOutOfOrder 20 = .ok (.iinc 1 1, 3) := by decide +kernel
theorem dX0_rodsOutOfOrder_23 : decode cX0_rodsOutOfOrder 23 = .ok (.iinc 2 1, 3) := by decide +kernel
theorem dX0_rodsOutOfOrder_26 : decode cX0_rodsOutOfOrder 26 = .ok (.goto (-22), 3) := by decide +kernel
theorem dX0_rodsOutOfOrder_29 : decode cX0_rodsOutOfOrder 29 = .ok (.iload_n 1, 1) := by decide +kernel
theorem dX0_rodsOutOfOrder_30 : decode cX0_rodsOutOfOrder 30 = .ok (.ireturn, 1) := by decide +kernel
theorem dX0_rodsWithStuck_0 : decode cX0_rodsWithStuck 0 = .ok (.iconst 0, 1) := by decide +kernel
theorem dX0_rodsWithStuck_1 : decode cX0_rodsWithStuck 1 = .ok (.istore_n 1, 1) := by decide +kernel
theorem dX0_rodsWithStuck_2 : decode cX0_rodsWithStuck 2 = .ok (.iconst 0, 1) := by decide +kernel
theorem dX0_rodsWithStuck_3 : decode cX0_rodsWithStuck 3 = .ok (.istore_n 2, 1) := by decide +kernel
theorem dX0_rodsWithStuck_4 : decode cX0_rodsWithStuck 4 = .ok (.iload_n 2, 1) := by decide +kernel
theorem dX0_rodsWithStuck_5 : decode cX0_rodsWithStuck 5 = .ok (.bipush 9, 2) := by decide +kernel
theorem dX0_rodsWithStuck_7 : decode cX0_rodsWithStuck 7 = .ok (.if_icmp .ge 21, 3) := by decide +kernel
theorem dX0_rodsWithStuck_10 : decode cX0_rodsWithStuck 10 = .ok (.aload_n 0, 1) := by decide +kernel
theorem dX0_rodsWithStuck_11 : decode cX0_rodsWithStuck 11 = .ok (.getfield 18, 3) := by decide +kernel
theorem dX0_rodsWithStuck_14 : decode cX0_rodsWithStuck 14 = .ok (.iload_n 2, 1) := by decide +kernel
theorem dX0_rodsWithStuck_15 : decode cX0_rodsWithStuck 15 = .ok (.iaload, 1) := by decide +kernel
theorem dX0_rodsWithStuck_16 : decode cX0_rodsWithStuck 16 = .ok (.ifCond .eq 6, 3) := by decide +kernel
theorem dX0_rodsWithStuck_19 : decode cX0_rodsWithStuck 19 = .ok (.iinc 1 1, 3) := by decide +kernel
theorem dX0_rodsWithStuck_22 : decode cX0_rodsWithStuck 22 = .ok (.iinc 2 1, 3) := by decide +kernel
theorem dX0_rodsWithStuck_25 : decode cX0_rodsWithStuck 25 = .ok (.goto (-21), 3) := by decide +kernel
theorem dX0_rodsWithStuck_28 : decode cX0_rodsWithStuck 28 = .ok (.iload_n 1, 1) := by decide +kernel
theorem dX0_rodsWithStuck_29 : decode cX0_rodsWithStuck 29 = .ok (.ireturn, 1) := by decide +kernel
set_option maxRecDepth 20000 in
theorem ggX1_init_X0_init : GoodIn wsX1_init wsX0_init := goodIn_r _ [12, 13, 2, 3, 14, 15, 16, 17, 18, 19, 20, 21, 25, 26, 27, 28, 29, 30, 31] (by decide +kernel) (by decide +kernel)
set_option maxRecDepth 20000 in
theorem gX1_init_X0_init : GoodIn wsX1_init (wsX0_init) := ggX1_init_X0_init
theorem dX1_init_0 : decode cX1_init 0 = .ok (.aload_n 0, 1) := by decide +kernel
theorem dX1_init_1 : decode cX1_init 1 = .ok (.invokespecial 3, 3) := by decide +kernel
theorem dX1_init_4 : decode cX1_init 4 = .ok (.aload_n 0, 1) := by decide +kernel
theorem dX1_init_5 : decode cX1_init 5 = .ok (.bipush 6, 2) := by decide +kernel
theorem dX1_init_7 : decode cX1_init 7 = .ok (.anewarray 9, 3) := by decide +kernel
theorem dX1_init_10 : decode cX1_init 10 = .ok (.putfield 11, 3) := by decide +kernel
theorem dX1_init_13 : decode cX1_init 13 = .ok (.aload_n 0, 1) := by decide +kernel
theorem dX1_init_14 : decode cX1_init 14 = .ok (.iconst 0, 1) := by decide +kernel
theorem dX1_init_15 : decode cX1_init 15 = .ok (.putfield 17, 3) := by decide +kernel
theorem dX1_init_18 : decode cX1_init 18 = .ok (.aload_n 0, 1) := by decide +kernel
theorem dX1_init_19 : decode cX1_init 19 = .ok (.iconst 0, 1) := by decide +kernel
theorem dX1_init_20 : decode cX1_init 20 = .ok (.putfield 21, 3) := by decide +kernel
theorem dX1_init_23 : decode cX1_init 23 = .ok (.iconst 0, 1) := by decide +kernel
theorem dX1_init_24 : decode cX1_init 24 = .ok (.istore_n 1, 1) := by decide +kernel
theorem dX1_init_25 : decode cX1_init 25 = .ok (.iload_n 1, 1) := by decide +kernel
theorem dX1_init_26 : decode cX1_init 26 = .ok (.bipush 6, 2) := by decide +kernel
theorem dX1_init_28 : decode cX1_init 28 = .ok (.if_icmp .ge 22, 3) := by decide +kernel
theorem dX1_init_31 : decode cX1_init 31 = .ok (.aload_n 0, 1) := by decide +kernel
theorem dX1_init_32 : decode cX1_init 32 = .ok (.getfield 11, 3) := by decide +kernel
theorem dX1_init_35 : decode cX1_init 35 = .ok (.iload_n 1, 1) := by decide +kernel
theorem dX1_init_36 : decode cX1_init 36 = .ok (.new 9, 3) := by decide +kernel
theorem dX1_init_39 : decode cX1_init 39 = .ok (.dup, 1) := by decide +kernel
theorem dX1_init_40 : decode cX1_init 40 = .ok (.invokespecial 24, 3) := by decide +kernel
theorem dX1_init_43 : decode cX1_init 43 = .ok (.aastore, 1) := by decide +kernel
theorem dX1_init_44 : decode cX1_init 44 = .ok (.iinc 1 1, 3) := by decide +kernel
theorem dX1_init_47 : decode cX1_init 47 = .ok (.goto (-22), 3) := by decide +kernel
theorem dX1_init_50 : decode cX1_init 50 = .ok (.return_, 1) := by decide +kernel
set_option maxRecDepth 20000 in
theorem ggX1_keep_X0_copyFrom : GoodIn wsX1_keep wsX0_copyFrom := goodIn_r _ [8, 9, 10, 11, 12, 13, 14, 15, 19, 20, 21, 22, 23, 24, 25] (by decide +kernel) (by decide +kernel)
set_option maxRecDepth 20000 in
theorem gX1_keep_X0_copyFrom : GoodIn wsX1_keep (wsV RX1 25 RX0 yX0_copyFrom wsX0_copyFrom) := goodIn_app (goodIn_of _ (by decide +kernel)) ggX1_keep_X0_copyFrom
theorem dX1_keep_0 : decode cX1_keep 0 = .ok (.aload_n 0, 1) := by decide +kernel
theorem dX1_keep_1 : decode cX1_keep 1 = .ok (.getfield 21, 3) := by decide +kernel
theorem dX1_keep_4 : decode cX1_keep 4 = .ok (.bipush 6, 2) := by decide +kernel
theorem dX1_keep_6 : decode cX1_keep 6 = .ok (.if_icmp .ne 26, 3) := by decide +kernel
theorem dX1_keep_9 : decode cX1_keep 9 = .ok (.aload_n 0, 1) := by decide +kernel
theorem dX1_keep_10 : decode cX1_keep 10 = .ok (.aload_n 0, 1) := by decide +kernel
theorem dX1_keep_11 : decode cX1_keep 11 = .ok (.getfield 17, 3) := by decide +kernel
theorem dX1_keep_14 : decode cX1_keep 14 = .ok (.iconst 1, 1) := by decide +kernel
theorem dX1_keep_15 : decode cX1_keep 15 = .ok (.iadd, 1) := by decide +kernel
theorem dX1_keep_16 : decode cX1_keep 16 = .ok (.bipush 6, 2) := by decide +kernel
theorem dX1_keep_18 : decode cX1_keep 18 = .ok (.irem, 1) := by decide +kernel
theorem dX1_keep_19 : decode cX1_keep 19 = .ok (.putfield 17, 3) := by decide +kernel
theorem dX1_keep_22 : decode cX1_keep 22 = .ok (.aload_n 0, 1) := by decide +kernel
theorem dX1_keep_23 : decode cX1_keep 23 = .ok (.dup, 1) := by decide +kernel
theorem dX1_keep_24 : decode cX1_keep 24 = .ok (.getfield 21, 3) := by decide +kernel
theorem dX1_keep_27 : decode cX1_keep 27 = .ok (.iconst 1, 1) := by decide +kernel
theorem dX1_keep_28 : decode cX1_keep 28 = .ok (.isub, 1) := by decide +kernel
theorem dX1_keep_29 : decode cX1_keep 29 = .ok (.putfield 21, 3) := by decide +kernel
theorem dX1_keep_32 : decode cX1_keep 32 = .ok (.aload_n 0, 1) := by decide +kernel
theorem dX1_keep_33 : decode cX1_keep 33 = .ok (.getfield 11, 3) := by decide +kernel
theorem dX1_keep_36 : decode cX1_keep 36 = .ok (.aload_n 0, 1) := by decide +kernel
theorem dX1_keep_37 : decode cX1_keep 37 = .ok (.getfield 17, 3) := by decide +kernel
theorem dX1_keep_40 : decode cX1_keep 40 = .ok (.aload_n 0, 1) := by decide +kernel
theorem dX1_keep_41 : decode cX1_keep 41 = .ok (.getfield 21, 3) := by decide +kernel
theorem dX1_keep_44 : decode cX1_keep 44 = .ok (.iadd, 1) := by decide +kernel
theorem dX1_keep_45 : decode cX1_keep 45 = .ok (.bipush 6, 2) := by decide +kernel
theorem dX1_keep_47 : decode cX1_keep 47 = .ok (.irem, 1) := by decide +kernel
theorem dX1_keep_48 : decode cX1_keep 48 = .ok (.aaload, 1) := by decide +kernel
theorem dX1_keep_49 : decode cX1_keep 49 = .ok (.aload_n 1, 1) := by decide +kernel
theorem dX1_keep_50 : decode cX1_keep 50 = .ok (.invokevirtual 25, 3) := by decide +kernel
theorem dX1_keep_53 : decode cX1_keep 53 = .ok (.aload_n 0, 1) := by decide +kernel
theorem dX1_keep_54 : decode cX1_keep 54 = .ok (.dup, 1) := by decide +kernel
theorem dX1_keep_55 : decode cX1_keep 55 = .ok (.getfield 21, 3) := by decide +kernel
theorem dX1_keep_58 : decode cX1_keep 58 = .ok (.iconst 1, 1) := by decide +kernel
theorem dX1_keep_59 : decode cX1_keep 59 = .ok (.iadd, 1) := by decide +kernel
theorem dX1_keep_60 : decode cX1_keep 60 = .ok (.putfield 21, 3) := by decide +kernel
theorem dX1_keep_63 : decode cX1_keep 63 = .ok (.return_, 1) := by decide +kernel
set_option maxRecDepth 20000 in
theorem ggX1_restore_X0_copyFrom : GoodIn wsX1_restore wsX0_copyFrom := goodIn_r _ [8, 9, 10, 11, 12, 13, 14, 15, 19, 20, 21, 22, 23, 24, 25] (by decide +kernel) (by decide +kernel)
set_option maxRecDepth 20000 in
theorem gX1_restore_X0_copyFrom : GoodIn wsX1_restore (wsV RX1 25 RX0 yX0_copyFrom wsX0_copyFrom) := goodIn_app (goodIn_of _ (by decide +kernel)) ggX1_restore_X0_copyFrom
theorem dX1_restore_0 : decode cX1_restore 0 = .ok (.aload_n 0, 1) := by decide +kernel
theorem dX1_restore_1 : decode cX1_restore 1 = .ok (.getfield 21, 3) := by decide +kernel
theorem dX1_restore_4 : decode cX1_restore 4 = .ok (.ifCond .le 34, 3) := by decide +kernel
theorem dX1_restore_7 : decode cX1_restore 7 = .ok (.aload_n 0, 1) := by decide +kernel
theorem dX1_restore_8 : decode cX1_restore 8 = .ok (.dup, 1) := by decide +kernel
theorem dX1_restore_9 : decode cX1_restore 9 = .ok (.getfield 21, 3) := by decide +kernel
theorem dX1_restore_12 : decode cX1_restore 12 = .ok (.iconst 1, 1) := by decide +kernel
theorem dX1_restore_13 : decode cX1_restore 13 = .ok (.isub, 1) := by decide +kernel
theorem dX1_restore_14 : decode cX1_restore 14 = .ok (.putfield 21, 3) := by decide +kernel
theorem dX1_restore_17 : decode cX1_restore 17 = .ok (.aload_n 1, 1) := by decide +kernel
theorem dX1_restore_18 : decode cX1_restore 18 = .ok (.aload_n 0, 1) := by decide +kernel
theorem dX1_restore_19 : decode cX1_restore 19 = .ok (.getfield 11, 3) := by decide +kernel
theorem dX1_restore_22 : decode cX1_restore 22 = .ok (.aload_n 0, 1) := by decide +kernel
theorem dX1_restore_23 : decode cX1_restore 23 = .ok (.getfield 17, 3) := by decide +kernel
theorem dX1_restore_26 : decode cX1_restore 26 = .ok (.aload_n 0, 1) := by decide +kernel
theorem dX1_restore_27 : decode cX1_restore 27 = .ok (.getfield 21, 3) := by decide +kernel
theorem dX1_restore_30 : decode cX1_restore 30 = .ok (.iadd, 1) := by decide +kernel
theorem dX1_restore_31 : decode cX1_restore 31 = .ok (.bipush 6, 2) := by decide +kernel
theorem dX1_restore_33 : decode cX1_restore 33 = .ok (.irem, 1) := by decide +kernel
theorem dX1_restore_34 : decode cX1_restore 34 = .ok (.aaload, 1) := by decide +kernel
theorem dX1_restore_35 : decode cX1_restore 35 = .ok (.invokevirtual 25, 3) := by decide +kernel
theorem dX1_restore_38 : decode cX1_restore 38 = .ok (.return_, 1) := by decide +kernel
theorem dX2_init_0 : decode cX2_init 0 = .ok (.aload_n 0, 1) := by decide +kernel
theorem dX2_init_1 : decode cX2_init 1 = .ok (.invokespecial 3, 3) := by decide +kernel
theorem dX2_init_4 : decode cX2_init 4 = .ok (.aload_n 0, 1) := by decide +kernel
theorem dX2_init_5 : decode cX2_init 5 = .ok (.bipush 60, 2) := by decide +kernel
theorem dX2_init_7 : decode cX2_init 7 = .ok (.newarray .int, 2) := by decide +kernel
theorem dX2_init_9 : decode cX2_init 9 = .ok (.putfield 9, 3) := by decide +kernel
theorem dX2_init_12 : decode cX2_init 12 = .ok (.aload_n 0, 1) := by decide +kernel
theorem dX2_init_13 : decode cX2_init 13 = .ok (.iconst 0, 1) := by decide +kernel
theorem dX2_init_14 : decode cX2_init 14 = .ok (.putfield 15, 3) := by decide +kernel
theorem dX2_init_17 : decode cX2_init 17 = .ok (.return_, 1) := by decide +kernel
set_option maxRecDepth 20000 in
theorem ggX3_init_X0_init : GoodIn wsX3_init wsX0_init := goodIn_r _ [18, 19, 2, 3, 20, 21, 22, 23, 24, 25, 26, 27, 43, 44, 45, 46, 47, 48, 49] (by decide +kernel) (by decide +kernel)
set_option maxRecDepth 20000 in
theorem gX3_init_X0_init : GoodIn wsX3_init (wsX0_init) := ggX3_init_X0_init
set_option maxRecDepth 20000 in
theorem ggX3_init_X1_init : GoodIn wsX3_init wsX1_init := goodIn_r _ [30, 31, 2, 3, 32, 33, 34, 35, 5, 6, 36, 17, 18, 19, 20, 21, 22, 23, 24, 25, 26, 27, 53, 54, 55, 43, 44, 45, 46, 47, 48, 49] (by decide +kernel) (by decide +kernel)
set_option maxRecDepth 20000 in
theorem gX3_init_X1_init : GoodIn wsX3_init (wsX1_init) := ggX3_init_X1_init
set_option maxRecDepth 20000 in
theorem ggX3_init_X2_init : GoodIn wsX3_init wsX2_init := goodIn_r _ [39, 40, 2, 3, 20, 41, 42, 56, 57] (by decide +kernel) (by decide +kernel)
set_option maxRecDepth 20000 in
theorem gX3_init_X2_init : GoodIn wsX3_init (wsX2_init) := ggX3_init_X2_init
theorem dX3_init_0 : decode cX3_init 0 = .ok (.aload_n 0, 1) := by decide +kernel
theorem dX3_init_1 : decode cX3_init 1 = .ok (.invokespecial 3, 3) := by decide +kernel
theorem dX3_init_4 : decode cX3_init 4 = .ok (.aload_n 0, 1) := by decide +kernel
theorem dX3_init_5 : decode cX3_init 5 = .ok (.new 9, 3) := by decide +kernel
theorem dX3_init_8 : decode cX3_init 8 = .ok (.dup, 1) := by decide +kernel
theorem dX3_init_9 : decode cX3_init 9 = .ok (.invokespecial 11, 3) := by decide +kernel
theorem dX3_init_12 : decode cX3_init 12 = .ok (.putfield 12, 3) := by decide +kernel
theorem dX3_init_15 : decode cX3_init 15 = .ok (.aload_n 0, 1) := by decide +kernel
theorem dX3_init_16 : decode cX3_init 16 = .ok (.new 16, 3) := by decide +kernel
theorem dX3_init_19 : decode cX3_init 19 = .ok (.dup, 1) := by decide +kernel
theorem dX3_init_20 : decode cX3_init 20 = .ok (.invokespecial 18, 3) := by decide +kernel
theorem dX3_init_23 : decode cX3_init 23 = .ok (.putfield 19, 3) := by decide +kernel
theorem dX3_init_26 : decode cX3_init 26 = .ok (.aload_n 0, 1) := by decide +kernel
theorem dX3_init_27 : decode cX3_init 27 = .ok (.new 23, 3) := by decide +kernel
theorem dX3_init_30 : decode cX3_init 30 = .ok (.dup, 1) := by decide +kernel
theorem dX3_init_31 : decode cX3_init 31 = .ok (.invokespecial 25, 3) := by decide +kernel
theorem dX3_init_34 : decode cX3_init 34 = .ok (.putfield 26, 3) := by decide +kernel
theorem dX3_init_37 : decode cX3_init 37 = .ok (.return_, 1) := by decide +kernel
set_option maxRecDepth 20000 in
theorem ggX3_move_X3_checkRod : GoodIn wsX3_move wsX3_checkRod := goodIn_ca (goodIn_r _ [8, 9, 10] (by decide +kernel) (by decide +kernel)) (goodIn_sub (fun _ h => List.mem_cons_of_mem _ (List.mem_append_left _ (List.mem_append_right _ h))) (by decide +kernel))
set_option maxRecDepth 20000 in
theorem gX3_move_X3_checkRod : GoodIn wsX3_move (va_wsS RX3 30 yX3_checkRod wsX3_checkRod) := goodIn_app (goodIn_of _ (by decide +kernel)) ggX3_move_X3_checkRod
set_option maxRecDepth 20000 in
theorem ggX3_move_X3_checkRange : GoodIn wsX3_move wsX3_checkRange := goodIn_ca (goodIn_r _ [13, 14, 15] (by decide +kernel) (by decide +kernel)) (goodIn_sub (fun _ h => List.mem_cons_of_mem _ (List.mem_append_right _ h)) (by decide +kernel))
set_option maxRecDepth 20000 in
theorem gX3_move_X3_checkRange : GoodIn wsX3_move (va_wsS RX3 34 yX3_checkRange wsX3_checkRange) := goodIn_app (goodIn_of _ (by decide +kernel)) ggX3_move_X3_checkRange
set_option maxRecDepth 20000 in
theorem ggX3_move_X0_movesBy : GoodIn wsX3_move wsX0_movesBy := goodIn_r _ [20, 21, 22, 23, 24, 25, 26, 27, 51, 52, 53, 54, 55, 56, 57] (by decide +kernel) (by decide +kernel)
set_option maxRecDepth 20000 in
theorem gX3_move_X0_movesBy : GoodIn wsX3_move (wsV RX3 38 RX0 yX0_movesBy wsX0_movesBy) := goodIn_app (goodIn_of _ (by decide +kernel)) ggX3_move_X0_movesBy
set_option maxRecDepth 20000 in
theorem ggX3_move_X1_keep : GoodIn wsX3_move wsX1_keep := goodIn_r _ [32, 33, 34, 35, 36, 37, 38, 19, 39, 21, 26, 27, 40, 41, 42, 43, 58, 59, 60, 51, 52, 53, 54, 55, 56, 57] (by decide +kernel) (by decide +kernel)
set_option maxRecDepth 20000 in
theorem gX3_move_X1_keep : GoodIn wsX3_move (wsV RX3 49 RX1 yX1_keep wsX1_keep) := goodIn_app (goodIn_of _ (by decide +kernel)) ggX3_move_X1_keep
set_option maxRecDepth 20000 in
theorem ggX3_move_X0_place : GoodIn wsX3_move wsX0_place := goodIn_r _ [47, 21, 26, 41, 51, 52, 53, 54, 55, 56, 57] (by decide +kernel) (by decide +kernel)
set_option maxRecDepth 20000 in
theorem gX3_move_X0_place : GoodIn wsX3_move (wsV RX3 53 RX0 yX0_place wsX0_place) := goodIn_app (goodIn_of _ (by decide +kernel)) ggX3_move_X0_place
theorem dX3_move_0 : decode cX3_move 0 = .ok (.iload_n 1, 1) := by decide +kernel
theorem dX3_move_1 : decode cX3_move 1 = .ok (.invokestatic 30, 3) := by decide +kernel
theorem dX3_move_4 : decode cX3_move 4 = .ok (.iload_n 2, 1) := by decide +kernel
theorem dX3_move_5 : decode cX3_move 5 = .ok (.iconst 0, 1) := by decide +kernel
theorem dX3_move_6 : decode cX3_move 6 = .ok (.iconst 2, 1) := by decide +kernel
theorem dX3_move_7 : decode cX3_move 7 = .ok (.invokestatic 34, 3) := by decide +kernel
theorem dX3_move_10 : decode cX3_move 10 = .ok (.iload_n 3, 1) := by decide +kernel
theorem dX3_move_11 : decode cX3_move 11 = .ok (.iconst 0, 1) := by decide +kernel
theorem dX3_move_12 : decode cX3_move 12 = .ok (.iconst 5, 1) := by decide +kernel
theorem dX3_move_13 : decode cX3_move 13 = .ok (.invokestatic 34, 3) := by decide +kernel
theorem dX3_move_16 : decode cX3_move 16 = .ok (.aload_n 0, 1) := by decide +kernel
theorem dX3_move_17 : decode cX3_move 17 = .ok (.getfield 12, 3) := by decide +kernel
theorem dX3_move_20 : decode cX3_move 20 = .ok (.iload_n 1, 1) := by decide +kernel
theorem dX3_move_21 : decode cX3_move 21 = .ok (.iload_n 2, 1) := by decide +kernel
theorem dX3_move_22 : decode cX3_move 22 = .ok (.iload_n 3, 1) := by decide +kernel
theorem dX3_move_23 : decode cX3_move 23 = .ok (.invokevirtual 38, 3) := by decide +kernel
theorem dX3_move_26 : decode cX3_move 26 = .ok (.istore 4, 2) := by decide +kernel
theorem dX3_move_28 : decode cX3_move 28 = .ok (.iload 4, 2) := by decide +kernel
theorem dX3_move_30 : decode cX3_move 30 = .ok (.iconst (-1), 1) := by decide +kernel
theorem dX3_move_31 : decode cX3_move 31 = .ok (.if_icmp .ne 13, 3) := by decide +kernel
theorem dX3_move_34 : decode cX3_move 34 = .ok (.new 42, 3) := by decide +kernel
theorem dX3_move_37 : decode cX3_move 37 = .ok (.dup, 1) := by decide +kernel
theorem dX3_move_38 : decode cX3_move 38 = .ok (.ldc 44, 2) := by decide +kernel
theorem dX3_move_40 : decode cX3_move 40 = .ok (.invokespecial 46, 3) := by decide +kernel
theorem dX3_move_43 : decode cX3_move 43 = .ok (.athrow, 1) := by decide +kernel
theorem dX3_move_44 : decode cX3_move 44 = .ok (.aload_n 0, 1) := by decide +kernel
theorem dX3_move_45 : decode cX3_move 45 = .ok (.getfield 19, 3) := by decide +kernel
theorem dX3_move_48 : decode cX3_move 48 = .ok (.aload_n 0, 1) := by decide +kernel
theorem dX3_move_49 : decode cX3_move 49 = .ok (.getfield 12, 3) := by decide +kernel
theorem dX3_move_52 : decode cX3_move 52 = .ok (.invokevirtual 49, 3) := by decide +kernel
theorem dX3_move_55 : decode cX3_move 55 = .ok (.aload_n 0, 1) := by decide +kernel
theorem dX3_move_56 : decode cX3_move 56 = .ok (.getfield 12, 3) := by decide +kernel
theorem dX3_move_59 : decode cX3_move 59 = .ok (.iload_n 1, 1) := by decide +kernel
theorem dX3_move_60 : decode cX3_move 60 = .ok (.iload_n 2, 1) := by decide +kernel
theorem dX3_move_61 : decode cX3_move 61 = .ok (.iload_n 3, 1) := by decide +kernel
theorem dX3_move_62 : decode cX3_move 62 = .ok (.iload 4, 2) := by decide +kernel
theorem dX3_move_64 : decode cX3_move 64 = .ok (.invokevirtual 53, 3) := by decide +kernel
theorem dX3_move_67 : decode cX3_move 67 = .ok (.iload 4, 2) := by decide +kernel
theorem dX3_move_69 : decode cX3_move 69 = .ok (.ireturn, 1) := by decide +kernel
set_option maxRecDepth 20000 in
theorem ggX3_stick_X3_checkRod : GoodIn wsX3_stick wsX3_checkRod := goodIn_ca (goodIn_r _ [7, 8, 9] (by decide +kernel) (by decide +kernel)) (goodIn_sub (fun _ h => List.mem_cons_of_mem _ (List.mem_append_left _ (List.mem_append_right _ h))) (by decide +kernel))
set_option maxRecDepth 20000 in
theorem gX3_stick_X3_checkRod : GoodIn wsX3_stick (va_wsS RX3 30 yX3_checkRod wsX3_checkRod) := goodIn_app (goodIn_of _ (by decide +kernel)) ggX3_stick_X3_checkRod
set_option maxRecDepth 20000 in
theorem ggX3_stick_X3_checkRange : GoodIn wsX3_stick wsX3_checkRange := goodIn_ca (goodIn_r _ [12, 13, 14] (by decide +kernel) (by decide +kernel)) (goodIn_sub (fun _ h => List.mem_cons_of_mem _ (List.mem_append_right _ h)) (by decide +kernel))
set_option maxRecDepth 20000 in
theorem gX3_stick_X3_checkRange : GoodIn wsX3_stick (va_wsS RX3 34 yX3_checkRange wsX3_checkRange) := goodIn_app (goodIn_of _ (by decide +kernel)) ggX3_stick_X3_checkRange
set_option maxRecDepth 20000 in
theorem ggX3_stick_X1_keep : GoodIn wsX3_stick wsX1_keep := goodIn_r _ [19, 20, 21, 22, 23, 24, 25, 26, 27, 28, 29, 30, 31, 32, 33, 34, 45, 46, 47, 38, 39, 40, 41, 42, 43, 44] (by decide +kernel) (by decide +kernel)
set_option maxRecDepth 20000 in
theorem gX3_stick_X1_keep : GoodIn wsX3_stick (wsV RX3 49 RX1 yX1_keep wsX1_keep) := goodIn_app (goodIn_of _ (by decide +kernel)) ggX3_stick_X1_keep
theorem dX3_stick_0 : decode cX3_stick 0 = .ok (.iload_n 1, 1) := by decide +kernel
theorem dX3_stick_1 : decode cX3_stick 1 = .ok (.invokestatic 30, 3) := by decide +kernel
theorem dX3_stick_4 : decode cX3_stick 4 = .ok (.iload_n 2, 1) := by decide +kernel
