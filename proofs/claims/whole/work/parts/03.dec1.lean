theorem dX2_isCompleteSum_41 : decode cX2_isCompleteSum 41 = .ok (.invokestatic 23, 3) := by decide +kernel
theorem dX2_isCompleteSum_44 : decode cX2_isCompleteSum 44 = .ok (.ifCond .eq 7, 3) := by decide +kernel
theorem dX2_isCompleteSum_47 : decode cX2_isCompleteSum 47 = .ok (.iconst 1, 1) := by decide +kernel
theorem dX2_isCompleteSum_48 : decode cX2_isCompleteSum 48 = .ok (.goto 4, 3) := by decide +kernel
theorem dX2_isCompleteSum_51 : decode cX2_isCompleteSum 51 = .ok (.iconst 0, 1) := by decide +kernel
theorem dX2_isCompleteSum_52 : decode cX2_isCompleteSum 52 = .ok (.ireturn, 1) := by decide +kernel
set_option maxRecDepth 20000 in
theorem ggX2_digitsBehind_X3_isDigit : GoodIn wsX2_digitsBehind wsX3_isDigit := goodIn_r _ [5] (by decide +kernel) (by decide +kernel)
set_option maxRecDepth 20000 in
theorem gX2_digitsBehind_X3_isDigit_n23 : GoodIn wsX2_digitsBehind (wsX3_isDigit) := ggX2_digitsBehind_X3_isDigit
theorem dX2_digitsBehind_0 : decode cX2_digitsBehind 0 = .ok (.iconst 0, 1) := by decide +kernel
theorem dX2_digitsBehind_1 : decode cX2_digitsBehind 1 = .ok (.istore_n 2, 1) := by decide +kernel
theorem dX2_digitsBehind_2 : decode cX2_digitsBehind 2 = .ok (.iload_n 1, 1) := by decide +kernel
theorem dX2_digitsBehind_3 : decode cX2_digitsBehind 3 = .ok (.iconst 1, 1) := by decide +kernel
theorem dX2_digitsBehind_4 : decode cX2_digitsBehind 4 = .ok (.iadd, 1) := by decide +kernel
theorem dX2_digitsBehind_5 : decode cX2_digitsBehind 5 = .ok (.istore_n 3, 1) := by decide +kernel
theorem dX2_digitsBehind_6 : decode cX2_digitsBehind 6 = .ok (.iload_n 3, 1) := by decide +kernel
theorem dX2_digitsBehind_7 : decode cX2_digitsBehind 7 = .ok (.aload_n 0, 1) := by decide +kernel
theorem dX2_digitsBehind_8 : decode cX2_digitsBehind 8 = .ok (.getfield 15, 3) := by decide +kernel
theorem dX2_digitsBehind_11 : decode cX2_digitsBehind 11 = .ok (.if_icmp .ge 30, 3) := by decide +kernel
theorem dX2_digitsBehind_14 : decode cX2_digitsBehind 14 = .ok (.iload_n 3, 1) := by decide +kernel
theorem dX2_digitsBehind_15 : decode cX2_digitsBehind 15 = .ok (.bipush 60, 2) := by decide +kernel
theorem dX2_digitsBehind_17 : decode cX2_digitsBehind 17 = .ok (.if_icmp .ge 24, 3) := by decide +kernel
theorem dX2_digitsBehind_20 : decode cX2_digitsBehind 20 = .ok (.aload_n 0, 1) := by decide +kernel
theorem dX2_digitsBehind_21 : decode cX2_digitsBehind 21 = .ok (.getfield 9, 3) := by decide +kernel
theorem dX2_digitsBehind_24 : decode cX2_digitsBehind 24 = .ok (.iload_n 3, 1) := by decide +kernel
theorem dX2_digitsBehind_25 : decode cX2_digitsBehind 25 = .ok (.iaload, 1) := by decide +kernel
theorem dX2_digitsBehind_26 : decode cX2_digitsBehind 26 = .ok (.invokestatic 23, 3) := by decide +kernel
theorem dX2_digitsBehind_29 : decode cX2_digitsBehind 29 = .ok (.ifCond .eq 12, 3) := by decide +kernel
theorem dX2_digitsBehind_32 : decode cX2_digitsBehind 32 = .ok (.iinc 2 1, 3) := by decide +kernel
theorem dX2_digitsBehind_35 : decode cX2_digitsBehind 35 = .ok (.iinc 3 1, 3) := by decide +kernel
theorem dX2_digitsBehind_38 : decode cX2_digitsBehind 38 = .ok (.goto (-32), 3) := by decide +kernel
theorem dX2_digitsBehind_41 : decode cX2_digitsBehind 41 = .ok (.iload_n 2, 1) := by decide +kernel
theorem dX2_digitsBehind_42 : decode cX2_digitsBehind 42 = .ok (.ireturn, 1) := by decide +kernel
set_option maxRecDepth 20000 in
theorem ggX3_init_X0_init : GoodIn wsX3_init wsX0_init := goodIn_r _ [18, 19, 2, 3, 20, 21, 22, 23, 24, 25, 26, 27, 43, 44, 45, 46, 47, 48, 49] (by decide +kernel) (by decide +kernel)
set_option maxRecDepth 20000 in
theorem gX3_init_X0_init : GoodIn wsX3_init (wsX0_init) := ggX3_init_X0_init
set_option maxRecDepth 20000 in
theorem ggX3_init_X1_init : GoodIn wsX3_init wsX1_init := goodIn_r _ [30, 31, 2, 3, 32, 33, 34, 35, 5, 6, 36, 17, 18, 19, 20, 21, 22, 23, 24, 25, 26, 27, 53, 54, 55, 43, 44, 45, 46, 47, 48, 49] (by decide +kernel) (by decide +kernel)
set_option maxRecDepth 20000 in
theorem gX3_init_X1_init : GoodIn wsX3_init (wsX1_init) := ggX3_init_X1_init
set_option maxRecDepth 20000 in
theorem ggX3_init_X2_init : GoodIn wsX3_init wsX2_init := goodIn_r _ [39, 40, 2, 3, 20, 41, 42, 56, 57] (by decide +kernel) (by decide +kernel)
set_option maxRecDepth 20000 in
theorem gX3_init_X2_init : GoodIn wsX3_init (wsX2_init) := ggX3_init_X2_init
theorem dX3_init_0 : decode cX3_init 0 = .ok (.aload_n 0, 1) := by decide +kernel
theorem dX3_init_1 : decode cX3_init 1 = .ok (.invokespecial 3, 3) := by decide +kernel
theorem dX3_init_4 : decode cX3_init 4 = .ok (.aload_n 0, 1) := by decide +kernel
theorem dX3_init_5 : decode cX3_init 5 = .ok (.new 9, 3) := by decide +kernel
theorem dX3_init_8 : decode cX3_init 8 = .ok (.dup, 1) := by decide +kernel
theorem dX3_init_9 : decode cX3_init 9 = .ok (.invokespecial 11, 3) := by decide +kernel
theorem dX3_init_12 : decode cX3_init 12 = .ok (.putfield 12, 3) := by decide +kernel
theorem dX3_init_15 : decode cX3_init 15 = .ok (.aload_n 0, 1) := by decide +kernel
theorem dX3_init_16 : decode cX3_init 16 = .ok (.new 16, 3) := by decide +kernel
theorem dX3_init_19 : decode cX3_init 19 = .ok (.dup, 1) := by decide +kernel
theorem dX3_init_20 : decode cX3_init 20 = .ok (.invokespecial 18, 3) := by decide +kernel
theorem dX3_init_23 : decode cX3_init 23 = .ok (.putfield 19, 3) := by decide +kernel
theorem dX3_init_26 : decode cX3_init 26 = .ok (.aload_n 0, 1) := by decide +kernel
theorem dX3_init_27 : decode cX3_init 27 = .ok (.new 23, 3) := by decide +kernel
theorem dX3_init_30 : decode cX3_init 30 = .ok (.dup, 1) := by decide +kernel
theorem dX3_init_31 : decode cX3_init 31 = .ok (.invokespecial 25, 3) := by decide +kernel
theorem dX3_init_34 : decode cX3_init 34 = .ok (.putfield 26, 3) := by decide +kernel
theorem dX3_init_37 : decode cX3_init 37 = .ok (.return_, 1) := by decide +kernel
set_option maxRecDepth 20000 in
theorem ggX3_move_X3_checkRod : GoodIn wsX3_move wsX3_checkRod := goodIn_ca (goodIn_r _ [8, 9, 10] (by decide +kernel) (by decide +kernel)) (goodIn_sub (fun _ h => List.mem_cons_of_mem _ (List.mem_append_left _ (List.mem_append_right _ h))) (by decide +kernel))
set_option maxRecDepth 20000 in
theorem gX3_move_X3_checkRod : GoodIn wsX3_move (va_wsS RX3 30 yX3_checkRod wsX3_checkRod) := goodIn_app (goodIn_of _ (by decide +kernel)) ggX3_move_X3_checkRod
set_option maxRecDepth 20000 in
theorem ggX3_move_X3_checkRange : GoodIn wsX3_move wsX3_checkRange := goodIn_ca (goodIn_r _ [13, 14, 15] (by decide +kernel) (by decide +kernel)) (goodIn_sub (fun _ h => List.mem_cons_of_mem _ (List.mem_append_right _ h)) (by decide +kernel))
set_option maxRecDepth 20000 in
theorem gX3_move_X3_checkRange : GoodIn wsX3_move (va_wsS RX3 34 yX3_checkRange wsX3_checkRange) := goodIn_app (goodIn_of _ (by decide +kernel)) ggX3_move_X3_checkRange
set_option maxRecDepth 20000 in
theorem ggX3_move_X0_movesBy : GoodIn wsX3_move wsX0_movesBy := goodIn_r _ [20, 21, 22, 23, 24, 25, 26, 27, 51, 52, 53, 54, 55, 56, 57] (by decide +kernel) (by decide +kernel)
set_option maxRecDepth 20000 in
theorem gX3_move_X0_movesBy : GoodIn wsX3_move (wsV RX3 38 RX0 yX0_movesBy wsX0_movesBy) := goodIn_app (goodIn_of _ (by decide +kernel)) ggX3_move_X0_movesBy
set_option maxRecDepth 20000 in
theorem ggX3_move_X1_keep : GoodIn wsX3_move wsX1_keep := goodIn_r _ [32, 33, 34, 35, 36, 37, 38, 19, 39, 21, 26, 27, 40, 41, 42, 43, 58, 59, 60, 51, 52, 53, 54, 55, 56, 57] (by decide +kernel) (by decide +kernel)
set_option maxRecDepth 20000 in
theorem gX3_move_X1_keep : GoodIn wsX3_move (wsV RX3 49 RX1 yX1_keep wsX1_keep) := goodIn_app (goodIn_of _ (by decide +kernel)) ggX3_move_X1_keep
set_option maxRecDepth 20000 in
theorem ggX3_move_X0_place : GoodIn wsX3_move wsX0_place := goodIn_r _ [47, 21, 26, 41, 51, 52, 53, 54, 55, 56, 57] (by decide +kernel) (by decide +kernel)
set_option maxRecDepth 20000 in
theorem gX3_move_X0_place : GoodIn wsX3_move (wsV RX3 53 RX0 yX0_place wsX0_place) := goodIn_app (goodIn_of _ (by decide +kernel)) ggX3_move_X0_place
theorem dX3_move_0 : decode cX3_move 0 = .ok (.iload_n 1, 1) := by decide +kernel
theorem dX3_move_1 : decode cX3_move 1 = .ok (.invokestatic 30, 3) := by decide +kernel
theorem dX3_move_4 : decode cX3_move 4 = .ok (.iload_n 2, 1) := by decide +kernel
theorem dX3_move_5 : decode cX3_move 5 = .ok (.iconst 0, 1) := by decide +kernel
theorem dX3_move_6 : decode cX3_move 6 = .ok (.iconst 2, 1) := by decide +kernel
theorem dX3_move_7 : decode cX3_move 7 = .ok (.invokestatic 34, 3) := by decide +kernel
theorem dX3_move_10 : decode cX3_move 10 = .ok (.iload_n 3, 1) := by decide +kernel
theorem dX3_move_11 : decode cX3_move 11 = .ok (.iconst 0, 1) := by decide +kernel
theorem dX3_move_12 : decode cX3_move 12 = .ok (.iconst 5, 1) := by decide +kernel
theorem dX3_move_13 : decode cX3_move 13 = .ok (.invokestatic 34, 3) := by decide +kernel
theorem dX3_move_16 : decode cX3_move 16 = .ok (.aload_n 0, 1) := by decide +kernel
theorem dX3_move_17 : decode cX3_move 17 = .ok (.getfield 12, 3) := by decide +kernel
theorem dX3_move_20 : decode cX3_move 20 = .ok (.iload_n 1, 1) := by decide +kernel
theorem dX3_move_21 : decode cX3_move 21 = .ok (.iload_n 2, 1) := by decide +kernel
theorem dX3_move_22 : decode cX3_move 22 = .ok (.iload_n 3, 1) := by decide +kernel
theorem dX3_move_23 : decode cX3_move 23 = .ok (.invokevirtual 38, 3) := by decide +kernel
theorem dX3_move_26 : decode cX3_move 26 = .ok (.istore 4, 2) := by decide +kernel
theorem dX3_move_28 : decode cX3_move 28 = .ok (.iload 4, 2) := by decide +kernel
theorem dX3_move_30 : decode cX3_move 30 = .ok (.iconst (-1), 1) := by decide +kernel
theorem dX3_move_31 : decode cX3_move 31 = .ok (.if_icmp .ne 13, 3) := by decide +kernel
theorem dX3_move_34 : decode cX3_move 34 = .ok (.new 42, 3) := by decide +kernel
theorem dX3_move_37 : decode cX3_move 37 = .ok (.dup, 1) := by decide +kernel
theorem dX3_move_38 : decode cX3_move 38 = .ok (.ldc 44, 2) := by decide +kernel
theorem dX3_move_40 : decode cX3_move 40 = .ok (.invokespecial 46, 3) := by decide +kernel
theorem dX3_move_43 : decode cX3_move 43 = .ok (.athrow, 1) := by decide +kernel
theorem dX3_move_44 : decode cX3_move 44 = .ok (.aload_n 0, 1) := by decide +kernel
theorem dX3_move_45 : decode cX3_move 45 = .ok (.getfield 19, 3) := by decide +kernel
theorem dX3_move_48 : decode cX3_move 48 = .ok (.aload_n 0, 1) := by decide +kernel
theorem dX3_move_49 : decode cX3_move 49 = .ok (.getfield 12, 3) := by decide +kernel
theorem dX3_move_52 : decode cX3_move 52 = .ok (.invokevirtual 49, 3) := by decide +kernel
theorem dX3_move_55 : decode cX3_move 55 = .ok (.aload_n 0, 1) := by decide +kernel
theorem dX3_move_56 : decode cX3_move 56 = .ok (.getfield 12, 3) := by decide +kernel
theorem dX3_move_59 : decode cX3_move 59 = .ok (.iload_n 1, 1) := by decide +kernel
theorem dX3_move_60 : decode cX3_move 60 = .ok (.iload_n 2, 1) := by decide +kernel
theorem dX3_move_61 : decode cX3_move 61 = .ok (.iload_n 3, 1) := by decide +kernel
theorem dX3_move_62 : decode cX3_move 62 = .ok (.iload 4, 2) := by decide +kernel
theorem dX3_move_64 : decode cX3_move 64 = .ok (.invokevirtual 53, 3) := by decide +kernel
theorem dX3_move_67 : decode cX3_move 67 = .ok (.iload 4, 2) := by decide +kernel
theorem dX3_move_69 : decode cX3_move 69 = .ok (.ireturn, 1) := by decide +kernel
set_option maxRecDepth 20000 in
theorem ggX3_stick_X3_checkRod : GoodIn wsX3_stick wsX3_checkRod := goodIn_ca (goodIn_r _ [7, 8, 9] (by decide +kernel) (by decide +kernel)) (goodIn_sub (fun _ h => List.mem_cons_of_mem _ (List.mem_append_left _ (List.mem_append_right _ h))) (by decide +kernel))
set_option maxRecDepth 20000 in
theorem gX3_stick_X3_checkRod : GoodIn wsX3_stick (va_wsS RX3 30 yX3_checkRod wsX3_checkRod) := goodIn_app (goodIn_of _ (by decide +kernel)) ggX3_stick_X3_checkRod
set_option maxRecDepth 20000 in
theorem ggX3_stick_X3_checkRange : GoodIn wsX3_stick wsX3_checkRange := goodIn_ca (goodIn_r _ [12, 13, 14] (by decide +kernel) (by decide +kernel)) (goodIn_sub (fun _ h => List.mem_cons_of_mem _ (List.mem_append_right _ h)) (by decide +kernel))
set_option maxRecDepth 20000 in
theorem gX3_stick_X3_checkRange : GoodIn wsX3_stick (va_wsS RX3 34 yX3_checkRange wsX3_checkRange) := goodIn_app (goodIn_of _ (by decide +kernel)) ggX3_stick_X3_checkRange
set_option maxRecDepth 20000 in
theorem ggX3_stick_X1_keep : GoodIn wsX3_stick wsX1_keep := goodIn_r _ [19, 20, 21, 22, 23, 24, 25, 26, 27, 28, 29, 30, 31, 32, 33, 34, 45, 46, 47, 38, 39, 40, 41, 42, 43, 44] (by decide +kernel) (by decide +kernel)
set_option maxRecDepth 20000 in
theorem gX3_stick_X1_keep : GoodIn wsX3_stick (wsV RX3 49 RX1 yX1_keep wsX1_keep) := goodIn_app (goodIn_of _ (by decide +kernel)) ggX3_stick_X1_keep
theorem dX3_stick_0 : decode cX3_stick 0 = .ok (.iload_n 1, 1) := by decide +kernel
theorem dX3_stick_1 : decode cX3_stick 1 = .ok (.invokestatic 30, 3) := by decide +kernel
theorem dX3_stick_4 : decode cX3_stick 4 = .ok (.iload_n 2, 1) := by decide +kernel
theorem dX3_stick_5 : decode cX3_stick 5 = .ok (.iconst 0, 1) := by decide +kernel
theorem dX3_stick_6 : decode cX3_stick 6 = .ok (.iconst 3, 1) := by decide +kernel
theorem dX3_stick_7 : decode cX3_stick 7 = .ok (.invokestatic 34, 3) := by decide +kernel
theorem dX3_stick_10 : decode cX3_stick 10 = .ok (.aload_n 0, 1) := by decide +kernel
theorem dX3_stick_11 : decode cX3_stick 11 = .ok (.getfield 19, 3) := by decide +kernel
theorem dX3_stick_14 : decode cX3_stick 14 = .ok (.aload_n 0, 1) := by decide +kernel
theorem dX3_stick_15 : decode cX3_stick 15 = .ok (.getfield 12, 3) := by decide +kernel
theorem dX3_stick_18 : decode cX3_stick 18 = .ok (.invokevirtual 49, 3) := by decide +kernel
theorem dX3_stick_21 : decode cX3_stick 21 = .ok (.aload_n 0, 1) := by decide +kernel
theorem dX3_stick_22 : decode cX3_stick 22 = .ok (.getfield 12, 3) := by decide +kernel
theorem dX3_stick_25 : decode cX3_stick 25 = .ok (.getfield 57, 3) := by decide +kernel
theorem dX3_stick_28 : decode cX3_stick 28 = .ok (.iload_n 1, 1) := by decide +kernel
theorem dX3_stick_29 : decode cX3_stick 29 = .ok (.iaload, 1) := by decide +kernel
theorem dX3_stick_30 : decode cX3_stick 30 = .ok (.istore_n 3, 1) := by decide +kernel
theorem dX3_stick_31 : decode cX3_stick 31 = .ok (.aload_n 0, 1) := by decide +kernel
theorem dX3_stick_32 : decode cX3_stick 32 = .ok (.getfield 12, 3) := by decide +kernel
theorem dX3_stick_35 : decode cX3_stick 35 = .ok (.getfield 57, 3) := by decide +kernel
theorem dX3_stick_38 : decode cX3_stick 38 = .ok (.iload_n 1, 1) := by decide +kernel
theorem dX3_stick_39 : decode cX3_stick 39 = .ok (.iload_n 2, 1) := by decide +kernel
theorem dX3_stick_40 : decode cX3_stick 40 = .ok (.iastore, 1) := by decide +kernel
theorem dX3_stick_41 : decode cX3_stick 41 = .ok (.iload_n 3, 1) := by decide +kernel
theorem dX3_stick_42 : decode cX3_stick 42 = .ok (.ireturn, 1) := by decide +kernel
set_option maxRecDepth 20000 in
theorem ggX3_set_X3_checkRange : GoodIn wsX3_set wsX3_checkRange := goodIn_ca (goodIn_r _ [7, 8, 9] (by decide +kernel) (by decide +kernel)) (goodIn_sub (fun _ h => List.mem_cons_of_mem _ (List.mem_append_right _ h)) (by decide +kernel))
set_option maxRecDepth 20000 in
theorem gX3_set_X3_checkRange : GoodIn wsX3_set (va_wsS RX3 34 yX3_checkRange wsX3_checkRange) := goodIn_app (goodIn_of _ (by decide +kernel)) ggX3_set_X3_checkRange
set_option maxRecDepth 20000 in
theorem ggX3_set_X1_keep : GoodIn wsX3_set wsX1_keep := goodIn_r _ [14, 15, 16, 17, 18, 19, 20, 21, 22, 23, 24, 25, 26, 27, 28, 29, 40, 41, 42, 33, 34, 35, 36, 37, 38, 39] (by decide +kernel) (by decide +kernel)
set_option maxRecDepth 20000 in
theorem gX3_set_X1_keep : GoodIn wsX3_set (wsV RX3 49 RX1 yX1_keep wsX1_keep) := goodIn_app (goodIn_of _ (by decide +kernel)) ggX3_set_X1_keep
theorem dX3_set_0 : decode cX3_set 0 = .ok (.iload_n 1, 1) := by decide +kernel
theorem dX3_set_1 : decode cX3_set 1 = .ok (.iconst 0, 1) := by decide +kernel
theorem dX3_set_2 : decode cX3_set 2 = .ok (.bipush 9, 2) := by decide +kernel
theorem dX3_set_4 : decode cX3_set 4 = .ok (.invokestatic 34, 3) := by decide +kernel
theorem dX3_set_7 : decode cX3_set 7 = .ok (.aload_n 0, 1) := by decide +kernel
theorem dX3_set_8 : decode cX3_set 8 = .ok (.getfield 19, 3) := by decide +kernel
theorem dX3_set_11 : decode cX3_set 11 = .ok (.aload_n 0, 1) := by decide +kernel
theorem dX3_set_12 : decode cX3_set 12 = .ok (.getfield 12, 3) := by decide +kernel
theorem dX3_set_15 : decode cX3_set 15 = .ok (.invokevirtual 49, 3) := by decide +kernel
theorem dX3_set_18 : decode cX3_set 18 = .ok (.aload_n 0, 1) := by decide +kernel
theorem dX3_set_19 : decode cX3_set 19 = .ok (.getfield 12, 3) := by decide +kernel
theorem dX3_set_22 : decode cX3_set 22 = .ok (.getfield 61, 3) := by decide +kernel
theorem dX3_set_25 : decode cX3_set 25 = .ok (.istore_n 2, 1) := by decide +kernel
theorem dX3_set_26 : decode cX3_set 26 = .ok (.aload_n 0, 1) := by decide +kernel
theorem dX3_set_27 : decode cX3_set 27 = .ok (.getfield 12, 3) := by decide +kernel
theorem dX3_set_30 : decode cX3_set 30 = .ok (.iload_n 1, 1) := by decide +kernel
theorem dX3_set_31 : decode cX3_set 31 = .ok (.putfield 61, 3) := by decide +kernel
theorem dX3_set_34 : decode cX3_set 34 = .ok (.iload_n 2, 1) := by decide +kernel
theorem dX3_set_35 : decode cX3_set 35 = .ok (.ireturn, 1) := by decide +kernel
set_option maxRecDepth 20000 in
theorem ggX3_add_X3_checkRod : GoodIn wsX3_add wsX3_checkRod := goodIn_ca (goodIn_r _ [4, 5, 6] (by decide +kernel) (by decide +kernel)) (goodIn_sub (fun _ h => List.mem_cons_of_mem _ (List.mem_append_left _ (List.mem_append_left _ (List.mem_append_right _ h)))) (by decide +kernel))
set_option maxRecDepth 20000 in
theorem gX3_add_X3_checkRod : GoodIn wsX3_add (va_wsS RX3 30 yX3_checkRod wsX3_checkRod) := goodIn_app (goodIn_of _ (by decide +kernel)) ggX3_add_X3_checkRod
set_option maxRecDepth 20000 in
theorem ggX3_add_X3_checkRange : GoodIn wsX3_add wsX3_checkRange := goodIn_ca (goodIn_r _ [9, 10, 11] (by decide +kernel) (by decide +kernel)) (goodIn_sub (fun _ h => List.mem_cons_of_mem _ (List.mem_append_left _ (List.mem_append_right _ h))) (by decide +kernel))
set_option maxRecDepth 20000 in
theorem gX3_add_X3_checkRange : GoodIn wsX3_add (va_wsS RX3 34 yX3_checkRange wsX3_checkRange) := goodIn_app (goodIn_of _ (by decide +kernel)) ggX3_add_X3_checkRange
set_option maxRecDepth 20000 in
theorem ggX3_add_X3_changeOrThrow : GoodIn wsX3_add wsX3_changeOrThrow := goodIn_ca (goodIn_r _ [15, 16, 17, 18, 19, 20, 21, 22, 23, 24, 25, 26, 27, 28, 29, 30, 31, 32, 33, 34, 35, 36, 37, 38, 39, 40, 41, 42, 43, 44, 45, 46, 47, 48, 49, 50, 51, 52, 53, 54, 55, 56, 57, 58, 59, 60, 61, 62, 63, 64, 65, 66, 67, 68, 69, 70, 71, 72, 73, 74, 75, 76, 77, 78, 79, 80, 81, 82, 83, 84] (by decide +kernel) (by decide +kernel)) (goodIn_sub (fun _ h => List.mem_cons_of_mem _ (List.mem_append_right _ h)) (by decide +kernel))
set_option maxRecDepth 20000 in
theorem gX3_add_X3_changeOrThrow : GoodIn wsX3_add (wsV RX3 65 RX3 yX3_changeOrThrow wsX3_changeOrThrow) := goodIn_app (goodIn_of _ (by decide +kernel)) ggX3_add_X3_changeOrThrow
theorem dX3_add_0 : decode cX3_add 0 = .ok (.iload_n 1, 1) := by decide +kernel
theorem dX3_add_1 : decode cX3_add 1 = .ok (.invokestatic 30, 3) := by decide +kernel
theorem dX3_add_4 : decode cX3_add 4 = .ok (.iload_n 2, 1) := by decide +kernel
theorem dX3_add_5 : decode cX3_add 5 = .ok (.iconst 1, 1) := by decide +kernel
theorem dX3_add_6 : decode cX3_add 6 = .ok (.bipush 9, 2) := by decide +kernel
theorem dX3_add_8 : decode cX3_add 8 = .ok (.invokestatic 34, 3) := by decide +kernel
theorem dX3_add_11 : decode cX3_add 11 = .ok (.aload_n 0, 1) := by decide +kernel
theorem dX3_add_12 : decode cX3_add 12 = .ok (.iload_n 1, 1) := by decide +kernel
theorem dX3_add_13 : decode cX3_add 13 = .ok (.iload_n 2, 1) := by decide +kernel
theorem dX3_add_14 : decode cX3_add 14 = .ok (.invokevirtual 65, 3) := by decide +kernel
theorem dX3_add_17 : decode cX3_add 17 = .ok (.ireturn, 1) := by decide +kernel
set_option maxRecDepth 20000 in
theorem ggX3_less_X3_checkRod : GoodIn wsX3_less wsX3_checkRod := goodIn_ca (goodIn_r _ [4, 5, 6] (by decide +kernel) (by decide +kernel)) (goodIn_sub (fun _ h => List.mem_cons_of_mem _ (List.mem_append_left _ (List.mem_append_left _ (List.mem_append_right _ h)))) (by decide +kernel))
set_option maxRecDepth 20000 in
theorem gX3_less_X3_checkRod : GoodIn wsX3_less (va_wsS RX3 30 yX3_checkRod wsX3_checkRod) := goodIn_app (goodIn_of _ (by decide +kernel)) ggX3_less_X3_checkRod
set_option maxRecDepth 20000 in
theorem ggX3_less_X3_checkRange : GoodIn wsX3_less wsX3_checkRange := goodIn_ca (goodIn_r _ [9, 10, 11] (by decide +kernel) (by decide +kernel)) (goodIn_sub (fun _ h => List.mem_cons_of_mem _ (List.mem_append_left _ (List.mem_append_right _ h))) (by decide +kernel))
set_option maxRecDepth 20000 in
theorem gX3_less_X3_checkRange : GoodIn wsX3_less (va_wsS RX3 34 yX3_checkRange wsX3_checkRange) := goodIn_app (goodIn_of _ (by decide +kernel)) ggX3_less_X3_checkRange
set_option maxRecDepth 20000 in
theorem ggX3_less_X3_changeOrThrow : GoodIn wsX3_less wsX3_changeOrThrow := goodIn_ca (goodIn_r _ [15, 16, 17, 18, 19, 20, 21, 22, 23, 24, 25, 26, 27, 28, 29, 30, 31, 32, 33, 34, 35, 36, 37, 38, 39, 40, 41, 42, 43, 44, 45, 46, 47, 48, 49, 50, 51, 52, 53, 54, 55, 56, 57, 58, 59, 60, 61, 62, 63, 64, 65, 66, 67, 68, 69, 70, 71, 72, 73, 74, 75, 76, 77, 78, 79, 80, 81, 82, 83, 84] (by decide +kernel) (by decide +kernel)) (goodIn_sub (fun _ h => List.mem_cons_of_mem _ (List.mem_append_right _ h)) (by decide +kernel))
set_option maxRecDepth 20000 in
theorem gX3_less_X3_changeOrThrow : GoodIn wsX3_less (wsV RX3 65 RX3 yX3_changeOrThrow wsX3_changeOrThrow) := goodIn_app (goodIn_of _ (by decide +kernel)) ggX3_less_X3_changeOrThrow
theorem dX3_less_0 : decode cX3_less 0 = .ok (.iload_n 1, 1) := by decide +kernel
theorem dX3_less_1 : decode cX3_less 1 = .ok (.invokestatic 30, 3) := by decide +kernel
theorem dX3_less_4 : decode cX3_less 4 = .ok (.iload_n 2, 1) := by decide +kernel
theorem dX3_less_5 : decode cX3_less 5 = .ok (.iconst 1, 1) := by decide +kernel
theorem dX3_less_6 : decode cX3_less 6 = .ok (.bipush 9, 2) := by decide +kernel
theorem dX3_less_8 : decode cX3_less 8 = .ok (.invokestatic 34, 3) := by decide +kernel
theorem dX3_less_11 : decode cX3_less 11 = .ok (.aload_n 0, 1) := by decide +kernel
theorem dX3_less_12 : decode cX3_less 12 = .ok (.iload_n 1, 1) := by decide +kernel
theorem dX3_less_13 : decode cX3_less 13 = .ok (.iload_n 2, 1) := by decide +kernel
theorem dX3_less_14 : decode cX3_less 14 = .ok (.ineg, 1) := by decide +kernel
theorem dX3_less_15 : decode cX3_less 15 = .ok (.invokevirtual 65, 3) := by decide +kernel
theorem dX3_less_18 : decode cX3_less 18 = .ok (.ireturn, 1) := by decide +kernel
set_option maxRecDepth 20000 in
theorem ggX3_pay_X3_checkRod : GoodIn wsX3_pay wsX3_checkRod := goodIn_ca (goodIn_r _ [9, 10, 11] (by decide +kernel) (by decide +kernel)) (goodIn_sub (fun _ h => List.mem_cons_of_mem _ (List.mem_append_right _ h)) (by decide +kernel))
set_option maxRecDepth 20000 in
theorem gX3_pay_X3_checkRod : GoodIn wsX3_pay (va_wsS RX3 30 yX3_checkRod wsX3_checkRod) := goodIn_app (goodIn_of _ (by decide +kernel)) ggX3_pay_X3_checkRod
set_option maxRecDepth 20000 in
theorem ggX3_pay_X0_change : GoodIn wsX3_pay wsX0_change := goodIn_r _ [16, 17, 18, 19, 15, 20, 21, 22, 23, 24, 25, 26, 27, 28, 29, 30, 31, 32, 33, 34, 35, 36, 37, 38, 39, 40, 41, 42, 43, 44, 45, 46, 47, 48, 49, 50, 51, 72, 73, 74, 75, 76, 77, 78] (by decide +kernel) (by decide +kernel)
set_option maxRecDepth 20000 in
theorem gX3_pay_X0_change : GoodIn wsX3_pay (wsV RX3 72 RX0 yX0_change wsX0_change) := goodIn_app (goodIn_of _ (by decide +kernel)) ggX3_pay_X0_change
set_option maxRecDepth 20000 in
theorem ggX3_pay_X1_keep : GoodIn wsX3_pay wsX1_keep := goodIn_r _ [56, 57, 58, 59, 60, 61, 62, 15, 63, 21, 22, 35, 49, 40, 51, 50, 79, 80, 81, 72, 73, 74, 75, 76, 77, 78] (by decide +kernel) (by decide +kernel)
set_option maxRecDepth 20000 in
theorem gX3_pay_X1_keep : GoodIn wsX3_pay (wsV RX3 49 RX1 yX1_keep wsX1_keep) := goodIn_app (goodIn_of _ (by decide +kernel)) ggX3_pay_X1_keep
set_option maxRecDepth 20000 in
theorem ggX3_pay_X0_payIfPossible : GoodIn wsX3_pay wsX0_payIfPossible := goodIn_r _ [67, 49, 68, 13, 14, 15, 16, 17, 18, 19, 20, 21, 22, 23, 24, 25, 26, 27, 28, 29, 30, 31, 32, 33, 34, 35, 36, 37, 38, 39, 40, 41, 42, 43, 44, 45, 46, 47, 48, 50, 51, 72, 73, 74, 75, 76, 77, 78] (by decide +kernel) (by decide +kernel)
set_option maxRecDepth 20000 in
theorem gX3_pay_X0_payIfPossible : GoodIn wsX3_pay (wsV RX3 78 RX0 yX0_payIfPossible wsX0_payIfPossible) := goodIn_app (goodIn_of _ (by decide +kernel)) ggX3_pay_X0_payIfPossible
theorem dX3_pay_0 : decode cX3_pay 0 = .ok (.iload_n 1, 1) := by decide +kernel
theorem dX3_pay_1 : decode cX3_pay 1 = .ok (.invokestatic 30, 3) := by decide +kernel
theorem dX3_pay_4 : decode cX3_pay 4 = .ok (.aload_n 0, 1) := by decide +kernel
theorem dX3_pay_5 : decode cX3_pay 5 = .ok (.getfield 12, 3) := by decide +kernel
theorem dX3_pay_8 : decode cX3_pay 8 = .ok (.iload_n 1, 1) := by decide +kernel
theorem dX3_pay_9 : decode cX3_pay 9 = .ok (.aload_n 0, 1) := by decide +kernel
theorem dX3_pay_10 : decode cX3_pay 10 = .ok (.getfield 12, 3) := by decide +kernel
theorem dX3_pay_13 : decode cX3_pay 13 = .ok (.getfield 69, 3) := by decide +kernel
theorem dX3_pay_16 : decode cX3_pay 16 = .ok (.iload_n 1, 1) := by decide +kernel
theorem dX3_pay_17 : decode cX3_pay 17 = .ok (.iaload, 1) := by decide +kernel
theorem dX3_pay_18 : decode cX3_pay 18 = .ok (.iconst 0, 1) := by decide +kernel
theorem dX3_pay_19 : decode cX3_pay 19 = .ok (.invokevirtual 72, 3) := by decide +kernel
theorem dX3_pay_22 : decode cX3_pay 22 = .ok (.iconst (-1), 1) := by decide +kernel
theorem dX3_pay_23 : decode cX3_pay 23 = .ok (.if_icmp .ne 13, 3) := by decide +kernel
theorem dX3_pay_26 : decode cX3_pay 26 = .ok (.new 42, 3) := by decide +kernel
theorem dX3_pay_29 : decode cX3_pay 29 = .ok (.dup, 1) := by decide +kernel
theorem dX3_pay_30 : decode cX3_pay 30 = .ok (.ldc 76, 2) := by decide +kernel
theorem dX3_pay_32 : decode cX3_pay 32 = .ok (.invokespecial 46, 3) := by decide +kernel
theorem dX3_pay_35 : decode cX3_pay 35 = .ok (.athrow, 1) := by decide +kernel
theorem dX3_pay_36 : decode cX3_pay 36 = .ok (.aload_n 0, 1) := by decide +kernel
theorem dX3_pay_37 : decode cX3_pay 37 = .ok (.getfield 19, 3) := by decide +kernel
theorem dX3_pay_40 : decode cX3_pay 40 = .ok (.aload_n 0, 1) := by decide +kernel
theorem dX3_pay_41 : decode cX3_pay 41 = .ok (.getfield 12, 3) := by decide +kernel
theorem dX3_pay_44 : decode cX3_pay 44 = .ok (.invokevirtual 49, 3) := by decide +kernel
theorem dX3_pay_47 : decode cX3_pay 47 = .ok (.aload_n 0, 1) := by decide +kernel
theorem dX3_pay_48 : decode cX3_pay 48 = .ok (.getfield 12, 3) := by decide +kernel
theorem dX3_pay_51 : decode cX3_pay 51 = .ok (.iload_n 1, 1) := by decide +kernel
theorem dX3_pay_52 : decode cX3_pay 52 = .ok (.invokevirtual 78, 3) := by decide +kernel
theorem dX3_pay_55 : decode cX3_pay 55 = .ok (.ireturn, 1) := by decide +kernel
set_option maxRecDepth 20000 in
theorem ggX3_tidy_X1_keep : GoodIn wsX3_tidy wsX1_keep := goodIn_r _ [7, 8, 9, 10, 11, 12, 13, 14, 15, 16, 17, 18, 19, 20, 21, 22, 66, 67, 68, 69, 70, 71, 72, 73, 74, 75] (by decide +kernel) (by decide +kernel)
set_option maxRecDepth 20000 in
theorem gX3_tidy_X1_keep : GoodIn wsX3_tidy (wsV RX3 49 RX1 yX1_keep wsX1_keep) := goodIn_app (goodIn_of _ (by decide +kernel)) ggX3_tidy_X1_keep
set_option maxRecDepth 20000 in
theorem ggX3_tidy_X0_payIfPossible : GoodIn wsX3_tidy wsX0_payIfPossible := goodIn_r _ [26, 19, 27, 28, 29, 14, 30, 31, 32, 33, 34, 16, 17, 35, 36, 37, 38, 39, 40, 41, 42, 43, 44, 45, 46, 18, 47, 48, 49, 50, 20, 51, 52, 53, 54, 55, 56, 57, 58, 22, 21, 69, 70, 71, 72, 73, 74, 75] (by decide +kernel) (by decide +kernel)
set_option maxRecDepth 20000 in
theorem gX3_tidy_X0_payIfPossible : GoodIn wsX3_tidy (wsV RX3 78 RX0 yX0_payIfPossible wsX0_payIfPossible) := goodIn_app (goodIn_of _ (by decide +kernel)) ggX3_tidy_X0_payIfPossible
set_option maxRecDepth 20000 in
theorem ggX3_tidy_X0_orderIfPossible : GoodIn wsX3_tidy wsX0_orderIfPossible := goodIn_r _ [62, 31, 32, 33, 14, 34, 16, 17, 51, 52, 53, 54, 35, 36, 37, 38, 39, 40, 41, 42, 43, 44, 45, 46, 18, 47, 48, 49, 50, 20, 55, 56, 57, 58, 19, 22, 21, 69, 70, 71, 72, 73, 74, 75] (by decide +kernel) (by decide +kernel)
set_option maxRecDepth 20000 in
theorem gX3_tidy_X0_orderIfPossible : GoodIn wsX3_tidy (wsV RX3 82 RX0 yX0_orderIfPossible wsX0_orderIfPossible) := goodIn_app (goodIn_of _ (by decide +kernel)) ggX3_tidy_X0_orderIfPossible
theorem dX3_tidy_0 : decode cX3_tidy 0 = .ok (.aload_n 0, 1) := by decide +kernel
theorem dX3_tidy_1 : decode cX3_tidy 1 = .ok (.getfield 19, 3) := by decide +kernel
theorem dX3_tidy_4 : decode cX3_tidy 4 = .ok (.aload_n 0, 1) := by decide +kernel
theorem dX3_tidy_5 : decode cX3_tidy 5 = .ok (.getfield 12, 3) := by decide +kernel
theorem dX3_tidy_8 : decode cX3_tidy 8 = .ok (.invokevirtual 49, 3) := by decide +kernel
theorem dX3_tidy_11 : decode cX3_tidy 11 = .ok (.iconst 0, 1) := by decide +kernel
theorem dX3_tidy_12 : decode cX3_tidy 12 = .ok (.istore_n 1, 1) := by decide +kernel
theorem dX3_tidy_13 : decode cX3_tidy 13 = .ok (.iconst 0, 1) := by decide +kernel
theorem dX3_tidy_14 : decode cX3_tidy 14 = .ok (.istore_n 2, 1) := by decide +kernel
theorem dX3_tidy_15 : decode cX3_tidy 15 = .ok (.iload_n 2, 1) := by decide +kernel
theorem dX3_tidy_16 : decode cX3_tidy 16 = .ok (.bipush 9, 2) := by decide +kernel
theorem dX3_tidy_18 : decode cX3_tidy 18 = .ok (.if_icmp .ge 31, 3) := by decide +kernel
theorem dX3_tidy_21 : decode cX3_tidy 21 = .ok (.iload_n 1, 1) := by decide +kernel
theorem dX3_tidy_22 : decode cX3_tidy 22 = .ok (.aload_n 0, 1) := by decide +kernel
theorem dX3_tidy_23 : decode cX3_tidy 23 = .ok (.getfield 12, 3) := by decide +kernel
theorem dX3_tidy_26 : decode cX3_tidy 26 = .ok (.iload_n 2, 1) := by decide +kernel
theorem dX3_tidy_27 : decode cX3_tidy 27 = .ok (.invokevirtual 78, 3) := by decide +kernel
theorem dX3_tidy_30 : decode cX3_tidy 30 = .ok (.iadd, 1) := by decide +kernel
theorem dX3_tidy_31 : decode cX3_tidy 31 = .ok (.istore_n 1, 1) := by decide +kernel
theorem dX3_tidy_32 : decode cX3_tidy 32 = .ok (.iload_n 1, 1) := by decide +kernel
theorem dX3_tidy_33 : decode cX3_tidy 33 = .ok (.aload_n 0, 1) := by decide +kernel
theorem dX3_tidy_34 : decode cX3_tidy 34 = .ok (.getfield 12, 3) := by decide +kernel
theorem dX3_tidy_37 : decode cX3_tidy 37 = .ok (.iload_n 2, 1) := by decide +kernel
theorem dX3_tidy_38 : decode cX3_tidy 38 = .ok (.invokevirtual 82, 3) := by decide +kernel
theorem dX3_tidy_41 : decode cX3_tidy 41 = .ok (.iadd, 1) := by decide +kernel
theorem dX3_tidy_42 : decode cX3_tidy 42 = .ok (.istore_n 1, 1) := by decide +kernel
theorem dX3_tidy_43 : decode cX3_tidy 43 = .ok (.iinc 2 1, 3) := by decide +kernel
theorem dX3_tidy_46 : decode cX3_tidy 46 = .ok (.goto (-31), 3) := by decide +kernel
theorem dX3_tidy_49 : decode cX3_tidy 49 = .ok (.iload_n 1, 1) := by decide +kernel
theorem dX3_tidy_50 : decode cX3_tidy 50 = .ok (.ireturn, 1) := by decide +kernel
set_option maxRecDepth 20000 in
theorem ggX3_append_X3_checkRange : GoodIn wsX3_append wsX3_checkRange := goodIn_ca (goodIn_r _ [9, 10, 11] (by decide +kernel) (by decide +kernel)) (goodIn_sub (fun _ h => List.mem_cons_of_mem _ (List.mem_append_right _ h)) (by decide +kernel))
set_option maxRecDepth 20000 in
theorem gX3_append_X3_checkRange : GoodIn wsX3_append (va_wsS RX3 34 yX3_checkRange wsX3_checkRange) := goodIn_app (goodIn_of _ (by decide +kernel)) ggX3_append_X3_checkRange
theorem dX3_append_0 : decode cX3_append 0 = .ok (.iload_n 1, 1) := by decide +kernel
theorem dX3_append_1 : decode cX3_append 1 = .ok (.bipush 33, 2) := by decide +kernel
theorem dX3_append_3 : decode cX3_append 3 = .ok (.bipush 126, 2) := by decide +kernel
theorem dX3_append_5 : decode cX3_append 5 = .ok (.invokestatic 34, 3) := by decide +kernel
theorem dX3_append_8 : decode cX3_append 8 = .ok (.aload_n 0, 1) := by decide +kernel
theorem dX3_append_9 : decode cX3_append 9 = .ok (.getfield 26, 3) := by decide +kernel
theorem dX3_append_12 : decode cX3_append 12 = .ok (.getfield 85, 3) := by decide +kernel
theorem dX3_append_15 : decode cX3_append 15 = .ok (.bipush 60, 2) := by decide +kernel
theorem dX3_append_17 : decode cX3_append 17 = .ok (.if_icmp .lt 13, 3) := by decide +kernel
theorem dX3_append_20 : decode cX3_append 20 = .ok (.new 42, 3) := by decide +kernel
theorem dX3_append_23 : decode cX3_append 23 = .ok (.dup, 1) := by decide +kernel
theorem dX3_append_24 : decode cX3_append 24 = .ok (.ldc 88, 2) := by decide +kernel
theorem dX3_append_26 : decode cX3_append 26 = .ok (.invokespecial 46, 3) := by decide +kernel
theorem dX3_append_29 : decode cX3_append 29 = .ok (.athrow, 1) := by decide +kernel
theorem dX3_append_30 : decode cX3_append 30 = .ok (.aload_n 0, 1) := by decide +kernel
theorem dX3_append_31 : decode cX3_append 31 = .ok (.getfield 26, 3) := by decide +kernel
theorem dX3_append_34 : decode cX3_append 34 = .ok (.getfield 90, 3) := by decide +kernel
theorem dX3_append_37 : decode cX3_append 37 = .ok (.aload_n 0, 1) := by decide +kernel
theorem dX3_append_38 : decode cX3_append 38 = .ok (.getfield 26, 3) := by decide +kernel
theorem dX3_append_41 : decode cX3_append 41 = .ok (.getfield 85, 3) := by decide +kernel
theorem dX3_append_44 : decode cX3_append 44 = .ok (.iload_n 1, 1) := by decide +kernel
theorem dX3_append_45 : decode cX3_append 45 = .ok (.iastore, 1) := by decide +kernel
theorem dX3_append_46 : decode cX3_append 46 = .ok (.aload_n 0, 1) := by decide +kernel
theorem dX3_append_47 : decode cX3_append 47 = .ok (.getfield 26, 3) := by decide +kernel
theorem dX3_append_50 : decode cX3_append 50 = .ok (.dup, 1) := by decide +kernel
theorem dX3_append_51 : decode cX3_append 51 = .ok (.getfield 85, 3) := by decide +kernel
theorem dX3_append_54 : decode cX3_append 54 = .ok (.iconst 1, 1) := by decide +kernel
theorem dX3_append_55 : decode cX3_append 55 = .ok (.iadd, 1) := by decide +kernel
theorem dX3_append_56 : decode cX3_append 56 = .ok (.putfield 85, 3) := by decide +kernel
theorem dX3_append_59 : decode cX3_append 59 = .ok (.aload_n 0, 1) := by decide +kernel
theorem dX3_append_60 : decode cX3_append 60 = .ok (.getfield 26, 3) := by decide +kernel
theorem dX3_append_63 : decode cX3_append 63 = .ok (.getfield 85, 3) := by decide +kernel
theorem dX3_append_66 : decode cX3_append 66 = .ok (.ireturn, 1) := by decide +kernel
theorem dX3_clearBuffer_0 : decode cX3_clearBuffer 0 = .ok (.aload_n 0, 1) := by decide +kernel
theorem dX3_clearBuffer_1 : decode cX3_clearBuffer 1 = .ok (.getfield 26, 3) := by decide +kernel
theorem dX3_clearBuffer_4 : decode cX3_clearBuffer 4 = .ok (.getfield 85, 3) := by decide +kernel
theorem dX3_clearBuffer_7 : decode cX3_clearBuffer 7 = .ok (.istore_n 1, 1) := by decide +kernel
theorem dX3_clearBuffer_8 : decode cX3_clearBuffer 8 = .ok (.aload_n 0, 1) := by decide +kernel
theorem dX3_clearBuffer_9 : decode cX3_clearBuffer 9 = .ok (.getfield 26, 3) := by decide +kernel
theorem dX3_clearBuffer_12 : decode cX3_clearBuffer 12 = .ok (.iconst 0, 1) := by decide +kernel
theorem dX3_clearBuffer_13 : decode cX3_clearBuffer 13 = .ok (.putfield 85, 3) := by decide +kernel
theorem dX3_clearBuffer_16 : decode cX3_clearBuffer 16 = .ok (.iload_n 1, 1) := by decide +kernel
theorem dX3_clearBuffer_17 : decode cX3_clearBuffer 17 = .ok (.ireturn, 1) := by decide +kernel
set_option maxRecDepth 20000 in
theorem ggX3_firstError_X2_firstWrong : GoodIn wsX3_firstError wsX2_firstWrong := goodIn_r _ [6, 7, 8, 9, 10, 11, 12, 13, 17, 18] (by decide +kernel) (by decide +kernel)
set_option maxRecDepth 20000 in
theorem gX3_firstError_X2_firstWrong : GoodIn wsX3_firstError (wsV RX3 93 RX2 yX2_firstWrong wsX2_firstWrong) := goodIn_app (goodIn_of _ (by decide +kernel)) ggX3_firstError_X2_firstWrong
theorem dX3_firstError_0 : decode cX3_firstError 0 = .ok (.aload_n 0, 1) := by decide +kernel
theorem dX3_firstError_1 : decode cX3_firstError 1 = .ok (.getfield 26, 3) := by decide +kernel
theorem dX3_firstError_4 : decode cX3_firstError 4 = .ok (.invokevirtual 93, 3) := by decide +kernel
theorem dX3_firstError_7 : decode cX3_firstError 7 = .ok (.ireturn, 1) := by decide +kernel
set_option maxRecDepth 20000 in
theorem ggX3_reckon_X2_isCompleteSum : GoodIn wsX3_reckon wsX2_isCompleteSum := goodIn_r _ [12, 13, 14, 15, 16, 17, 11, 18, 19, 20, 21, 22, 23, 88, 89] (by decide +kernel) (by decide +kernel)
set_option maxRecDepth 20000 in
theorem gX3_reckon_X2_isCompleteSum : GoodIn wsX3_reckon (wsV RX3 97 RX2 yX2_isCompleteSum wsX2_isCompleteSum) := goodIn_app (goodIn_of _ (by decide +kernel)) ggX3_reckon_X2_isCompleteSum
set_option maxRecDepth 20000 in
theorem ggX3_reckon_X1_keep : GoodIn wsX3_reckon wsX1_keep := goodIn_r _ [28, 29, 30, 31, 32, 33, 34, 35, 36, 37, 38, 39, 40, 41, 42, 43, 90, 91, 92, 93, 94, 95, 96, 97, 98, 99] (by decide +kernel) (by decide +kernel)
set_option maxRecDepth 20000 in
theorem gX3_reckon_X1_keep : GoodIn wsX3_reckon (wsV RX3 49 RX1 yX1_keep wsX1_keep) := goodIn_app (goodIn_of _ (by decide +kernel)) ggX3_reckon_X1_keep
set_option maxRecDepth 20000 in
theorem ggX3_reckon_X3_isSign : GoodIn wsX3_reckon wsX3_isSign := goodIn_r _ [21] (by decide +kernel) (by decide +kernel)
set_option maxRecDepth 20000 in
theorem gX3_reckon_X3_isSign : GoodIn wsX3_reckon (va_wsS RX3 106 yX3_isSign wsX3_isSign) := goodIn_app (goodIn_of _ (by decide +kernel)) ggX3_reckon_X3_isSign
set_option maxRecDepth 20000 in
theorem ggX3_reckon_X2_digitsBehind : GoodIn wsX3_reckon wsX2_digitsBehind := goodIn_r _ [48, 13, 14, 22, 20, 23, 88, 89] (by decide +kernel) (by decide +kernel)
set_option maxRecDepth 20000 in
theorem gX3_reckon_X2_digitsBehind : GoodIn wsX3_reckon (wsV RX3 110 RX2 yX2_digitsBehind wsX2_digitsBehind) := goodIn_app (goodIn_of _ (by decide +kernel)) ggX3_reckon_X2_digitsBehind
set_option maxRecDepth 20000 in
theorem ggX3_reckon_X3_reckonTerm : GoodIn wsX3_reckon wsX3_reckonTerm := goodIn_r _ [52, 3, 7, 5, 53, 54, 55, 35, 56, 57, 58, 59, 60, 37, 38, 61, 62, 63, 64, 65, 66, 67, 68, 69, 70, 71, 72, 39, 73, 74, 75, 76, 41, 77, 78, 79, 80, 81, 82, 83, 84, 40, 43, 42, 85, 86, 87, 88, 89, 93, 94, 95, 96, 97, 98, 99] (by decide +kernel) (by decide +kernel)
set_option maxRecDepth 20000 in
theorem gX3_reckon_X3_reckonTerm : GoodIn wsX3_reckon (wsV RX3 113 RX3 yX3_reckonTerm wsX3_reckonTerm) := goodIn_app (goodIn_of _ (by decide +kernel)) ggX3_reckon_X3_reckonTerm
theorem dX3_reckon_0 : decode cX3_reckon 0 = .ok (.aload_n 0, 1) := by decide +kernel
theorem dX3_reckon_1 : decode cX3_reckon 1 = .ok (.getfield 26, 3) := by decide +kernel
theorem dX3_reckon_4 : decode cX3_reckon 4 = .ok (.invokevirtual 97, 3) := by decide +kernel
theorem dX3_reckon_7 : decode cX3_reckon 7 = .ok (.ifCond .ne 13, 3) := by decide +kernel
theorem dX3_reckon_10 : decode cX3_reckon 10 = .ok (.new 101, 3) := by decide +kernel
theorem dX3_reckon_13 : decode cX3_reckon 13 = .ok (.dup, 1) := by decide +kernel
theorem dX3_reckon_14 : decode cX3_reckon 14 = .ok (.ldc 103, 2) := by decide +kernel
theorem dX3_reckon_16 : decode cX3_reckon 16 = .ok (.invokespecial 105, 3) := by decide +kernel
theorem dX3_reckon_19 : decode cX3_reckon 19 = .ok (.athrow, 1) := by decide +kernel
theorem dX3_reckon_20 : decode cX3_reckon 20 = .ok (.aload_n 0, 1) := by decide +kernel
theorem dX3_reckon_21 : decode cX3_reckon 21 = .ok (.getfield 19, 3) := by decide +kernel
theorem dX3_reckon_24 : decode cX3_reckon 24 = .ok (.aload_n 0, 1) := by decide +kernel
theorem dX3_reckon_25 : decode cX3_reckon 25 = .ok (.getfield 12, 3) := by decide +kernel
theorem dX3_reckon_28 : decode cX3_reckon 28 = .ok (.invokevirtual 49, 3) := by decide +kernel
theorem dX3_reckon_31 : decode cX3_reckon 31 = .ok (.iconst 0, 1) := by decide +kernel
theorem dX3_reckon_32 : decode cX3_reckon 32 = .ok (.istore_n 1, 1) := by decide +kernel
theorem dX3_reckon_33 : decode cX3_reckon 33 = .ok (.iconst 0, 1) := by decide +kernel
theorem dX3_reckon_34 : decode cX3_reckon 34 = .ok (.istore_n 2, 1) := by decide +kernel
theorem dX3_reckon_35 : decode cX3_reckon 35 = .ok (.iload_n 2, 1) := by decide +kernel
theorem dX3_reckon_36 : decode cX3_reckon 36 = .ok (.aload_n 0, 1) := by decide +kernel
theorem dX3_reckon_37 : decode cX3_reckon 37 = .ok (.getfield 26, 3) := by decide +kernel
theorem dX3_reckon_40 : decode cX3_reckon 40 = .ok (.getfield 85, 3) := by decide +kernel
theorem dX3_reckon_43 : decode cX3_reckon 43 = .ok (.if_icmp .ge 61, 3) := by decide +kernel
theorem dX3_reckon_46 : decode cX3_reckon 46 = .ok (.iload_n 2, 1) := by decide +kernel
theorem dX3_reckon_47 : decode cX3_reckon 47 = .ok (.bipush 60, 2) := by decide +kernel
theorem dX3_reckon_49 : decode cX3_reckon 49 = .ok (.if_icmp .ge 55, 3) := by decide +kernel
theorem dX3_reckon_52 : decode cX3_reckon 52 = .ok (.aload_n 0, 1) := by decide +kernel
theorem dX3_reckon_53 : decode cX3_reckon 53 = .ok (.getfield 26, 3) := by decide +kernel
theorem dX3_reckon_56 : decode cX3_reckon 56 = .ok (.getfield 90, 3) := by decide +kernel
theorem dX3_reckon_59 : decode cX3_reckon 59 = .ok (.iload_n 2, 1) := by decide +kernel
theorem dX3_reckon_60 : decode cX3_reckon 60 = .ok (.iaload, 1) := by decide +kernel
theorem dX3_reckon_61 : decode cX3_reckon 61 = .ok (.invokestatic 106, 3) := by decide +kernel
theorem dX3_reckon_64 : decode cX3_reckon 64 = .ok (.ifCond .eq 34, 3) := by decide +kernel
theorem dX3_reckon_67 : decode cX3_reckon 67 = .ok (.aload_n 0, 1) := by decide +kernel
theorem dX3_reckon_68 : decode cX3_reckon 68 = .ok (.getfield 26, 3) := by decide +kernel
theorem dX3_reckon_71 : decode cX3_reckon 71 = .ok (.iload_n 2, 1) := by decide +kernel
theorem dX3_reckon_72 : decode cX3_reckon 72 = .ok (.invokevirtual 110, 3) := by decide +kernel
theorem dX3_reckon_75 : decode cX3_reckon 75 = .ok (.istore_n 3, 1) := by decide +kernel
theorem dX3_reckon_76 : decode cX3_reckon 76 = .ok (.aload_n 0, 1) := by decide +kernel
theorem dX3_reckon_77 : decode cX3_reckon 77 = .ok (.iload_n 2, 1) := by decide +kernel
theorem dX3_reckon_78 : decode cX3_reckon 78 = .ok (.iload_n 3, 1) := by decide +kernel
theorem dX3_reckon_79 : decode cX3_reckon 79 = .ok (.invokevirtual 113, 3) := by decide +kernel
theorem dX3_reckon_82 : decode cX3_reckon 82 = .ok (.istore 4, 2) := by decide +kernel
theorem dX3_reckon_84 : decode cX3_reckon 84 = .ok (.iload_n 1, 1) := by decide +kernel
theorem dX3_reckon_85 : decode cX3_reckon 85 = .ok (.iload 4, 2) := by decide +kernel
theorem dX3_reckon_87 : decode cX3_reckon 87 = .ok (.iadd, 1) := by decide +kernel
theorem dX3_reckon_88 : decode cX3_reckon 88 = .ok (.istore_n 1, 1) := by decide +kernel
theorem dX3_reckon_89 : decode cX3_reckon 89 = .ok (.iload 4, 2) := by decide +kernel
theorem dX3_reckon_91 : decode cX3_reckon 91 = .ok (.iload_n 3, 1) := by decide +kernel
theorem dX3_reckon_92 : decode cX3_reckon 92 = .ok (.if_icmp .ge 6, 3) := by decide +kernel
theorem dX3_reckon_95 : decode cX3_reckon 95 = .ok (.goto 9, 3) := by decide +kernel
theorem dX3_reckon_98 : decode cX3_reckon 98 = .ok (.iinc 2 1, 3) := by decide +kernel
theorem dX3_reckon_101 : decode cX3_reckon 101 = .ok (.goto (-66), 3) := by decide +kernel
theorem dX3_reckon_104 : decode cX3_reckon 104 = .ok (.aload_n 0, 1) := by decide +kernel
theorem dX3_reckon_105 : decode cX3_reckon 105 = .ok (.getfield 26, 3) := by decide +kernel
theorem dX3_reckon_108 : decode cX3_reckon 108 = .ok (.iconst 0, 1) := by decide +kernel
theorem dX3_reckon_109 : decode cX3_reckon 109 = .ok (.putfield 85, 3) := by decide +kernel
theorem dX3_reckon_112 : decode cX3_reckon 112 = .ok (.iload_n 1, 1) := by decide +kernel
theorem dX3_reckon_113 : decode cX3_reckon 113 = .ok (.ireturn, 1) := by decide +kernel
set_option maxRecDepth 20000 in
theorem ggX3_undo_X1_restore : GoodIn wsX3_undo wsX1_restore := goodIn_r _ [10, 11, 12, 13, 14, 15, 16, 17, 18, 19, 20, 21, 22, 23, 24, 25, 29, 30, 31, 32, 33, 34, 35, 36, 37, 38] (by decide +kernel) (by decide +kernel)
set_option maxRecDepth 20000 in
theorem gX3_undo_X1_restore : GoodIn wsX3_undo (wsV RX3 121 RX1 yX1_restore wsX1_restore) := goodIn_app (goodIn_of _ (by decide +kernel)) ggX3_undo_X1_restore
theorem dX3_undo_0 : decode cX3_undo 0 = .ok (.aload_n 0, 1) := by decide +kernel
theorem dX3_undo_1 : decode cX3_undo 1 = .ok (.getfield 19, 3) := by decide +kernel
theorem dX3_undo_4 : decode cX3_undo 4 = .ok (.getfield 116, 3) := by decide +kernel
theorem dX3_undo_7 : decode cX3_undo 7 = .ok (.ifCond .ne 13, 3) := by decide +kernel
theorem dX3_undo_10 : decode cX3_undo 10 = .ok (.new 42, 3) := by decide +kernel
theorem dX3_undo_13 : decode cX3_undo 13 = .ok (.dup, 1) := by decide +kernel
theorem dX3_undo_14 : decode cX3_undo 14 = .ok (.ldc 119, 2) := by decide +kernel
theorem dX3_undo_16 : decode cX3_undo 16 = .ok (.invokespecial 46, 3) := by decide +kernel
theorem dX3_undo_19 : decode cX3_undo 19 = .ok (.athrow, 1) := by decide +kernel
theorem dX3_undo_20 : decode cX3_undo 20 = .ok (.aload_n 0, 1) := by decide +kernel
theorem dX3_undo_21 : decode cX3_undo 21 = .ok (.getfield 19, 3) := by decide +kernel
theorem dX3_undo_24 : decode cX3_undo 24 = .ok (.aload_n 0, 1) := by decide +kernel
theorem dX3_undo_25 : decode cX3_undo 25 = .ok (.getfield 12, 3) := by decide +kernel
theorem dX3_undo_28 : decode cX3_undo 28 = .ok (.invokevirtual 121, 3) := by decide +kernel
theorem dX3_undo_31 : decode cX3_undo 31 = .ok (.aload_n 0, 1) := by decide +kernel
theorem dX3_undo_32 : decode cX3_undo 32 = .ok (.getfield 19, 3) := by decide +kernel
theorem dX3_undo_35 : decode cX3_undo 35 = .ok (.getfield 116, 3) := by decide +kernel
theorem dX3_undo_38 : decode cX3_undo 38 = .ok (.ireturn, 1) := by decide +kernel
set_option maxRecDepth 20000 in
theorem ggX3_rod_X3_checkRod : GoodIn wsX3_rod wsX3_checkRod := goodIn_ca (goodIn_r _ [11, 12, 13] (by decide +kernel) (by decide +kernel)) (goodIn_sub (fun _ h => List.mem_cons_of_mem _ (List.mem_append_left _ (List.mem_append_right _ h))) (by decide +kernel))
set_option maxRecDepth 20000 in
theorem gX3_rod_X3_checkRod : GoodIn wsX3_rod (va_wsS RX3 30 yX3_checkRod wsX3_checkRod) := goodIn_app (goodIn_of _ (by decide +kernel)) ggX3_rod_X3_checkRod
set_option maxRecDepth 20000 in
theorem ggX3_rod_X3_checkRange : GoodIn wsX3_rod wsX3_checkRange := goodIn_ca (goodIn_r _ [16, 17, 18] (by decide +kernel) (by decide +kernel)) (goodIn_sub (fun _ h => List.mem_cons_of_mem _ (List.mem_append_right _ h)) (by decide +kernel))
set_option maxRecDepth 20000 in
theorem gX3_rod_X3_checkRange : GoodIn wsX3_rod (va_wsS RX3 34 yX3_checkRange wsX3_checkRange) := goodIn_app (goodIn_of _ (by decide +kernel)) ggX3_rod_X3_checkRange
set_option maxRecDepth 20000 in
theorem ggX3_rod_X0_shown : GoodIn wsX3_rod wsX0_shown := goodIn_r _ [23, 24, 25, 51, 52, 53, 54, 55, 56, 57] (by decide +kernel) (by decide +kernel)
set_option maxRecDepth 20000 in
theorem gX3_rod_X0_shown : GoodIn wsX3_rod (wsV RX3 130 RX0 yX0_shown wsX0_shown) := goodIn_app (goodIn_of _ (by decide +kernel)) ggX3_rod_X0_shown
set_option maxRecDepth 20000 in
theorem ggX3_rod_X0_reach : GoodIn wsX3_rod wsX0_reach := goodIn_r _ [29, 30, 31, 32, 22, 33, 34, 35, 36, 37, 24, 38, 39, 40, 41, 25, 42, 43, 44, 45, 46, 47, 51, 52, 53, 54, 55, 56, 57] (by decide +kernel) (by decide +kernel)
set_option maxRecDepth 20000 in
theorem gX3_rod_X0_reach : GoodIn wsX3_rod (wsV RX3 139 RX0 yX0_reach wsX0_reach) := goodIn_app (goodIn_of _ (by decide +kernel)) ggX3_rod_X0_reach
theorem dX3_rod_0 : decode cX3_rod 0 = .ok (.iload_n 1, 1) := by decide +kernel
theorem dX3_rod_1 : decode cX3_rod 1 = .ok (.invokestatic 30, 3) := by decide +kernel
theorem dX3_rod_4 : decode cX3_rod 4 = .ok (.iload_n 2, 1) := by decide +kernel
theorem dX3_rod_5 : decode cX3_rod 5 = .ok (.iconst 0, 1) := by decide +kernel
theorem dX3_rod_6 : decode cX3_rod 6 = .ok (.bipush 7, 2) := by decide +kernel
theorem dX3_rod_8 : decode cX3_rod 8 = .ok (.invokestatic 34, 3) := by decide +kernel
theorem dX3_rod_11 : decode cX3_rod 11 = .ok (.iload_n 2, 1) := by decide +kernel
theorem dX3_rod_12 : decode cX3_rod 12 = .ok (.tableswitch 116 0 6 #[44, 54, 64, 73, 86, 96, 106], 44) := by decide +kernel
theorem dX3_rod_56 : decode cX3_rod 56 = .ok (.aload_n 0, 1) := by decide +kernel
theorem dX3_rod_57 : decode cX3_rod 57 = .ok (.getfield 12, 3) := by decide +kernel
theorem dX3_rod_60 : decode cX3_rod 60 = .ok (.getfield 124, 3) := by decide +kernel
theorem dX3_rod_63 : decode cX3_rod 63 = .ok (.iload_n 1, 1) := by decide +kernel
theorem dX3_rod_64 : decode cX3_rod 64 = .ok (.iaload, 1) := by decide +kernel
theorem dX3_rod_65 : decode cX3_rod 65 = .ok (.ireturn, 1) := by decide +kernel
theorem dX3_rod_66 : decode cX3_rod 66 = .ok (.aload_n 0, 1) := by decide +kernel
theorem dX3_rod_67 : decode cX3_rod 67 = .ok (.getfield 12, 3) := by decide +kernel
theorem dX3_rod_70 : decode cX3_rod 70 = .ok (.getfield 127, 3) := by decide +kernel
theorem dX3_rod_73 : decode cX3_rod 73 = .ok (.iload_n 1, 1) := by decide +kernel
theorem dX3_rod_74 : decode cX3_rod 74 = .ok (.iaload, 1) := by decide +kernel
theorem dX3_rod_75 : decode cX3_rod 75 = .ok (.ireturn, 1) := by decide +kernel
theorem dX3_rod_76 : decode cX3_rod 76 = .ok (.aload_n 0, 1) := by decide +kernel
theorem dX3_rod_77 : decode cX3_rod 77 = .ok (.getfield 12, 3) := by decide +kernel
theorem dX3_rod_80 : decode cX3_rod 80 = .ok (.iload_n 1, 1) := by decide +kernel
theorem dX3_rod_81 : decode cX3_rod 81 = .ok (.invokevirtual 130, 3) := by decide +kernel
theorem dX3_rod_84 : decode cX3_rod 84 = .ok (.ireturn, 1) := by decide +kernel
theorem dX3_rod_85 : decode cX3_rod 85 = .ok (.aload_n 0, 1) := by decide +kernel
theorem dX3_rod_86 : decode cX3_rod 86 = .ok (.getfield 12, 3) := by decide +kernel
theorem dX3_rod_89 : decode cX3_rod 89 = .ok (.getfield 69, 3) := by decide +kernel
theorem dX3_rod_92 : decode cX3_rod 92 = .ok (.iload_n 1, 1) := by decide +kernel
theorem dX3_rod_93 : decode cX3_rod 93 = .ok (.iaload, 1) := by decide +kernel
theorem dX3_rod_94 : decode cX3_rod 94 = .ok (.bipush 100, 2) := by decide +kernel
theorem dX3_rod_96 : decode cX3_rod 96 = .ok (.iadd, 1) := by decide +kernel
theorem dX3_rod_97 : decode cX3_rod 97 = .ok (.ireturn, 1) := by decide +kernel
theorem dX3_rod_98 : decode cX3_rod 98 = .ok (.aload_n 0, 1) := by decide +kernel
theorem dX3_rod_99 : decode cX3_rod 99 = .ok (.getfield 12, 3) := by decide +kernel
theorem dX3_rod_102 : decode cX3_rod 102 = .ok (.getfield 57, 3) := by decide +kernel
theorem dX3_rod_105 : decode cX3_rod 105 = .ok (.iload_n 1, 1) := by decide +kernel
theorem dX3_rod_106 : decode cX3_rod 106 = .ok (.iaload, 1) := by decide +kernel
theorem dX3_rod_107 : decode cX3_rod 107 = .ok (.ireturn, 1) := by decide +kernel
theorem dX3_rod_108 : decode cX3_rod 108 = .ok (.aload_n 0, 1) := by decide +kernel
theorem dX3_rod_109 : decode cX3_rod 109 = .ok (.getfield 12, 3) := by decide +kernel
theorem dX3_rod_112 : decode cX3_rod 112 = .ok (.getfield 133, 3) := by decide +kernel
theorem dX3_rod_115 : decode cX3_rod 115 = .ok (.iload_n 1, 1) := by decide +kernel
theorem dX3_rod_116 : decode cX3_rod 116 = .ok (.iaload, 1) := by decide +kernel
theorem dX3_rod_117 : decode cX3_rod 117 = .ok (.ireturn, 1) := by decide +kernel
theorem dX3_rod_118 : decode cX3_rod 118 = .ok (.aload_n 0, 1) := by decide +kernel
theorem dX3_rod_119 : decode cX3_rod 119 = .ok (.getfield 12, 3) := by decide +kernel
theorem dX3_rod_122 : decode cX3_rod 122 = .ok (.getfield 136, 3) := by decide +kernel
theorem dX3_rod_125 : decode cX3_rod 125 = .ok (.iload_n 1, 1) := by decide +kernel
theorem dX3_rod_126 : decode cX3_rod 126 = .ok (.iaload, 1) := by decide +kernel
theorem dX3_rod_127 : decode cX3_rod 127 = .ok (.ireturn, 1) := by decide +kernel
theorem dX3_rod_128 : decode cX3_rod 128 = .ok (.aload_n 0, 1) := by decide +kernel
theorem dX3_rod_129 : decode cX3_rod 129 = .ok (.getfield 12, 3) := by decide +kernel
theorem dX3_rod_132 : decode cX3_rod 132 = .ok (.iload_n 1, 1) := by decide +kernel
theorem dX3_rod_133 : decode cX3_rod 133 = .ok (.invokevirtual 139, 3) := by decide +kernel
theorem dX3_rod_136 : decode cX3_rod 136 = .ok (.ireturn, 1) := by decide +kernel
set_option maxRecDepth 20000 in
theorem ggX3_whole_X0_shown : GoodIn wsX3_whole wsX0_shown := goodIn_r _ [8, 9, 10, 14, 15, 16, 17, 18, 19, 20] (by decide +kernel) (by decide +kernel)
set_option maxRecDepth 20000 in
theorem gX3_whole_X0_shown : GoodIn wsX3_whole (wsV RX3 130 RX0 yX0_shown wsX0_shown) := goodIn_app (goodIn_of _ (by decide +kernel)) ggX3_whole_X0_shown
theorem dX3_whole_0 : decode cX3_whole 0 = .ok (.lconst 0, 1) := by decide +kernel
theorem dX3_whole_1 : decode cX3_whole 1 = .ok (.lstore_n 1, 1) := by decide +kernel
theorem dX3_whole_2 : decode cX3_whole 2 = .ok (.lconst 1, 1) := by decide +kernel
theorem dX3_whole_3 : decode cX3_whole 3 = .ok (.lstore_n 3, 1) := by decide +kernel
theorem dX3_whole_4 : decode cX3_whole 4 = .ok (.iconst 0, 1) := by decide +kernel
theorem dX3_whole_5 : decode cX3_whole 5 = .ok (.istore 5, 2) := by decide +kernel
theorem dX3_whole_7 : decode cX3_whole 7 = .ok (.iload 5, 2) := by decide +kernel
theorem dX3_whole_9 : decode cX3_whole 9 = .ok (.bipush 9, 2) := by decide +kernel
theorem dX3_whole_11 : decode cX3_whole 11 = .ok (.if_icmp .ge 41, 3) := by decide +kernel
theorem dX3_whole_14 : decode cX3_whole 14 = .ok (.lload_n 1, 1) := by decide +kernel
theorem dX3_whole_15 : decode cX3_whole 15 = .ok (.aload_n 0, 1) := by decide +kernel
theorem dX3_whole_16 : decode cX3_whole 16 = .ok (.getfield 12, 3) := by decide +kernel
theorem dX3_whole_19 : decode cX3_whole 19 = .ok (.iload 5, 2) := by decide +kernel
theorem dX3_whole_21 : decode cX3_whole 21 = .ok (.invokevirtual 130, 3) := by decide +kernel
theorem dX3_whole_24 : decode cX3_whole 24 = .ok (.aload_n 0, 1) := by decide +kernel
theorem dX3_whole_25 : decode cX3_whole 25 = .ok (.getfield 12, 3) := by decide +kernel
theorem dX3_whole_28 : decode cX3_whole 28 = .ok (.getfield 69, 3) := by decide +kernel
theorem dX3_whole_31 : decode cX3_whole 31 = .ok (.iload 5, 2) := by decide +kernel
theorem dX3_whole_33 : decode cX3_whole 33 = .ok (.iaload, 1) := by decide +kernel
theorem dX3_whole_34 : decode cX3_whole 34 = .ok (.iadd, 1) := by decide +kernel
theorem dX3_whole_35 : decode cX3_whole 35 = .ok (.i2l, 1) := by decide +kernel
theorem dX3_whole_36 : decode cX3_whole 36 = .ok (.lload_n 3, 1) := by decide +kernel
theorem dX3_whole_37 : decode cX3_whole 37 = .ok (.lmul, 1) := by decide +kernel
theorem dX3_whole_38 : decode cX3_whole 38 = .ok (.ladd, 1) := by decide +kernel
theorem dX3_whole_39 : decode cX3_whole 39 = .ok (.lstore_n 1, 1) := by decide +kernel
theorem dX3_whole_40 : decode cX3_whole 40 = .ok (.lload_n 3, 1) := by decide +kernel
theorem dX3_whole_41 : decode cX3_whole 41 = .ok (.ldc2_w 142, 3) := by decide +kernel
theorem dX3_whole_44 : decode cX3_whole 44 = .ok (.lmul, 1) := by decide +kernel
theorem dX3_whole_45 : decode cX3_whole 45 = .ok (.lstore_n 3, 1) := by decide +kernel
theorem dX3_whole_46 : decode cX3_whole 46 = .ok (.iinc 5 1, 3) := by decide +kernel
theorem dX3_whole_49 : decode cX3_whole 49 = .ok (.goto (-42), 3) := by decide +kernel
theorem dX3_whole_52 : decode cX3_whole 52 = .ok (.lload_n 1, 1) := by decide +kernel
theorem dX3_whole_53 : decode cX3_whole 53 = .ok (.lreturn, 1) := by decide +kernel
set_option maxRecDepth 20000 in
theorem ggX3_count_X3_checkRange : GoodIn wsX3_count wsX3_checkRange := goodIn_ca (goodIn_r _ [8, 9, 10] (by decide +kernel) (by decide +kernel)) (goodIn_sub (fun _ h => List.mem_cons_of_mem _ (List.mem_append_right _ h)) (by decide +kernel))
set_option maxRecDepth 20000 in
theorem gX3_count_X3_checkRange : GoodIn wsX3_count (va_wsS RX3 34 yX3_checkRange wsX3_checkRange) := goodIn_app (goodIn_of _ (by decide +kernel)) ggX3_count_X3_checkRange
set_option maxRecDepth 20000 in
theorem ggX3_count_X0_allMoved : GoodIn wsX3_count wsX0_allMoved := goodIn_r _ [15, 16, 52, 53, 54, 55, 56, 57, 58] (by decide +kernel) (by decide +kernel)
set_option maxRecDepth 20000 in
theorem gX3_count_X0_allMoved : GoodIn wsX3_count (wsV RX3 144 RX0 yX0_allMoved wsX0_allMoved) := goodIn_app (goodIn_of _ (by decide +kernel)) ggX3_count_X0_allMoved
set_option maxRecDepth 20000 in
theorem ggX3_count_X0_rodsWithLoan : GoodIn wsX3_count wsX0_rodsWithLoan := goodIn_r _ [20, 21, 52, 53, 54, 55, 56, 57, 58] (by decide +kernel) (by decide +kernel)
set_option maxRecDepth 20000 in
theorem gX3_count_X0_rodsWithLoan : GoodIn wsX3_count (wsV RX3 147 RX0 yX0_rodsWithLoan wsX0_rodsWithLoan) := goodIn_app (goodIn_of _ (by decide +kernel)) ggX3_count_X0_rodsWithLoan
set_option maxRecDepth 20000 in
theorem ggX3_count_X0_allLoans : GoodIn wsX3_count wsX0_allLoans := goodIn_r _ [25, 21, 52, 53, 54, 55, 56, 57, 58] (by decide +kernel) (by decide +kernel)
set_option maxRecDepth 20000 in
theorem gX3_count_X0_allLoans : GoodIn wsX3_count (wsV RX3 150 RX0 yX0_allLoans wsX0_allLoans) := goodIn_app (goodIn_of _ (by decide +kernel)) ggX3_count_X0_allLoans
set_option maxRecDepth 20000 in
theorem ggX3_count_X0_allShown : GoodIn wsX3_count wsX0_allShown := goodIn_r _ [29, 30, 31, 32, 14, 33, 34, 35, 52, 53, 54, 55, 56, 57, 58] (by decide +kernel) (by decide +kernel)
set_option maxRecDepth 20000 in
theorem gX3_count_X0_allShown : GoodIn wsX3_count (wsV RX3 153 RX0 yX0_allShown wsX0_allShown) := goodIn_app (goodIn_of _ (by decide +kernel)) ggX3_count_X0_allShown
set_option maxRecDepth 20000 in
theorem ggX3_count_J9_floorMod_7cf53 : GoodIn wsX3_count wsJ9_floorMod_7cf53 := goodIn_r _ [39] (by decide +kernel) (by decide +kernel)
set_option maxRecDepth 20000 in
theorem gX3_count_J9_floorMod_7cf53 : GoodIn wsX3_count (va_wsS RX3 156 yJ9_floorMod_7cf53 wsJ9_floorMod_7cf53) := goodIn_app (goodIn_of _ (by decide +kernel)) ggX3_count_J9_floorMod_7cf53
set_option maxRecDepth 20000 in
theorem ggX3_count_X0_rodsOutOfOrder : GoodIn wsX3_count wsX0_rodsOutOfOrder := goodIn_r _ [43, 30, 31, 32, 14, 33, 34, 35, 52, 53, 54, 55, 56, 57, 58] (by decide +kernel) (by decide +kernel)
set_option maxRecDepth 20000 in
theorem gX3_count_X0_rodsOutOfOrder : GoodIn wsX3_count (wsV RX3 161 RX0 yX0_rodsOutOfOrder wsX0_rodsOutOfOrder) := goodIn_app (goodIn_of _ (by decide +kernel)) ggX3_count_X0_rodsOutOfOrder
set_option maxRecDepth 20000 in
theorem ggX3_count_X0_rodsWithStuck : GoodIn wsX3_count wsX0_rodsWithStuck := goodIn_r _ [47, 48, 52, 53, 54, 55, 56, 57, 58] (by decide +kernel) (by decide +kernel)
set_option maxRecDepth 20000 in
theorem gX3_count_X0_rodsWithStuck : GoodIn wsX3_count (wsV RX3 164 RX0 yX0_rodsWithStuck wsX0_rodsWithStuck) := goodIn_app (goodIn_of _ (by decide +kernel)) ggX3_count_X0_rodsWithStuck
theorem dX3_count_0 : decode cX3_count 0 = .ok (.iload_n 1, 1) := by decide +kernel
theorem dX3_count_1 : decode cX3_count 1 = .ok (.iconst 0, 1) := by decide +kernel
theorem dX3_count_2 : decode cX3_count 2 = .ok (.bipush 7, 2) := by decide +kernel
theorem dX3_count_4 : decode cX3_count 4 = .ok (.invokestatic 34, 3) := by decide +kernel
theorem dX3_count_7 : decode cX3_count 7 = .ok (.iload_n 1, 1) := by decide +kernel
theorem dX3_count_8 : decode cX3_count 8 = .ok (.tableswitch 116 0 6 #[44, 52, 60, 71, 92, 100, 108], 44) := by decide +kernel
theorem dX3_count_52 : decode cX3_count 52 = .ok (.aload_n 0, 1) := by decide +kernel
theorem dX3_count_53 : decode cX3_count 53 = .ok (.getfield 12, 3) := by decide +kernel
theorem dX3_count_56 : decode cX3_count 56 = .ok (.invokevirtual 144, 3) := by decide +kernel
theorem dX3_count_59 : decode cX3_count 59 = .ok (.ireturn, 1) := by decide +kernel
theorem dX3_count_60 : decode cX3_count 60 = .ok (.aload_n 0, 1) := by decide +kernel
theorem dX3_count_61 : decode cX3_count 61 = .ok (.getfield 12, 3) := by decide +kernel
theorem dX3_count_64 : decode cX3_count 64 = .ok (.invokevirtual 147, 3) := by decide +kernel
theorem dX3_count_67 : decode cX3_count 67 = .ok (.ireturn, 1) := by decide +kernel
theorem dX3_count_68 : decode cX3_count 68 = .ok (.aload_n 0, 1) := by decide +kernel
theorem dX3_count_69 : decode cX3_count 69 = .ok (.getfield 12, 3) := by decide +kernel
theorem dX3_count_72 : decode cX3_count 72 = .ok (.invokevirtual 150, 3) := by decide +kernel
theorem dX3_count_75 : decode cX3_count 75 = .ok (.bipush 100, 2) := by decide +kernel
theorem dX3_count_77 : decode cX3_count 77 = .ok (.iadd, 1) := by decide +kernel
theorem dX3_count_78 : decode cX3_count 78 = .ok (.ireturn, 1) := by decide +kernel
theorem dX3_count_79 : decode cX3_count 79 = .ok (.aload_n 0, 1) := by decide +kernel
theorem dX3_count_80 : decode cX3_count 80 = .ok (.getfield 12, 3) := by decide +kernel
theorem dX3_count_83 : decode cX3_count 83 = .ok (.invokevirtual 153, 3) := by decide +kernel
theorem dX3_count_86 : decode cX3_count 86 = .ok (.aload_n 0, 1) := by decide +kernel
theorem dX3_count_87 : decode cX3_count 87 = .ok (.getfield 12, 3) := by decide +kernel
theorem dX3_count_90 : decode cX3_count 90 = .ok (.invokevirtual 150, 3) := by decide +kernel
theorem dX3_count_93 : decode cX3_count 93 = .ok (.iadd, 1) := by decide +kernel
theorem dX3_count_94 : decode cX3_count 94 = .ok (.bipush 9, 2) := by decide +kernel
theorem dX3_count_96 : decode cX3_count 96 = .ok (.invokestatic 156, 3) := by decide +kernel
theorem dX3_count_99 : decode cX3_count 99 = .ok (.ireturn, 1) := by decide +kernel
theorem dX3_count_100 : decode cX3_count 100 = .ok (.aload_n 0, 1) := by decide +kernel
theorem dX3_count_101 : decode cX3_count 101 = .ok (.getfield 12, 3) := by decide +kernel
theorem dX3_count_104 : decode cX3_count 104 = .ok (.invokevirtual 161, 3) := by decide +kernel
theorem dX3_count_107 : decode cX3_count 107 = .ok (.ireturn, 1) := by decide +kernel
theorem dX3_count_108 : decode cX3_count 108 = .ok (.aload_n 0, 1) := by decide +kernel
theorem dX3_count_109 : decode cX3_count 109 = .ok (.getfield 12, 3) := by decide +kernel
theorem dX3_count_112 : decode cX3_count 112 = .ok (.invokevirtual 164, 3) := by decide +kernel
theorem dX3_count_115 : decode cX3_count 115 = .ok (.ireturn, 1) := by decide +kernel
theorem dX3_count_116 : decode cX3_count 116 = .ok (.aload_n 0, 1) := by decide +kernel
theorem dX3_count_117 : decode cX3_count 117 = .ok (.getfield 12, 3) := by decide +kernel
theorem dX3_count_120 : decode cX3_count 120 = .ok (.getfield 61, 3) := by decide +kernel
theorem dX3_count_123 : decode cX3_count 123 = .ok (.ireturn, 1) := by decide +kernel
theorem dX3_count_124 : decode cX3_count 124 = .ok (.aload_n 0, 1) := by decide +kernel
theorem dX3_count_125 : decode cX3_count 125 = .ok (.getfield 19, 3) := by decide +kernel
theorem dX3_count_128 : decode cX3_count 128 = .ok (.getfield 116, 3) := by decide +kernel
theorem dX3_count_131 : decode cX3_count 131 = .ok (.ireturn, 1) := by decide +kernel
set_option maxRecDepth 20000 in
theorem ggX3_moves_X3_checkRod : GoodIn wsX3_moves wsX3_checkRod := goodIn_ca (goodIn_r _ [5, 6, 7] (by decide +kernel) (by decide +kernel)) (goodIn_sub (fun _ h => List.mem_cons_of_mem _ (List.mem_append_left _ (List.mem_append_right _ h))) (by decide +kernel))
set_option maxRecDepth 20000 in
theorem gX3_moves_X3_checkRod : GoodIn wsX3_moves (va_wsS RX3 30 yX3_checkRod wsX3_checkRod) := goodIn_app (goodIn_of _ (by decide +kernel)) ggX3_moves_X3_checkRod
set_option maxRecDepth 20000 in
theorem ggX3_moves_X3_checkRange : GoodIn wsX3_moves wsX3_checkRange := goodIn_ca (goodIn_r _ [10, 11, 12] (by decide +kernel) (by decide +kernel)) (goodIn_sub (fun _ h => List.mem_cons_of_mem _ (List.mem_append_right _ h)) (by decide +kernel))
set_option maxRecDepth 20000 in
theorem gX3_moves_X3_checkRange : GoodIn wsX3_moves (va_wsS RX3 34 yX3_checkRange wsX3_checkRange) := goodIn_app (goodIn_of _ (by decide +kernel)) ggX3_moves_X3_checkRange
set_option maxRecDepth 20000 in
theorem ggX3_moves_X0_turn : GoodIn wsX3_moves wsX0_turn := goodIn_r _ [17, 18, 19, 20, 16, 21, 22, 23, 24, 25, 26, 27, 28, 29, 30, 31, 32, 33, 37, 38, 39, 40, 41, 42, 43] (by decide +kernel) (by decide +kernel)
set_option maxRecDepth 20000 in
theorem gX3_moves_X0_turn : GoodIn wsX3_moves (wsV RX3 167 RX0 yX0_turn wsX0_turn) := goodIn_app (goodIn_of _ (by decide +kernel)) ggX3_moves_X0_turn
theorem dX3_moves_0 : decode cX3_moves 0 = .ok (.iload_n 1, 1) := by decide +kernel
theorem dX3_moves_1 : decode cX3_moves 1 = .ok (.invokestatic 30, 3) := by decide +kernel
theorem dX3_moves_4 : decode cX3_moves 4 = .ok (.iload_n 2, 1) := by decide +kernel
theorem dX3_moves_5 : decode cX3_moves 5 = .ok (.iconst 0, 1) := by decide +kernel
theorem dX3_moves_6 : decode cX3_moves 6 = .ok (.bipush 15, 2) := by decide +kernel
theorem dX3_moves_8 : decode cX3_moves 8 = .ok (.invokestatic 34, 3) := by decide +kernel
theorem dX3_moves_11 : decode cX3_moves 11 = .ok (.aload_n 0, 1) := by decide +kernel
theorem dX3_moves_12 : decode cX3_moves 12 = .ok (.getfield 12, 3) := by decide +kernel
theorem dX3_moves_15 : decode cX3_moves 15 = .ok (.iload_n 1, 1) := by decide +kernel
theorem dX3_moves_16 : decode cX3_moves 16 = .ok (.iload_n 2, 1) := by decide +kernel
theorem dX3_moves_17 : decode cX3_moves 17 = .ok (.iconst 0, 1) := by decide +kernel
theorem dX3_moves_18 : decode cX3_moves 18 = .ok (.invokevirtual 167, 3) := by decide +kernel
theorem dX3_moves_21 : decode cX3_moves 21 = .ok (.ireturn, 1) := by decide +kernel
set_option maxRecDepth 20000 in
theorem ggX3_ifAdded_X3_checkRod : GoodIn wsX3_ifAdded wsX3_checkRod := goodIn_ca (goodIn_r _ [5, 6, 7] (by decide +kernel) (by decide +kernel)) (goodIn_sub (fun _ h => List.mem_cons_of_mem _ (List.mem_append_left _ (List.mem_append_right _ h))) (by decide +kernel))
set_option maxRecDepth 20000 in
theorem gX3_ifAdded_X3_checkRod : GoodIn wsX3_ifAdded (va_wsS RX3 30 yX3_checkRod wsX3_checkRod) := goodIn_app (goodIn_of _ (by decide +kernel)) ggX3_ifAdded_X3_checkRod
set_option maxRecDepth 20000 in
theorem ggX3_ifAdded_X3_checkRange : GoodIn wsX3_ifAdded wsX3_checkRange := goodIn_ca (goodIn_r _ [10, 11, 12] (by decide +kernel) (by decide +kernel)) (goodIn_sub (fun _ h => List.mem_cons_of_mem _ (List.mem_append_right _ h)) (by decide +kernel))
set_option maxRecDepth 20000 in
theorem gX3_ifAdded_X3_checkRange : GoodIn wsX3_ifAdded (va_wsS RX3 34 yX3_checkRange wsX3_checkRange) := goodIn_app (goodIn_of _ (by decide +kernel)) ggX3_ifAdded_X3_checkRange
set_option maxRecDepth 20000 in
theorem ggX3_ifAdded_X0_change : GoodIn wsX3_ifAdded wsX0_change := goodIn_r _ [17, 18, 19, 20, 16, 21, 22, 23, 24, 25, 26, 27, 28, 29, 30, 31, 32, 33, 34, 35, 36, 37, 38, 39, 40, 41, 42, 43, 44, 45, 46, 47, 48, 49, 50, 51, 52, 56, 57, 58, 59, 60, 61, 62] (by decide +kernel) (by decide +kernel)
set_option maxRecDepth 20000 in
theorem gX3_ifAdded_X0_change : GoodIn wsX3_ifAdded (wsV RX3 72 RX0 yX0_change wsX0_change) := goodIn_app (goodIn_of _ (by decide +kernel)) ggX3_ifAdded_X0_change
theorem dX3_ifAdded_0 : decode cX3_ifAdded 0 = .ok (.iload_n 1, 1) := by decide +kernel
theorem dX3_ifAdded_1 : decode cX3_ifAdded 1 = .ok (.invokestatic 30, 3) := by decide +kernel
theorem dX3_ifAdded_4 : decode cX3_ifAdded 4 = .ok (.iload_n 2, 1) := by decide +kernel
theorem dX3_ifAdded_5 : decode cX3_ifAdded 5 = .ok (.bipush (-9), 2) := by decide +kernel
theorem dX3_ifAdded_7 : decode cX3_ifAdded 7 = .ok (.bipush 9, 2) := by decide +kernel
theorem dX3_ifAdded_9 : decode cX3_ifAdded 9 = .ok (.invokestatic 34, 3) := by decide +kernel
theorem dX3_ifAdded_12 : decode cX3_ifAdded 12 = .ok (.aload_n 0, 1) := by decide +kernel
theorem dX3_ifAdded_13 : decode cX3_ifAdded 13 = .ok (.getfield 12, 3) := by decide +kernel
theorem dX3_ifAdded_16 : decode cX3_ifAdded 16 = .ok (.iload_n 1, 1) := by decide +kernel
theorem dX3_ifAdded_17 : decode cX3_ifAdded 17 = .ok (.iload_n 2, 1) := by decide +kernel
theorem dX3_ifAdded_18 : decode cX3_ifAdded 18 = .ok (.iconst 0, 1) := by decide +kernel
theorem dX3_ifAdded_19 : decode cX3_ifAdded 19 = .ok (.invokevirtual 72, 3) := by decide +kernel
theorem dX3_ifAdded_22 : decode cX3_ifAdded 22 = .ok (.ireturn, 1) := by decide +kernel
set_option maxRecDepth 20000 in
theorem ggX3_toShow_X3_checkRange : GoodIn wsX3_toShow wsX3_checkRange := goodIn_ca (goodIn_r _ [6, 7, 8] (by decide +kernel) (by decide +kernel)) (goodIn_sub (fun _ h => List.mem_cons_of_mem _ (List.mem_append_right _ h)) (by decide +kernel))
set_option maxRecDepth 20000 in
theorem gX3_toShow_X3_checkRange : GoodIn wsX3_toShow (va_wsS RX3 34 yX3_checkRange wsX3_checkRange) := goodIn_app (goodIn_of _ (by decide +kernel)) ggX3_toShow_X3_checkRange
set_option maxRecDepth 20000 in
theorem ggX3_toShow_X0_turn : GoodIn wsX3_toShow wsX0_turn := goodIn_r _ [13, 14, 15, 16, 12, 17, 18, 19, 20, 21, 22, 23, 24, 25, 26, 27, 28, 29, 33, 34, 35, 36, 37, 38, 39] (by decide +kernel) (by decide +kernel)
set_option maxRecDepth 20000 in
theorem gX3_toShow_X0_turn : GoodIn wsX3_toShow (wsV RX3 167 RX0 yX0_turn wsX0_turn) := goodIn_app (goodIn_of _ (by decide +kernel)) ggX3_toShow_X0_turn
theorem dX3_toShow_0 : decode cX3_toShow 0 = .ok (.iload_n 1, 1) := by decide +kernel
theorem dX3_toShow_1 : decode cX3_toShow 1 = .ok (.iconst 0, 1) := by decide +kernel
theorem dX3_toShow_2 : decode cX3_toShow 2 = .ok (.ldc 170, 2) := by decide +kernel
theorem dX3_toShow_4 : decode cX3_toShow 4 = .ok (.invokestatic 34, 3) := by decide +kernel
theorem dX3_toShow_7 : decode cX3_toShow 7 = .ok (.iconst 0, 1) := by decide +kernel
theorem dX3_toShow_8 : decode cX3_toShow 8 = .ok (.istore_n 2, 1) := by decide +kernel
theorem dX3_toShow_9 : decode cX3_toShow 9 = .ok (.iload_n 1, 1) := by decide +kernel
theorem dX3_toShow_10 : decode cX3_toShow 10 = .ok (.istore_n 3, 1) := by decide +kernel
theorem dX3_toShow_11 : decode cX3_toShow 11 = .ok (.iconst 0, 1) := by decide +kernel
theorem dX3_toShow_12 : decode cX3_toShow 12 = .ok (.istore 4, 2) := by decide +kernel
theorem dX3_toShow_14 : decode cX3_toShow 14 = .ok (.iload 4, 2) := by decide +kernel
theorem dX3_toShow_16 : decode cX3_toShow 16 = .ok (.bipush 9, 2) := by decide +kernel
theorem dX3_toShow_18 : decode cX3_toShow 18 = .ok (.if_icmp .ge 43, 3) := by decide +kernel
theorem dX3_toShow_21 : decode cX3_toShow 21 = .ok (.aload_n 0, 1) := by decide +kernel
theorem dX3_toShow_22 : decode cX3_toShow 22 = .ok (.getfield 12, 3) := by decide +kernel
theorem dX3_toShow_25 : decode cX3_toShow 25 = .ok (.iload 4, 2) := by decide +kernel
theorem dX3_toShow_27 : decode cX3_toShow 27 = .ok (.iload_n 3, 1) := by decide +kernel
theorem dX3_toShow_28 : decode cX3_toShow 28 = .ok (.bipush 10, 2) := by decide +kernel
theorem dX3_toShow_30 : decode cX3_toShow 30 = .ok (.irem, 1) := by decide +kernel
theorem dX3_toShow_31 : decode cX3_toShow 31 = .ok (.iconst 0, 1) := by decide +kernel
theorem dX3_toShow_32 : decode cX3_toShow 32 = .ok (.invokevirtual 167, 3) := by decide +kernel
theorem dX3_toShow_35 : decode cX3_toShow 35 = .ok (.istore 5, 2) := by decide +kernel
theorem dX3_toShow_37 : decode cX3_toShow 37 = .ok (.iload 5, 2) := by decide +kernel
theorem dX3_toShow_39 : decode cX3_toShow 39 = .ok (.iconst (-1), 1) := by decide +kernel
theorem dX3_toShow_40 : decode cX3_toShow 40 = .ok (.if_icmp .ne 5, 3) := by decide +kernel
theorem dX3_toShow_43 : decode cX3_toShow 43 = .ok (.iconst (-1), 1) := by decide +kernel
theorem dX3_toShow_44 : decode cX3_toShow 44 = .ok (.ireturn, 1) := by decide +kernel
theorem dX3_toShow_45 : decode cX3_toShow 45 = .ok (.iload_n 2, 1) := by decide +kernel
theorem dX3_toShow_46 : decode cX3_toShow 46 = .ok (.iload 5, 2) := by decide +kernel
theorem dX3_toShow_48 : decode cX3_toShow 48 = .ok (.iadd, 1) := by decide +kernel
theorem dX3_toShow_49 : decode cX3_toShow 49 = .ok (.istore_n 2, 1) := by decide +kernel
theorem dX3_toShow_50 : decode cX3_toShow 50 = .ok (.iload_n 3, 1) := by decide +kernel
theorem dX3_toShow_51 : decode cX3_toShow 51 = .ok (.bipush 10, 2) := by decide +kernel
theorem dX3_toShow_53 : decode cX3_toShow 53 = .ok (.idiv, 1) := by decide +kernel
theorem dX3_toShow_54 : decode cX3_toShow 54 = .ok (.istore_n 3, 1) := by decide +kernel
theorem dX3_toShow_55 : decode cX3_toShow 55 = .ok (.iinc 4 1, 3) := by decide +kernel
theorem dX3_toShow_58 : decode cX3_toShow 58 = .ok (.goto (-44), 3) := by decide +kernel
theorem dX3_toShow_61 : decode cX3_toShow 61 = .ok (.iload_n 2, 1) := by decide +kernel
theorem dX3_toShow_62 : decode cX3_toShow 62 = .ok (.ireturn, 1) := by decide +kernel
set_option maxRecDepth 20000 in
theorem ggX3_cheapestLoan_X0_change : GoodIn wsX3_cheapestLoan wsX0_change := goodIn_r _ [7, 8, 9, 10, 6, 11, 12, 13, 14, 15, 16, 17, 18, 19, 20, 21, 22, 23, 24, 25, 26, 27, 28, 29, 30, 31, 32, 33, 34, 35, 36, 37, 38, 39, 40, 41, 42, 46, 47, 48, 49, 50, 51, 52] (by decide +kernel) (by decide +kernel)
set_option maxRecDepth 20000 in
theorem gX3_cheapestLoan_X0_change : GoodIn wsX3_cheapestLoan (wsV RX3 72 RX0 yX0_change wsX0_change) := goodIn_app (goodIn_of _ (by decide +kernel)) ggX3_cheapestLoan_X0_change
theorem dX3_cheapestLoan_0 : decode cX3_cheapestLoan 0 = .ok (.iconst (-1), 1) := by decide +kernel
theorem dX3_cheapestLoan_1 : decode cX3_cheapestLoan 1 = .ok (.istore_n 1, 1) := by decide +kernel
theorem dX3_cheapestLoan_2 : decode cX3_cheapestLoan 2 = .ok (.iconst 0, 1) := by decide +kernel
theorem dX3_cheapestLoan_3 : decode cX3_cheapestLoan 3 = .ok (.istore_n 2, 1) := by decide +kernel
theorem dX3_cheapestLoan_4 : decode cX3_cheapestLoan 4 = .ok (.iconst 0, 1) := by decide +kernel
theorem dX3_cheapestLoan_5 : decode cX3_cheapestLoan 5 = .ok (.istore_n 3, 1) := by decide +kernel
theorem dX3_cheapestLoan_6 : decode cX3_cheapestLoan 6 = .ok (.iload_n 3, 1) := by decide +kernel
theorem dX3_cheapestLoan_7 : decode cX3_cheapestLoan 7 = .ok (.bipush 9, 2) := by decide +kernel
theorem dX3_cheapestLoan_9 : decode cX3_cheapestLoan 9 = .ok (.if_icmp .ge 63, 3) := by decide +kernel
theorem dX3_cheapestLoan_12 : decode cX3_cheapestLoan 12 = .ok (.aload_n 0, 1) := by decide +kernel
theorem dX3_cheapestLoan_13 : decode cX3_cheapestLoan 13 = .ok (.getfield 12, 3) := by decide +kernel
theorem dX3_cheapestLoan_16 : decode cX3_cheapestLoan 16 = .ok (.getfield 69, 3) := by decide +kernel
theorem dX3_cheapestLoan_19 : decode cX3_cheapestLoan 19 = .ok (.iload_n 3, 1) := by decide +kernel
theorem dX3_cheapestLoan_20 : decode cX3_cheapestLoan 20 = .ok (.iaload, 1) := by decide +kernel
theorem dX3_cheapestLoan_21 : decode cX3_cheapestLoan 21 = .ok (.ifCond .eq 45, 3) := by decide +kernel
theorem dX3_cheapestLoan_24 : decode cX3_cheapestLoan 24 = .ok (.aload_n 0, 1) := by decide +kernel
theorem dX3_cheapestLoan_25 : decode cX3_cheapestLoan 25 = .ok (.getfield 12, 3) := by decide +kernel
theorem dX3_cheapestLoan_28 : decode cX3_cheapestLoan 28 = .ok (.iload_n 3, 1) := by decide +kernel
theorem dX3_cheapestLoan_29 : decode cX3_cheapestLoan 29 = .ok (.aload_n 0, 1) := by decide +kernel
theorem dX3_cheapestLoan_30 : decode cX3_cheapestLoan 30 = .ok (.getfield 12, 3) := by decide +kernel
theorem dX3_cheapestLoan_33 : decode cX3_cheapestLoan 33 = .ok (.getfield 69, 3) := by decide +kernel
theorem dX3_cheapestLoan_36 : decode cX3_cheapestLoan 36 = .ok (.iload_n 3, 1) := by decide +kernel
theorem dX3_cheapestLoan_37 : decode cX3_cheapestLoan 37 = .ok (.iaload, 1) := by decide +kernel
theorem dX3_cheapestLoan_38 : decode cX3_cheapestLoan 38 = .ok (.iconst 0, 1) := by decide +kernel
theorem dX3_cheapestLoan_39 : decode cX3_cheapestLoan 39 = .ok (.invokevirtual 72, 3) := by decide +kernel
theorem dX3_cheapestLoan_42 : decode cX3_cheapestLoan 42 = .ok (.istore 4, 2) := by decide +kernel
theorem dX3_cheapestLoan_44 : decode cX3_cheapestLoan 44 = .ok (.iload 4, 2) := by decide +kernel
theorem dX3_cheapestLoan_46 : decode cX3_cheapestLoan 46 = .ok (.iconst (-1), 1) := by decide +kernel
theorem dX3_cheapestLoan_47 : decode cX3_cheapestLoan 47 = .ok (.if_icmp .eq 19, 3) := by decide +kernel
theorem dX3_cheapestLoan_50 : decode cX3_cheapestLoan 50 = .ok (.iload_n 1, 1) := by decide +kernel
theorem dX3_cheapestLoan_51 : decode cX3_cheapestLoan 51 = .ok (.iconst (-1), 1) := by decide +kernel
theorem dX3_cheapestLoan_52 : decode cX3_cheapestLoan 52 = .ok (.if_icmp .eq 9, 3) := by decide +kernel
theorem dX3_cheapestLoan_55 : decode cX3_cheapestLoan 55 = .ok (.iload 4, 2) := by decide +kernel
theorem dX3_cheapestLoan_57 : decode cX3_cheapestLoan 57 = .ok (.iload_n 2, 1) := by decide +kernel
theorem dX3_cheapestLoan_58 : decode cX3_cheapestLoan 58 = .ok (.if_icmp .ge 8, 3) := by decide +kernel
