theorem dX3_stick_5 : decode cX3_stick 5 = .ok (.iconst 0, 1) := by decide +kernel
theorem dX3_stick_6 : decode cX3_stick 6 = .ok (.iconst 3, 1) := by decide +kernel
theorem dX3_stick_7 : decode cX3_stick 7 = .ok (.invokestatic 34, 3) := by decide +kernel
theorem dX3_stick_10 : decode cX3_stick 10 = .ok (.aload_n 0, 1) := by decide +kernel
theorem dX3_stick_11 : decode cX3_stick 11 = .ok (.getfield 19, 3) := by decide +kernel
theorem dX3_stick_14 : decode cX3_stick 14 = .ok (.aload_n 0, 1) := by decide +kernel
theorem dX3_stick_15 : decode cX3_stick 15 = .ok (.getfield 12, 3) := by decide +kernel
theorem dX3_stick_18 : decode cX3_stick 18 = .ok (.invokevirtual 49, 3) := by decide +kernel
theorem dX3_stick_21 : decode cX3_stick 21 = .ok (.aload_n 0, 1) := by decide +kernel
theorem dX3_stick_22 : decode cX3_stick 22 = .ok (.getfield 12, 3) := by decide +kernel
theorem dX3_stick_25 : decode cX3_stick 25 = .ok (.getfield 57, 3) := by decide +kernel
theorem dX3_stick_28 : decode cX3_stick 28 = .ok (.iload_n 1, 1) := by decide +kernel
theorem dX3_stick_29 : decode cX3_stick 29 = .ok (.iaload, 1) := by decide +kernel
theorem dX3_stick_30 : decode cX3_stick 30 = .ok (.istore_n 3, 1) := by decide +kernel
theorem dX3_stick_31 : decode cX3_stick 31 = .ok (.aload_n 0, 1) := by decide +kernel
theorem dX3_stick_32 : decode cX3_stick 32 = .ok (.getfield 12, 3) := by decide +kernel
theorem dX3_stick_35 : decode cX3_stick 35 = .ok (.getfield 57, 3) := by decide +kernel
theorem dX3_stick_38 : decode cX3_stick 38 = .ok (.iload_n 1, 1) := by decide +kernel
theorem dX3_stick_39 : decode cX3_stick 39 = .ok (.iload_n 2, 1) := by decide +kernel
theorem dX3_stick_40 : decode cX3_stick 40 = .ok (.iastore, 1) := by decide +kernel
theorem dX3_stick_41 : decode cX3_stick 41 = .ok (.iload_n 3, 1) := by decide +kernel
theorem dX3_stick_42 : decode cX3_stick 42 = .ok (.ireturn, 1) := by decide +kernel
set_option maxRecDepth 20000 in
theorem ggX3_set_X3_checkRange : GoodIn wsX3_set wsX3_checkRange := goodIn_ca (goodIn_r _ [7, 8, 9] (by decide +kernel) (by decide +kernel)) (goodIn_sub (fun _ h => List.mem_cons_of_mem _ (List.mem_append_right _ h)) (by decide +kernel))
set_option maxRecDepth 20000 in
theorem gX3_set_X3_checkRange : GoodIn wsX3_set (va_wsS RX3 34 yX3_checkRange wsX3_checkRange) := goodIn_app (goodIn_of _ (by decide +kernel)) ggX3_set_X3_checkRange
set_option maxRecDepth 20000 in
theorem ggX3_set_X1_keep : GoodIn wsX3_set wsX1_keep := goodIn_r _ [14, 15, 16, 17, 18, 19, 20, 21, 22, 23, 24, 25, 26, 27, 28, 29, 40, 41, 42, 33, 34, 35, 36, 37, 38, 39] (by decide +kernel) (by decide +kernel)
set_option maxRecDepth 20000 in
theorem gX3_set_X1_keep : GoodIn wsX3_set (wsV RX3 49 RX1 yX1_keep wsX1_keep) := goodIn_app (goodIn_of _ (by decide +kernel)) ggX3_set_X1_keep
theorem dX3_set_0 : decode cX3_set 0 = .ok (.iload_n 1, 1) := by decide +kernel
theorem dX3_set_1 : decode cX3_set 1 = .ok (.iconst 0, 1) := by decide +kernel
theorem dX3_set_2 : decode cX3_set 2 = .ok (.bipush 9, 2) := by decide +kernel
theorem dX3_set_4 : decode cX3_set 4 = .ok (.invokestatic 34, 3) := by decide +kernel
theorem dX3_set_7 : decode cX3_set 7 = .ok (.aload_n 0, 1) := by decide +kernel
theorem dX3_set_8 : decode cX3_set 8 = .ok (.getfield 19, 3) := by decide +kernel
theorem dX3_set_11 : decode cX3_set 11 = .ok (.aload_n 0, 1) := by decide +kernel
theorem dX3_set_12 : decode cX3_set 12 = .ok (.getfield 12, 3) := by decide +kernel
theorem dX3_set_15 : decode cX3_set 15 = .ok (.invokevirtual 49, 3) := by decide +kernel
theorem dX3_set_18 : decode cX3_set 18 = .ok (.aload_n 0, 1) := by decide +kernel
theorem dX3_set_19 : decode cX3_set 19 = .ok (.getfield 12, 3) := by decide +kernel
theorem dX3_set_22 : decode cX3_set 22 = .ok (.getfield 61, 3) := by decide +kernel
theorem dX3_set_25 : decode cX3_set 25 = .ok (.istore_n 2, 1) := by decide +kernel
theorem dX3_set_26 : decode cX3_set 26 = .ok (.aload_n 0, 1) := by decide +kernel
theorem dX3_set_27 : decode cX3_set 27 = .ok (.getfield 12, 3) := by decide +kernel
theorem dX3_set_30 : decode cX3_set 30 = .ok (.iload_n 1, 1) := by decide +kernel
theorem dX3_set_31 : decode cX3_set 31 = .ok (.putfield 61, 3) := by decide +kernel
theorem dX3_set_34 : decode cX3_set 34 = .ok (.iload_n 2, 1) := by decide +kernel
theorem dX3_set_35 : decode cX3_set 35 = .ok (.ireturn, 1) := by decide +kernel
set_option maxRecDepth 20000 in
theorem ggX3_add_X3_checkRod : GoodIn wsX3_add wsX3_checkRod := goodIn_ca (goodIn_r _ [4, 5, 6] (by decide +kernel) (by decide +kernel)) (goodIn_sub (fun _ h => List.mem_cons_of_mem _ (List.mem_append_left _ (List.mem_append_left _ (List.mem_append_right _ h)))) (by decide +kernel))
set_option maxRecDepth 20000 in
theorem gX3_add_X3_checkRod : GoodIn wsX3_add (va_wsS RX3 30 yX3_checkRod wsX3_checkRod) := goodIn_app (goodIn_of _ (by decide +kernel)) ggX3_add_X3_checkRod
set_option maxRecDepth 20000 in
theorem ggX3_add_X3_checkRange : GoodIn wsX3_add wsX3_checkRange := goodIn_ca (goodIn_r _ [9, 10, 11] (by decide +kernel) (by decide +kernel)) (goodIn_sub (fun _ h => List.mem_cons_of_mem _ (List.mem_append_left _ (List.mem_append_right _ h))) (by decide +kernel))
set_option maxRecDepth 20000 in
theorem gX3_add_X3_checkRange : GoodIn wsX3_add (va_wsS RX3 34 yX3_checkRange wsX3_checkRange) := goodIn_app (goodIn_of _ (by decide +kernel)) ggX3_add_X3_checkRange
set_option maxRecDepth 20000 in
theorem ggX3_add_X3_changeOrThrow : GoodIn wsX3_add wsX3_changeOrThrow := goodIn_ca (goodIn_r _ [15, 16, 17, 18, 19, 20, 21, 22, 23, 24, 25, 26, 27, 28, 29, 30, 31, 32, 33, 34, 35, 36, 37, 38, 39, 40, 41, 42, 43, 44, 45, 46, 47, 48, 49, 50, 51, 52, 53, 54, 55, 56, 57, 58, 59, 60, 61, 62, 63, 64, 65, 66, 67, 68, 69, 70, 71, 72, 73, 74, 75, 76, 77, 78, 79, 80, 81, 82, 83, 84] (by decide +kernel) (by decide +kernel)) (goodIn_sub (fun _ h => List.mem_cons_of_mem _ (List.mem_append_right _ h)) (by decide +kernel))
set_option maxRecDepth 20000 in
theorem gX3_add_X3_changeOrThrow : GoodIn wsX3_add (wsV RX3 65 RX3 yX3_changeOrThrow wsX3_changeOrThrow) := goodIn_app (goodIn_of _ (by decide +kernel)) ggX3_add_X3_changeOrThrow
theorem dX3_add_0 : decode cX3_add 0 = .ok (.iload_n 1, 1) := by decide +kernel
theorem dX3_add_1 : decode cX3_add 1 = .ok (.invokestatic 30, 3) := by decide +kernel
theorem dX3_add_4 : decode cX3_add 4 = .ok (.iload_n 2, 1) := by decide +kernel
theorem dX3_add_5 : decode cX3_add 5 = .ok (.iconst 1, 1) := by decide +kernel
theorem dX3_add_6 : decode cX3_add 6 = .ok (.bipush 9, 2) := by decide +kernel
theorem dX3_add_8 : decode cX3_add 8 = .ok (.invokestatic 34, 3) := by decide +kernel
theorem dX3_add_11 : decode cX3_add 11 = .ok (.aload_n 0, 1) := by decide +kernel
theorem dX3_add_12 : decode cX3_add 12 = .ok (.iload_n 1, 1) := by decide +kernel
theorem dX3_add_13 : decode cX3_add 13 = .ok (.iload_n 2, 1) := by decide +kernel
theorem dX3_add_14 : decode cX3_add 14 = .ok (.invokevirtual 65, 3) := by decide +kernel
theorem dX3_add_17 : decode cX3_add 17 = .ok (.ireturn, 1) := by decide +kernel
set_option maxRecDepth 20000 in
theorem ggX3_less_X3_checkRod : GoodIn wsX3_less wsX3_checkRod := goodIn_ca (goodIn_r _ [4, 5, 6] (by decide +kernel) (by decide +kernel)) (goodIn_sub (fun _ h => List.mem_cons_of_mem _ (List.mem_append_left _ (List.mem_append_left _ (List.mem_append_right _ h)))) (by decide +kernel))
set_option maxRecDepth 20000 in
theorem gX3_less_X3_checkRod : GoodIn wsX3_less (va_wsS RX3 30 yX3_checkRod wsX3_checkRod) := goodIn_app (goodIn_of _ (by decide +kernel)) ggX3_less_X3_checkRod
set_option maxRecDepth 20000 in
theorem ggX3_less_X3_checkRange : GoodIn wsX3_less wsX3_checkRange := goodIn_ca (goodIn_r _ [9, 10, 11] (by decide +kernel) (by decide +kernel)) (goodIn_sub (fun _ h => List.mem_cons_of_mem _ (List.mem_append_left _ (List.mem_append_right _ h))) (by decide +kernel))
set_option maxRecDepth 20000 in
theorem gX3_less_X3_checkRange : GoodIn wsX3_less (va_wsS RX3 34 yX3_checkRange wsX3_checkRange) := goodIn_app (goodIn_of _ (by decide +kernel)) ggX3_less_X3_checkRange
set_option maxRecDepth 20000 in
theorem ggX3_less_X3_changeOrThrow : GoodIn wsX3_less wsX3_changeOrThrow := goodIn_ca (goodIn_r _ [15, 16, 17, 18, 19, 20, 21, 22, 23, 24, 25, 26, 27, 28, 29, 30, 31, 32, 33, 34, 35, 36, 37, 38, 39, 40, 41, 42, 43, 44, 45, 46, 47, 48, 49, 50, 51, 52, 53, 54, 55, 56, 57, 58, 59, 60, 61, 62, 63, 64, 65, 66, 67, 68, 69, 70, 71, 72, 73, 74, 75, 76, 77, 78, 79, 80, 81, 82, 83, 84] (by decide +kernel) (by decide +kernel)) (goodIn_sub (fun _ h => List.mem_cons_of_mem _ (List.mem_append_right _ h)) (by decide +kernel))
set_option maxRecDepth 20000 in
theorem gX3_less_X3_changeOrThrow : GoodIn wsX3_less (wsV RX3 65 RX3 yX3_changeOrThrow wsX3_changeOrThrow) := goodIn_app (goodIn_of _ (by decide +kernel)) ggX3_less_X3_changeOrThrow
theorem dX3_less_0 : decode cX3_less 0 = .ok (.iload_n 1, 1) := by decide +kernel
theorem dX3_less_1 : decode cX3_less 1 = .ok (.invokestatic 30, 3) := by decide +kernel
theorem dX3_less_4 : decode cX3_less 4 = .ok (.iload_n 2, 1) := by decide +kernel
theorem dX3_less_5 : decode cX3_less 5 = .ok (.iconst 1, 1) := by decide +kernel
theorem dX3_less_6 : decode cX3_less 6 = .ok (.bipush 9, 2) := by decide +kernel
theorem dX3_less_8 : decode cX3_less 8 = .ok (.invokestatic 34, 3) := by decide +kernel
theorem dX3_less_11 : decode cX3_less 11 = .ok (.aload_n 0, 1) := by decide +kernel
theorem dX3_less_12 : decode cX3_less 12 = .ok (.iload_n 1, 1) := by decide +kernel
theorem dX3_less_13 : decode cX3_less 13 = .ok (.iload_n 2, 1) := by decide +kernel
theorem dX3_less_14 : decode cX3_less 14 = .ok (.ineg, 1) := by decide +kernel
theorem dX3_less_15 : decode cX3_less 15 = .ok (.invokevirtual 65, 3) := by decide +kernel
theorem dX3_less_18 : decode cX3_less 18 = .ok (.ireturn, 1) := by decide +kernel
set_option maxRecDepth 20000 in
theorem ggX3_pay_X3_checkRod : GoodIn wsX3_pay wsX3_checkRod := goodIn_ca (goodIn_r _ [9, 10, 11] (by decide +kernel) (by decide +kernel)) (goodIn_sub (fun _ h => List.mem_cons_of_mem _ (List.mem_append_right _ h)) (by decide +kernel))
set_option maxRecDepth 20000 in
theorem gX3_pay_X3_checkRod : GoodIn wsX3_pay (va_wsS RX3 30 yX3_checkRod wsX3_checkRod) := goodIn_app (goodIn_of _ (by decide +kernel)) ggX3_pay_X3_checkRod
set_option maxRecDepth 20000 in
theorem ggX3_pay_X0_change : GoodIn wsX3_pay wsX0_change := goodIn_r _ [16, 17, 18, 19, 15, 20, 21, 22, 23, 24, 25, 26, 27, 28, 29, 30, 31, 32, 33, 34, 35, 36, 37, 38, 39, 40, 41, 42, 43, 44, 45, 46, 47, 48, 49, 50, 51, 72, 73, 74, 75, 76, 77, 78] (by decide +kernel) (by decide +kernel)
set_option maxRecDepth 20000 in
theorem gX3_pay_X0_change : GoodIn wsX3_pay (wsV RX3 72 RX0 yX0_change wsX0_change) := goodIn_app (goodIn_of _ (by decide +kernel)) ggX3_pay_X0_change
set_option maxRecDepth 20000 in
theorem ggX3_pay_X1_keep : GoodIn wsX3_pay wsX1_keep := goodIn_r _ [56, 57, 58, 59, 60, 61, 62, 15, 63, 21, 22, 35, 49, 40, 51, 50, 79, 80, 81, 72, 73, 74, 75, 76, 77, 78] (by decide +kernel) (by decide +kernel)
set_option maxRecDepth 20000 in
theorem gX3_pay_X1_keep : GoodIn wsX3_pay (wsV RX3 49 RX1 yX1_keep wsX1_keep) := goodIn_app (goodIn_of _ (by decide +kernel)) ggX3_pay_X1_keep
set_option maxRecDepth 20000 in
theorem ggX3_pay_X0_payIfPossible : GoodIn wsX3_pay wsX0_payIfPossible := goodIn_r _ [67, 49, 68, 13, 14, 15, 16, 17, 18, 19, 20, 21, 22, 23, 24, 25, 26, 27, 28, 29, 30, 31, 32, 33, 34, 35, 36, 37, 38, 39, 40, 41, 42, 43, 44, 45, 46, 47, 48, 50, 51, 72, 73, 74, 75, 76, 77, 78] (by decide +kernel) (by decide +kernel)
set_option maxRecDepth 20000 in
theorem gX3_pay_X0_payIfPossible : GoodIn wsX3_pay (wsV RX3 78 RX0 yX0_payIfPossible wsX0_payIfPossible) := goodIn_app (goodIn_of _ (by decide +kernel)) ggX3_pay_X0_payIfPossible
theorem dX3_pay_0 : decode cX3_pay 0 = .ok (.iload_n 1, 1) := by decide +kernel
theorem dX3_pay_1 : decode cX3_pay 1 = .ok (.invokestatic 30, 3) := by decide +kernel
theorem dX3_pay_4 : decode cX3_pay 4 = .ok (.aload_n 0, 1) := by decide +kernel
theorem dX3_pay_5 : decode cX3_pay 5 = .ok (.getfield 12, 3) := by decide +kernel
theorem dX3_pay_8 : decode cX3_pay 8 = .ok (.iload_n 1, 1) := by decide +kernel
theorem dX3_pay_9 : decode cX3_pay 9 = .ok (.aload_n 0, 1) := by decide +kernel
theorem dX3_pay_10 : decode cX3_pay 10 = .ok (.getfield 12, 3) := by decide +kernel
theorem dX3_pay_13 : decode cX3_pay 13 = .ok (.getfield 69, 3) := by decide +kernel
theorem dX3_pay_16 : decode cX3_pay 16 = .ok (.iload_n 1, 1) := by decide +kernel
theorem dX3_pay_17 : decode cX3_pay 17 = .ok (.iaload, 1) := by decide +kernel
theorem dX3_pay_18 : decode cX3_pay 18 = .ok (.iconst 0, 1) := by decide +kernel
theorem dX3_pay_19 : decode cX3_pay 19 = .ok (.invokevirtual 72, 3) := by decide +kernel
theorem dX3_pay_22 : decode cX3_pay 22 = .ok (.iconst (-1), 1) := by decide +kernel
theorem dX3_pay_23 : decode cX3_pay 23 = .ok (.if_icmp .ne 13, 3) := by decide +kernel
theorem dX3_pay_26 : decode cX3_pay 26 = .ok (.new 42, 3) := by decide +kernel
theorem dX3_pay_29 : decode cX3_pay 29 = .ok (.dup, 1) := by decide +kernel
theorem dX3_pay_30 : decode cX3_pay 30 = .ok (.ldc 76, 2) := by decide +kernel
theorem dX3_pay_32 : decode cX3_pay 32 = .ok (.invokespecial 46, 3) := by decide +kernel
theorem dX3_pay_35 : decode cX3_pay 35 = .ok (.athrow, 1) := by decide +kernel
theorem dX3_pay_36 : decode cX3_pay 36 = .ok (.aload_n 0, 1) := by decide +kernel
theorem dX3_pay_37 : decode cX3_pay 37 = .ok (.getfield 19, 3) := by decide +kernel
theorem dX3_pay_40 : decode cX3_pay 40 = .ok (.aload_n 0, 1) := by decide +kernel
theorem dX3_pay_41 : decode cX3_pay 41 = .ok (.getfield 12, 3) := by decide +kernel
theorem dX3_pay_44 : decode cX3_pay 44 = .ok (.invokevirtual 49, 3) := by decide +kernel
theorem dX3_pay_47 : decode cX3_pay 47 = .ok (.aload_n 0, 1) := by decide +kernel
theorem dX3_pay_48 : decode cX3_pay 48 = .ok (.getfield 12, 3) := by decide +kernel
theorem dX3_pay_51 : decode cX3_pay 51 = .ok (.iload_n 1, 1) := by decide +kernel
theorem dX3_pay_52 : decode cX3_pay 52 = .ok (.invokevirtual 78, 3) := by decide +kernel
theorem dX3_pay_55 : decode cX3_pay 55 = .ok (.ireturn, 1) := by decide +kernel
set_option maxRecDepth 20000 in
theorem ggX3_tidy_X1_keep : GoodIn wsX3_tidy wsX1_keep := goodIn_r _ [7, 8, 9, 10, 11, 12, 13, 14, 15, 16, 17, 18, 19, 20, 21, 22, 66, 67, 68, 69, 70, 71, 72, 73, 74, 75] (by decide +kernel) (by decide +kernel)
set_option maxRecDepth 20000 in
theorem gX3_tidy_X1_keep : GoodIn wsX3_tidy (wsV RX3 49 RX1 yX1_keep wsX1_keep) := goodIn_app (goodIn_of _ (by decide +kernel)) ggX3_tidy_X1_keep
set_option maxRecDepth 20000 in
theorem ggX3_tidy_X0_payIfPossible : GoodIn wsX3_tidy wsX0_payIfPossible := goodIn_r _ [26, 19, 27, 28, 29, 14, 30, 31, 32, 33, 34, 16, 17, 35, 36, 37, 38, 39, 40, 41, 42, 43, 44, 45, 46, 18, 47, 48, 49, 50, 20, 51, 52, 53, 54, 55, 56, 57, 58, 22, 21, 69, 70, 71, 72, 73, 74, 75] (by decide +kernel) (by decide +kernel)
set_option maxRecDepth 20000 in
theorem gX3_tidy_X0_payIfPossible : GoodIn wsX3_tidy (wsV RX3 78 RX0 yX0_payIfPossible wsX0_payIfPossible) := goodIn_app (goodIn_of _ (by decide +kernel)) ggX3_tidy_X0_payIfPossible
set_option maxRecDepth 20000 in
theorem ggX3_tidy_X0_orderIfPossible : GoodIn wsX3_tidy wsX0_orderIfPossible := goodIn_r _ [62, 31, 32, 33, 14, 34, 16, 17, 51, 52, 53, 54, 35, 36, 37, 38, 39, 40, 41, 42, 43, 44, 45, 46, 18, 47, 48, 49, 50, 20, 55, 56, 57, 58, 19, 22, 21, 69, 70, 71, 72, 73, 74, 75] (by decide +kernel) (by decide +kernel)
set_option maxRecDepth 20000 in
theorem gX3_tidy_X0_orderIfPossible : GoodIn wsX3_tidy (wsV RX3 82 RX0 yX0_orderIfPossible wsX0_orderIfPossible) := goodIn_app (goodIn_of _ (by decide +kernel)) ggX3_tidy_X0_orderIfPossible
theorem dX3_tidy_0 : decode cX3_tidy 0 = .ok (.aload_n 0, 1) := by decide +kernel
theorem dX3_tidy_1 : decode cX3_tidy 1 = .ok (.getfield 19, 3) := by decide +kernel
theorem dX3_tidy_4 : decode cX3_tidy 4 = .ok (.aload_n 0, 1) := by decide +kernel
theorem dX3_tidy_5 : decode cX3_tidy 5 = .ok (.getfield 12, 3) := by decide +kernel
theorem dX3_tidy_8 : decode cX3_tidy 8 = .ok (.invokevirtual 49, 3) := by decide +kernel
theorem dX3_tidy_11 : decode cX3_tidy 11 = .ok (.iconst 0, 1) := by decide +kernel
theorem dX3_tidy_12 : decode cX3_tidy 12 = .ok (.istore_n 1, 1) := by decide +kernel
theorem dX3_tidy_13 : decode cX3_tidy 13 = .ok (.iconst 0, 1) := by decide +kernel
theorem dX3_tidy_14 : decode cX3_tidy 14 = .ok (.istore_n 2, 1) := by decide +kernel
theorem dX3_tidy_15 : decode cX3_tidy 15 = .ok (.iload_n 2, 1) := by decide +kernel
theorem dX3_tidy_16 : decode cX3_tidy 16 = .ok (.bipush 9, 2) := by decide +kernel
theorem dX3_tidy_18 : decode cX3_tidy 18 = .ok (.if_icmp .ge 31, 3) := by decide +kernel
theorem dX3_tidy_21 : decode cX3_tidy 21 = .ok (.iload_n 1, 1) := by decide +kernel
theorem dX3_tidy_22 : decode cX3_tidy 22 = .ok (.aload_n 0, 1) := by decide +kernel
theorem dX3_tidy_23 : decode cX3_tidy 23 = .ok (.getfield 12, 3) := by decide +kernel
theorem dX3_tidy_26 : decode cX3_tidy 26 = .ok (.iload_n 2, 1) := by decide +kernel
theorem dX3_tidy_27 : decode cX3_tidy 27 = .ok (.invokevirtual 78, 3) := by decide +kernel
theorem dX3_tidy_30 : decode cX3_tidy 30 = .ok (.iadd, 1) := by decide +kernel
theorem dX3_tidy_31 : decode cX3_tidy 31 = .ok (.istore_n 1, 1) := by decide +kernel
theorem dX3_tidy_32 : decode cX3_tidy 32 = .ok (.iload_n 1, 1) := by decide +kernel
theorem dX3_tidy_33 : decode cX3_tidy 33 = .ok (.aload_n 0, 1) := by decide +kernel
theorem dX3_tidy_34 : decode cX3_tidy 34 = .ok (.getfield 12, 3) := by decide +kernel
theorem dX3_tidy_37 : decode cX3_tidy 37 = .ok (.iload_n 2, 1) := by decide +kernel
theorem dX3_tidy_38 : decode cX3_tidy 38 = .ok (.invokevirtual 82, 3) := by decide +kernel
theorem dX3_tidy_41 : decode cX3_tidy 41 = .ok (.iadd, 1) := by decide +kernel
theorem dX3_tidy_42 : decode cX3_tidy 42 = .ok (.istore_n 1, 1) := by decide +kernel
theorem dX3_tidy_43 : decode cX3_tidy 43 = .ok (.iinc 2 1, 3) := by decide +kernel
theorem dX3_tidy_46 : decode cX3_tidy 46 = .ok (.goto (-31), 3) := by decide +kernel
theorem dX3_tidy_49 : decode cX3_tidy 49 = .ok (.iload_n 1, 1) := by decide +kernel
theorem dX3_tidy_50 : decode cX3_tidy 50 = .ok (.ireturn, 1) := by decide +kernel
set_option maxRecDepth 20000 in
theorem ggX3_undo_X1_restore : GoodIn wsX3_undo wsX1_restore := goodIn_r _ [10, 11, 12, 13, 14, 15, 16, 17, 18, 19, 20, 21, 22, 23, 24, 25, 29, 30, 31, 32, 33, 34, 35, 36, 37, 38] (by decide +kernel) (by decide +kernel)
set_option maxRecDepth 20000 in
theorem gX3_undo_X1_restore : GoodIn wsX3_undo (wsV RX3 121 RX1 yX1_restore wsX1_restore) := goodIn_app (goodIn_of _ (by decide +kernel)) ggX3_undo_X1_restore
theorem dX3_undo_0 : decode cX3_undo 0 = .ok (.aload_n 0, 1) := by decide +kernel
theorem dX3_undo_1 : decode cX3_undo 1 = .ok (.getfield 19, 3) := by decide +kernel
theorem dX3_undo_4 : decode cX3_undo 4 = .ok (.getfield 116, 3) := by decide +kernel
theorem dX3_undo_7 : decode cX3_undo 7 = .ok (.ifCond .ne 13, 3) := by decide +kernel
theorem dX3_undo_10 : decode cX3_undo 10 = .ok (.new 42, 3) := by decide +kernel
theorem dX3_undo_13 : decode cX3_undo 13 = .ok (.dup, 1) := by decide +kernel
theorem dX3_undo_14 : decode cX3_undo 14 = .ok (.ldc 119, 2) := by decide +kernel
theorem dX3_undo_16 : decode cX3_undo 16 = .ok (.invokespecial 46, 3) := by decide +kernel
theorem dX3_undo_19 : decode cX3_undo 19 = .ok (.athrow, 1) := by decide +kernel
theorem dX3_undo_20 : decode cX3_undo 20 = .ok (.aload_n 0, 1) := by decide +kernel
theorem dX3_undo_21 : decode cX3_undo 21 = .ok (.getfield 19, 3) := by decide +kernel
theorem dX3_undo_24 : decode cX3_undo 24 = .ok (.aload_n 0, 1) := by decide +kernel
theorem dX3_undo_25 : decode cX3_undo 25 = .ok (.getfield 12, 3) := by decide +kernel
theorem dX3_undo_28 : decode cX3_undo 28 = .ok (.invokevirtual 121, 3) := by decide +kernel
theorem dX3_undo_31 : decode cX3_undo 31 = .ok (.aload_n 0, 1) := by decide +kernel
theorem dX3_undo_32 : decode cX3_undo 32 = .ok (.getfield 19, 3) := by decide +kernel
theorem dX3_undo_35 : decode cX3_undo 35 = .ok (.getfield 116, 3) := by decide +kernel
theorem dX3_undo_38 : decode cX3_undo 38 = .ok (.ireturn, 1) := by decide +kernel
set_option maxRecDepth 20000 in
theorem ggX3_rod_X3_checkRod : GoodIn wsX3_rod wsX3_checkRod := goodIn_ca (goodIn_r _ [11, 12, 13] (by decide +kernel) (by decide +kernel)) (goodIn_sub (fun _ h => List.mem_cons_of_mem _ (List.mem_append_left _ (List.mem_append_right _ h))) (by decide +kernel))
set_option maxRecDepth 20000 in
theorem gX3_rod_X3_checkRod : GoodIn wsX3_rod (va_wsS RX3 30 yX3_checkRod wsX3_checkRod) := goodIn_app (goodIn_of _ (by decide +kernel)) ggX3_rod_X3_checkRod
set_option maxRecDepth 20000 in
theorem ggX3_rod_X3_checkRange : GoodIn wsX3_rod wsX3_checkRange := goodIn_ca (goodIn_r _ [16, 17, 18] (by decide +kernel) (by decide +kernel)) (goodIn_sub (fun _ h => List.mem_cons_of_mem _ (List.mem_append_right _ h)) (by decide +kernel))
set_option maxRecDepth 20000 in
theorem gX3_rod_X3_checkRange : GoodIn wsX3_rod (va_wsS RX3 34 yX3_checkRange wsX3_checkRange) := goodIn_app (goodIn_of _ (by decide +kernel)) ggX3_rod_X3_checkRange
set_option maxRecDepth 20000 in
theorem ggX3_rod_X0_shown : GoodIn wsX3_rod wsX0_shown := goodIn_r _ [23, 24, 25, 51, 52, 53, 54, 55, 56, 57] (by decide +kernel) (by decide +kernel)
set_option maxRecDepth 20000 in
theorem gX3_rod_X0_shown : GoodIn wsX3_rod (wsV RX3 130 RX0 yX0_shown wsX0_shown) := goodIn_app (goodIn_of _ (by decide +kernel)) ggX3_rod_X0_shown
set_option maxRecDepth 20000 in
theorem ggX3_rod_X0_reach : GoodIn wsX3_rod wsX0_reach := goodIn_r _ [29, 30, 31, 32, 22, 33, 34, 35, 36, 37, 24, 38, 39, 40, 41, 25, 42, 43, 44, 45, 46, 47, 51, 52, 53, 54, 55, 56, 57] (by decide +kernel) (by decide +kernel)
set_option maxRecDepth 20000 in
theorem gX3_rod_X0_reach : GoodIn wsX3_rod (wsV RX3 139 RX0 yX0_reach wsX0_reach) := goodIn_app (goodIn_of _ (by decide +kernel)) ggX3_rod_X0_reach
theorem dX3_rod_0 : decode cX3_rod 0 = .ok (.iload_n 1, 1) := by decide +kernel
theorem dX3_rod_1 : decode cX3_rod 1 = .ok (.invokestatic 30, 3) := by decide +kernel
theorem dX3_rod_4 : decode cX3_rod 4 = .ok (.iload_n 2, 1) := by decide +kernel
theorem dX3_rod_5 : decode cX3_rod 5 = .ok (.iconst 0, 1) := by decide +kernel
theorem dX3_rod_6 : decode cX3_rod 6 = .ok (.bipush 7, 2) := by decide +kernel
theorem dX3_rod_8 : decode cX3_rod 8 = .ok (.invokestatic 34, 3) := by decide +kernel
theorem dX3_rod_11 : decode cX3_rod 11 = .ok (.iload_n 2, 1) := by decide +kernel
theorem dX3_rod_12 : decode cX3_rod 12 = .ok (.tableswitch 116 0 6 #[44, 54, 64, 73, 86, 96, 106], 44) := by decide +kernel
theorem dX3_rod_56 : decode cX3_rod 56 = .ok (.aload_n 0, 1) := by decide +kernel
theorem dX3_rod_57 : decode cX3_rod 57 = .ok (.getfield 12, 3) := by decide +kernel
theorem dX3_rod_60 : decode cX3_rod 60 = .ok (.getfield 124, 3) := by decide +kernel
theorem dX3_rod_63 : decode cX3_rod 63 = .ok (.iload_n 1, 1) := by decide +kernel
theorem dX3_rod_64 : decode cX3_rod 64 = .ok (.iaload, 1) := by decide +kernel
theorem dX3_rod_65 : decode cX3_rod 65 = .ok (.ireturn, 1) := by decide +kernel
theorem dX3_rod_66 : decode cX3_rod 66 = .ok (.aload_n 0, 1) := by decide +kernel
theorem dX3_rod_67 : decode cX3_rod 67 = .ok (.getfield 12, 3) := by decide +kernel
theorem dX3_rod_70 : decode cX3_rod 70 = .ok (.getfield 127, 3) := by decide +kernel
theorem dX3_rod_73 : decode cX3_rod 73 = .ok (.iload_n 1, 1) := by decide +kernel
theorem dX3_rod_74 : decode cX3_rod 74 = .ok (.iaload, 1) := by decide +kernel
theorem dX3_rod_75 : decode cX3_rod 75 = .ok (.ireturn, 1) := by decide +kernel
theorem dX3_rod_76 : decode cX3_rod 76 = .ok (.aload_n 0, 1) := by decide +kernel
theorem dX3_rod_77 : decode cX3_rod 77 = .ok (.getfield 12, 3) := by decide +kernel
theorem dX3_rod_80 : decode cX3_rod 80 = .ok (.iload_n 1, 1) := by decide +kernel
theorem dX3_rod_81 : decode cX3_rod 81 = .ok (.invokevirtual 130, 3) := by decide +kernel
theorem dX3_rod_84 : decode cX3_rod 84 = .ok (.ireturn, 1) := by decide +kernel
theorem dX3_rod_85 : decode cX3_rod 85 = .ok (.aload_n 0, 1) := by decide +kernel
theorem dX3_rod_86 : decode cX3_rod 86 = .ok (.getfield 12, 3) := by decide +kernel
theorem dX3_rod_89 : decode cX3_rod 89 = .ok (.getfield 69, 3) := by decide +kernel
theorem dX3_rod_92 : decode cX3_rod 92 = .ok (.iload_n 1, 1) := by decide +kernel
theorem dX3_rod_93 : decode cX3_rod 93 = .ok (.iaload, 1) := by decide +kernel
theorem dX3_rod_94 : decode cX3_rod 94 = .ok (.bipush 100, 2) := by decide +kernel
theorem dX3_rod_96 : decode cX3_rod 96 = .ok (.iadd, 1) := by decide +kernel
theorem dX3_rod_97 : decode cX3_rod 97 = .ok (.ireturn, 1) := by decide +kernel
theorem dX3_rod_98 : decode cX3_rod 98 = .ok (.aload_n 0, 1) := by decide +kernel
theorem dX3_rod_99 : decode cX3_rod 99 = .ok (.getfield 12, 3) := by decide +kernel
theorem dX3_rod_102 : decode cX3_rod 102 = .ok (.getfield 57, 3) := by decide +kernel
theorem dX3_rod_105 : decode cX3_rod 105 = .ok (.iload_n 1, 1) := by decide +kernel
theorem dX3_rod_106 : decode cX3_rod 106 = .ok (.iaload, 1) := by decide +kernel
theorem dX3_rod_107 : decode cX3_rod 107 = .ok (.ireturn, 1) := by decide +kernel
theorem dX3_rod_108 : decode cX3_rod 108 = .ok (.aload_n 0, 1) := by decide +kernel
theorem dX3_rod_109 : decode cX3_rod 109 = .ok (.getfield 12, 3) := by decide +kernel
theorem dX3_rod_112 : decode cX3_rod 112 = .ok (.getfield 133, 3) := by decide +kernel
theorem dX3_rod_115 : decode cX3_rod 115 = .ok (.iload_n 1, 1) := by decide +kernel
theorem dX3_rod_116 : decode cX3_rod 116 = .ok (.iaload, 1) := by decide +kernel
theorem dX3_rod_117 : decode cX3_rod 117 = .ok (.ireturn, 1) := by decide +kernel
theorem dX3_rod_118 : decode cX3_rod 118 = .ok (.aload_n 0, 1) := by decide +kernel
theorem dX3_rod_119 : decode cX3_rod 119 = .ok (.getfield 12, 3) := by decide +kernel
theorem dX3_rod_122 : decode cX3_rod 122 = .ok (.getfield 136, 3) := by decide +kernel
theorem dX3_rod_125 : decode cX3_rod 125 = .ok (.iload_n 1, 1) := by decide +kernel
theorem dX3_rod_126 : decode cX3_rod 126 = .ok (.iaload, 1) := by decide +kernel
theorem dX3_rod_127 : decode cX3_rod 127 = .ok (.ireturn, 1) := by decide +kernel
theorem dX3_rod_128 : decode cX3_rod 128 = .ok (.aload_n 0, 1) := by decide +kernel
theorem dX3_rod_129 : decode cX3_rod 129 = .ok (.getfield 12, 3) := by decide +kernel
theorem dX3_rod_132 : decode cX3_rod 132 = .ok (.iload_n 1, 1) := by decide +kernel
theorem dX3_rod_133 : decode cX3_rod 133 = .ok (.invokevirtual 139, 3) := by decide +kernel
theorem dX3_rod_136 : decode cX3_rod 136 = .ok (.ireturn, 1) := by decide +kernel
set_option maxRecDepth 20000 in
theorem ggX3_whole_X0_shown : GoodIn wsX3_whole wsX0_shown := goodIn_r _ [8, 9, 10, 14, 15, 16, 17, 18, 19, 20] (by decide +kernel) (by decide +kernel)
set_option maxRecDepth 20000 in
theorem gX3_whole_X0_shown : GoodIn wsX3_whole (wsV RX3 130 RX0 yX0_shown wsX0_shown) := goodIn_app (goodIn_of _ (by decide +kernel)) ggX3_whole_X0_shown
theorem dX3_whole_0 : decode cX3_whole 0 = .ok (.lconst 0, 1) := by decide +kernel
theorem dX3_whole_1 : decode cX3_whole 1 = .ok (.lstore_n 1, 1) := by decide +kernel
theorem dX3_whole_2 : decode cX3_whole 2 = .ok (.lconst 1, 1) := by decide +kernel
theorem dX3_whole_3 : decode cX3_whole 3 = .ok (.lstore_n 3, 1) := by decide +kernel
theorem dX3_whole_4 : decode cX3_whole 4 = .ok (.iconst 0, 1) := by decide +kernel
theorem dX3_whole_5 : decode cX3_whole 5 = .ok (.istore 5, 2) := by decide +kernel
theorem dX3_whole_7 : decode cX3_whole 7 = .ok (.iload 5, 2) := by decide +kernel
theorem dX3_whole_9 : decode cX3_whole 9 = .ok (.bipush 9, 2) := by decide +kernel
theorem dX3_whole_11 : decode cX3_whole 11 = .ok (.if_icmp .ge 41, 3) := by decide +kernel
theorem dX3_whole_14 : decode cX3_whole 14 = .ok (.lload_n 1, 1) := by decide +kernel
theorem dX3_whole_15 : decode cX3_whole 15 = .ok (.aload_n 0, 1) := by decide +kernel
theorem dX3_whole_16 : decode cX3_whole 16 = .ok (.getfield 12, 3) := by decide +kernel
theorem dX3_whole_19 : decode cX3_whole 19 = .ok (.iload 5, 2) := by decide +kernel
theorem dX3_whole_21 : decode cX3_whole 21 = .ok (.invokevirtual 130, 3) := by decide +kernel
theorem dX3_whole_24 : decode cX3_whole 24 = .ok (.aload_n 0, 1) := by decide +kernel
theorem dX3_whole_25 : decode cX3_whole 25 = .ok (.getfield 12, 3) := by decide +kernel
theorem dX3_whole_28 : decode cX3_whole 28 = .ok (.getfield 69, 3) := by decide +kernel
theorem dX3_whole_31 : decode cX3_whole 31 = .ok (.iload 5, 2) := by decide +kernel
theorem dX3_whole_33 : decode cX3_whole 33 = .ok (.iaload, 1) := by decide +kernel
theorem dX3_whole_34 : decode cX3_whole 34 = .ok (.iadd, 1) := by decide +kernel
theorem dX3_whole_35 : decode cX3_whole 35 = .ok (.i2l, 1) := by decide +kernel
theorem dX3_whole_36 : decode cX3_whole 36 = .ok (.lload_n 3, 1) := by decide +kernel
theorem dX3_whole_37 : decode cX3_whole 37 = .ok (.lmul, 1) := by decide +kernel
theorem dX3_whole_38 : decode cX3_whole 38 = .ok (.ladd, 1) := by decide +kernel
theorem dX3_whole_39 : decode cX3_whole 39 = .ok (.lstore_n 1, 1) := by decide +kernel
theorem dX3_whole_40 : decode cX3_whole 40 = .ok (.lload_n 3, 1) := by decide +kernel
theorem dX3_whole_41 : decode cX3_whole 41 = .ok (.ldc2_w 142, 3) := by decide +kernel
theorem dX3_whole_44 : decode cX3_whole 44 = .ok (.lmul, 1) := by decide +kernel
theorem dX3_whole_45 : decode cX3_whole 45 = .ok (.lstore_n 3, 1) := by decide +kernel
theorem dX3_whole_46 : decode cX3_whole 46 = .ok (.iinc 5 1, 3) := by decide +kernel
theorem dX3_whole_49 : decode cX3_whole 49 = .ok (.goto (-42), 3) := by decide +kernel
theorem dX3_whole_52 : decode cX3_whole 52 = .ok (.lload_n 1, 1) := by decide +kernel
theorem dX3_whole_53 : decode cX3_whole 53 = .ok (.lreturn, 1) := by decide +kernel
set_option maxRecDepth 20000 in
theorem ggX3_count_X3_checkRange : GoodIn wsX3_count wsX3_checkRange := goodIn_ca (goodIn_r _ [8, 9, 10] (by decide +kernel) (by decide +kernel)) (goodIn_sub (fun _ h => List.mem_cons_of_mem _ (List.mem_append_right _ h)) (by decide +kernel))
set_option maxRecDepth 20000 in
theorem gX3_count_X3_checkRange : GoodIn wsX3_count (va_wsS RX3 34 yX3_checkRange wsX3_checkRange) := goodIn_app (goodIn_of _ (by decide +kernel)) ggX3_count_X3_checkRange
set_option maxRecDepth 20000 in
theorem ggX3_count_X0_allMoved : GoodIn wsX3_count wsX0_allMoved := goodIn_r _ [15, 16, 52, 53, 54, 55, 56, 57, 58] (by decide +kernel) (by decide +kernel)
set_option maxRecDepth 20000 in
theorem gX3_count_X0_allMoved : GoodIn wsX3_count (wsV RX3 144 RX0 yX0_allMoved wsX0_allMoved) := goodIn_app (goodIn_of _ (by decide +kernel)) ggX3_count_X0_allMoved
set_option maxRecDepth 20000 in
theorem ggX3_count_X0_rodsWithLoan : GoodIn wsX3_count wsX0_rodsWithLoan := goodIn_r _ [20, 21, 52, 53, 54, 55, 56, 57, 58] (by decide +kernel) (by decide +kernel)
set_option maxRecDepth 20000 in
theorem gX3_count_X0_rodsWithLoan : GoodIn wsX3_count (wsV RX3 147 RX0 yX0_rodsWithLoan wsX0_rodsWithLoan) := goodIn_app (goodIn_of _ (by decide +kernel)) ggX3_count_X0_rodsWithLoan
set_option maxRecDepth 20000 in
theorem ggX3_count_X0_allLoans : GoodIn wsX3_count wsX0_allLoans := goodIn_r _ [25, 21, 52, 53, 54, 55, 56, 57, 58] (by decide +kernel) (by decide +kernel)
set_option maxRecDepth 20000 in
theorem gX3_count_X0_allLoans : GoodIn wsX3_count (wsV RX3 150 RX0 yX0_allLoans wsX0_allLoans) := goodIn_app (goodIn_of _ (by decide +kernel)) ggX3_count_X0_allLoans
set_option maxRecDepth 20000 in
theorem ggX3_count_X0_allShown : GoodIn wsX3_count wsX0_allShown := goodIn_r _ [29, 30, 31, 32, 14, 33, 34, 35, 52, 53, 54, 55, 56, 57, 58] (by decide +kernel) (by decide +kernel)
set_option maxRecDepth 20000 in
theorem gX3_count_X0_allShown : GoodIn wsX3_count (wsV RX3 153 RX0 yX0_allShown wsX0_allShown) := goodIn_app (goodIn_of _ (by decide +kernel)) ggX3_count_X0_allShown
set_option maxRecDepth 20000 in
theorem ggX3_count_J9_floorMod_7cf53 : GoodIn wsX3_count wsJ9_floorMod_7cf53 := goodIn_r _ [39] (by decide +kernel) (by decide +kernel)
set_option maxRecDepth 20000 in
theorem gX3_count_J9_floorMod_7cf53 : GoodIn wsX3_count (va_wsS RX3 156 yJ9_floorMod_7cf53 wsJ9_floorMod_7cf53) := goodIn_app (goodIn_of _ (by decide +kernel)) ggX3_count_J9_floorMod_7cf53
set_option maxRecDepth 20000 in
theorem ggX3_count_X0_rodsOutOfOrder : GoodIn wsX3_count wsX0_rodsOutOfOrder := goodIn_r _ [43, 30, 31, 32, 14, 33, 34, 35, 52, 53, 54, 55, 56, 57, 58] (by decide +kernel) (by decide +kernel)
set_option maxRecDepth 20000 in
theorem gX3_count_X0_rodsOutOfOrder : GoodIn wsX3_count (wsV RX3 161 RX0 yX0_rodsOutOfOrder wsX0_rodsOutOfOrder) := goodIn_app (goodIn_of _ (by decide +kernel)) ggX3_count_X0_rodsOutOfOrder
set_option maxRecDepth 20000 in
theorem ggX3_count_X0_rodsWithStuck : GoodIn wsX3_count wsX0_rodsWithStuck := goodIn_r _ [47, 48, 52, 53, 54, 55, 56, 57, 58] (by decide +kernel) (by decide +kernel)
set_option maxRecDepth 20000 in
theorem gX3_count_X0_rodsWithStuck : GoodIn wsX3_count (wsV RX3 164 RX0 yX0_rodsWithStuck wsX0_rodsWithStuck) := goodIn_app (goodIn_of _ (by decide +kernel)) ggX3_count_X0_rodsWithStuck
theorem dX3_count_0 : decode cX3_count 0 = .ok (.iload_n 1, 1) := by decide +kernel
theorem dX3_count_1 : decode cX3_count 1 = .ok (.iconst 0, 1) := by decide +kernel
theorem dX3_count_2 : decode cX3_count 2 = .ok (.bipush 7, 2) := by decide +kernel
theorem dX3_count_4 : decode cX3_count 4 = .ok (.invokestatic 34, 3) := by decide +kernel
theorem dX3_count_7 : decode cX3_count 7 = .ok (.iload_n 1, 1) := by decide +kernel
theorem dX3_count_8 : decode cX3_count 8 = .ok (.tableswitch 116 0 6 #[44, 52, 60, 71, 92, 100, 108], 44) := by decide +kernel
theorem dX3_count_52 : decode cX3_count 52 = .ok (.aload_n 0, 1) := by decide +kernel
theorem dX3_count_53 : decode cX3_count 53 = .ok (.getfield 12, 3) := by decide +kernel
theorem dX3_count_56 : decode cX3_count 56 = .ok (.invokevirtual 144, 3) := by decide +kernel
theorem dX3_count_59 : decode cX3_count 59 = .ok (.ireturn, 1) := by decide +kernel
theorem dX3_count_60 : decode cX3_count 60 = .ok (.aload_n 0, 1) := by decide +kernel
theorem dX3_count_61 : decode cX3_count 61 = .ok (.getfield 12, 3) := by decide +kernel
theorem dX3_count_64 : decode cX3_count 64 = .ok (.invokevirtual 147, 3) := by decide +kernel
theorem dX3_count_67 : decode cX3_count 67 = .ok (.ireturn, 1) := by decide +kernel
theorem dX3_count_68 : decode cX3_count 68 = .ok (.aload_n 0, 1) := by decide +kernel
theorem dX3_count_69 : decode cX3_count 69 = .ok (.getfield 12, 3) := by decide +kernel
theorem dX3_count_72 : decode cX3_count 72 = .ok (.invokevirtual 150, 3) := by decide +kernel
theorem dX3_count_75 : decode cX3_count 75 = .ok (.bipush 100, 2) := by decide +kernel
theorem dX3_count_77 : decode cX3_count 77 = .ok (.iadd, 1) := by decide +kernel
theorem dX3_count_78 : decode cX3_count 78 = .ok (.ireturn, 1) := by decide +kernel
theorem dX3_count_79 : decode cX3_count 79 = .ok (.aload_n 0, 1) := by decide +kernel
theorem dX3_count_80 : decode cX3_count 80 = .ok (.getfield 12, 3) := by decide +kernel
theorem dX3_count_83 : decode cX3_count 83 = .ok (.invokevirtual 153, 3) := by decide +kernel
theorem dX3_count_86 : decode cX3_count 86 = .ok (.aload_n 0, 1) := by decide +kernel
theorem dX3_count_87 : decode cX3_count 87 = .ok (.getfield 12, 3) := by decide +kernel
theorem dX3_count_90 : decode cX3_count 90 = .ok (.invokevirtual 150, 3) := by decide +kernel
theorem dX3_count_93 : decode cX3_count 93 = .ok (.iadd, 1) := by decide +kernel
theorem dX3_count_94 : decode cX3_count 94 = .ok (.bipush 9, 2) := by decide +kernel
theorem dX3_count_96 : decode cX3_count 96 = .ok (.invokestatic 156, 3) := by decide +kernel
theorem dX3_count_99 : decode cX3_count 99 = .ok (.ireturn, 1) := by decide +kernel
theorem dX3_count_100 : decode cX3_count 100 = .ok (.aload_n 0, 1) := by decide +kernel
theorem dX3_count_101 : decode cX3_count 101 = .ok (.getfield 12, 3) := by decide +kernel
theorem dX3_count_104 : decode cX3_count 104 = .ok (.invokevirtual 161, 3) := by decide +kernel
theorem dX3_count_107 : decode cX3_count 107 = .ok (.ireturn, 1) := by decide +kernel
theorem dX3_count_108 : decode cX3_count 108 = .ok (.aload_n 0, 1) := by decide +kernel
theorem dX3_count_109 : decode cX3_count 109 = .ok (.getfield 12, 3) := by decide +kernel
theorem dX3_count_112 : decode cX3_count 112 = .ok (.invokevirtual 164, 3) := by decide +kernel
theorem dX3_count_115 : decode cX3_count 115 = .ok (.ireturn, 1) := by decide +kernel
theorem dX3_count_116 : decode cX3_count 116 = .ok (.aload_n 0, 1) := by decide +kernel
theorem dX3_count_117 : decode cX3_count 117 = .ok (.getfield 12, 3) := by decide +kernel
theorem dX3_count_120 : decode cX3_count 120 = .ok (.getfield 61, 3) := by decide +kernel
theorem dX3_count_123 : decode cX3_count 123 = .ok (.ireturn, 1) := by decide +kernel
theorem dX3_count_124 : decode cX3_count 124 = .ok (.aload_n 0, 1) := by decide +kernel
theorem dX3_count_125 : decode cX3_count 125 = .ok (.getfield 19, 3) := by decide +kernel
theorem dX3_count_128 : decode cX3_count 128 = .ok (.getfield 116, 3) := by decide +kernel
theorem dX3_count_131 : decode cX3_count 131 = .ok (.ireturn, 1) := by decide +kernel
set_option maxRecDepth 20000 in
theorem ggX3_moves_X3_checkRod : GoodIn wsX3_moves wsX3_checkRod := goodIn_ca (goodIn_r _ [5, 6, 7] (by decide +kernel) (by decide +kernel)) (goodIn_sub (fun _ h => List.mem_cons_of_mem _ (List.mem_append_left _ (List.mem_append_right _ h))) (by decide +kernel))
set_option maxRecDepth 20000 in
theorem gX3_moves_X3_checkRod : GoodIn wsX3_moves (va_wsS RX3 30 yX3_checkRod wsX3_checkRod) := goodIn_app (goodIn_of _ (by decide +kernel)) ggX3_moves_X3_checkRod
set_option maxRecDepth 20000 in
theorem ggX3_moves_X3_checkRange : GoodIn wsX3_moves wsX3_checkRange := goodIn_ca (goodIn_r _ [10, 11, 12] (by decide +kernel) (by decide +kernel)) (goodIn_sub (fun _ h => List.mem_cons_of_mem _ (List.mem_append_right _ h)) (by decide +kernel))
set_option maxRecDepth 20000 in
theorem gX3_moves_X3_checkRange : GoodIn wsX3_moves (va_wsS RX3 34 yX3_checkRange wsX3_checkRange) := goodIn_app (goodIn_of _ (by decide +kernel)) ggX3_moves_X3_checkRange
set_option maxRecDepth 20000 in
theorem ggX3_moves_X0_turn : GoodIn wsX3_moves wsX0_turn := goodIn_r _ [17, 18, 19, 20, 16, 21, 22, 23, 24, 25, 26, 27, 28, 29, 30, 31, 32, 33, 37, 38, 39, 40, 41, 42, 43] (by decide +kernel) (by decide +kernel)
set_option maxRecDepth 20000 in
theorem gX3_moves_X0_turn : GoodIn wsX3_moves (wsV RX3 167 RX0 yX0_turn wsX0_turn) := goodIn_app (goodIn_of _ (by decide +kernel)) ggX3_moves_X0_turn
theorem dX3_moves_0 : decode cX3_moves 0 = .ok (.iload_n 1, 1) := by decide +kernel
theorem dX3_moves_1 : decode cX3_moves 1 = .ok (.invokestatic 30, 3) := by decide +kernel
theorem dX3_moves_4 : decode cX3_moves 4 = .ok (.iload_n 2, 1) := by decide +kernel
theorem dX3_moves_5 : decode cX3_moves 5 = .ok (.iconst 0, 1) := by decide +kernel
theorem dX3_moves_6 : decode cX3_moves 6 = .ok (.bipush 15, 2) := by decide +kernel
theorem dX3_moves_8 : decode cX3_moves 8 = .ok (.invokestatic 34, 3) := by decide +kernel
theorem dX3_moves_11 : decode cX3_moves 11 = .ok (.aload_n 0, 1) := by decide +kernel
theorem dX3_moves_12 : decode cX3_moves 12 = .ok (.getfield 12, 3) := by decide +kernel
theorem dX3_moves_15 : decode cX3_moves 15 = .ok (.iload_n 1, 1) := by decide +kernel
theorem dX3_moves_16 : decode cX3_moves 16 = .ok (.iload_n 2, 1) := by decide +kernel
theorem dX3_moves_17 : decode cX3_moves 17 = .ok (.iconst 0, 1) := by decide +kernel
theorem dX3_moves_18 : decode cX3_moves 18 = .ok (.invokevirtual 167, 3) := by decide +kernel
theorem dX3_moves_21 : decode cX3_moves 21 = .ok (.ireturn, 1) := by decide +kernel
set_option maxRecDepth 20000 in
theorem ggX3_ifAdded_X3_checkRod : GoodIn wsX3_ifAdded wsX3_checkRod := goodIn_ca (goodIn_r _ [5, 6, 7] (by decide +kernel) (by decide +kernel)) (goodIn_sub (fun _ h => List.mem_cons_of_mem _ (List.mem_append_left _ (List.mem_append_right _ h))) (by decide +kernel))
set_option maxRecDepth 20000 in
theorem gX3_ifAdded_X3_checkRod : GoodIn wsX3_ifAdded (va_wsS RX3 30 yX3_checkRod wsX3_checkRod) := goodIn_app (goodIn_of _ (by decide +kernel)) ggX3_ifAdded_X3_checkRod
set_option maxRecDepth 20000 in
theorem ggX3_ifAdded_X3_checkRange : GoodIn wsX3_ifAdded wsX3_checkRange := goodIn_ca (goodIn_r _ [10, 11, 12] (by decide +kernel) (by decide +kernel)) (goodIn_sub (fun _ h => List.mem_cons_of_mem _ (List.mem_append_right _ h)) (by decide +kernel))
set_option maxRecDepth 20000 in
theorem gX3_ifAdded_X3_checkRange : GoodIn wsX3_ifAdded (va_wsS RX3 34 yX3_checkRange wsX3_checkRange) := goodIn_app (goodIn_of _ (by decide +kernel)) ggX3_ifAdded_X3_checkRange
set_option maxRecDepth 20000 in
theorem ggX3_ifAdded_X0_change : GoodIn wsX3_ifAdded wsX0_change := goodIn_r _ [17, 18, 19, 20, 16, 21, 22, 23, 24, 25, 26, 27, 28, 29, 30, 31, 32, 33, 34, 35, 36, 37, 38, 39, 40, 41, 42, 43, 44, 45, 46, 47, 48, 49, 50, 51, 52, 56, 57, 58, 59, 60, 61, 62] (by decide +kernel) (by decide +kernel)
set_option maxRecDepth 20000 in
theorem gX3_ifAdded_X0_change : GoodIn wsX3_ifAdded (wsV RX3 72 RX0 yX0_change wsX0_change) := goodIn_app (goodIn_of _ (by decide +kernel)) ggX3_ifAdded_X0_change
theorem dX3_ifAdded_0 : decode cX3_ifAdded 0 = .ok (.iload_n 1, 1) := by decide +kernel
theorem dX3_ifAdded_1 : decode cX3_ifAdded 1 = .ok (.invokestatic 30, 3) := by decide +kernel
theorem dX3_ifAdded_4 : decode cX3_ifAdded 4 = .ok (.iload_n 2, 1) := by decide +kernel
theorem dX3_ifAdded_5 : decode cX3_ifAdded 5 = .ok (.bipush (-9), 2) := by decide +kernel
theorem dX3_ifAdded_7 : decode cX3_ifAdded 7 = .ok (.bipush 9, 2) := by decide +kernel
theorem dX3_ifAdded_9 : decode cX3_ifAdded 9 = .ok (.invokestatic 34, 3) := by decide +kernel
theorem dX3_ifAdded_12 : decode cX3_ifAdded 12 = .ok (.aload_n 0, 1) := by decide +kernel
theorem dX3_ifAdded_13 : decode cX3_ifAdded 13 = .ok (.getfield 12, 3) := by decide +kernel
theorem dX3_ifAdded_16 : decode cX3_ifAdded 16 = .ok (.iload_n 1, 1) := by decide +kernel
theorem dX3_ifAdded_17 : decode cX3_ifAdded 17 = .ok (.iload_n 2, 1) := by decide +kernel
theorem dX3_ifAdded_18 : decode cX3_ifAdded 18 = .ok (.iconst 0, 1) := by decide +kernel
theorem dX3_ifAdded_19 : decode cX3_ifAdded 19 = .ok (.invokevirtual 72, 3) := by decide +kernel
theorem dX3_ifAdded_22 : decode cX3_ifAdded 22 = .ok (.ireturn, 1) := by decide +kernel
set_option maxRecDepth 20000 in
theorem ggX3_toShow_X3_checkRange : GoodIn wsX3_toShow wsX3_checkRange := goodIn_ca (goodIn_r _ [6, 7, 8] (by decide +kernel) (by decide +kernel)) (goodIn_sub (fun _ h => List.mem_cons_of_mem _ (List.mem_append_right _ h)) (by decide +kernel))
set_option maxRecDepth 20000 in
theorem gX3_toShow_X3_checkRange : GoodIn wsX3_toShow (va_wsS RX3 34 yX3_checkRange wsX3_checkRange) := goodIn_app (goodIn_of _ (by decide +kernel)) ggX3_toShow_X3_checkRange
set_option maxRecDepth 20000 in
theorem ggX3_toShow_X0_turn : GoodIn wsX3_toShow wsX0_turn := goodIn_r _ [13, 14, 15, 16, 12, 17, 18, 19, 20, 21, 22, 23, 24, 25, 26, 27, 28, 29, 33, 34, 35, 36, 37, 38, 39] (by decide +kernel) (by decide +kernel)
set_option maxRecDepth 20000 in
theorem gX3_toShow_X0_turn : GoodIn wsX3_toShow (wsV RX3 167 RX0 yX0_turn wsX0_turn) := goodIn_app (goodIn_of _ (by decide +kernel)) ggX3_toShow_X0_turn
theorem dX3_toShow_0 : decode cX3_toShow 0 = .ok (.iload_n 1, 1) := by decide +kernel
theorem dX3_toShow_1 : decode cX3_toShow 1 = .ok (.iconst 0, 1) := by decide +kernel
theorem dX3_toShow_2 : decode cX3_toShow 2 = .ok (.ldc 170, 2) := by decide +kernel
theorem dX3_toShow_4 : decode cX3_toShow 4 = .ok (.invokestatic 34, 3) := by decide +kernel
theorem dX3_toShow_7 : decode cX3_toShow 7 = .ok (.iconst 0, 1) := by decide +kernel
theorem dX3_toShow_8 : decode cX3_toShow 8 = .ok (.istore_n 2, 1) := by decide +kernel
theorem dX3_toShow_9 : decode cX3_toShow 9 = .ok (.iload_n 1, 1) := by decide +kernel
theorem dX3_toShow_10 : decode cX3_toShow 10 = .ok (.istore_n 3, 1) := by decide +kernel
theorem dX3_toShow_11 : decode cX3_toShow 11 = .ok (.iconst 0, 1) := by decide +kernel
theorem dX3_toShow_12 : decode cX3_toShow 12 = .ok (.istore 4, 2) := by decide +kernel
theorem dX3_toShow_14 : decode cX3_toShow 14 = .ok (.iload 4, 2) := by decide +kernel
theorem dX3_toShow_16 : decode cX3_toShow 16 = .ok (.bipush 9, 2) := by decide +kernel
theorem dX3_toShow_18 : decode cX3_toShow 18 = .ok (.if_icmp .ge 43, 3) := by decide +kernel
theorem dX3_toShow_21 : decode cX3_toShow 21 = .ok (.aload_n 0, 1) := by decide +kernel
theorem dX3_toShow_22 : decode cX3_toShow 22 = .ok (.getfield 12, 3) := by decide +kernel
theorem dX3_toShow_25 : decode cX3_toShow 25 = .ok (.iload 4, 2) := by decide +kernel
theorem dX3_toShow_27 : decode cX3_toShow 27 = .ok (.iload_n 3, 1) := by decide +kernel
theorem dX3_toShow_28 : decode cX3_toShow 28 = .ok (.bipush 10, 2) := by decide +kernel
theorem dX3_toShow_30 : decode cX3_toShow 30 = .ok (.irem, 1) := by decide +kernel
theorem dX3_toShow_31 : decode cX3_toShow 31 = .ok (.iconst 0, 1) := by decide +kernel
theorem dX3_toShow_32 : decode cX3_toShow 32 = .ok (.invokevirtual 167, 3) := by decide +kernel
theorem dX3_toShow_35 : decode cX3_toShow 35 = .ok (.istore 5, 2) := by decide +kernel
theorem dX3_toShow_37 : decode cX3_toShow 37 = .ok (.iload 5, 2) := by decide +kernel
theorem dX3_toShow_39 : decode cX3_toShow 39 = .ok (.iconst (-1), 1) := by decide +kernel
theorem dX3_toShow_40 : decode cX3_toShow 40 = .ok (.if_icmp .ne 5, 3) := by decide +kernel
theorem dX3_toShow_43 : decode cX3_toShow 43 = .ok (.iconst (-1), 1) := by decide +kernel
theorem dX3_toShow_44 : decode cX3_toShow 44 = .ok (.ireturn, 1) := by decide +kernel
theorem dX3_toShow_45 : decode cX3_toShow 45 = .ok (.iload_n 2, 1) := by decide +kernel
theorem dX3_toShow_46 : decode cX3_toShow 46 = .ok (.iload 5, 2) := by decide +kernel
theorem dX3_toShow_48 : decode cX3_toShow 48 = .ok (.iadd, 1) := by decide +kernel
theorem dX3_toShow_49 : decode cX3_toShow 49 = .ok (.istore_n 2, 1) := by decide +kernel
theorem dX3_toShow_50 : decode cX3_toShow 50 = .ok (.iload_n 3, 1) := by decide +kernel
theorem dX3_toShow_51 : decode cX3_toShow 51 = .ok (.bipush 10, 2) := by decide +kernel
theorem dX3_toShow_53 : decode cX3_toShow 53 = .ok (.idiv, 1) := by decide +kernel
theorem dX3_toShow_54 : decode cX3_toShow 54 = .ok (.istore_n 3, 1) := by decide +kernel
theorem dX3_toShow_55 : decode cX3_toShow 55 = .ok (.iinc 4 1, 3) := by decide +kernel
theorem dX3_toShow_58 : decode cX3_toShow 58 = .ok (.goto (-44), 3) := by decide +kernel
theorem dX3_toShow_61 : decode cX3_toShow 61 = .ok (.iload_n 2, 1) := by decide +kernel
theorem dX3_toShow_62 : decode cX3_toShow 62 = .ok (.ireturn, 1) := by decide +kernel
set_option maxRecDepth 20000 in
theorem ggX3_cheapestLoan_X0_change : GoodIn wsX3_cheapestLoan wsX0_change := goodIn_r _ [7, 8, 9, 10, 6, 11, 12, 13, 14, 15, 16, 17, 18, 19, 20, 21, 22, 23, 24, 25, 26, 27, 28, 29, 30, 31, 32, 33, 34, 35, 36, 37, 38, 39, 40, 41, 42, 46, 47, 48, 49, 50, 51, 52] (by decide +kernel) (by decide +kernel)
set_option maxRecDepth 20000 in
theorem gX3_cheapestLoan_X0_change : GoodIn wsX3_cheapestLoan (wsV RX3 72 RX0 yX0_change wsX0_change) := goodIn_app (goodIn_of _ (by decide +kernel)) ggX3_cheapestLoan_X0_change
theorem dX3_cheapestLoan_0 : decode cX3_cheapestLoan 0 = .ok (.iconst (-1), 1) := by decide +kernel
theorem dX3_cheapestLoan_1 : decode cX3_cheapestLoan 1 = .ok (.istore_n 1, 1) := by decide +kernel
theorem dX3_cheapestLoan_2 : decode cX3_cheapestLoan 2 = .ok (.iconst 0, 1) := by decide +kernel
theorem dX3_cheapestLoan_3 : decode cX3_cheapestLoan 3 = .ok (.istore_n 2, 1) := by decide +kernel
theorem dX3_cheapestLoan_4 : decode cX3_cheapestLoan 4 = .ok (.iconst 0, 1) := by decide +kernel
theorem dX3_cheapestLoan_5 : decode cX3_cheapestLoan 5 = .ok (.istore_n 3, 1) := by decide +kernel
theorem dX3_cheapestLoan_6 : decode cX3_cheapestLoan 6 = .ok (.iload_n 3, 1) := by decide +kernel
theorem dX3_cheapestLoan_7 : decode cX3_cheapestLoan 7 = .ok (.bipush 9, 2) := by decide +kernel
theorem dX3_cheapestLoan_9 : decode cX3_cheapestLoan 9 = .ok (.if_icmp .ge 63, 3) := by decide +kernel
theorem dX3_cheapestLoan_12 : decode cX3_cheapestLoan 12 = .ok (.aload_n 0, 1) := by decide +kernel
theorem dX3_cheapestLoan_13 : decode cX3_cheapestLoan 13 = .ok (.getfield 12, 3) := by decide +kernel
theorem dX3_cheapestLoan_16 : decode cX3_cheapestLoan 16 = .ok (.getfield 69, 3) := by decide +kernel
theorem dX3_cheapestLoan_19 : decode cX3_cheapestLoan 19 = .ok (.iload_n 3, 1) := by decide +kernel
theorem dX3_cheapestLoan_20 : decode cX3_cheapestLoan 20 = .ok (.iaload, 1) := by decide +kernel
theorem dX3_cheapestLoan_21 : decode cX3_cheapestLoan 21 = .ok (.ifCond .eq 45, 3) := by decide +kernel
theorem dX3_cheapestLoan_24 : decode cX3_cheapestLoan 24 = .ok (.aload_n 0, 1) := by decide +kernel
theorem dX3_cheapestLoan_25 : decode cX3_cheapestLoan 25 = .ok (.getfield 12, 3) := by decide +kernel
theorem dX3_cheapestLoan_28 : decode cX3_cheapestLoan 28 = .ok (.iload_n 3, 1) := by decide +kernel
theorem dX3_cheapestLoan_29 : decode cX3_cheapestLoan 29 = .ok (.aload_n 0, 1) := by decide +kernel
theorem dX3_cheapestLoan_30 : decode cX3_cheapestLoan 30 = .ok (.getfield 12, 3) := by decide +kernel
theorem dX3_cheapestLoan_33 : decode cX3_cheapestLoan 33 = .ok (.getfield 69, 3) := by decide +kernel
theorem dX3_cheapestLoan_36 : decode cX3_cheapestLoan 36 = .ok (.iload_n 3, 1) := by decide +kernel
theorem dX3_cheapestLoan_37 : decode cX3_cheapestLoan 37 = .ok (.iaload, 1) := by decide +kernel
theorem dX3_cheapestLoan_38 : decode cX3_cheapestLoan 38 = .ok (.iconst 0, 1) := by decide +kernel
theorem dX3_cheapestLoan_39 : decode cX3_cheapestLoan 39 = .ok (.invokevirtual 72, 3) := by decide +kernel
theorem dX3_cheapestLoan_42 : decode cX3_cheapestLoan 42 = .ok (.istore 4, 2) := by decide +kernel
theorem dX3_cheapestLoan_44 : decode cX3_cheapestLoan 44 = .ok (.iload 4, 2) := by decide +kernel
theorem dX3_cheapestLoan_46 : decode cX3_cheapestLoan 46 = .ok (.iconst (-1), 1) := by decide +kernel
theorem dX3_cheapestLoan_47 : decode cX3_cheapestLoan 47 = .ok (.if_icmp .eq 19, 3) := by decide +kernel
theorem dX3_cheapestLoan_50 : decode cX3_cheapestLoan 50 = .ok (.iload_n 1, 1) := by decide +kernel
theorem dX3_cheapestLoan_51 : decode cX3_cheapestLoan 51 = .ok (.iconst (-1), 1) := by decide +kernel
theorem dX3_cheapestLoan_52 : decode cX3_cheapestLoan 52 = .ok (.if_icmp .eq 9, 3) := by decide +kernel
theorem dX3_cheapestLoan_55 : decode cX3_cheapestLoan 55 = .ok (.iload 4, 2) := by decide +kernel
theorem dX3_cheapestLoan_57 : decode cX3_cheapestLoan 57 = .ok (.iload_n 2, 1) := by decide +kernel
theorem dX3_cheapestLoan_58 : decode cX3_cheapestLoan 58 = .ok (.if_icmp .ge 8, 3) := by decide +kernel
theorem dX3_cheapestLoan_61 : decode cX3_cheapestLoan 61 = .ok (.iload_n 3, 1) := by decide +kernel
theorem dX3_cheapestLoan_62 : decode cX3_cheapestLoan 62 = .ok (.istore_n 1, 1) := by decide +kernel
theorem dX3_cheapestLoan_63 : decode cX3_cheapestLoan 63 = .ok (.iload 4, 2) := by decide +kernel
theorem dX3_cheapestLoan_65 : decode cX3_cheapestLoan 65 = .ok (.istore_n 2, 1) := by decide +kernel
theorem dX3_cheapestLoan_66 : decode cX3_cheapestLoan 66 = .ok (.iinc 3 1, 3) := by decide +kernel
theorem dX3_cheapestLoan_69 : decode cX3_cheapestLoan 69 = .ok (.goto (-63), 3) := by decide +kernel
theorem dX3_cheapestLoan_72 : decode cX3_cheapestLoan 72 = .ok (.iload_n 1, 1) := by decide +kernel
theorem dX3_cheapestLoan_73 : decode cX3_cheapestLoan 73 = .ok (.ireturn, 1) := by decide +kernel
set_option maxRecDepth 20000 in
theorem ggX3_looseness_X0_reach : GoodIn wsX3_looseness wsX0_reach := goodIn_r _ [7, 8, 9, 10, 6, 11, 12, 13, 14, 15, 16, 17, 18, 19, 20, 21, 22, 23, 24, 25, 26, 27, 31, 32, 33, 34, 35, 36, 37] (by decide +kernel) (by decide +kernel)
set_option maxRecDepth 20000 in
theorem gX3_looseness_X0_reach : GoodIn wsX3_looseness (wsV RX3 139 RX0 yX0_reach wsX0_reach) := goodIn_app (goodIn_of _ (by decide +kernel)) ggX3_looseness_X0_reach
theorem dX3_looseness_0 : decode cX3_looseness 0 = .ok (.iconst 0, 1) := by decide +kernel
theorem dX3_looseness_1 : decode cX3_looseness 1 = .ok (.istore_n 1, 1) := by decide +kernel
theorem dX3_looseness_2 : decode cX3_looseness 2 = .ok (.iconst 0, 1) := by decide +kernel
theorem dX3_looseness_3 : decode cX3_looseness 3 = .ok (.istore_n 2, 1) := by decide +kernel
theorem dX3_looseness_4 : decode cX3_looseness 4 = .ok (.iload_n 2, 1) := by decide +kernel
theorem dX3_looseness_5 : decode cX3_looseness 5 = .ok (.bipush 9, 2) := by decide +kernel
theorem dX3_looseness_7 : decode cX3_looseness 7 = .ok (.if_icmp .ge 20, 3) := by decide +kernel
theorem dX3_looseness_10 : decode cX3_looseness 10 = .ok (.iload_n 1, 1) := by decide +kernel
theorem dX3_looseness_11 : decode cX3_looseness 11 = .ok (.aload_n 0, 1) := by decide +kernel
theorem dX3_looseness_12 : decode cX3_looseness 12 = .ok (.getfield 12, 3) := by decide +kernel
theorem dX3_looseness_15 : decode cX3_looseness 15 = .ok (.iload_n 2, 1) := by decide +kernel
theorem dX3_looseness_16 : decode cX3_looseness 16 = .ok (.invokevirtual 139, 3) := by decide +kernel
theorem dX3_looseness_19 : decode cX3_looseness 19 = .ok (.iadd, 1) := by decide +kernel
theorem dX3_looseness_20 : decode cX3_looseness 20 = .ok (.istore_n 1, 1) := by decide +kernel
theorem dX3_looseness_21 : decode cX3_looseness 21 = .ok (.iinc 2 1, 3) := by decide +kernel
theorem dX3_looseness_24 : decode cX3_looseness 24 = .ok (.goto (-20), 3) := by decide +kernel
theorem dX3_looseness_27 : decode cX3_looseness 27 = .ok (.iload_n 1, 1) := by decide +kernel
theorem dX3_looseness_28 : decode cX3_looseness 28 = .ok (.i2d, 1) := by decide +kernel
theorem dX3_looseness_29 : decode cX3_looseness 29 = .ok (.ldc2_w 171, 3) := by decide +kernel
theorem dX3_looseness_32 : decode cX3_looseness 32 = .ok (.ddiv, 1) := by decide +kernel
theorem dX3_looseness_33 : decode cX3_looseness 33 = .ok (.dreturn, 1) := by decide +kernel
theorem dX3_checkRod_0 : decode cX3_checkRod 0 = .ok (.iload_n 0, 1) := by decide +kernel
theorem dX3_checkRod_1 : decode cX3_checkRod 1 = .ok (.ifCond .lt 9, 3) := by decide +kernel
theorem dX3_checkRod_4 : decode cX3_checkRod 4 = .ok (.iload_n 0, 1) := by decide +kernel
theorem dX3_checkRod_5 : decode cX3_checkRod 5 = .ok (.bipush 9, 2) := by decide +kernel
theorem dX3_checkRod_7 : decode cX3_checkRod 7 = .ok (.if_icmp .lt 13, 3) := by decide +kernel
theorem dX3_checkRod_10 : decode cX3_checkRod 10 = .ok (.new 210, 3) := by decide +kernel
theorem dX3_checkRod_13 : decode cX3_checkRod 13 = .ok (.dup, 1) := by decide +kernel
theorem dX3_checkRod_14 : decode cX3_checkRod 14 = .ok (.ldc 212, 2) := by decide +kernel
theorem dX3_checkRod_16 : decode cX3_checkRod 16 = .ok (.invokespecial 214, 3) := by decide +kernel
theorem dX3_checkRod_19 : decode cX3_checkRod 19 = .ok (.athrow, 1) := by decide +kernel
theorem dX3_checkRod_20 : decode cX3_checkRod 20 = .ok (.return_, 1) := by decide +kernel
theorem dX3_checkRange_0 : decode cX3_checkRange 0 = .ok (.iload_n 0, 1) := by decide +kernel
theorem dX3_checkRange_1 : decode cX3_checkRange 1 = .ok (.iload_n 1, 1) := by decide +kernel
theorem dX3_checkRange_2 : decode cX3_checkRange 2 = .ok (.if_icmp .lt 8, 3) := by decide +kernel
theorem dX3_checkRange_5 : decode cX3_checkRange 5 = .ok (.iload_n 0, 1) := by decide +kernel
theorem dX3_checkRange_6 : decode cX3_checkRange 6 = .ok (.iload_n 2, 1) := by decide +kernel
theorem dX3_checkRange_7 : decode cX3_checkRange 7 = .ok (.if_icmp .le 13, 3) := by decide +kernel
theorem dX3_checkRange_10 : decode cX3_checkRange 10 = .ok (.new 101, 3) := by decide +kernel
theorem dX3_checkRange_13 : decode cX3_checkRange 13 = .ok (.dup, 1) := by decide +kernel
theorem dX3_checkRange_14 : decode cX3_checkRange 14 = .ok (.ldc 215, 2) := by decide +kernel
theorem dX3_checkRange_16 : decode cX3_checkRange 16 = .ok (.invokespecial 105, 3) := by decide +kernel
theorem dX3_checkRange_19 : decode cX3_checkRange 19 = .ok (.athrow, 1) := by decide +kernel
theorem dX3_checkRange_20 : decode cX3_checkRange 20 = .ok (.return_, 1) := by decide +kernel
set_option maxRecDepth 20000 in
theorem ggX3_changeOrThrow_X0_change : GoodIn wsX3_changeOrThrow wsX0_change := goodIn_r _ [9, 10, 11, 12, 8, 13, 14, 15, 16, 17, 18, 19, 20, 21, 22, 23, 24, 25, 26, 27, 28, 29, 30, 31, 32, 33, 34, 35, 36, 37, 38, 39, 40, 41, 42, 43, 44, 60, 61, 62, 63, 64, 65, 66] (by decide +kernel) (by decide +kernel)
set_option maxRecDepth 20000 in
theorem gX3_changeOrThrow_X0_change : GoodIn wsX3_changeOrThrow (wsV RX3 72 RX0 yX0_change wsX0_change) := goodIn_app (goodIn_of _ (by decide +kernel)) ggX3_changeOrThrow_X0_change
set_option maxRecDepth 20000 in
theorem ggX3_changeOrThrow_X1_keep : GoodIn wsX3_changeOrThrow wsX1_keep := goodIn_r _ [49, 50, 51, 52, 53, 54, 55, 8, 56, 14, 15, 28, 42, 33, 44, 43, 67, 68, 69, 60, 61, 62, 63, 64, 65, 66] (by decide +kernel) (by decide +kernel)
set_option maxRecDepth 20000 in
theorem gX3_changeOrThrow_X1_keep : GoodIn wsX3_changeOrThrow (wsV RX3 49 RX1 yX1_keep wsX1_keep) := goodIn_app (goodIn_of _ (by decide +kernel)) ggX3_changeOrThrow_X1_keep
theorem dX3_changeOrThrow_0 : decode cX3_changeOrThrow 0 = .ok (.aload_n 0, 1) := by decide +kernel
theorem dX3_changeOrThrow_1 : decode cX3_changeOrThrow 1 = .ok (.getfield 12, 3) := by decide +kernel
theorem dX3_changeOrThrow_4 : decode cX3_changeOrThrow 4 = .ok (.iload_n 1, 1) := by decide +kernel
theorem dX3_changeOrThrow_5 : decode cX3_changeOrThrow 5 = .ok (.iload_n 2, 1) := by decide +kernel
theorem dX3_changeOrThrow_6 : decode cX3_changeOrThrow 6 = .ok (.iconst 0, 1) := by decide +kernel
theorem dX3_changeOrThrow_7 : decode cX3_changeOrThrow 7 = .ok (.invokevirtual 72, 3) := by decide +kernel
theorem dX3_changeOrThrow_10 : decode cX3_changeOrThrow 10 = .ok (.iconst (-1), 1) := by decide +kernel
theorem dX3_changeOrThrow_11 : decode cX3_changeOrThrow 11 = .ok (.if_icmp .ne 13, 3) := by decide +kernel
theorem dX3_changeOrThrow_14 : decode cX3_changeOrThrow 14 = .ok (.new 42, 3) := by decide +kernel
theorem dX3_changeOrThrow_17 : decode cX3_changeOrThrow 17 = .ok (.dup, 1) := by decide +kernel
theorem dX3_changeOrThrow_18 : decode cX3_changeOrThrow 18 = .ok (.ldc 217, 2) := by decide +kernel
theorem dX3_changeOrThrow_20 : decode cX3_changeOrThrow 20 = .ok (.invokespecial 46, 3) := by decide +kernel
theorem dX3_changeOrThrow_23 : decode cX3_changeOrThrow 23 = .ok (.athrow, 1) := by decide +kernel
theorem dX3_changeOrThrow_24 : decode cX3_changeOrThrow 24 = .ok (.aload_n 0, 1) := by decide +kernel
theorem dX3_changeOrThrow_25 : decode cX3_changeOrThrow 25 = .ok (.getfield 19, 3) := by decide +kernel
theorem dX3_changeOrThrow_28 : decode cX3_changeOrThrow 28 = .ok (.aload_n 0, 1) := by decide +kernel
theorem dX3_changeOrThrow_29 : decode cX3_changeOrThrow 29 = .ok (.getfield 12, 3) := by decide +kernel
theorem dX3_changeOrThrow_32 : decode cX3_changeOrThrow 32 = .ok (.invokevirtual 49, 3) := by decide +kernel
theorem dX3_changeOrThrow_35 : decode cX3_changeOrThrow 35 = .ok (.aload_n 0, 1) := by decide +kernel
theorem dX3_changeOrThrow_36 : decode cX3_changeOrThrow 36 = .ok (.getfield 12, 3) := by decide +kernel
theorem dX3_changeOrThrow_39 : decode cX3_changeOrThrow 39 = .ok (.iload_n 1, 1) := by decide +kernel
theorem dX3_changeOrThrow_40 : decode cX3_changeOrThrow 40 = .ok (.iload_n 2, 1) := by decide +kernel
theorem dX3_changeOrThrow_41 : decode cX3_changeOrThrow 41 = .ok (.iconst 1, 1) := by decide +kernel
theorem dX3_changeOrThrow_42 : decode cX3_changeOrThrow 42 = .ok (.invokevirtual 72, 3) := by decide +kernel
theorem dX3_changeOrThrow_45 : decode cX3_changeOrThrow 45 = .ok (.ireturn, 1) := by decide +kernel
theorem dJ9_floorMod_7cf53_0 : decode cJ9_floorMod_7cf53 0 = .ok (.iload_n 0, 1) := by decide +kernel
theorem dJ9_floorMod_7cf53_1 : decode cJ9_floorMod_7cf53 1 = .ok (.iload_n 1, 1) := by decide +kernel
theorem dJ9_floorMod_7cf53_2 : decode cJ9_floorMod_7cf53 2 = .ok (.irem, 1) := by decide +kernel
theorem dJ9_floorMod_7cf53_3 : decode cJ9_floorMod_7cf53 3 = .ok (.istore_n 2, 1) := by decide +kernel
theorem dJ9_floorMod_7cf53_4 : decode cJ9_floorMod_7cf53 4 = .ok (.iload_n 0, 1) := by decide +kernel
theorem dJ9_floorMod_7cf53_5 : decode cJ9_floorMod_7cf53 5 = .ok (.iload_n 1, 1) := by decide +kernel
theorem dJ9_floorMod_7cf53_6 : decode cJ9_floorMod_7cf53 6 = .ok (.ixor, 1) := by decide +kernel
theorem dJ9_floorMod_7cf53_7 : decode cJ9_floorMod_7cf53 7 = .ok (.ifCond .ge 11, 3) := by decide +kernel
theorem dJ9_floorMod_7cf53_10 : decode cJ9_floorMod_7cf53 10 = .ok (.iload_n 2, 1) := by decide +kernel
theorem dJ9_floorMod_7cf53_11 : decode cJ9_floorMod_7cf53 11 = .ok (.ifCond .eq 7, 3) := by decide +kernel
theorem dJ9_floorMod_7cf53_14 : decode cJ9_floorMod_7cf53 14 = .ok (.iload_n 2, 1) := by decide +kernel
theorem dJ9_floorMod_7cf53_15 : decode cJ9_floorMod_7cf53 15 = .ok (.iload_n 1, 1) := by decide +kernel
theorem dJ9_floorMod_7cf53_16 : decode cJ9_floorMod_7cf53 16 = .ok (.iadd, 1) := by decide +kernel
theorem dJ9_floorMod_7cf53_17 : decode cJ9_floorMod_7cf53 17 = .ok (.ireturn, 1) := by decide +kernel
theorem dJ9_floorMod_7cf53_18 : decode cJ9_floorMod_7cf53 18 = .ok (.iload_n 2, 1) := by decide +kernel
theorem dJ9_floorMod_7cf53_19 : decode cJ9_floorMod_7cf53 19 = .ok (.ireturn, 1) := by decide +kernel
theorem dJ9_abs_0f7a4_0 : decode cJ9_abs_0f7a4 0 = .ok (.iload_n 0, 1) := by decide +kernel
theorem dJ9_abs_0f7a4_1 : decode cJ9_abs_0f7a4 1 = .ok (.ifCond .ge 8, 3) := by decide +kernel
theorem dJ9_abs_0f7a4_4 : decode cJ9_abs_0f7a4 4 = .ok (.iload_n 0, 1) := by decide +kernel
theorem dJ9_abs_0f7a4_5 : decode cJ9_abs_0f7a4 5 = .ok (.ineg, 1) := by decide +kernel
theorem dJ9_abs_0f7a4_6 : decode cJ9_abs_0f7a4 6 = .ok (.goto 4, 3) := by decide +kernel
theorem dJ9_abs_0f7a4_9 : decode cJ9_abs_0f7a4 9 = .ok (.iload_n 0, 1) := by decide +kernel
theorem dJ9_abs_0f7a4_10 : decode cJ9_abs_0f7a4 10 = .ok (.ireturn, 1) := by decide +kernel
theorem dL_cell_0 : decode cL_cell 0 = .ok (.iload_n 1, 1) := by decide +kernel
theorem dL_cell_1 : decode cL_cell 1 = .ok (.aload_n 0, 1) := by decide +kernel
theorem dL_cell_2 : decode cL_cell 2 = .ok (.arraylength, 1) := by decide +kernel
theorem dL_cell_3 : decode cL_cell 3 = .ok (.if_icmp .ge 9, 3) := by decide +kernel
theorem dL_cell_6 : decode cL_cell 6 = .ok (.aload_n 0, 1) := by decide +kernel
theorem dL_cell_7 : decode cL_cell 7 = .ok (.iload_n 1, 1) := by decide +kernel
theorem dL_cell_8 : decode cL_cell 8 = .ok (.iaload, 1) := by decide +kernel
theorem dL_cell_9 : decode cL_cell 9 = .ok (.goto 15, 3) := by decide +kernel
theorem dL_cell_12 : decode cL_cell 12 = .ok (.sipush 7919, 3) := by decide +kernel
theorem dL_cell_15 : decode cL_cell 15 = .ok (.iload_n 1, 1) := by decide +kernel
theorem dL_cell_16 : decode cL_cell 16 = .ok (.iconst 3, 1) := by decide +kernel
theorem dL_cell_17 : decode cL_cell 17 = .ok (.iadd, 1) := by decide +kernel
theorem dL_cell_18 : decode cL_cell 18 = .ok (.imul, 1) := by decide +kernel
theorem dL_cell_19 : decode cL_cell 19 = .ok (.iload_n 1, 1) := by decide +kernel
theorem dL_cell_20 : decode cL_cell 20 = .ok (.bipush 11, 2) := by decide +kernel
theorem dL_cell_22 : decode cL_cell 22 = .ok (.iadd, 1) := by decide +kernel
theorem dL_cell_23 : decode cL_cell 23 = .ok (.imul, 1) := by decide +kernel
theorem dL_cell_24 : decode cL_cell 24 = .ok (.ireturn, 1) := by decide +kernel
theorem dL_low_0 : decode cL_low 0 = .ok (.iload_n 0, 1) := by decide +kernel
theorem dL_low_1 : decode cL_low 1 = .ok (.ldc 7, 2) := by decide +kernel
theorem dL_low_3 : decode cL_low 3 = .ok (.iand, 1) := by decide +kernel
theorem dL_low_4 : decode cL_low 4 = .ok (.iload_n 1, 1) := by decide +kernel
theorem dL_low_5 : decode cL_low 5 = .ok (.irem, 1) := by decide +kernel
theorem dL_low_6 : decode cL_low 6 = .ok (.ireturn, 1) := by decide +kernel
set_option maxRecDepth 20000 in
theorem ggL_does_L_low : GoodIn wsL_does wsL_low := goodIn_r _ [4, 5] (by decide +kernel) (by decide +kernel)
set_option maxRecDepth 20000 in
theorem gL_does_L_low : GoodIn wsL_does (va_wsS RL 8 yL_low wsL_low) := goodIn_app (goodIn_of _ (by decide +kernel)) ggL_does_L_low
set_option maxRecDepth 20000 in
theorem ggL_does_X3_rod : GoodIn wsL_does wsX3_rod := goodIn_ca (goodIn_ca (goodIn_r _ [10, 11, 12, 13, 14, 15, 16, 17, 18, 19, 9, 20, 21, 22, 23, 24, 25, 26, 27, 28, 29, 30, 31, 32, 33, 34, 35, 36, 37, 38, 39, 40, 41, 42, 43, 44, 45, 46, 47, 48, 49, 50, 51, 52, 53, 54, 55, 56, 136, 137, 138, 139, 140, 141, 142, 143, 144, 145] (by decide +kernel) (by decide +kernel)) (goodIn_sub (fun _ h => List.mem_cons_of_mem _ (List.mem_append_left _ (List.mem_append_left _ (List.mem_append_right _ h)))) (by decide +kernel))) (goodIn_sub (fun _ h => List.mem_cons_of_mem _ (List.mem_append_left _ (List.mem_append_right _ h))) (by decide +kernel))
set_option maxRecDepth 20000 in
theorem gL_does_X3_rod : GoodIn wsL_does (wsV RL 14 RX3 yX3_rod wsX3_rod) := goodIn_app (goodIn_of _ (by decide +kernel)) ggL_does_X3_rod
set_option maxRecDepth 20000 in
theorem ggL_does_X3_move : GoodIn wsL_does wsX3_move := goodIn_ca (goodIn_ca (goodIn_ca (goodIn_r _ [60, 61, 62, 11, 63, 18, 19, 9, 20, 21, 22, 23, 24, 25, 26, 27, 64, 44, 45, 31, 46, 33, 47, 48, 49, 50, 34, 51, 65, 66, 67, 68, 69, 70, 71, 72, 73, 74, 75, 76, 77, 56, 78, 79, 80, 53, 54, 55, 136, 137, 138, 139, 140, 141, 142, 143, 144, 145, 146, 147, 148] (by decide +kernel) (by decide +kernel)) (goodIn_sub (fun _ h => List.mem_cons_of_mem _ (List.mem_append_right _ h)) (by decide +kernel))) (goodIn_sub (fun _ h => List.mem_cons_of_mem _ (List.mem_append_left _ (List.mem_append_left _ (List.mem_append_right _ h)))) (by decide +kernel))) (goodIn_sub (fun _ h => List.mem_cons_of_mem _ (List.mem_append_left _ (List.mem_append_right _ h))) (by decide +kernel))
set_option maxRecDepth 20000 in
theorem gL_does_X3_move : GoodIn wsL_does (wsV RL 19 RX3 yX3_move wsX3_move) := goodIn_app (goodIn_of _ (by decide +kernel)) ggL_does_X3_move
set_option maxRecDepth 20000 in
theorem ggL_does_X3_stick : GoodIn wsL_does wsX3_stick := goodIn_ca (goodIn_ca (goodIn_r _ [84, 63, 11, 15, 18, 19, 9, 20, 21, 22, 23, 24, 25, 26, 27, 65, 66, 67, 68, 69, 70, 71, 72, 73, 74, 75, 31, 76, 33, 34, 51, 77, 56, 78, 79, 136, 137, 138, 139, 140, 141, 142, 143, 144, 145, 146, 147, 148] (by decide +kernel) (by decide +kernel)) (goodIn_sub (fun _ h => List.mem_cons_of_mem _ (List.mem_append_left _ (List.mem_append_left _ (List.mem_append_right _ h)))) (by decide +kernel))) (goodIn_sub (fun _ h => List.mem_cons_of_mem _ (List.mem_append_left _ (List.mem_append_right _ h))) (by decide +kernel))
set_option maxRecDepth 20000 in
theorem gL_does_X3_stick : GoodIn wsL_does (wsV RL 23 RX3 yX3_stick wsX3_stick) := goodIn_app (goodIn_of _ (by decide +kernel)) ggL_does_X3_stick
set_option maxRecDepth 20000 in
theorem ggL_does_X3_set : GoodIn wsL_does wsX3_set := goodIn_ca (goodIn_r _ [88, 63, 11, 89, 23, 24, 9, 25, 26, 27, 65, 66, 67, 68, 69, 70, 71, 72, 73, 74, 75, 31, 76, 33, 34, 51, 77, 56, 78, 79, 136, 137, 138, 139, 140, 141, 142, 143, 144, 145, 146, 147, 148] (by decide +kernel) (by decide +kernel)) (goodIn_sub (fun _ h => List.mem_cons_of_mem _ (List.mem_append_left _ (List.mem_append_right _ h))) (by decide +kernel))
set_option maxRecDepth 20000 in
theorem gL_does_X3_set : GoodIn wsL_does (wsV RL 26 RX3 yX3_set wsX3_set) := goodIn_app (goodIn_of _ (by decide +kernel)) ggL_does_X3_set
set_option maxRecDepth 20000 in
theorem ggL_does_X3_tidy : GoodIn wsL_does wsX3_tidy := goodIn_r _ [93, 63, 11, 65, 66, 67, 68, 69, 70, 71, 72, 73, 74, 75, 31, 76, 33, 34, 51, 77, 56, 78, 79, 94, 95, 96, 97, 98, 99, 100, 101, 102, 29, 30, 32, 39, 40, 41, 42, 43, 44, 45, 46, 47, 48, 49, 50, 52, 53, 54, 55, 103, 104, 105, 106, 107, 108, 109, 110, 111, 112, 113, 114, 136, 137, 138, 146, 147, 148, 139, 140, 141, 142, 143, 144, 145] (by decide +kernel) (by decide +kernel)
set_option maxRecDepth 20000 in
theorem gL_does_X3_tidy : GoodIn wsL_does (wsV RL 30 RX3 yX3_tidy wsX3_tidy) := goodIn_app (goodIn_of _ (by decide +kernel)) ggL_does_X3_tidy
set_option maxRecDepth 20000 in
theorem ggL_does_X3_pay : GoodIn wsL_does wsX3_pay := goodIn_ca (goodIn_ca (goodIn_r _ [118, 61, 62, 11, 14, 63, 18, 19, 9, 20, 21, 22, 119, 99, 100, 31, 101, 102, 29, 30, 32, 33, 34, 39, 40, 41, 42, 43, 44, 45, 46, 47, 48, 49, 50, 51, 52, 53, 54, 55, 56, 103, 104, 105, 106, 107, 108, 109, 110, 77, 79, 78, 65, 66, 67, 68, 69, 70, 71, 72, 73, 74, 75, 76, 94, 95, 96, 97, 98, 136, 137, 138, 139, 140, 141, 142, 143, 144, 145, 146, 147, 148] (by decide +kernel) (by decide +kernel)) (goodIn_sub (fun _ h => List.mem_cons_of_mem _ (List.mem_append_right _ h)) (by decide +kernel))) (goodIn_sub (fun _ h => List.mem_cons_of_mem _ (List.mem_append_left _ (List.mem_append_left _ (List.mem_append_right _ h)))) (by decide +kernel))
set_option maxRecDepth 20000 in
theorem gL_does_X3_pay : GoodIn wsL_does (wsV RL 34 RX3 yX3_pay wsX3_pay) := goodIn_app (goodIn_of _ (by decide +kernel)) ggL_does_X3_pay
set_option maxRecDepth 20000 in
theorem ggL_does_X3_ifAdded : GoodIn wsL_does wsX3_ifAdded := goodIn_ca (goodIn_ca (goodIn_r _ [123, 11, 18, 19, 9, 20, 21, 22, 23, 24, 25, 26, 27, 119, 99, 100, 31, 101, 102, 29, 30, 32, 33, 34, 39, 40, 41, 42, 43, 44, 45, 46, 47, 48, 49, 50, 51, 52, 53, 54, 55, 56, 103, 104, 105, 106, 107, 108, 109, 110, 77, 79, 78, 136, 137, 138, 139, 140, 141, 142, 143, 144, 145] (by decide +kernel) (by decide +kernel)) (goodIn_sub (fun _ h => List.mem_cons_of_mem _ (List.mem_append_left _ (List.mem_append_left _ (List.mem_append_right _ h)))) (by decide +kernel))) (goodIn_sub (fun _ h => List.mem_cons_of_mem _ (List.mem_append_left _ (List.mem_append_right _ h))) (by decide +kernel))
set_option maxRecDepth 20000 in
theorem gL_does_X3_ifAdded : GoodIn wsL_does (wsV RL 37 RX3 yX3_ifAdded wsX3_ifAdded) := goodIn_app (goodIn_of _ (by decide +kernel)) ggL_does_X3_ifAdded
set_option maxRecDepth 20000 in
theorem ggL_does_X3_add : GoodIn wsL_does wsX3_add := goodIn_ca (goodIn_ca (goodIn_ca (goodIn_r _ [127, 18, 19, 9, 20, 21, 22, 23, 24, 25, 26, 27, 128, 129, 130, 131, 61, 62, 11, 63, 119, 99, 100, 31, 101, 102, 29, 30, 32, 33, 34, 39, 40, 41, 42, 43, 44, 45, 46, 47, 48, 49, 50, 51, 52, 53, 54, 55, 56, 103, 104, 105, 106, 107, 108, 109, 110, 77, 79, 78, 65, 66, 67, 68, 69, 70, 71, 72, 73, 74, 75, 76, 136, 137, 138, 139, 140, 141, 142, 143, 144, 145, 146, 147, 148] (by decide +kernel) (by decide +kernel)) (goodIn_sub (fun _ h => List.mem_cons_of_mem _ (List.mem_append_left _ (List.mem_append_left _ (List.mem_append_right _ h)))) (by decide +kernel))) (goodIn_sub (fun _ h => List.mem_cons_of_mem _ (List.mem_append_left _ (List.mem_append_right _ h))) (by decide +kernel))) (goodIn_sub (fun _ h => List.mem_cons_of_mem _ (List.mem_append_right _ h)) (by decide +kernel))
set_option maxRecDepth 20000 in
theorem gL_does_X3_add : GoodIn wsL_does (wsV RL 40 RX3 yX3_add wsX3_add) := goodIn_app (goodIn_of _ (by decide +kernel)) ggL_does_X3_add
set_option maxRecDepth 20000 in
theorem ggL_does_X3_less : GoodIn wsL_does wsX3_less := goodIn_ca (goodIn_ca (goodIn_ca (goodIn_r _ [135, 18, 19, 9, 20, 21, 22, 23, 24, 25, 26, 27, 128, 129, 130, 131, 61, 62, 11, 63, 119, 99, 100, 31, 101, 102, 29, 30, 32, 33, 34, 39, 40, 41, 42, 43, 44, 45, 46, 47, 48, 49, 50, 51, 52, 53, 54, 55, 56, 103, 104, 105, 106, 107, 108, 109, 110, 77, 79, 78, 65, 66, 67, 68, 69, 70, 71, 72, 73, 74, 75, 76, 136, 137, 138, 139, 140, 141, 142, 143, 144, 145, 146, 147, 148] (by decide +kernel) (by decide +kernel)) (goodIn_sub (fun _ h => List.mem_cons_of_mem _ (List.mem_append_left _ (List.mem_append_left _ (List.mem_append_right _ h)))) (by decide +kernel))) (goodIn_sub (fun _ h => List.mem_cons_of_mem _ (List.mem_append_left _ (List.mem_append_right _ h))) (by decide +kernel))) (goodIn_sub (fun _ h => List.mem_cons_of_mem _ (List.mem_append_right _ h)) (by decide +kernel))
set_option maxRecDepth 20000 in
theorem gL_does_X3_less : GoodIn wsL_does (wsV RL 43 RX3 yX3_less wsX3_less) := goodIn_app (goodIn_of _ (by decide +kernel)) ggL_does_X3_less
theorem dL_does_0 : decode cL_does 0 = .ok (.iload_n 1, 1) := by decide +kernel
theorem dL_does_1 : decode cL_does 1 = .ok (.iconst 4, 1) := by decide +kernel
theorem dL_does_2 : decode cL_does 2 = .ok (.ishr, 1) := by decide +kernel
theorem dL_does_3 : decode cL_does 3 = .ok (.iload_n 1, 1) := by decide +kernel
theorem dL_does_4 : decode cL_does 4 = .ok (.bipush 14, 2) := by decide +kernel
theorem dL_does_6 : decode cL_does 6 = .ok (.ishr, 1) := by decide +kernel
theorem dL_does_7 : decode cL_does 7 = .ok (.iconst 1, 1) := by decide +kernel
theorem dL_does_8 : decode cL_does 8 = .ok (.iand, 1) := by decide +kernel
theorem dL_does_9 : decode cL_does 9 = .ok (.ifCond .ne 7, 3) := by decide +kernel
theorem dL_does_12 : decode cL_does 12 = .ok (.iconst 4, 1) := by decide +kernel
theorem dL_does_13 : decode cL_does 13 = .ok (.goto 5, 3) := by decide +kernel
theorem dL_does_16 : decode cL_does 16 = .ok (.bipush 9, 2) := by decide +kernel
theorem dL_does_18 : decode cL_does 18 = .ok (.invokestatic 8, 3) := by decide +kernel
theorem dL_does_21 : decode cL_does 21 = .ok (.istore_n 2, 1) := by decide +kernel
theorem dL_does_22 : decode cL_does 22 = .ok (.iconst 1, 1) := by decide +kernel
theorem dL_does_23 : decode cL_does 23 = .ok (.iload_n 1, 1) := by decide +kernel
theorem dL_does_24 : decode cL_does 24 = .ok (.bipush 8, 2) := by decide +kernel
theorem dL_does_26 : decode cL_does 26 = .ok (.ishr, 1) := by decide +kernel
theorem dL_does_27 : decode cL_does 27 = .ok (.bipush 9, 2) := by decide +kernel
theorem dL_does_29 : decode cL_does 29 = .ok (.invokestatic 8, 3) := by decide +kernel
theorem dL_does_32 : decode cL_does 32 = .ok (.iadd, 1) := by decide +kernel
theorem dL_does_33 : decode cL_does 33 = .ok (.istore_n 3, 1) := by decide +kernel
theorem dL_does_34 : decode cL_does 34 = .ok (.iload_n 1, 1) := by decide +kernel
theorem dL_does_35 : decode cL_does 35 = .ok (.bipush 15, 2) := by decide +kernel
theorem dL_does_37 : decode cL_does 37 = .ok (.iand, 1) := by decide +kernel
theorem dL_does_38 : decode cL_does 38 = .ok (.tableswitch 204 0 11 #[62, 62, 131, 131, 131, 145, 158, 163, 184, 184, 184, 184], 62) := by decide +kernel
theorem dL_does_100 : decode cL_does 100 = .ok (.aload_n 0, 1) := by decide +kernel
theorem dL_does_101 : decode cL_does 101 = .ok (.iload_n 2, 1) := by decide +kernel
theorem dL_does_102 : decode cL_does 102 = .ok (.iconst 4, 1) := by decide +kernel
theorem dL_does_103 : decode cL_does 103 = .ok (.invokevirtual 14, 3) := by decide +kernel
theorem dL_does_106 : decode cL_does 106 = .ok (.iconst 1, 1) := by decide +kernel
theorem dL_does_107 : decode cL_does 107 = .ok (.iand, 1) := by decide +kernel
theorem dL_does_108 : decode cL_does 108 = .ok (.iconst 1, 1) := by decide +kernel
theorem dL_does_109 : decode cL_does 109 = .ok (.if_icmp .ne 12, 3) := by decide +kernel
theorem dL_does_112 : decode cL_does 112 = .ok (.aload_n 0, 1) := by decide +kernel
theorem dL_does_113 : decode cL_does 113 = .ok (.iload_n 2, 1) := by decide +kernel
theorem dL_does_114 : decode cL_does 114 = .ok (.iconst 0, 1) := by decide +kernel
theorem dL_does_115 : decode cL_does 115 = .ok (.invokevirtual 14, 3) := by decide +kernel
theorem dL_does_118 : decode cL_does 118 = .ok (.goto 11, 3) := by decide +kernel
theorem dL_does_121 : decode cL_does 121 = .ok (.iload_n 1, 1) := by decide +kernel
theorem dL_does_122 : decode cL_does 122 = .ok (.bipush 7, 2) := by decide +kernel
theorem dL_does_124 : decode cL_does 124 = .ok (.ishr, 1) := by decide +kernel
theorem dL_does_125 : decode cL_does 125 = .ok (.iconst 3, 1) := by decide +kernel
theorem dL_does_126 : decode cL_does 126 = .ok (.invokestatic 8, 3) := by decide +kernel
theorem dL_does_129 : decode cL_does 129 = .ok (.istore 4, 2) := by decide +kernel
theorem dL_does_131 : decode cL_does 131 = .ok (.aload_n 0, 1) := by decide +kernel
theorem dL_does_132 : decode cL_does 132 = .ok (.iload_n 2, 1) := by decide +kernel
theorem dL_does_133 : decode cL_does 133 = .ok (.iload 4, 2) := by decide +kernel
theorem dL_does_135 : decode cL_does 135 = .ok (.aload_n 0, 1) := by decide +kernel
theorem dL_does_136 : decode cL_does 136 = .ok (.iload_n 2, 1) := by decide +kernel
theorem dL_does_137 : decode cL_does 137 = .ok (.iconst 4, 1) := by decide +kernel
theorem dL_does_138 : decode cL_does 138 = .ok (.invokevirtual 14, 3) := by decide +kernel
theorem dL_does_141 : decode cL_does 141 = .ok (.iconst 2, 1) := by decide +kernel
theorem dL_does_142 : decode cL_does 142 = .ok (.iand, 1) := by decide +kernel
theorem dL_does_143 : decode cL_does 143 = .ok (.iconst 2, 1) := by decide +kernel
theorem dL_does_144 : decode cL_does 144 = .ok (.if_icmp .ne 12, 3) := by decide +kernel
theorem dL_does_147 : decode cL_does 147 = .ok (.aload_n 0, 1) := by decide +kernel
theorem dL_does_148 : decode cL_does 148 = .ok (.iload_n 2, 1) := by decide +kernel
theorem dL_does_149 : decode cL_does 149 = .ok (.iconst 1, 1) := by decide +kernel
theorem dL_does_150 : decode cL_does 150 = .ok (.invokevirtual 14, 3) := by decide +kernel
theorem dL_does_153 : decode cL_does 153 = .ok (.goto 12, 3) := by decide +kernel
theorem dL_does_156 : decode cL_does 156 = .ok (.iload_n 1, 1) := by decide +kernel
theorem dL_does_157 : decode cL_does 157 = .ok (.bipush 9, 2) := by decide +kernel
theorem dL_does_159 : decode cL_does 159 = .ok (.ishr, 1) := by decide +kernel
theorem dL_does_160 : decode cL_does 160 = .ok (.bipush 6, 2) := by decide +kernel
theorem dL_does_162 : decode cL_does 162 = .ok (.invokestatic 8, 3) := by decide +kernel
theorem dL_does_165 : decode cL_does 165 = .ok (.invokevirtual 19, 3) := by decide +kernel
theorem dL_does_168 : decode cL_does 168 = .ok (.ireturn, 1) := by decide +kernel
theorem dL_does_169 : decode cL_does 169 = .ok (.aload_n 0, 1) := by decide +kernel
theorem dL_does_170 : decode cL_does 170 = .ok (.iload_n 2, 1) := by decide +kernel
theorem dL_does_171 : decode cL_does 171 = .ok (.iload_n 1, 1) := by decide +kernel
theorem dL_does_172 : decode cL_does 172 = .ok (.bipush 8, 2) := by decide +kernel
theorem dL_does_174 : decode cL_does 174 = .ok (.ishr, 1) := by decide +kernel
theorem dL_does_175 : decode cL_does 175 = .ok (.iconst 4, 1) := by decide +kernel
theorem dL_does_176 : decode cL_does 176 = .ok (.invokestatic 8, 3) := by decide +kernel
theorem dL_does_179 : decode cL_does 179 = .ok (.invokevirtual 23, 3) := by decide +kernel
theorem dL_does_182 : decode cL_does 182 = .ok (.ireturn, 1) := by decide +kernel
theorem dL_does_183 : decode cL_does 183 = .ok (.aload_n 0, 1) := by decide +kernel
theorem dL_does_184 : decode cL_does 184 = .ok (.iload_n 1, 1) := by decide +kernel
theorem dL_does_185 : decode cL_does 185 = .ok (.iconst 4, 1) := by decide +kernel
theorem dL_does_186 : decode cL_does 186 = .ok (.ishr, 1) := by decide +kernel
theorem dL_does_187 : decode cL_does 187 = .ok (.bipush 10, 2) := by decide +kernel
theorem dL_does_189 : decode cL_does 189 = .ok (.invokestatic 8, 3) := by decide +kernel
theorem dL_does_192 : decode cL_does 192 = .ok (.invokevirtual 26, 3) := by decide +kernel
theorem dL_does_195 : decode cL_does 195 = .ok (.ireturn, 1) := by decide +kernel
theorem dL_does_196 : decode cL_does 196 = .ok (.aload_n 0, 1) := by decide +kernel
theorem dL_does_197 : decode cL_does 197 = .ok (.invokevirtual 30, 3) := by decide +kernel
theorem dL_does_200 : decode cL_does 200 = .ok (.ireturn, 1) := by decide +kernel
theorem dL_does_201 : decode cL_does 201 = .ok (.aload_n 0, 1) := by decide +kernel
theorem dL_does_202 : decode cL_does 202 = .ok (.iload_n 2, 1) := by decide +kernel
theorem dL_does_203 : decode cL_does 203 = .ok (.iconst 3, 1) := by decide +kernel
theorem dL_does_204 : decode cL_does 204 = .ok (.invokevirtual 14, 3) := by decide +kernel
theorem dL_does_207 : decode cL_does 207 = .ok (.bipush 100, 2) := by decide +kernel
theorem dL_does_209 : decode cL_does 209 = .ok (.if_icmp .ne 11, 3) := by decide +kernel
theorem dL_does_212 : decode cL_does 212 = .ok (.aload_n 0, 1) := by decide +kernel
theorem dL_does_213 : decode cL_does 213 = .ok (.iload_n 2, 1) := by decide +kernel
