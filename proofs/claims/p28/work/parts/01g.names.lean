theorem dX6_init_0 : decode cX6_init 0 = .ok (.aload_n 0, 1) := by decide +kernel
theorem dX6_init_1 : decode cX6_init 1 = .ok (.invokespecial 1, 3) := by decide +kernel
theorem dX6_init_4 : decode cX6_init 4 = .ok (.aload_n 0, 1) := by decide +kernel
theorem dX6_init_5 : decode cX6_init 5 = .ok (.new 7, 3) := by decide +kernel
theorem dX6_init_8 : decode cX6_init 8 = .ok (.dup, 1) := by decide +kernel
theorem dX6_init_9 : decode cX6_init 9 = .ok (.invokespecial 9, 3) := by decide +kernel
theorem dX6_init_12 : decode cX6_init 12 = .ok (.putfield 10, 3) := by decide +kernel
theorem dX6_init_15 : decode cX6_init 15 = .ok (.aload_n 0, 1) := by decide +kernel
theorem dX6_init_16 : decode cX6_init 16 = .ok (.new 16, 3) := by decide +kernel
theorem dX6_init_19 : decode cX6_init 19 = .ok (.dup, 1) := by decide +kernel
theorem dX6_init_20 : decode cX6_init 20 = .ok (.invokespecial 18, 3) := by decide +kernel
theorem dX6_init_23 : decode cX6_init 23 = .ok (.putfield 19, 3) := by decide +kernel
theorem dX6_init_26 : decode cX6_init 26 = .ok (.aload_n 0, 1) := by decide +kernel
theorem dX6_init_27 : decode cX6_init 27 = .ok (.iconst 2, 1) := by decide +kernel
theorem dX6_init_28 : decode cX6_init 28 = .ok (.anewarray 7, 3) := by decide +kernel
theorem dX6_init_31 : decode cX6_init 31 = .ok (.putfield 23, 3) := by decide +kernel
theorem dX6_init_34 : decode cX6_init 34 = .ok (.aload_n 0, 1) := by decide +kernel
theorem dX6_init_35 : decode cX6_init 35 = .ok (.new 27, 3) := by decide +kernel
theorem dX6_init_38 : decode cX6_init 38 = .ok (.dup, 1) := by decide +kernel
theorem dX6_init_39 : decode cX6_init 39 = .ok (.invokespecial 29, 3) := by decide +kernel
theorem dX6_init_42 : decode cX6_init 42 = .ok (.putfield 30, 3) := by decide +kernel
theorem dX6_init_45 : decode cX6_init 45 = .ok (.aload_n 0, 1) := by decide +kernel
theorem dX6_init_46 : decode cX6_init 46 = .ok (.new 34, 3) := by decide +kernel
theorem dX6_init_49 : decode cX6_init 49 = .ok (.dup, 1) := by decide +kernel
theorem dX6_init_50 : decode cX6_init 50 = .ok (.invokespecial 36, 3) := by decide +kernel
theorem dX6_init_53 : decode cX6_init 53 = .ok (.putfield 37, 3) := by decide +kernel
theorem dX6_init_56 : decode cX6_init 56 = .ok (.return_, 1) := by decide +kernel
set_option maxRecDepth 20000 in
theorem ggX6_fold_X6_requireCrease : GoodIn wsX6_fold wsX6_requireCrease := goodIn_ca (goodIn_r _ [7, 8, 9] (by decide +kernel) (by decide +kernel)) (goodIn_sub (fun _ h => List.mem_cons_of_mem _ (List.mem_append_right _ h)) (by decide +kernel))
set_option maxRecDepth 20000 in
theorem gX6_fold_X6_requireCrease : GoodIn wsX6_fold (va_wsS RX6 41 yX6_requireCrease wsX6_requireCrease) := goodIn_app (goodIn_of _ (by decide +kernel)) ggX6_fold_X6_requireCrease
set_option maxRecDepth 20000 in
theorem ggX6_fold_X6_beforeChange : GoodIn wsX6_fold wsX6_beforeChange := goodIn_r _ [13, 14, 1, 15, 16, 17, 18, 19, 20, 21, 22, 23, 24, 25, 26, 27, 28, 29, 30, 31, 32, 33, 34, 35, 36, 37, 38, 39, 40, 41, 42, 43, 44, 45, 46, 47, 48, 49, 50, 51, 52, 53, 54, 55, 56, 57, 58, 59, 60, 80, 81, 82, 83, 84, 94, 95, 85, 86, 87, 88, 89, 90, 91, 92, 93, 96, 97, 98, 99, 100, 101, 102] (by decide +kernel) (by decide +kernel)
set_option maxRecDepth 20000 in
theorem gX6_fold_X6_beforeChange : GoodIn wsX6_fold (wsV RX6 45 RX6 yX6_beforeChange wsX6_beforeChange) := goodIn_app (goodIn_of _ (by decide +kernel)) ggX6_fold_X6_beforeChange
set_option maxRecDepth 20000 in
theorem ggX6_fold_X6_has : GoodIn wsX6_fold wsX6_has := goodIn_r _ [63, 64, 65, 6, 66] (by decide +kernel) (by decide +kernel)
set_option maxRecDepth 20000 in
theorem gX6_fold_X6_has : GoodIn wsX6_fold (va_wsS RX6 52 yX6_has wsX6_has) := goodIn_app (goodIn_of _ (by decide +kernel)) ggX6_fold_X6_has
set_option maxRecDepth 20000 in
theorem ggX6_fold_X6_refuse : GoodIn wsX6_fold wsX6_refuse := goodIn_r _ [70, 1, 71, 80, 81, 82, 83, 84, 85, 86, 87, 88, 89, 90, 91, 92, 93] (by decide +kernel) (by decide +kernel)
set_option maxRecDepth 20000 in
theorem gX6_fold_X6_refuse : GoodIn wsX6_fold (wsV RX6 56 RX6 yX6_refuse wsX6_refuse) := goodIn_app (goodIn_of _ (by decide +kernel)) ggX6_fold_X6_refuse
set_option maxRecDepth 20000 in
theorem ggX6_fold_X5_turn : GoodIn wsX6_fold wsX5_turn := goodIn_r _ [75, 32, 34, 40, 76, 77, 78, 48, 79, 54, 85, 86, 87, 88, 89, 90, 91, 92, 93, 96, 97, 98, 99] (by decide +kernel) (by decide +kernel)
set_option maxRecDepth 20000 in
theorem gX6_fold_X5_turn : GoodIn wsX6_fold (wsV RX6 60 RX5 yX5_turn wsX5_turn) := goodIn_app (goodIn_of _ (by decide +kernel)) ggX6_fold_X5_turn
set_option maxRecDepth 20000 in
theorem ggX6_fold_X6_bit : GoodIn wsX6_fold wsX6_bit := goodIn_r _ [66] (by decide +kernel) (by decide +kernel)
set_option maxRecDepth 20000 in
theorem gX6_fold_X6_bit : GoodIn wsX6_fold (va_wsS RX6 66 yX6_bit wsX6_bit) := goodIn_app (goodIn_of _ (by decide +kernel)) ggX6_fold_X6_bit
theorem dX6_fold_0 : decode cX6_fold 0 = .ok (.iload_n 1, 1) := by decide +kernel
theorem dX6_fold_1 : decode cX6_fold 1 = .ok (.invokestatic 41, 3) := by decide +kernel
theorem dX6_fold_4 : decode cX6_fold 4 = .ok (.aload_n 0, 1) := by decide +kernel
theorem dX6_fold_5 : decode cX6_fold 5 = .ok (.invokevirtual 45, 3) := by decide +kernel
theorem dX6_fold_8 : decode cX6_fold 8 = .ok (.aload_n 0, 1) := by decide +kernel
theorem dX6_fold_9 : decode cX6_fold 9 = .ok (.getfield 10, 3) := by decide +kernel
theorem dX6_fold_12 : decode cX6_fold 12 = .ok (.getfield 48, 3) := by decide +kernel
theorem dX6_fold_15 : decode cX6_fold 15 = .ok (.iload_n 1, 1) := by decide +kernel
theorem dX6_fold_16 : decode cX6_fold 16 = .ok (.invokestatic 52, 3) := by decide +kernel
theorem dX6_fold_19 : decode cX6_fold 19 = .ok (.ifCond .eq 8, 3) := by decide +kernel
theorem dX6_fold_22 : decode cX6_fold 22 = .ok (.aload_n 0, 1) := by decide +kernel
theorem dX6_fold_23 : decode cX6_fold 23 = .ok (.invokevirtual 56, 3) := by decide +kernel
theorem dX6_fold_26 : decode cX6_fold 26 = .ok (.ireturn, 1) := by decide +kernel
theorem dX6_fold_27 : decode cX6_fold 27 = .ok (.aload_n 0, 1) := by decide +kernel
theorem dX6_fold_28 : decode cX6_fold 28 = .ok (.getfield 10, 3) := by decide +kernel
theorem dX6_fold_31 : decode cX6_fold 31 = .ok (.iload_n 1, 1) := by decide +kernel
theorem dX6_fold_32 : decode cX6_fold 32 = .ok (.invokevirtual 60, 3) := by decide +kernel
theorem dX6_fold_35 : decode cX6_fold 35 = .ok (.aload_n 0, 1) := by decide +kernel
theorem dX6_fold_36 : decode cX6_fold 36 = .ok (.getfield 10, 3) := by decide +kernel
theorem dX6_fold_39 : decode cX6_fold 39 = .ok (.getfield 63, 3) := by decide +kernel
theorem dX6_fold_42 : decode cX6_fold 42 = .ok (.iload_n 1, 1) := by decide +kernel
theorem dX6_fold_43 : decode cX6_fold 43 = .ok (.invokestatic 66, 3) := by decide +kernel
theorem dX6_fold_46 : decode cX6_fold 46 = .ok (.ireturn, 1) := by decide +kernel
set_option maxRecDepth 20000 in
theorem ggX6_move_X6_requireTown : GoodIn wsX6_move wsX6_requireTown := goodIn_ca (goodIn_r _ [9, 10, 11] (by decide +kernel) (by decide +kernel)) (goodIn_sub (fun _ h => List.mem_cons_of_mem _ (List.mem_append_right _ h)) (by decide +kernel))
set_option maxRecDepth 20000 in
theorem gX6_move_X6_requireTown : GoodIn wsX6_move (va_wsS RX6 70 yX6_requireTown wsX6_requireTown) := goodIn_app (goodIn_of _ (by decide +kernel)) ggX6_move_X6_requireTown
set_option maxRecDepth 20000 in
theorem ggX6_move_X6_beforeChange : GoodIn wsX6_move wsX6_beforeChange := goodIn_r _ [15, 16, 3, 17, 18, 19, 20, 21, 22, 23, 24, 25, 26, 27, 28, 29, 30, 31, 32, 33, 34, 35, 36, 37, 38, 39, 40, 41, 42, 43, 44, 45, 46, 47, 48, 49, 50, 51, 52, 53, 54, 55, 56, 57, 58, 59, 60, 61, 62, 67, 68, 69, 70, 71, 81, 82, 72, 73, 74, 75, 76, 77, 78, 79, 80, 83, 84, 85, 86, 87, 88, 89] (by decide +kernel) (by decide +kernel)
set_option maxRecDepth 20000 in
theorem gX6_move_X6_beforeChange : GoodIn wsX6_move (wsV RX6 45 RX6 yX6_beforeChange wsX6_beforeChange) := goodIn_app (goodIn_of _ (by decide +kernel)) ggX6_move_X6_beforeChange
set_option maxRecDepth 20000 in
theorem ggX6_move_X0_clear : GoodIn wsX6_move wsX0_clear := goodIn_r _ [66, 56, 83, 84, 85, 86] (by decide +kernel) (by decide +kernel)
set_option maxRecDepth 20000 in
theorem gX6_move_X0_clear : GoodIn wsX6_move (wsV RX6 88 RX0 yX0_clear wsX0_clear) := goodIn_app (goodIn_of _ (by decide +kernel)) ggX6_move_X0_clear
theorem dX6_move_0 : decode cX6_move 0 = .ok (.iload_n 1, 1) := by decide +kernel
theorem dX6_move_1 : decode cX6_move 1 = .ok (.invokestatic 70, 3) := by decide +kernel
theorem dX6_move_4 : decode cX6_move 4 = .ok (.iload_n 2, 1) := by decide +kernel
theorem dX6_move_5 : decode cX6_move 5 = .ok (.ifCond .lt 9, 3) := by decide +kernel
theorem dX6_move_8 : decode cX6_move 8 = .ok (.iload_n 2, 1) := by decide +kernel
theorem dX6_move_9 : decode cX6_move 9 = .ok (.bipush 10, 2) := by decide +kernel
theorem dX6_move_11 : decode cX6_move 11 = .ok (.if_icmp .lt 13, 3) := by decide +kernel
theorem dX6_move_14 : decode cX6_move 14 = .ok (.new 73, 3) := by decide +kernel
theorem dX6_move_17 : decode cX6_move 17 = .ok (.dup, 1) := by decide +kernel
theorem dX6_move_18 : decode cX6_move 18 = .ok (.ldc 75, 2) := by decide +kernel
theorem dX6_move_20 : decode cX6_move 20 = .ok (.invokespecial 77, 3) := by decide +kernel
theorem dX6_move_23 : decode cX6_move 23 = .ok (.athrow, 1) := by decide +kernel
theorem dX6_move_24 : decode cX6_move 24 = .ok (.aload_n 0, 1) := by decide +kernel
theorem dX6_move_25 : decode cX6_move 25 = .ok (.invokevirtual 45, 3) := by decide +kernel
theorem dX6_move_28 : decode cX6_move 28 = .ok (.aload_n 0, 1) := by decide +kernel
theorem dX6_move_29 : decode cX6_move 29 = .ok (.getfield 10, 3) := by decide +kernel
theorem dX6_move_32 : decode cX6_move 32 = .ok (.getfield 80, 3) := by decide +kernel
theorem dX6_move_35 : decode cX6_move 35 = .ok (.iload_n 1, 1) := by decide +kernel
theorem dX6_move_36 : decode cX6_move 36 = .ok (.iaload, 1) := by decide +kernel
theorem dX6_move_37 : decode cX6_move 37 = .ok (.istore_n 3, 1) := by decide +kernel
theorem dX6_move_38 : decode cX6_move 38 = .ok (.aload_n 0, 1) := by decide +kernel
theorem dX6_move_39 : decode cX6_move 39 = .ok (.getfield 10, 3) := by decide +kernel
theorem dX6_move_42 : decode cX6_move 42 = .ok (.getfield 80, 3) := by decide +kernel
theorem dX6_move_45 : decode cX6_move 45 = .ok (.iload_n 1, 1) := by decide +kernel
theorem dX6_move_46 : decode cX6_move 46 = .ok (.iload_n 2, 1) := by decide +kernel
theorem dX6_move_47 : decode cX6_move 47 = .ok (.iastore, 1) := by decide +kernel
theorem dX6_move_48 : decode cX6_move 48 = .ok (.aload_n 0, 1) := by decide +kernel
theorem dX6_move_49 : decode cX6_move 49 = .ok (.getfield 10, 3) := by decide +kernel
theorem dX6_move_52 : decode cX6_move 52 = .ok (.getfield 84, 3) := by decide +kernel
theorem dX6_move_55 : decode cX6_move 55 = .ok (.invokevirtual 88, 3) := by decide +kernel
theorem dX6_move_58 : decode cX6_move 58 = .ok (.iload_n 3, 1) := by decide +kernel
theorem dX6_move_59 : decode cX6_move 59 = .ok (.ireturn, 1) := by decide +kernel
set_option maxRecDepth 20000 in
theorem ggX6_pull_X6_beforeChange : GoodIn wsX6_pull wsX6_beforeChange := goodIn_r _ [8, 9, 3, 10, 11, 12, 13, 14, 15, 16, 17, 18, 19, 20, 21, 22, 23, 24, 25, 26, 27, 28, 29, 30, 31, 32, 33, 34, 35, 36, 37, 38, 39, 40, 41, 42, 43, 44, 45, 46, 47, 48, 49, 50, 51, 52, 53, 54, 55, 76, 77, 78, 79, 80, 81, 82, 83, 84, 85, 86, 87, 88, 89, 90, 91, 92, 93, 94, 95, 96, 97, 98] (by decide +kernel) (by decide +kernel)
set_option maxRecDepth 20000 in
theorem gX6_pull_X6_beforeChange : GoodIn wsX6_pull (wsV RX6 45 RX6 yX6_beforeChange wsX6_beforeChange) := goodIn_app (goodIn_of _ (by decide +kernel)) ggX6_pull_X6_beforeChange
set_option maxRecDepth 20000 in
theorem ggX6_pull_X5_tear : GoodIn wsX6_pull wsX5_tear := goodIn_r _ [59, 27, 29, 28, 35, 60, 7, 61, 62, 63, 64, 65, 66, 67, 43, 68, 49, 69, 70, 71, 72, 73, 74, 75, 83, 84, 85, 86, 87, 88, 89, 90, 91, 92, 93, 94, 95] (by decide +kernel) (by decide +kernel)
set_option maxRecDepth 20000 in
theorem gX6_pull_X5_tear : GoodIn wsX6_pull (wsV RX6 95 RX5 yX5_tear wsX5_tear) := goodIn_app (goodIn_of _ (by decide +kernel)) ggX6_pull_X5_tear
theorem dX6_pull_0 : decode cX6_pull 0 = .ok (.iload_n 1, 1) := by decide +kernel
theorem dX6_pull_1 : decode cX6_pull 1 = .ok (.iconst 1, 1) := by decide +kernel
theorem dX6_pull_2 : decode cX6_pull 2 = .ok (.if_icmp .lt 9, 3) := by decide +kernel
theorem dX6_pull_5 : decode cX6_pull 5 = .ok (.iload_n 1, 1) := by decide +kernel
theorem dX6_pull_6 : decode cX6_pull 6 = .ok (.bipush 9, 2) := by decide +kernel
theorem dX6_pull_8 : decode cX6_pull 8 = .ok (.if_icmp .le 13, 3) := by decide +kernel
theorem dX6_pull_11 : decode cX6_pull 11 = .ok (.new 73, 3) := by decide +kernel
theorem dX6_pull_14 : decode cX6_pull 14 = .ok (.dup, 1) := by decide +kernel
theorem dX6_pull_15 : decode cX6_pull 15 = .ok (.ldc 93, 2) := by decide +kernel
theorem dX6_pull_17 : decode cX6_pull 17 = .ok (.invokespecial 77, 3) := by decide +kernel
theorem dX6_pull_20 : decode cX6_pull 20 = .ok (.athrow, 1) := by decide +kernel
theorem dX6_pull_21 : decode cX6_pull 21 = .ok (.aload_n 0, 1) := by decide +kernel
theorem dX6_pull_22 : decode cX6_pull 22 = .ok (.invokevirtual 45, 3) := by decide +kernel
theorem dX6_pull_25 : decode cX6_pull 25 = .ok (.aload_n 0, 1) := by decide +kernel
theorem dX6_pull_26 : decode cX6_pull 26 = .ok (.getfield 10, 3) := by decide +kernel
theorem dX6_pull_29 : decode cX6_pull 29 = .ok (.bipush 10, 2) := by decide +kernel
theorem dX6_pull_31 : decode cX6_pull 31 = .ok (.iload_n 1, 1) := by decide +kernel
theorem dX6_pull_32 : decode cX6_pull 32 = .ok (.isub, 1) := by decide +kernel
theorem dX6_pull_33 : decode cX6_pull 33 = .ok (.invokevirtual 95, 3) := by decide +kernel
theorem dX6_pull_36 : decode cX6_pull 36 = .ok (.ireturn, 1) := by decide +kernel
set_option maxRecDepth 20000 in
theorem ggX6_renew_X6_beforeChange : GoodIn wsX6_renew wsX6_beforeChange := goodIn_r _ [7, 8, 1, 9, 10, 11, 12, 13, 14, 15, 16, 17, 18, 19, 20, 21, 22, 23, 24, 25, 26, 27, 28, 29, 30, 31, 32, 33, 34, 35, 36, 37, 38, 39, 40, 41, 42, 43, 44, 45, 46, 47, 48, 49, 50, 51, 52, 53, 54, 70, 71, 72, 73, 74, 84, 85, 75, 76, 77, 78, 79, 80, 81, 82, 83, 86, 87, 88, 89, 90, 91, 92] (by decide +kernel) (by decide +kernel)
set_option maxRecDepth 20000 in
theorem gX6_renew_X6_beforeChange : GoodIn wsX6_renew (wsV RX6 45 RX6 yX6_beforeChange wsX6_beforeChange) := goodIn_app (goodIn_of _ (by decide +kernel)) ggX6_renew_X6_beforeChange
set_option maxRecDepth 20000 in
theorem ggX6_renew_J6_bitCount_0f7a4 : GoodIn wsX6_renew wsJ6_bitCount_0f7a4 := goodIn_r _ [58, 59, 60, 61] (by decide +kernel) (by decide +kernel)
set_option maxRecDepth 20000 in
theorem gX6_renew_J6_bitCount_0f7a4 : GoodIn wsX6_renew (va_wsS RX6 99 yJ6_bitCount_0f7a4 wsJ6_bitCount_0f7a4) := goodIn_app (goodIn_of _ (by decide +kernel)) ggX6_renew_J6_bitCount_0f7a4
set_option maxRecDepth 20000 in
theorem ggX6_renew_X5_takeNewStrip : GoodIn wsX6_renew wsX5_takeNewStrip := goodIn_r _ [65, 26, 27, 28, 34, 66, 67, 68, 42, 69, 48, 75, 76, 77, 78, 79, 80, 81, 82, 83, 86, 87, 88, 89] (by decide +kernel) (by decide +kernel)
set_option maxRecDepth 20000 in
theorem gX6_renew_X5_takeNewStrip : GoodIn wsX6_renew (wsV RX6 104 RX5 yX5_takeNewStrip wsX5_takeNewStrip) := goodIn_app (goodIn_of _ (by decide +kernel)) ggX6_renew_X5_takeNewStrip
theorem dX6_renew_0 : decode cX6_renew 0 = .ok (.aload_n 0, 1) := by decide +kernel
theorem dX6_renew_1 : decode cX6_renew 1 = .ok (.invokevirtual 45, 3) := by decide +kernel
theorem dX6_renew_4 : decode cX6_renew 4 = .ok (.aload_n 0, 1) := by decide +kernel
theorem dX6_renew_5 : decode cX6_renew 5 = .ok (.getfield 10, 3) := by decide +kernel
theorem dX6_renew_8 : decode cX6_renew 8 = .ok (.getfield 48, 3) := by decide +kernel
theorem dX6_renew_11 : decode cX6_renew 11 = .ok (.invokestatic 99, 3) := by decide +kernel
theorem dX6_renew_14 : decode cX6_renew 14 = .ok (.istore_n 1, 1) := by decide +kernel
theorem dX6_renew_15 : decode cX6_renew 15 = .ok (.aload_n 0, 1) := by decide +kernel
theorem dX6_renew_16 : decode cX6_renew 16 = .ok (.getfield 10, 3) := by decide +kernel
theorem dX6_renew_19 : decode cX6_renew 19 = .ok (.iconst 0, 1) := by decide +kernel
theorem dX6_renew_20 : decode cX6_renew 20 = .ok (.invokevirtual 104, 3) := by decide +kernel
theorem dX6_renew_23 : decode cX6_renew 23 = .ok (.iload_n 1, 1) := by decide +kernel
theorem dX6_renew_24 : decode cX6_renew 24 = .ok (.ireturn, 1) := by decide +kernel
set_option maxRecDepth 20000 in
theorem ggX6_ask_X6_requireTwoTowns : GoodIn wsX6_ask wsX6_requireTwoTowns := goodIn_ca (goodIn_ca (goodIn_r _ [10, 11, 12, 13, 14, 9, 15, 16, 17] (by decide +kernel) (by decide +kernel)) (goodIn_sub (fun _ h => List.mem_cons_of_mem _ (List.mem_append_left _ (List.mem_append_right _ h))) (by decide +kernel))) (goodIn_sub (fun _ h => List.mem_cons_of_mem _ (List.mem_append_right _ h)) (by decide +kernel))
set_option maxRecDepth 20000 in
theorem gX6_ask_X6_requireTwoTowns : GoodIn wsX6_ask (va_wsS RX6 107 yX6_requireTwoTowns wsX6_requireTwoTowns) := goodIn_app (goodIn_of _ (by decide +kernel)) ggX6_ask_X6_requireTwoTowns
set_option maxRecDepth 20000 in
theorem ggX6_ask_X6_beforeChange : GoodIn wsX6_ask wsX6_beforeChange := goodIn_r _ [21, 22, 1, 23, 24, 25, 26, 27, 28, 29, 30, 31, 32, 33, 34, 35, 36, 37, 38, 39, 40, 41, 42, 43, 44, 45, 46, 47, 48, 49, 50, 51, 52, 53, 54, 55, 56, 57, 58, 59, 60, 61, 62, 63, 64, 65, 66, 67, 68, 100, 101, 102, 103, 104, 118, 119, 105, 106, 107, 108, 109, 110, 111, 112, 113, 114, 115, 116, 117, 120, 121, 122] (by decide +kernel) (by decide +kernel)
set_option maxRecDepth 20000 in
theorem gX6_ask_X6_beforeChange : GoodIn wsX6_ask (wsV RX6 45 RX6 yX6_beforeChange wsX6_beforeChange) := goodIn_app (goodIn_of _ (by decide +kernel)) ggX6_ask_X6_beforeChange
set_option maxRecDepth 20000 in
theorem ggX6_ask_X0_about : GoodIn wsX6_ask wsX0_about := goodIn_r _ [72, 73, 74, 75, 76, 77, 78, 79, 62, 58, 60, 61, 114, 115, 116, 117] (by decide +kernel) (by decide +kernel)
set_option maxRecDepth 20000 in
theorem gX6_ask_X0_about : GoodIn wsX6_ask (wsV RX6 114 RX0 yX0_about wsX0_about) := goodIn_app (goodIn_of _ (by decide +kernel)) ggX6_ask_X0_about
set_option maxRecDepth 20000 in
theorem ggX6_ask_X6_refuse : GoodIn wsX6_ask wsX6_refuse := goodIn_r _ [83, 1, 84, 100, 101, 102, 103, 104, 105, 106, 107, 108, 109, 110, 111, 112, 113] (by decide +kernel) (by decide +kernel)
set_option maxRecDepth 20000 in
theorem gX6_ask_X6_refuse : GoodIn wsX6_ask (wsV RX6 56 RX6 yX6_refuse wsX6_refuse) := goodIn_app (goodIn_of _ (by decide +kernel)) ggX6_ask_X6_refuse
set_option maxRecDepth 20000 in
theorem ggX6_ask_X3_meeting : GoodIn wsX6_ask wsX3_meeting := goodIn_r _ [88, 89, 74, 75, 76, 90, 91, 92, 93, 94, 87, 95] (by decide +kernel) (by decide +kernel)
set_option maxRecDepth 20000 in
theorem gX6_ask_X3_meeting : GoodIn wsX6_ask (va_wsS RX6 117 yX3_meeting wsX3_meeting) := goodIn_app (goodIn_of _ (by decide +kernel)) ggX6_ask_X3_meeting
set_option maxRecDepth 20000 in
theorem ggX6_ask_X0_add : GoodIn wsX6_ask wsX0_add := goodIn_r _ [99, 62, 58, 73, 74, 75, 76, 60, 77, 78, 79, 61, 114, 115, 116, 117] (by decide +kernel) (by decide +kernel)
set_option maxRecDepth 20000 in
theorem gX6_ask_X0_add : GoodIn wsX6_ask (wsV RX6 123 RX0 yX0_add wsX0_add) := goodIn_app (goodIn_of _ (by decide +kernel)) ggX6_ask_X0_add
theorem dX6_ask_0 : decode cX6_ask 0 = .ok (.iload_n 1, 1) := by decide +kernel
theorem dX6_ask_1 : decode cX6_ask 1 = .ok (.iload_n 2, 1) := by decide +kernel
theorem dX6_ask_2 : decode cX6_ask 2 = .ok (.invokestatic 107, 3) := by decide +kernel
theorem dX6_ask_5 : decode cX6_ask 5 = .ok (.aload_n 0, 1) := by decide +kernel
theorem dX6_ask_6 : decode cX6_ask 6 = .ok (.invokevirtual 45, 3) := by decide +kernel
theorem dX6_ask_9 : decode cX6_ask 9 = .ok (.aload_n 0, 1) := by decide +kernel
theorem dX6_ask_10 : decode cX6_ask 10 = .ok (.getfield 10, 3) := by decide +kernel
theorem dX6_ask_13 : decode cX6_ask 13 = .ok (.getfield 80, 3) := by decide +kernel
theorem dX6_ask_16 : decode cX6_ask 16 = .ok (.iload_n 1, 1) := by decide +kernel
theorem dX6_ask_17 : decode cX6_ask 17 = .ok (.iaload, 1) := by decide +kernel
theorem dX6_ask_18 : decode cX6_ask 18 = .ok (.istore_n 3, 1) := by decide +kernel
theorem dX6_ask_19 : decode cX6_ask 19 = .ok (.aload_n 0, 1) := by decide +kernel
theorem dX6_ask_20 : decode cX6_ask 20 = .ok (.getfield 10, 3) := by decide +kernel
theorem dX6_ask_23 : decode cX6_ask 23 = .ok (.getfield 80, 3) := by decide +kernel
theorem dX6_ask_26 : decode cX6_ask 26 = .ok (.iload_n 2, 1) := by decide +kernel
theorem dX6_ask_27 : decode cX6_ask 27 = .ok (.iaload, 1) := by decide +kernel
theorem dX6_ask_28 : decode cX6_ask 28 = .ok (.istore 4, 2) := by decide +kernel
theorem dX6_ask_30 : decode cX6_ask 30 = .ok (.aload_n 0, 1) := by decide +kernel
theorem dX6_ask_31 : decode cX6_ask 31 = .ok (.getfield 10, 3) := by decide +kernel
theorem dX6_ask_34 : decode cX6_ask 34 = .ok (.getfield 84, 3) := by decide +kernel
theorem dX6_ask_37 : decode cX6_ask 37 = .ok (.getfield 111, 3) := by decide +kernel
theorem dX6_ask_40 : decode cX6_ask 40 = .ok (.bipush 12, 2) := by decide +kernel
theorem dX6_ask_42 : decode cX6_ask 42 = .ok (.if_icmp .ge 20, 3) := by decide +kernel
theorem dX6_ask_45 : decode cX6_ask 45 = .ok (.aload_n 0, 1) := by decide +kernel
theorem dX6_ask_46 : decode cX6_ask 46 = .ok (.getfield 10, 3) := by decide +kernel
theorem dX6_ask_49 : decode cX6_ask 49 = .ok (.getfield 84, 3) := by decide +kernel
theorem dX6_ask_52 : decode cX6_ask 52 = .ok (.iload_n 3, 1) := by decide +kernel
theorem dX6_ask_53 : decode cX6_ask 53 = .ok (.iload 4, 2) := by decide +kernel
theorem dX6_ask_55 : decode cX6_ask 55 = .ok (.invokevirtual 114, 3) := by decide +kernel
theorem dX6_ask_58 : decode cX6_ask 58 = .ok (.iconst (-1), 1) := by decide +kernel
theorem dX6_ask_59 : decode cX6_ask 59 = .ok (.if_icmp .eq 8, 3) := by decide +kernel
theorem dX6_ask_62 : decode cX6_ask 62 = .ok (.aload_n 0, 1) := by decide +kernel
theorem dX6_ask_63 : decode cX6_ask 63 = .ok (.invokevirtual 56, 3) := by decide +kernel
theorem dX6_ask_66 : decode cX6_ask 66 = .ok (.ireturn, 1) := by decide +kernel
theorem dX6_ask_67 : decode cX6_ask 67 = .ok (.aload_n 0, 1) := by decide +kernel
theorem dX6_ask_68 : decode cX6_ask 68 = .ok (.getfield 10, 3) := by decide +kernel
theorem dX6_ask_71 : decode cX6_ask 71 = .ok (.getfield 63, 3) := by decide +kernel
theorem dX6_ask_74 : decode cX6_ask 74 = .ok (.iload_n 3, 1) := by decide +kernel
theorem dX6_ask_75 : decode cX6_ask 75 = .ok (.iload 4, 2) := by decide +kernel
theorem dX6_ask_77 : decode cX6_ask 77 = .ok (.invokestatic 117, 3) := by decide +kernel
theorem dX6_ask_80 : decode cX6_ask 80 = .ok (.istore 5, 2) := by decide +kernel
theorem dX6_ask_82 : decode cX6_ask 82 = .ok (.aload_n 0, 1) := by decide +kernel
theorem dX6_ask_83 : decode cX6_ask 83 = .ok (.getfield 10, 3) := by decide +kernel
theorem dX6_ask_86 : decode cX6_ask 86 = .ok (.getfield 84, 3) := by decide +kernel
theorem dX6_ask_89 : decode cX6_ask 89 = .ok (.iload_n 3, 1) := by decide +kernel
theorem dX6_ask_90 : decode cX6_ask 90 = .ok (.iload 4, 2) := by decide +kernel
theorem dX6_ask_92 : decode cX6_ask 92 = .ok (.iload 5, 2) := by decide +kernel
theorem dX6_ask_94 : decode cX6_ask 94 = .ok (.invokevirtual 123, 3) := by decide +kernel
theorem dX6_ask_97 : decode cX6_ask 97 = .ok (.aload_n 0, 1) := by decide +kernel
theorem dX6_ask_98 : decode cX6_ask 98 = .ok (.getfield 10, 3) := by decide +kernel
theorem dX6_ask_101 : decode cX6_ask 101 = .ok (.dup, 1) := by decide +kernel
theorem dX6_ask_102 : decode cX6_ask 102 = .ok (.getfield 127, 3) := by decide +kernel
theorem dX6_ask_105 : decode cX6_ask 105 = .ok (.iconst 1, 1) := by decide +kernel
theorem dX6_ask_106 : decode cX6_ask 106 = .ok (.iadd, 1) := by decide +kernel
theorem dX6_ask_107 : decode cX6_ask 107 = .ok (.putfield 127, 3) := by decide +kernel
theorem dX6_ask_110 : decode cX6_ask 110 = .ok (.iload 5, 2) := by decide +kernel
theorem dX6_ask_112 : decode cX6_ask 112 = .ok (.ireturn, 1) := by decide +kernel
set_option maxRecDepth 20000 in
theorem ggX6_guess_X6_beforeChange : GoodIn wsX6_guess wsX6_beforeChange := goodIn_r _ [11, 12, 3, 13, 14, 15, 16, 17, 18, 19, 20, 21, 22, 23, 24, 25, 26, 27, 28, 29, 30, 31, 32, 33, 34, 35, 36, 37, 38, 39, 40, 41, 42, 43, 44, 45, 46, 47, 48, 49, 50, 51, 52, 53, 54, 55, 56, 57, 58, 66, 67, 68, 69, 70, 80, 81, 71, 72, 73, 74, 75, 76, 77, 78, 79, 82, 83, 84, 85, 86, 87, 88] (by decide +kernel) (by decide +kernel)
set_option maxRecDepth 20000 in
theorem gX6_guess_X6_beforeChange : GoodIn wsX6_guess (wsV RX6 45 RX6 yX6_beforeChange wsX6_beforeChange) := goodIn_app (goodIn_of _ (by decide +kernel)) ggX6_guess_X6_beforeChange
set_option maxRecDepth 20000 in
theorem ggX6_guess_J6_bitCount_0f7a4 : GoodIn wsX6_guess wsJ6_bitCount_0f7a4 := goodIn_r _ [62, 63, 64, 65] (by decide +kernel) (by decide +kernel)
set_option maxRecDepth 20000 in
theorem gX6_guess_J6_bitCount_0f7a4 : GoodIn wsX6_guess (va_wsS RX6 99 yJ6_bitCount_0f7a4 wsJ6_bitCount_0f7a4) := goodIn_app (goodIn_of _ (by decide +kernel)) ggX6_guess_J6_bitCount_0f7a4
theorem dX6_guess_0 : decode cX6_guess 0 = .ok (.iload_n 1, 1) := by decide +kernel
theorem dX6_guess_1 : decode cX6_guess 1 = .ok (.ifCond .lt 10, 3) := by decide +kernel
theorem dX6_guess_4 : decode cX6_guess 4 = .ok (.iload_n 1, 1) := by decide +kernel
theorem dX6_guess_5 : decode cX6_guess 5 = .ok (.sipush 512, 3) := by decide +kernel
theorem dX6_guess_8 : decode cX6_guess 8 = .ok (.if_icmp .lt 13, 3) := by decide +kernel
theorem dX6_guess_11 : decode cX6_guess 11 = .ok (.new 73, 3) := by decide +kernel
theorem dX6_guess_14 : decode cX6_guess 14 = .ok (.dup, 1) := by decide +kernel
theorem dX6_guess_15 : decode cX6_guess 15 = .ok (.ldc 130, 2) := by decide +kernel
theorem dX6_guess_17 : decode cX6_guess 17 = .ok (.invokespecial 77, 3) := by decide +kernel
theorem dX6_guess_20 : decode cX6_guess 20 = .ok (.athrow, 1) := by decide +kernel
theorem dX6_guess_21 : decode cX6_guess 21 = .ok (.aload_n 0, 1) := by decide +kernel
theorem dX6_guess_22 : decode cX6_guess 22 = .ok (.invokevirtual 45, 3) := by decide +kernel
theorem dX6_guess_25 : decode cX6_guess 25 = .ok (.aload_n 0, 1) := by decide +kernel
theorem dX6_guess_26 : decode cX6_guess 26 = .ok (.getfield 10, 3) := by decide +kernel
theorem dX6_guess_29 : decode cX6_guess 29 = .ok (.dup, 1) := by decide +kernel
theorem dX6_guess_30 : decode cX6_guess 30 = .ok (.getfield 132, 3) := by decide +kernel
theorem dX6_guess_33 : decode cX6_guess 33 = .ok (.iconst 1, 1) := by decide +kernel
theorem dX6_guess_34 : decode cX6_guess 34 = .ok (.iadd, 1) := by decide +kernel
theorem dX6_guess_35 : decode cX6_guess 35 = .ok (.putfield 132, 3) := by decide +kernel
theorem dX6_guess_38 : decode cX6_guess 38 = .ok (.iload_n 1, 1) := by decide +kernel
theorem dX6_guess_39 : decode cX6_guess 39 = .ok (.aload_n 0, 1) := by decide +kernel
theorem dX6_guess_40 : decode cX6_guess 40 = .ok (.getfield 10, 3) := by decide +kernel
theorem dX6_guess_43 : decode cX6_guess 43 = .ok (.getfield 63, 3) := by decide +kernel
theorem dX6_guess_46 : decode cX6_guess 46 = .ok (.if_icmp .ne 19, 3) := by decide +kernel
theorem dX6_guess_49 : decode cX6_guess 49 = .ok (.aload_n 0, 1) := by decide +kernel
theorem dX6_guess_50 : decode cX6_guess 50 = .ok (.getfield 10, 3) := by decide +kernel
theorem dX6_guess_53 : decode cX6_guess 53 = .ok (.dup, 1) := by decide +kernel
theorem dX6_guess_54 : decode cX6_guess 54 = .ok (.getfield 135, 3) := by decide +kernel
theorem dX6_guess_57 : decode cX6_guess 57 = .ok (.iconst 1, 1) := by decide +kernel
theorem dX6_guess_58 : decode cX6_guess 58 = .ok (.iadd, 1) := by decide +kernel
theorem dX6_guess_59 : decode cX6_guess 59 = .ok (.putfield 135, 3) := by decide +kernel
theorem dX6_guess_62 : decode cX6_guess 62 = .ok (.bipush 10, 2) := by decide +kernel
theorem dX6_guess_64 : decode cX6_guess 64 = .ok (.ireturn, 1) := by decide +kernel
theorem dX6_guess_65 : decode cX6_guess 65 = .ok (.bipush 9, 2) := by decide +kernel
theorem dX6_guess_67 : decode cX6_guess 67 = .ok (.iload_n 1, 1) := by decide +kernel
theorem dX6_guess_68 : decode cX6_guess 68 = .ok (.aload_n 0, 1) := by decide +kernel
theorem dX6_guess_69 : decode cX6_guess 69 = .ok (.getfield 10, 3) := by decide +kernel
theorem dX6_guess_72 : decode cX6_guess 72 = .ok (.getfield 63, 3) := by decide +kernel
theorem dX6_guess_75 : decode cX6_guess 75 = .ok (.ixor, 1) := by decide +kernel
theorem dX6_guess_76 : decode cX6_guess 76 = .ok (.invokestatic 99, 3) := by decide +kernel
theorem dX6_guess_79 : decode cX6_guess 79 = .ok (.isub, 1) := by decide +kernel
theorem dX6_guess_80 : decode cX6_guess 80 = .ok (.ireturn, 1) := by decide +kernel
set_option maxRecDepth 20000 in
theorem ggX6_forget_X6_beforeChange : GoodIn wsX6_forget wsX6_beforeChange := goodIn_r _ [8, 9, 1, 10, 11, 12, 13, 14, 15, 16, 17, 18, 19, 20, 21, 22, 23, 24, 25, 26, 27, 28, 29, 30, 31, 32, 33, 34, 35, 36, 37, 38, 39, 40, 41, 42, 43, 44, 45, 46, 47, 48, 49, 50, 51, 52, 53, 54, 55, 60, 61, 62, 63, 64, 78, 79, 65, 66, 67, 68, 69, 70, 71, 72, 73, 74, 75, 76, 77, 80, 81, 82] (by decide +kernel) (by decide +kernel)
set_option maxRecDepth 20000 in
theorem gX6_forget_X6_beforeChange : GoodIn wsX6_forget (wsV RX6 45 RX6 yX6_beforeChange wsX6_beforeChange) := goodIn_app (goodIn_of _ (by decide +kernel)) ggX6_forget_X6_beforeChange
set_option maxRecDepth 20000 in
theorem ggX6_forget_X0_clear : GoodIn wsX6_forget wsX0_clear := goodIn_r _ [59, 49, 74, 75, 76, 77] (by decide +kernel) (by decide +kernel)
set_option maxRecDepth 20000 in
theorem gX6_forget_X0_clear : GoodIn wsX6_forget (wsV RX6 88 RX0 yX0_clear wsX0_clear) := goodIn_app (goodIn_of _ (by decide +kernel)) ggX6_forget_X0_clear
theorem dX6_forget_0 : decode cX6_forget 0 = .ok (.aload_n 0, 1) := by decide +kernel
theorem dX6_forget_1 : decode cX6_forget 1 = .ok (.invokevirtual 45, 3) := by decide +kernel
theorem dX6_forget_4 : decode cX6_forget 4 = .ok (.aload_n 0, 1) := by decide +kernel
theorem dX6_forget_5 : decode cX6_forget 5 = .ok (.getfield 10, 3) := by decide +kernel
theorem dX6_forget_8 : decode cX6_forget 8 = .ok (.getfield 84, 3) := by decide +kernel
theorem dX6_forget_11 : decode cX6_forget 11 = .ok (.getfield 111, 3) := by decide +kernel
theorem dX6_forget_14 : decode cX6_forget 14 = .ok (.istore_n 1, 1) := by decide +kernel
theorem dX6_forget_15 : decode cX6_forget 15 = .ok (.aload_n 0, 1) := by decide +kernel
theorem dX6_forget_16 : decode cX6_forget 16 = .ok (.getfield 10, 3) := by decide +kernel
theorem dX6_forget_19 : decode cX6_forget 19 = .ok (.getfield 84, 3) := by decide +kernel
theorem dX6_forget_22 : decode cX6_forget 22 = .ok (.invokevirtual 88, 3) := by decide +kernel
theorem dX6_forget_25 : decode cX6_forget 25 = .ok (.iload_n 1, 1) := by decide +kernel
theorem dX6_forget_26 : decode cX6_forget 26 = .ok (.ireturn, 1) := by decide +kernel
set_option maxRecDepth 20000 in
theorem ggX6_keep_X6_requireSlot : GoodIn wsX6_keep wsX6_requireSlot := goodIn_ca (goodIn_r _ [11, 12, 13] (by decide +kernel) (by decide +kernel)) (goodIn_sub (fun _ h => List.mem_cons_of_mem _ (List.mem_append_right _ h)) (by decide +kernel))
set_option maxRecDepth 20000 in
theorem gX6_keep_X6_requireSlot : GoodIn wsX6_keep (va_wsS RX6 166 yX6_requireSlot wsX6_requireSlot) := goodIn_app (goodIn_of _ (by decide +kernel)) ggX6_keep_X6_requireSlot
set_option maxRecDepth 20000 in
theorem ggX6_keep_X5_init : GoodIn wsX6_keep wsX5_init := goodIn_r _ [16, 17, 18, 19, 20, 21, 22, 23, 24, 25, 26, 27, 28, 29, 30, 31, 32, 58, 59, 60, 61, 62, 63, 64, 65, 66, 67, 68, 69, 70] (by decide +kernel) (by decide +kernel)
set_option maxRecDepth 20000 in
theorem gX6_keep_X5_init : GoodIn wsX6_keep (wsX5_init) := ggX6_keep_X5_init
set_option maxRecDepth 20000 in
theorem ggX6_keep_X5_copyFrom : GoodIn wsX6_keep wsX5_copyFrom := goodIn_r _ [36, 37, 38, 21, 39, 40, 41, 42, 22, 26, 43, 44, 45, 46, 47, 48, 49, 25, 50, 30, 51, 31, 32, 52, 58, 59, 60, 61, 62, 63, 64, 65, 66, 67, 68, 69, 70] (by decide +kernel) (by decide +kernel)
set_option maxRecDepth 20000 in
theorem gX6_keep_X5_copyFrom : GoodIn wsX6_keep (wsV RX6 169 RX5 yX5_copyFrom wsX5_copyFrom) := goodIn_app (goodIn_of _ (by decide +kernel)) ggX6_keep_X5_copyFrom
theorem dX6_keep_0 : decode cX6_keep 0 = .ok (.iload_n 1, 1) := by decide +kernel
theorem dX6_keep_1 : decode cX6_keep 1 = .ok (.invokestatic 166, 3) := by decide +kernel
theorem dX6_keep_4 : decode cX6_keep 4 = .ok (.aload_n 0, 1) := by decide +kernel
theorem dX6_keep_5 : decode cX6_keep 5 = .ok (.getfield 23, 3) := by decide +kernel
theorem dX6_keep_8 : decode cX6_keep 8 = .ok (.iload_n 1, 1) := by decide +kernel
theorem dX6_keep_9 : decode cX6_keep 9 = .ok (.aaload, 1) := by decide +kernel
theorem dX6_keep_10 : decode cX6_keep 10 = .ok (.ifnonnull 16, 3) := by decide +kernel
theorem dX6_keep_13 : decode cX6_keep 13 = .ok (.aload_n 0, 1) := by decide +kernel
theorem dX6_keep_14 : decode cX6_keep 14 = .ok (.getfield 23, 3) := by decide +kernel
theorem dX6_keep_17 : decode cX6_keep 17 = .ok (.iload_n 1, 1) := by decide +kernel
theorem dX6_keep_18 : decode cX6_keep 18 = .ok (.new 7, 3) := by decide +kernel
theorem dX6_keep_21 : decode cX6_keep 21 = .ok (.dup, 1) := by decide +kernel
theorem dX6_keep_22 : decode cX6_keep 22 = .ok (.invokespecial 9, 3) := by decide +kernel
theorem dX6_keep_25 : decode cX6_keep 25 = .ok (.aastore, 1) := by decide +kernel
theorem dX6_keep_26 : decode cX6_keep 26 = .ok (.aload_n 0, 1) := by decide +kernel
theorem dX6_keep_27 : decode cX6_keep 27 = .ok (.getfield 23, 3) := by decide +kernel
theorem dX6_keep_30 : decode cX6_keep 30 = .ok (.iload_n 1, 1) := by decide +kernel
theorem dX6_keep_31 : decode cX6_keep 31 = .ok (.aaload, 1) := by decide +kernel
theorem dX6_keep_32 : decode cX6_keep 32 = .ok (.aload_n 0, 1) := by decide +kernel
theorem dX6_keep_33 : decode cX6_keep 33 = .ok (.getfield 10, 3) := by decide +kernel
theorem dX6_keep_36 : decode cX6_keep 36 = .ok (.invokevirtual 169, 3) := by decide +kernel
theorem dX6_keep_39 : decode cX6_keep 39 = .ok (.aload_n 0, 1) := by decide +kernel
theorem dX6_keep_40 : decode cX6_keep 40 = .ok (.getfield 10, 3) := by decide +kernel
theorem dX6_keep_43 : decode cX6_keep 43 = .ok (.getfield 84, 3) := by decide +kernel
theorem dX6_keep_46 : decode cX6_keep 46 = .ok (.getfield 111, 3) := by decide +kernel
theorem dX6_keep_49 : decode cX6_keep 49 = .ok (.ireturn, 1) := by decide +kernel
set_option maxRecDepth 20000 in
theorem ggX6_goBack_X6_requireSlot : GoodIn wsX6_goBack wsX6_requireSlot := goodIn_ca (goodIn_r _ [10, 11, 12] (by decide +kernel) (by decide +kernel)) (goodIn_sub (fun _ h => List.mem_cons_of_mem _ (List.mem_append_right _ h)) (by decide +kernel))
set_option maxRecDepth 20000 in
theorem gX6_goBack_X6_requireSlot : GoodIn wsX6_goBack (va_wsS RX6 166 yX6_requireSlot wsX6_requireSlot) := goodIn_app (goodIn_of _ (by decide +kernel)) ggX6_goBack_X6_requireSlot
set_option maxRecDepth 20000 in
theorem ggX6_goBack_X6_beforeChange : GoodIn wsX6_goBack wsX6_beforeChange := goodIn_r _ [16, 17, 4, 18, 19, 20, 21, 22, 23, 24, 25, 26, 27, 28, 29, 30, 31, 32, 33, 34, 35, 36, 37, 38, 39, 40, 41, 42, 43, 44, 45, 46, 47, 48, 49, 50, 51, 52, 53, 54, 55, 56, 57, 58, 59, 60, 61, 62, 63, 65, 66, 67, 68, 69, 83, 84, 70, 71, 72, 73, 74, 75, 76, 77, 78, 79, 80, 81, 82, 85, 86, 87] (by decide +kernel) (by decide +kernel)
set_option maxRecDepth 20000 in
theorem gX6_goBack_X6_beforeChange : GoodIn wsX6_goBack (wsV RX6 45 RX6 yX6_beforeChange wsX6_beforeChange) := goodIn_app (goodIn_of _ (by decide +kernel)) ggX6_goBack_X6_beforeChange
set_option maxRecDepth 20000 in
theorem ggX6_goBack_X5_copyFrom : GoodIn wsX6_goBack wsX5_copyFrom := goodIn_r _ [34, 35, 36, 37, 38, 39, 40, 41, 42, 43, 44, 45, 46, 47, 48, 49, 50, 51, 52, 53, 54, 55, 56, 57, 70, 71, 72, 73, 74, 75, 76, 77, 78, 79, 80, 81, 82] (by decide +kernel) (by decide +kernel)
set_option maxRecDepth 20000 in
theorem gX6_goBack_X5_copyFrom : GoodIn wsX6_goBack (wsV RX6 169 RX5 yX5_copyFrom wsX5_copyFrom) := goodIn_app (goodIn_of _ (by decide +kernel)) ggX6_goBack_X5_copyFrom
theorem dX6_goBack_0 : decode cX6_goBack 0 = .ok (.iload_n 1, 1) := by decide +kernel
theorem dX6_goBack_1 : decode cX6_goBack 1 = .ok (.invokestatic 166, 3) := by decide +kernel
theorem dX6_goBack_4 : decode cX6_goBack 4 = .ok (.aload_n 0, 1) := by decide +kernel
theorem dX6_goBack_5 : decode cX6_goBack 5 = .ok (.getfield 23, 3) := by decide +kernel
theorem dX6_goBack_8 : decode cX6_goBack 8 = .ok (.iload_n 1, 1) := by decide +kernel
theorem dX6_goBack_9 : decode cX6_goBack 9 = .ok (.aaload, 1) := by decide +kernel
theorem dX6_goBack_10 : decode cX6_goBack 10 = .ok (.ifnonnull 13, 3) := by decide +kernel
theorem dX6_goBack_13 : decode cX6_goBack 13 = .ok (.new 143, 3) := by decide +kernel
theorem dX6_goBack_16 : decode cX6_goBack 16 = .ok (.dup, 1) := by decide +kernel
theorem dX6_goBack_17 : decode cX6_goBack 17 = .ok (.ldc 173, 2) := by decide +kernel
theorem dX6_goBack_19 : decode cX6_goBack 19 = .ok (.invokespecial 147, 3) := by decide +kernel
theorem dX6_goBack_22 : decode cX6_goBack 22 = .ok (.athrow, 1) := by decide +kernel
theorem dX6_goBack_23 : decode cX6_goBack 23 = .ok (.aload_n 0, 1) := by decide +kernel
theorem dX6_goBack_24 : decode cX6_goBack 24 = .ok (.invokevirtual 45, 3) := by decide +kernel
theorem dX6_goBack_27 : decode cX6_goBack 27 = .ok (.aload_n 0, 1) := by decide +kernel
theorem dX6_goBack_28 : decode cX6_goBack 28 = .ok (.getfield 10, 3) := by decide +kernel
theorem dX6_goBack_31 : decode cX6_goBack 31 = .ok (.aload_n 0, 1) := by decide +kernel
theorem dX6_goBack_32 : decode cX6_goBack 32 = .ok (.getfield 23, 3) := by decide +kernel
theorem dX6_goBack_35 : decode cX6_goBack 35 = .ok (.iload_n 1, 1) := by decide +kernel
theorem dX6_goBack_36 : decode cX6_goBack 36 = .ok (.aaload, 1) := by decide +kernel
theorem dX6_goBack_37 : decode cX6_goBack 37 = .ok (.invokevirtual 169, 3) := by decide +kernel
theorem dX6_goBack_40 : decode cX6_goBack 40 = .ok (.aload_n 0, 1) := by decide +kernel
theorem dX6_goBack_41 : decode cX6_goBack 41 = .ok (.getfield 10, 3) := by decide +kernel
theorem dX6_goBack_44 : decode cX6_goBack 44 = .ok (.getfield 84, 3) := by decide +kernel
theorem dX6_goBack_47 : decode cX6_goBack 47 = .ok (.getfield 111, 3) := by decide +kernel
theorem dX6_goBack_50 : decode cX6_goBack 50 = .ok (.ireturn, 1) := by decide +kernel
set_option maxRecDepth 20000 in
theorem ggX6_undo_X1_lapse : GoodIn wsX6_undo wsX1_lapse := goodIn_r _ [11, 12, 55, 56, 57] (by decide +kernel) (by decide +kernel)
set_option maxRecDepth 20000 in
theorem gX6_undo_X1_lapse : GoodIn wsX6_undo (wsV RX6 178 RX1 yX1_lapse wsX1_lapse) := goodIn_app (goodIn_of _ (by decide +kernel)) ggX6_undo_X1_lapse
set_option maxRecDepth 20000 in
theorem ggX6_undo_X2_restore : GoodIn wsX6_undo wsX2_restore := goodIn_r _ [17, 18, 19, 20, 21, 22, 23, 24, 25, 26, 27, 28, 29, 30, 31, 32, 33, 34, 35, 36, 37, 38, 39, 40, 41, 42, 43, 44, 45, 46, 47, 53, 54, 58, 59, 60, 61, 62, 63, 64, 65, 66, 67, 68, 69, 70] (by decide +kernel) (by decide +kernel)
set_option maxRecDepth 20000 in
theorem gX6_undo_X2_restore : GoodIn wsX6_undo (wsV RX6 181 RX2 yX2_restore wsX2_restore) := goodIn_app (goodIn_of _ (by decide +kernel)) ggX6_undo_X2_restore
theorem dX6_undo_0 : decode cX6_undo 0 = .ok (.aload_n 0, 1) := by decide +kernel
theorem dX6_undo_1 : decode cX6_undo 1 = .ok (.getfield 19, 3) := by decide +kernel
theorem dX6_undo_4 : decode cX6_undo 4 = .ok (.getfield 175, 3) := by decide +kernel
theorem dX6_undo_7 : decode cX6_undo 7 = .ok (.ifCond .ne 13, 3) := by decide +kernel
theorem dX6_undo_10 : decode cX6_undo 10 = .ok (.new 143, 3) := by decide +kernel
theorem dX6_undo_13 : decode cX6_undo 13 = .ok (.dup, 1) := by decide +kernel
theorem dX6_undo_14 : decode cX6_undo 14 = .ok (.ldc 176, 2) := by decide +kernel
theorem dX6_undo_16 : decode cX6_undo 16 = .ok (.invokespecial 147, 3) := by decide +kernel
theorem dX6_undo_19 : decode cX6_undo 19 = .ok (.athrow, 1) := by decide +kernel
theorem dX6_undo_20 : decode cX6_undo 20 = .ok (.aload_n 0, 1) := by decide +kernel
theorem dX6_undo_21 : decode cX6_undo 21 = .ok (.getfield 37, 3) := by decide +kernel
theorem dX6_undo_24 : decode cX6_undo 24 = .ok (.invokevirtual 178, 3) := by decide +kernel
theorem dX6_undo_27 : decode cX6_undo 27 = .ok (.aload_n 0, 1) := by decide +kernel
theorem dX6_undo_28 : decode cX6_undo 28 = .ok (.getfield 19, 3) := by decide +kernel
theorem dX6_undo_31 : decode cX6_undo 31 = .ok (.aload_n 0, 1) := by decide +kernel
theorem dX6_undo_32 : decode cX6_undo 32 = .ok (.getfield 10, 3) := by decide +kernel
theorem dX6_undo_35 : decode cX6_undo 35 = .ok (.invokevirtual 181, 3) := by decide +kernel
theorem dX6_undo_38 : decode cX6_undo 38 = .ok (.aload_n 0, 1) := by decide +kernel
theorem dX6_undo_39 : decode cX6_undo 39 = .ok (.getfield 19, 3) := by decide +kernel
theorem dX6_undo_42 : decode cX6_undo 42 = .ok (.getfield 175, 3) := by decide +kernel
theorem dX6_undo_45 : decode cX6_undo 45 = .ok (.ireturn, 1) := by decide +kernel
set_option maxRecDepth 20000 in
theorem ggX6_panelOf_X6_requireWhat : GoodIn wsX6_panelOf wsX6_requireWhat := goodIn_ca (goodIn_r _ [8, 9, 10] (by decide +kernel) (by decide +kernel)) (goodIn_sub (fun _ h => List.mem_cons_of_mem _ (List.mem_append_right _ h)) (by decide +kernel))
set_option maxRecDepth 20000 in
theorem gX6_panelOf_X6_requireWhat : GoodIn wsX6_panelOf (va_wsS RX6 187 yX6_requireWhat wsX6_requireWhat) := goodIn_app (goodIn_of _ (by decide +kernel)) ggX6_panelOf_X6_requireWhat
set_option maxRecDepth 20000 in
theorem ggX6_panelOf_X3_placeOf : GoodIn wsX6_panelOf wsX3_placeOf := goodIn_r _ [14] (by decide +kernel) (by decide +kernel)
set_option maxRecDepth 20000 in
theorem gX6_panelOf_X3_placeOf : GoodIn wsX6_panelOf (va_wsS RX6 190 yX3_placeOf wsX3_placeOf) := goodIn_app (goodIn_of _ (by decide +kernel)) ggX6_panelOf_X3_placeOf
set_option maxRecDepth 20000 in
theorem ggX6_panelOf_X5_townsOn : GoodIn wsX6_panelOf wsX5_townsOn := goodIn_r _ [19, 20, 40, 41, 42, 43, 44, 45, 46, 47, 48] (by decide +kernel) (by decide +kernel)
set_option maxRecDepth 20000 in
theorem gX6_panelOf_X5_townsOn : GoodIn wsX6_panelOf (wsV RX6 193 RX5 yX5_townsOn wsX5_townsOn) := goodIn_app (goodIn_of _ (by decide +kernel)) ggX6_panelOf_X5_townsOn
set_option maxRecDepth 20000 in
theorem ggX6_panelOf_X3_panelsWith : GoodIn wsX6_panelOf wsX3_panelsWith := goodIn_r _ [23, 24, 25, 13, 26, 27, 28, 29, 30, 31, 32, 33, 34, 12, 14] (by decide +kernel) (by decide +kernel)
set_option maxRecDepth 20000 in
theorem gX6_panelOf_X3_panelsWith : GoodIn wsX6_panelOf (va_wsS RX6 196 yX3_panelsWith wsX3_panelsWith) := goodIn_app (goodIn_of _ (by decide +kernel)) ggX6_panelOf_X3_panelsWith
theorem dX6_panelOf_0 : decode cX6_panelOf 0 = .ok (.iload_n 1, 1) := by decide +kernel
theorem dX6_panelOf_1 : decode cX6_panelOf 1 = .ok (.ifCond .lt 9, 3) := by decide +kernel
theorem dX6_panelOf_4 : decode cX6_panelOf 4 = .ok (.iload_n 1, 1) := by decide +kernel
theorem dX6_panelOf_5 : decode cX6_panelOf 5 = .ok (.bipush 10, 2) := by decide +kernel
theorem dX6_panelOf_7 : decode cX6_panelOf 7 = .ok (.if_icmp .lt 13, 3) := by decide +kernel
theorem dX6_panelOf_10 : decode cX6_panelOf 10 = .ok (.new 184, 3) := by decide +kernel
theorem dX6_panelOf_13 : decode cX6_panelOf 13 = .ok (.dup, 1) := by decide +kernel
theorem dX6_panelOf_14 : decode cX6_panelOf 14 = .ok (.ldc 75, 2) := by decide +kernel
theorem dX6_panelOf_16 : decode cX6_panelOf 16 = .ok (.invokespecial 186, 3) := by decide +kernel
theorem dX6_panelOf_19 : decode cX6_panelOf 19 = .ok (.athrow, 1) := by decide +kernel
theorem dX6_panelOf_20 : decode cX6_panelOf 20 = .ok (.iload_n 2, 1) := by decide +kernel
theorem dX6_panelOf_21 : decode cX6_panelOf 21 = .ok (.iconst 3, 1) := by decide +kernel
theorem dX6_panelOf_22 : decode cX6_panelOf 22 = .ok (.invokestatic 187, 3) := by decide +kernel
theorem dX6_panelOf_25 : decode cX6_panelOf 25 = .ok (.iload_n 2, 1) := by decide +kernel
theorem dX6_panelOf_26 : decode cX6_panelOf 26 = .ok (.lookupswitch 50 #[(0, 26), (1, 41)], 26) := by decide +kernel
theorem dX6_panelOf_52 : decode cX6_panelOf 52 = .ok (.aload_n 0, 1) := by decide +kernel
theorem dX6_panelOf_53 : decode cX6_panelOf 53 = .ok (.getfield 10, 3) := by decide +kernel
theorem dX6_panelOf_56 : decode cX6_panelOf 56 = .ok (.getfield 63, 3) := by decide +kernel
theorem dX6_panelOf_59 : decode cX6_panelOf 59 = .ok (.iload_n 1, 1) := by decide +kernel
theorem dX6_panelOf_60 : decode cX6_panelOf 60 = .ok (.invokestatic 190, 3) := by decide +kernel
theorem dX6_panelOf_63 : decode cX6_panelOf 63 = .ok (.bipush 100, 2) := by decide +kernel
theorem dX6_panelOf_65 : decode cX6_panelOf 65 = .ok (.iadd, 1) := by decide +kernel
theorem dX6_panelOf_66 : decode cX6_panelOf 66 = .ok (.ireturn, 1) := by decide +kernel
theorem dX6_panelOf_67 : decode cX6_panelOf 67 = .ok (.aload_n 0, 1) := by decide +kernel
theorem dX6_panelOf_68 : decode cX6_panelOf 68 = .ok (.getfield 10, 3) := by decide +kernel
theorem dX6_panelOf_71 : decode cX6_panelOf 71 = .ok (.iload_n 1, 1) := by decide +kernel
theorem dX6_panelOf_72 : decode cX6_panelOf 72 = .ok (.invokevirtual 193, 3) := by decide +kernel
theorem dX6_panelOf_75 : decode cX6_panelOf 75 = .ok (.ireturn, 1) := by decide +kernel
theorem dX6_panelOf_76 : decode cX6_panelOf 76 = .ok (.aload_n 0, 1) := by decide +kernel
theorem dX6_panelOf_77 : decode cX6_panelOf 77 = .ok (.getfield 10, 3) := by decide +kernel
theorem dX6_panelOf_80 : decode cX6_panelOf 80 = .ok (.getfield 63, 3) := by decide +kernel
theorem dX6_panelOf_83 : decode cX6_panelOf 83 = .ok (.iload_n 1, 1) := by decide +kernel
theorem dX6_panelOf_84 : decode cX6_panelOf 84 = .ok (.invokestatic 196, 3) := by decide +kernel
theorem dX6_panelOf_87 : decode cX6_panelOf 87 = .ok (.ireturn, 1) := by decide +kernel
set_option maxRecDepth 20000 in
theorem ggX6_creaseOf_X6_requireCrease : GoodIn wsX6_creaseOf wsX6_requireCrease := goodIn_ca (goodIn_r _ [9, 10, 11] (by decide +kernel) (by decide +kernel)) (goodIn_sub (fun _ h => List.mem_cons_of_mem _ (List.mem_append_left _ (List.mem_append_right _ h))) (by decide +kernel))
set_option maxRecDepth 20000 in
theorem gX6_creaseOf_X6_requireCrease : GoodIn wsX6_creaseOf (va_wsS RX6 41 yX6_requireCrease wsX6_requireCrease) := goodIn_app (goodIn_of _ (by decide +kernel)) ggX6_creaseOf_X6_requireCrease
set_option maxRecDepth 20000 in
theorem ggX6_creaseOf_X6_requireWhat : GoodIn wsX6_creaseOf wsX6_requireWhat := goodIn_ca (goodIn_r _ [14, 15, 16] (by decide +kernel) (by decide +kernel)) (goodIn_sub (fun _ h => List.mem_cons_of_mem _ (List.mem_append_right _ h)) (by decide +kernel))
set_option maxRecDepth 20000 in
theorem gX6_creaseOf_X6_requireWhat : GoodIn wsX6_creaseOf (va_wsS RX6 187 yX6_requireWhat wsX6_requireWhat) := goodIn_app (goodIn_of _ (by decide +kernel)) ggX6_creaseOf_X6_requireWhat
set_option maxRecDepth 20000 in
theorem ggX6_creaseOf_X6_bit : GoodIn wsX6_creaseOf wsX6_bit := goodIn_r _ [19] (by decide +kernel) (by decide +kernel)
set_option maxRecDepth 20000 in
theorem gX6_creaseOf_X6_bit : GoodIn wsX6_creaseOf (va_wsS RX6 66 yX6_bit wsX6_bit) := goodIn_app (goodIn_of _ (by decide +kernel)) ggX6_creaseOf_X6_bit
set_option maxRecDepth 20000 in
theorem ggX6_creaseOf_X1_of : GoodIn wsX6_creaseOf wsX1_of := goodIn_r _ [24, 25, 26, 27, 28, 29, 30, 31, 32, 33, 34, 35, 36, 37, 38, 39, 40, 41, 42, 43, 44, 45, 46, 47, 48, 49, 50, 51, 52, 71, 72, 73, 62, 63, 64, 65, 66, 67, 68, 69, 70, 74, 75, 76, 77] (by decide +kernel) (by decide +kernel)
set_option maxRecDepth 20000 in
theorem gX6_creaseOf_X1_of : GoodIn wsX6_creaseOf (wsV RX6 202 RX1 yX1_of wsX1_of) := goodIn_app (goodIn_of _ (by decide +kernel)) ggX6_creaseOf_X1_of
set_option maxRecDepth 20000 in
theorem ggX6_creaseOf_X1_surely : GoodIn wsX6_creaseOf wsX1_surely := goodIn_r _ [56, 26, 29, 18, 8, 19, 71, 72, 73] (by decide +kernel) (by decide +kernel)
set_option maxRecDepth 20000 in
theorem gX6_creaseOf_X1_surely : GoodIn wsX6_creaseOf (wsV RX6 206 RX1 yX1_surely wsX1_surely) := goodIn_app (goodIn_of _ (by decide +kernel)) ggX6_creaseOf_X1_surely
theorem dX6_creaseOf_0 : decode cX6_creaseOf 0 = .ok (.iload_n 1, 1) := by decide +kernel
theorem dX6_creaseOf_1 : decode cX6_creaseOf 1 = .ok (.invokestatic 41, 3) := by decide +kernel
theorem dX6_creaseOf_4 : decode cX6_creaseOf 4 = .ok (.iload_n 2, 1) := by decide +kernel
theorem dX6_creaseOf_5 : decode cX6_creaseOf 5 = .ok (.iconst 4, 1) := by decide +kernel
theorem dX6_creaseOf_6 : decode cX6_creaseOf 6 = .ok (.invokestatic 187, 3) := by decide +kernel
theorem dX6_creaseOf_9 : decode cX6_creaseOf 9 = .ok (.iload_n 2, 1) := by decide +kernel
theorem dX6_creaseOf_10 : decode cX6_creaseOf 10 = .ok (.tableswitch 60 0 2 #[26, 38, 48], 26) := by decide +kernel
theorem dX6_creaseOf_36 : decode cX6_creaseOf 36 = .ok (.aload_n 0, 1) := by decide +kernel
theorem dX6_creaseOf_37 : decode cX6_creaseOf 37 = .ok (.getfield 10, 3) := by decide +kernel
theorem dX6_creaseOf_40 : decode cX6_creaseOf 40 = .ok (.getfield 63, 3) := by decide +kernel
theorem dX6_creaseOf_43 : decode cX6_creaseOf 43 = .ok (.iload_n 1, 1) := by decide +kernel
theorem dX6_creaseOf_44 : decode cX6_creaseOf 44 = .ok (.invokestatic 66, 3) := by decide +kernel
theorem dX6_creaseOf_47 : decode cX6_creaseOf 47 = .ok (.ireturn, 1) := by decide +kernel
theorem dX6_creaseOf_48 : decode cX6_creaseOf 48 = .ok (.aload_n 0, 1) := by decide +kernel
theorem dX6_creaseOf_49 : decode cX6_creaseOf 49 = .ok (.getfield 10, 3) := by decide +kernel
theorem dX6_creaseOf_52 : decode cX6_creaseOf 52 = .ok (.getfield 199, 3) := by decide +kernel
theorem dX6_creaseOf_55 : decode cX6_creaseOf 55 = .ok (.iload_n 1, 1) := by decide +kernel
theorem dX6_creaseOf_56 : decode cX6_creaseOf 56 = .ok (.iaload, 1) := by decide +kernel
theorem dX6_creaseOf_57 : decode cX6_creaseOf 57 = .ok (.ireturn, 1) := by decide +kernel
theorem dX6_creaseOf_58 : decode cX6_creaseOf 58 = .ok (.aload_n 0, 1) := by decide +kernel
theorem dX6_creaseOf_59 : decode cX6_creaseOf 59 = .ok (.getfield 10, 3) := by decide +kernel
theorem dX6_creaseOf_62 : decode cX6_creaseOf 62 = .ok (.getfield 48, 3) := by decide +kernel
theorem dX6_creaseOf_65 : decode cX6_creaseOf 65 = .ok (.iload_n 1, 1) := by decide +kernel
theorem dX6_creaseOf_66 : decode cX6_creaseOf 66 = .ok (.invokestatic 66, 3) := by decide +kernel
theorem dX6_creaseOf_69 : decode cX6_creaseOf 69 = .ok (.ireturn, 1) := by decide +kernel
theorem dX6_creaseOf_70 : decode cX6_creaseOf 70 = .ok (.aload_n 0, 1) := by decide +kernel
theorem dX6_creaseOf_71 : decode cX6_creaseOf 71 = .ok (.getfield 37, 3) := by decide +kernel
theorem dX6_creaseOf_74 : decode cX6_creaseOf 74 = .ok (.aload_n 0, 1) := by decide +kernel
theorem dX6_creaseOf_75 : decode cX6_creaseOf 75 = .ok (.getfield 10, 3) := by decide +kernel
theorem dX6_creaseOf_78 : decode cX6_creaseOf 78 = .ok (.invokevirtual 202, 3) := by decide +kernel
theorem dX6_creaseOf_81 : decode cX6_creaseOf 81 = .ok (.iload_n 1, 1) := by decide +kernel
theorem dX6_creaseOf_82 : decode cX6_creaseOf 82 = .ok (.invokevirtual 206, 3) := by decide +kernel
theorem dX6_creaseOf_85 : decode cX6_creaseOf 85 = .ok (.ireturn, 1) := by decide +kernel
set_option maxRecDepth 20000 in
theorem ggX6_between_X6_requireTown : GoodIn wsX6_between wsX6_requireTown := goodIn_ca (goodIn_r _ [12, 13, 14] (by decide +kernel) (by decide +kernel)) (goodIn_sub (fun _ h => List.mem_cons_of_mem _ (List.mem_append_left _ (List.mem_append_right _ h))) (by decide +kernel))
set_option maxRecDepth 20000 in
theorem gX6_between_X6_requireTown : GoodIn wsX6_between (va_wsS RX6 70 yX6_requireTown wsX6_requireTown) := goodIn_app (goodIn_of _ (by decide +kernel)) ggX6_between_X6_requireTown
set_option maxRecDepth 20000 in
theorem ggX6_between_X6_requireWhat : GoodIn wsX6_between wsX6_requireWhat := goodIn_ca (goodIn_r _ [17, 18, 19] (by decide +kernel) (by decide +kernel)) (goodIn_sub (fun _ h => List.mem_cons_of_mem _ (List.mem_append_right _ h)) (by decide +kernel))
set_option maxRecDepth 20000 in
theorem gX6_between_X6_requireWhat : GoodIn wsX6_between (va_wsS RX6 187 yX6_requireWhat wsX6_requireWhat) := goodIn_app (goodIn_of _ (by decide +kernel)) ggX6_between_X6_requireWhat
set_option maxRecDepth 20000 in
theorem ggX6_between_X3_placeOf : GoodIn wsX6_between wsX3_placeOf := goodIn_r _ [23] (by decide +kernel) (by decide +kernel)
set_option maxRecDepth 20000 in
theorem gX6_between_X3_placeOf : GoodIn wsX6_between (va_wsS RX6 190 yX3_placeOf wsX3_placeOf) := goodIn_app (goodIn_of _ (by decide +kernel)) ggX6_between_X3_placeOf
set_option maxRecDepth 20000 in
theorem ggX6_between_X3_meeting : GoodIn wsX6_between wsX3_meeting := goodIn_r _ [26, 27, 28, 5, 29, 30, 4, 6, 31, 21, 22, 23] (by decide +kernel) (by decide +kernel)
set_option maxRecDepth 20000 in
theorem gX6_between_X3_meeting : GoodIn wsX6_between (va_wsS RX6 117 yX3_meeting wsX3_meeting) := goodIn_app (goodIn_of _ (by decide +kernel)) ggX6_between_X3_meeting
set_option maxRecDepth 20000 in
theorem ggX6_between_X0_about : GoodIn wsX6_between wsX0_about := goodIn_r _ [36, 37, 28, 5, 29, 38, 39, 40, 41, 42, 43, 44, 59, 60, 61, 62] (by decide +kernel) (by decide +kernel)
set_option maxRecDepth 20000 in
theorem gX6_between_X0_about : GoodIn wsX6_between (wsV RX6 114 RX0 yX0_about wsX0_about) := goodIn_app (goodIn_of _ (by decide +kernel)) ggX6_between_X0_about
theorem dX6_between_0 : decode cX6_between 0 = .ok (.iload_n 1, 1) := by decide +kernel
theorem dX6_between_1 : decode cX6_between 1 = .ok (.invokestatic 70, 3) := by decide +kernel
theorem dX6_between_4 : decode cX6_between 4 = .ok (.iload_n 2, 1) := by decide +kernel
theorem dX6_between_5 : decode cX6_between 5 = .ok (.invokestatic 70, 3) := by decide +kernel
theorem dX6_between_8 : decode cX6_between 8 = .ok (.iload_n 3, 1) := by decide +kernel
theorem dX6_between_9 : decode cX6_between 9 = .ok (.iconst 4, 1) := by decide +kernel
theorem dX6_between_10 : decode cX6_between 10 = .ok (.invokestatic 187, 3) := by decide +kernel
theorem dX6_between_13 : decode cX6_between 13 = .ok (.aload_n 0, 1) := by decide +kernel
theorem dX6_between_14 : decode cX6_between 14 = .ok (.getfield 10, 3) := by decide +kernel
theorem dX6_between_17 : decode cX6_between 17 = .ok (.getfield 80, 3) := by decide +kernel
theorem dX6_between_20 : decode cX6_between 20 = .ok (.iload_n 1, 1) := by decide +kernel
theorem dX6_between_21 : decode cX6_between 21 = .ok (.iaload, 1) := by decide +kernel
theorem dX6_between_22 : decode cX6_between 22 = .ok (.istore 4, 2) := by decide +kernel
theorem dX6_between_24 : decode cX6_between 24 = .ok (.aload_n 0, 1) := by decide +kernel
theorem dX6_between_25 : decode cX6_between 25 = .ok (.getfield 10, 3) := by decide +kernel
theorem dX6_between_28 : decode cX6_between 28 = .ok (.getfield 80, 3) := by decide +kernel
theorem dX6_between_31 : decode cX6_between 31 = .ok (.iload_n 2, 1) := by decide +kernel
theorem dX6_between_32 : decode cX6_between 32 = .ok (.iaload, 1) := by decide +kernel
theorem dX6_between_33 : decode cX6_between 33 = .ok (.istore 5, 2) := by decide +kernel
theorem dX6_between_35 : decode cX6_between 35 = .ok (.iload_n 3, 1) := by decide +kernel
theorem dX6_between_36 : decode cX6_between 36 = .ok (.tableswitch 81 0 2 #[28, 37, 66], 28) := by decide +kernel
theorem dX6_between_64 : decode cX6_between 64 = .ok (.iload 4, 2) := by decide +kernel
theorem dX6_between_66 : decode cX6_between 66 = .ok (.iload 5, 2) := by decide +kernel
theorem dX6_between_68 : decode cX6_between 68 = .ok (.isub, 1) := by decide +kernel
theorem dX6_between_69 : decode cX6_between 69 = .ok (.invokestatic 209, 3) := by decide +kernel
theorem dX6_between_72 : decode cX6_between 72 = .ok (.ireturn, 1) := by decide +kernel
theorem dX6_between_73 : decode cX6_between 73 = .ok (.aload_n 0, 1) := by decide +kernel
theorem dX6_between_74 : decode cX6_between 74 = .ok (.getfield 10, 3) := by decide +kernel
theorem dX6_between_77 : decode cX6_between 77 = .ok (.getfield 63, 3) := by decide +kernel
theorem dX6_between_80 : decode cX6_between 80 = .ok (.iload 4, 2) := by decide +kernel
theorem dX6_between_82 : decode cX6_between 82 = .ok (.invokestatic 190, 3) := by decide +kernel
theorem dX6_between_85 : decode cX6_between 85 = .ok (.aload_n 0, 1) := by decide +kernel
theorem dX6_between_86 : decode cX6_between 86 = .ok (.getfield 10, 3) := by decide +kernel
theorem dX6_between_89 : decode cX6_between 89 = .ok (.getfield 63, 3) := by decide +kernel
theorem dX6_between_92 : decode cX6_between 92 = .ok (.iload 5, 2) := by decide +kernel
theorem dX6_between_94 : decode cX6_between 94 = .ok (.invokestatic 190, 3) := by decide +kernel
theorem dX6_between_97 : decode cX6_between 97 = .ok (.isub, 1) := by decide +kernel
theorem dX6_between_98 : decode cX6_between 98 = .ok (.invokestatic 209, 3) := by decide +kernel
theorem dX6_between_101 : decode cX6_between 101 = .ok (.ireturn, 1) := by decide +kernel
theorem dX6_between_102 : decode cX6_between 102 = .ok (.aload_n 0, 1) := by decide +kernel
theorem dX6_between_103 : decode cX6_between 103 = .ok (.getfield 10, 3) := by decide +kernel
theorem dX6_between_106 : decode cX6_between 106 = .ok (.getfield 63, 3) := by decide +kernel
theorem dX6_between_109 : decode cX6_between 109 = .ok (.iload 4, 2) := by decide +kernel
theorem dX6_between_111 : decode cX6_between 111 = .ok (.iload 5, 2) := by decide +kernel
theorem dX6_between_113 : decode cX6_between 113 = .ok (.invokestatic 117, 3) := by decide +kernel
theorem dX6_between_116 : decode cX6_between 116 = .ok (.ireturn, 1) := by decide +kernel
theorem dX6_between_117 : decode cX6_between 117 = .ok (.aload_n 0, 1) := by decide +kernel
theorem dX6_between_118 : decode cX6_between 118 = .ok (.getfield 10, 3) := by decide +kernel
theorem dX6_between_121 : decode cX6_between 121 = .ok (.getfield 84, 3) := by decide +kernel
theorem dX6_between_124 : decode cX6_between 124 = .ok (.iload 4, 2) := by decide +kernel
theorem dX6_between_126 : decode cX6_between 126 = .ok (.iload 5, 2) := by decide +kernel
theorem dX6_between_128 : decode cX6_between 128 = .ok (.invokevirtual 114, 3) := by decide +kernel
theorem dX6_between_131 : decode cX6_between 131 = .ok (.ireturn, 1) := by decide +kernel
set_option maxRecDepth 20000 in
theorem ggX6_town_X6_requireTown : GoodIn wsX6_town wsX6_requireTown := goodIn_ca (goodIn_r _ [6, 7, 8] (by decide +kernel) (by decide +kernel)) (goodIn_sub (fun _ h => List.mem_cons_of_mem _ (List.mem_append_right _ h)) (by decide +kernel))
set_option maxRecDepth 20000 in
theorem gX6_town_X6_requireTown : GoodIn wsX6_town (va_wsS RX6 70 yX6_requireTown wsX6_requireTown) := goodIn_app (goodIn_of _ (by decide +kernel)) ggX6_town_X6_requireTown
theorem dX6_town_0 : decode cX6_town 0 = .ok (.iload_n 1, 1) := by decide +kernel
theorem dX6_town_1 : decode cX6_town 1 = .ok (.invokestatic 70, 3) := by decide +kernel
theorem dX6_town_4 : decode cX6_town 4 = .ok (.aload_n 0, 1) := by decide +kernel
theorem dX6_town_5 : decode cX6_town 5 = .ok (.getfield 10, 3) := by decide +kernel
theorem dX6_town_8 : decode cX6_town 8 = .ok (.getfield 80, 3) := by decide +kernel
theorem dX6_town_11 : decode cX6_town 11 = .ok (.iload_n 1, 1) := by decide +kernel
theorem dX6_town_12 : decode cX6_town 12 = .ok (.iaload, 1) := by decide +kernel
theorem dX6_town_13 : decode cX6_town 13 = .ok (.ireturn, 1) := by decide +kernel
set_option maxRecDepth 20000 in
theorem ggX6_count_X6_requireWhat : GoodIn wsX6_count wsX6_requireWhat := goodIn_ca (goodIn_r _ [17, 18, 19] (by decide +kernel) (by decide +kernel)) (goodIn_sub (fun _ h => List.mem_cons_of_mem _ (List.mem_append_right _ h)) (by decide +kernel))
set_option maxRecDepth 20000 in
theorem gX6_count_X6_requireWhat : GoodIn wsX6_count (va_wsS RX6 187 yX6_requireWhat wsX6_requireWhat) := goodIn_app (goodIn_of _ (by decide +kernel)) ggX6_count_X6_requireWhat
set_option maxRecDepth 20000 in
theorem ggX6_count_J6_bitCount_0f7a4 : GoodIn wsX6_count wsJ6_bitCount_0f7a4 := goodIn_r _ [23, 24, 25, 26] (by decide +kernel) (by decide +kernel)
set_option maxRecDepth 20000 in
theorem gX6_count_J6_bitCount_0f7a4 : GoodIn wsX6_count (va_wsS RX6 99 yJ6_bitCount_0f7a4 wsJ6_bitCount_0f7a4) := goodIn_app (goodIn_of _ (by decide +kernel)) ggX6_count_J6_bitCount_0f7a4
set_option maxRecDepth 20000 in
theorem ggX6_count_X3_width : GoodIn wsX6_count wsX3_width := goodIn_r _ [30, 31, 32, 33, 34, 35, 36, 37, 38, 39, 29, 40] (by decide +kernel) (by decide +kernel)
set_option maxRecDepth 20000 in
theorem gX6_count_X3_width : GoodIn wsX6_count (va_wsS RX6 214 yX3_width wsX3_width) := goodIn_app (goodIn_of _ (by decide +kernel)) ggX6_count_X3_width
set_option maxRecDepth 20000 in
theorem ggX6_count_X1_of : GoodIn wsX6_count wsX1_of := goodIn_r _ [45, 46, 47, 48, 49, 50, 51, 52, 53, 54, 55, 56, 57, 58, 59, 60, 61, 29, 62, 31, 32, 33, 34, 63, 64, 65, 38, 39, 40, 97, 98, 99, 84, 85, 86, 87, 88, 89, 90, 91, 92, 93, 94, 95, 96] (by decide +kernel) (by decide +kernel)
set_option maxRecDepth 20000 in
theorem gX6_count_X1_of : GoodIn wsX6_count (wsV RX6 202 RX1 yX1_of wsX1_of) := goodIn_app (goodIn_of _ (by decide +kernel)) ggX6_count_X1_of
set_option maxRecDepth 20000 in
theorem ggX6_count_X6_foldingsWalked : GoodIn wsX6_count wsX6_foldingsWalked := goodIn_r _ [68, 4, 3, 69, 70, 71, 54, 72, 56, 58, 57, 59, 60, 61, 29, 62, 31, 32, 33, 34, 63, 64, 65, 38, 39, 40, 66, 67, 16, 73, 74, 75, 76, 77, 78, 84, 85, 86, 87, 88, 89, 90, 91, 92, 93, 94, 95, 96] (by decide +kernel) (by decide +kernel)
set_option maxRecDepth 20000 in
theorem gX6_count_X6_foldingsWalked : GoodIn wsX6_count (va_wsS RX6 218 yX6_foldingsWalked wsX6_foldingsWalked) := goodIn_app (goodIn_of _ (by decide +kernel)) ggX6_count_X6_foldingsWalked
theorem dX6_count_0 : decode cX6_count 0 = .ok (.iload_n 1, 1) := by decide +kernel
theorem dX6_count_1 : decode cX6_count 1 = .ok (.bipush 11, 2) := by decide +kernel
theorem dX6_count_3 : decode cX6_count 3 = .ok (.invokestatic 187, 3) := by decide +kernel
theorem dX6_count_6 : decode cX6_count 6 = .ok (.iload_n 1, 1) := by decide +kernel
theorem dX6_count_7 : decode cX6_count 7 = .ok (.tableswitch 154 0 9 #[53, 64, 75, 86, 97, 112, 122, 130, 138, 146], 53) := by decide +kernel
theorem dX6_count_60 : decode cX6_count 60 = .ok (.aload_n 0, 1) := by decide +kernel
theorem dX6_count_61 : decode cX6_count 61 = .ok (.getfield 10, 3) := by decide +kernel
theorem dX6_count_64 : decode cX6_count 64 = .ok (.getfield 63, 3) := by decide +kernel
theorem dX6_count_67 : decode cX6_count 67 = .ok (.invokestatic 99, 3) := by decide +kernel
theorem dX6_count_70 : decode cX6_count 70 = .ok (.ireturn, 1) := by decide +kernel
theorem dX6_count_71 : decode cX6_count 71 = .ok (.aload_n 0, 1) := by decide +kernel
theorem dX6_count_72 : decode cX6_count 72 = .ok (.getfield 10, 3) := by decide +kernel
theorem dX6_count_75 : decode cX6_count 75 = .ok (.getfield 48, 3) := by decide +kernel
theorem dX6_count_78 : decode cX6_count 78 = .ok (.invokestatic 99, 3) := by decide +kernel
theorem dX6_count_81 : decode cX6_count 81 = .ok (.ireturn, 1) := by decide +kernel
theorem dX6_count_82 : decode cX6_count 82 = .ok (.aload_n 0, 1) := by decide +kernel
theorem dX6_count_83 : decode cX6_count 83 = .ok (.getfield 10, 3) := by decide +kernel
theorem dX6_count_86 : decode cX6_count 86 = .ok (.getfield 63, 3) := by decide +kernel
theorem dX6_count_89 : decode cX6_count 89 = .ok (.invokestatic 214, 3) := by decide +kernel
theorem dX6_count_92 : decode cX6_count 92 = .ok (.ireturn, 1) := by decide +kernel
theorem dX6_count_93 : decode cX6_count 93 = .ok (.aload_n 0, 1) := by decide +kernel
theorem dX6_count_94 : decode cX6_count 94 = .ok (.getfield 10, 3) := by decide +kernel
theorem dX6_count_97 : decode cX6_count 97 = .ok (.getfield 84, 3) := by decide +kernel
theorem dX6_count_100 : decode cX6_count 100 = .ok (.getfield 111, 3) := by decide +kernel
theorem dX6_count_103 : decode cX6_count 103 = .ok (.ireturn, 1) := by decide +kernel
theorem dX6_count_104 : decode cX6_count 104 = .ok (.aload_n 0, 1) := by decide +kernel
theorem dX6_count_105 : decode cX6_count 105 = .ok (.getfield 37, 3) := by decide +kernel
theorem dX6_count_108 : decode cX6_count 108 = .ok (.aload_n 0, 1) := by decide +kernel
theorem dX6_count_109 : decode cX6_count 109 = .ok (.getfield 10, 3) := by decide +kernel
theorem dX6_count_112 : decode cX6_count 112 = .ok (.invokevirtual 202, 3) := by decide +kernel
theorem dX6_count_115 : decode cX6_count 115 = .ok (.getfield 217, 3) := by decide +kernel
theorem dX6_count_118 : decode cX6_count 118 = .ok (.ireturn, 1) := by decide +kernel
theorem dX6_count_119 : decode cX6_count 119 = .ok (.aload_n 0, 1) := by decide +kernel
theorem dX6_count_120 : decode cX6_count 120 = .ok (.getfield 10, 3) := by decide +kernel
theorem dX6_count_123 : decode cX6_count 123 = .ok (.iconst 0, 1) := by decide +kernel
theorem dX6_count_124 : decode cX6_count 124 = .ok (.iconst 0, 1) := by decide +kernel
theorem dX6_count_125 : decode cX6_count 125 = .ok (.invokestatic 218, 3) := by decide +kernel
theorem dX6_count_128 : decode cX6_count 128 = .ok (.ireturn, 1) := by decide +kernel
theorem dX6_count_129 : decode cX6_count 129 = .ok (.aload_n 0, 1) := by decide +kernel
theorem dX6_count_130 : decode cX6_count 130 = .ok (.getfield 10, 3) := by decide +kernel
theorem dX6_count_133 : decode cX6_count 133 = .ok (.getfield 127, 3) := by decide +kernel
theorem dX6_count_136 : decode cX6_count 136 = .ok (.ireturn, 1) := by decide +kernel
theorem dX6_count_137 : decode cX6_count 137 = .ok (.aload_n 0, 1) := by decide +kernel
theorem dX6_count_138 : decode cX6_count 138 = .ok (.getfield 10, 3) := by decide +kernel
theorem dX6_count_141 : decode cX6_count 141 = .ok (.getfield 132, 3) := by decide +kernel
theorem dX6_count_144 : decode cX6_count 144 = .ok (.ireturn, 1) := by decide +kernel
theorem dX6_count_145 : decode cX6_count 145 = .ok (.aload_n 0, 1) := by decide +kernel
theorem dX6_count_146 : decode cX6_count 146 = .ok (.getfield 10, 3) := by decide +kernel
theorem dX6_count_149 : decode cX6_count 149 = .ok (.getfield 135, 3) := by decide +kernel
theorem dX6_count_152 : decode cX6_count 152 = .ok (.ireturn, 1) := by decide +kernel
theorem dX6_count_153 : decode cX6_count 153 = .ok (.aload_n 0, 1) := by decide +kernel
theorem dX6_count_154 : decode cX6_count 154 = .ok (.getfield 10, 3) := by decide +kernel
theorem dX6_count_157 : decode cX6_count 157 = .ok (.getfield 222, 3) := by decide +kernel
theorem dX6_count_160 : decode cX6_count 160 = .ok (.ireturn, 1) := by decide +kernel
theorem dX6_count_161 : decode cX6_count 161 = .ok (.aload_n 0, 1) := by decide +kernel
theorem dX6_count_162 : decode cX6_count 162 = .ok (.getfield 19, 3) := by decide +kernel
theorem dX6_count_165 : decode cX6_count 165 = .ok (.getfield 175, 3) := by decide +kernel
theorem dX6_count_168 : decode cX6_count 168 = .ok (.ireturn, 1) := by decide +kernel
set_option maxRecDepth 20000 in
theorem ggX6_ifTouching_X6_requireTwoTowns : GoodIn wsX6_ifTouching wsX6_requireTwoTowns := goodIn_ca (goodIn_ca (goodIn_r _ [7, 8, 9, 10, 11, 6, 12, 13, 14] (by decide +kernel) (by decide +kernel)) (goodIn_sub (fun _ h => List.mem_cons_of_mem _ (List.mem_append_left _ (List.mem_append_right _ h))) (by decide +kernel))) (goodIn_sub (fun _ h => List.mem_cons_of_mem _ (List.mem_append_right _ h)) (by decide +kernel))
set_option maxRecDepth 20000 in
theorem gX6_ifTouching_X6_requireTwoTowns : GoodIn wsX6_ifTouching (va_wsS RX6 107 yX6_requireTwoTowns wsX6_requireTwoTowns) := goodIn_app (goodIn_of _ (by decide +kernel)) ggX6_ifTouching_X6_requireTwoTowns
set_option maxRecDepth 20000 in
theorem ggX6_ifTouching_X1_of : GoodIn wsX6_ifTouching wsX1_of := goodIn_r _ [19, 20, 21, 22, 23, 24, 25, 26, 27, 28, 29, 30, 31, 32, 33, 34, 35, 36, 37, 38, 39, 40, 41, 42, 43, 44, 45, 46, 47, 67, 68, 69, 58, 59, 60, 61, 62, 63, 64, 65, 66, 70, 71, 72, 73] (by decide +kernel) (by decide +kernel)
set_option maxRecDepth 20000 in
theorem gX6_ifTouching_X1_of : GoodIn wsX6_ifTouching (wsV RX6 202 RX1 yX1_of wsX1_of) := goodIn_app (goodIn_of _ (by decide +kernel)) ggX6_ifTouching_X1_of
set_option maxRecDepth 20000 in
theorem ggX6_ifTouching_X1_withMeeting : GoodIn wsX6_ifTouching wsX1_withMeeting := goodIn_r _ [51, 21, 24, 52, 35, 36, 37, 38, 39, 40, 41, 42, 43, 44, 45, 46, 47, 67, 68, 69] (by decide +kernel) (by decide +kernel)
set_option maxRecDepth 20000 in
theorem gX6_ifTouching_X1_withMeeting : GoodIn wsX6_ifTouching (wsV RX6 225 RX1 yX1_withMeeting wsX1_withMeeting) := goodIn_app (goodIn_of _ (by decide +kernel)) ggX6_ifTouching_X1_withMeeting
theorem dX6_ifTouching_0 : decode cX6_ifTouching 0 = .ok (.iload_n 1, 1) := by decide +kernel
theorem dX6_ifTouching_1 : decode cX6_ifTouching 1 = .ok (.iload_n 2, 1) := by decide +kernel
theorem dX6_ifTouching_2 : decode cX6_ifTouching 2 = .ok (.invokestatic 107, 3) := by decide +kernel
theorem dX6_ifTouching_5 : decode cX6_ifTouching 5 = .ok (.aload_n 0, 1) := by decide +kernel
theorem dX6_ifTouching_6 : decode cX6_ifTouching 6 = .ok (.getfield 37, 3) := by decide +kernel
theorem dX6_ifTouching_9 : decode cX6_ifTouching 9 = .ok (.aload_n 0, 1) := by decide +kernel
theorem dX6_ifTouching_10 : decode cX6_ifTouching 10 = .ok (.getfield 10, 3) := by decide +kernel
theorem dX6_ifTouching_13 : decode cX6_ifTouching 13 = .ok (.invokevirtual 202, 3) := by decide +kernel
theorem dX6_ifTouching_16 : decode cX6_ifTouching 16 = .ok (.aload_n 0, 1) := by decide +kernel
theorem dX6_ifTouching_17 : decode cX6_ifTouching 17 = .ok (.getfield 10, 3) := by decide +kernel
theorem dX6_ifTouching_20 : decode cX6_ifTouching 20 = .ok (.getfield 80, 3) := by decide +kernel
theorem dX6_ifTouching_23 : decode cX6_ifTouching 23 = .ok (.iload_n 1, 1) := by decide +kernel
theorem dX6_ifTouching_24 : decode cX6_ifTouching 24 = .ok (.iaload, 1) := by decide +kernel
theorem dX6_ifTouching_25 : decode cX6_ifTouching 25 = .ok (.aload_n 0, 1) := by decide +kernel
theorem dX6_ifTouching_26 : decode cX6_ifTouching 26 = .ok (.getfield 10, 3) := by decide +kernel
theorem dX6_ifTouching_29 : decode cX6_ifTouching 29 = .ok (.getfield 80, 3) := by decide +kernel
theorem dX6_ifTouching_32 : decode cX6_ifTouching 32 = .ok (.iload_n 2, 1) := by decide +kernel
theorem dX6_ifTouching_33 : decode cX6_ifTouching 33 = .ok (.iaload, 1) := by decide +kernel
theorem dX6_ifTouching_34 : decode cX6_ifTouching 34 = .ok (.invokevirtual 225, 3) := by decide +kernel
theorem dX6_ifTouching_37 : decode cX6_ifTouching 37 = .ok (.ireturn, 1) := by decide +kernel
set_option maxRecDepth 20000 in
theorem ggX6_bestQuestion_X6_isWorthAsking : GoodIn wsX6_bestQuestion wsX6_isWorthAsking := goodIn_r _ [5, 6, 7, 8, 9, 10, 11, 12, 13, 14, 15, 16, 17, 18, 19, 20, 21, 22, 23, 24, 62, 63, 64, 65, 66, 67, 68, 69, 70, 71, 72, 73, 74, 75, 76, 77, 78, 79] (by decide +kernel) (by decide +kernel)
set_option maxRecDepth 20000 in
theorem gX6_bestQuestion_X6_isWorthAsking : GoodIn wsX6_bestQuestion (wsV RX6 228 RX6 yX6_isWorthAsking wsX6_isWorthAsking) := goodIn_app (goodIn_of _ (by decide +kernel)) ggX6_bestQuestion_X6_isWorthAsking
set_option maxRecDepth 20000 in
theorem ggX6_bestQuestion_X6_mostLeftAfter : GoodIn wsX6_bestQuestion wsX6_mostLeftAfter := goodIn_r _ [28, 29, 6, 7, 30, 31, 19, 16, 20, 32, 33, 34, 35, 36, 37, 38, 39, 40, 41, 42, 43, 44, 12, 45, 21, 22, 23, 24, 46, 47, 48, 49, 50, 15, 17, 51, 52, 53, 54, 55, 56, 57, 58, 59, 60, 61, 62, 63, 64, 65, 66, 67, 68, 69, 70, 71, 72, 73, 74, 75, 80, 81, 82, 76, 77, 78, 79] (by decide +kernel) (by decide +kernel)
set_option maxRecDepth 20000 in
theorem gX6_bestQuestion_X6_mostLeftAfter : GoodIn wsX6_bestQuestion (wsV RX6 231 RX6 yX6_mostLeftAfter wsX6_mostLeftAfter) := goodIn_app (goodIn_of _ (by decide +kernel)) ggX6_bestQuestion_X6_mostLeftAfter
theorem dX6_bestQuestion_0 : decode cX6_bestQuestion 0 = .ok (.iconst (-1), 1) := by decide +kernel
theorem dX6_bestQuestion_1 : decode cX6_bestQuestion 1 = .ok (.istore_n 1, 1) := by decide +kernel
theorem dX6_bestQuestion_2 : decode cX6_bestQuestion 2 = .ok (.sipush 513, 3) := by decide +kernel
theorem dX6_bestQuestion_5 : decode cX6_bestQuestion 5 = .ok (.istore_n 2, 1) := by decide +kernel
theorem dX6_bestQuestion_6 : decode cX6_bestQuestion 6 = .ok (.iconst 0, 1) := by decide +kernel
theorem dX6_bestQuestion_7 : decode cX6_bestQuestion 7 = .ok (.istore_n 3, 1) := by decide +kernel
theorem dX6_bestQuestion_8 : decode cX6_bestQuestion 8 = .ok (.iload_n 3, 1) := by decide +kernel
theorem dX6_bestQuestion_9 : decode cX6_bestQuestion 9 = .ok (.bipush 6, 2) := by decide +kernel
theorem dX6_bestQuestion_11 : decode cX6_bestQuestion 11 = .ok (.if_icmp .ge 63, 3) := by decide +kernel
theorem dX6_bestQuestion_14 : decode cX6_bestQuestion 14 = .ok (.iload_n 3, 1) := by decide +kernel
theorem dX6_bestQuestion_15 : decode cX6_bestQuestion 15 = .ok (.iconst 1, 1) := by decide +kernel
theorem dX6_bestQuestion_16 : decode cX6_bestQuestion 16 = .ok (.iadd, 1) := by decide +kernel
theorem dX6_bestQuestion_17 : decode cX6_bestQuestion 17 = .ok (.istore 4, 2) := by decide +kernel
theorem dX6_bestQuestion_19 : decode cX6_bestQuestion 19 = .ok (.iload 4, 2) := by decide +kernel
theorem dX6_bestQuestion_21 : decode cX6_bestQuestion 21 = .ok (.bipush 6, 2) := by decide +kernel
theorem dX6_bestQuestion_23 : decode cX6_bestQuestion 23 = .ok (.if_icmp .ge 45, 3) := by decide +kernel
theorem dX6_bestQuestion_26 : decode cX6_bestQuestion 26 = .ok (.aload_n 0, 1) := by decide +kernel
theorem dX6_bestQuestion_27 : decode cX6_bestQuestion 27 = .ok (.iload_n 3, 1) := by decide +kernel
theorem dX6_bestQuestion_28 : decode cX6_bestQuestion 28 = .ok (.iload 4, 2) := by decide +kernel
theorem dX6_bestQuestion_30 : decode cX6_bestQuestion 30 = .ok (.invokevirtual 228, 3) := by decide +kernel
theorem dX6_bestQuestion_33 : decode cX6_bestQuestion 33 = .ok (.ifCond .eq 29, 3) := by decide +kernel
theorem dX6_bestQuestion_36 : decode cX6_bestQuestion 36 = .ok (.aload_n 0, 1) := by decide +kernel
theorem dX6_bestQuestion_37 : decode cX6_bestQuestion 37 = .ok (.iload_n 3, 1) := by decide +kernel
theorem dX6_bestQuestion_38 : decode cX6_bestQuestion 38 = .ok (.iload 4, 2) := by decide +kernel
theorem dX6_bestQuestion_40 : decode cX6_bestQuestion 40 = .ok (.invokevirtual 231, 3) := by decide +kernel
theorem dX6_bestQuestion_43 : decode cX6_bestQuestion 43 = .ok (.istore 5, 2) := by decide +kernel
theorem dX6_bestQuestion_45 : decode cX6_bestQuestion 45 = .ok (.iload 5, 2) := by decide +kernel
theorem dX6_bestQuestion_47 : decode cX6_bestQuestion 47 = .ok (.iload_n 2, 1) := by decide +kernel
theorem dX6_bestQuestion_48 : decode cX6_bestQuestion 48 = .ok (.if_icmp .ge 14, 3) := by decide +kernel
theorem dX6_bestQuestion_51 : decode cX6_bestQuestion 51 = .ok (.iload 5, 2) := by decide +kernel
theorem dX6_bestQuestion_53 : decode cX6_bestQuestion 53 = .ok (.istore_n 2, 1) := by decide +kernel
theorem dX6_bestQuestion_54 : decode cX6_bestQuestion 54 = .ok (.bipush 10, 2) := by decide +kernel
theorem dX6_bestQuestion_56 : decode cX6_bestQuestion 56 = .ok (.iload_n 3, 1) := by decide +kernel
theorem dX6_bestQuestion_57 : decode cX6_bestQuestion 57 = .ok (.imul, 1) := by decide +kernel
theorem dX6_bestQuestion_58 : decode cX6_bestQuestion 58 = .ok (.iload 4, 2) := by decide +kernel
theorem dX6_bestQuestion_60 : decode cX6_bestQuestion 60 = .ok (.iadd, 1) := by decide +kernel
theorem dX6_bestQuestion_61 : decode cX6_bestQuestion 61 = .ok (.istore_n 1, 1) := by decide +kernel
theorem dX6_bestQuestion_62 : decode cX6_bestQuestion 62 = .ok (.iinc 4 1, 3) := by decide +kernel
theorem dX6_bestQuestion_65 : decode cX6_bestQuestion 65 = .ok (.goto (-46), 3) := by decide +kernel
theorem dX6_bestQuestion_68 : decode cX6_bestQuestion 68 = .ok (.iinc 3 1, 3) := by decide +kernel
theorem dX6_bestQuestion_71 : decode cX6_bestQuestion 71 = .ok (.goto (-63), 3) := by decide +kernel
theorem dX6_bestQuestion_74 : decode cX6_bestQuestion 74 = .ok (.iload_n 1, 1) := by decide +kernel
theorem dX6_bestQuestion_75 : decode cX6_bestQuestion 75 = .ok (.ireturn, 1) := by decide +kernel
set_option maxRecDepth 20000 in
theorem ggX6_folding_X1_of : GoodIn wsX6_folding wsX1_of := goodIn_r _ [9, 10, 11, 12, 13, 14, 15, 16, 17, 18, 19, 20, 21, 22, 23, 24, 25, 26, 27, 28, 29, 30, 31, 32, 33, 34, 35, 36, 37, 47, 48, 49, 50, 51, 52, 53, 54, 55, 56, 57, 58, 59, 60, 61, 62] (by decide +kernel) (by decide +kernel)
set_option maxRecDepth 20000 in
theorem gX6_folding_X1_of : GoodIn wsX6_folding (wsV RX6 202 RX1 yX1_of wsX1_of) := goodIn_app (goodIn_of _ (by decide +kernel)) ggX6_folding_X1_of
set_option maxRecDepth 20000 in
theorem ggX6_folding_X1_maskAt : GoodIn wsX6_folding wsX1_maskAt := goodIn_r _ [41, 11, 14, 47, 48, 49] (by decide +kernel) (by decide +kernel)
set_option maxRecDepth 20000 in
theorem gX6_folding_X1_maskAt : GoodIn wsX6_folding (wsV RX6 236 RX1 yX1_maskAt wsX1_maskAt) := goodIn_app (goodIn_of _ (by decide +kernel)) ggX6_folding_X1_maskAt
theorem dX6_folding_0 : decode cX6_folding 0 = .ok (.iload_n 1, 1) := by decide +kernel
theorem dX6_folding_1 : decode cX6_folding 1 = .ok (.ifCond .ge 13, 3) := by decide +kernel
theorem dX6_folding_4 : decode cX6_folding 4 = .ok (.new 73, 3) := by decide +kernel
theorem dX6_folding_7 : decode cX6_folding 7 = .ok (.dup, 1) := by decide +kernel
theorem dX6_folding_8 : decode cX6_folding 8 = .ok (.ldc 234, 2) := by decide +kernel
theorem dX6_folding_10 : decode cX6_folding 10 = .ok (.invokespecial 77, 3) := by decide +kernel
theorem dX6_folding_13 : decode cX6_folding 13 = .ok (.athrow, 1) := by decide +kernel
theorem dX6_folding_14 : decode cX6_folding 14 = .ok (.aload_n 0, 1) := by decide +kernel
theorem dX6_folding_15 : decode cX6_folding 15 = .ok (.getfield 37, 3) := by decide +kernel
theorem dX6_folding_18 : decode cX6_folding 18 = .ok (.aload_n 0, 1) := by decide +kernel
theorem dX6_folding_19 : decode cX6_folding 19 = .ok (.getfield 10, 3) := by decide +kernel
theorem dX6_folding_22 : decode cX6_folding 22 = .ok (.invokevirtual 202, 3) := by decide +kernel
theorem dX6_folding_25 : decode cX6_folding 25 = .ok (.iload_n 1, 1) := by decide +kernel
theorem dX6_folding_26 : decode cX6_folding 26 = .ok (.invokevirtual 236, 3) := by decide +kernel
theorem dX6_folding_29 : decode cX6_folding 29 = .ok (.ireturn, 1) := by decide +kernel
set_option maxRecDepth 20000 in
theorem ggX6_weakest_X6_has : GoodIn wsX6_weakest wsX6_has := goodIn_r _ [7, 8, 9, 6, 10] (by decide +kernel) (by decide +kernel)
set_option maxRecDepth 20000 in
theorem gX6_weakest_X6_has : GoodIn wsX6_weakest (va_wsS RX6 52 yX6_has wsX6_has) := goodIn_app (goodIn_of _ (by decide +kernel)) ggX6_weakest_X6_has
theorem dX6_weakest_0 : decode cX6_weakest 0 = .ok (.iconst (-1), 1) := by decide +kernel
theorem dX6_weakest_1 : decode cX6_weakest 1 = .ok (.istore_n 1, 1) := by decide +kernel
theorem dX6_weakest_2 : decode cX6_weakest 2 = .ok (.iconst (-1), 1) := by decide +kernel
theorem dX6_weakest_3 : decode cX6_weakest 3 = .ok (.istore_n 2, 1) := by decide +kernel
theorem dX6_weakest_4 : decode cX6_weakest 4 = .ok (.iconst 0, 1) := by decide +kernel
theorem dX6_weakest_5 : decode cX6_weakest 5 = .ok (.istore_n 3, 1) := by decide +kernel
theorem dX6_weakest_6 : decode cX6_weakest 6 = .ok (.iload_n 3, 1) := by decide +kernel
theorem dX6_weakest_7 : decode cX6_weakest 7 = .ok (.bipush 9, 2) := by decide +kernel
theorem dX6_weakest_9 : decode cX6_weakest 9 = .ok (.if_icmp .ge 48, 3) := by decide +kernel
theorem dX6_weakest_12 : decode cX6_weakest 12 = .ok (.aload_n 0, 1) := by decide +kernel
theorem dX6_weakest_13 : decode cX6_weakest 13 = .ok (.getfield 10, 3) := by decide +kernel
theorem dX6_weakest_16 : decode cX6_weakest 16 = .ok (.getfield 63, 3) := by decide +kernel
theorem dX6_weakest_19 : decode cX6_weakest 19 = .ok (.iload_n 3, 1) := by decide +kernel
theorem dX6_weakest_20 : decode cX6_weakest 20 = .ok (.invokestatic 52, 3) := by decide +kernel
theorem dX6_weakest_23 : decode cX6_weakest 23 = .ok (.ifCond .eq 28, 3) := by decide +kernel
theorem dX6_weakest_26 : decode cX6_weakest 26 = .ok (.aload_n 0, 1) := by decide +kernel
theorem dX6_weakest_27 : decode cX6_weakest 27 = .ok (.getfield 10, 3) := by decide +kernel
theorem dX6_weakest_30 : decode cX6_weakest 30 = .ok (.getfield 199, 3) := by decide +kernel
theorem dX6_weakest_33 : decode cX6_weakest 33 = .ok (.iload_n 3, 1) := by decide +kernel
theorem dX6_weakest_34 : decode cX6_weakest 34 = .ok (.iaload, 1) := by decide +kernel
theorem dX6_weakest_35 : decode cX6_weakest 35 = .ok (.iload_n 2, 1) := by decide +kernel
theorem dX6_weakest_36 : decode cX6_weakest 36 = .ok (.if_icmp .le 15, 3) := by decide +kernel
theorem dX6_weakest_39 : decode cX6_weakest 39 = .ok (.aload_n 0, 1) := by decide +kernel
theorem dX6_weakest_40 : decode cX6_weakest 40 = .ok (.getfield 10, 3) := by decide +kernel
theorem dX6_weakest_43 : decode cX6_weakest 43 = .ok (.getfield 199, 3) := by decide +kernel
theorem dX6_weakest_46 : decode cX6_weakest 46 = .ok (.iload_n 3, 1) := by decide +kernel
theorem dX6_weakest_47 : decode cX6_weakest 47 = .ok (.iaload, 1) := by decide +kernel
theorem dX6_weakest_48 : decode cX6_weakest 48 = .ok (.istore_n 2, 1) := by decide +kernel
theorem dX6_weakest_49 : decode cX6_weakest 49 = .ok (.iload_n 3, 1) := by decide +kernel
theorem dX6_weakest_50 : decode cX6_weakest 50 = .ok (.istore_n 1, 1) := by decide +kernel
theorem dX6_weakest_51 : decode cX6_weakest 51 = .ok (.iinc 3 1, 3) := by decide +kernel
theorem dX6_weakest_54 : decode cX6_weakest 54 = .ok (.goto (-48), 3) := by decide +kernel
theorem dX6_weakest_57 : decode cX6_weakest 57 = .ok (.iload_n 1, 1) := by decide +kernel
theorem dX6_weakest_58 : decode cX6_weakest 58 = .ok (.ireturn, 1) := by decide +kernel
set_option maxRecDepth 20000 in
theorem ggX6_sureShare_X1_of : GoodIn wsX6_sureShare wsX1_of := goodIn_r _ [8, 9, 10, 11, 12, 13, 14, 15, 16, 17, 18, 19, 20, 21, 22, 23, 24, 25, 26, 27, 28, 29, 30, 31, 32, 33, 34, 35, 36, 42, 43, 44, 45, 46, 47, 48, 49, 50, 51, 52, 53, 54, 55, 56, 57] (by decide +kernel) (by decide +kernel)
set_option maxRecDepth 20000 in
theorem gX6_sureShare_X1_of : GoodIn wsX6_sureShare (wsV RX6 202 RX1 yX1_of wsX1_of) := goodIn_app (goodIn_of _ (by decide +kernel)) ggX6_sureShare_X1_of
theorem dX6_sureShare_0 : decode cX6_sureShare 0 = .ok (.aload_n 0, 1) := by decide +kernel
theorem dX6_sureShare_1 : decode cX6_sureShare 1 = .ok (.getfield 37, 3) := by decide +kernel
theorem dX6_sureShare_4 : decode cX6_sureShare 4 = .ok (.aload_n 0, 1) := by decide +kernel
theorem dX6_sureShare_5 : decode cX6_sureShare 5 = .ok (.getfield 10, 3) := by decide +kernel
theorem dX6_sureShare_8 : decode cX6_sureShare 8 = .ok (.invokevirtual 202, 3) := by decide +kernel
theorem dX6_sureShare_11 : decode cX6_sureShare 11 = .ok (.getfield 217, 3) := by decide +kernel
theorem dX6_sureShare_14 : decode cX6_sureShare 14 = .ok (.istore_n 1, 1) := by decide +kernel
theorem dX6_sureShare_15 : decode cX6_sureShare 15 = .ok (.iload_n 1, 1) := by decide +kernel
theorem dX6_sureShare_16 : decode cX6_sureShare 16 = .ok (.ifCond .gt 5, 3) := by decide +kernel
theorem dX6_sureShare_19 : decode cX6_sureShare 19 = .ok (.dconst 0, 1) := by decide +kernel
theorem dX6_sureShare_20 : decode cX6_sureShare 20 = .ok (.dreturn, 1) := by decide +kernel
theorem dX6_sureShare_21 : decode cX6_sureShare 21 = .ok (.dconst 1, 1) := by decide +kernel
theorem dX6_sureShare_22 : decode cX6_sureShare 22 = .ok (.iload_n 1, 1) := by decide +kernel
theorem dX6_sureShare_23 : decode cX6_sureShare 23 = .ok (.i2d, 1) := by decide +kernel
theorem dX6_sureShare_24 : decode cX6_sureShare 24 = .ok (.ddiv, 1) := by decide +kernel
theorem dX6_sureShare_25 : decode cX6_sureShare 25 = .ok (.dreturn, 1) := by decide +kernel
set_option maxRecDepth 20000 in
theorem ggX6_beforeChange_X2_save : GoodIn wsX6_beforeChange wsX2_save := goodIn_r _ [8, 9, 10, 11, 12, 13, 7, 14, 15, 16, 17, 18, 19, 20, 21, 22, 23, 24, 25, 26, 27, 28, 29, 30, 31, 32, 33, 34, 35, 36, 37, 38, 39, 40, 41, 42, 54, 55, 56, 57, 58, 59, 60, 61, 62, 63, 64, 65, 66, 67, 68] (by decide +kernel) (by decide +kernel)
set_option maxRecDepth 20000 in
theorem gX6_beforeChange_X2_save : GoodIn wsX6_beforeChange (wsV RX6 292 RX2 yX2_save wsX2_save) := goodIn_app (goodIn_of _ (by decide +kernel)) ggX6_beforeChange_X2_save
set_option maxRecDepth 20000 in
theorem ggX6_beforeChange_X1_lapse : GoodIn wsX6_beforeChange wsX1_lapse := goodIn_r _ [47, 48, 69, 70, 71] (by decide +kernel) (by decide +kernel)
set_option maxRecDepth 20000 in
theorem gX6_beforeChange_X1_lapse : GoodIn wsX6_beforeChange (wsV RX6 178 RX1 yX1_lapse wsX1_lapse) := goodIn_app (goodIn_of _ (by decide +kernel)) ggX6_beforeChange_X1_lapse
theorem dX6_beforeChange_0 : decode cX6_beforeChange 0 = .ok (.aload_n 0, 1) := by decide +kernel
theorem dX6_beforeChange_1 : decode cX6_beforeChange 1 = .ok (.getfield 19, 3) := by decide +kernel
theorem dX6_beforeChange_4 : decode cX6_beforeChange 4 = .ok (.aload_n 0, 1) := by decide +kernel
theorem dX6_beforeChange_5 : decode cX6_beforeChange 5 = .ok (.getfield 10, 3) := by decide +kernel
theorem dX6_beforeChange_8 : decode cX6_beforeChange 8 = .ok (.invokevirtual 292, 3) := by decide +kernel
theorem dX6_beforeChange_11 : decode cX6_beforeChange 11 = .ok (.aload_n 0, 1) := by decide +kernel
theorem dX6_beforeChange_12 : decode cX6_beforeChange 12 = .ok (.getfield 37, 3) := by decide +kernel
theorem dX6_beforeChange_15 : decode cX6_beforeChange 15 = .ok (.invokevirtual 178, 3) := by decide +kernel
theorem dX6_beforeChange_18 : decode cX6_beforeChange 18 = .ok (.return_, 1) := by decide +kernel
theorem dX6_refuse_0 : decode cX6_refuse 0 = .ok (.aload_n 0, 1) := by decide +kernel
theorem dX6_refuse_1 : decode cX6_refuse 1 = .ok (.getfield 10, 3) := by decide +kernel
theorem dX6_refuse_4 : decode cX6_refuse 4 = .ok (.dup, 1) := by decide +kernel
theorem dX6_refuse_5 : decode cX6_refuse 5 = .ok (.getfield 222, 3) := by decide +kernel
theorem dX6_refuse_8 : decode cX6_refuse 8 = .ok (.iconst 1, 1) := by decide +kernel
theorem dX6_refuse_9 : decode cX6_refuse 9 = .ok (.iadd, 1) := by decide +kernel
theorem dX6_refuse_10 : decode cX6_refuse 10 = .ok (.putfield 222, 3) := by decide +kernel
theorem dX6_refuse_13 : decode cX6_refuse 13 = .ok (.iconst (-1), 1) := by decide +kernel
theorem dX6_refuse_14 : decode cX6_refuse 14 = .ok (.ireturn, 1) := by decide +kernel
set_option maxRecDepth 20000 in
theorem ggX6_isWorthAsking_X0_about : GoodIn wsX6_isWorthAsking wsX0_about := goodIn_r _ [8, 9, 10, 11, 12, 13, 14, 15, 16, 17, 18, 19, 34, 35, 36, 37] (by decide +kernel) (by decide +kernel)
set_option maxRecDepth 20000 in
theorem gX6_isWorthAsking_X0_about : GoodIn wsX6_isWorthAsking (wsV RX6 114 RX0 yX0_about wsX0_about) := goodIn_app (goodIn_of _ (by decide +kernel)) ggX6_isWorthAsking_X0_about
theorem dX6_isWorthAsking_0 : decode cX6_isWorthAsking 0 = .ok (.aload_n 0, 1) := by decide +kernel
theorem dX6_isWorthAsking_1 : decode cX6_isWorthAsking 1 = .ok (.getfield 10, 3) := by decide +kernel
theorem dX6_isWorthAsking_4 : decode cX6_isWorthAsking 4 = .ok (.getfield 80, 3) := by decide +kernel
theorem dX6_isWorthAsking_7 : decode cX6_isWorthAsking 7 = .ok (.iload_n 1, 1) := by decide +kernel
theorem dX6_isWorthAsking_8 : decode cX6_isWorthAsking 8 = .ok (.iaload, 1) := by decide +kernel
theorem dX6_isWorthAsking_9 : decode cX6_isWorthAsking 9 = .ok (.istore_n 3, 1) := by decide +kernel
theorem dX6_isWorthAsking_10 : decode cX6_isWorthAsking 10 = .ok (.aload_n 0, 1) := by decide +kernel
theorem dX6_isWorthAsking_11 : decode cX6_isWorthAsking 11 = .ok (.getfield 10, 3) := by decide +kernel
theorem dX6_isWorthAsking_14 : decode cX6_isWorthAsking 14 = .ok (.getfield 80, 3) := by decide +kernel
theorem dX6_isWorthAsking_17 : decode cX6_isWorthAsking 17 = .ok (.iload_n 2, 1) := by decide +kernel
theorem dX6_isWorthAsking_18 : decode cX6_isWorthAsking 18 = .ok (.iaload, 1) := by decide +kernel
theorem dX6_isWorthAsking_19 : decode cX6_isWorthAsking 19 = .ok (.istore 4, 2) := by decide +kernel
theorem dX6_isWorthAsking_21 : decode cX6_isWorthAsking 21 = .ok (.iload_n 3, 1) := by decide +kernel
theorem dX6_isWorthAsking_22 : decode cX6_isWorthAsking 22 = .ok (.iload 4, 2) := by decide +kernel
theorem dX6_isWorthAsking_24 : decode cX6_isWorthAsking 24 = .ok (.if_icmp .eq 24, 3) := by decide +kernel
theorem dX6_isWorthAsking_27 : decode cX6_isWorthAsking 27 = .ok (.aload_n 0, 1) := by decide +kernel
theorem dX6_isWorthAsking_28 : decode cX6_isWorthAsking 28 = .ok (.getfield 10, 3) := by decide +kernel
theorem dX6_isWorthAsking_31 : decode cX6_isWorthAsking 31 = .ok (.getfield 84, 3) := by decide +kernel
theorem dX6_isWorthAsking_34 : decode cX6_isWorthAsking 34 = .ok (.iload_n 3, 1) := by decide +kernel
theorem dX6_isWorthAsking_35 : decode cX6_isWorthAsking 35 = .ok (.iload 4, 2) := by decide +kernel
theorem dX6_isWorthAsking_37 : decode cX6_isWorthAsking 37 = .ok (.invokevirtual 114, 3) := by decide +kernel
theorem dX6_isWorthAsking_40 : decode cX6_isWorthAsking 40 = .ok (.iconst (-1), 1) := by decide +kernel
theorem dX6_isWorthAsking_41 : decode cX6_isWorthAsking 41 = .ok (.if_icmp .ne 7, 3) := by decide +kernel
theorem dX6_isWorthAsking_44 : decode cX6_isWorthAsking 44 = .ok (.iconst 1, 1) := by decide +kernel
theorem dX6_isWorthAsking_45 : decode cX6_isWorthAsking 45 = .ok (.goto 4, 3) := by decide +kernel
theorem dX6_isWorthAsking_48 : decode cX6_isWorthAsking 48 = .ok (.iconst 0, 1) := by decide +kernel
theorem dX6_isWorthAsking_49 : decode cX6_isWorthAsking 49 = .ok (.ireturn, 1) := by decide +kernel
set_option maxRecDepth 20000 in
theorem ggX6_mostLeftAfter_X1_of : GoodIn wsX6_mostLeftAfter wsX1_of := goodIn_r _ [13, 14, 15, 16, 17, 18, 19, 20, 21, 22, 23, 24, 25, 26, 27, 28, 29, 30, 31, 32, 33, 7, 34, 35, 36, 37, 38, 39, 40, 60, 61, 62, 51, 52, 53, 54, 55, 56, 57, 58, 59, 63, 64, 65, 66] (by decide +kernel) (by decide +kernel)
set_option maxRecDepth 20000 in
theorem gX6_mostLeftAfter_X1_of : GoodIn wsX6_mostLeftAfter (wsV RX6 202 RX1 yX1_of wsX1_of) := goodIn_app (goodIn_of _ (by decide +kernel)) ggX6_mostLeftAfter_X1_of
set_option maxRecDepth 20000 in
theorem ggX6_mostLeftAfter_X1_withMeeting : GoodIn wsX6_mostLeftAfter wsX1_withMeeting := goodIn_r _ [44, 15, 18, 45, 29, 30, 31, 32, 33, 7, 34, 35, 36, 37, 38, 39, 40, 60, 61, 62] (by decide +kernel) (by decide +kernel)
set_option maxRecDepth 20000 in
theorem gX6_mostLeftAfter_X1_withMeeting : GoodIn wsX6_mostLeftAfter (wsV RX6 225 RX1 yX1_withMeeting wsX1_withMeeting) := goodIn_app (goodIn_of _ (by decide +kernel)) ggX6_mostLeftAfter_X1_withMeeting
theorem dX6_mostLeftAfter_0 : decode cX6_mostLeftAfter 0 = .ok (.aload_n 0, 1) := by decide +kernel
theorem dX6_mostLeftAfter_1 : decode cX6_mostLeftAfter 1 = .ok (.getfield 37, 3) := by decide +kernel
theorem dX6_mostLeftAfter_4 : decode cX6_mostLeftAfter 4 = .ok (.aload_n 0, 1) := by decide +kernel
theorem dX6_mostLeftAfter_5 : decode cX6_mostLeftAfter 5 = .ok (.getfield 10, 3) := by decide +kernel
theorem dX6_mostLeftAfter_8 : decode cX6_mostLeftAfter 8 = .ok (.invokevirtual 202, 3) := by decide +kernel
theorem dX6_mostLeftAfter_11 : decode cX6_mostLeftAfter 11 = .ok (.astore_n 3, 1) := by decide +kernel
theorem dX6_mostLeftAfter_12 : decode cX6_mostLeftAfter 12 = .ok (.aload_n 3, 1) := by decide +kernel
theorem dX6_mostLeftAfter_13 : decode cX6_mostLeftAfter 13 = .ok (.aload_n 0, 1) := by decide +kernel
theorem dX6_mostLeftAfter_14 : decode cX6_mostLeftAfter 14 = .ok (.getfield 10, 3) := by decide +kernel
theorem dX6_mostLeftAfter_17 : decode cX6_mostLeftAfter 17 = .ok (.getfield 80, 3) := by decide +kernel
theorem dX6_mostLeftAfter_20 : decode cX6_mostLeftAfter 20 = .ok (.iload_n 1, 1) := by decide +kernel
theorem dX6_mostLeftAfter_21 : decode cX6_mostLeftAfter 21 = .ok (.iaload, 1) := by decide +kernel
theorem dX6_mostLeftAfter_22 : decode cX6_mostLeftAfter 22 = .ok (.aload_n 0, 1) := by decide +kernel
theorem dX6_mostLeftAfter_23 : decode cX6_mostLeftAfter 23 = .ok (.getfield 10, 3) := by decide +kernel
theorem dX6_mostLeftAfter_26 : decode cX6_mostLeftAfter 26 = .ok (.getfield 80, 3) := by decide +kernel
theorem dX6_mostLeftAfter_29 : decode cX6_mostLeftAfter 29 = .ok (.iload_n 2, 1) := by decide +kernel
theorem dX6_mostLeftAfter_30 : decode cX6_mostLeftAfter 30 = .ok (.iaload, 1) := by decide +kernel
theorem dX6_mostLeftAfter_31 : decode cX6_mostLeftAfter 31 = .ok (.invokevirtual 225, 3) := by decide +kernel
theorem dX6_mostLeftAfter_34 : decode cX6_mostLeftAfter 34 = .ok (.istore 4, 2) := by decide +kernel
theorem dX6_mostLeftAfter_36 : decode cX6_mostLeftAfter 36 = .ok (.iload 4, 2) := by decide +kernel
theorem dX6_mostLeftAfter_38 : decode cX6_mostLeftAfter 38 = .ok (.aload_n 3, 1) := by decide +kernel
theorem dX6_mostLeftAfter_39 : decode cX6_mostLeftAfter 39 = .ok (.getfield 217, 3) := by decide +kernel
theorem dX6_mostLeftAfter_42 : decode cX6_mostLeftAfter 42 = .ok (.iload 4, 2) := by decide +kernel
theorem dX6_mostLeftAfter_44 : decode cX6_mostLeftAfter 44 = .ok (.isub, 1) := by decide +kernel
theorem dX6_mostLeftAfter_45 : decode cX6_mostLeftAfter 45 = .ok (.invokestatic 295, 3) := by decide +kernel
theorem dX6_mostLeftAfter_48 : decode cX6_mostLeftAfter 48 = .ok (.ireturn, 1) := by decide +kernel
set_option maxRecDepth 20000 in
theorem ggX6_foldingsWalked_X0_fitAt : GoodIn wsX6_foldingsWalked wsX0_fitAt := goodIn_r _ [7, 8, 9, 10, 11, 12, 13, 14, 15, 16, 17, 18, 19, 20, 21, 22, 23, 24, 25, 44, 45, 46, 47] (by decide +kernel) (by decide +kernel)
set_option maxRecDepth 20000 in
theorem gX6_foldingsWalked_X0_fitAt : GoodIn wsX6_foldingsWalked (wsV RX6 298 RX0 yX0_fitAt wsX0_fitAt) := goodIn_app (goodIn_of _ (by decide +kernel)) ggX6_foldingsWalked_X0_fitAt
set_option maxRecDepth 20000 in
theorem ggX6_foldingsWalked_X6_foldingsWalked : GoodIn wsX6_foldingsWalked wsX6_foldingsWalked := goodIn_r _ [0, 1, 2, 3, 4, 5, 6, 7, 8, 9, 10, 11, 12, 13, 14, 15, 16, 17, 18, 19, 20, 21, 22, 23, 24, 25, 26, 27, 28, 29, 30, 31, 32, 33, 34, 35, 36, 37, 38, 39, 40, 41, 42, 43, 44, 45, 46, 47] (by decide +kernel) (by decide +kernel)
set_option maxRecDepth 20000 in
theorem gX6_foldingsWalked_X6_foldingsWalked : GoodIn wsX6_foldingsWalked (va_wsS RX6 218 yX6_foldingsWalked wsX6_foldingsWalked) := goodIn_app (goodIn_of _ (by decide +kernel)) ggX6_foldingsWalked_X6_foldingsWalked
set_option maxRecDepth 20000 in
theorem ggX6_foldingsWalked_X6_has : GoodIn wsX6_foldingsWalked wsX6_has := goodIn_r _ [31, 32, 33, 28, 34] (by decide +kernel) (by decide +kernel)
set_option maxRecDepth 20000 in
theorem gX6_foldingsWalked_X6_has : GoodIn wsX6_foldingsWalked (va_wsS RX6 52 yX6_has wsX6_has) := goodIn_app (goodIn_of _ (by decide +kernel)) ggX6_foldingsWalked_X6_has
theorem dX6_foldingsWalked_0 : decode cX6_foldingsWalked 0 = .ok (.aload_n 0, 1) := by decide +kernel
theorem dX6_foldingsWalked_1 : decode cX6_foldingsWalked 1 = .ok (.getfield 84, 3) := by decide +kernel
theorem dX6_foldingsWalked_4 : decode cX6_foldingsWalked 4 = .ok (.iload_n 1, 1) := by decide +kernel
theorem dX6_foldingsWalked_5 : decode cX6_foldingsWalked 5 = .ok (.iload_n 2, 1) := by decide +kernel
theorem dX6_foldingsWalked_6 : decode cX6_foldingsWalked 6 = .ok (.invokevirtual 298, 3) := by decide +kernel
theorem dX6_foldingsWalked_9 : decode cX6_foldingsWalked 9 = .ok (.ifCond .ne 5, 3) := by decide +kernel
theorem dX6_foldingsWalked_12 : decode cX6_foldingsWalked 12 = .ok (.iconst 0, 1) := by decide +kernel
theorem dX6_foldingsWalked_13 : decode cX6_foldingsWalked 13 = .ok (.ireturn, 1) := by decide +kernel
theorem dX6_foldingsWalked_14 : decode cX6_foldingsWalked 14 = .ok (.iload_n 1, 1) := by decide +kernel
theorem dX6_foldingsWalked_15 : decode cX6_foldingsWalked 15 = .ok (.bipush 9, 2) := by decide +kernel
theorem dX6_foldingsWalked_17 : decode cX6_foldingsWalked 17 = .ok (.if_icmp .lt 5, 3) := by decide +kernel
theorem dX6_foldingsWalked_20 : decode cX6_foldingsWalked 20 = .ok (.iconst 1, 1) := by decide +kernel
theorem dX6_foldingsWalked_21 : decode cX6_foldingsWalked 21 = .ok (.ireturn, 1) := by decide +kernel
theorem dX6_foldingsWalked_22 : decode cX6_foldingsWalked 22 = .ok (.aload_n 0, 1) := by decide +kernel
theorem dX6_foldingsWalked_23 : decode cX6_foldingsWalked 23 = .ok (.iload_n 1, 1) := by decide +kernel
theorem dX6_foldingsWalked_24 : decode cX6_foldingsWalked 24 = .ok (.iconst 1, 1) := by decide +kernel
theorem dX6_foldingsWalked_25 : decode cX6_foldingsWalked 25 = .ok (.iadd, 1) := by decide +kernel
theorem dX6_foldingsWalked_26 : decode cX6_foldingsWalked 26 = .ok (.iload_n 2, 1) := by decide +kernel
theorem dX6_foldingsWalked_27 : decode cX6_foldingsWalked 27 = .ok (.invokestatic 218, 3) := by decide +kernel
theorem dX6_foldingsWalked_30 : decode cX6_foldingsWalked 30 = .ok (.istore_n 3, 1) := by decide +kernel
theorem dX6_foldingsWalked_31 : decode cX6_foldingsWalked 31 = .ok (.aload_n 0, 1) := by decide +kernel
theorem dX6_foldingsWalked_32 : decode cX6_foldingsWalked 32 = .ok (.getfield 48, 3) := by decide +kernel
theorem dX6_foldingsWalked_35 : decode cX6_foldingsWalked 35 = .ok (.iload_n 1, 1) := by decide +kernel
theorem dX6_foldingsWalked_36 : decode cX6_foldingsWalked 36 = .ok (.invokestatic 52, 3) := by decide +kernel
theorem dX6_foldingsWalked_39 : decode cX6_foldingsWalked 39 = .ok (.ifCond .ne 18, 3) := by decide +kernel
theorem dX6_foldingsWalked_42 : decode cX6_foldingsWalked 42 = .ok (.iload_n 3, 1) := by decide +kernel
theorem dX6_foldingsWalked_43 : decode cX6_foldingsWalked 43 = .ok (.aload_n 0, 1) := by decide +kernel
theorem dX6_foldingsWalked_44 : decode cX6_foldingsWalked 44 = .ok (.iload_n 1, 1) := by decide +kernel
theorem dX6_foldingsWalked_45 : decode cX6_foldingsWalked 45 = .ok (.iconst 1, 1) := by decide +kernel
theorem dX6_foldingsWalked_46 : decode cX6_foldingsWalked 46 = .ok (.iadd, 1) := by decide +kernel
theorem dX6_foldingsWalked_47 : decode cX6_foldingsWalked 47 = .ok (.iload_n 2, 1) := by decide +kernel
theorem dX6_foldingsWalked_48 : decode cX6_foldingsWalked 48 = .ok (.iconst 1, 1) := by decide +kernel
theorem dX6_foldingsWalked_49 : decode cX6_foldingsWalked 49 = .ok (.iload_n 1, 1) := by decide +kernel
theorem dX6_foldingsWalked_50 : decode cX6_foldingsWalked 50 = .ok (.ishl, 1) := by decide +kernel
theorem dX6_foldingsWalked_51 : decode cX6_foldingsWalked 51 = .ok (.ior, 1) := by decide +kernel
theorem dX6_foldingsWalked_52 : decode cX6_foldingsWalked 52 = .ok (.invokestatic 218, 3) := by decide +kernel
theorem dX6_foldingsWalked_55 : decode cX6_foldingsWalked 55 = .ok (.iadd, 1) := by decide +kernel
theorem dX6_foldingsWalked_56 : decode cX6_foldingsWalked 56 = .ok (.istore_n 3, 1) := by decide +kernel
theorem dX6_foldingsWalked_57 : decode cX6_foldingsWalked 57 = .ok (.iload_n 3, 1) := by decide +kernel
theorem dX6_foldingsWalked_58 : decode cX6_foldingsWalked 58 = .ok (.ireturn, 1) := by decide +kernel
set_option maxRecDepth 20000 in
theorem ggX6_has_X6_bit : GoodIn wsX6_has wsX6_bit := goodIn_r _ [4] (by decide +kernel) (by decide +kernel)
set_option maxRecDepth 20000 in
theorem gX6_has_X6_bit : GoodIn wsX6_has (va_wsS RX6 66 yX6_bit wsX6_bit) := goodIn_app (goodIn_of _ (by decide +kernel)) ggX6_has_X6_bit
theorem dX6_has_0 : decode cX6_has 0 = .ok (.iload_n 0, 1) := by decide +kernel
theorem dX6_has_1 : decode cX6_has 1 = .ok (.iload_n 1, 1) := by decide +kernel
theorem dX6_has_2 : decode cX6_has 2 = .ok (.invokestatic 66, 3) := by decide +kernel
theorem dX6_has_5 : decode cX6_has 5 = .ok (.iconst 1, 1) := by decide +kernel
theorem dX6_has_6 : decode cX6_has 6 = .ok (.if_icmp .ne 7, 3) := by decide +kernel
theorem dX6_has_9 : decode cX6_has 9 = .ok (.iconst 1, 1) := by decide +kernel
theorem dX6_has_10 : decode cX6_has 10 = .ok (.goto 4, 3) := by decide +kernel
theorem dX6_has_13 : decode cX6_has 13 = .ok (.iconst 0, 1) := by decide +kernel
theorem dX6_has_14 : decode cX6_has 14 = .ok (.ireturn, 1) := by decide +kernel
theorem dX6_bit_0 : decode cX6_bit 0 = .ok (.iload_n 0, 1) := by decide +kernel
theorem dX6_bit_1 : decode cX6_bit 1 = .ok (.iload_n 1, 1) := by decide +kernel
theorem dX6_bit_2 : decode cX6_bit 2 = .ok (.ishr, 1) := by decide +kernel
theorem dX6_bit_3 : decode cX6_bit 3 = .ok (.iconst 1, 1) := by decide +kernel
theorem dX6_bit_4 : decode cX6_bit 4 = .ok (.iand, 1) := by decide +kernel
theorem dX6_bit_5 : decode cX6_bit 5 = .ok (.ireturn, 1) := by decide +kernel
theorem dX6_requireCrease_0 : decode cX6_requireCrease 0 = .ok (.iload_n 0, 1) := by decide +kernel
theorem dX6_requireCrease_1 : decode cX6_requireCrease 1 = .ok (.ifCond .lt 9, 3) := by decide +kernel
theorem dX6_requireCrease_4 : decode cX6_requireCrease 4 = .ok (.iload_n 0, 1) := by decide +kernel
theorem dX6_requireCrease_5 : decode cX6_requireCrease 5 = .ok (.bipush 9, 2) := by decide +kernel
theorem dX6_requireCrease_7 : decode cX6_requireCrease 7 = .ok (.if_icmp .lt 14, 3) := by decide +kernel
theorem dX6_requireCrease_10 : decode cX6_requireCrease 10 = .ok (.new 184, 3) := by decide +kernel
theorem dX6_requireCrease_13 : decode cX6_requireCrease 13 = .ok (.dup, 1) := by decide +kernel
theorem dX6_requireCrease_14 : decode cX6_requireCrease 14 = .ok (.ldc_w 301, 3) := by decide +kernel
theorem dX6_requireCrease_17 : decode cX6_requireCrease 17 = .ok (.invokespecial 186, 3) := by decide +kernel
theorem dX6_requireCrease_20 : decode cX6_requireCrease 20 = .ok (.athrow, 1) := by decide +kernel
theorem dX6_requireCrease_21 : decode cX6_requireCrease 21 = .ok (.return_, 1) := by decide +kernel
theorem dX6_requireTown_0 : decode cX6_requireTown 0 = .ok (.iload_n 0, 1) := by decide +kernel
theorem dX6_requireTown_1 : decode cX6_requireTown 1 = .ok (.ifCond .lt 9, 3) := by decide +kernel
theorem dX6_requireTown_4 : decode cX6_requireTown 4 = .ok (.iload_n 0, 1) := by decide +kernel
theorem dX6_requireTown_5 : decode cX6_requireTown 5 = .ok (.bipush 6, 2) := by decide +kernel
theorem dX6_requireTown_7 : decode cX6_requireTown 7 = .ok (.if_icmp .lt 14, 3) := by decide +kernel
theorem dX6_requireTown_10 : decode cX6_requireTown 10 = .ok (.new 184, 3) := by decide +kernel
theorem dX6_requireTown_13 : decode cX6_requireTown 13 = .ok (.dup, 1) := by decide +kernel
theorem dX6_requireTown_14 : decode cX6_requireTown 14 = .ok (.ldc_w 303, 3) := by decide +kernel
theorem dX6_requireTown_17 : decode cX6_requireTown 17 = .ok (.invokespecial 186, 3) := by decide +kernel
theorem dX6_requireTown_20 : decode cX6_requireTown 20 = .ok (.athrow, 1) := by decide +kernel
theorem dX6_requireTown_21 : decode cX6_requireTown 21 = .ok (.return_, 1) := by decide +kernel
set_option maxRecDepth 20000 in
theorem ggX6_requireTwoTowns_X6_requireTown : GoodIn wsX6_requireTwoTowns wsX6_requireTown := goodIn_ca (goodIn_r _ [6, 7, 8] (by decide +kernel) (by decide +kernel)) (goodIn_sub (fun _ h => List.mem_cons_of_mem _ (List.mem_append_right _ h)) (by decide +kernel))
set_option maxRecDepth 20000 in
theorem gX6_requireTwoTowns_X6_requireTown : GoodIn wsX6_requireTwoTowns (va_wsS RX6 70 yX6_requireTown wsX6_requireTown) := goodIn_app (goodIn_of _ (by decide +kernel)) ggX6_requireTwoTowns_X6_requireTown
theorem dX6_requireTwoTowns_0 : decode cX6_requireTwoTowns 0 = .ok (.iload_n 0, 1) := by decide +kernel
theorem dX6_requireTwoTowns_1 : decode cX6_requireTwoTowns 1 = .ok (.invokestatic 70, 3) := by decide +kernel
theorem dX6_requireTwoTowns_4 : decode cX6_requireTwoTowns 4 = .ok (.iload_n 1, 1) := by decide +kernel
theorem dX6_requireTwoTowns_5 : decode cX6_requireTwoTowns 5 = .ok (.invokestatic 70, 3) := by decide +kernel
theorem dX6_requireTwoTowns_8 : decode cX6_requireTwoTowns 8 = .ok (.iload_n 0, 1) := by decide +kernel
theorem dX6_requireTwoTowns_9 : decode cX6_requireTwoTowns 9 = .ok (.iload_n 1, 1) := by decide +kernel
theorem dX6_requireTwoTowns_10 : decode cX6_requireTwoTowns 10 = .ok (.if_icmp .ne 14, 3) := by decide +kernel
theorem dX6_requireTwoTowns_13 : decode cX6_requireTwoTowns 13 = .ok (.new 73, 3) := by decide +kernel
theorem dX6_requireTwoTowns_16 : decode cX6_requireTwoTowns 16 = .ok (.dup, 1) := by decide +kernel
theorem dX6_requireTwoTowns_17 : decode cX6_requireTwoTowns 17 = .ok (.ldc_w 305, 3) := by decide +kernel
theorem dX6_requireTwoTowns_20 : decode cX6_requireTwoTowns 20 = .ok (.invokespecial 77, 3) := by decide +kernel
theorem dX6_requireTwoTowns_23 : decode cX6_requireTwoTowns 23 = .ok (.athrow, 1) := by decide +kernel
theorem dX6_requireTwoTowns_24 : decode cX6_requireTwoTowns 24 = .ok (.return_, 1) := by decide +kernel
theorem dX6_requireWhat_0 : decode cX6_requireWhat 0 = .ok (.iload_n 0, 1) := by decide +kernel
theorem dX6_requireWhat_1 : decode cX6_requireWhat 1 = .ok (.ifCond .lt 8, 3) := by decide +kernel
theorem dX6_requireWhat_4 : decode cX6_requireWhat 4 = .ok (.iload_n 0, 1) := by decide +kernel
theorem dX6_requireWhat_5 : decode cX6_requireWhat 5 = .ok (.iload_n 1, 1) := by decide +kernel
theorem dX6_requireWhat_6 : decode cX6_requireWhat 6 = .ok (.if_icmp .lt 14, 3) := by decide +kernel
theorem dX6_requireWhat_9 : decode cX6_requireWhat 9 = .ok (.new 73, 3) := by decide +kernel
theorem dX6_requireWhat_12 : decode cX6_requireWhat 12 = .ok (.dup, 1) := by decide +kernel
theorem dX6_requireWhat_13 : decode cX6_requireWhat 13 = .ok (.ldc_w 307, 3) := by decide +kernel
theorem dX6_requireWhat_16 : decode cX6_requireWhat 16 = .ok (.invokespecial 77, 3) := by decide +kernel
theorem dX6_requireWhat_19 : decode cX6_requireWhat 19 = .ok (.athrow, 1) := by decide +kernel
theorem dX6_requireWhat_20 : decode cX6_requireWhat 20 = .ok (.return_, 1) := by decide +kernel
theorem dX6_requireSlot_0 : decode cX6_requireSlot 0 = .ok (.iload_n 0, 1) := by decide +kernel
theorem dX6_requireSlot_1 : decode cX6_requireSlot 1 = .ok (.ifCond .lt 8, 3) := by decide +kernel
theorem dX6_requireSlot_4 : decode cX6_requireSlot 4 = .ok (.iload_n 0, 1) := by decide +kernel
theorem dX6_requireSlot_5 : decode cX6_requireSlot 5 = .ok (.iconst 2, 1) := by decide +kernel
theorem dX6_requireSlot_6 : decode cX6_requireSlot 6 = .ok (.if_icmp .lt 14, 3) := by decide +kernel
theorem dX6_requireSlot_9 : decode cX6_requireSlot 9 = .ok (.new 73, 3) := by decide +kernel
theorem dX6_requireSlot_12 : decode cX6_requireSlot 12 = .ok (.dup, 1) := by decide +kernel
theorem dX6_requireSlot_13 : decode cX6_requireSlot 13 = .ok (.ldc_w 309, 3) := by decide +kernel
theorem dX6_requireSlot_16 : decode cX6_requireSlot 16 = .ok (.invokespecial 77, 3) := by decide +kernel
theorem dX6_requireSlot_19 : decode cX6_requireSlot 19 = .ok (.athrow, 1) := by decide +kernel
theorem dX6_requireSlot_20 : decode cX6_requireSlot 20 = .ok (.return_, 1) := by decide +kernel
