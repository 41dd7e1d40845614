theorem dX0_init_0 : decode cX0_init 0 = .ok (.aload_n 0, 1) := by decide +kernel
theorem dX0_init_1 : decode cX0_init 1 = .ok (.invokespecial 3, 3) := by decide +kernel
theorem dX0_init_4 : decode cX0_init 4 = .ok (.aload_n 0, 1) := by decide +kernel
theorem dX0_init_5 : decode cX0_init 5 = .ok (.bipush 12, 2) := by decide +kernel
theorem dX0_init_7 : decode cX0_init 7 = .ok (.newarray .int, 2) := by decide +kernel
theorem dX0_init_9 : decode cX0_init 9 = .ok (.putfield 9, 3) := by decide +kernel
theorem dX0_init_12 : decode cX0_init 12 = .ok (.aload_n 0, 1) := by decide +kernel
theorem dX0_init_13 : decode cX0_init 13 = .ok (.bipush 12, 2) := by decide +kernel
theorem dX0_init_15 : decode cX0_init 15 = .ok (.newarray .int, 2) := by decide +kernel
theorem dX0_init_17 : decode cX0_init 17 = .ok (.putfield 15, 3) := by decide +kernel
theorem dX0_init_20 : decode cX0_init 20 = .ok (.aload_n 0, 1) := by decide +kernel
theorem dX0_init_21 : decode cX0_init 21 = .ok (.bipush 12, 2) := by decide +kernel
theorem dX0_init_23 : decode cX0_init 23 = .ok (.newarray .int, 2) := by decide +kernel
theorem dX0_init_25 : decode cX0_init 25 = .ok (.putfield 18, 3) := by decide +kernel
theorem dX0_init_28 : decode cX0_init 28 = .ok (.return_, 1) := by decide +kernel
theorem dX0_clear_0 : decode cX0_clear 0 = .ok (.aload_n 0, 1) := by decide +kernel
theorem dX0_clear_1 : decode cX0_clear 1 = .ok (.iconst 0, 1) := by decide +kernel
theorem dX0_clear_2 : decode cX0_clear 2 = .ok (.putfield 21, 3) := by decide +kernel
theorem dX0_clear_5 : decode cX0_clear 5 = .ok (.return_, 1) := by decide +kernel
theorem dX0_add_0 : decode cX0_add 0 = .ok (.aload_n 0, 1) := by decide +kernel
theorem dX0_add_1 : decode cX0_add 1 = .ok (.getfield 21, 3) := by decide +kernel
theorem dX0_add_4 : decode cX0_add 4 = .ok (.ifCond .lt 12, 3) := by decide +kernel
theorem dX0_add_7 : decode cX0_add 7 = .ok (.aload_n 0, 1) := by decide +kernel
theorem dX0_add_8 : decode cX0_add 8 = .ok (.getfield 21, 3) := by decide +kernel
theorem dX0_add_11 : decode cX0_add 11 = .ok (.bipush 12, 2) := by decide +kernel
theorem dX0_add_13 : decode cX0_add 13 = .ok (.if_icmp .lt 4, 3) := by decide +kernel
theorem dX0_add_16 : decode cX0_add 16 = .ok (.return_, 1) := by decide +kernel
theorem dX0_add_17 : decode cX0_add 17 = .ok (.aload_n 0, 1) := by decide +kernel
theorem dX0_add_18 : decode cX0_add 18 = .ok (.getfield 9, 3) := by decide +kernel
theorem dX0_add_21 : decode cX0_add 21 = .ok (.aload_n 0, 1) := by decide +kernel
theorem dX0_add_22 : decode cX0_add 22 = .ok (.getfield 21, 3) := by decide +kernel
theorem dX0_add_25 : decode cX0_add 25 = .ok (.iload_n 1, 1) := by decide +kernel
theorem dX0_add_26 : decode cX0_add 26 = .ok (.iload_n 2, 1) := by decide +kernel
theorem dX0_add_27 : decode cX0_add 27 = .ok (.invokestatic 25, 3) := by decide +kernel
theorem dX0_add_30 : decode cX0_add 30 = .ok (.iastore, 1) := by decide +kernel
theorem dX0_add_31 : decode cX0_add 31 = .ok (.aload_n 0, 1) := by decide +kernel
theorem dX0_add_32 : decode cX0_add 32 = .ok (.getfield 15, 3) := by decide +kernel
theorem dX0_add_35 : decode cX0_add 35 = .ok (.aload_n 0, 1) := by decide +kernel
theorem dX0_add_36 : decode cX0_add 36 = .ok (.getfield 21, 3) := by decide +kernel
theorem dX0_add_39 : decode cX0_add 39 = .ok (.iload_n 1, 1) := by decide +kernel
theorem dX0_add_40 : decode cX0_add 40 = .ok (.iload_n 2, 1) := by decide +kernel
theorem dX0_add_41 : decode cX0_add 41 = .ok (.invokestatic 31, 3) := by decide +kernel
theorem dX0_add_44 : decode cX0_add 44 = .ok (.iastore, 1) := by decide +kernel
theorem dX0_add_45 : decode cX0_add 45 = .ok (.aload_n 0, 1) := by decide +kernel
theorem dX0_add_46 : decode cX0_add 46 = .ok (.getfield 18, 3) := by decide +kernel
theorem dX0_add_49 : decode cX0_add 49 = .ok (.aload_n 0, 1) := by decide +kernel
theorem dX0_add_50 : decode cX0_add 50 = .ok (.getfield 21, 3) := by decide +kernel
theorem dX0_add_53 : decode cX0_add 53 = .ok (.iload_n 3, 1) := by decide +kernel
theorem dX0_add_54 : decode cX0_add 54 = .ok (.iastore, 1) := by decide +kernel
theorem dX0_add_55 : decode cX0_add 55 = .ok (.aload_n 0, 1) := by decide +kernel
theorem dX0_add_56 : decode cX0_add 56 = .ok (.dup, 1) := by decide +kernel
theorem dX0_add_57 : decode cX0_add 57 = .ok (.getfield 21, 3) := by decide +kernel
theorem dX0_add_60 : decode cX0_add 60 = .ok (.iconst 1, 1) := by decide +kernel
theorem dX0_add_61 : decode cX0_add 61 = .ok (.iadd, 1) := by decide +kernel
theorem dX0_add_62 : decode cX0_add 62 = .ok (.putfield 21, 3) := by decide +kernel
theorem dX0_add_65 : decode cX0_add 65 = .ok (.return_, 1) := by decide +kernel
theorem dX0_about_0 : decode cX0_about 0 = .ok (.iload_n 1, 1) := by decide +kernel
theorem dX0_about_1 : decode cX0_about 1 = .ok (.iload_n 2, 1) := by decide +kernel
theorem dX0_about_2 : decode cX0_about 2 = .ok (.invokestatic 25, 3) := by decide +kernel
theorem dX0_about_5 : decode cX0_about 5 = .ok (.istore_n 3, 1) := by decide +kernel
theorem dX0_about_6 : decode cX0_about 6 = .ok (.iload_n 1, 1) := by decide +kernel
theorem dX0_about_7 : decode cX0_about 7 = .ok (.iload_n 2, 1) := by decide +kernel
theorem dX0_about_8 : decode cX0_about 8 = .ok (.invokestatic 31, 3) := by decide +kernel
theorem dX0_about_11 : decode cX0_about 11 = .ok (.istore 4, 2) := by decide +kernel
theorem dX0_about_13 : decode cX0_about 13 = .ok (.iconst 0, 1) := by decide +kernel
theorem dX0_about_14 : decode cX0_about 14 = .ok (.istore 5, 2) := by decide +kernel
theorem dX0_about_16 : decode cX0_about 16 = .ok (.iload 5, 2) := by decide +kernel
theorem dX0_about_18 : decode cX0_about 18 = .ok (.aload_n 0, 1) := by decide +kernel
theorem dX0_about_19 : decode cX0_about 19 = .ok (.getfield 21, 3) := by decide +kernel
theorem dX0_about_22 : decode cX0_about 22 = .ok (.if_icmp .ge 40, 3) := by decide +kernel
theorem dX0_about_25 : decode cX0_about 25 = .ok (.aload_n 0, 1) := by decide +kernel
theorem dX0_about_26 : decode cX0_about 26 = .ok (.getfield 9, 3) := by decide +kernel
theorem dX0_about_29 : decode cX0_about 29 = .ok (.iload 5, 2) := by decide +kernel
theorem dX0_about_31 : decode cX0_about 31 = .ok (.iaload, 1) := by decide +kernel
theorem dX0_about_32 : decode cX0_about 32 = .ok (.iload_n 3, 1) := by decide +kernel
theorem dX0_about_33 : decode cX0_about 33 = .ok (.if_icmp .ne 23, 3) := by decide +kernel
theorem dX0_about_36 : decode cX0_about 36 = .ok (.aload_n 0, 1) := by decide +kernel
theorem dX0_about_37 : decode cX0_about 37 = .ok (.getfield 15, 3) := by decide +kernel
theorem dX0_about_40 : decode cX0_about 40 = .ok (.iload 5, 2) := by decide +kernel
theorem dX0_about_42 : decode cX0_about 42 = .ok (.iaload, 1) := by decide +kernel
theorem dX0_about_43 : decode cX0_about 43 = .ok (.iload 4, 2) := by decide +kernel
theorem dX0_about_45 : decode cX0_about 45 = .ok (.if_icmp .ne 11, 3) := by decide +kernel
theorem dX0_about_48 : decode cX0_about 48 = .ok (.aload_n 0, 1) := by decide +kernel
theorem dX0_about_49 : decode cX0_about 49 = .ok (.getfield 18, 3) := by decide +kernel
theorem dX0_about_52 : decode cX0_about 52 = .ok (.iload 5, 2) := by decide +kernel
theorem dX0_about_54 : decode cX0_about 54 = .ok (.iaload, 1) := by decide +kernel
theorem dX0_about_55 : decode cX0_about 55 = .ok (.ireturn, 1) := by decide +kernel
theorem dX0_about_56 : decode cX0_about 56 = .ok (.iinc 5 1, 3) := by decide +kernel
theorem dX0_about_59 : decode cX0_about 59 = .ok (.goto (-43), 3) := by decide +kernel
theorem dX0_about_62 : decode cX0_about 62 = .ok (.iconst (-1), 1) := by decide +kernel
theorem dX0_about_63 : decode cX0_about 63 = .ok (.ireturn, 1) := by decide +kernel
set_option maxRecDepth 20000 in
theorem ggX0_fit_X3_meeting : GoodIn wsX0_fit wsX3_meeting := goodIn_r _ [8, 9, 10, 11, 12, 13, 14, 15, 16, 17, 7, 18] (by decide +kernel) (by decide +kernel)
set_option maxRecDepth 20000 in
theorem gX0_fit_X3_meeting : GoodIn wsX0_fit (va_wsS RX0 34 yX3_meeting wsX3_meeting) := goodIn_app (goodIn_of _ (by decide +kernel)) ggX0_fit_X3_meeting
theorem dX0_fit_0 : decode cX0_fit 0 = .ok (.iconst 0, 1) := by decide +kernel
theorem dX0_fit_1 : decode cX0_fit 1 = .ok (.istore_n 2, 1) := by decide +kernel
theorem dX0_fit_2 : decode cX0_fit 2 = .ok (.iload_n 2, 1) := by decide +kernel
theorem dX0_fit_3 : decode cX0_fit 3 = .ok (.aload_n 0, 1) := by decide +kernel
theorem dX0_fit_4 : decode cX0_fit 4 = .ok (.getfield 21, 3) := by decide +kernel
theorem dX0_fit_7 : decode cX0_fit 7 = .ok (.if_icmp .ge 36, 3) := by decide +kernel
theorem dX0_fit_10 : decode cX0_fit 10 = .ok (.iload_n 1, 1) := by decide +kernel
theorem dX0_fit_11 : decode cX0_fit 11 = .ok (.aload_n 0, 1) := by decide +kernel
theorem dX0_fit_12 : decode cX0_fit 12 = .ok (.getfield 9, 3) := by decide +kernel
theorem dX0_fit_15 : decode cX0_fit 15 = .ok (.iload_n 2, 1) := by decide +kernel
theorem dX0_fit_16 : decode cX0_fit 16 = .ok (.iaload, 1) := by decide +kernel
theorem dX0_fit_17 : decode cX0_fit 17 = .ok (.aload_n 0, 1) := by decide +kernel
theorem dX0_fit_18 : decode cX0_fit 18 = .ok (.getfield 15, 3) := by decide +kernel
theorem dX0_fit_21 : decode cX0_fit 21 = .ok (.iload_n 2, 1) := by decide +kernel
theorem dX0_fit_22 : decode cX0_fit 22 = .ok (.iaload, 1) := by decide +kernel
theorem dX0_fit_23 : decode cX0_fit 23 = .ok (.invokestatic 34, 3) := by decide +kernel
theorem dX0_fit_26 : decode cX0_fit 26 = .ok (.aload_n 0, 1) := by decide +kernel
theorem dX0_fit_27 : decode cX0_fit 27 = .ok (.getfield 18, 3) := by decide +kernel
theorem dX0_fit_30 : decode cX0_fit 30 = .ok (.iload_n 2, 1) := by decide +kernel
theorem dX0_fit_31 : decode cX0_fit 31 = .ok (.iaload, 1) := by decide +kernel
theorem dX0_fit_32 : decode cX0_fit 32 = .ok (.if_icmp .eq 5, 3) := by decide +kernel
theorem dX0_fit_35 : decode cX0_fit 35 = .ok (.iconst 0, 1) := by decide +kernel
theorem dX0_fit_36 : decode cX0_fit 36 = .ok (.ireturn, 1) := by decide +kernel
theorem dX0_fit_37 : decode cX0_fit 37 = .ok (.iinc 2 1, 3) := by decide +kernel
theorem dX0_fit_40 : decode cX0_fit 40 = .ok (.goto (-38), 3) := by decide +kernel
theorem dX0_fit_43 : decode cX0_fit 43 = .ok (.iconst 1, 1) := by decide +kernel
theorem dX0_fit_44 : decode cX0_fit 44 = .ok (.ireturn, 1) := by decide +kernel
set_option maxRecDepth 20000 in
theorem ggX0_fitAt_X3_meeting : GoodIn wsX0_fitAt wsX3_meeting := goodIn_r _ [8, 9, 10, 11, 12, 13, 14, 15, 16, 17, 7, 18] (by decide +kernel) (by decide +kernel)
set_option maxRecDepth 20000 in
theorem gX0_fitAt_X3_meeting : GoodIn wsX0_fitAt (va_wsS RX0 34 yX3_meeting wsX3_meeting) := goodIn_app (goodIn_of _ (by decide +kernel)) ggX0_fitAt_X3_meeting
theorem dX0_fitAt_0 : decode cX0_fitAt 0 = .ok (.iconst 0, 1) := by decide +kernel
theorem dX0_fitAt_1 : decode cX0_fitAt 1 = .ok (.istore_n 3, 1) := by decide +kernel
theorem dX0_fitAt_2 : decode cX0_fitAt 2 = .ok (.iload_n 3, 1) := by decide +kernel
theorem dX0_fitAt_3 : decode cX0_fitAt 3 = .ok (.aload_n 0, 1) := by decide +kernel
theorem dX0_fitAt_4 : decode cX0_fitAt 4 = .ok (.getfield 21, 3) := by decide +kernel
theorem dX0_fitAt_7 : decode cX0_fitAt 7 = .ok (.if_icmp .ge 41, 3) := by decide +kernel
theorem dX0_fitAt_10 : decode cX0_fitAt 10 = .ok (.aload_n 0, 1) := by decide +kernel
theorem dX0_fitAt_11 : decode cX0_fitAt 11 = .ok (.getfield 15, 3) := by decide +kernel
theorem dX0_fitAt_14 : decode cX0_fitAt 14 = .ok (.iload_n 3, 1) := by decide +kernel
theorem dX0_fitAt_15 : decode cX0_fitAt 15 = .ok (.iaload, 1) := by decide +kernel
theorem dX0_fitAt_16 : decode cX0_fitAt 16 = .ok (.iload_n 1, 1) := by decide +kernel
theorem dX0_fitAt_17 : decode cX0_fitAt 17 = .ok (.if_icmp .ne 25, 3) := by decide +kernel
theorem dX0_fitAt_20 : decode cX0_fitAt 20 = .ok (.iload_n 2, 1) := by decide +kernel
theorem dX0_fitAt_21 : decode cX0_fitAt 21 = .ok (.aload_n 0, 1) := by decide +kernel
theorem dX0_fitAt_22 : decode cX0_fitAt 22 = .ok (.getfield 9, 3) := by decide +kernel
theorem dX0_fitAt_25 : decode cX0_fitAt 25 = .ok (.iload_n 3, 1) := by decide +kernel
theorem dX0_fitAt_26 : decode cX0_fitAt 26 = .ok (.iaload, 1) := by decide +kernel
theorem dX0_fitAt_27 : decode cX0_fitAt 27 = .ok (.iload_n 1, 1) := by decide +kernel
theorem dX0_fitAt_28 : decode cX0_fitAt 28 = .ok (.invokestatic 34, 3) := by decide +kernel
theorem dX0_fitAt_31 : decode cX0_fitAt 31 = .ok (.aload_n 0, 1) := by decide +kernel
theorem dX0_fitAt_32 : decode cX0_fitAt 32 = .ok (.getfield 18, 3) := by decide +kernel
theorem dX0_fitAt_35 : decode cX0_fitAt 35 = .ok (.iload_n 3, 1) := by decide +kernel
theorem dX0_fitAt_36 : decode cX0_fitAt 36 = .ok (.iaload, 1) := by decide +kernel
theorem dX0_fitAt_37 : decode cX0_fitAt 37 = .ok (.if_icmp .eq 5, 3) := by decide +kernel
theorem dX0_fitAt_40 : decode cX0_fitAt 40 = .ok (.iconst 0, 1) := by decide +kernel
theorem dX0_fitAt_41 : decode cX0_fitAt 41 = .ok (.ireturn, 1) := by decide +kernel
theorem dX0_fitAt_42 : decode cX0_fitAt 42 = .ok (.iinc 3 1, 3) := by decide +kernel
theorem dX0_fitAt_45 : decode cX0_fitAt 45 = .ok (.goto (-43), 3) := by decide +kernel
theorem dX0_fitAt_48 : decode cX0_fitAt 48 = .ok (.iconst 1, 1) := by decide +kernel
theorem dX0_fitAt_49 : decode cX0_fitAt 49 = .ok (.ireturn, 1) := by decide +kernel
theorem dX0_copyFrom_0 : decode cX0_copyFrom 0 = .ok (.aload_n 1, 1) := by decide +kernel
theorem dX0_copyFrom_1 : decode cX0_copyFrom 1 = .ok (.getfield 9, 3) := by decide +kernel
theorem dX0_copyFrom_4 : decode cX0_copyFrom 4 = .ok (.iconst 0, 1) := by decide +kernel
theorem dX0_copyFrom_5 : decode cX0_copyFrom 5 = .ok (.aload_n 0, 1) := by decide +kernel
theorem dX0_copyFrom_6 : decode cX0_copyFrom 6 = .ok (.getfield 9, 3) := by decide +kernel
theorem dX0_copyFrom_9 : decode cX0_copyFrom 9 = .ok (.iconst 0, 1) := by decide +kernel
theorem dX0_copyFrom_10 : decode cX0_copyFrom 10 = .ok (.bipush 12, 2) := by decide +kernel
theorem dX0_copyFrom_12 : decode cX0_copyFrom 12 = .ok (.invokestatic 40, 3) := by decide +kernel
theorem dX0_copyFrom_15 : decode cX0_copyFrom 15 = .ok (.aload_n 1, 1) := by decide +kernel
theorem dX0_copyFrom_16 : decode cX0_copyFrom 16 = .ok (.getfield 15, 3) := by decide +kernel
theorem dX0_copyFrom_19 : decode cX0_copyFrom 19 = .ok (.iconst 0, 1) := by decide +kernel
theorem dX0_copyFrom_20 : decode cX0_copyFrom 20 = .ok (.aload_n 0, 1) := by decide +kernel
theorem dX0_copyFrom_21 : decode cX0_copyFrom 21 = .ok (.getfield 15, 3) := by decide +kernel
theorem dX0_copyFrom_24 : decode cX0_copyFrom 24 = .ok (.iconst 0, 1) := by decide +kernel
theorem dX0_copyFrom_25 : decode cX0_copyFrom 25 = .ok (.bipush 12, 2) := by decide +kernel
theorem dX0_copyFrom_27 : decode cX0_copyFrom 27 = .ok (.invokestatic 40, 3) := by decide +kernel
theorem dX0_copyFrom_30 : decode cX0_copyFrom 30 = .ok (.aload_n 1, 1) := by decide +kernel
theorem dX0_copyFrom_31 : decode cX0_copyFrom 31 = .ok (.getfield 18, 3) := by decide +kernel
theorem dX0_copyFrom_34 : decode cX0_copyFrom 34 = .ok (.iconst 0, 1) := by decide +kernel
theorem dX0_copyFrom_35 : decode cX0_copyFrom 35 = .ok (.aload_n 0, 1) := by decide +kernel
theorem dX0_copyFrom_36 : decode cX0_copyFrom 36 = .ok (.getfield 18, 3) := by decide +kernel
theorem dX0_copyFrom_39 : decode cX0_copyFrom 39 = .ok (.iconst 0, 1) := by decide +kernel
theorem dX0_copyFrom_40 : decode cX0_copyFrom 40 = .ok (.bipush 12, 2) := by decide +kernel
theorem dX0_copyFrom_42 : decode cX0_copyFrom 42 = .ok (.invokestatic 40, 3) := by decide +kernel
theorem dX0_copyFrom_45 : decode cX0_copyFrom 45 = .ok (.aload_n 0, 1) := by decide +kernel
theorem dX0_copyFrom_46 : decode cX0_copyFrom 46 = .ok (.aload_n 1, 1) := by decide +kernel
theorem dX0_copyFrom_47 : decode cX0_copyFrom 47 = .ok (.getfield 21, 3) := by decide +kernel
theorem dX0_copyFrom_50 : decode cX0_copyFrom 50 = .ok (.putfield 21, 3) := by decide +kernel
theorem dX0_copyFrom_53 : decode cX0_copyFrom 53 = .ok (.return_, 1) := by decide +kernel
theorem dX1_init_0 : decode cX1_init 0 = .ok (.aload_n 0, 1) := by decide +kernel
theorem dX1_init_1 : decode cX1_init 1 = .ok (.invokespecial 3, 3) := by decide +kernel
theorem dX1_init_4 : decode cX1_init 4 = .ok (.aload_n 0, 1) := by decide +kernel
theorem dX1_init_5 : decode cX1_init 5 = .ok (.sipush 512, 3) := by decide +kernel
theorem dX1_init_8 : decode cX1_init 8 = .ok (.newarray .int, 2) := by decide +kernel
theorem dX1_init_10 : decode cX1_init 10 = .ok (.putfield 9, 3) := by decide +kernel
theorem dX1_init_13 : decode cX1_init 13 = .ok (.return_, 1) := by decide +kernel
theorem dX1_lapse_0 : decode cX1_lapse 0 = .ok (.aload_n 0, 1) := by decide +kernel
theorem dX1_lapse_1 : decode cX1_lapse 1 = .ok (.iconst 0, 1) := by decide +kernel
theorem dX1_lapse_2 : decode cX1_lapse 2 = .ok (.putfield 15, 3) := by decide +kernel
theorem dX1_lapse_5 : decode cX1_lapse 5 = .ok (.return_, 1) := by decide +kernel
set_option maxRecDepth 20000 in
theorem ggX1_of_X0_fit : GoodIn wsX1_of wsX0_fit := goodIn_r _ [10, 11, 12, 13, 14, 15, 16, 17, 18, 19, 20, 21, 22, 23, 24, 25, 26, 27, 28, 41, 42, 43, 44] (by decide +kernel) (by decide +kernel)
set_option maxRecDepth 20000 in
theorem gX1_of_X0_fit : GoodIn wsX1_of (wsV RX1 32 RX0 yX0_fit wsX0_fit) := goodIn_app (goodIn_of _ (by decide +kernel)) ggX1_of_X0_fit
theorem dX1_of_0 : decode cX1_of 0 = .ok (.aload_n 0, 1) := by decide +kernel
theorem dX1_of_1 : decode cX1_of 1 = .ok (.getfield 15, 3) := by decide +kernel
theorem dX1_of_4 : decode cX1_of 4 = .ok (.ifCond .eq 5, 3) := by decide +kernel
theorem dX1_of_7 : decode cX1_of 7 = .ok (.aload_n 0, 1) := by decide +kernel
theorem dX1_of_8 : decode cX1_of 8 = .ok (.areturn, 1) := by decide +kernel
theorem dX1_of_9 : decode cX1_of 9 = .ok (.aload_n 0, 1) := by decide +kernel
theorem dX1_of_10 : decode cX1_of 10 = .ok (.iconst 0, 1) := by decide +kernel
theorem dX1_of_11 : decode cX1_of 11 = .ok (.putfield 19, 3) := by decide +kernel
theorem dX1_of_14 : decode cX1_of 14 = .ok (.iconst 0, 1) := by decide +kernel
theorem dX1_of_15 : decode cX1_of 15 = .ok (.istore_n 2, 1) := by decide +kernel
theorem dX1_of_16 : decode cX1_of 16 = .ok (.iload_n 2, 1) := by decide +kernel
theorem dX1_of_17 : decode cX1_of 17 = .ok (.sipush 512, 3) := by decide +kernel
theorem dX1_of_20 : decode cX1_of 20 = .ok (.if_icmp .ge 49, 3) := by decide +kernel
theorem dX1_of_23 : decode cX1_of 23 = .ok (.iload_n 2, 1) := by decide +kernel
theorem dX1_of_24 : decode cX1_of 24 = .ok (.aload_n 1, 1) := by decide +kernel
theorem dX1_of_25 : decode cX1_of 25 = .ok (.getfield 23, 3) := by decide +kernel
theorem dX1_of_28 : decode cX1_of 28 = .ok (.iand, 1) := by decide +kernel
theorem dX1_of_29 : decode cX1_of 29 = .ok (.ifCond .ne 34, 3) := by decide +kernel
theorem dX1_of_32 : decode cX1_of 32 = .ok (.aload_n 1, 1) := by decide +kernel
theorem dX1_of_33 : decode cX1_of 33 = .ok (.getfield 28, 3) := by decide +kernel
theorem dX1_of_36 : decode cX1_of 36 = .ok (.iload_n 2, 1) := by decide +kernel
theorem dX1_of_37 : decode cX1_of 37 = .ok (.invokevirtual 32, 3) := by decide +kernel
theorem dX1_of_40 : decode cX1_of 40 = .ok (.ifCond .eq 23, 3) := by decide +kernel
theorem dX1_of_43 : decode cX1_of 43 = .ok (.aload_n 0, 1) := by decide +kernel
theorem dX1_of_44 : decode cX1_of 44 = .ok (.getfield 9, 3) := by decide +kernel
theorem dX1_of_47 : decode cX1_of 47 = .ok (.aload_n 0, 1) := by decide +kernel
theorem dX1_of_48 : decode cX1_of 48 = .ok (.getfield 19, 3) := by decide +kernel
theorem dX1_of_51 : decode cX1_of 51 = .ok (.iload_n 2, 1) := by decide +kernel
theorem dX1_of_52 : decode cX1_of 52 = .ok (.iastore, 1) := by decide +kernel
theorem dX1_of_53 : decode cX1_of 53 = .ok (.aload_n 0, 1) := by decide +kernel
theorem dX1_of_54 : decode cX1_of 54 = .ok (.dup, 1) := by decide +kernel
theorem dX1_of_55 : decode cX1_of 55 = .ok (.getfield 19, 3) := by decide +kernel
theorem dX1_of_58 : decode cX1_of 58 = .ok (.iconst 1, 1) := by decide +kernel
theorem dX1_of_59 : decode cX1_of 59 = .ok (.iadd, 1) := by decide +kernel
theorem dX1_of_60 : decode cX1_of 60 = .ok (.putfield 19, 3) := by decide +kernel
theorem dX1_of_63 : decode cX1_of 63 = .ok (.iinc 2 1, 3) := by decide +kernel
theorem dX1_of_66 : decode cX1_of 66 = .ok (.goto (-50), 3) := by decide +kernel
theorem dX1_of_69 : decode cX1_of 69 = .ok (.aload_n 0, 1) := by decide +kernel
theorem dX1_of_70 : decode cX1_of 70 = .ok (.iconst 1, 1) := by decide +kernel
theorem dX1_of_71 : decode cX1_of 71 = .ok (.putfield 15, 3) := by decide +kernel
theorem dX1_of_74 : decode cX1_of 74 = .ok (.aload_n 0, 1) := by decide +kernel
theorem dX1_of_75 : decode cX1_of 75 = .ok (.areturn, 1) := by decide +kernel
theorem dX1_maskAt_0 : decode cX1_maskAt 0 = .ok (.iload_n 1, 1) := by decide +kernel
theorem dX1_maskAt_1 : decode cX1_maskAt 1 = .ok (.ifCond .lt 20, 3) := by decide +kernel
theorem dX1_maskAt_4 : decode cX1_maskAt 4 = .ok (.iload_n 1, 1) := by decide +kernel
theorem dX1_maskAt_5 : decode cX1_maskAt 5 = .ok (.aload_n 0, 1) := by decide +kernel
theorem dX1_maskAt_6 : decode cX1_maskAt 6 = .ok (.getfield 19, 3) := by decide +kernel
theorem dX1_maskAt_9 : decode cX1_maskAt 9 = .ok (.if_icmp .ge 12, 3) := by decide +kernel
theorem dX1_maskAt_12 : decode cX1_maskAt 12 = .ok (.aload_n 0, 1) := by decide +kernel
theorem dX1_maskAt_13 : decode cX1_maskAt 13 = .ok (.getfield 9, 3) := by decide +kernel
theorem dX1_maskAt_16 : decode cX1_maskAt 16 = .ok (.iload_n 1, 1) := by decide +kernel
theorem dX1_maskAt_17 : decode cX1_maskAt 17 = .ok (.iaload, 1) := by decide +kernel
theorem dX1_maskAt_18 : decode cX1_maskAt 18 = .ok (.goto 4, 3) := by decide +kernel
theorem dX1_maskAt_21 : decode cX1_maskAt 21 = .ok (.iconst (-1), 1) := by decide +kernel
theorem dX1_maskAt_22 : decode cX1_maskAt 22 = .ok (.ireturn, 1) := by decide +kernel
set_option maxRecDepth 20000 in
theorem ggX1_withMeeting_X3_meeting : GoodIn wsX1_withMeeting wsX3_meeting := goodIn_r _ [6, 7, 8, 9, 10, 11, 12, 13, 14, 15, 5, 16] (by decide +kernel) (by decide +kernel)
set_option maxRecDepth 20000 in
theorem gX1_withMeeting_X3_meeting : GoodIn wsX1_withMeeting (va_wsS RX1 38 yX3_meeting wsX3_meeting) := goodIn_app (goodIn_of _ (by decide +kernel)) ggX1_withMeeting_X3_meeting
theorem dX1_withMeeting_0 : decode cX1_withMeeting 0 = .ok (.iconst 0, 1) := by decide +kernel
theorem dX1_withMeeting_1 : decode cX1_withMeeting 1 = .ok (.istore_n 3, 1) := by decide +kernel
theorem dX1_withMeeting_2 : decode cX1_withMeeting 2 = .ok (.iconst 0, 1) := by decide +kernel
theorem dX1_withMeeting_3 : decode cX1_withMeeting 3 = .ok (.istore 4, 2) := by decide +kernel
theorem dX1_withMeeting_5 : decode cX1_withMeeting 5 = .ok (.iload 4, 2) := by decide +kernel
theorem dX1_withMeeting_7 : decode cX1_withMeeting 7 = .ok (.aload_n 0, 1) := by decide +kernel
theorem dX1_withMeeting_8 : decode cX1_withMeeting 8 = .ok (.getfield 19, 3) := by decide +kernel
theorem dX1_withMeeting_11 : decode cX1_withMeeting 11 = .ok (.if_icmp .ge 24, 3) := by decide +kernel
theorem dX1_withMeeting_14 : decode cX1_withMeeting 14 = .ok (.iload_n 3, 1) := by decide +kernel
theorem dX1_withMeeting_15 : decode cX1_withMeeting 15 = .ok (.aload_n 0, 1) := by decide +kernel
theorem dX1_withMeeting_16 : decode cX1_withMeeting 16 = .ok (.getfield 9, 3) := by decide +kernel
theorem dX1_withMeeting_19 : decode cX1_withMeeting 19 = .ok (.iload 4, 2) := by decide +kernel
theorem dX1_withMeeting_21 : decode cX1_withMeeting 21 = .ok (.iaload, 1) := by decide +kernel
theorem dX1_withMeeting_22 : decode cX1_withMeeting 22 = .ok (.iload_n 1, 1) := by decide +kernel
theorem dX1_withMeeting_23 : decode cX1_withMeeting 23 = .ok (.iload_n 2, 1) := by decide +kernel
theorem dX1_withMeeting_24 : decode cX1_withMeeting 24 = .ok (.invokestatic 38, 3) := by decide +kernel
theorem dX1_withMeeting_27 : decode cX1_withMeeting 27 = .ok (.iadd, 1) := by decide +kernel
theorem dX1_withMeeting_28 : decode cX1_withMeeting 28 = .ok (.istore_n 3, 1) := by decide +kernel
theorem dX1_withMeeting_29 : decode cX1_withMeeting 29 = .ok (.iinc 4 1, 3) := by decide +kernel
theorem dX1_withMeeting_32 : decode cX1_withMeeting 32 = .ok (.goto (-27), 3) := by decide +kernel
theorem dX1_withMeeting_35 : decode cX1_withMeeting 35 = .ok (.iload_n 3, 1) := by decide +kernel
theorem dX1_withMeeting_36 : decode cX1_withMeeting 36 = .ok (.ireturn, 1) := by decide +kernel
set_option maxRecDepth 20000 in
theorem ggX1_surely_X6_bit : GoodIn wsX1_surely wsX6_bit := goodIn_r _ [5] (by decide +kernel) (by decide +kernel)
set_option maxRecDepth 20000 in
theorem gX1_surely_X6_bit_n44 : GoodIn wsX1_surely (wsX6_bit) := ggX1_surely_X6_bit
theorem dX1_surely_0 : decode cX1_surely 0 = .ok (.iconst 0, 1) := by decide +kernel
theorem dX1_surely_1 : decode cX1_surely 1 = .ok (.istore_n 2, 1) := by decide +kernel
theorem dX1_surely_2 : decode cX1_surely 2 = .ok (.iconst 0, 1) := by decide +kernel
theorem dX1_surely_3 : decode cX1_surely 3 = .ok (.istore_n 3, 1) := by decide +kernel
theorem dX1_surely_4 : decode cX1_surely 4 = .ok (.iload_n 3, 1) := by decide +kernel
theorem dX1_surely_5 : decode cX1_surely 5 = .ok (.aload_n 0, 1) := by decide +kernel
theorem dX1_surely_6 : decode cX1_surely 6 = .ok (.getfield 19, 3) := by decide +kernel
theorem dX1_surely_9 : decode cX1_surely 9 = .ok (.if_icmp .ge 22, 3) := by decide +kernel
theorem dX1_surely_12 : decode cX1_surely 12 = .ok (.iload_n 2, 1) := by decide +kernel
theorem dX1_surely_13 : decode cX1_surely 13 = .ok (.aload_n 0, 1) := by decide +kernel
theorem dX1_surely_14 : decode cX1_surely 14 = .ok (.getfield 9, 3) := by decide +kernel
theorem dX1_surely_17 : decode cX1_surely 17 = .ok (.iload_n 3, 1) := by decide +kernel
theorem dX1_surely_18 : decode cX1_surely 18 = .ok (.iaload, 1) := by decide +kernel
theorem dX1_surely_19 : decode cX1_surely 19 = .ok (.iload_n 1, 1) := by decide +kernel
theorem dX1_surely_20 : decode cX1_surely 20 = .ok (.invokestatic 44, 3) := by decide +kernel
theorem dX1_surely_23 : decode cX1_surely 23 = .ok (.iadd, 1) := by decide +kernel
theorem dX1_surely_24 : decode cX1_surely 24 = .ok (.istore_n 2, 1) := by decide +kernel
theorem dX1_surely_25 : decode cX1_surely 25 = .ok (.iinc 3 1, 3) := by decide +kernel
theorem dX1_surely_28 : decode cX1_surely 28 = .ok (.goto (-24), 3) := by decide +kernel
theorem dX1_surely_31 : decode cX1_surely 31 = .ok (.iload_n 2, 1) := by decide +kernel
theorem dX1_surely_32 : decode cX1_surely 32 = .ok (.aload_n 0, 1) := by decide +kernel
theorem dX1_surely_33 : decode cX1_surely 33 = .ok (.getfield 19, 3) := by decide +kernel
theorem dX1_surely_36 : decode cX1_surely 36 = .ok (.if_icmp .ne 5, 3) := by decide +kernel
theorem dX1_surely_39 : decode cX1_surely 39 = .ok (.iconst 1, 1) := by decide +kernel
theorem dX1_surely_40 : decode cX1_surely 40 = .ok (.ireturn, 1) := by decide +kernel
theorem dX1_surely_41 : decode cX1_surely 41 = .ok (.iload_n 2, 1) := by decide +kernel
theorem dX1_surely_42 : decode cX1_surely 42 = .ok (.ifCond .ne 7, 3) := by decide +kernel
theorem dX1_surely_45 : decode cX1_surely 45 = .ok (.iconst 0, 1) := by decide +kernel
theorem dX1_surely_46 : decode cX1_surely 46 = .ok (.goto 4, 3) := by decide +kernel
theorem dX1_surely_49 : decode cX1_surely 49 = .ok (.iconst (-1), 1) := by decide +kernel
theorem dX1_surely_50 : decode cX1_surely 50 = .ok (.ireturn, 1) := by decide +kernel
set_option maxRecDepth 20000 in
theorem ggX2_init_X5_init : GoodIn wsX2_init wsX5_init := goodIn_r _ [10, 11, 2, 3, 12, 13, 14, 15, 16, 17, 18, 19, 20, 21, 22, 23, 24, 27, 28, 29, 30, 31, 32, 33, 34, 35, 36, 37, 38, 39] (by decide +kernel) (by decide +kernel)
set_option maxRecDepth 20000 in
theorem gX2_init_X5_init : GoodIn wsX2_init (wsX5_init) := ggX2_init_X5_init
theorem dX2_init_0 : decode cX2_init 0 = .ok (.aload_n 0, 1) := by decide +kernel
theorem dX2_init_1 : decode cX2_init 1 = .ok (.invokespecial 3, 3) := by decide +kernel
theorem dX2_init_4 : decode cX2_init 4 = .ok (.aload_n 0, 1) := by decide +kernel
theorem dX2_init_5 : decode cX2_init 5 = .ok (.bipush 6, 2) := by decide +kernel
theorem dX2_init_7 : decode cX2_init 7 = .ok (.anewarray 9, 3) := by decide +kernel
theorem dX2_init_10 : decode cX2_init 10 = .ok (.putfield 11, 3) := by decide +kernel
theorem dX2_init_13 : decode cX2_init 13 = .ok (.iconst 0, 1) := by decide +kernel
theorem dX2_init_14 : decode cX2_init 14 = .ok (.istore_n 1, 1) := by decide +kernel
theorem dX2_init_15 : decode cX2_init 15 = .ok (.iload_n 1, 1) := by decide +kernel
theorem dX2_init_16 : decode cX2_init 16 = .ok (.bipush 6, 2) := by decide +kernel
theorem dX2_init_18 : decode cX2_init 18 = .ok (.if_icmp .ge 22, 3) := by decide +kernel
theorem dX2_init_21 : decode cX2_init 21 = .ok (.aload_n 0, 1) := by decide +kernel
theorem dX2_init_22 : decode cX2_init 22 = .ok (.getfield 11, 3) := by decide +kernel
theorem dX2_init_25 : decode cX2_init 25 = .ok (.iload_n 1, 1) := by decide +kernel
theorem dX2_init_26 : decode cX2_init 26 = .ok (.new 9, 3) := by decide +kernel
theorem dX2_init_29 : decode cX2_init 29 = .ok (.dup, 1) := by decide +kernel
theorem dX2_init_30 : decode cX2_init 30 = .ok (.invokespecial 17, 3) := by decide +kernel
theorem dX2_init_33 : decode cX2_init 33 = .ok (.aastore, 1) := by decide +kernel
theorem dX2_init_34 : decode cX2_init 34 = .ok (.iinc 1 1, 3) := by decide +kernel
theorem dX2_init_37 : decode cX2_init 37 = .ok (.goto (-22), 3) := by decide +kernel
theorem dX2_init_40 : decode cX2_init 40 = .ok (.return_, 1) := by decide +kernel
set_option maxRecDepth 20000 in
theorem ggX2_save_X2_dropOldest : GoodIn wsX2_save wsX2_dropOldest := goodIn_r _ [7, 2, 1, 36, 37] (by decide +kernel) (by decide +kernel)
set_option maxRecDepth 20000 in
theorem gX2_save_X2_dropOldest : GoodIn wsX2_save (wsV RX2 22 RX2 yX2_dropOldest wsX2_dropOldest) := goodIn_app (goodIn_of _ (by decide +kernel)) ggX2_save_X2_dropOldest
set_option maxRecDepth 20000 in
theorem ggX2_save_X5_copyFrom : GoodIn wsX2_save wsX5_copyFrom := goodIn_r _ [12, 13, 14, 15, 16, 17, 18, 19, 20, 21, 22, 23, 24, 25, 26, 27, 28, 29, 30, 31, 32, 33, 34, 35, 38, 39, 40, 41, 42, 43, 44, 45, 46, 47, 48, 49, 50] (by decide +kernel) (by decide +kernel)
set_option maxRecDepth 20000 in
theorem gX2_save_X5_copyFrom : GoodIn wsX2_save (wsV RX2 25 RX5 yX5_copyFrom wsX5_copyFrom) := goodIn_app (goodIn_of _ (by decide +kernel)) ggX2_save_X5_copyFrom
theorem dX2_save_0 : decode cX2_save 0 = .ok (.aload_n 0, 1) := by decide +kernel
theorem dX2_save_1 : decode cX2_save 1 = .ok (.getfield 18, 3) := by decide +kernel
theorem dX2_save_4 : decode cX2_save 4 = .ok (.bipush 6, 2) := by decide +kernel
theorem dX2_save_6 : decode cX2_save 6 = .ok (.if_icmp .lt 7, 3) := by decide +kernel
theorem dX2_save_9 : decode cX2_save 9 = .ok (.aload_n 0, 1) := by decide +kernel
theorem dX2_save_10 : decode cX2_save 10 = .ok (.invokevirtual 22, 3) := by decide +kernel
theorem dX2_save_13 : decode cX2_save 13 = .ok (.aload_n 0, 1) := by decide +kernel
theorem dX2_save_14 : decode cX2_save 14 = .ok (.getfield 11, 3) := by decide +kernel
theorem dX2_save_17 : decode cX2_save 17 = .ok (.aload_n 0, 1) := by decide +kernel
theorem dX2_save_18 : decode cX2_save 18 = .ok (.getfield 18, 3) := by decide +kernel
theorem dX2_save_21 : decode cX2_save 21 = .ok (.aaload, 1) := by decide +kernel
theorem dX2_save_22 : decode cX2_save 22 = .ok (.aload_n 1, 1) := by decide +kernel
theorem dX2_save_23 : decode cX2_save 23 = .ok (.invokevirtual 25, 3) := by decide +kernel
theorem dX2_save_26 : decode cX2_save 26 = .ok (.aload_n 0, 1) := by decide +kernel
theorem dX2_save_27 : decode cX2_save 27 = .ok (.dup, 1) := by decide +kernel
theorem dX2_save_28 : decode cX2_save 28 = .ok (.getfield 18, 3) := by decide +kernel
theorem dX2_save_31 : decode cX2_save 31 = .ok (.iconst 1, 1) := by decide +kernel
theorem dX2_save_32 : decode cX2_save 32 = .ok (.iadd, 1) := by decide +kernel
theorem dX2_save_33 : decode cX2_save 33 = .ok (.putfield 18, 3) := by decide +kernel
theorem dX2_save_36 : decode cX2_save 36 = .ok (.return_, 1) := by decide +kernel
theorem dX2_dropOldest_0 : decode cX2_dropOldest 0 = .ok (.aload_n 0, 1) := by decide +kernel
theorem dX2_dropOldest_1 : decode cX2_dropOldest 1 = .ok (.getfield 11, 3) := by decide +kernel
theorem dX2_dropOldest_4 : decode cX2_dropOldest 4 = .ok (.iconst 0, 1) := by decide +kernel
theorem dX2_dropOldest_5 : decode cX2_dropOldest 5 = .ok (.aaload, 1) := by decide +kernel
theorem dX2_dropOldest_6 : decode cX2_dropOldest 6 = .ok (.astore_n 1, 1) := by decide +kernel
theorem dX2_dropOldest_7 : decode cX2_dropOldest 7 = .ok (.iconst 1, 1) := by decide +kernel
theorem dX2_dropOldest_8 : decode cX2_dropOldest 8 = .ok (.istore_n 2, 1) := by decide +kernel
theorem dX2_dropOldest_9 : decode cX2_dropOldest 9 = .ok (.iload_n 2, 1) := by decide +kernel
theorem dX2_dropOldest_10 : decode cX2_dropOldest 10 = .ok (.bipush 6, 2) := by decide +kernel
theorem dX2_dropOldest_12 : decode cX2_dropOldest 12 = .ok (.if_icmp .ge 23, 3) := by decide +kernel
theorem dX2_dropOldest_15 : decode cX2_dropOldest 15 = .ok (.aload_n 0, 1) := by decide +kernel
theorem dX2_dropOldest_16 : decode cX2_dropOldest 16 = .ok (.getfield 11, 3) := by decide +kernel
theorem dX2_dropOldest_19 : decode cX2_dropOldest 19 = .ok (.iload_n 2, 1) := by decide +kernel
theorem dX2_dropOldest_20 : decode cX2_dropOldest 20 = .ok (.iconst 1, 1) := by decide +kernel
theorem dX2_dropOldest_21 : decode cX2_dropOldest 21 = .ok (.isub, 1) := by decide +kernel
theorem dX2_dropOldest_22 : decode cX2_dropOldest 22 = .ok (.aload_n 0, 1) := by decide +kernel
theorem dX2_dropOldest_23 : decode cX2_dropOldest 23 = .ok (.getfield 11, 3) := by decide +kernel
theorem dX2_dropOldest_26 : decode cX2_dropOldest 26 = .ok (.iload_n 2, 1) := by decide +kernel
theorem dX2_dropOldest_27 : decode cX2_dropOldest 27 = .ok (.aaload, 1) := by decide +kernel
theorem dX2_dropOldest_28 : decode cX2_dropOldest 28 = .ok (.aastore, 1) := by decide +kernel
theorem dX2_dropOldest_29 : decode cX2_dropOldest 29 = .ok (.iinc 2 1, 3) := by decide +kernel
theorem dX2_dropOldest_32 : decode cX2_dropOldest 32 = .ok (.goto (-23), 3) := by decide +kernel
theorem dX2_dropOldest_35 : decode cX2_dropOldest 35 = .ok (.aload_n 0, 1) := by decide +kernel
theorem dX2_dropOldest_36 : decode cX2_dropOldest 36 = .ok (.getfield 11, 3) := by decide +kernel
theorem dX2_dropOldest_39 : decode cX2_dropOldest 39 = .ok (.iconst 5, 1) := by decide +kernel
theorem dX2_dropOldest_40 : decode cX2_dropOldest 40 = .ok (.aload_n 1, 1) := by decide +kernel
theorem dX2_dropOldest_41 : decode cX2_dropOldest 41 = .ok (.aastore, 1) := by decide +kernel
theorem dX2_dropOldest_42 : decode cX2_dropOldest 42 = .ok (.aload_n 0, 1) := by decide +kernel
theorem dX2_dropOldest_43 : decode cX2_dropOldest 43 = .ok (.iconst 5, 1) := by decide +kernel
theorem dX2_dropOldest_44 : decode cX2_dropOldest 44 = .ok (.putfield 18, 3) := by decide +kernel
theorem dX2_dropOldest_47 : decode cX2_dropOldest 47 = .ok (.return_, 1) := by decide +kernel
set_option maxRecDepth 20000 in
theorem ggX2_restore_X5_copyFrom : GoodIn wsX2_restore wsX5_copyFrom := goodIn_r _ [7, 8, 9, 10, 11, 12, 13, 14, 15, 16, 17, 18, 19, 20, 21, 22, 23, 24, 25, 26, 27, 28, 29, 30, 33, 34, 35, 36, 37, 38, 39, 40, 41, 42, 43, 44, 45] (by decide +kernel) (by decide +kernel)
set_option maxRecDepth 20000 in
theorem gX2_restore_X5_copyFrom : GoodIn wsX2_restore (wsV RX2 25 RX5 yX5_copyFrom wsX5_copyFrom) := goodIn_app (goodIn_of _ (by decide +kernel)) ggX2_restore_X5_copyFrom
theorem dX2_restore_0 : decode cX2_restore 0 = .ok (.aload_n 0, 1) := by decide +kernel
theorem dX2_restore_1 : decode cX2_restore 1 = .ok (.getfield 18, 3) := by decide +kernel
theorem dX2_restore_4 : decode cX2_restore 4 = .ok (.ifCond .le 26, 3) := by decide +kernel
theorem dX2_restore_7 : decode cX2_restore 7 = .ok (.aload_n 0, 1) := by decide +kernel
theorem dX2_restore_8 : decode cX2_restore 8 = .ok (.dup, 1) := by decide +kernel
theorem dX2_restore_9 : decode cX2_restore 9 = .ok (.getfield 18, 3) := by decide +kernel
theorem dX2_restore_12 : decode cX2_restore 12 = .ok (.iconst 1, 1) := by decide +kernel
theorem dX2_restore_13 : decode cX2_restore 13 = .ok (.isub, 1) := by decide +kernel
theorem dX2_restore_14 : decode cX2_restore 14 = .ok (.putfield 18, 3) := by decide +kernel
theorem dX2_restore_17 : decode cX2_restore 17 = .ok (.aload_n 1, 1) := by decide +kernel
theorem dX2_restore_18 : decode cX2_restore 18 = .ok (.aload_n 0, 1) := by decide +kernel
theorem dX2_restore_19 : decode cX2_restore 19 = .ok (.getfield 11, 3) := by decide +kernel
theorem dX2_restore_22 : decode cX2_restore 22 = .ok (.aload_n 0, 1) := by decide +kernel
theorem dX2_restore_23 : decode cX2_restore 23 = .ok (.getfield 18, 3) := by decide +kernel
theorem dX2_restore_26 : decode cX2_restore 26 = .ok (.aaload, 1) := by decide +kernel
theorem dX2_restore_27 : decode cX2_restore 27 = .ok (.invokevirtual 25, 3) := by decide +kernel
theorem dX2_restore_30 : decode cX2_restore 30 = .ok (.return_, 1) := by decide +kernel
theorem dX3_placeOf_0 : decode cX3_placeOf 0 = .ok (.iconst 0, 1) := by decide +kernel
theorem dX3_placeOf_1 : decode cX3_placeOf 1 = .ok (.istore_n 2, 1) := by decide +kernel
theorem dX3_placeOf_2 : decode cX3_placeOf 2 = .ok (.iconst 1, 1) := by decide +kernel
theorem dX3_placeOf_3 : decode cX3_placeOf 3 = .ok (.istore_n 3, 1) := by decide +kernel
theorem dX3_placeOf_4 : decode cX3_placeOf 4 = .ok (.iconst 0, 1) := by decide +kernel
theorem dX3_placeOf_5 : decode cX3_placeOf 5 = .ok (.istore 4, 2) := by decide +kernel
theorem dX3_placeOf_7 : decode cX3_placeOf 7 = .ok (.iload 4, 2) := by decide +kernel
theorem dX3_placeOf_9 : decode cX3_placeOf 9 = .ok (.iload_n 1, 1) := by decide +kernel
theorem dX3_placeOf_10 : decode cX3_placeOf 10 = .ok (.if_icmp .ge 29, 3) := by decide +kernel
theorem dX3_placeOf_13 : decode cX3_placeOf 13 = .ok (.iload_n 0, 1) := by decide +kernel
theorem dX3_placeOf_14 : decode cX3_placeOf 14 = .ok (.iload 4, 2) := by decide +kernel
theorem dX3_placeOf_16 : decode cX3_placeOf 16 = .ok (.ishr, 1) := by decide +kernel
theorem dX3_placeOf_17 : decode cX3_placeOf 17 = .ok (.iconst 1, 1) := by decide +kernel
theorem dX3_placeOf_18 : decode cX3_placeOf 18 = .ok (.iand, 1) := by decide +kernel
theorem dX3_placeOf_19 : decode cX3_placeOf 19 = .ok (.iconst 1, 1) := by decide +kernel
theorem dX3_placeOf_20 : decode cX3_placeOf 20 = .ok (.if_icmp .ne 9, 3) := by decide +kernel
theorem dX3_placeOf_23 : decode cX3_placeOf 23 = .ok (.iload_n 3, 1) := by decide +kernel
theorem dX3_placeOf_24 : decode cX3_placeOf 24 = .ok (.ineg, 1) := by decide +kernel
theorem dX3_placeOf_25 : decode cX3_placeOf 25 = .ok (.istore_n 3, 1) := by decide +kernel
theorem dX3_placeOf_26 : decode cX3_placeOf 26 = .ok (.goto 7, 3) := by decide +kernel
theorem dX3_placeOf_29 : decode cX3_placeOf 29 = .ok (.iload_n 2, 1) := by decide +kernel
theorem dX3_placeOf_30 : decode cX3_placeOf 30 = .ok (.iload_n 3, 1) := by decide +kernel
theorem dX3_placeOf_31 : decode cX3_placeOf 31 = .ok (.iadd, 1) := by decide +kernel
theorem dX3_placeOf_32 : decode cX3_placeOf 32 = .ok (.istore_n 2, 1) := by decide +kernel
theorem dX3_placeOf_33 : decode cX3_placeOf 33 = .ok (.iinc 4 1, 3) := by decide +kernel
theorem dX3_placeOf_36 : decode cX3_placeOf 36 = .ok (.goto (-29), 3) := by decide +kernel
theorem dX3_placeOf_39 : decode cX3_placeOf 39 = .ok (.iload_n 2, 1) := by decide +kernel
theorem dX3_placeOf_40 : decode cX3_placeOf 40 = .ok (.ireturn, 1) := by decide +kernel
set_option maxRecDepth 20000 in
theorem ggX3_meeting_X3_placeOf : GoodIn wsX3_meeting wsX3_placeOf := goodIn_r _ [11] (by decide +kernel) (by decide +kernel)
set_option maxRecDepth 20000 in
theorem gX3_meeting_X3_placeOf : GoodIn wsX3_meeting (va_wsS RX3 19 yX3_placeOf wsX3_placeOf) := goodIn_app (goodIn_of _ (by decide +kernel)) ggX3_meeting_X3_placeOf
theorem dX3_meeting_0 : decode cX3_meeting 0 = .ok (.iload_n 1, 1) := by decide +kernel
theorem dX3_meeting_1 : decode cX3_meeting 1 = .ok (.iload_n 2, 1) := by decide +kernel
theorem dX3_meeting_2 : decode cX3_meeting 2 = .ok (.invokestatic 9, 3) := by decide +kernel
theorem dX3_meeting_5 : decode cX3_meeting 5 = .ok (.istore_n 3, 1) := by decide +kernel
theorem dX3_meeting_6 : decode cX3_meeting 6 = .ok (.iload_n 1, 1) := by decide +kernel
theorem dX3_meeting_7 : decode cX3_meeting 7 = .ok (.iload_n 2, 1) := by decide +kernel
theorem dX3_meeting_8 : decode cX3_meeting 8 = .ok (.isub, 1) := by decide +kernel
theorem dX3_meeting_9 : decode cX3_meeting 9 = .ok (.invokestatic 15, 3) := by decide +kernel
theorem dX3_meeting_12 : decode cX3_meeting 12 = .ok (.istore 4, 2) := by decide +kernel
theorem dX3_meeting_14 : decode cX3_meeting 14 = .ok (.iload_n 0, 1) := by decide +kernel
theorem dX3_meeting_15 : decode cX3_meeting 15 = .ok (.iload_n 3, 1) := by decide +kernel
theorem dX3_meeting_16 : decode cX3_meeting 16 = .ok (.ishr, 1) := by decide +kernel
theorem dX3_meeting_17 : decode cX3_meeting 17 = .ok (.iload 4, 2) := by decide +kernel
theorem dX3_meeting_19 : decode cX3_meeting 19 = .ok (.invokestatic 19, 3) := by decide +kernel
theorem dX3_meeting_22 : decode cX3_meeting 22 = .ok (.ifCond .ne 7, 3) := by decide +kernel
theorem dX3_meeting_25 : decode cX3_meeting 25 = .ok (.iconst 1, 1) := by decide +kernel
theorem dX3_meeting_26 : decode cX3_meeting 26 = .ok (.goto 4, 3) := by decide +kernel
theorem dX3_meeting_29 : decode cX3_meeting 29 = .ok (.iconst 0, 1) := by decide +kernel
theorem dX3_meeting_30 : decode cX3_meeting 30 = .ok (.ireturn, 1) := by decide +kernel
set_option maxRecDepth 20000 in
theorem ggX3_panelsWith_X3_meeting : GoodIn wsX3_panelsWith wsX3_meeting := goodIn_r _ [4, 5, 6, 7, 8, 9, 10, 11, 12, 13, 3, 14] (by decide +kernel) (by decide +kernel)
set_option maxRecDepth 20000 in
theorem gX3_panelsWith_X3_meeting : GoodIn wsX3_panelsWith (va_wsS RX3 24 yX3_meeting wsX3_meeting) := goodIn_app (goodIn_of _ (by decide +kernel)) ggX3_panelsWith_X3_meeting
theorem dX3_panelsWith_0 : decode cX3_panelsWith 0 = .ok (.iconst 0, 1) := by decide +kernel
theorem dX3_panelsWith_1 : decode cX3_panelsWith 1 = .ok (.istore_n 2, 1) := by decide +kernel
theorem dX3_panelsWith_2 : decode cX3_panelsWith 2 = .ok (.iconst 0, 1) := by decide +kernel
theorem dX3_panelsWith_3 : decode cX3_panelsWith 3 = .ok (.istore_n 3, 1) := by decide +kernel
theorem dX3_panelsWith_4 : decode cX3_panelsWith 4 = .ok (.iload_n 3, 1) := by decide +kernel
theorem dX3_panelsWith_5 : decode cX3_panelsWith 5 = .ok (.bipush 10, 2) := by decide +kernel
theorem dX3_panelsWith_7 : decode cX3_panelsWith 7 = .ok (.if_icmp .ge 18, 3) := by decide +kernel
theorem dX3_panelsWith_10 : decode cX3_panelsWith 10 = .ok (.iload_n 2, 1) := by decide +kernel
theorem dX3_panelsWith_11 : decode cX3_panelsWith 11 = .ok (.iload_n 0, 1) := by decide +kernel
theorem dX3_panelsWith_12 : decode cX3_panelsWith 12 = .ok (.iload_n 1, 1) := by decide +kernel
theorem dX3_panelsWith_13 : decode cX3_panelsWith 13 = .ok (.iload_n 3, 1) := by decide +kernel
theorem dX3_panelsWith_14 : decode cX3_panelsWith 14 = .ok (.invokestatic 24, 3) := by decide +kernel
theorem dX3_panelsWith_17 : decode cX3_panelsWith 17 = .ok (.iadd, 1) := by decide +kernel
theorem dX3_panelsWith_18 : decode cX3_panelsWith 18 = .ok (.istore_n 2, 1) := by decide +kernel
theorem dX3_panelsWith_19 : decode cX3_panelsWith 19 = .ok (.iinc 3 1, 3) := by decide +kernel
theorem dX3_panelsWith_22 : decode cX3_panelsWith 22 = .ok (.goto (-18), 3) := by decide +kernel
theorem dX3_panelsWith_25 : decode cX3_panelsWith 25 = .ok (.iload_n 2, 1) := by decide +kernel
theorem dX3_panelsWith_26 : decode cX3_panelsWith 26 = .ok (.ireturn, 1) := by decide +kernel
set_option maxRecDepth 20000 in
theorem ggX3_width_X3_placeOf : GoodIn wsX3_width wsX3_placeOf := goodIn_r _ [11] (by decide +kernel) (by decide +kernel)
set_option maxRecDepth 20000 in
theorem gX3_width_X3_placeOf : GoodIn wsX3_width (va_wsS RX3 19 yX3_placeOf wsX3_placeOf) := goodIn_app (goodIn_of _ (by decide +kernel)) ggX3_width_X3_placeOf
theorem dX3_width_0 : decode cX3_width 0 = .ok (.iconst 0, 1) := by decide +kernel
theorem dX3_width_1 : decode cX3_width 1 = .ok (.istore_n 1, 1) := by decide +kernel
theorem dX3_width_2 : decode cX3_width 2 = .ok (.iconst 0, 1) := by decide +kernel
theorem dX3_width_3 : decode cX3_width 3 = .ok (.istore_n 2, 1) := by decide +kernel
theorem dX3_width_4 : decode cX3_width 4 = .ok (.iconst 1, 1) := by decide +kernel
theorem dX3_width_5 : decode cX3_width 5 = .ok (.istore_n 3, 1) := by decide +kernel
theorem dX3_width_6 : decode cX3_width 6 = .ok (.iload_n 3, 1) := by decide +kernel
theorem dX3_width_7 : decode cX3_width 7 = .ok (.bipush 10, 2) := by decide +kernel
theorem dX3_width_9 : decode cX3_width 9 = .ok (.if_icmp .ge 30, 3) := by decide +kernel
theorem dX3_width_12 : decode cX3_width 12 = .ok (.iload_n 0, 1) := by decide +kernel
theorem dX3_width_13 : decode cX3_width 13 = .ok (.iload_n 3, 1) := by decide +kernel
theorem dX3_width_14 : decode cX3_width 14 = .ok (.invokestatic 19, 3) := by decide +kernel
theorem dX3_width_17 : decode cX3_width 17 = .ok (.istore 4, 2) := by decide +kernel
theorem dX3_width_19 : decode cX3_width 19 = .ok (.iload_n 1, 1) := by decide +kernel
theorem dX3_width_20 : decode cX3_width 20 = .ok (.iload 4, 2) := by decide +kernel
theorem dX3_width_22 : decode cX3_width 22 = .ok (.invokestatic 9, 3) := by decide +kernel
theorem dX3_width_25 : decode cX3_width 25 = .ok (.istore_n 1, 1) := by decide +kernel
theorem dX3_width_26 : decode cX3_width 26 = .ok (.iload_n 2, 1) := by decide +kernel
theorem dX3_width_27 : decode cX3_width 27 = .ok (.iload 4, 2) := by decide +kernel
theorem dX3_width_29 : decode cX3_width 29 = .ok (.invokestatic 28, 3) := by decide +kernel
theorem dX3_width_32 : decode cX3_width 32 = .ok (.istore_n 2, 1) := by decide +kernel
theorem dX3_width_33 : decode cX3_width 33 = .ok (.iinc 3 1, 3) := by decide +kernel
theorem dX3_width_36 : decode cX3_width 36 = .ok (.goto (-30), 3) := by decide +kernel
theorem dX3_width_39 : decode cX3_width 39 = .ok (.iload_n 2, 1) := by decide +kernel
theorem dX3_width_40 : decode cX3_width 40 = .ok (.iload_n 1, 1) := by decide +kernel
theorem dX3_width_41 : decode cX3_width 41 = .ok (.isub, 1) := by decide +kernel
theorem dX3_width_42 : decode cX3_width 42 = .ok (.iconst 1, 1) := by decide +kernel
theorem dX3_width_43 : decode cX3_width 43 = .ok (.iadd, 1) := by decide +kernel
theorem dX3_width_44 : decode cX3_width 44 = .ok (.ireturn, 1) := by decide +kernel
theorem dX4_init_0 : decode cX4_init 0 = .ok (.aload_n 0, 1) := by decide +kernel
theorem dX4_init_1 : decode cX4_init 1 = .ok (.invokespecial 3, 3) := by decide +kernel
theorem dX4_init_4 : decode cX4_init 4 = .ok (.aload_n 0, 1) := by decide +kernel
theorem dX4_init_5 : decode cX4_init 5 = .ok (.bipush 60, 2) := by decide +kernel
theorem dX4_init_7 : decode cX4_init 7 = .ok (.newarray .int, 2) := by decide +kernel
theorem dX4_init_9 : decode cX4_init 9 = .ok (.putfield 9, 3) := by decide +kernel
theorem dX4_init_12 : decode cX4_init 12 = .ok (.return_, 1) := by decide +kernel
set_option maxRecDepth 20000 in
theorem ggX5_init_X0_init : GoodIn wsX5_init wsX0_init := goodIn_r _ [12, 13, 2, 3, 4, 14, 15, 16, 26, 27, 28, 29] (by decide +kernel) (by decide +kernel)
set_option maxRecDepth 20000 in
theorem gX5_init_X0_init_n20 : GoodIn wsX5_init (wsX0_init) := ggX5_init_X0_init
theorem dX5_init_0 : decode cX5_init 0 = .ok (.aload_n 0, 1) := by decide +kernel
theorem dX5_init_1 : decode cX5_init 1 = .ok (.invokespecial 3, 3) := by decide +kernel
theorem dX5_init_4 : decode cX5_init 4 = .ok (.aload_n 0, 1) := by decide +kernel
theorem dX5_init_5 : decode cX5_init 5 = .ok (.bipush 9, 2) := by decide +kernel
theorem dX5_init_7 : decode cX5_init 7 = .ok (.newarray .int, 2) := by decide +kernel
theorem dX5_init_9 : decode cX5_init 9 = .ok (.putfield 9, 3) := by decide +kernel
theorem dX5_init_12 : decode cX5_init 12 = .ok (.aload_n 0, 1) := by decide +kernel
theorem dX5_init_13 : decode cX5_init 13 = .ok (.bipush 6, 2) := by decide +kernel
theorem dX5_init_15 : decode cX5_init 15 = .ok (.newarray .int, 2) := by decide +kernel
theorem dX5_init_17 : decode cX5_init 17 = .ok (.putfield 15, 3) := by decide +kernel
theorem dX5_init_20 : decode cX5_init 20 = .ok (.aload_n 0, 1) := by decide +kernel
theorem dX5_init_21 : decode cX5_init 21 = .ok (.new 18, 3) := by decide +kernel
theorem dX5_init_24 : decode cX5_init 24 = .ok (.dup, 1) := by decide +kernel
theorem dX5_init_25 : decode cX5_init 25 = .ok (.invokespecial 20, 3) := by decide +kernel
theorem dX5_init_28 : decode cX5_init 28 = .ok (.putfield 21, 3) := by decide +kernel
theorem dX5_init_31 : decode cX5_init 31 = .ok (.iconst 0, 1) := by decide +kernel
theorem dX5_init_32 : decode cX5_init 32 = .ok (.istore_n 1, 1) := by decide +kernel
theorem dX5_init_33 : decode cX5_init 33 = .ok (.iload_n 1, 1) := by decide +kernel
theorem dX5_init_34 : decode cX5_init 34 = .ok (.bipush 6, 2) := by decide +kernel
theorem dX5_init_36 : decode cX5_init 36 = .ok (.if_icmp .ge 16, 3) := by decide +kernel
theorem dX5_init_39 : decode cX5_init 39 = .ok (.aload_n 0, 1) := by decide +kernel
theorem dX5_init_40 : decode cX5_init 40 = .ok (.getfield 15, 3) := by decide +kernel
theorem dX5_init_43 : decode cX5_init 43 = .ok (.iload_n 1, 1) := by decide +kernel
theorem dX5_init_44 : decode cX5_init 44 = .ok (.iload_n 1, 1) := by decide +kernel
theorem dX5_init_45 : decode cX5_init 45 = .ok (.iastore, 1) := by decide +kernel
theorem dX5_init_46 : decode cX5_init 46 = .ok (.iinc 1 1, 3) := by decide +kernel
theorem dX5_init_49 : decode cX5_init 49 = .ok (.goto (-16), 3) := by decide +kernel
theorem dX5_init_52 : decode cX5_init 52 = .ok (.return_, 1) := by decide +kernel
set_option maxRecDepth 20000 in
theorem ggX5_turn_X0_clear : GoodIn wsX5_turn wsX0_clear := goodIn_r _ [8, 9, 19, 20, 21, 22] (by decide +kernel) (by decide +kernel)
set_option maxRecDepth 20000 in
theorem gX5_turn_X0_clear : GoodIn wsX5_turn (wsV RX5 29 RX0 yX0_clear wsX0_clear) := goodIn_app (goodIn_of _ (by decide +kernel)) ggX5_turn_X0_clear
theorem dX5_turn_0 : decode cX5_turn 0 = .ok (.aload_n 0, 1) := by decide +kernel
theorem dX5_turn_1 : decode cX5_turn 1 = .ok (.dup, 1) := by decide +kernel
theorem dX5_turn_2 : decode cX5_turn 2 = .ok (.getfield 25, 3) := by decide +kernel
theorem dX5_turn_5 : decode cX5_turn 5 = .ok (.iconst 1, 1) := by decide +kernel
theorem dX5_turn_6 : decode cX5_turn 6 = .ok (.iload_n 1, 1) := by decide +kernel
theorem dX5_turn_7 : decode cX5_turn 7 = .ok (.ishl, 1) := by decide +kernel
theorem dX5_turn_8 : decode cX5_turn 8 = .ok (.ixor, 1) := by decide +kernel
theorem dX5_turn_9 : decode cX5_turn 9 = .ok (.putfield 25, 3) := by decide +kernel
theorem dX5_turn_12 : decode cX5_turn 12 = .ok (.aload_n 0, 1) := by decide +kernel
theorem dX5_turn_13 : decode cX5_turn 13 = .ok (.getfield 9, 3) := by decide +kernel
theorem dX5_turn_16 : decode cX5_turn 16 = .ok (.iload_n 1, 1) := by decide +kernel
theorem dX5_turn_17 : decode cX5_turn 17 = .ok (.dup2, 1) := by decide +kernel
theorem dX5_turn_18 : decode cX5_turn 18 = .ok (.iaload, 1) := by decide +kernel
theorem dX5_turn_19 : decode cX5_turn 19 = .ok (.iconst 1, 1) := by decide +kernel
theorem dX5_turn_20 : decode cX5_turn 20 = .ok (.iadd, 1) := by decide +kernel
theorem dX5_turn_21 : decode cX5_turn 21 = .ok (.iastore, 1) := by decide +kernel
theorem dX5_turn_22 : decode cX5_turn 22 = .ok (.aload_n 0, 1) := by decide +kernel
theorem dX5_turn_23 : decode cX5_turn 23 = .ok (.getfield 21, 3) := by decide +kernel
theorem dX5_turn_26 : decode cX5_turn 26 = .ok (.invokevirtual 29, 3) := by decide +kernel
theorem dX5_turn_29 : decode cX5_turn 29 = .ok (.return_, 1) := by decide +kernel
set_option maxRecDepth 20000 in
theorem ggX5_tear_X6_has : GoodIn wsX5_tear wsX6_has := goodIn_r _ [7, 8, 9, 6, 10] (by decide +kernel) (by decide +kernel)
set_option maxRecDepth 20000 in
theorem gX5_tear_X6_has_n32 : GoodIn wsX5_tear (wsX6_has) := ggX5_tear_X6_has
set_option maxRecDepth 20000 in
theorem ggX5_tear_X0_clear : GoodIn wsX5_tear wsX0_clear := goodIn_r _ [15, 16, 33, 34, 35, 36] (by decide +kernel) (by decide +kernel)
set_option maxRecDepth 20000 in
theorem gX5_tear_X0_clear : GoodIn wsX5_tear (wsV RX5 29 RX0 yX0_clear wsX0_clear) := goodIn_app (goodIn_of _ (by decide +kernel)) ggX5_tear_X0_clear
set_option maxRecDepth 20000 in
theorem ggX5_tear_J6_bitCount_0f7a4 : GoodIn wsX5_tear wsJ6_bitCount_0f7a4 := goodIn_r _ [20, 21, 22, 23] (by decide +kernel) (by decide +kernel)
set_option maxRecDepth 20000 in
theorem gX5_tear_J6_bitCount_0f7a4 : GoodIn wsX5_tear (va_wsS RX5 39 yJ6_bitCount_0f7a4 wsJ6_bitCount_0f7a4) := goodIn_app (goodIn_of _ (by decide +kernel)) ggX5_tear_J6_bitCount_0f7a4
theorem dX5_tear_0 : decode cX5_tear 0 = .ok (.iconst 0, 1) := by decide +kernel
theorem dX5_tear_1 : decode cX5_tear 1 = .ok (.istore_n 2, 1) := by decide +kernel
theorem dX5_tear_2 : decode cX5_tear 2 = .ok (.iconst 0, 1) := by decide +kernel
theorem dX5_tear_3 : decode cX5_tear 3 = .ok (.istore_n 3, 1) := by decide +kernel
theorem dX5_tear_4 : decode cX5_tear 4 = .ok (.iload_n 3, 1) := by decide +kernel
theorem dX5_tear_5 : decode cX5_tear 5 = .ok (.bipush 9, 2) := by decide +kernel
theorem dX5_tear_7 : decode cX5_tear 7 = .ok (.if_icmp .ge 36, 3) := by decide +kernel
theorem dX5_tear_10 : decode cX5_tear 10 = .ok (.aload_n 0, 1) := by decide +kernel
theorem dX5_tear_11 : decode cX5_tear 11 = .ok (.getfield 25, 3) := by decide +kernel
theorem dX5_tear_14 : decode cX5_tear 14 = .ok (.iload_n 3, 1) := by decide +kernel
theorem dX5_tear_15 : decode cX5_tear 15 = .ok (.invokestatic 32, 3) := by decide +kernel
theorem dX5_tear_18 : decode cX5_tear 18 = .ok (.ifCond .eq 19, 3) := by decide +kernel
theorem dX5_tear_21 : decode cX5_tear 21 = .ok (.aload_n 0, 1) := by decide +kernel
theorem dX5_tear_22 : decode cX5_tear 22 = .ok (.getfield 9, 3) := by decide +kernel
theorem dX5_tear_25 : decode cX5_tear 25 = .ok (.iload_n 3, 1) := by decide +kernel
theorem dX5_tear_26 : decode cX5_tear 26 = .ok (.iaload, 1) := by decide +kernel
theorem dX5_tear_27 : decode cX5_tear 27 = .ok (.iload_n 1, 1) := by decide +kernel
theorem dX5_tear_28 : decode cX5_tear 28 = .ok (.if_icmp .lt 9, 3) := by decide +kernel
theorem dX5_tear_31 : decode cX5_tear 31 = .ok (.iload_n 2, 1) := by decide +kernel
theorem dX5_tear_32 : decode cX5_tear 32 = .ok (.iconst 1, 1) := by decide +kernel
theorem dX5_tear_33 : decode cX5_tear 33 = .ok (.iload_n 3, 1) := by decide +kernel
theorem dX5_tear_34 : decode cX5_tear 34 = .ok (.ishl, 1) := by decide +kernel
theorem dX5_tear_35 : decode cX5_tear 35 = .ok (.ior, 1) := by decide +kernel
theorem dX5_tear_36 : decode cX5_tear 36 = .ok (.istore_n 2, 1) := by decide +kernel
theorem dX5_tear_37 : decode cX5_tear 37 = .ok (.iinc 3 1, 3) := by decide +kernel
theorem dX5_tear_40 : decode cX5_tear 40 = .ok (.goto (-36), 3) := by decide +kernel
theorem dX5_tear_43 : decode cX5_tear 43 = .ok (.aload_n 0, 1) := by decide +kernel
theorem dX5_tear_44 : decode cX5_tear 44 = .ok (.dup, 1) := by decide +kernel
theorem dX5_tear_45 : decode cX5_tear 45 = .ok (.getfield 25, 3) := by decide +kernel
theorem dX5_tear_48 : decode cX5_tear 48 = .ok (.iload_n 2, 1) := by decide +kernel
theorem dX5_tear_49 : decode cX5_tear 49 = .ok (.iconst (-1), 1) := by decide +kernel
theorem dX5_tear_50 : decode cX5_tear 50 = .ok (.ixor, 1) := by decide +kernel
theorem dX5_tear_51 : decode cX5_tear 51 = .ok (.iand, 1) := by decide +kernel
theorem dX5_tear_52 : decode cX5_tear 52 = .ok (.putfield 25, 3) := by decide +kernel
theorem dX5_tear_55 : decode cX5_tear 55 = .ok (.aload_n 0, 1) := by decide +kernel
theorem dX5_tear_56 : decode cX5_tear 56 = .ok (.dup, 1) := by decide +kernel
theorem dX5_tear_57 : decode cX5_tear 57 = .ok (.getfield 36, 3) := by decide +kernel
theorem dX5_tear_60 : decode cX5_tear 60 = .ok (.iload_n 2, 1) := by decide +kernel
theorem dX5_tear_61 : decode cX5_tear 61 = .ok (.ior, 1) := by decide +kernel
theorem dX5_tear_62 : decode cX5_tear 62 = .ok (.putfield 36, 3) := by decide +kernel
theorem dX5_tear_65 : decode cX5_tear 65 = .ok (.iload_n 2, 1) := by decide +kernel
theorem dX5_tear_66 : decode cX5_tear 66 = .ok (.ifCond .eq 10, 3) := by decide +kernel
theorem dX5_tear_69 : decode cX5_tear 69 = .ok (.aload_n 0, 1) := by decide +kernel
theorem dX5_tear_70 : decode cX5_tear 70 = .ok (.getfield 21, 3) := by decide +kernel
theorem dX5_tear_73 : decode cX5_tear 73 = .ok (.invokevirtual 29, 3) := by decide +kernel
theorem dX5_tear_76 : decode cX5_tear 76 = .ok (.iload_n 2, 1) := by decide +kernel
theorem dX5_tear_77 : decode cX5_tear 77 = .ok (.invokestatic 39, 3) := by decide +kernel
theorem dX5_tear_80 : decode cX5_tear 80 = .ok (.ireturn, 1) := by decide +kernel
set_option maxRecDepth 20000 in
theorem ggX5_takeNewStrip_X0_clear : GoodIn wsX5_takeNewStrip wsX0_clear := goodIn_r _ [9, 10, 20, 21, 22, 23] (by decide +kernel) (by decide +kernel)
set_option maxRecDepth 20000 in
theorem gX5_takeNewStrip_X0_clear : GoodIn wsX5_takeNewStrip (wsV RX5 29 RX0 yX0_clear wsX0_clear) := goodIn_app (goodIn_of _ (by decide +kernel)) ggX5_takeNewStrip_X0_clear
theorem dX5_takeNewStrip_0 : decode cX5_takeNewStrip 0 = .ok (.aload_n 0, 1) := by decide +kernel
theorem dX5_takeNewStrip_1 : decode cX5_takeNewStrip 1 = .ok (.iload_n 1, 1) := by decide +kernel
theorem dX5_takeNewStrip_2 : decode cX5_takeNewStrip 2 = .ok (.putfield 25, 3) := by decide +kernel
theorem dX5_takeNewStrip_5 : decode cX5_takeNewStrip 5 = .ok (.aload_n 0, 1) := by decide +kernel
theorem dX5_takeNewStrip_6 : decode cX5_takeNewStrip 6 = .ok (.iconst 0, 1) := by decide +kernel
theorem dX5_takeNewStrip_7 : decode cX5_takeNewStrip 7 = .ok (.putfield 36, 3) := by decide +kernel
theorem dX5_takeNewStrip_10 : decode cX5_takeNewStrip 10 = .ok (.iconst 0, 1) := by decide +kernel
theorem dX5_takeNewStrip_11 : decode cX5_takeNewStrip 11 = .ok (.istore_n 2, 1) := by decide +kernel
theorem dX5_takeNewStrip_12 : decode cX5_takeNewStrip 12 = .ok (.iload_n 2, 1) := by decide +kernel
theorem dX5_takeNewStrip_13 : decode cX5_takeNewStrip 13 = .ok (.bipush 9, 2) := by decide +kernel
theorem dX5_takeNewStrip_15 : decode cX5_takeNewStrip 15 = .ok (.if_icmp .ge 16, 3) := by decide +kernel
theorem dX5_takeNewStrip_18 : decode cX5_takeNewStrip 18 = .ok (.aload_n 0, 1) := by decide +kernel
theorem dX5_takeNewStrip_19 : decode cX5_takeNewStrip 19 = .ok (.getfield 9, 3) := by decide +kernel
theorem dX5_takeNewStrip_22 : decode cX5_takeNewStrip 22 = .ok (.iload_n 2, 1) := by decide +kernel
theorem dX5_takeNewStrip_23 : decode cX5_takeNewStrip 23 = .ok (.iconst 0, 1) := by decide +kernel
theorem dX5_takeNewStrip_24 : decode cX5_takeNewStrip 24 = .ok (.iastore, 1) := by decide +kernel
theorem dX5_takeNewStrip_25 : decode cX5_takeNewStrip 25 = .ok (.iinc 2 1, 3) := by decide +kernel
theorem dX5_takeNewStrip_28 : decode cX5_takeNewStrip 28 = .ok (.goto (-16), 3) := by decide +kernel
theorem dX5_takeNewStrip_31 : decode cX5_takeNewStrip 31 = .ok (.aload_n 0, 1) := by decide +kernel
theorem dX5_takeNewStrip_32 : decode cX5_takeNewStrip 32 = .ok (.getfield 21, 3) := by decide +kernel
theorem dX5_takeNewStrip_35 : decode cX5_takeNewStrip 35 = .ok (.invokevirtual 29, 3) := by decide +kernel
theorem dX5_takeNewStrip_38 : decode cX5_takeNewStrip 38 = .ok (.return_, 1) := by decide +kernel
theorem dX5_townsOn_0 : decode cX5_townsOn 0 = .ok (.iconst 0, 1) := by decide +kernel
theorem dX5_townsOn_1 : decode cX5_townsOn 1 = .ok (.istore_n 2, 1) := by decide +kernel
theorem dX5_townsOn_2 : decode cX5_townsOn 2 = .ok (.iconst 0, 1) := by decide +kernel
theorem dX5_townsOn_3 : decode cX5_townsOn 3 = .ok (.istore_n 3, 1) := by decide +kernel
theorem dX5_townsOn_4 : decode cX5_townsOn 4 = .ok (.iload_n 3, 1) := by decide +kernel
theorem dX5_townsOn_5 : decode cX5_townsOn 5 = .ok (.bipush 6, 2) := by decide +kernel
theorem dX5_townsOn_7 : decode cX5_townsOn 7 = .ok (.if_icmp .ge 25, 3) := by decide +kernel
theorem dX5_townsOn_10 : decode cX5_townsOn 10 = .ok (.aload_n 0, 1) := by decide +kernel
theorem dX5_townsOn_11 : decode cX5_townsOn 11 = .ok (.getfield 15, 3) := by decide +kernel
theorem dX5_townsOn_14 : decode cX5_townsOn 14 = .ok (.iload_n 3, 1) := by decide +kernel
theorem dX5_townsOn_15 : decode cX5_townsOn 15 = .ok (.iaload, 1) := by decide +kernel
theorem dX5_townsOn_16 : decode cX5_townsOn 16 = .ok (.iload_n 1, 1) := by decide +kernel
theorem dX5_townsOn_17 : decode cX5_townsOn 17 = .ok (.if_icmp .ne 9, 3) := by decide +kernel
theorem dX5_townsOn_20 : decode cX5_townsOn 20 = .ok (.iload_n 2, 1) := by decide +kernel
theorem dX5_townsOn_21 : decode cX5_townsOn 21 = .ok (.iconst 1, 1) := by decide +kernel
theorem dX5_townsOn_22 : decode cX5_townsOn 22 = .ok (.iload_n 3, 1) := by decide +kernel
theorem dX5_townsOn_23 : decode cX5_townsOn 23 = .ok (.ishl, 1) := by decide +kernel
theorem dX5_townsOn_24 : decode cX5_townsOn 24 = .ok (.ior, 1) := by decide +kernel
theorem dX5_townsOn_25 : decode cX5_townsOn 25 = .ok (.istore_n 2, 1) := by decide +kernel
theorem dX5_townsOn_26 : decode cX5_townsOn 26 = .ok (.iinc 3 1, 3) := by decide +kernel
theorem dX5_townsOn_29 : decode cX5_townsOn 29 = .ok (.goto (-25), 3) := by decide +kernel
theorem dX5_townsOn_32 : decode cX5_townsOn 32 = .ok (.iload_n 2, 1) := by decide +kernel
theorem dX5_townsOn_33 : decode cX5_townsOn 33 = .ok (.ireturn, 1) := by decide +kernel
set_option maxRecDepth 20000 in
theorem ggX5_copyFrom_X0_copyFrom : GoodIn wsX5_copyFrom wsX0_copyFrom := goodIn_r _ [18, 19, 20, 5, 6, 7, 21, 22, 23, 33, 34, 35, 36] (by decide +kernel) (by decide +kernel)
set_option maxRecDepth 20000 in
theorem gX5_copyFrom_X0_copyFrom : GoodIn wsX5_copyFrom (wsV RX5 51 RX0 yX0_copyFrom wsX0_copyFrom) := goodIn_app (goodIn_of _ (by decide +kernel)) ggX5_copyFrom_X0_copyFrom
theorem dX5_copyFrom_0 : decode cX5_copyFrom 0 = .ok (.aload_n 0, 1) := by decide +kernel
theorem dX5_copyFrom_1 : decode cX5_copyFrom 1 = .ok (.aload_n 1, 1) := by decide +kernel
theorem dX5_copyFrom_2 : decode cX5_copyFrom 2 = .ok (.getfield 25, 3) := by decide +kernel
theorem dX5_copyFrom_5 : decode cX5_copyFrom 5 = .ok (.putfield 25, 3) := by decide +kernel
theorem dX5_copyFrom_8 : decode cX5_copyFrom 8 = .ok (.aload_n 0, 1) := by decide +kernel
theorem dX5_copyFrom_9 : decode cX5_copyFrom 9 = .ok (.aload_n 1, 1) := by decide +kernel
theorem dX5_copyFrom_10 : decode cX5_copyFrom 10 = .ok (.getfield 36, 3) := by decide +kernel
theorem dX5_copyFrom_13 : decode cX5_copyFrom 13 = .ok (.putfield 36, 3) := by decide +kernel
theorem dX5_copyFrom_16 : decode cX5_copyFrom 16 = .ok (.aload_n 1, 1) := by decide +kernel
theorem dX5_copyFrom_17 : decode cX5_copyFrom 17 = .ok (.getfield 9, 3) := by decide +kernel
theorem dX5_copyFrom_20 : decode cX5_copyFrom 20 = .ok (.iconst 0, 1) := by decide +kernel
theorem dX5_copyFrom_21 : decode cX5_copyFrom 21 = .ok (.aload_n 0, 1) := by decide +kernel
theorem dX5_copyFrom_22 : decode cX5_copyFrom 22 = .ok (.getfield 9, 3) := by decide +kernel
theorem dX5_copyFrom_25 : decode cX5_copyFrom 25 = .ok (.iconst 0, 1) := by decide +kernel
theorem dX5_copyFrom_26 : decode cX5_copyFrom 26 = .ok (.bipush 9, 2) := by decide +kernel
theorem dX5_copyFrom_28 : decode cX5_copyFrom 28 = .ok (.invokestatic 45, 3) := by decide +kernel
theorem dX5_copyFrom_31 : decode cX5_copyFrom 31 = .ok (.aload_n 1, 1) := by decide +kernel
theorem dX5_copyFrom_32 : decode cX5_copyFrom 32 = .ok (.getfield 15, 3) := by decide +kernel
theorem dX5_copyFrom_35 : decode cX5_copyFrom 35 = .ok (.iconst 0, 1) := by decide +kernel
theorem dX5_copyFrom_36 : decode cX5_copyFrom 36 = .ok (.aload_n 0, 1) := by decide +kernel
theorem dX5_copyFrom_37 : decode cX5_copyFrom 37 = .ok (.getfield 15, 3) := by decide +kernel
theorem dX5_copyFrom_40 : decode cX5_copyFrom 40 = .ok (.iconst 0, 1) := by decide +kernel
theorem dX5_copyFrom_41 : decode cX5_copyFrom 41 = .ok (.bipush 6, 2) := by decide +kernel
theorem dX5_copyFrom_43 : decode cX5_copyFrom 43 = .ok (.invokestatic 45, 3) := by decide +kernel
theorem dX5_copyFrom_46 : decode cX5_copyFrom 46 = .ok (.aload_n 0, 1) := by decide +kernel
theorem dX5_copyFrom_47 : decode cX5_copyFrom 47 = .ok (.getfield 21, 3) := by decide +kernel
theorem dX5_copyFrom_50 : decode cX5_copyFrom 50 = .ok (.aload_n 1, 1) := by decide +kernel
theorem dX5_copyFrom_51 : decode cX5_copyFrom 51 = .ok (.getfield 21, 3) := by decide +kernel
theorem dX5_copyFrom_54 : decode cX5_copyFrom 54 = .ok (.invokevirtual 51, 3) := by decide +kernel
theorem dX5_copyFrom_57 : decode cX5_copyFrom 57 = .ok (.aload_n 0, 1) := by decide +kernel
theorem dX5_copyFrom_58 : decode cX5_copyFrom 58 = .ok (.aload_n 1, 1) := by decide +kernel
theorem dX5_copyFrom_59 : decode cX5_copyFrom 59 = .ok (.getfield 55, 3) := by decide +kernel
theorem dX5_copyFrom_62 : decode cX5_copyFrom 62 = .ok (.putfield 55, 3) := by decide +kernel
theorem dX5_copyFrom_65 : decode cX5_copyFrom 65 = .ok (.aload_n 0, 1) := by decide +kernel
theorem dX5_copyFrom_66 : decode cX5_copyFrom 66 = .ok (.aload_n 1, 1) := by decide +kernel
theorem dX5_copyFrom_67 : decode cX5_copyFrom 67 = .ok (.getfield 58, 3) := by decide +kernel
theorem dX5_copyFrom_70 : decode cX5_copyFrom 70 = .ok (.putfield 58, 3) := by decide +kernel
theorem dX5_copyFrom_73 : decode cX5_copyFrom 73 = .ok (.aload_n 0, 1) := by decide +kernel
theorem dX5_copyFrom_74 : decode cX5_copyFrom 74 = .ok (.aload_n 1, 1) := by decide +kernel
theorem dX5_copyFrom_75 : decode cX5_copyFrom 75 = .ok (.getfield 61, 3) := by decide +kernel
theorem dX5_copyFrom_78 : decode cX5_copyFrom 78 = .ok (.putfield 61, 3) := by decide +kernel
theorem dX5_copyFrom_81 : decode cX5_copyFrom 81 = .ok (.aload_n 0, 1) := by decide +kernel
theorem dX5_copyFrom_82 : decode cX5_copyFrom 82 = .ok (.aload_n 1, 1) := by decide +kernel
theorem dX5_copyFrom_83 : decode cX5_copyFrom 83 = .ok (.getfield 64, 3) := by decide +kernel
theorem dX5_copyFrom_86 : decode cX5_copyFrom 86 = .ok (.putfield 64, 3) := by decide +kernel
theorem dX5_copyFrom_89 : decode cX5_copyFrom 89 = .ok (.return_, 1) := by decide +kernel
set_option maxRecDepth 20000 in
theorem ggX6_init_X5_init : GoodIn wsX6_init wsX5_init := goodIn_r _ [23, 24, 2, 3, 25, 26, 27, 28, 29, 30, 31, 32, 33, 34, 35, 36, 37, 53, 54, 55, 56, 57, 58, 59, 60, 61, 74, 75, 76, 77] (by decide +kernel) (by decide +kernel)
set_option maxRecDepth 20000 in
theorem gX6_init_X5_init : GoodIn wsX6_init (wsX5_init) := ggX6_init_X5_init
set_option maxRecDepth 20000 in
theorem ggX6_init_X2_init : GoodIn wsX6_init wsX2_init := goodIn_r _ [40, 41, 2, 3, 42, 43, 5, 6, 44, 22, 23, 24, 25, 26, 27, 28, 29, 30, 31, 32, 33, 34, 35, 36, 37, 67, 68, 53, 54, 55, 56, 57, 58, 59, 60, 61, 74, 75, 76, 77] (by decide +kernel) (by decide +kernel)
set_option maxRecDepth 20000 in
theorem gX6_init_X2_init : GoodIn wsX6_init (wsX2_init) := ggX6_init_X2_init
set_option maxRecDepth 20000 in
theorem ggX6_init_X4_init : GoodIn wsX6_init wsX4_init := goodIn_r _ [46, 47, 2, 3, 25, 48, 69, 70] (by decide +kernel) (by decide +kernel)
set_option maxRecDepth 20000 in
theorem gX6_init_X4_init_n29 : GoodIn wsX6_init (wsX4_init) := ggX6_init_X4_init
set_option maxRecDepth 20000 in
theorem ggX6_init_X1_init : GoodIn wsX6_init wsX1_init := goodIn_r _ [50, 51, 2, 3, 25, 52, 71, 72, 73] (by decide +kernel) (by decide +kernel)
set_option maxRecDepth 20000 in
theorem gX6_init_X1_init_n36 : GoodIn wsX6_init (wsX1_init) := ggX6_init_X1_init
